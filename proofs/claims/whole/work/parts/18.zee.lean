/-! ===== the pure machine, an instruction a word: for rewriting ===== -/
section ZEE
variable {M N : pmM} {cc : ByteArray} {pc nx t : Nat} {L R' : pmL} {S R : List Value} {g : pmH}
theorem pm_at {i : Instr} {n : Nat} (hc0 : M.2.2.1 = cc) (hd : decode cc pc = .ok (i, n)) (hn : n = pmIL i ∨ pmIL i = 0) : pmV M pc L S g = pmU M g (pmI M pc L S g i) := by
  rw [pmV_step]
  unfold pmS
  rw [hc0, hd]
  simp only
  rw [if_pos hn]
theorem pmU_ite {c : Prop} [h : Decidable c] {a b : Option pmR} : pmU M g (if c then a else b) = if c then pmU M g a else pmU M g b := by split <;> rfl
theorem pmU_bind {α : Type} {x : Option α} {f : α → Option pmR} : pmU M g (x.bind f) = x.bind (fun y => pmU M g (f y)) := by cases x <;> rfl
noncomputable def zNx (M : pmM) (nx : Nat) (L : pmL) (S : List Value) (g : pmH) : Option (Option Value × pmH) := pmV M nx L S g
noncomputable def zLdI (M : pmM) (nx : Nat) (i : Nat) (L : pmL) (S : List Value) (g : pmH) : Option (Option Value × pmH) := match pmLd L i with
  | some (.int x) => pmV M nx L (.int x :: S) g
  | _ => none
theorem zLdI_eq {i : Nat} {x : Int32} (h : pmLd L i = some (.int x)) : zLdI M nx i L S g = pmV M nx L (.int x :: S) g := by unfold zLdI; rw [h]
noncomputable def zLdJ (M : pmM) (nx : Nat) (i : Nat) (L : pmL) (S : List Value) (g : pmH) : Option (Option Value × pmH) := match pmLd L i with
  | some (.long x) => pmV M nx L (.long x :: S) g
  | _ => none
theorem zLdJ_eq {i : Nat} {x : Int64} (h : pmLd L i = some (.long x)) : zLdJ M nx i L S g = pmV M nx L (.long x :: S) g := by unfold zLdJ; rw [h]
noncomputable def zLdA (M : pmM) (nx : Nat) (i : Nat) (L : pmL) (S : List Value) (g : pmH) : Option (Option Value × pmH) := match pmLd L i with
  | some (.ref x) => pmV M nx L (.ref x :: S) g
  | _ => none
theorem zLdA_eq {i : Nat} {x : Nat} (h : pmLd L i = some (.ref x)) : zLdA M nx i L S g = pmV M nx L (.ref x :: S) g := by unfold zLdA; rw [h]
noncomputable def zPush (M : pmM) (nx : Nat) (v : Value) (L : pmL) (S : List Value) (g : pmH) : Option (Option Value × pmH) := pmV M nx L (v :: S) g
noncomputable def zStI (M : pmM) (nx : Nat) (i : Nat) (L : pmL) (S : List Value) (g : pmH) : Option (Option Value × pmH) := match S with
  | .int x :: R => (pmS1 L i (.int x)).bind (fun L1 => pmV M nx L1 R g)
  | _ => none
theorem zStI_eq {i : Nat} {x : Int32} (h : pmS1 L i (.int x) = some R') : zStI M nx i L (.int x :: R) g = pmV M nx R' R g := by
  show (pmS1 L i (.int x)).bind _ = _
  rw [h]
  rfl
noncomputable def zStA (M : pmM) (nx : Nat) (i : Nat) (L : pmL) (S : List Value) (g : pmH) : Option (Option Value × pmH) := match S with
  | .ref x :: R => (pmS1 L i (.ref x)).bind (fun L1 => pmV M nx L1 R g)
  | _ => none
theorem zStA_eq {i : Nat} {x : Nat} (h : pmS1 L i (.ref x) = some R') : zStA M nx i L (.ref x :: R) g = pmV M nx R' R g := by
  show (pmS1 L i (.ref x)).bind _ = _
  rw [h]
  rfl
noncomputable def zStJ (M : pmM) (nx : Nat) (i : Nat) (L : pmL) (S : List Value) (g : pmH) : Option (Option Value × pmH) := match S with
  | .long x :: R => (pmS2 L i (.long x)).bind (fun L1 => pmV M nx L1 R g)
  | _ => none
theorem zStJ_eq {i : Nat} {x : Int64} (h : pmS2 L i (.long x) = some R') : zStJ M nx i L (.long x :: R) g = pmV M nx R' R g := by
  show (pmS2 L i (.long x)).bind _ = _
  rw [h]
  rfl
noncomputable def zInc (M : pmM) (nx : Nat) (i : Nat) (d : Int32) (L : pmL) (S : List Value) (g : pmH) : Option (Option Value × pmH) := match pmLd L i with
  | some (.int x) => (pmS1 L i (.int (x + d))).bind (fun L1 => pmV M nx L1 S g)
  | _ => none
theorem zInc_eq {i : Nat} {d x : Int32} (h : pmLd L i = some (.int x)) (h2 : pmS1 L i (.int (x + d)) = some R') : zInc M nx i d L S g = pmV M nx R' S g := by
  unfold zInc
  rw [h]
  show (pmS1 L i (.int (x + d))).bind _ = _
  rw [h2]
  rfl
noncomputable def zAdd (M : pmM) (nx : Nat) (L : pmL) (S : List Value) (g : pmH) : Option (Option Value × pmH) := match S with
  | .int y :: .int x :: R => pmV M nx L (.int (x + y) :: R) g
  | _ => none
theorem zAdd_eq {x : Int32} {y : Int32} : zAdd M nx L (.int y :: .int x :: R) g = pmV M nx L (.int (x + y) :: R) g := rfl
noncomputable def zSub (M : pmM) (nx : Nat) (L : pmL) (S : List Value) (g : pmH) : Option (Option Value × pmH) := match S with
  | .int y :: .int x :: R => pmV M nx L (.int (x - y) :: R) g
  | _ => none
theorem zSub_eq {x : Int32} {y : Int32} : zSub M nx L (.int y :: .int x :: R) g = pmV M nx L (.int (x - y) :: R) g := rfl
noncomputable def zMul (M : pmM) (nx : Nat) (L : pmL) (S : List Value) (g : pmH) : Option (Option Value × pmH) := match S with
  | .int y :: .int x :: R => pmV M nx L (.int (x * y) :: R) g
  | _ => none
theorem zMul_eq {x : Int32} {y : Int32} : zMul M nx L (.int y :: .int x :: R) g = pmV M nx L (.int (x * y) :: R) g := rfl
noncomputable def zAnd (M : pmM) (nx : Nat) (L : pmL) (S : List Value) (g : pmH) : Option (Option Value × pmH) := match S with
  | .int y :: .int x :: R => pmV M nx L (.int (x &&& y) :: R) g
  | _ => none
theorem zAnd_eq {x : Int32} {y : Int32} : zAnd M nx L (.int y :: .int x :: R) g = pmV M nx L (.int (x &&& y) :: R) g := rfl
noncomputable def zOr (M : pmM) (nx : Nat) (L : pmL) (S : List Value) (g : pmH) : Option (Option Value × pmH) := match S with
  | .int y :: .int x :: R => pmV M nx L (.int (x ||| y) :: R) g
  | _ => none
theorem zOr_eq {x : Int32} {y : Int32} : zOr M nx L (.int y :: .int x :: R) g = pmV M nx L (.int (x ||| y) :: R) g := rfl
noncomputable def zXor (M : pmM) (nx : Nat) (L : pmL) (S : List Value) (g : pmH) : Option (Option Value × pmH) := match S with
  | .int y :: .int x :: R => pmV M nx L (.int (x ^^^ y) :: R) g
  | _ => none
theorem zXor_eq {x : Int32} {y : Int32} : zXor M nx L (.int y :: .int x :: R) g = pmV M nx L (.int (x ^^^ y) :: R) g := rfl
noncomputable def zShl (M : pmM) (nx : Nat) (L : pmL) (S : List Value) (g : pmH) : Option (Option Value × pmH) := match S with
  | .int y :: .int x :: R => pmV M nx L (.int (x <<< (y &&& 31)) :: R) g
  | _ => none
theorem zShl_eq {x : Int32} {y : Int32} : zShl M nx L (.int y :: .int x :: R) g = pmV M nx L (.int (x <<< (y &&& 31)) :: R) g := rfl
noncomputable def zShr (M : pmM) (nx : Nat) (L : pmL) (S : List Value) (g : pmH) : Option (Option Value × pmH) := match S with
  | .int y :: .int x :: R => pmV M nx L (.int (x >>> (y &&& 31)) :: R) g
  | _ => none
theorem zShr_eq {x : Int32} {y : Int32} : zShr M nx L (.int y :: .int x :: R) g = pmV M nx L (.int (x >>> (y &&& 31)) :: R) g := rfl
noncomputable def zUshr (M : pmM) (nx : Nat) (L : pmL) (S : List Value) (g : pmH) : Option (Option Value × pmH) := match S with
  | .int y :: .int x :: R => pmV M nx L (.int ((x.toUInt32 >>> (y.toUInt32 &&& Int32.toUInt32 31)).toInt32) :: R) g
  | _ => none
theorem zUshr_eq {x : Int32} {y : Int32} : zUshr M nx L (.int y :: .int x :: R) g = pmV M nx L (.int ((x.toUInt32 >>> (y.toUInt32 &&& Int32.toUInt32 31)).toInt32) :: R) g := rfl
noncomputable def zJAdd (M : pmM) (nx : Nat) (L : pmL) (S : List Value) (g : pmH) : Option (Option Value × pmH) := match S with
  | .long y :: .long x :: R => pmV M nx L (.long (x + y) :: R) g
  | _ => none
theorem zJAdd_eq {x : Int64} {y : Int64} : zJAdd M nx L (.long y :: .long x :: R) g = pmV M nx L (.long (x + y) :: R) g := rfl
noncomputable def zJSub (M : pmM) (nx : Nat) (L : pmL) (S : List Value) (g : pmH) : Option (Option Value × pmH) := match S with
  | .long y :: .long x :: R => pmV M nx L (.long (x - y) :: R) g
  | _ => none
theorem zJSub_eq {x : Int64} {y : Int64} : zJSub M nx L (.long y :: .long x :: R) g = pmV M nx L (.long (x - y) :: R) g := rfl
noncomputable def zJMul (M : pmM) (nx : Nat) (L : pmL) (S : List Value) (g : pmH) : Option (Option Value × pmH) := match S with
  | .long y :: .long x :: R => pmV M nx L (.long (x * y) :: R) g
  | _ => none
theorem zJMul_eq {x : Int64} {y : Int64} : zJMul M nx L (.long y :: .long x :: R) g = pmV M nx L (.long (x * y) :: R) g := rfl
noncomputable def zJAnd (M : pmM) (nx : Nat) (L : pmL) (S : List Value) (g : pmH) : Option (Option Value × pmH) := match S with
  | .long y :: .long x :: R => pmV M nx L (.long (x &&& y) :: R) g
  | _ => none
theorem zJAnd_eq {x : Int64} {y : Int64} : zJAnd M nx L (.long y :: .long x :: R) g = pmV M nx L (.long (x &&& y) :: R) g := rfl
noncomputable def zJOr (M : pmM) (nx : Nat) (L : pmL) (S : List Value) (g : pmH) : Option (Option Value × pmH) := match S with
  | .long y :: .long x :: R => pmV M nx L (.long (x ||| y) :: R) g
  | _ => none
theorem zJOr_eq {x : Int64} {y : Int64} : zJOr M nx L (.long y :: .long x :: R) g = pmV M nx L (.long (x ||| y) :: R) g := rfl
noncomputable def zJShl (M : pmM) (nx : Nat) (L : pmL) (S : List Value) (g : pmH) : Option (Option Value × pmH) := match S with
  | .int y :: .long x :: R => pmV M nx L (.long (x <<< (y.toInt64 &&& 63)) :: R) g
  | _ => none
theorem zJShl_eq {x : Int64} {y : Int32} : zJShl M nx L (.int y :: .long x :: R) g = pmV M nx L (.long (x <<< (y.toInt64 &&& 63)) :: R) g := rfl
noncomputable def zJUshr (M : pmM) (nx : Nat) (L : pmL) (S : List Value) (g : pmH) : Option (Option Value × pmH) := match S with
  | .int y :: .long x :: R => pmV M nx L (.long ((x.toUInt64 >>> (y.toInt64.toUInt64 &&& Int64.toUInt64 63)).toInt64) :: R) g
  | _ => none
theorem zJUshr_eq {x : Int64} {y : Int32} : zJUshr M nx L (.int y :: .long x :: R) g = pmV M nx L (.long ((x.toUInt64 >>> (y.toInt64.toUInt64 &&& Int64.toUInt64 63)).toInt64) :: R) g := rfl
noncomputable def zDiv (M : pmM) (nx : Nat) (L : pmL) (S : List Value) (g : pmH) : Option (Option Value × pmH) := match S with
  | .int y :: .int x :: R => if y = 0 then none else pmV M nx L (.int (x / y) :: R) g
  | _ => none
theorem zDiv_eq {x y : Int32} (h : ¬ y = 0) : zDiv M nx L (.int y :: .int x :: R) g = pmV M nx L (.int (x / y) :: R) g := if_neg h
noncomputable def zRem (M : pmM) (nx : Nat) (L : pmL) (S : List Value) (g : pmH) : Option (Option Value × pmH) := match S with
  | .int y :: .int x :: R => if y = 0 then none else pmV M nx L (.int (x - x / y * y) :: R) g
  | _ => none
theorem zRem_eq {x y : Int32} (h : ¬ y = 0) : zRem M nx L (.int y :: .int x :: R) g = pmV M nx L (.int (x - x / y * y) :: R) g := if_neg h
noncomputable def zJDiv (M : pmM) (nx : Nat) (L : pmL) (S : List Value) (g : pmH) : Option (Option Value × pmH) := match S with
  | .long y :: .long x :: R => if y = 0 then none else pmV M nx L (.long (x / y) :: R) g
  | _ => none
theorem zJDiv_eq {x y : Int64} (h : ¬ y = 0) : zJDiv M nx L (.long y :: .long x :: R) g = pmV M nx L (.long (x / y) :: R) g := if_neg h
noncomputable def zJRem (M : pmM) (nx : Nat) (L : pmL) (S : List Value) (g : pmH) : Option (Option Value × pmH) := match S with
  | .long y :: .long x :: R => if y = 0 then none else pmV M nx L (.long (x - x / y * y) :: R) g
  | _ => none
theorem zJRem_eq {x y : Int64} (h : ¬ y = 0) : zJRem M nx L (.long y :: .long x :: R) g = pmV M nx L (.long (x - x / y * y) :: R) g := if_neg h
noncomputable def zNeg (M : pmM) (nx : Nat) (L : pmL) (S : List Value) (g : pmH) : Option (Option Value × pmH) := match S with
  | .int x :: R => pmV M nx L (.int (-x) :: R) g
  | _ => none
theorem zNeg_eq {x : Int32} : zNeg M nx L (.int x :: R) g = pmV M nx L (.int (-x) :: R) g := rfl
noncomputable def zI2l (M : pmM) (nx : Nat) (L : pmL) (S : List Value) (g : pmH) : Option (Option Value × pmH) := match S with
  | .int x :: R => pmV M nx L (.long (x.toInt64) :: R) g
  | _ => none
theorem zI2l_eq {x : Int32} : zI2l M nx L (.int x :: R) g = pmV M nx L (.long (x.toInt64) :: R) g := rfl
noncomputable def zL2i (M : pmM) (nx : Nat) (L : pmL) (S : List Value) (g : pmH) : Option (Option Value × pmH) := match S with
  | .long x :: R => pmV M nx L (.int (x.toInt32) :: R) g
  | _ => none
theorem zL2i_eq {x : Int64} : zL2i M nx L (.long x :: R) g = pmV M nx L (.int (x.toInt32) :: R) g := rfl
noncomputable def zLcmp (M : pmM) (nx : Nat) (L : pmL) (S : List Value) (g : pmH) : Option (Option Value × pmH) := match S with
  | .long y :: .long x :: R => pmV M nx L (.int (lg_cmp x y) :: R) g
  | _ => none
theorem zLcmp_eq {x y : Int64} : zLcmp M nx L (.long y :: .long x :: R) g = pmV M nx L (.int (lg_cmp x y) :: R) g := rfl
noncomputable def zDup (M : pmM) (nx : Nat) (L : pmL) (S : List Value) (g : pmH) : Option (Option Value × pmH) := match S with
  | v :: R => if v.category = 1 then pmV M nx L (v :: v :: R) g else none
  | _ => none
theorem zDup_i {x : Int32} : zDup M nx L (.int x :: R) g = pmV M nx L (.int x :: .int x :: R) g := rfl
theorem zDup_a {x : Nat} : zDup M nx L (.ref x :: R) g = pmV M nx L (.ref x :: .ref x :: R) g := rfl
noncomputable def zDup2 (M : pmM) (nx : Nat) (L : pmL) (S : List Value) (g : pmH) : Option (Option Value × pmH) := match S with
  | v :: w :: R => if v.category = 1 ∧ w.category = 1 then pmV M nx L (v :: w :: v :: w :: R) g else none
  | _ => none
theorem zDup2_ia {x : Int32} {y : Nat} : zDup2 M nx L (.int x :: .ref y :: R) g = pmV M nx L (.int x :: .ref y :: .int x :: .ref y :: R) g := by
  unfold zDup2
  exact if_pos ⟨rfl, rfl⟩
noncomputable def zPop (M : pmM) (nx : Nat) (L : pmL) (S : List Value) (g : pmH) : Option (Option Value × pmH) := match S with
  | v :: R => if v.category = 1 then pmV M nx L R g else none
  | _ => none
theorem zPop_i {x : Int32} : zPop M nx L (.int x :: R) g = pmV M nx L R g := rfl
noncomputable def zBeq (M : pmM) (nx : Nat) (t : Nat) (L : pmL) (S : List Value) (g : pmH) : Option (Option Value × pmH) := match S with
  | .int y :: .int x :: R => if x = y then pmV M t L R g else pmV M nx L R g
  | _ => none
theorem zBeq_eq {x y : Int32} : zBeq M nx t L (.int y :: .int x :: R) g = if x = y then pmV M t L R g else pmV M nx L R g := rfl
noncomputable def zCeq (M : pmM) (nx : Nat) (t : Nat) (L : pmL) (S : List Value) (g : pmH) : Option (Option Value × pmH) := match S with
  | .int x :: R => if x = nI 0 then pmV M t L R g else pmV M nx L R g
  | _ => none
theorem zCeq_eq {x : Int32} : zCeq M nx t L (.int x :: R) g = if x = nI 0 then pmV M t L R g else pmV M nx L R g := rfl
noncomputable def zBne (M : pmM) (nx : Nat) (t : Nat) (L : pmL) (S : List Value) (g : pmH) : Option (Option Value × pmH) := match S with
  | .int y :: .int x :: R => if ¬ x = y then pmV M t L R g else pmV M nx L R g
  | _ => none
theorem zBne_eq {x y : Int32} : zBne M nx t L (.int y :: .int x :: R) g = if ¬ x = y then pmV M t L R g else pmV M nx L R g := rfl
noncomputable def zCne (M : pmM) (nx : Nat) (t : Nat) (L : pmL) (S : List Value) (g : pmH) : Option (Option Value × pmH) := match S with
  | .int x :: R => if ¬ x = nI 0 then pmV M t L R g else pmV M nx L R g
  | _ => none
theorem zCne_eq {x : Int32} : zCne M nx t L (.int x :: R) g = if ¬ x = nI 0 then pmV M t L R g else pmV M nx L R g := rfl
noncomputable def zBlt (M : pmM) (nx : Nat) (t : Nat) (L : pmL) (S : List Value) (g : pmH) : Option (Option Value × pmH) := match S with
  | .int y :: .int x :: R => if x < y then pmV M t L R g else pmV M nx L R g
  | _ => none
theorem zBlt_eq {x y : Int32} : zBlt M nx t L (.int y :: .int x :: R) g = if x < y then pmV M t L R g else pmV M nx L R g := rfl
noncomputable def zClt (M : pmM) (nx : Nat) (t : Nat) (L : pmL) (S : List Value) (g : pmH) : Option (Option Value × pmH) := match S with
  | .int x :: R => if x < nI 0 then pmV M t L R g else pmV M nx L R g
  | _ => none
theorem zClt_eq {x : Int32} : zClt M nx t L (.int x :: R) g = if x < nI 0 then pmV M t L R g else pmV M nx L R g := rfl
noncomputable def zBge (M : pmM) (nx : Nat) (t : Nat) (L : pmL) (S : List Value) (g : pmH) : Option (Option Value × pmH) := match S with
  | .int y :: .int x :: R => if y ≤ x then pmV M t L R g else pmV M nx L R g
  | _ => none
theorem zBge_eq {x y : Int32} : zBge M nx t L (.int y :: .int x :: R) g = if y ≤ x then pmV M t L R g else pmV M nx L R g := rfl
noncomputable def zCge (M : pmM) (nx : Nat) (t : Nat) (L : pmL) (S : List Value) (g : pmH) : Option (Option Value × pmH) := match S with
  | .int x :: R => if nI 0 ≤ x then pmV M t L R g else pmV M nx L R g
  | _ => none
theorem zCge_eq {x : Int32} : zCge M nx t L (.int x :: R) g = if nI 0 ≤ x then pmV M t L R g else pmV M nx L R g := rfl
noncomputable def zBgt (M : pmM) (nx : Nat) (t : Nat) (L : pmL) (S : List Value) (g : pmH) : Option (Option Value × pmH) := match S with
  | .int y :: .int x :: R => if y < x then pmV M t L R g else pmV M nx L R g
  | _ => none
theorem zBgt_eq {x y : Int32} : zBgt M nx t L (.int y :: .int x :: R) g = if y < x then pmV M t L R g else pmV M nx L R g := rfl
noncomputable def zCgt (M : pmM) (nx : Nat) (t : Nat) (L : pmL) (S : List Value) (g : pmH) : Option (Option Value × pmH) := match S with
  | .int x :: R => if nI 0 < x then pmV M t L R g else pmV M nx L R g
  | _ => none
theorem zCgt_eq {x : Int32} : zCgt M nx t L (.int x :: R) g = if nI 0 < x then pmV M t L R g else pmV M nx L R g := rfl
noncomputable def zBle (M : pmM) (nx : Nat) (t : Nat) (L : pmL) (S : List Value) (g : pmH) : Option (Option Value × pmH) := match S with
  | .int y :: .int x :: R => if x ≤ y then pmV M t L R g else pmV M nx L R g
  | _ => none
theorem zBle_eq {x y : Int32} : zBle M nx t L (.int y :: .int x :: R) g = if x ≤ y then pmV M t L R g else pmV M nx L R g := rfl
noncomputable def zCle (M : pmM) (nx : Nat) (t : Nat) (L : pmL) (S : List Value) (g : pmH) : Option (Option Value × pmH) := match S with
  | .int x :: R => if x ≤ nI 0 then pmV M t L R g else pmV M nx L R g
  | _ => none
theorem zCle_eq {x : Int32} : zCle M nx t L (.int x :: R) g = if x ≤ nI 0 then pmV M t L R g else pmV M nx L R g := rfl
noncomputable def zTab (M : pmM) (nx : Nat) (d lo hi : Int) (os : Array Int) (L : pmL) (S : List Value) (g : pmH) : Option (Option Value × pmH) := pmU M g (pmTab nx d lo hi os L S g)
noncomputable def zLook (M : pmM) (nx : Nat) (d : Int) (ps : Array (Int × Int)) (L : pmL) (S : List Value) (g : pmH) : Option (Option Value × pmH) := pmU M g (pmLook nx d ps L S g)
noncomputable def zGet (M : pmM) (nx : Nat) (ci k : Nat) (L : pmL) (S : List Value) (g : pmH) : Option (Option Value × pmH) := match S with
  | .ref a :: R => match g[a]? with
    | some (.inr (c, fs)) => if c = ci ∧ 3 ≤ a ∧ k < pmNF ci then (fs[k]?).bind (fun v => pmV M nx L (v :: R) g) else none
    | _ => none
  | _ => none
noncomputable def zPut (M : pmM) (nx : Nat) (ci k : Nat) (L : pmL) (S : List Value) (g : pmH) : Option (Option Value × pmH) := match S with
  | v :: .ref a :: R => match g[a]? with
    | some (.inr (c, fs)) => if c = ci ∧ 3 ≤ a ∧ k < pmNF ci ∧ k < fs.length ∧ pmFit (pmTy ci k) v = true ∧ ((pmTX ci k).2.2.2 = false ∨ (M.1.name = "<init>" ∧ M.2.1 = ci)) then pmV M nx L R (g.set a (.inr (ci, fs.set k v))) else none
    | _ => none
  | _ => none
noncomputable def zIald (M : pmM) (nx : Nat) (L : pmL) (S : List Value) (g : pmH) : Option (Option Value × pmH) := match S with
  | .int i :: .ref a :: R => match g[a]? with
    | some (.inl (t, n, .inl f)) => if t = 0 ∧ pmIn i n = true then pmV M nx L (.int (f i.toNatClampNeg) :: R) g else none
    | _ => none
  | _ => none
noncomputable def zBald (M : pmM) (nx : Nat) (L : pmL) (S : List Value) (g : pmH) : Option (Option Value × pmH) := match S with
  | .int i :: .ref a :: R => match g[a]? with
    | some (.inl (t, n, .inl f)) => if t = 1 ∧ 3 ≤ a ∧ pmIn i n = true then pmV M nx L (.int (f i.toNatClampNeg) :: R) g else none
    | _ => none
  | _ => none
noncomputable def zLald (M : pmM) (nx : Nat) (L : pmL) (S : List Value) (g : pmH) : Option (Option Value × pmH) := match S with
  | .int i :: .ref a :: R => match g[a]? with
    | some (.inl (t, n, .inr (.inl f))) => if t = 4 ∧ a = 2 ∧ pmIn i n = true then pmV M nx L (.long (f i.toNatClampNeg) :: R) g else none
    | _ => none
  | _ => none
noncomputable def zAald (M : pmM) (nx : Nat) (L : pmL) (S : List Value) (g : pmH) : Option (Option Value × pmH) := match S with
  | .int i :: .ref a :: R => match g[a]? with
    | some (.inl (t, n, .inr (.inr (.inr (.inr f))))) => if (t = 2 ∨ t = 3) ∧ 3 ≤ a ∧ pmIn i n = true then pmV M nx L (va_rf (f i.toNatClampNeg) :: R) g else none
    | _ => none
  | _ => none
noncomputable def zIast (M : pmM) (nx : Nat) (L : pmL) (S : List Value) (g : pmH) : Option (Option Value × pmH) := match S with
  | .int x :: .int i :: .ref a :: R => match g[a]? with
    | some (.inl (t, n, .inl f)) => if t = 0 ∧ 3 ≤ a ∧ pmIn i n = true then pmV M nx L R (g.set a (.inl (0, n, .inl (upd f i.toNatClampNeg x)))) else none
    | _ => none
  | _ => none
noncomputable def zBast (M : pmM) (nx : Nat) (L : pmL) (S : List Value) (g : pmH) : Option (Option Value × pmH) := match S with
  | .int x :: .int i :: .ref a :: R => match g[a]? with
    | some (.inl (t, n, .inl f)) => if t = 1 ∧ 3 ≤ a ∧ pmIn i n = true then pmV M nx L R (g.set a (.inl (1, n, .inl (upd f i.toNatClampNeg (vp_nar .boolean x))))) else none
    | _ => none
  | _ => none
noncomputable def zAast (M : pmM) (nx : Nat) (L : pmL) (S : List Value) (g : pmH) : Option (Option Value × pmH) := match S with
  | .ref v :: .int i :: .ref a :: R => match g[a]?, g[v]? with
    | some (.inl (t, n, .inr (.inr (.inr (.inr f))))), some (.inr (c, _)) => if ((t = 2 ∧ c = 10) ∨ (t = 3 ∧ c = 1)) ∧ 3 ≤ a ∧ 3 ≤ v ∧ pmIn i n = true then pmV M nx L R (g.set a (.inl (t, n, .inr (.inr (.inr (.inr (va_up f i.toNatClampNeg (some v)))))))) else none
    | _, _ => none
  | _ => none
noncomputable def zLen (M : pmM) (nx : Nat) (L : pmL) (S : List Value) (g : pmH) : Option (Option Value × pmH) := match S with
  | .ref a :: R => match g[a]? with
    | some (.inl (t, n, .inl _)) => if t = 0 ∧ (a = 0 ∨ 3 ≤ a) then pmV M nx L (.int (nI n) :: R) g else none
    | _ => none
  | _ => none
noncomputable def zNewA (M : pmM) (nx : Nat) (t : Nat) (L : pmL) (S : List Value) (g : pmH) : Option (Option Value × pmH) := match S with
  | .int n :: R => if ¬ n < 0 ∧ n.toNatClampNeg ≤ 1000 then pmV M nx L (.ref g.length :: R) (g ++ [.inl (t, n.toNatClampNeg, .inl (fun _ => 0))]) else none
  | _ => none
noncomputable def zNewQ (M : pmM) (nx : Nat) (t : Nat) (L : pmL) (S : List Value) (g : pmH) : Option (Option Value × pmH) := match S with
  | .int n :: R => if ¬ n < 0 ∧ n.toNatClampNeg ≤ 1000 then pmV M nx L (.ref g.length :: R) (g ++ [.inl (t, n.toNatClampNeg, .inr (.inr (.inr (.inr (fun _ => none)))))]) else none
  | _ => none
noncomputable def zNew (M : pmM) (nx : Nat) (ci : Nat) (L : pmL) (S : List Value) (g : pmH) : Option (Option Value × pmH) := pmV M nx L (.ref g.length :: S) (g ++ [.inr (ci, pmDef ci)])
noncomputable def zObj (M : pmM) (nx : Nat) (L : pmL) (S : List Value) (g : pmH) : Option (Option Value × pmH) := match S with
  | .ref _ :: R => if R.length ≤ 4 then pmV M nx L R g else none
  | _ => none
theorem zObj_eq {a : Nat} (h : R.length ≤ 4) : zObj M nx L (.ref a :: R) g = pmV M nx L R g := if_pos h
noncomputable def zCall (M : pmM) (nx : Nat) (k : Nat) (N : pmM) (L : pmL) (S : List Value) (g : pmH) : Option (Option Value × pmH) := if k ≤ S.length ∧ (S.drop k).length ≤ 4 ∧ N.2.2.2.2.2 < M.2.2.2.2.2 ∧ (pmSl (S.take k).reverse).length ≤ N.2.2.2.1 then (pmV N 0 (pmEnt N.2.2.2.1 (S.take k).reverse) [] g).bind (fun q => pmV M nx L (q.1.toList ++ S.drop k) q.2) else none
noncomputable def zCallV (M : pmM) (nx : Nat) (k : Nat) (N : pmM) (L : pmL) (S : List Value) (g : pmH) : Option (Option Value × pmH) := if pmIsObj g N.2.1 (S[k]?) = true then zCall M nx (k + 1) N L S g else none
noncomputable def zIret (M : pmM) (S : List Value) (g : pmH) : Option (Option Value × pmH) := match S, M.2.2.2.2.1 with
  | [.int v], some t => if narrow t (.int v) = .int v then some (some (.int v), g) else none
  | _, _ => none
noncomputable def zLret (S : List Value) (g : pmH) : Option (Option Value × pmH) := match S with
  | [.long v] => some (some (.long v), g)
  | _ => none
noncomputable def zVret (S : List Value) (g : pmH) : Option (Option Value × pmH) := match S with
  | [] => some (none, g)
  | _ => none
theorem ez_iload_n {k : Fin 4} {i : Nat} (hc0 : M.2.2.1 = cc) (hd : decode cc pc = .ok (.iload_n k, 1)) (hi : (k : Nat) = i) (hx : pc + 1 = nx) (L : pmL) (S : List Value) (g : pmH) : pmV M pc L S g = zLdI M nx i L S g := by
  subst hx
  rw [pm_at hc0 hd (Or.inl rfl)]
  subst hi
  show pmU M g (pmLdI (pc + 1) k L S g) = _
  unfold pmLdI zLdI
  cases pmLd L k with
  | none => rfl
  | some v => cases v <;> rfl
theorem ez_lload_n {k : Fin 4} {i : Nat} (hc0 : M.2.2.1 = cc) (hd : decode cc pc = .ok (.lload_n k, 1)) (hi : (k : Nat) = i) (hx : pc + 1 = nx) (L : pmL) (S : List Value) (g : pmH) : pmV M pc L S g = zLdJ M nx i L S g := by
  subst hx
  rw [pm_at hc0 hd (Or.inl rfl)]
  subst hi
  show pmU M g (pmLdJ (pc + 1) k L S g) = _
  unfold pmLdJ zLdJ
  cases pmLd L k with
  | none => rfl
  | some v => cases v <;> rfl
theorem ez_aload_n {k : Fin 4} {i : Nat} (hc0 : M.2.2.1 = cc) (hd : decode cc pc = .ok (.aload_n k, 1)) (hi : (k : Nat) = i) (hx : pc + 1 = nx) (L : pmL) (S : List Value) (g : pmH) : pmV M pc L S g = zLdA M nx i L S g := by
  subst hx
  rw [pm_at hc0 hd (Or.inl rfl)]
  subst hi
  show pmU M g (pmLdA (pc + 1) k L S g) = _
  unfold pmLdA zLdA
  cases pmLd L k with
  | none => rfl
  | some v => cases v <;> rfl
theorem ez_iload {i : Nat} (hc0 : M.2.2.1 = cc) (hd : decode cc pc = .ok (.iload i, 2)) (hx : pc + 2 = nx) (L : pmL) (S : List Value) (g : pmH) : pmV M pc L S g = zLdI M nx i L S g := by
  subst hx
  rw [pm_at hc0 hd (Or.inl rfl)]
  show pmU M g (pmLdI (pc + 2) i L S g) = _
  unfold pmLdI zLdI
  cases pmLd L i with
  | none => rfl
  | some v => cases v <;> rfl
theorem ez_lload {i : Nat} (hc0 : M.2.2.1 = cc) (hd : decode cc pc = .ok (.lload i, 2)) (hx : pc + 2 = nx) (L : pmL) (S : List Value) (g : pmH) : pmV M pc L S g = zLdJ M nx i L S g := by
  subst hx
  rw [pm_at hc0 hd (Or.inl rfl)]
  show pmU M g (pmLdJ (pc + 2) i L S g) = _
  unfold pmLdJ zLdJ
  cases pmLd L i with
  | none => rfl
  | some v => cases v <;> rfl
theorem ez_aload {i : Nat} (hc0 : M.2.2.1 = cc) (hd : decode cc pc = .ok (.aload i, 2)) (hx : pc + 2 = nx) (L : pmL) (S : List Value) (g : pmH) : pmV M pc L S g = zLdA M nx i L S g := by
  subst hx
  rw [pm_at hc0 hd (Or.inl rfl)]
  show pmU M g (pmLdA (pc + 2) i L S g) = _
  unfold pmLdA zLdA
  cases pmLd L i with
  | none => rfl
  | some v => cases v <;> rfl
theorem ez_iconst {n : Int} {v : Int32} (hc0 : M.2.2.1 = cc) (hd : decode cc pc = .ok (.iconst n, 1)) (hv : Int32.ofInt n = v) (hx : pc + 1 = nx) (L : pmL) (S : List Value) (g : pmH) : pmV M pc L S g = zPush M nx (.int v) L S g := by
  subst hx
  rw [pm_at hc0 hd (Or.inl rfl)]
  subst hv
  rfl
theorem ez_bipush {n : Int} {v : Int32} (hc0 : M.2.2.1 = cc) (hd : decode cc pc = .ok (.bipush n, 2)) (hv : (Int8.ofInt n).toInt32 = v) (hx : pc + 2 = nx) (L : pmL) (S : List Value) (g : pmH) : pmV M pc L S g = zPush M nx (.int v) L S g := by
  subst hx
  rw [pm_at hc0 hd (Or.inl rfl)]
  subst hv
  rfl
theorem ez_sipush {n : Int} {v : Int32} (hc0 : M.2.2.1 = cc) (hd : decode cc pc = .ok (.sipush n, 3)) (hv : (Int16.ofInt n).toInt32 = v) (hx : pc + 3 = nx) (L : pmL) (S : List Value) (g : pmH) : pmV M pc L S g = zPush M nx (.int v) L S g := by
  subst hx
  rw [pm_at hc0 hd (Or.inl rfl)]
  subst hv
  rfl
theorem ez_lconst {n : Fin 2} {v : Int64} (hc0 : M.2.2.1 = cc) (hd : decode cc pc = .ok (.lconst n, 1)) (hv : Int64.ofNat (n : Nat) = v) (hx : pc + 1 = nx) (L : pmL) (S : List Value) (g : pmH) : pmV M pc L S g = zPush M nx (.long v) L S g := by
  subst hx
  rw [pm_at hc0 hd (Or.inl rfl)]
  subst hv
  rfl
theorem ez_ldc_w {i q : Nat} {v : Int32} (hc0 : M.2.2.1 = cc) (hd : decode cc pc = .ok (.ldc_w i, 3)) (hv : pmKI M.2.1 i = some (v, q)) (hx : pc + 3 = nx) (L : pmL) (S : List Value) (g : pmH) : pmV M pc L S g = zPush M nx (.int v) L S g := by
  subst hx
  rw [pm_at hc0 hd (Or.inl rfl)]
  show pmU M g (match pmKI M.2.1 i with | some (v, _) => pmNx (pc + 3) L (.int v :: S) g | none => none) = _
  rw [hv]
  rfl
theorem ez_ldc2_w {i q : Nat} {v : Int64} (hc0 : M.2.2.1 = cc) (hd : decode cc pc = .ok (.ldc2_w i, 3)) (hv : pmKJ M.2.1 i = some (v, q)) (hx : pc + 3 = nx) (L : pmL) (S : List Value) (g : pmH) : pmV M pc L S g = zPush M nx (.long v) L S g := by
  subst hx
  rw [pm_at hc0 hd (Or.inl rfl)]
  show pmU M g (match pmKJ M.2.1 i with | some (v, _) => pmNx (pc + 3) L (.long v :: S) g | none => none) = _
  rw [hv]
  rfl
theorem ez_istore_n {k : Fin 4} {i : Nat} (hc0 : M.2.2.1 = cc) (hd : decode cc pc = .ok (.istore_n k, 1)) (hi : (k : Nat) = i) (hx : pc + 1 = nx) (L : pmL) (S : List Value) (g : pmH) : pmV M pc L S g = zStI M nx i L S g := by
  subst hx
  rw [pm_at hc0 hd (Or.inl rfl)]
  subst hi
  show pmU M g (pmStI (pc + 1) k L S g) = _
  rcases S with _ | ⟨v, r⟩
  · rfl
  · cases v <;> first | rfl | exact pmU_bind
theorem ez_istore {i : Nat} (hc0 : M.2.2.1 = cc) (hd : decode cc pc = .ok (.istore i, 2)) (hx : pc + 2 = nx) (L : pmL) (S : List Value) (g : pmH) : pmV M pc L S g = zStI M nx i L S g := by
  subst hx
  rw [pm_at hc0 hd (Or.inl rfl)]
  show pmU M g (pmStI (pc + 2) i L S g) = _
  rcases S with _ | ⟨v, r⟩
  · rfl
  · cases v <;> first | rfl | exact pmU_bind
theorem ez_astore_n {k : Fin 4} {i : Nat} (hc0 : M.2.2.1 = cc) (hd : decode cc pc = .ok (.astore_n k, 1)) (hi : (k : Nat) = i) (hx : pc + 1 = nx) (L : pmL) (S : List Value) (g : pmH) : pmV M pc L S g = zStA M nx i L S g := by
  subst hx
  rw [pm_at hc0 hd (Or.inl rfl)]
  subst hi
  show pmU M g (pmStA (pc + 1) k L S g) = _
  rcases S with _ | ⟨v, r⟩
  · rfl
  · cases v <;> first | rfl | exact pmU_bind
theorem ez_astore {i : Nat} (hc0 : M.2.2.1 = cc) (hd : decode cc pc = .ok (.astore i, 2)) (hx : pc + 2 = nx) (L : pmL) (S : List Value) (g : pmH) : pmV M pc L S g = zStA M nx i L S g := by
  subst hx
  rw [pm_at hc0 hd (Or.inl rfl)]
  show pmU M g (pmStA (pc + 2) i L S g) = _
  rcases S with _ | ⟨v, r⟩
  · rfl
  · cases v <;> first | rfl | exact pmU_bind
theorem ez_lstore_n {k : Fin 4} {i : Nat} (hc0 : M.2.2.1 = cc) (hd : decode cc pc = .ok (.lstore_n k, 1)) (hi : (k : Nat) = i) (hx : pc + 1 = nx) (L : pmL) (S : List Value) (g : pmH) : pmV M pc L S g = zStJ M nx i L S g := by
  subst hx
  rw [pm_at hc0 hd (Or.inl rfl)]
  subst hi
  show pmU M g (pmStJ (pc + 1) k L S g) = _
  rcases S with _ | ⟨v, r⟩
  · rfl
  · cases v <;> first | rfl | exact pmU_bind
theorem ez_iinc {i : Nat} {n : Int} {d : Int32} (hc0 : M.2.2.1 = cc) (hd : decode cc pc = .ok (.iinc i n, 3)) (hv : Int32.ofInt n = d) (hx : pc + 3 = nx) (L : pmL) (S : List Value) (g : pmH) : pmV M pc L S g = zInc M nx i d L S g := by
  subst hx
  rw [pm_at hc0 hd (Or.inl rfl)]
  subst hv
  show pmU M g (pmInc (pc + 3) i n L S g) = _
  unfold pmInc zInc
  cases pmLd L i with
  | none => rfl
  | some v => cases v <;> first | rfl | exact pmU_bind
theorem ez_iadd (hc0 : M.2.2.1 = cc) (hd : decode cc pc = .ok (.iadd, 1)) (hx : pc + 1 = nx) (L : pmL) (S : List Value) (g : pmH) : pmV M pc L S g = zAdd M nx L S g := by
  subst hx
  rw [pm_at hc0 hd (Or.inl rfl)]
  show pmU M g (pmII pc L S g _) = _
  rcases S with _ | ⟨v, _ | ⟨w, r⟩⟩ <;> first | rfl | (cases v <;> first | rfl | (cases w <;> first | rfl | exact pmU_ite))
theorem ez_isub (hc0 : M.2.2.1 = cc) (hd : decode cc pc = .ok (.isub, 1)) (hx : pc + 1 = nx) (L : pmL) (S : List Value) (g : pmH) : pmV M pc L S g = zSub M nx L S g := by
  subst hx
  rw [pm_at hc0 hd (Or.inl rfl)]
  show pmU M g (pmII pc L S g _) = _
  rcases S with _ | ⟨v, _ | ⟨w, r⟩⟩ <;> first | rfl | (cases v <;> first | rfl | (cases w <;> first | rfl | exact pmU_ite))
theorem ez_imul (hc0 : M.2.2.1 = cc) (hd : decode cc pc = .ok (.imul, 1)) (hx : pc + 1 = nx) (L : pmL) (S : List Value) (g : pmH) : pmV M pc L S g = zMul M nx L S g := by
  subst hx
  rw [pm_at hc0 hd (Or.inl rfl)]
  show pmU M g (pmII pc L S g _) = _
  rcases S with _ | ⟨v, _ | ⟨w, r⟩⟩ <;> first | rfl | (cases v <;> first | rfl | (cases w <;> first | rfl | exact pmU_ite))
theorem ez_iand (hc0 : M.2.2.1 = cc) (hd : decode cc pc = .ok (.iand, 1)) (hx : pc + 1 = nx) (L : pmL) (S : List Value) (g : pmH) : pmV M pc L S g = zAnd M nx L S g := by
  subst hx
  rw [pm_at hc0 hd (Or.inl rfl)]
  show pmU M g (pmII pc L S g _) = _
  rcases S with _ | ⟨v, _ | ⟨w, r⟩⟩ <;> first | rfl | (cases v <;> first | rfl | (cases w <;> first | rfl | exact pmU_ite))
theorem ez_ior (hc0 : M.2.2.1 = cc) (hd : decode cc pc = .ok (.ior, 1)) (hx : pc + 1 = nx) (L : pmL) (S : List Value) (g : pmH) : pmV M pc L S g = zOr M nx L S g := by
  subst hx
  rw [pm_at hc0 hd (Or.inl rfl)]
  show pmU M g (pmII pc L S g _) = _
  rcases S with _ | ⟨v, _ | ⟨w, r⟩⟩ <;> first | rfl | (cases v <;> first | rfl | (cases w <;> first | rfl | exact pmU_ite))
theorem ez_ixor (hc0 : M.2.2.1 = cc) (hd : decode cc pc = .ok (.ixor, 1)) (hx : pc + 1 = nx) (L : pmL) (S : List Value) (g : pmH) : pmV M pc L S g = zXor M nx L S g := by
  subst hx
  rw [pm_at hc0 hd (Or.inl rfl)]
  show pmU M g (pmII pc L S g _) = _
  rcases S with _ | ⟨v, _ | ⟨w, r⟩⟩ <;> first | rfl | (cases v <;> first | rfl | (cases w <;> first | rfl | exact pmU_ite))
theorem ez_ishl (hc0 : M.2.2.1 = cc) (hd : decode cc pc = .ok (.ishl, 1)) (hx : pc + 1 = nx) (L : pmL) (S : List Value) (g : pmH) : pmV M pc L S g = zShl M nx L S g := by
  subst hx
  rw [pm_at hc0 hd (Or.inl rfl)]
  show pmU M g (pmII pc L S g _) = _
  rcases S with _ | ⟨v, _ | ⟨w, r⟩⟩ <;> first | rfl | (cases v <;> first | rfl | (cases w <;> first | rfl | exact pmU_ite))
theorem ez_ishr (hc0 : M.2.2.1 = cc) (hd : decode cc pc = .ok (.ishr, 1)) (hx : pc + 1 = nx) (L : pmL) (S : List Value) (g : pmH) : pmV M pc L S g = zShr M nx L S g := by
  subst hx
  rw [pm_at hc0 hd (Or.inl rfl)]
  show pmU M g (pmII pc L S g _) = _
  rcases S with _ | ⟨v, _ | ⟨w, r⟩⟩ <;> first | rfl | (cases v <;> first | rfl | (cases w <;> first | rfl | exact pmU_ite))
theorem ez_iushr (hc0 : M.2.2.1 = cc) (hd : decode cc pc = .ok (.iushr, 1)) (hx : pc + 1 = nx) (L : pmL) (S : List Value) (g : pmH) : pmV M pc L S g = zUshr M nx L S g := by
  subst hx
  rw [pm_at hc0 hd (Or.inl rfl)]
  show pmU M g (pmII pc L S g _) = _
  rcases S with _ | ⟨v, _ | ⟨w, r⟩⟩ <;> first | rfl | (cases v <;> first | rfl | (cases w <;> first | rfl | exact pmU_ite))
theorem ez_ladd (hc0 : M.2.2.1 = cc) (hd : decode cc pc = .ok (.ladd, 1)) (hx : pc + 1 = nx) (L : pmL) (S : List Value) (g : pmH) : pmV M pc L S g = zJAdd M nx L S g := by
  subst hx
  rw [pm_at hc0 hd (Or.inl rfl)]
  show pmU M g (pmJJ pc L S g _) = _
  rcases S with _ | ⟨v, _ | ⟨w, r⟩⟩ <;> first | rfl | (cases v <;> first | rfl | (cases w <;> first | rfl | exact pmU_ite))
theorem ez_lsub (hc0 : M.2.2.1 = cc) (hd : decode cc pc = .ok (.lsub, 1)) (hx : pc + 1 = nx) (L : pmL) (S : List Value) (g : pmH) : pmV M pc L S g = zJSub M nx L S g := by
  subst hx
  rw [pm_at hc0 hd (Or.inl rfl)]
  show pmU M g (pmJJ pc L S g _) = _
  rcases S with _ | ⟨v, _ | ⟨w, r⟩⟩ <;> first | rfl | (cases v <;> first | rfl | (cases w <;> first | rfl | exact pmU_ite))
theorem ez_lmul (hc0 : M.2.2.1 = cc) (hd : decode cc pc = .ok (.lmul, 1)) (hx : pc + 1 = nx) (L : pmL) (S : List Value) (g : pmH) : pmV M pc L S g = zJMul M nx L S g := by
  subst hx
  rw [pm_at hc0 hd (Or.inl rfl)]
  show pmU M g (pmJJ pc L S g _) = _
  rcases S with _ | ⟨v, _ | ⟨w, r⟩⟩ <;> first | rfl | (cases v <;> first | rfl | (cases w <;> first | rfl | exact pmU_ite))
theorem ez_land (hc0 : M.2.2.1 = cc) (hd : decode cc pc = .ok (.land, 1)) (hx : pc + 1 = nx) (L : pmL) (S : List Value) (g : pmH) : pmV M pc L S g = zJAnd M nx L S g := by
  subst hx
  rw [pm_at hc0 hd (Or.inl rfl)]
  show pmU M g (pmJJ pc L S g _) = _
  rcases S with _ | ⟨v, _ | ⟨w, r⟩⟩ <;> first | rfl | (cases v <;> first | rfl | (cases w <;> first | rfl | exact pmU_ite))
theorem ez_lor (hc0 : M.2.2.1 = cc) (hd : decode cc pc = .ok (.lor, 1)) (hx : pc + 1 = nx) (L : pmL) (S : List Value) (g : pmH) : pmV M pc L S g = zJOr M nx L S g := by
  subst hx
  rw [pm_at hc0 hd (Or.inl rfl)]
  show pmU M g (pmJJ pc L S g _) = _
  rcases S with _ | ⟨v, _ | ⟨w, r⟩⟩ <;> first | rfl | (cases v <;> first | rfl | (cases w <;> first | rfl | exact pmU_ite))
theorem ez_lshl (hc0 : M.2.2.1 = cc) (hd : decode cc pc = .ok (.lshl, 1)) (hx : pc + 1 = nx) (L : pmL) (S : List Value) (g : pmH) : pmV M pc L S g = zJShl M nx L S g := by
  subst hx
  rw [pm_at hc0 hd (Or.inl rfl)]
  show pmU M g (pmJI pc L S g _) = _
  rcases S with _ | ⟨v, _ | ⟨w, r⟩⟩ <;> first | rfl | (cases v <;> first | rfl | (cases w <;> first | rfl | exact pmU_ite))
theorem ez_lushr (hc0 : M.2.2.1 = cc) (hd : decode cc pc = .ok (.lushr, 1)) (hx : pc + 1 = nx) (L : pmL) (S : List Value) (g : pmH) : pmV M pc L S g = zJUshr M nx L S g := by
  subst hx
  rw [pm_at hc0 hd (Or.inl rfl)]
  show pmU M g (pmJI pc L S g _) = _
  rcases S with _ | ⟨v, _ | ⟨w, r⟩⟩ <;> first | rfl | (cases v <;> first | rfl | (cases w <;> first | rfl | exact pmU_ite))
theorem ez_idiv (hc0 : M.2.2.1 = cc) (hd : decode cc pc = .ok (.idiv, 1)) (hx : pc + 1 = nx) (L : pmL) (S : List Value) (g : pmH) : pmV M pc L S g = zDiv M nx L S g := by
  subst hx
  rw [pm_at hc0 hd (Or.inl rfl)]
  show pmU M g (pmIIz pc L S g _) = _
  rcases S with _ | ⟨v, _ | ⟨w, r⟩⟩ <;> first | rfl | (cases v <;> first | rfl | (cases w <;> first | rfl | exact pmU_ite))
theorem ez_irem (hc0 : M.2.2.1 = cc) (hd : decode cc pc = .ok (.irem, 1)) (hx : pc + 1 = nx) (L : pmL) (S : List Value) (g : pmH) : pmV M pc L S g = zRem M nx L S g := by
  subst hx
  rw [pm_at hc0 hd (Or.inl rfl)]
  show pmU M g (pmIIz pc L S g _) = _
  rcases S with _ | ⟨v, _ | ⟨w, r⟩⟩ <;> first | rfl | (cases v <;> first | rfl | (cases w <;> first | rfl | exact pmU_ite))
theorem ez_ldiv (hc0 : M.2.2.1 = cc) (hd : decode cc pc = .ok (.ldiv, 1)) (hx : pc + 1 = nx) (L : pmL) (S : List Value) (g : pmH) : pmV M pc L S g = zJDiv M nx L S g := by
  subst hx
  rw [pm_at hc0 hd (Or.inl rfl)]
  show pmU M g (pmJJz pc L S g _) = _
  rcases S with _ | ⟨v, _ | ⟨w, r⟩⟩ <;> first | rfl | (cases v <;> first | rfl | (cases w <;> first | rfl | exact pmU_ite))
theorem ez_lrem (hc0 : M.2.2.1 = cc) (hd : decode cc pc = .ok (.lrem, 1)) (hx : pc + 1 = nx) (L : pmL) (S : List Value) (g : pmH) : pmV M pc L S g = zJRem M nx L S g := by
  subst hx
  rw [pm_at hc0 hd (Or.inl rfl)]
  show pmU M g (pmJJz pc L S g _) = _
  rcases S with _ | ⟨v, _ | ⟨w, r⟩⟩ <;> first | rfl | (cases v <;> first | rfl | (cases w <;> first | rfl | exact pmU_ite))
theorem ez_ineg (hc0 : M.2.2.1 = cc) (hd : decode cc pc = .ok (.ineg, 1)) (hx : pc + 1 = nx) (L : pmL) (S : List Value) (g : pmH) : pmV M pc L S g = zNeg M nx L S g := by
  subst hx
  rw [pm_at hc0 hd (Or.inl rfl)]
  rcases S with _ | ⟨v, _ | ⟨w, r⟩⟩ <;> first | rfl | (cases v <;> first | rfl | (cases w <;> first | rfl | exact pmU_ite))
theorem ez_i2l (hc0 : M.2.2.1 = cc) (hd : decode cc pc = .ok (.i2l, 1)) (hx : pc + 1 = nx) (L : pmL) (S : List Value) (g : pmH) : pmV M pc L S g = zI2l M nx L S g := by
  subst hx
  rw [pm_at hc0 hd (Or.inl rfl)]
  rcases S with _ | ⟨v, _ | ⟨w, r⟩⟩ <;> first | rfl | (cases v <;> first | rfl | (cases w <;> first | rfl | exact pmU_ite))
theorem ez_l2i (hc0 : M.2.2.1 = cc) (hd : decode cc pc = .ok (.l2i, 1)) (hx : pc + 1 = nx) (L : pmL) (S : List Value) (g : pmH) : pmV M pc L S g = zL2i M nx L S g := by
  subst hx
  rw [pm_at hc0 hd (Or.inl rfl)]
  rcases S with _ | ⟨v, _ | ⟨w, r⟩⟩ <;> first | rfl | (cases v <;> first | rfl | (cases w <;> first | rfl | exact pmU_ite))
theorem ez_lcmp (hc0 : M.2.2.1 = cc) (hd : decode cc pc = .ok (.lcmp, 1)) (hx : pc + 1 = nx) (L : pmL) (S : List Value) (g : pmH) : pmV M pc L S g = zLcmp M nx L S g := by
  subst hx
  rw [pm_at hc0 hd (Or.inl rfl)]
  rcases S with _ | ⟨v, _ | ⟨w, r⟩⟩ <;> first | rfl | (cases v <;> first | rfl | (cases w <;> first | rfl | exact pmU_ite))
theorem ez_dup (hc0 : M.2.2.1 = cc) (hd : decode cc pc = .ok (.dup, 1)) (hx : pc + 1 = nx) (L : pmL) (S : List Value) (g : pmH) : pmV M pc L S g = zDup M nx L S g := by
  subst hx
  rw [pm_at hc0 hd (Or.inl rfl)]
  rcases S with _ | ⟨v, _ | ⟨w, r⟩⟩ <;> first | rfl | exact pmU_ite
theorem ez_dup2 (hc0 : M.2.2.1 = cc) (hd : decode cc pc = .ok (.dup2, 1)) (hx : pc + 1 = nx) (L : pmL) (S : List Value) (g : pmH) : pmV M pc L S g = zDup2 M nx L S g := by
  subst hx
  rw [pm_at hc0 hd (Or.inl rfl)]
  rcases S with _ | ⟨v, _ | ⟨w, r⟩⟩ <;> first | rfl | exact pmU_ite
theorem ez_pop (hc0 : M.2.2.1 = cc) (hd : decode cc pc = .ok (.pop, 1)) (hx : pc + 1 = nx) (L : pmL) (S : List Value) (g : pmH) : pmV M pc L S g = zPop M nx L S g := by
  subst hx
  rw [pm_at hc0 hd (Or.inl rfl)]
  rcases S with _ | ⟨v, _ | ⟨w, r⟩⟩ <;> first | rfl | exact pmU_ite
theorem pm_tgt {off : Int} (ht : (pc : Int) + off = (t : Int)) : pmT pc off = some t := by
  unfold pmT
  rw [if_pos (by omega), ht]
  rfl
theorem ez_goto {off : Int} (hc0 : M.2.2.1 = cc) (hd : decode cc pc = .ok (.goto off, 3)) (ht : (pc : Int) + off = (t : Int)) (L : pmL) (S : List Value) (g : pmH) : pmV M pc L S g = zNx M t L S g := by
  rw [pm_at hc0 hd (Or.inl rfl)]
  show pmU M g (pmGo pc off L S g) = _
  unfold pmGo
  rw [pm_tgt ht]
  rfl
theorem ez_icmp_eq {off : Int} (hc0 : M.2.2.1 = cc) (hd : decode cc pc = .ok (.if_icmp .eq off, 3)) (ht : (pc : Int) + off = (t : Int)) (hx : pc + 3 = nx) (L : pmL) (S : List Value) (g : pmH) : pmV M pc L S g = zBeq M nx t L S g := by
  subst hx
  rw [pm_at hc0 hd (Or.inl rfl)]
  show pmU M g (pmBr2 pc .eq off L S g) = _
  rcases S with _ | ⟨v, _ | ⟨w, r⟩⟩ <;> first | rfl | (cases v <;> first | rfl | (cases w <;> first | rfl | skip))
  rename_i y x
  show pmU M g ((pmT pc off).bind _) = if x = y then _ else _
  rw [pm_tgt ht]
  show pmV M (if decide (x = y) = true then t else pc + 3) L r g = _
  by_cases hc : x = y <;> simp [hc]
theorem ez_if_eq {off : Int} (hc0 : M.2.2.1 = cc) (hd : decode cc pc = .ok (.ifCond .eq off, 3)) (ht : (pc : Int) + off = (t : Int)) (hx : pc + 3 = nx) (L : pmL) (S : List Value) (g : pmH) : pmV M pc L S g = zCeq M nx t L S g := by
  subst hx
  rw [pm_at hc0 hd (Or.inl rfl)]
  show pmU M g (pmBr1 pc .eq off L S g) = _
  rcases S with _ | ⟨v, r⟩ <;> first | rfl | (cases v <;> first | rfl | skip)
  rename_i x
  show pmU M g ((pmT pc off).bind _) = if x = nI 0 then _ else _
  rw [pm_tgt ht, nI_0]
  show pmV M (if decide (x = (0 : Int32)) = true then t else pc + 3) L r g = _
  by_cases hc : x = (0 : Int32) <;> simp [hc]
theorem ez_icmp_ne {off : Int} (hc0 : M.2.2.1 = cc) (hd : decode cc pc = .ok (.if_icmp .ne off, 3)) (ht : (pc : Int) + off = (t : Int)) (hx : pc + 3 = nx) (L : pmL) (S : List Value) (g : pmH) : pmV M pc L S g = zBne M nx t L S g := by
  subst hx
  rw [pm_at hc0 hd (Or.inl rfl)]
  show pmU M g (pmBr2 pc .ne off L S g) = _
  rcases S with _ | ⟨v, _ | ⟨w, r⟩⟩ <;> first | rfl | (cases v <;> first | rfl | (cases w <;> first | rfl | skip))
  rename_i y x
  show pmU M g ((pmT pc off).bind _) = if ¬ x = y then _ else _
  rw [pm_tgt ht]
  show pmV M (if decide (¬ x = y) = true then t else pc + 3) L r g = _
  by_cases hc : ¬ x = y <;> simp [hc]
theorem ez_if_ne {off : Int} (hc0 : M.2.2.1 = cc) (hd : decode cc pc = .ok (.ifCond .ne off, 3)) (ht : (pc : Int) + off = (t : Int)) (hx : pc + 3 = nx) (L : pmL) (S : List Value) (g : pmH) : pmV M pc L S g = zCne M nx t L S g := by
  subst hx
  rw [pm_at hc0 hd (Or.inl rfl)]
  show pmU M g (pmBr1 pc .ne off L S g) = _
  rcases S with _ | ⟨v, r⟩ <;> first | rfl | (cases v <;> first | rfl | skip)
  rename_i x
  show pmU M g ((pmT pc off).bind _) = if ¬ x = nI 0 then _ else _
  rw [pm_tgt ht, nI_0]
  show pmV M (if decide (¬ x = (0 : Int32)) = true then t else pc + 3) L r g = _
  by_cases hc : ¬ x = (0 : Int32) <;> simp [hc]
theorem ez_icmp_lt {off : Int} (hc0 : M.2.2.1 = cc) (hd : decode cc pc = .ok (.if_icmp .lt off, 3)) (ht : (pc : Int) + off = (t : Int)) (hx : pc + 3 = nx) (L : pmL) (S : List Value) (g : pmH) : pmV M pc L S g = zBlt M nx t L S g := by
  subst hx
  rw [pm_at hc0 hd (Or.inl rfl)]
  show pmU M g (pmBr2 pc .lt off L S g) = _
  rcases S with _ | ⟨v, _ | ⟨w, r⟩⟩ <;> first | rfl | (cases v <;> first | rfl | (cases w <;> first | rfl | skip))
  rename_i y x
  show pmU M g ((pmT pc off).bind _) = if x < y then _ else _
  rw [pm_tgt ht]
  show pmV M (if decide (x < y) = true then t else pc + 3) L r g = _
  by_cases hc : x < y <;> simp [hc]
theorem ez_if_lt {off : Int} (hc0 : M.2.2.1 = cc) (hd : decode cc pc = .ok (.ifCond .lt off, 3)) (ht : (pc : Int) + off = (t : Int)) (hx : pc + 3 = nx) (L : pmL) (S : List Value) (g : pmH) : pmV M pc L S g = zClt M nx t L S g := by
  subst hx
  rw [pm_at hc0 hd (Or.inl rfl)]
  show pmU M g (pmBr1 pc .lt off L S g) = _
  rcases S with _ | ⟨v, r⟩ <;> first | rfl | (cases v <;> first | rfl | skip)
  rename_i x
  show pmU M g ((pmT pc off).bind _) = if x < nI 0 then _ else _
  rw [pm_tgt ht, nI_0]
  show pmV M (if decide (x < (0 : Int32)) = true then t else pc + 3) L r g = _
  by_cases hc : x < (0 : Int32) <;> simp [hc]
theorem ez_icmp_ge {off : Int} (hc0 : M.2.2.1 = cc) (hd : decode cc pc = .ok (.if_icmp .ge off, 3)) (ht : (pc : Int) + off = (t : Int)) (hx : pc + 3 = nx) (L : pmL) (S : List Value) (g : pmH) : pmV M pc L S g = zBge M nx t L S g := by
  subst hx
  rw [pm_at hc0 hd (Or.inl rfl)]
  show pmU M g (pmBr2 pc .ge off L S g) = _
  rcases S with _ | ⟨v, _ | ⟨w, r⟩⟩ <;> first | rfl | (cases v <;> first | rfl | (cases w <;> first | rfl | skip))
  rename_i y x
  show pmU M g ((pmT pc off).bind _) = if y ≤ x then _ else _
  rw [pm_tgt ht]
  show pmV M (if decide (y ≤ x) = true then t else pc + 3) L r g = _
  by_cases hc : y ≤ x <;> simp [hc]
theorem ez_if_ge {off : Int} (hc0 : M.2.2.1 = cc) (hd : decode cc pc = .ok (.ifCond .ge off, 3)) (ht : (pc : Int) + off = (t : Int)) (hx : pc + 3 = nx) (L : pmL) (S : List Value) (g : pmH) : pmV M pc L S g = zCge M nx t L S g := by
  subst hx
  rw [pm_at hc0 hd (Or.inl rfl)]
  show pmU M g (pmBr1 pc .ge off L S g) = _
  rcases S with _ | ⟨v, r⟩ <;> first | rfl | (cases v <;> first | rfl | skip)
  rename_i x
  show pmU M g ((pmT pc off).bind _) = if nI 0 ≤ x then _ else _
  rw [pm_tgt ht, nI_0]
  show pmV M (if decide ((0 : Int32) ≤ x) = true then t else pc + 3) L r g = _
  by_cases hc : (0 : Int32) ≤ x <;> simp [hc]
theorem ez_icmp_gt {off : Int} (hc0 : M.2.2.1 = cc) (hd : decode cc pc = .ok (.if_icmp .gt off, 3)) (ht : (pc : Int) + off = (t : Int)) (hx : pc + 3 = nx) (L : pmL) (S : List Value) (g : pmH) : pmV M pc L S g = zBgt M nx t L S g := by
  subst hx
  rw [pm_at hc0 hd (Or.inl rfl)]
  show pmU M g (pmBr2 pc .gt off L S g) = _
  rcases S with _ | ⟨v, _ | ⟨w, r⟩⟩ <;> first | rfl | (cases v <;> first | rfl | (cases w <;> first | rfl | skip))
  rename_i y x
  show pmU M g ((pmT pc off).bind _) = if y < x then _ else _
  rw [pm_tgt ht]
  show pmV M (if decide (y < x) = true then t else pc + 3) L r g = _
  by_cases hc : y < x <;> simp [hc]
theorem ez_if_gt {off : Int} (hc0 : M.2.2.1 = cc) (hd : decode cc pc = .ok (.ifCond .gt off, 3)) (ht : (pc : Int) + off = (t : Int)) (hx : pc + 3 = nx) (L : pmL) (S : List Value) (g : pmH) : pmV M pc L S g = zCgt M nx t L S g := by
  subst hx
  rw [pm_at hc0 hd (Or.inl rfl)]
  show pmU M g (pmBr1 pc .gt off L S g) = _
  rcases S with _ | ⟨v, r⟩ <;> first | rfl | (cases v <;> first | rfl | skip)
  rename_i x
  show pmU M g ((pmT pc off).bind _) = if nI 0 < x then _ else _
  rw [pm_tgt ht, nI_0]
  show pmV M (if decide ((0 : Int32) < x) = true then t else pc + 3) L r g = _
  by_cases hc : (0 : Int32) < x <;> simp [hc]
theorem ez_icmp_le {off : Int} (hc0 : M.2.2.1 = cc) (hd : decode cc pc = .ok (.if_icmp .le off, 3)) (ht : (pc : Int) + off = (t : Int)) (hx : pc + 3 = nx) (L : pmL) (S : List Value) (g : pmH) : pmV M pc L S g = zBle M nx t L S g := by
  subst hx
  rw [pm_at hc0 hd (Or.inl rfl)]
  show pmU M g (pmBr2 pc .le off L S g) = _
  rcases S with _ | ⟨v, _ | ⟨w, r⟩⟩ <;> first | rfl | (cases v <;> first | rfl | (cases w <;> first | rfl | skip))
  rename_i y x
  show pmU M g ((pmT pc off).bind _) = if x ≤ y then _ else _
  rw [pm_tgt ht]
  show pmV M (if decide (x ≤ y) = true then t else pc + 3) L r g = _
  by_cases hc : x ≤ y <;> simp [hc]
theorem ez_if_le {off : Int} (hc0 : M.2.2.1 = cc) (hd : decode cc pc = .ok (.ifCond .le off, 3)) (ht : (pc : Int) + off = (t : Int)) (hx : pc + 3 = nx) (L : pmL) (S : List Value) (g : pmH) : pmV M pc L S g = zCle M nx t L S g := by
  subst hx
  rw [pm_at hc0 hd (Or.inl rfl)]
  show pmU M g (pmBr1 pc .le off L S g) = _
  rcases S with _ | ⟨v, r⟩ <;> first | rfl | (cases v <;> first | rfl | skip)
  rename_i x
  show pmU M g ((pmT pc off).bind _) = if x ≤ nI 0 then _ else _
  rw [pm_tgt ht, nI_0]
  show pmV M (if decide (x ≤ (0 : Int32)) = true then t else pc + 3) L r g = _
  by_cases hc : x ≤ (0 : Int32) <;> simp [hc]
theorem ez_tab {d lo hi : Int} {os : Array Int} {n : Nat} (hc0 : M.2.2.1 = cc) (hd : decode cc pc = .ok (.tableswitch d lo hi os, n)) (L : pmL) (S : List Value) (g : pmH) : pmV M pc L S g = zTab M pc d lo hi os L S g := by
  rw [pm_at hc0 hd (Or.inr rfl)]
  rfl
theorem ez_look {d : Int} {ps : Array (Int × Int)} {n : Nat} (hc0 : M.2.2.1 = cc) (hd : decode cc pc = .ok (.lookupswitch d ps, n)) (L : pmL) (S : List Value) (g : pmH) : pmV M pc L S g = zLook M pc d ps L S g := by
  rw [pm_at hc0 hd (Or.inr rfl)]
  rfl
theorem ez_getfield {i ci k q : Nat} (hc0 : M.2.2.1 = cc) (hd : decode cc pc = .ok (.getfield i, 3)) (hf : pmFld M.2.1 i = some (ci, k, q)) (hx : pc + 3 = nx) (L : pmL) (S : List Value) (g : pmH) : pmV M pc L S g = zGet M nx ci k L S g := by
  subst hx
  rw [pm_at hc0 hd (Or.inl rfl)]
  show pmU M g (match pmFld M.2.1 i with | some (ci, k, _) => pmGet pc ci k L S g | none => none) = _
  rw [hf]
  show pmU M g (pmGet pc ci k L S g) = _
  unfold pmGet zGet
  rcases S with _ | ⟨v, r⟩ <;> first | rfl | (cases v <;> first | rfl | skip)
  rename_i a
  simp only
  cases g[a]? with
  | none => rfl
  | some e =>
    rcases e with x | ⟨cc, fs⟩
    · rfl
    · simp only
      rw [pmU_ite]
      first | rfl | (split <;> first | rfl | exact pmU_bind)
theorem ez_putfield {i ci k q : Nat} (hc0 : M.2.2.1 = cc) (hd : decode cc pc = .ok (.putfield i, 3)) (hf : pmFld M.2.1 i = some (ci, k, q)) (hx : pc + 3 = nx) (L : pmL) (S : List Value) (g : pmH) : pmV M pc L S g = zPut M nx ci k L S g := by
  subst hx
  rw [pm_at hc0 hd (Or.inl rfl)]
  show pmU M g (match pmFld M.2.1 i with | some (ci, k, _) => pmPut M pc ci k L S g | none => none) = _
  rw [hf]
  show pmU M g (pmPut M pc ci k L S g) = _
  unfold pmPut zPut
  rcases S with _ | ⟨v, _ | ⟨w, r⟩⟩ <;> first | rfl | (cases w <;> first | rfl | skip)
  rename_i a
  simp only
  cases g[a]? with
  | none => rfl
  | some e =>
    rcases e with x | ⟨cc, fs⟩
    · rfl
    · simp only
      rw [pmU_ite]
      first | rfl | (split <;> first | rfl | exact pmU_bind)
theorem ez_getstatic {i r q1 q2 : Nat} (hc0 : M.2.2.1 = cc) (hd : decode cc pc = .ok (.getstatic i, 3)) (hf : pmSta M.2.1 i = some (r, q1, q2)) (hx : pc + 3 = nx) (L : pmL) (S : List Value) (g : pmH) : pmV M pc L S g = zPush M nx (.ref r) L S g := by
  subst hx
  rw [pm_at hc0 hd (Or.inl rfl)]
  show pmU M g (match pmSta M.2.1 i with | some (r, _, _) => pmNx (pc + 3) L (.ref r :: S) g | none => none) = _
  rw [hf]
  rfl
theorem ez_iaload (hc0 : M.2.2.1 = cc) (hd : decode cc pc = .ok (.iaload, 1)) (hx : pc + 1 = nx) (L : pmL) (S : List Value) (g : pmH) : pmV M pc L S g = zIald M nx L S g := by
  subst hx
  rw [pm_at hc0 hd (Or.inl rfl)]
  show pmU M g (pmIald pc L S g) = _
  unfold pmIald zIald
  rcases S with _ | ⟨v, _ | ⟨w, r⟩⟩ <;> first | rfl | (cases v <;> first | rfl | skip) <;> (try (cases w <;> first | rfl | skip))
  rename_i i a
  simp only
  cases g[a]? with
  | none => rfl
  | some e =>
    rcases e with ⟨tt, nn, f | f | f | f | f⟩ | ⟨cc, fs⟩ <;> first | rfl | (simp only; rw [pmU_ite]; rfl)
theorem ez_baload (hc0 : M.2.2.1 = cc) (hd : decode cc pc = .ok (.baload, 1)) (hx : pc + 1 = nx) (L : pmL) (S : List Value) (g : pmH) : pmV M pc L S g = zBald M nx L S g := by
  subst hx
  rw [pm_at hc0 hd (Or.inl rfl)]
  show pmU M g (pmBald pc L S g) = _
  unfold pmBald zBald
  rcases S with _ | ⟨v, _ | ⟨w, r⟩⟩ <;> first | rfl | (cases v <;> first | rfl | skip) <;> (try (cases w <;> first | rfl | skip))
  rename_i i a
  simp only
  cases g[a]? with
  | none => rfl
  | some e =>
    rcases e with ⟨tt, nn, f | f | f | f | f⟩ | ⟨cc, fs⟩ <;> first | rfl | (simp only; rw [pmU_ite]; rfl)
theorem ez_laload (hc0 : M.2.2.1 = cc) (hd : decode cc pc = .ok (.laload, 1)) (hx : pc + 1 = nx) (L : pmL) (S : List Value) (g : pmH) : pmV M pc L S g = zLald M nx L S g := by
  subst hx
  rw [pm_at hc0 hd (Or.inl rfl)]
  show pmU M g (pmLald pc L S g) = _
  unfold pmLald zLald
  rcases S with _ | ⟨v, _ | ⟨w, r⟩⟩ <;> first | rfl | (cases v <;> first | rfl | skip) <;> (try (cases w <;> first | rfl | skip))
  rename_i i a
  simp only
  cases g[a]? with
  | none => rfl
  | some e =>
    rcases e with ⟨tt, nn, f | f | f | f | f⟩ | ⟨cc, fs⟩ <;> first | rfl | (simp only; rw [pmU_ite]; rfl)
theorem ez_aaload (hc0 : M.2.2.1 = cc) (hd : decode cc pc = .ok (.aaload, 1)) (hx : pc + 1 = nx) (L : pmL) (S : List Value) (g : pmH) : pmV M pc L S g = zAald M nx L S g := by
  subst hx
  rw [pm_at hc0 hd (Or.inl rfl)]
  show pmU M g (pmAald pc L S g) = _
  unfold pmAald zAald
  rcases S with _ | ⟨v, _ | ⟨w, r⟩⟩ <;> first | rfl | (cases v <;> first | rfl | skip) <;> (try (cases w <;> first | rfl | skip))
  rename_i i a
  simp only
  cases g[a]? with
  | none => rfl
  | some e =>
    rcases e with ⟨tt, nn, f | f | f | f | f⟩ | ⟨cc, fs⟩ <;> first | rfl | (simp only; rw [pmU_ite]; rfl)
theorem ez_iastore (hc0 : M.2.2.1 = cc) (hd : decode cc pc = .ok (.iastore, 1)) (hx : pc + 1 = nx) (L : pmL) (S : List Value) (g : pmH) : pmV M pc L S g = zIast M nx L S g := by
  subst hx
  rw [pm_at hc0 hd (Or.inl rfl)]
  show pmU M g (pmIast pc L S g) = _
  unfold pmIast zIast
  rcases S with _ | ⟨v, _ | ⟨w, _ | ⟨u, r⟩⟩⟩ <;> first | rfl | (cases v <;> first | rfl | skip) <;> (try (cases w <;> first | rfl | skip)) <;> (try (cases u <;> first | rfl | skip))
  rename_i x i a
  simp only
  cases g[a]? with
  | none => rfl
  | some e =>
    rcases e with ⟨tt, nn, f | f | f | f | f⟩ | ⟨cc, fs⟩ <;> first | rfl | (simp only; rw [pmU_ite]; rfl)
theorem ez_bastore (hc0 : M.2.2.1 = cc) (hd : decode cc pc = .ok (.bastore, 1)) (hx : pc + 1 = nx) (L : pmL) (S : List Value) (g : pmH) : pmV M pc L S g = zBast M nx L S g := by
  subst hx
  rw [pm_at hc0 hd (Or.inl rfl)]
  show pmU M g (pmBast pc L S g) = _
  unfold pmBast zBast
  rcases S with _ | ⟨v, _ | ⟨w, _ | ⟨u, r⟩⟩⟩ <;> first | rfl | (cases v <;> first | rfl | skip) <;> (try (cases w <;> first | rfl | skip)) <;> (try (cases u <;> first | rfl | skip))
  rename_i x i a
  simp only
  cases g[a]? with
  | none => rfl
  | some e =>
    rcases e with ⟨tt, nn, f | f | f | f | f⟩ | ⟨cc, fs⟩ <;> first | rfl | (simp only; rw [pmU_ite]; rfl)
theorem ez_arraylength (hc0 : M.2.2.1 = cc) (hd : decode cc pc = .ok (.arraylength, 1)) (hx : pc + 1 = nx) (L : pmL) (S : List Value) (g : pmH) : pmV M pc L S g = zLen M nx L S g := by
  subst hx
  rw [pm_at hc0 hd (Or.inl rfl)]
  show pmU M g (pmLen pc L S g) = _
  unfold pmLen zLen
  rcases S with _ | ⟨v, r⟩ <;> first | rfl | (cases v <;> first | rfl | skip)
  rename_i a
  simp only
  cases g[a]? with
  | none => rfl
  | some e =>
    rcases e with ⟨tt, nn, f | f | f | f | f⟩ | ⟨cc, fs⟩ <;> first | rfl | (simp only; rw [pmU_ite]; rfl)
theorem ez_aastore (hc0 : M.2.2.1 = cc) (hd : decode cc pc = .ok (.aastore, 1)) (hx : pc + 1 = nx) (L : pmL) (S : List Value) (g : pmH) : pmV M pc L S g = zAast M nx L S g := by
  subst hx
  rw [pm_at hc0 hd (Or.inl rfl)]
  show pmU M g (pmAast pc L S g) = _
  unfold pmAast zAast
  rcases S with _ | ⟨v, _ | ⟨w, _ | ⟨u, r⟩⟩⟩ <;> first | rfl | (cases v <;> first | rfl | skip) <;> (try (cases w <;> first | rfl | skip)) <;> (try (cases u <;> first | rfl | skip))
  rename_i a1 a2 a3
  simp only
  cases g[a3]? with
  | none => rfl
  | some e =>
    rcases e with ⟨tt, nn, f | f | f | f | f⟩ | ⟨cc, fs⟩ <;> first | rfl | skip
    cases g[a1]? with
    | none => rfl
    | some e2 =>
      rcases e2 with x | ⟨cc, fs⟩
      · rfl
      · simp only
        rw [pmU_ite]
        rfl
theorem ez_newarray_int (hc0 : M.2.2.1 = cc) (hd : decode cc pc = .ok (.newarray .int, 2)) (hx : pc + 2 = nx) (L : pmL) (S : List Value) (g : pmH) : pmV M pc L S g = zNewA M nx 0 L S g := by
  subst hx
  rw [pm_at hc0 hd (Or.inl rfl)]
  show pmU M g (pmNewA pc 0 L S g) = _
  rcases S with _ | ⟨v, r⟩ <;> first | rfl | (cases v <;> first | rfl | exact pmU_ite)
theorem ez_newarray_boolean (hc0 : M.2.2.1 = cc) (hd : decode cc pc = .ok (.newarray .boolean, 2)) (hx : pc + 2 = nx) (L : pmL) (S : List Value) (g : pmH) : pmV M pc L S g = zNewA M nx 1 L S g := by
  subst hx
  rw [pm_at hc0 hd (Or.inl rfl)]
  show pmU M g (pmNewA pc 1 L S g) = _
  rcases S with _ | ⟨v, r⟩ <;> first | rfl | (cases v <;> first | rfl | exact pmU_ite)
theorem ez_anewarray {i ci q : Nat} (hc0 : M.2.2.1 = cc) (hd : decode cc pc = .ok (.anewarray i, 3)) (hf : pmCls M.2.1 i = some (ci, q)) (hc : (ci = 10 ∧ t = 2) ∨ (ci = 1 ∧ t = 3)) (hx : pc + 3 = nx) (L : pmL) (S : List Value) (g : pmH) : pmV M pc L S g = zNewQ M nx t L S g := by
  subst hx
  rw [pm_at hc0 hd (Or.inl rfl)]
  show pmU M g (match pmCls M.2.1 i with | some (ci, _) => if ci = 10 then pmNewQ pc 2 L S g else if ci = 1 then pmNewQ pc 3 L S g else none | none => none) = _
  rw [hf]
  rcases hc with ⟨rfl, rfl⟩ | ⟨rfl, rfl⟩
  · show pmU M g (pmNewQ pc 2 L S g) = _
    rcases S with _ | ⟨v, r⟩ <;> first | rfl | (cases v <;> first | rfl | exact pmU_ite)
  · show pmU M g (pmNewQ pc 3 L S g) = _
    rcases S with _ | ⟨v, r⟩ <;> first | rfl | (cases v <;> first | rfl | exact pmU_ite)
theorem ez_new {i ci q : Nat} (hc0 : M.2.2.1 = cc) (hd : decode cc pc = .ok (.new i, 3)) (hf : pmCls M.2.1 i = some (ci, q)) (hc : ci < 13) (hx : pc + 3 = nx) (L : pmL) (S : List Value) (g : pmH) : pmV M pc L S g = zNew M nx ci L S g := by
  subst hx
  rw [pm_at hc0 hd (Or.inl rfl)]
  show pmU M g (match pmCls M.2.1 i with | some (ci, _) => if ci < 13 then pmNx (pc + 3) L (.ref g.length :: S) (g ++ [.inr (ci, pmDef ci)]) else none | none => none) = _
  rw [hf]
  show pmU M g (if ci < 13 then pmNx (pc + 3) L (.ref g.length :: S) (g ++ [.inr (ci, pmDef ci)]) else none) = _
  rw [if_pos hc]
  rfl
theorem pmCall_z {k : Nat} : pmU M g (pmCall M pc k N L S) = zCall M (pc + 3) k N L S g := by
  unfold pmCall zCall
  rw [pmU_ite]
  rfl
theorem ez_virtual {i n : Nat} {qs : Nat × Nat × Nat × Nat × Nat} (hc0 : M.2.2.1 = cc) (hd : decode cc pc = .ok (.invokevirtual i, 3)) (hf : pmMth M.2.1 i = some (0, n, N, qs)) (hx : pc + 3 = nx) (L : pmL) (S : List Value) (g : pmH) : pmV M pc L S g = zCallV M nx n N L S g := by
  subst hx
  rw [pm_at hc0 hd (Or.inl rfl)]
  show pmU M g (pmInvV M pc i L S g) = _
  unfold pmInvV zCallV
  rw [hf]
  simp only [true_and]
  rw [pmU_ite, pmCall_z]
  rfl
theorem ez_static {i n k : Nat} {qs : Nat × Nat × Nat × Nat × Nat} (hc0 : M.2.2.1 = cc) (hd : decode cc pc = .ok (.invokestatic i, 3)) (hf : pmMth M.2.1 i = some (k, n, N, qs)) (hk : k = 1 ∨ k = 5) (hx : pc + 3 = nx) (L : pmL) (S : List Value) (g : pmH) : pmV M pc L S g = zCall M nx n N L S g := by
  subst hx
  rw [pm_at hc0 hd (Or.inl rfl)]
  show pmU M g (pmInvS M pc i L S) = _
  unfold pmInvS
  rw [hf]
  simp only
  rw [if_pos hk]
  exact pmCall_z
theorem ez_special {i n k : Nat} {qs : Nat × Nat × Nat × Nat × Nat} (hc0 : M.2.2.1 = cc) (hd : decode cc pc = .ok (.invokespecial i, 3)) (ho : pmObj M.2.1 i = none) (hf : pmMth M.2.1 i = some (k, n, N, qs)) (hk : k = 2 ∨ k = 4) (hx : pc + 3 = nx) (L : pmL) (S : List Value) (g : pmH) : pmV M pc L S g = zCallV M nx n N L S g := by
  subst hx
  rw [pm_at hc0 hd (Or.inl rfl)]
  show pmU M g (pmInvI M pc i L S g) = _
  unfold pmInvI zCallV
  rw [ho, hf]
  simp only [hk, true_and]
  rw [pmU_ite, pmCall_z]
  rfl
theorem ez_objinit {i q : Nat} (hc0 : M.2.2.1 = cc) (hd : decode cc pc = .ok (.invokespecial i, 3)) (ho : pmObj M.2.1 i = some q) (hx : pc + 3 = nx) (L : pmL) (S : List Value) (g : pmH) : pmV M pc L S g = zObj M nx L S g := by
  subst hx
  rw [pm_at hc0 hd (Or.inl rfl)]
  show pmU M g (pmInvI M pc i L S g) = _
  unfold pmInvI zObj
  rw [ho]
  rcases S with _ | ⟨v, r⟩ <;> first | rfl | (cases v <;> first | rfl | exact pmU_ite)
theorem ez_ireturn (hc0 : M.2.2.1 = cc) (hd : decode cc pc = .ok (.ireturn, 1)) (L : pmL) (S : List Value) (g : pmH) : pmV M pc L S g = zIret M S g := by
  rw [pm_at hc0 hd (Or.inl rfl)]
  obtain ⟨y, o', cd, ml, rt, rk⟩ := M
  rcases S with _ | ⟨v, _ | ⟨w, r⟩⟩ <;> first | rfl | (cases v <;> first | rfl | (cases rt <;> first | rfl | exact pmU_ite))
theorem ez_lreturn (hc0 : M.2.2.1 = cc) (hd : decode cc pc = .ok (.lreturn, 1)) (hr : M.2.2.2.2.1 = some .long) (L : pmL) (S : List Value) (g : pmH) : pmV M pc L S g = zLret S g := by
  rw [pm_at hc0 hd (Or.inl rfl)]
  obtain ⟨y, o', cd, ml, rt, rk⟩ := M
  simp only at hr
  subst hr
  rcases S with _ | ⟨v, _ | ⟨w, r⟩⟩ <;> first | rfl | (cases v <;> rfl)
theorem ez_return (hc0 : M.2.2.1 = cc) (hd : decode cc pc = .ok (.return_, 1)) (hr : M.2.2.2.2.1 = none) (L : pmL) (S : List Value) (g : pmH) : pmV M pc L S g = zVret S g := by
  rw [pm_at hc0 hd (Or.inl rfl)]
  obtain ⟨y, o', cd, ml, rt, rk⟩ := M
  simp only at hr
  subst hr
  cases S <;> rfl
end ZEE
