section PMU
variable {G : pmG} {M : pmM} {p : Program} {l : Launch} {e : Env} {R : Room} {s : State} {m : MethodId} {args : Array Value} {below : List Frame} {meth : Method} {c : Code} {Q : State → Prop} {c0 s0 : Nat} {pc pc' n i : Nat} {L L' : pmL} {S S' : List Value} {g g' : pmH}
/-! the pure heap only grows -/
def pmGr (g g' : pmH) : Prop := g.length ≤ g'.length ∧ pmSz g ≤ pmSz g'
theorem pmGr_rf : pmGr g g := ⟨Nat.le_refl _, Nat.le_refl _⟩
theorem pmGr_set {a : Nat} {e0 e1 : va_E} (h : g[a]? = some e0) (he : pmSzE e1 = pmSzE e0) : pmGr g (g.set a e1) := ⟨by rw [List.length_set]; exact Nat.le_refl _, by rw [pmSz_set h he]; exact Nat.le_refl _⟩
theorem pmGr_push {e1 : va_E} : pmGr g (g ++ [e1]) := ⟨by rw [List.length_append]; omega, by rw [pmSz_push]; omega⟩
theorem pmGr_tr {g'' : pmH} (h : pmGr g g') (h2 : pmGr g' g'') : pmGr g g'' := ⟨Nat.le_trans h.1 h2.1, Nat.le_trans h.2 h2.2⟩
theorem pmGr_nx {a : Nat} {b : pmL} {d : List Value} (h : pmNx a b d g = some (.inl (pc', L', S', g'))) : pmGr g g' := by
  obtain ⟨-, -, -, rfl⟩ := pm_nx h
  exact pmGr_rf
theorem gr_pmII {f : Int32 → Int32 → Int32} (hs : pmII pc L S g f = some (.inl (pc', L', S', g'))) : pmGr g g' := by
  unfold pmII at hs
  repeat' split at hs
  all_goals first | (cases hs; done) | exact pmGr_nx hs | (obtain ⟨_, _, hs⟩ := Option.bind_eq_some_iff.mp hs; exact pmGr_nx hs) | (obtain ⟨_, _, hs⟩ := Option.bind_eq_some_iff.mp hs; obtain ⟨_, _, hs⟩ := Option.bind_eq_some_iff.mp hs; exact pmGr_nx hs)
theorem gr_pmIIz {f : Int32 → Int32 → Int32} (hs : pmIIz pc L S g f = some (.inl (pc', L', S', g'))) : pmGr g g' := by
  unfold pmIIz at hs
  repeat' split at hs
  all_goals first | (cases hs; done) | exact pmGr_nx hs | (obtain ⟨_, _, hs⟩ := Option.bind_eq_some_iff.mp hs; exact pmGr_nx hs) | (obtain ⟨_, _, hs⟩ := Option.bind_eq_some_iff.mp hs; obtain ⟨_, _, hs⟩ := Option.bind_eq_some_iff.mp hs; exact pmGr_nx hs)
theorem gr_pmJJ {f : Int64 → Int64 → Int64} (hs : pmJJ pc L S g f = some (.inl (pc', L', S', g'))) : pmGr g g' := by
  unfold pmJJ at hs
  repeat' split at hs
  all_goals first | (cases hs; done) | exact pmGr_nx hs | (obtain ⟨_, _, hs⟩ := Option.bind_eq_some_iff.mp hs; exact pmGr_nx hs) | (obtain ⟨_, _, hs⟩ := Option.bind_eq_some_iff.mp hs; obtain ⟨_, _, hs⟩ := Option.bind_eq_some_iff.mp hs; exact pmGr_nx hs)
theorem gr_pmJJz {f : Int64 → Int64 → Int64} (hs : pmJJz pc L S g f = some (.inl (pc', L', S', g'))) : pmGr g g' := by
  unfold pmJJz at hs
  repeat' split at hs
  all_goals first | (cases hs; done) | exact pmGr_nx hs | (obtain ⟨_, _, hs⟩ := Option.bind_eq_some_iff.mp hs; exact pmGr_nx hs) | (obtain ⟨_, _, hs⟩ := Option.bind_eq_some_iff.mp hs; obtain ⟨_, _, hs⟩ := Option.bind_eq_some_iff.mp hs; exact pmGr_nx hs)
theorem gr_pmJI {f : Int64 → Int32 → Int64} (hs : pmJI pc L S g f = some (.inl (pc', L', S', g'))) : pmGr g g' := by
  unfold pmJI at hs
  repeat' split at hs
  all_goals first | (cases hs; done) | exact pmGr_nx hs | (obtain ⟨_, _, hs⟩ := Option.bind_eq_some_iff.mp hs; exact pmGr_nx hs) | (obtain ⟨_, _, hs⟩ := Option.bind_eq_some_iff.mp hs; obtain ⟨_, _, hs⟩ := Option.bind_eq_some_iff.mp hs; exact pmGr_nx hs)
theorem gr_pmLdI (hs : pmLdI n i L S g = some (.inl (pc', L', S', g'))) : pmGr g g' := by
  unfold pmLdI at hs
  repeat' split at hs
  all_goals first | (cases hs; done) | exact pmGr_nx hs | (obtain ⟨_, _, hs⟩ := Option.bind_eq_some_iff.mp hs; exact pmGr_nx hs) | (obtain ⟨_, _, hs⟩ := Option.bind_eq_some_iff.mp hs; obtain ⟨_, _, hs⟩ := Option.bind_eq_some_iff.mp hs; exact pmGr_nx hs)
theorem gr_pmLdJ (hs : pmLdJ n i L S g = some (.inl (pc', L', S', g'))) : pmGr g g' := by
  unfold pmLdJ at hs
  repeat' split at hs
  all_goals first | (cases hs; done) | exact pmGr_nx hs | (obtain ⟨_, _, hs⟩ := Option.bind_eq_some_iff.mp hs; exact pmGr_nx hs) | (obtain ⟨_, _, hs⟩ := Option.bind_eq_some_iff.mp hs; obtain ⟨_, _, hs⟩ := Option.bind_eq_some_iff.mp hs; exact pmGr_nx hs)
theorem gr_pmLdA (hs : pmLdA n i L S g = some (.inl (pc', L', S', g'))) : pmGr g g' := by
  unfold pmLdA at hs
  repeat' split at hs
  all_goals first | (cases hs; done) | exact pmGr_nx hs | (obtain ⟨_, _, hs⟩ := Option.bind_eq_some_iff.mp hs; exact pmGr_nx hs) | (obtain ⟨_, _, hs⟩ := Option.bind_eq_some_iff.mp hs; obtain ⟨_, _, hs⟩ := Option.bind_eq_some_iff.mp hs; exact pmGr_nx hs)
theorem gr_pmStI (hs : pmStI n i L S g = some (.inl (pc', L', S', g'))) : pmGr g g' := by
  unfold pmStI at hs
  repeat' split at hs
  all_goals first | (cases hs; done) | exact pmGr_nx hs | (obtain ⟨_, _, hs⟩ := Option.bind_eq_some_iff.mp hs; exact pmGr_nx hs) | (obtain ⟨_, _, hs⟩ := Option.bind_eq_some_iff.mp hs; obtain ⟨_, _, hs⟩ := Option.bind_eq_some_iff.mp hs; exact pmGr_nx hs)
theorem gr_pmStA (hs : pmStA n i L S g = some (.inl (pc', L', S', g'))) : pmGr g g' := by
  unfold pmStA at hs
  repeat' split at hs
  all_goals first | (cases hs; done) | exact pmGr_nx hs | (obtain ⟨_, _, hs⟩ := Option.bind_eq_some_iff.mp hs; exact pmGr_nx hs) | (obtain ⟨_, _, hs⟩ := Option.bind_eq_some_iff.mp hs; obtain ⟨_, _, hs⟩ := Option.bind_eq_some_iff.mp hs; exact pmGr_nx hs)
theorem gr_pmStJ (hs : pmStJ n i L S g = some (.inl (pc', L', S', g'))) : pmGr g g' := by
  unfold pmStJ at hs
  repeat' split at hs
  all_goals first | (cases hs; done) | exact pmGr_nx hs | (obtain ⟨_, _, hs⟩ := Option.bind_eq_some_iff.mp hs; exact pmGr_nx hs) | (obtain ⟨_, _, hs⟩ := Option.bind_eq_some_iff.mp hs; obtain ⟨_, _, hs⟩ := Option.bind_eq_some_iff.mp hs; exact pmGr_nx hs)
theorem gr_pmInc {d : Int} (hs : pmInc n i d L S g = some (.inl (pc', L', S', g'))) : pmGr g g' := by
  unfold pmInc at hs
  repeat' split at hs
  all_goals first | (cases hs; done) | exact pmGr_nx hs | (obtain ⟨_, _, hs⟩ := Option.bind_eq_some_iff.mp hs; exact pmGr_nx hs) | (obtain ⟨_, _, hs⟩ := Option.bind_eq_some_iff.mp hs; obtain ⟨_, _, hs⟩ := Option.bind_eq_some_iff.mp hs; exact pmGr_nx hs)
theorem gr_pmGo {d : Int} (hs : pmGo n d L S g = some (.inl (pc', L', S', g'))) : pmGr g g' := by
  unfold pmGo at hs
  repeat' split at hs
  all_goals first | (cases hs; done) | exact pmGr_nx hs | (obtain ⟨_, _, hs⟩ := Option.bind_eq_some_iff.mp hs; exact pmGr_nx hs) | (obtain ⟨_, _, hs⟩ := Option.bind_eq_some_iff.mp hs; obtain ⟨_, _, hs⟩ := Option.bind_eq_some_iff.mp hs; exact pmGr_nx hs)
theorem gr_pmBr2 {cd : Jvm.ClassFile.Cond} {d : Int} (hs : pmBr2 pc cd d L S g = some (.inl (pc', L', S', g'))) : pmGr g g' := by
  unfold pmBr2 at hs
  repeat' split at hs
  all_goals first | (cases hs; done) | exact pmGr_nx hs | (obtain ⟨_, _, hs⟩ := Option.bind_eq_some_iff.mp hs; exact pmGr_nx hs) | (obtain ⟨_, _, hs⟩ := Option.bind_eq_some_iff.mp hs; obtain ⟨_, _, hs⟩ := Option.bind_eq_some_iff.mp hs; exact pmGr_nx hs)
theorem gr_pmBr1 {cd : Jvm.ClassFile.Cond} {d : Int} (hs : pmBr1 pc cd d L S g = some (.inl (pc', L', S', g'))) : pmGr g g' := by
  unfold pmBr1 at hs
  repeat' split at hs
  all_goals first | (cases hs; done) | exact pmGr_nx hs | (obtain ⟨_, _, hs⟩ := Option.bind_eq_some_iff.mp hs; exact pmGr_nx hs) | (obtain ⟨_, _, hs⟩ := Option.bind_eq_some_iff.mp hs; obtain ⟨_, _, hs⟩ := Option.bind_eq_some_iff.mp hs; exact pmGr_nx hs)
theorem gr_pmTab {d lo hi : Int} {os : Array Int} (hs : pmTab pc d lo hi os L S g = some (.inl (pc', L', S', g'))) : pmGr g g' := by
  unfold pmTab at hs
  repeat' split at hs
  all_goals first | (cases hs; done) | exact pmGr_nx hs | (obtain ⟨_, _, hs⟩ := Option.bind_eq_some_iff.mp hs; exact pmGr_nx hs) | (obtain ⟨_, _, hs⟩ := Option.bind_eq_some_iff.mp hs; obtain ⟨_, _, hs⟩ := Option.bind_eq_some_iff.mp hs; exact pmGr_nx hs)
theorem gr_pmLook {d : Int} {ps : Array (Int × Int)} (hs : pmLook pc d ps L S g = some (.inl (pc', L', S', g'))) : pmGr g g' := by
  unfold pmLook at hs
  repeat' split at hs
  all_goals first | (cases hs; done) | exact pmGr_nx hs | (obtain ⟨_, _, hs⟩ := Option.bind_eq_some_iff.mp hs; exact pmGr_nx hs) | (obtain ⟨_, _, hs⟩ := Option.bind_eq_some_iff.mp hs; obtain ⟨_, _, hs⟩ := Option.bind_eq_some_iff.mp hs; exact pmGr_nx hs)
theorem gr_pmGet {a b : Nat} (hs : pmGet pc a b L S g = some (.inl (pc', L', S', g'))) : pmGr g g' := by
  unfold pmGet at hs
  repeat' split at hs
  all_goals first | (cases hs; done) | exact pmGr_nx hs | (obtain ⟨_, _, hs⟩ := Option.bind_eq_some_iff.mp hs; exact pmGr_nx hs) | (obtain ⟨_, _, hs⟩ := Option.bind_eq_some_iff.mp hs; obtain ⟨_, _, hs⟩ := Option.bind_eq_some_iff.mp hs; exact pmGr_nx hs)
theorem gr_pmIald (hs : pmIald pc L S g = some (.inl (pc', L', S', g'))) : pmGr g g' := by
  unfold pmIald at hs
  repeat' split at hs
  all_goals first | (cases hs; done) | exact pmGr_nx hs | (obtain ⟨_, _, hs⟩ := Option.bind_eq_some_iff.mp hs; exact pmGr_nx hs) | (obtain ⟨_, _, hs⟩ := Option.bind_eq_some_iff.mp hs; obtain ⟨_, _, hs⟩ := Option.bind_eq_some_iff.mp hs; exact pmGr_nx hs)
theorem gr_pmBald (hs : pmBald pc L S g = some (.inl (pc', L', S', g'))) : pmGr g g' := by
  unfold pmBald at hs
  repeat' split at hs
  all_goals first | (cases hs; done) | exact pmGr_nx hs | (obtain ⟨_, _, hs⟩ := Option.bind_eq_some_iff.mp hs; exact pmGr_nx hs) | (obtain ⟨_, _, hs⟩ := Option.bind_eq_some_iff.mp hs; obtain ⟨_, _, hs⟩ := Option.bind_eq_some_iff.mp hs; exact pmGr_nx hs)
theorem gr_pmLald (hs : pmLald pc L S g = some (.inl (pc', L', S', g'))) : pmGr g g' := by
  unfold pmLald at hs
  repeat' split at hs
  all_goals first | (cases hs; done) | exact pmGr_nx hs | (obtain ⟨_, _, hs⟩ := Option.bind_eq_some_iff.mp hs; exact pmGr_nx hs) | (obtain ⟨_, _, hs⟩ := Option.bind_eq_some_iff.mp hs; obtain ⟨_, _, hs⟩ := Option.bind_eq_some_iff.mp hs; exact pmGr_nx hs)
theorem gr_pmAald (hs : pmAald pc L S g = some (.inl (pc', L', S', g'))) : pmGr g g' := by
  unfold pmAald at hs
  repeat' split at hs
  all_goals first | (cases hs; done) | exact pmGr_nx hs | (obtain ⟨_, _, hs⟩ := Option.bind_eq_some_iff.mp hs; exact pmGr_nx hs) | (obtain ⟨_, _, hs⟩ := Option.bind_eq_some_iff.mp hs; obtain ⟨_, _, hs⟩ := Option.bind_eq_some_iff.mp hs; exact pmGr_nx hs)
theorem gr_pmLen (hs : pmLen pc L S g = some (.inl (pc', L', S', g'))) : pmGr g g' := by
  unfold pmLen at hs
  repeat' split at hs
  all_goals first | (cases hs; done) | exact pmGr_nx hs | (obtain ⟨_, _, hs⟩ := Option.bind_eq_some_iff.mp hs; exact pmGr_nx hs) | (obtain ⟨_, _, hs⟩ := Option.bind_eq_some_iff.mp hs; obtain ⟨_, _, hs⟩ := Option.bind_eq_some_iff.mp hs; exact pmGr_nx hs)
theorem gr_pmPut {a b : Nat} (hs : pmPut M pc a b L S g = some (.inl (pc', L', S', g'))) : pmGr g g' := by
  unfold pmPut at hs
  repeat' split at hs
  all_goals first | (cases hs; done) | (obtain ⟨-, -, -, rfl⟩ := pm_nx hs; first | exact pmGr_push | (apply pmGr_set; assumption; first | rfl | (rename_i hc; obtain ⟨rfl, _⟩ := hc; rfl)))
theorem gr_pmIast (hs : pmIast pc L S g = some (.inl (pc', L', S', g'))) : pmGr g g' := by
  unfold pmIast at hs
  repeat' split at hs
  all_goals first | (cases hs; done) | (obtain ⟨-, -, -, rfl⟩ := pm_nx hs; first | exact pmGr_push | (apply pmGr_set; assumption; first | rfl | (rename_i hc; obtain ⟨rfl, _⟩ := hc; rfl)))
theorem gr_pmBast (hs : pmBast pc L S g = some (.inl (pc', L', S', g'))) : pmGr g g' := by
  unfold pmBast at hs
  repeat' split at hs
  all_goals first | (cases hs; done) | (obtain ⟨-, -, -, rfl⟩ := pm_nx hs; first | exact pmGr_push | (apply pmGr_set; assumption; first | rfl | (rename_i hc; obtain ⟨rfl, _⟩ := hc; rfl)))
theorem gr_pmAast (hs : pmAast pc L S g = some (.inl (pc', L', S', g'))) : pmGr g g' := by
  unfold pmAast at hs
  repeat' split at hs
  all_goals first | (cases hs; done) | (obtain ⟨-, -, -, rfl⟩ := pm_nx hs; first | exact pmGr_push | (apply pmGr_set; assumption; first | rfl | (rename_i hc; obtain ⟨rfl, _⟩ := hc; rfl)))
theorem gr_pmNewA {t : Nat} (hs : pmNewA pc t L S g = some (.inl (pc', L', S', g'))) : pmGr g g' := by
  unfold pmNewA at hs
  repeat' split at hs
  all_goals first | (cases hs; done) | (obtain ⟨-, -, -, rfl⟩ := pm_nx hs; first | exact pmGr_push | (apply pmGr_set; assumption; first | rfl | (rename_i hc; obtain ⟨rfl, _⟩ := hc; rfl)))
theorem gr_pmNewQ {t : Nat} (hs : pmNewQ pc t L S g = some (.inl (pc', L', S', g'))) : pmGr g g' := by
  unfold pmNewQ at hs
  repeat' split at hs
  all_goals first | (cases hs; done) | (obtain ⟨-, -, -, rfl⟩ := pm_nx hs; first | exact pmGr_push | (apply pmGr_set; assumption; first | rfl | (rename_i hc; obtain ⟨rfl, _⟩ := hc; rfl)))
theorem pmCall_ni {k : Nat} {N : pmM} : ¬ pmCall M pc k N L S = some (.inl (pc', L', S', g')) := by
  intro h
  unfold pmCall at h
  split at h <;> cases h
theorem pm_cat : ∀ (r : List Value), (r.map fun v => v.category).sum ≤ 2 * r.length
  | [] => Nat.le_refl _
  | v :: r => by
    have h1 := pm_cat r
    have h2 := lv_cat v
    simp only [List.map_cons, List.sum_cons, List.length_cons]
    omega
theorem pm_push' {v : Value} (hop : ∀ (H : Heap) (locs : List Loc) (ls : Array Slot) (cells slots : Nat), va_S (pA G) s.heap H locs → W p l e R s m args below meth c H locs cells slots Q (F0 m n ls (pV G v :: S.map (pV G))) → W p l e R s m args below meth c H locs cells slots Q (F0 m pc ls (S.map (pV G)))) (hs : pmNx n L (v :: S) g = some (.inl (pc', L', S', g'))) (k : pmOK G M p l e R s m args below meth c Q c0 s0 pc' L' S' g') : pmOK G M p l e R s m args below meth c Q c0 s0 pc L S g := by
  obtain ⟨rfl, rfl, rfl, rfl⟩ := pm_nx hs
  exact fun H locs ls cells slots h1 h2 h3 h4 h5 => hop H locs ls cells slots h2 (k H locs ls cells slots h1 h2 h3 h4 h5)
set_option maxHeartbeats 4000000 in
theorem pm_grow (hs : pmS M pc L S g = some (.inl (pc', L', S', g'))) : pmGr g g' := by
  unfold pmS at hs
  split at hs
  · rename_i ins n hd
    split at hs
    · rename_i hn
      cases ins with
      | iload_n q =>
        obtain rfl : n = 1 := hn.resolve_right (fun (z : 1 = 0) => absurd z (by decide))
        exact gr_pmLdI hs
      | lload_n q =>
        obtain rfl : n = 1 := hn.resolve_right (fun (z : 1 = 0) => absurd z (by decide))
        exact gr_pmLdJ hs
      | aload_n q =>
        obtain rfl : n = 1 := hn.resolve_right (fun (z : 1 = 0) => absurd z (by decide))
        exact gr_pmLdA hs
      | iload q =>
        obtain rfl : n = 2 := hn.resolve_right (fun (z : 2 = 0) => absurd z (by decide))
        exact gr_pmLdI hs
      | lload q =>
        obtain rfl : n = 2 := hn.resolve_right (fun (z : 2 = 0) => absurd z (by decide))
        exact gr_pmLdJ hs
      | aload q =>
        obtain rfl : n = 2 := hn.resolve_right (fun (z : 2 = 0) => absurd z (by decide))
        exact gr_pmLdA hs
      | iconst q =>
        obtain rfl : n = 1 := hn.resolve_right (fun (z : 1 = 0) => absurd z (by decide))
        exact pmGr_nx hs
      | bipush q =>
        obtain rfl : n = 2 := hn.resolve_right (fun (z : 2 = 0) => absurd z (by decide))
        exact pmGr_nx hs
      | sipush q =>
        obtain rfl : n = 3 := hn.resolve_right (fun (z : 3 = 0) => absurd z (by decide))
        exact pmGr_nx hs
      | lconst q =>
        obtain rfl : n = 1 := hn.resolve_right (fun (z : 1 = 0) => absurd z (by decide))
        exact pmGr_nx hs
      | istore_n q =>
        obtain rfl : n = 1 := hn.resolve_right (fun (z : 1 = 0) => absurd z (by decide))
        exact gr_pmStI hs
      | istore q =>
        obtain rfl : n = 2 := hn.resolve_right (fun (z : 2 = 0) => absurd z (by decide))
        exact gr_pmStI hs
      | astore_n q =>
        obtain rfl : n = 1 := hn.resolve_right (fun (z : 1 = 0) => absurd z (by decide))
        exact gr_pmStA hs
      | astore q =>
        obtain rfl : n = 2 := hn.resolve_right (fun (z : 2 = 0) => absurd z (by decide))
        exact gr_pmStA hs
      | lstore_n q =>
        obtain rfl : n = 1 := hn.resolve_right (fun (z : 1 = 0) => absurd z (by decide))
        exact gr_pmStJ hs
      | iinc q d =>
        obtain rfl : n = 3 := hn.resolve_right (fun (z : 3 = 0) => absurd z (by decide))
        exact gr_pmInc hs
      | iadd =>
        obtain rfl : n = 1 := hn.resolve_right (fun (z : 1 = 0) => absurd z (by decide))
        exact gr_pmII hs
      | isub =>
        obtain rfl : n = 1 := hn.resolve_right (fun (z : 1 = 0) => absurd z (by decide))
        exact gr_pmII hs
      | imul =>
        obtain rfl : n = 1 := hn.resolve_right (fun (z : 1 = 0) => absurd z (by decide))
        exact gr_pmII hs
      | iand =>
        obtain rfl : n = 1 := hn.resolve_right (fun (z : 1 = 0) => absurd z (by decide))
        exact gr_pmII hs
      | ior =>
        obtain rfl : n = 1 := hn.resolve_right (fun (z : 1 = 0) => absurd z (by decide))
        exact gr_pmII hs
      | ixor =>
        obtain rfl : n = 1 := hn.resolve_right (fun (z : 1 = 0) => absurd z (by decide))
        exact gr_pmII hs
      | ishl =>
        obtain rfl : n = 1 := hn.resolve_right (fun (z : 1 = 0) => absurd z (by decide))
        exact gr_pmII hs
      | ishr =>
        obtain rfl : n = 1 := hn.resolve_right (fun (z : 1 = 0) => absurd z (by decide))
        exact gr_pmII hs
      | iushr =>
        obtain rfl : n = 1 := hn.resolve_right (fun (z : 1 = 0) => absurd z (by decide))
        exact gr_pmII hs
      | idiv =>
        obtain rfl : n = 1 := hn.resolve_right (fun (z : 1 = 0) => absurd z (by decide))
        exact gr_pmIIz hs
      | irem =>
        obtain rfl : n = 1 := hn.resolve_right (fun (z : 1 = 0) => absurd z (by decide))
        exact gr_pmIIz hs
      | ladd =>
        obtain rfl : n = 1 := hn.resolve_right (fun (z : 1 = 0) => absurd z (by decide))
        exact gr_pmJJ hs
      | lsub =>
        obtain rfl : n = 1 := hn.resolve_right (fun (z : 1 = 0) => absurd z (by decide))
        exact gr_pmJJ hs
      | lmul =>
        obtain rfl : n = 1 := hn.resolve_right (fun (z : 1 = 0) => absurd z (by decide))
        exact gr_pmJJ hs
      | land =>
        obtain rfl : n = 1 := hn.resolve_right (fun (z : 1 = 0) => absurd z (by decide))
        exact gr_pmJJ hs
      | lor =>
        obtain rfl : n = 1 := hn.resolve_right (fun (z : 1 = 0) => absurd z (by decide))
        exact gr_pmJJ hs
      | ldiv =>
        obtain rfl : n = 1 := hn.resolve_right (fun (z : 1 = 0) => absurd z (by decide))
        exact gr_pmJJz hs
      | lrem =>
        obtain rfl : n = 1 := hn.resolve_right (fun (z : 1 = 0) => absurd z (by decide))
        exact gr_pmJJz hs
      | lshl =>
        obtain rfl : n = 1 := hn.resolve_right (fun (z : 1 = 0) => absurd z (by decide))
        exact gr_pmJI hs
      | lushr =>
        obtain rfl : n = 1 := hn.resolve_right (fun (z : 1 = 0) => absurd z (by decide))
        exact gr_pmJI hs
      | goto q =>
        obtain rfl : n = 3 := hn.resolve_right (fun (z : 3 = 0) => absurd z (by decide))
        exact gr_pmGo hs
      | tableswitch d lo hi os => exact gr_pmTab hs
      | lookupswitch d ps => exact gr_pmLook hs
      | iaload =>
        obtain rfl : n = 1 := hn.resolve_right (fun (z : 1 = 0) => absurd z (by decide))
        exact gr_pmIald hs
      | baload =>
        obtain rfl : n = 1 := hn.resolve_right (fun (z : 1 = 0) => absurd z (by decide))
        exact gr_pmBald hs
      | laload =>
        obtain rfl : n = 1 := hn.resolve_right (fun (z : 1 = 0) => absurd z (by decide))
        exact gr_pmLald hs
      | aaload =>
        obtain rfl : n = 1 := hn.resolve_right (fun (z : 1 = 0) => absurd z (by decide))
        exact gr_pmAald hs
      | iastore =>
        obtain rfl : n = 1 := hn.resolve_right (fun (z : 1 = 0) => absurd z (by decide))
        exact gr_pmIast hs
      | bastore =>
        obtain rfl : n = 1 := hn.resolve_right (fun (z : 1 = 0) => absurd z (by decide))
        exact gr_pmBast hs
      | aastore =>
        obtain rfl : n = 1 := hn.resolve_right (fun (z : 1 = 0) => absurd z (by decide))
        exact gr_pmAast hs
      | arraylength =>
        obtain rfl : n = 1 := hn.resolve_right (fun (z : 1 = 0) => absurd z (by decide))
        exact gr_pmLen hs
      | ineg =>
        obtain rfl : n = 1 := hn.resolve_right (fun (z : 1 = 0) => absurd z (by decide))
        exact (by
          simp only [pmI] at hs
          repeat' split at hs
          all_goals first | (cases hs; done) | exact pmGr_nx hs)
      | i2l =>
        obtain rfl : n = 1 := hn.resolve_right (fun (z : 1 = 0) => absurd z (by decide))
        exact (by
          simp only [pmI] at hs
          repeat' split at hs
          all_goals first | (cases hs; done) | exact pmGr_nx hs)
      | l2i =>
        obtain rfl : n = 1 := hn.resolve_right (fun (z : 1 = 0) => absurd z (by decide))
        exact (by
          simp only [pmI] at hs
          repeat' split at hs
          all_goals first | (cases hs; done) | exact pmGr_nx hs)
      | lcmp =>
        obtain rfl : n = 1 := hn.resolve_right (fun (z : 1 = 0) => absurd z (by decide))
        exact (by
          simp only [pmI] at hs
          repeat' split at hs
          all_goals first | (cases hs; done) | exact pmGr_nx hs)
      | dup =>
        obtain rfl : n = 1 := hn.resolve_right (fun (z : 1 = 0) => absurd z (by decide))
        exact (by
          simp only [pmI] at hs
          repeat' split at hs
          all_goals first | (cases hs; done) | exact pmGr_nx hs)
      | dup2 =>
        obtain rfl : n = 1 := hn.resolve_right (fun (z : 1 = 0) => absurd z (by decide))
        exact (by
          simp only [pmI] at hs
          repeat' split at hs
          all_goals first | (cases hs; done) | exact pmGr_nx hs)
      | pop =>
        obtain rfl : n = 1 := hn.resolve_right (fun (z : 1 = 0) => absurd z (by decide))
        exact (by
          simp only [pmI] at hs
          repeat' split at hs
          all_goals first | (cases hs; done) | exact pmGr_nx hs)
      | if_icmp cd q =>
        obtain rfl : n = 3 := hn.resolve_right (fun (z : 3 = 0) => absurd z (by decide))
        exact gr_pmBr2 hs
      | ifCond cd q =>
        obtain rfl : n = 3 := hn.resolve_right (fun (z : 3 = 0) => absurd z (by decide))
        exact gr_pmBr1 hs
      | ldc_w q =>
        obtain rfl : n = 3 := hn.resolve_right (fun (z : 3 = 0) => absurd z (by decide))
        exact (by
          simp only [pmI] at hs
          repeat' split at hs
          all_goals first | (cases hs; done) | exact pmGr_nx hs)
      | ldc2_w q =>
        obtain rfl : n = 3 := hn.resolve_right (fun (z : 3 = 0) => absurd z (by decide))
        exact (by
          simp only [pmI] at hs
          repeat' split at hs
          all_goals first | (cases hs; done) | exact pmGr_nx hs)
      | getfield q =>
        obtain rfl : n = 3 := hn.resolve_right (fun (z : 3 = 0) => absurd z (by decide))
        exact (by
          simp only [pmI] at hs
          split at hs
          · exact gr_pmGet hs
          · cases hs)
      | putfield q =>
        obtain rfl : n = 3 := hn.resolve_right (fun (z : 3 = 0) => absurd z (by decide))
        exact (by
          simp only [pmI] at hs
          split at hs
          · exact gr_pmPut hs
          · cases hs)
      | getstatic q =>
        obtain rfl : n = 3 := hn.resolve_right (fun (z : 3 = 0) => absurd z (by decide))
        exact (by
          simp only [pmI] at hs
          repeat' split at hs
          all_goals first | (cases hs; done) | exact pmGr_nx hs)
      | newarray q =>
        obtain rfl : n = 2 := hn.resolve_right (fun (z : 2 = 0) => absurd z (by decide))
        exact (by
          cases q <;> first | (cases hs; done) | exact gr_pmNewA hs)
      | anewarray q =>
        obtain rfl : n = 3 := hn.resolve_right (fun (z : 3 = 0) => absurd z (by decide))
        exact (by
          simp only [pmI] at hs
          repeat' split at hs
          all_goals first | (cases hs; done) | exact gr_pmNewQ hs)
      | new q =>
        obtain rfl : n = 3 := hn.resolve_right (fun (z : 3 = 0) => absurd z (by decide))
        exact (by
          simp only [pmI] at hs
          repeat' split at hs
          all_goals first | (cases hs; done) | (obtain ⟨-, -, -, rfl⟩ := pm_nx hs; exact pmGr_push))
      | invokespecial q =>
        obtain rfl : n = 3 := hn.resolve_right (fun (z : 3 = 0) => absurd z (by decide))
        exact (by
          have hs : pmInvI M pc q L S g = some (.inl (pc', L', S', g')) := hs
          unfold pmInvI at hs
          repeat' split at hs
          all_goals first | (cases hs; done) | exact pmGr_nx hs | exact absurd hs pmCall_ni)
      | invokevirtual q =>
        obtain rfl : n = 3 := hn.resolve_right (fun (z : 3 = 0) => absurd z (by decide))
        exact (by
          have hs : pmInvV M pc q L S g = some (.inl (pc', L', S', g')) := hs
          unfold pmInvV at hs
          repeat' split at hs
          all_goals first | (cases hs; done) | exact absurd hs pmCall_ni)
      | invokestatic q =>
        obtain rfl : n = 3 := hn.resolve_right (fun (z : 3 = 0) => absurd z (by decide))
        exact (by
          have hs : pmInvS M pc q L S = some (.inl (pc', L', S', g')) := hs
          unfold pmInvS at hs
          repeat' split at hs
          all_goals first | (cases hs; done) | exact absurd hs pmCall_ni)
      | ireturn =>
        obtain rfl : n = 1 := hn.resolve_right (fun (z : 1 = 0) => absurd z (by decide))
        exact (by
          simp only [pmI] at hs
          repeat' split at hs
          all_goals (cases hs; done))
      | lreturn =>
        obtain rfl : n = 1 := hn.resolve_right (fun (z : 1 = 0) => absurd z (by decide))
        exact (by
          simp only [pmI] at hs
          repeat' split at hs
          all_goals (cases hs; done))
      | return_ =>
        obtain rfl : n = 1 := hn.resolve_right (fun (z : 1 = 0) => absurd z (by decide))
        exact (by
          simp only [pmI] at hs
          repeat' split at hs
          all_goals (cases hs; done))
      | _ => cases hs
    · cases hs
  · cases hs
set_option maxHeartbeats 4000000 in
theorem pm_step (hz0 : s.heap.size + 3 = pgB G + c0 ∧ 3 ≤ c0) (hrm : g'.length ≤ c0 + R.cells ∧ pmSz g' ≤ s0 + R.slots) (hfr : 1 ≤ R.frames ∧ 40 ≤ R.locals) (hF : pmFx M p s m args meth c) (hK : pmK G s s.heap) (hL : L.length = M.2.2.2.1) (hs : pmS M pc L S g = some (.inl (pc', L', S', g'))) (k : pmOK G M p l e R s m args below meth c Q c0 s0 pc' L' S' g') : pmOK G M p l e R s m args below meth c Q c0 s0 pc L S g := by
  unfold pmS at hs
  split at hs
  · rename_i ins n hd
    split at hs
    · rename_i hn
      cases ins with
      | iload_n q =>
        obtain rfl : n = 1 := hn.resolve_right (fun (z : 1 = 0) => absurd z (by decide))
        exact pm_ldI (fun H locs ls cells slots x hx k => lv_iload_n hF.1 hF.2.1 hd rfl hx k) hs k
      | lload_n q =>
        obtain rfl : n = 1 := hn.resolve_right (fun (z : 1 = 0) => absurd z (by decide))
        exact pm_ldJ (fun H locs ls cells slots x hx k => lv_lload_n hF.1 hF.2.1 hd rfl hx k) hs k
      | aload_n q =>
        obtain rfl : n = 1 := hn.resolve_right (fun (z : 1 = 0) => absurd z (by decide))
        exact pm_ldA (fun H locs ls cells slots x hx k => lv_aload_n hF.1 hF.2.1 hd rfl hx k) hs k
      | iload q =>
        obtain rfl : n = 2 := hn.resolve_right (fun (z : 2 = 0) => absurd z (by decide))
        exact pm_ldI (fun H locs ls cells slots x hx k => lv_iload hF.1 hF.2.1 hd hx k) hs k
      | lload q =>
        obtain rfl : n = 2 := hn.resolve_right (fun (z : 2 = 0) => absurd z (by decide))
        exact pm_ldJ (fun H locs ls cells slots x hx k => lv_lload hF.1 hF.2.1 hd hx k) hs k
      | aload q =>
        obtain rfl : n = 2 := hn.resolve_right (fun (z : 2 = 0) => absurd z (by decide))
        exact pm_ldA (fun H locs ls cells slots x hx k => lv_aload hF.1 hF.2.1 hd hx k) hs k
      | iconst q =>
        obtain rfl : n = 1 := hn.resolve_right (fun (z : 1 = 0) => absurd z (by decide))
        exact pm_push (fun H locs ls cells slots k => lv_iconst hF.1 hF.2.1 hd rfl k) hs k
      | bipush q =>
        obtain rfl : n = 2 := hn.resolve_right (fun (z : 2 = 0) => absurd z (by decide))
        exact pm_push (fun H locs ls cells slots k => lv_bipush hF.1 hF.2.1 hd rfl k) hs k
      | sipush q =>
        obtain rfl : n = 3 := hn.resolve_right (fun (z : 3 = 0) => absurd z (by decide))
        exact pm_push (fun H locs ls cells slots k => lv_sipush hF.1 hF.2.1 hd rfl k) hs k
      | lconst q =>
        obtain rfl : n = 1 := hn.resolve_right (fun (z : 1 = 0) => absurd z (by decide))
        exact pm_push (fun H locs ls cells slots k => lv_lconst hF.1 hF.2.1 hd rfl k) hs k
      | istore_n q =>
        obtain rfl : n = 1 := hn.resolve_right (fun (z : 1 = 0) => absurd z (by decide))
        exact pm_stI (fun H locs ls cells slots x rest lv hl hi k => lv_istore_n hF.1 hF.2.1 hd rfl hl hi rfl k) hL hs k
      | istore q =>
        obtain rfl : n = 2 := hn.resolve_right (fun (z : 2 = 0) => absurd z (by decide))
        exact pm_stI (fun H locs ls cells slots x rest lv hl hi k => lv_istore hF.1 hF.2.1 hd hl hi rfl k) hL hs k
      | astore_n q =>
        obtain rfl : n = 1 := hn.resolve_right (fun (z : 1 = 0) => absurd z (by decide))
        exact pm_stA (fun H locs ls cells slots x rest lv hl hi k => lv_astore_n hF.1 hF.2.1 hd rfl hl hi rfl k) hL hs k
      | astore q =>
        obtain rfl : n = 2 := hn.resolve_right (fun (z : 2 = 0) => absurd z (by decide))
        exact pm_stA (fun H locs ls cells slots x rest lv hl hi k => lv_astore hF.1 hF.2.1 hd hl hi rfl k) hL hs k
      | lstore_n q =>
        obtain rfl : n = 1 := hn.resolve_right (fun (z : 1 = 0) => absurd z (by decide))
        exact pm_stJ (fun H locs ls cells slots x rest lv hl hi k => lv_lstore_n hF.1 hF.2.1 hd rfl hl hi rfl k) hL hs k
      | iinc q d =>
        obtain rfl : n = 3 := hn.resolve_right (fun (z : 3 = 0) => absurd z (by decide))
        exact pm_inc (fun H locs ls cells slots x lv k0 hl hk hi k => lv_iinc hF.1 hF.2.1 hd hl hk rfl hi rfl k) hL hs k
      | iadd =>
        obtain rfl : n = 1 := hn.resolve_right (fun (z : 1 = 0) => absurd z (by decide))
        exact pm_II (fun H locs ls cells slots x y rest k => lv_iadd hF.1 hF.2.1 hd k) hs k
      | isub =>
        obtain rfl : n = 1 := hn.resolve_right (fun (z : 1 = 0) => absurd z (by decide))
        exact pm_II (fun H locs ls cells slots x y rest k => lv_isub hF.1 hF.2.1 hd k) hs k
      | imul =>
        obtain rfl : n = 1 := hn.resolve_right (fun (z : 1 = 0) => absurd z (by decide))
        exact pm_II (fun H locs ls cells slots x y rest k => lv_imul hF.1 hF.2.1 hd k) hs k
      | iand =>
        obtain rfl : n = 1 := hn.resolve_right (fun (z : 1 = 0) => absurd z (by decide))
        exact pm_II (fun H locs ls cells slots x y rest k => lv_iand hF.1 hF.2.1 hd k) hs k
      | ior =>
        obtain rfl : n = 1 := hn.resolve_right (fun (z : 1 = 0) => absurd z (by decide))
        exact pm_II (fun H locs ls cells slots x y rest k => lv_ior hF.1 hF.2.1 hd k) hs k
      | ixor =>
        obtain rfl : n = 1 := hn.resolve_right (fun (z : 1 = 0) => absurd z (by decide))
        exact pm_II (fun H locs ls cells slots x y rest k => lv_ixor hF.1 hF.2.1 hd k) hs k
      | ishl =>
        obtain rfl : n = 1 := hn.resolve_right (fun (z : 1 = 0) => absurd z (by decide))
        exact pm_II (fun H locs ls cells slots x y rest k => lv_ishl hF.1 hF.2.1 hd k) hs k
      | ishr =>
        obtain rfl : n = 1 := hn.resolve_right (fun (z : 1 = 0) => absurd z (by decide))
        exact pm_II (fun H locs ls cells slots x y rest k => lv_ishr hF.1 hF.2.1 hd k) hs k
      | iushr =>
        obtain rfl : n = 1 := hn.resolve_right (fun (z : 1 = 0) => absurd z (by decide))
        exact pm_II (fun H locs ls cells slots x y rest k => lv_iushr hF.1 hF.2.1 hd rfl k) hs k
      | idiv =>
        obtain rfl : n = 1 := hn.resolve_right (fun (z : 1 = 0) => absurd z (by decide))
        exact pm_IIz (fun H locs ls cells slots x y rest hz k => lv_idiv hF.1 hF.2.1 hd hz k) hs k
      | irem =>
        obtain rfl : n = 1 := hn.resolve_right (fun (z : 1 = 0) => absurd z (by decide))
        exact pm_IIz (fun H locs ls cells slots x y rest hz k => lv_irem hF.1 hF.2.1 hd hz k) hs k
      | ladd =>
        obtain rfl : n = 1 := hn.resolve_right (fun (z : 1 = 0) => absurd z (by decide))
        exact pm_JJ (fun H locs ls cells slots x y rest k => lv_ladd hF.1 hF.2.1 hd k) hs k
      | lsub =>
        obtain rfl : n = 1 := hn.resolve_right (fun (z : 1 = 0) => absurd z (by decide))
        exact pm_JJ (fun H locs ls cells slots x y rest k => lv_lsub hF.1 hF.2.1 hd k) hs k
      | lmul =>
        obtain rfl : n = 1 := hn.resolve_right (fun (z : 1 = 0) => absurd z (by decide))
        exact pm_JJ (fun H locs ls cells slots x y rest k => lv_lmul hF.1 hF.2.1 hd k) hs k
      | land =>
        obtain rfl : n = 1 := hn.resolve_right (fun (z : 1 = 0) => absurd z (by decide))
        exact pm_JJ (fun H locs ls cells slots x y rest k => lv_land hF.1 hF.2.1 hd k) hs k
      | lor =>
        obtain rfl : n = 1 := hn.resolve_right (fun (z : 1 = 0) => absurd z (by decide))
        exact pm_JJ (fun H locs ls cells slots x y rest k => lv_lor hF.1 hF.2.1 hd k) hs k
      | ldiv =>
        obtain rfl : n = 1 := hn.resolve_right (fun (z : 1 = 0) => absurd z (by decide))
        exact pm_JJz (fun H locs ls cells slots x y rest hz k => lv_ldiv hF.1 hF.2.1 hd hz k) hs k
      | lrem =>
        obtain rfl : n = 1 := hn.resolve_right (fun (z : 1 = 0) => absurd z (by decide))
        exact pm_JJz (fun H locs ls cells slots x y rest hz k => lv_lrem hF.1 hF.2.1 hd hz k) hs k
      | lshl =>
        obtain rfl : n = 1 := hn.resolve_right (fun (z : 1 = 0) => absurd z (by decide))
        exact pm_JI (fun H locs ls cells slots x y rest k => lv_lshl hF.1 hF.2.1 hd rfl k) hs k
      | lushr =>
        obtain rfl : n = 1 := hn.resolve_right (fun (z : 1 = 0) => absurd z (by decide))
        exact pm_JI (fun H locs ls cells slots x y rest k => lv_lushr hF.1 hF.2.1 hd rfl k) hs k
      | goto q =>
        obtain rfl : n = 3 := hn.resolve_right (fun (z : 3 = 0) => absurd z (by decide))
        exact pm_go (fun H locs ls cells slots t rest ht k => lv_goto hF.1 hF.2.1 hd ht k) hs k
      | tableswitch d lo hi os => exact pm_tab hF.1 hF.2.1 hd hs k
      | lookupswitch d ps => exact pm_look hF.1 hF.2.1 hd hs k
      | iaload =>
        obtain rfl : n = 1 := hn.resolve_right (fun (z : 1 = 0) => absurd z (by decide))
        exact pm_iald hF hK hd hs k
      | baload =>
        obtain rfl : n = 1 := hn.resolve_right (fun (z : 1 = 0) => absurd z (by decide))
        exact pm_bald hF hK hd hs k
      | laload =>
        obtain rfl : n = 1 := hn.resolve_right (fun (z : 1 = 0) => absurd z (by decide))
        exact pm_lald hF hK hd hs k
      | aaload =>
        obtain rfl : n = 1 := hn.resolve_right (fun (z : 1 = 0) => absurd z (by decide))
        exact pm_aald hF hK hd hs k
      | iastore =>
        obtain rfl : n = 1 := hn.resolve_right (fun (z : 1 = 0) => absurd z (by decide))
        exact pm_iast hz0 hF hK hd hs k
      | bastore =>
        obtain rfl : n = 1 := hn.resolve_right (fun (z : 1 = 0) => absurd z (by decide))
        exact pm_bast hz0 hF hK hd hs k
      | aastore =>
        obtain rfl : n = 1 := hn.resolve_right (fun (z : 1 = 0) => absurd z (by decide))
        exact pm_aast hz0 hF hK hd hs k
      | arraylength =>
        obtain rfl : n = 1 := hn.resolve_right (fun (z : 1 = 0) => absurd z (by decide))
        exact pm_len hF hK hd hs k
      | ineg =>
        obtain rfl : n = 1 := hn.resolve_right (fun (z : 1 = 0) => absurd z (by decide))
        exact (by
          simp only [pmI] at hs
          split at hs
          · rename_i x r
            obtain ⟨rfl, rfl, rfl, rfl⟩ := pm_nx hs
            exact fun H locs ls cells slots h1 h2 h3 h4 h5 => lv_ineg hF.1 hF.2.1 hd (k H locs ls cells slots h1 h2 h3 h4 h5)
          · cases hs)
      | i2l =>
        obtain rfl : n = 1 := hn.resolve_right (fun (z : 1 = 0) => absurd z (by decide))
        exact (by
          simp only [pmI] at hs
          split at hs
          · rename_i x r
            obtain ⟨rfl, rfl, rfl, rfl⟩ := pm_nx hs
            exact fun H locs ls cells slots h1 h2 h3 h4 h5 => lv_i2l hF.1 hF.2.1 hd rfl (k H locs ls cells slots h1 h2 h3 h4 h5)
          · cases hs)
      | l2i =>
        obtain rfl : n = 1 := hn.resolve_right (fun (z : 1 = 0) => absurd z (by decide))
        exact (by
          simp only [pmI] at hs
          split at hs
          · rename_i x r
            obtain ⟨rfl, rfl, rfl, rfl⟩ := pm_nx hs
            exact fun H locs ls cells slots h1 h2 h3 h4 h5 => lv_l2i hF.1 hF.2.1 hd rfl (k H locs ls cells slots h1 h2 h3 h4 h5)
          · cases hs)
      | lcmp =>
        obtain rfl : n = 1 := hn.resolve_right (fun (z : 1 = 0) => absurd z (by decide))
        exact (by
          simp only [pmI] at hs
          split at hs
          · rename_i y x r
            obtain ⟨rfl, rfl, rfl, rfl⟩ := pm_nx hs
            exact fun H locs ls cells slots h1 h2 h3 h4 h5 => W.lcmp hF.1 hF.2.1 hd (k H locs ls cells slots h1 h2 h3 h4 h5)
          · cases hs)
      | dup =>
        obtain rfl : n = 1 := hn.resolve_right (fun (z : 1 = 0) => absurd z (by decide))
        exact (by
          simp only [pmI] at hs
          split at hs
          · rename_i v r
            split at hs
            · rename_i hc
              obtain ⟨rfl, rfl, rfl, rfl⟩ := pm_nx hs
              exact fun H locs ls cells slots h1 h2 h3 h4 h5 => lv_dup hF.1 hF.2.1 hd (by rw [pV_cat]; exact hc) (k H locs ls cells slots h1 h2 h3 h4 h5)
            · cases hs
          · cases hs)
      | dup2 =>
        obtain rfl : n = 1 := hn.resolve_right (fun (z : 1 = 0) => absurd z (by decide))
        exact (by
          simp only [pmI] at hs
          split at hs
          · rename_i v w r
            split at hs
            · rename_i hc
              obtain ⟨rfl, rfl, rfl, rfl⟩ := pm_nx hs
              exact fun H locs ls cells slots h1 h2 h3 h4 h5 => lv_dup2_11 hF.1 hF.2.1 hd (by rw [pV_cat]; exact hc.1) (by rw [pV_cat]; exact hc.2) (k H locs ls cells slots h1 h2 h3 h4 h5)
            · cases hs
          · cases hs)
      | pop =>
        obtain rfl : n = 1 := hn.resolve_right (fun (z : 1 = 0) => absurd z (by decide))
        exact (by
          simp only [pmI] at hs
          split at hs
          · rename_i v r
            split at hs
            · rename_i hc
              obtain ⟨rfl, rfl, rfl, rfl⟩ := pm_nx hs
              exact fun H locs ls cells slots h1 h2 h3 h4 h5 => lv_pop hF.1 hF.2.1 hd (by rw [pV_cat]; exact hc) (k H locs ls cells slots h1 h2 h3 h4 h5)
            · cases hs
          · cases hs)
      | if_icmp cd q =>
        obtain rfl : n = 3 := hn.resolve_right (fun (z : 3 = 0) => absurd z (by decide))
        exact (by
          cases cd
          · exact pm_br2 (cd := .eq) (fun H locs ls cells slots t x y rest ht kt kf => lv_icmp_eq hF.1 hF.2.1 hd ht (fun z => kt (decide_eq_true z)) (fun z => kf (fun w => z (of_decide_eq_true w)))) hs k
          · exact pm_br2 (cd := .ne) (fun H locs ls cells slots t x y rest ht kt kf => lv_icmp_ne hF.1 hF.2.1 hd ht (fun z => kt (decide_eq_true z)) (fun z => kf (fun w => (of_decide_eq_true w : ¬ x = y) z))) hs k
          · exact pm_br2 (cd := .lt) (fun H locs ls cells slots t x y rest ht kt kf => lv_icmp_lt hF.1 hF.2.1 hd ht (fun z => kt (decide_eq_true z)) (fun z => kf (fun w => z (of_decide_eq_true w)))) hs k
          · exact pm_br2 (cd := .ge) (fun H locs ls cells slots t x y rest ht kt kf => lv_icmp_ge hF.1 hF.2.1 hd ht (fun z => kt (decide_eq_true z)) (fun z => kf (fun w => z (of_decide_eq_true w)))) hs k
          · exact pm_br2 (cd := .gt) (fun H locs ls cells slots t x y rest ht kt kf => lv_icmp_gt hF.1 hF.2.1 hd ht (fun z => kt (decide_eq_true z)) (fun z => kf (fun w => z (of_decide_eq_true w)))) hs k
          · exact pm_br2 (cd := .le) (fun H locs ls cells slots t x y rest ht kt kf => lv_icmp_le hF.1 hF.2.1 hd ht (fun z => kt (decide_eq_true z)) (fun z => kf (fun w => z (of_decide_eq_true w)))) hs k)
      | ifCond cd q =>
        obtain rfl : n = 3 := hn.resolve_right (fun (z : 3 = 0) => absurd z (by decide))
        exact (by
          cases cd
          · exact pm_br1 (cd := .eq) (fun H locs ls cells slots t x rest ht kt kf => lv_if_eq hF.1 hF.2.1 hd ht (fun z => kt (decide_eq_true z)) (fun z => kf (fun w => z (of_decide_eq_true w)))) hs k
          · exact pm_br1 (cd := .ne) (fun H locs ls cells slots t x rest ht kt kf => lv_if_ne hF.1 hF.2.1 hd ht (fun z => kt (decide_eq_true z)) (fun z => kf (fun w => (of_decide_eq_true w : ¬ x = 0) z))) hs k
          · exact pm_br1 (cd := .lt) (fun H locs ls cells slots t x rest ht kt kf => lv_if_lt hF.1 hF.2.1 hd ht (fun z => kt (decide_eq_true z)) (fun z => kf (fun w => z (of_decide_eq_true w)))) hs k
          · exact pm_br1 (cd := .ge) (fun H locs ls cells slots t x rest ht kt kf => lv_if_ge hF.1 hF.2.1 hd ht (fun z => kt (decide_eq_true z)) (fun z => kf (fun w => z (of_decide_eq_true w)))) hs k
          · exact pm_br1 (cd := .gt) (fun H locs ls cells slots t x rest ht kt kf => lv_if_gt hF.1 hF.2.1 hd ht (fun z => kt (decide_eq_true z)) (fun z => kf (fun w => z (of_decide_eq_true w)))) hs k
          · exact pm_br1 (cd := .le) (fun H locs ls cells slots t x rest ht kt kf => lv_if_le hF.1 hF.2.1 hd ht (fun z => kt (decide_eq_true z)) (fun z => kf (fun w => z (of_decide_eq_true w)))) hs k)
      | ldc_w q =>
        obtain rfl : n = 3 := hn.resolve_right (fun (z : 3 = 0) => absurd z (by decide))
        exact (by
          simp only [pmI] at hs
          split at hs
          · rename_i v w hv
            exact pm_push (fun H locs ls cells slots k => lv_ldcw hF.1 hF.2.1 hF.2.2.2.1 (hF.2.2.2.2.1 _ (pmKI_ok hv)) hd k) hs k
          · cases hs)
      | ldc2_w q =>
        obtain rfl : n = 3 := hn.resolve_right (fun (z : 3 = 0) => absurd z (by decide))
        exact (by
          simp only [pmI] at hs
          split at hs
          · rename_i v w hv
            exact pm_push (fun H locs ls cells slots k => lv_ldc2 hF.1 hF.2.1 hF.2.2.2.1 (hF.2.2.2.2.1 _ (pmKJ_ok hv)) hd k) hs k
          · cases hs)
      | getfield q =>
        obtain rfl : n = 3 := hn.resolve_right (fun (z : 3 = 0) => absurd z (by decide))
        exact (by
          simp only [pmI] at hs
          split at hs
          · rename_i hv
            exact pm_get hF hK hd hv hs k
          · cases hs)
      | putfield q =>
        obtain rfl : n = 3 := hn.resolve_right (fun (z : 3 = 0) => absurd z (by decide))
        exact (by
          simp only [pmI] at hs
          split at hs
          · rename_i hv
            exact pm_put hz0 hF hK hd hv hs k
          · cases hs)
      | getstatic q =>
        obtain rfl : n = 3 := hn.resolve_right (fun (z : 3 = 0) => absurd z (by decide))
        exact (by
          simp only [pmI] at hs
          split at hs
          · rename_i r w1 w2 hv
            obtain ⟨hr, hw⟩ := pmSta_ok hv
            refine pm_push' (fun H locs ls cells slots hS k => ?_) hs k
            obtain ⟨hx, hb, hml, hown, hts, hini⟩ := hF
            obtain ⟨k1, k2, k3, k4, k5, k6, k7, k8, k9, k10, k11⟩ := hK
            rcases hr with rfl | rfl <;> rcases hw with hw | hw
            · exact va_gets hx hb k6 hS hown (hts _ hw) (fun _ z => z) hd k
            · exact va_getsN hx hb k6 hS hown (va_Nw.use rfl (k8 _ hw)) (fun _ z => z) hd k
            · exact va_gets hx hb k7 hS hown (hts _ hw) (fun _ z => z) hd k
            · exact va_getsN hx hb k7 hS hown (va_Nw.use rfl (k8 _ hw)) (fun _ z => z) hd k
          · cases hs)
      | newarray q =>
        obtain rfl : n = 2 := hn.resolve_right (fun (z : 2 = 0) => absurd z (by decide))
        exact (by
          cases q <;> first | (cases hs; done) | skip
          · exact pm_newA (at0 := .boolean) hz0 hrm hF hK rfl pmArr_w.2 (by decide) (hK.1.2 1 _ rfl).2 rfl hd hs k
          · exact pm_newA (at0 := .int) hz0 hrm hF hK rfl pmArr_w.1 (by decide) (hK.1.2 0 _ rfl).2 rfl hd hs k)
      | anewarray q =>
        obtain rfl : n = 3 := hn.resolve_right (fun (z : 3 = 0) => absurd z (by decide))
        exact (by
          simp only [pmI] at hs
          split at hs
          · rename_i ci w hv
            have hw := pmCls_ok hv
            split at hs
            · rename_i hc
              subst hc
              obtain ⟨kA, comp, f2, f3, f4, f1⟩ := (hK.1.2 2 _ rfl).2
              exact pm_newQ (C := RX10) hz0 hrm hF hK hw hK.2.2.2.2.2.2.2.2.1 f1 hd hs k
            · split at hs
              · rename_i hc
                subst hc
                obtain ⟨kA, comp, f2, f3, f4, f1⟩ := (hK.1.2 3 _ rfl).2
                exact pm_newQ (C := RX1) hz0 hrm hF hK hw hK.2.2.2.2.2.2.2.2.2.1 f1 hd hs k
              · cases hs
          · cases hs)
      | new q =>
        obtain rfl : n = 3 := hn.resolve_right (fun (z : 3 = 0) => absurd z (by decide))
        exact (by
          simp only [pmI] at hs
          split at hs
          · rename_i ci w hv
            split at hs
            · rename_i hc
              exact pm_new hc hz0 hrm hF hK (pmCls_ok hv) hd hs k
            · cases hs
          · cases hs)
      | invokespecial q =>
        obtain rfl : n = 3 := hn.resolve_right (fun (z : 3 = 0) => absurd z (by decide))
        exact (by
          have hs : pmInvI M pc q L S g = some (.inl (pc', L', S', g')) := hs
          unfold pmInvI at hs
          split at hs
          · rename_i w hv
            split at hs
            · rename_i a r
              split at hs
              · rename_i hc
                obtain ⟨rfl, rfl, rfl, rfl⟩ := pm_nx hs
                obtain ⟨hx, hb, hml, hown, hts, hini⟩ := hF
                intro H locs ls cells slots h1 h2 h3 h4 h5
                exact W.objInit hx hb hown (hts _ (pmObj_ok hv)) (hts _ pmObj_w.1) (hts _ pmObj_w.2) rfl (by rw [hml]; exact h3.1) rfl hd hfr.1 (by show 2 * 0 + _ + 12 ≤ _; have := pm_cat (S'.map (pV G)); rw [List.length_map] at this; omega) (k H locs ls cells slots h1 h2 h3 h4 h5)
              · cases hs
            · cases hs
          · split at hs
            · split at hs
              · exact absurd hs pmCall_ni
              · cases hs
            · cases hs)
      | invokevirtual q =>
        obtain rfl : n = 3 := hn.resolve_right (fun (z : 3 = 0) => absurd z (by decide))
        exact (by
          have hs : pmInvV M pc q L S g = some (.inl (pc', L', S', g')) := hs
          unfold pmInvV at hs
          repeat' split at hs
          all_goals first | (cases hs; done) | exact absurd hs pmCall_ni)
      | invokestatic q =>
        obtain rfl : n = 3 := hn.resolve_right (fun (z : 3 = 0) => absurd z (by decide))
        exact (by
          have hs : pmInvS M pc q L S = some (.inl (pc', L', S', g')) := hs
          unfold pmInvS at hs
          repeat' split at hs
          all_goals first | (cases hs; done) | exact absurd hs pmCall_ni)
      | ireturn =>
        obtain rfl : n = 1 := hn.resolve_right (fun (z : 1 = 0) => absurd z (by decide))
        exact (by
          simp only [pmI] at hs
          repeat' split at hs
          all_goals (cases hs; done))
      | lreturn =>
        obtain rfl : n = 1 := hn.resolve_right (fun (z : 1 = 0) => absurd z (by decide))
        exact (by
          simp only [pmI] at hs
          repeat' split at hs
          all_goals (cases hs; done))
      | return_ =>
        obtain rfl : n = 1 := hn.resolve_right (fun (z : 1 = 0) => absurd z (by decide))
        exact (by
          simp only [pmI] at hs
          repeat' split at hs
          all_goals (cases hs; done))
      | _ => cases hs
    · cases hs
  · cases hs
end PMU
