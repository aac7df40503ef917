section PMS
variable {G : pmG} {M : pmM} {p : Program} {l : Launch} {e : Env} {R : Room} {s : State} {m : MethodId} {args : Array Value} {below : List Frame} {meth : Method} {c : Code} {Q : State → Prop} {c0 s0 : Nat} {pc pc' n i : Nat} {L L' : pmL} {S S' : List Value} {g g' : pmH}
theorem pm_nx {a : Nat} {b : pmL} {d : List Value} {f : pmH} (h : pmNx a b d f = some (.inl (pc', L', S', g'))) : pc' = a ∧ L' = b ∧ S' = d ∧ g' = f := by
  simp only [pmNx, Option.some.injEq, Sum.inl.injEq, Prod.mk.injEq] at h
  exact ⟨h.1.symm, h.2.1.symm, h.2.2.1.symm, h.2.2.2.symm⟩
theorem pm_to {a : Nat} {off : Int} {t : Nat} (h : pmT a off = some t) : (a : Int) + off = (t : Int) := by
  unfold pmT at h
  split at h
  · rename_i hp
    cases h
    omega
  · cases h
theorem pm_in {j : Int32} {n : Nat} (h : pmIn j n = true) : vp_in j n := by
  have h1 : ¬ (j < 0 ∨ n ≤ j.toNatClampNeg) := of_decide_eq_true h
  exact h1
theorem pm_push {v : Value} (hop : ∀ (H : Heap) (locs : List Loc) (ls : Array Slot) (cells slots : Nat), W p l e R s m args below meth c H locs cells slots Q (F0 m n ls (pV G v :: S.map (pV G))) → W p l e R s m args below meth c H locs cells slots Q (F0 m pc ls (S.map (pV G)))) (hs : pmNx n L (v :: S) g = some (.inl (pc', L', S', g'))) (k : pmOK G M p l e R s m args below meth c Q c0 s0 pc' L' S' g') : pmOK G M p l e R s m args below meth c Q c0 s0 pc L S g := by
  obtain ⟨rfl, rfl, rfl, rfl⟩ := pm_nx hs
  exact fun H locs ls cells slots h1 h2 h3 h4 h5 => hop H locs ls cells slots (k H locs ls cells slots h1 h2 h3 h4 h5)
theorem pm_ldI (hop : ∀ (H : Heap) (locs : List Loc) (ls : Array Slot) (cells slots : Nat) (x : Int32), ls[i]? = some (.val (pV G (.int x))) → W p l e R s m args below meth c H locs cells slots Q (F0 m n ls (pV G (.int x) :: S.map (pV G))) → W p l e R s m args below meth c H locs cells slots Q (F0 m pc ls (S.map (pV G)))) (hs : pmLdI n i L S g = some (.inl (pc', L', S', g'))) (k : pmOK G M p l e R s m args below meth c Q c0 s0 pc' L' S' g') : pmOK G M p l e R s m args below meth c Q c0 s0 pc L S g := by
  unfold pmLdI at hs
  split at hs
  · rename_i x hx
    obtain ⟨rfl, rfl, rfl, rfl⟩ := pm_nx hs
    exact fun H locs ls cells slots h1 h2 h3 h4 h5 => hop H locs ls cells slots x (pm_ld h3 hx) (k H locs ls cells slots h1 h2 h3 h4 h5)
  · cases hs
theorem pm_ldJ (hop : ∀ (H : Heap) (locs : List Loc) (ls : Array Slot) (cells slots : Nat) (x : Int64), ls[i]? = some (.val (pV G (.long x))) → W p l e R s m args below meth c H locs cells slots Q (F0 m n ls (pV G (.long x) :: S.map (pV G))) → W p l e R s m args below meth c H locs cells slots Q (F0 m pc ls (S.map (pV G)))) (hs : pmLdJ n i L S g = some (.inl (pc', L', S', g'))) (k : pmOK G M p l e R s m args below meth c Q c0 s0 pc' L' S' g') : pmOK G M p l e R s m args below meth c Q c0 s0 pc L S g := by
  unfold pmLdJ at hs
  split at hs
  · rename_i x hx
    obtain ⟨rfl, rfl, rfl, rfl⟩ := pm_nx hs
    exact fun H locs ls cells slots h1 h2 h3 h4 h5 => hop H locs ls cells slots x (pm_ld h3 hx) (k H locs ls cells slots h1 h2 h3 h4 h5)
  · cases hs
theorem pm_ldA (hop : ∀ (H : Heap) (locs : List Loc) (ls : Array Slot) (cells slots : Nat) (x : Nat), ls[i]? = some (.val (pV G (.ref x))) → W p l e R s m args below meth c H locs cells slots Q (F0 m n ls (pV G (.ref x) :: S.map (pV G))) → W p l e R s m args below meth c H locs cells slots Q (F0 m pc ls (S.map (pV G)))) (hs : pmLdA n i L S g = some (.inl (pc', L', S', g'))) (k : pmOK G M p l e R s m args below meth c Q c0 s0 pc' L' S' g') : pmOK G M p l e R s m args below meth c Q c0 s0 pc L S g := by
  unfold pmLdA at hs
  split at hs
  · rename_i x hx
    obtain ⟨rfl, rfl, rfl, rfl⟩ := pm_nx hs
    exact fun H locs ls cells slots h1 h2 h3 h4 h5 => hop H locs ls cells slots x (pm_ld h3 hx) (k H locs ls cells slots h1 h2 h3 h4 h5)
  · cases hs
theorem pm_stI (hop : ∀ (H : Heap) (locs : List Loc) (ls : Array Slot) (cells slots : Nat) (x : Int32) (rest : List Value) (lv : List (Nat × Value)), lv_has ls M.2.2.2.1 lv → i < M.2.2.2.1 → (∀ ls' : Array Slot, lv_has ls' M.2.2.2.1 ((i, pV G (.int x)) :: lv.filter (fun q => !(q.1 == i) && !(q.1 + 1 == i && q.2.category == 2))) → W p l e R s m args below meth c H locs cells slots Q (F0 m n ls' rest)) → W p l e R s m args below meth c H locs cells slots Q (F0 m pc ls (pV G (.int x) :: rest))) (hL : L.length = M.2.2.2.1) (hs : pmStI n i L S g = some (.inl (pc', L', S', g'))) (k : pmOK G M p l e R s m args below meth c Q c0 s0 pc' L' S' g') : pmOK G M p l e R s m args below meth c Q c0 s0 pc L S g := by
  unfold pmStI at hs
  split at hs
  · rename_i x r
    obtain ⟨L1, hl1, hs⟩ := Option.bind_eq_some_iff.mp hs
    obtain ⟨rfl, rfl, rfl, rfl⟩ := pm_nx hs
    intro H locs ls cells slots h1 h2 h3 h4 h5
    have hb : i < L.length := by
      have hq := hl1
      unfold pmS1 at hq
      split at hq
      · rename_i hc
        exact hc.1
      · cases hq
    exact hop H locs ls cells slots x _ _ h3 (by omega) (fun ls' hl' => k H locs ls' cells slots h1 h2 (pm_s1 hl1 hl').1 h4 h5)
  · cases hs
theorem pm_stJ (hop : ∀ (H : Heap) (locs : List Loc) (ls : Array Slot) (cells slots : Nat) (x : Int64) (rest : List Value) (lv : List (Nat × Value)), lv_has ls M.2.2.2.1 lv → i + 1 < M.2.2.2.1 → (∀ ls' : Array Slot, lv_has ls' M.2.2.2.1 ((i, pV G (.long x)) :: lv.filter (fun q => !(q.1 == i) && (!(q.1 == i + 1) && !(q.1 + 1 == i && q.2.category == 2)))) → W p l e R s m args below meth c H locs cells slots Q (F0 m n ls' rest)) → W p l e R s m args below meth c H locs cells slots Q (F0 m pc ls (pV G (.long x) :: rest))) (hL : L.length = M.2.2.2.1) (hs : pmStJ n i L S g = some (.inl (pc', L', S', g'))) (k : pmOK G M p l e R s m args below meth c Q c0 s0 pc' L' S' g') : pmOK G M p l e R s m args below meth c Q c0 s0 pc L S g := by
  unfold pmStJ at hs
  split at hs
  · rename_i x r
    obtain ⟨L1, hl1, hs⟩ := Option.bind_eq_some_iff.mp hs
    obtain ⟨rfl, rfl, rfl, rfl⟩ := pm_nx hs
    intro H locs ls cells slots h1 h2 h3 h4 h5
    have hb : i + 1 < L.length := by
      have hq := hl1
      unfold pmS2 at hq
      split at hq
      · rename_i hc
        exact hc.1
      · cases hq
    exact hop H locs ls cells slots x _ _ h3 (by omega) (fun ls' hl' => k H locs ls' cells slots h1 h2 (pm_s2 hl1 hl').1 h4 h5)
  · cases hs
theorem pm_stA (hop : ∀ (H : Heap) (locs : List Loc) (ls : Array Slot) (cells slots : Nat) (x : Nat) (rest : List Value) (lv : List (Nat × Value)), lv_has ls M.2.2.2.1 lv → i < M.2.2.2.1 → (∀ ls' : Array Slot, lv_has ls' M.2.2.2.1 ((i, pV G (.ref x)) :: lv.filter (fun q => !(q.1 == i) && !(q.1 + 1 == i && q.2.category == 2))) → W p l e R s m args below meth c H locs cells slots Q (F0 m n ls' rest)) → W p l e R s m args below meth c H locs cells slots Q (F0 m pc ls (pV G (.ref x) :: rest))) (hL : L.length = M.2.2.2.1) (hs : pmStA n i L S g = some (.inl (pc', L', S', g'))) (k : pmOK G M p l e R s m args below meth c Q c0 s0 pc' L' S' g') : pmOK G M p l e R s m args below meth c Q c0 s0 pc L S g := by
  unfold pmStA at hs
  split at hs
  · rename_i x r
    obtain ⟨L1, hl1, hs⟩ := Option.bind_eq_some_iff.mp hs
    obtain ⟨rfl, rfl, rfl, rfl⟩ := pm_nx hs
    intro H locs ls cells slots h1 h2 h3 h4 h5
    have hb : i < L.length := by
      have hq := hl1
      unfold pmS1 at hq
      split at hq
      · rename_i hc
        exact hc.1
      · cases hq
    exact hop H locs ls cells slots x _ _ h3 (by omega) (fun ls' hl' => k H locs ls' cells slots h1 h2 (pm_s1 hl1 hl').1 h4 h5)
  · cases hs
theorem pm_inc {d : Int} (hop : ∀ (H : Heap) (locs : List Loc) (ls : Array Slot) (cells slots : Nat) (x : Int32) (lv : List (Nat × Value)) (k : Nat), lv_has ls M.2.2.2.1 lv → lv[k]? = some (i, .int x) → i < M.2.2.2.1 → (∀ ls' : Array Slot, lv_has ls' M.2.2.2.1 ((i, pV G (.int (x + Int32.ofInt d))) :: lv.filter (fun q => !(q.1 == i) && !(q.1 + 1 == i && q.2.category == 2))) → W p l e R s m args below meth c H locs cells slots Q (F0 m n ls' (S.map (pV G)))) → W p l e R s m args below meth c H locs cells slots Q (F0 m pc ls (S.map (pV G)))) (hL : L.length = M.2.2.2.1) (hs : pmInc n i d L S g = some (.inl (pc', L', S', g'))) (k : pmOK G M p l e R s m args below meth c Q c0 s0 pc' L' S' g') : pmOK G M p l e R s m args below meth c Q c0 s0 pc L S g := by
  unfold pmInc at hs
  split at hs
  · rename_i x hx
    obtain ⟨L1, hl1, hs⟩ := Option.bind_eq_some_iff.mp hs
    obtain ⟨rfl, rfl, rfl, rfl⟩ := pm_nx hs
    intro H locs ls cells slots h1 h2 h3 h4 h5
    have hb : i < L.length := by
      have hq := hl1
      unfold pmS1 at hq
      split at hq
      · rename_i hc
        exact hc.1
      · cases hq
    have hm : (i, Value.int x) ∈ pmAs G L := pmAs_mem.mpr ⟨.int x, by
      unfold pmLd at hx
      cases hy : L[i]? with
      | none => rw [hy] at hx; cases hx
      | some o => rw [hy] at hx; exact congrArg some hx, rfl⟩
    obtain ⟨k0, hk0⟩ := List.getElem?_of_mem hm
    exact hop H locs ls cells slots x _ k0 h3 hk0 (by omega) (fun ls' hl' => k H locs ls' cells slots h1 h2 (pm_s1 hl1 hl').1 h4 h5)
  · cases hs
theorem pm_II {f : Int32 → Int32 → Int32} (hop : ∀ (H : Heap) (locs : List Loc) (ls : Array Slot) (cells slots : Nat) (x : Int32) (y : Int32) (rest : List Value), W p l e R s m args below meth c H locs cells slots Q (F0 m (pc + 1) ls (.int (f x y) :: rest)) → W p l e R s m args below meth c H locs cells slots Q (F0 m pc ls (.int y :: .int x :: rest))) (hs : pmII pc L S g f = some (.inl (pc', L', S', g'))) (k : pmOK G M p l e R s m args below meth c Q c0 s0 pc' L' S' g') : pmOK G M p l e R s m args below meth c Q c0 s0 pc L S g := by
  unfold pmII at hs
  split at hs
  · rename_i y x r
    obtain ⟨rfl, rfl, rfl, rfl⟩ := pm_nx hs
    exact fun H locs ls cells slots h1 h2 h3 h4 h5 => hop H locs ls cells slots x y _ (k H locs ls cells slots h1 h2 h3 h4 h5)
  · cases hs
theorem pm_IIz {f : Int32 → Int32 → Int32} (hop : ∀ (H : Heap) (locs : List Loc) (ls : Array Slot) (cells slots : Nat) (x : Int32) (y : Int32) (rest : List Value), ¬ y = 0 → W p l e R s m args below meth c H locs cells slots Q (F0 m (pc + 1) ls (.int (f x y) :: rest)) → W p l e R s m args below meth c H locs cells slots Q (F0 m pc ls (.int y :: .int x :: rest))) (hs : pmIIz pc L S g f = some (.inl (pc', L', S', g'))) (k : pmOK G M p l e R s m args below meth c Q c0 s0 pc' L' S' g') : pmOK G M p l e R s m args below meth c Q c0 s0 pc L S g := by
  unfold pmIIz at hs
  split at hs
  · rename_i y x r
    split at hs
    · cases hs
    · rename_i hz
      obtain ⟨rfl, rfl, rfl, rfl⟩ := pm_nx hs
      exact fun H locs ls cells slots h1 h2 h3 h4 h5 => hop H locs ls cells slots x y _ hz (k H locs ls cells slots h1 h2 h3 h4 h5)
  · cases hs
theorem pm_JJ {f : Int64 → Int64 → Int64} (hop : ∀ (H : Heap) (locs : List Loc) (ls : Array Slot) (cells slots : Nat) (x : Int64) (y : Int64) (rest : List Value), W p l e R s m args below meth c H locs cells slots Q (F0 m (pc + 1) ls (.long (f x y) :: rest)) → W p l e R s m args below meth c H locs cells slots Q (F0 m pc ls (.long y :: .long x :: rest))) (hs : pmJJ pc L S g f = some (.inl (pc', L', S', g'))) (k : pmOK G M p l e R s m args below meth c Q c0 s0 pc' L' S' g') : pmOK G M p l e R s m args below meth c Q c0 s0 pc L S g := by
  unfold pmJJ at hs
  split at hs
  · rename_i y x r
    obtain ⟨rfl, rfl, rfl, rfl⟩ := pm_nx hs
    exact fun H locs ls cells slots h1 h2 h3 h4 h5 => hop H locs ls cells slots x y _ (k H locs ls cells slots h1 h2 h3 h4 h5)
  · cases hs
theorem pm_JJz {f : Int64 → Int64 → Int64} (hop : ∀ (H : Heap) (locs : List Loc) (ls : Array Slot) (cells slots : Nat) (x : Int64) (y : Int64) (rest : List Value), ¬ y = 0 → W p l e R s m args below meth c H locs cells slots Q (F0 m (pc + 1) ls (.long (f x y) :: rest)) → W p l e R s m args below meth c H locs cells slots Q (F0 m pc ls (.long y :: .long x :: rest))) (hs : pmJJz pc L S g f = some (.inl (pc', L', S', g'))) (k : pmOK G M p l e R s m args below meth c Q c0 s0 pc' L' S' g') : pmOK G M p l e R s m args below meth c Q c0 s0 pc L S g := by
  unfold pmJJz at hs
  split at hs
  · rename_i y x r
    split at hs
    · cases hs
    · rename_i hz
      obtain ⟨rfl, rfl, rfl, rfl⟩ := pm_nx hs
      exact fun H locs ls cells slots h1 h2 h3 h4 h5 => hop H locs ls cells slots x y _ hz (k H locs ls cells slots h1 h2 h3 h4 h5)
  · cases hs
theorem pm_JI {f : Int64 → Int32 → Int64} (hop : ∀ (H : Heap) (locs : List Loc) (ls : Array Slot) (cells slots : Nat) (x : Int64) (y : Int32) (rest : List Value), W p l e R s m args below meth c H locs cells slots Q (F0 m (pc + 1) ls (.long (f x y) :: rest)) → W p l e R s m args below meth c H locs cells slots Q (F0 m pc ls (.int y :: .long x :: rest))) (hs : pmJI pc L S g f = some (.inl (pc', L', S', g'))) (k : pmOK G M p l e R s m args below meth c Q c0 s0 pc' L' S' g') : pmOK G M p l e R s m args below meth c Q c0 s0 pc L S g := by
  unfold pmJI at hs
  split at hs
  · rename_i y x r
    obtain ⟨rfl, rfl, rfl, rfl⟩ := pm_nx hs
    exact fun H locs ls cells slots h1 h2 h3 h4 h5 => hop H locs ls cells slots x y _ (k H locs ls cells slots h1 h2 h3 h4 h5)
  · cases hs
theorem pm_go {off : Int} (hop : ∀ (H : Heap) (locs : List Loc) (ls : Array Slot) (cells slots : Nat) (t : Nat) (rest : List Value), (pc : Int) + off = (t : Int) → W p l e R s m args below meth c H locs cells slots Q (F0 m t ls rest) → W p l e R s m args below meth c H locs cells slots Q (F0 m pc ls rest)) (hs : pmGo pc off L S g = some (.inl (pc', L', S', g'))) (k : pmOK G M p l e R s m args below meth c Q c0 s0 pc' L' S' g') : pmOK G M p l e R s m args below meth c Q c0 s0 pc L S g := by
  unfold pmGo at hs
  obtain ⟨t, ht, hs⟩ := Option.bind_eq_some_iff.mp hs
  obtain ⟨rfl, rfl, rfl, rfl⟩ := pm_nx hs
  exact fun H locs ls cells slots h1 h2 h3 h4 h5 => hop H locs ls cells slots _ _ (pm_to ht) (k H locs ls cells slots h1 h2 h3 h4 h5)
theorem pm_br2 {cd : Jvm.ClassFile.Cond} {off : Int} (hop : ∀ (H : Heap) (locs : List Loc) (ls : Array Slot) (cells slots : Nat) (t : Nat) (x y : Int32) (rest : List Value), (pc : Int) + off = (t : Int) → (pmCmp cd x y = true → W p l e R s m args below meth c H locs cells slots Q (F0 m t ls rest)) → (¬ pmCmp cd x y = true → W p l e R s m args below meth c H locs cells slots Q (F0 m (pc + 3) ls rest)) → W p l e R s m args below meth c H locs cells slots Q (F0 m pc ls (.int y :: .int x :: rest))) (hs : pmBr2 pc cd off L S g = some (.inl (pc', L', S', g'))) (k : pmOK G M p l e R s m args below meth c Q c0 s0 pc' L' S' g') : pmOK G M p l e R s m args below meth c Q c0 s0 pc L S g := by
  unfold pmBr2 at hs
  split at hs
  · rename_i y x r
    obtain ⟨t, ht, hs⟩ := Option.bind_eq_some_iff.mp hs
    obtain ⟨hp, rfl, rfl, rfl⟩ := pm_nx hs
    intro H locs ls cells slots h1 h2 h3 h4 h5
    refine hop H locs ls cells slots t x y _ (pm_to ht) (fun hc => ?_) (fun hc => ?_)
    · rw [if_pos hc] at hp
      subst hp
      exact k H locs ls cells slots h1 h2 h3 h4 h5
    · rw [if_neg hc] at hp
      subst hp
      exact k H locs ls cells slots h1 h2 h3 h4 h5
  · cases hs
theorem pm_br1 {cd : Jvm.ClassFile.Cond} {off : Int} (hop : ∀ (H : Heap) (locs : List Loc) (ls : Array Slot) (cells slots : Nat) (t : Nat) (x : Int32) (rest : List Value), (pc : Int) + off = (t : Int) → (pmCmp cd x 0 = true → W p l e R s m args below meth c H locs cells slots Q (F0 m t ls rest)) → (¬ pmCmp cd x 0 = true → W p l e R s m args below meth c H locs cells slots Q (F0 m (pc + 3) ls rest)) → W p l e R s m args below meth c H locs cells slots Q (F0 m pc ls (.int x :: rest))) (hs : pmBr1 pc cd off L S g = some (.inl (pc', L', S', g'))) (k : pmOK G M p l e R s m args below meth c Q c0 s0 pc' L' S' g') : pmOK G M p l e R s m args below meth c Q c0 s0 pc L S g := by
  unfold pmBr1 at hs
  split at hs
  · rename_i x r
    obtain ⟨t, ht, hs⟩ := Option.bind_eq_some_iff.mp hs
    obtain ⟨hp, rfl, rfl, rfl⟩ := pm_nx hs
    intro H locs ls cells slots h1 h2 h3 h4 h5
    refine hop H locs ls cells slots t x _ (pm_to ht) (fun hc => ?_) (fun hc => ?_)
    · rw [if_pos hc] at hp
      subst hp
      exact k H locs ls cells slots h1 h2 h3 h4 h5
    · rw [if_neg hc] at hp
      subst hp
      exact k H locs ls cells slots h1 h2 h3 h4 h5
  · cases hs
theorem pm_tab {d lo hi : Int} {os : Array Int} {len : Nat} (hx : p.tables.exec = Jvm.exec) (hb : c.code = M.2.2.1) (hd : decode M.2.2.1 pc = .ok (.tableswitch d lo hi os, len)) (hs : pmTab pc d lo hi os L S g = some (.inl (pc', L', S', g'))) (k : pmOK G M p l e R s m args below meth c Q c0 s0 pc' L' S' g') : pmOK G M p l e R s m args below meth c Q c0 s0 pc L S g := by
  unfold pmTab at hs
  split at hs
  · rename_i x r
    split at hs
    · rename_i hc
      obtain ⟨t, ht, hs⟩ := Option.bind_eq_some_iff.mp hs
      obtain ⟨rfl, rfl, rfl, rfl⟩ := pm_nx hs
      exact fun H locs ls cells slots h1 h2 h3 h4 h5 => lv_tableOut hx hb hd hc (pm_to ht) (k H locs ls cells slots h1 h2 h3 h4 h5)
    · rename_i hc
      obtain ⟨of, hof, hs⟩ := Option.bind_eq_some_iff.mp hs
      obtain ⟨t, ht, hs⟩ := Option.bind_eq_some_iff.mp hs
      obtain ⟨rfl, rfl, rfl, rfl⟩ := pm_nx hs
      exact fun H locs ls cells slots h1 h2 h3 h4 h5 => lv_tableIn hx hb hd (fun z => hc (Or.inl z)) (fun z => hc (Or.inr z)) hof (pm_to ht) (k H locs ls cells slots h1 h2 h3 h4 h5)
  · cases hs
theorem pm_look {d : Int} {ps : Array (Int × Int)} {len : Nat} (hx : p.tables.exec = Jvm.exec) (hb : c.code = M.2.2.1) (hd : decode M.2.2.1 pc = .ok (.lookupswitch d ps, len)) (hs : pmLook pc d ps L S g = some (.inl (pc', L', S', g'))) (k : pmOK G M p l e R s m args below meth c Q c0 s0 pc' L' S' g') : pmOK G M p l e R s m args below meth c Q c0 s0 pc L S g := by
  unfold pmLook at hs
  split at hs
  · rename_i x r
    split at hs
    · rename_i hc
      obtain ⟨t, ht, hs⟩ := Option.bind_eq_some_iff.mp hs
      obtain ⟨rfl, rfl, rfl, rfl⟩ := pm_nx hs
      exact fun H locs ls cells slots h1 h2 h3 h4 h5 => lv_lookup hx hb hd hc rfl (pm_to ht) (k H locs ls cells slots h1 h2 h3 h4 h5)
    · cases hs
  · cases hs
theorem pm_size {H : Heap} {h : pmH} {locs : List Loc} {cells slots : Nat} {fr : JFrame} (hz0 : s.heap.size + 3 = pgB G + c0 ∧ 3 ≤ c0) (hP : va_P (pgD G) vwCl (pW G h) H) (hS : va_S (pA G) s.heap H locs) (hc : cells + c0 = h.length + 3) (k : H.size = pgB G + h.length → W p l e R s m args below meth c H locs cells slots Q fr) : W p l e R s m args below meth c H locs cells slots Q fr := by
  intro T hT X
  have h1 := X.heapSize
  rw [hT] at h1
  have h2 := hS.1
  refine k ?_ T hT X
  cases hn : h.length with
  | zero => omega
  | succ j =>
    have hj : j < h.length := by omega
    have h3 := (hP j _ (pW_at (List.getElem?_eq_getElem hj))).lt
    simp only at h3
    omega
theorem pm_k3 {a : Nat} (h : 3 ≤ a) : ∃ k, a = k + 3 := ⟨a - 3, by omega⟩
theorem pm_get {ci k0 q : Nat} (hF : pmFx M p s m args meth c) (hK : pmK G s s.heap) (hd : decode M.2.2.1 pc = .ok (.getfield i, 3)) (hf : pmFld M.2.1 i = some (ci, k0, q)) (hs : pmGet pc ci k0 L S g = some (.inl (pc', L', S', g'))) (k : pmOK G M p l e R s m args below meth c Q c0 s0 pc' L' S' g') : pmOK G M p l e R s m args below meth c Q c0 s0 pc L S g := by
  obtain ⟨hx, hb, hml, hown, hts, hini⟩ := hF
  obtain ⟨w1, w2, w3, w4⟩ := pmFld_ok hf
  unfold pmGet at hs
  split at hs
  · rename_i a r
    split at hs
    · rename_i cc fs ha
      split at hs
      · rename_i hc
        obtain ⟨v, hv, hs⟩ := Option.bind_eq_some_iff.mp hs
        obtain ⟨rfl, rfl, rfl, rfl⟩ := pm_nx hs
        obtain ⟨rfl, h3, hk⟩ := hc
        intro H locs ls cells slots h1 h2 h3' h4 h5
        obtain ⟨h, rfl, hP, hz⟩ := id h1
        obtain ⟨a, rfl⟩ := pm_k3 h3
        rw [pmRO_at] at ha
        exact va_get (v := pV G v) hx hb hts (pmC_w w2).1 hown hK.1 hP a (pW_at ha) (pmC_cl w2) k0 hk (hts _ w1) (fun _ z => z) (by rw [List.getElem?_map, hv]; rfl) hd (k H locs ls cells slots h1 h2 h3' h4 h5)
      · cases hs
    · cases hs
  · cases hs
theorem pm_fit {ty : FieldType} {v : Value} (h : pmFit ty v = true) : narrow ty (pV G v) = pV G v ∧ fits ty (pV G v) = true := by
  unfold pmFit at h
  split at h <;> first | exact ⟨rfl, rfl⟩ | cases h
theorem pm_put {ci k0 q : Nat} (hz0 : s.heap.size + 3 = pgB G + c0 ∧ 3 ≤ c0) (hF : pmFx M p s m args meth c) (hK : pmK G s s.heap) (hd : decode M.2.2.1 pc = .ok (.putfield i, 3)) (hf : pmFld M.2.1 i = some (ci, k0, q)) (hs : pmPut M pc ci k0 L S g = some (.inl (pc', L', S', g'))) (k : pmOK G M p l e R s m args below meth c Q c0 s0 pc' L' S' g') : pmOK G M p l e R s m args below meth c Q c0 s0 pc L S g := by
  obtain ⟨hx, hb, hml, hown, hts, hini⟩ := hF
  obtain ⟨w1, w2, w3, w4⟩ := pmFld_ok hf
  unfold pmPut at hs
  split at hs
  · rename_i v a r
    split at hs
    · rename_i cc fs ha
      split at hs
      · rename_i hc
        obtain ⟨rfl, rfl, rfl, rfl⟩ := pm_nx hs
        obtain ⟨rfl, h3, hk, hkl, hfit, hfin⟩ := hc
        intro H locs ls cells slots h1 h2 h3' h4 h5
        obtain ⟨h, rfl, hP, hz⟩ := id h1
        obtain ⟨a, rfl⟩ := pm_k3 h3
        have ha' := ha
        rw [pmRO_at] at ha
        have hfv := pm_fit (G := G) hfit
        have hl : a < h.length := (List.getElem?_eq_some_iff.mp ha).1
        have kk : ∀ (H1 : Heap) (locs1 : List Loc), va_P (pgD G) vwCl ((pW G h).set a (pgB G + a, .inr (cc, (fs.map (pV G)).set k0 (pV G v)))) H1 → va_D (pA G) ((pW G h).set a (pgB G + a, .inr (cc, (fs.map (pV G)).set k0 (pV G v)))) → va_S (pA G) s.heap H1 locs1 → W p l e R s m args below meth c H1 locs1 cells slots Q (F0 m (pc + 3) ls (S'.map (pV G))) := by
          intro H1 locs1 hP1 hD1 hS1
          have e1 : pE G (.inr (cc, fs.set k0 v)) = .inr (cc, (fs.map (pV G)).set k0 (pV G v)) := by
            show Sum.inr (cc, (fs.set k0 v).map (pV G)) = _
            rw [List.map_set]
          rw [← e1, ← pW_set] at hP1
          rw [pmRO_len] at h4
          refine pm_size hz0 hP1 hS1 (by rw [List.length_set]; exact h4) fun hz1 => ?_
          exact k H1 locs1 ls cells slots ⟨h.set a (.inr (cc, fs.set k0 v)), pmRO_set, hP1, hz1⟩ hS1 h3' (by rw [List.length_set, pmRO_len]; exact h4) (by rw [pmSz_set ha' (by rfl)]; exact h5)
        by_cases hfn : (pmTX cc k0).2.2.2 = false
        · exact va_put hx hb hts (pmC_w w2).1 (pmTy cc) (pmC_ty w2) (pmC_nm w2) hown hK.1 hP (pD G h) h2 a (pW_at ha) (pmC_cl w2) k0 hk (hts _ w1) (fun _ z => z) hfn (pmC_ty w2 k0 hk) hfv.1 hfv.2 (by rw [List.length_map]; exact hkl) hd kk
        · rcases hfin with z | ⟨z1, z2⟩
          · exact absurd z hfn
          · exact va_putF hx hb hts (pmC_w w2).1 (pmTy cc) (pmC_ty w2) (pmC_nm w2) hown hK.1 hP (pD G h) h2 a (pW_at ha) (pmC_cl w2) k0 hk (hts _ w1) (fun _ z => z) (by cases hq : (pmTX cc k0).2.2.2 with | false => exact absurd hq hfn | true => rfl) (hini z1) (by rw [w4, z2]) (pmC_ty w2 k0 hk) hfv.1 hfv.2 (by rw [List.length_map]; exact hkl) hd kk
      · cases hs
    · cases hs
  · cases hs
end PMS
