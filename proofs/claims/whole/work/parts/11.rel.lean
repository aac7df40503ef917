/-! ===== the pure heap and the machine's own ===== -/
abbrev pmG : Type := (Nat → ClassId) × (Nat → Nat → Nat) × (Nat → ClassId) × (Nat × Nat × Nat × Nat) × Nat × (Nat → Int32)
abbrev pgD (G : pmG) : va_G := (G.1, G.2.1)
abbrev pgA (G : pmG) : Nat → ClassId := G.2.2.1
abbrev pgb (G : pmG) : Nat := G.2.2.2.1.1
abbrev pg1 (G : pmG) : Nat := G.2.2.2.1.2.1
abbrev pg2 (G : pmG) : Nat := G.2.2.2.1.2.2.1
abbrev pgB (G : pmG) : Nat := G.2.2.2.1.2.2.2
abbrev pgL (G : pmG) : Nat := G.2.2.2.2.1
abbrev pgx (G : pmG) : Nat → Int32 := G.2.2.2.2.2
def pgr (G : pmG) (a : Nat) : Nat := match a with
  | 0 => pgb G
  | 1 => pg1 G
  | 2 => pg2 G
  | k + 3 => pgB G + k
def pV (G : pmG) (v : Value) : Value := match v with
  | .ref a => .ref (pgr G a)
  | w => w
def pE (G : pmG) (e : va_E) : va_E := match e with
  | .inl (t, n, .inl f) => .inl (pgA G t, n, .inl f)
  | .inl (t, n, .inr (.inl f)) => .inl (pgA G t, n, .inr (.inl f))
  | .inl (t, n, .inr (.inr (.inl f))) => .inl (pgA G t, n, .inr (.inr (.inl f)))
  | .inl (t, n, .inr (.inr (.inr (.inl f)))) => .inl (pgA G t, n, .inr (.inr (.inr (.inl f))))
  | .inl (t, n, .inr (.inr (.inr (.inr f)))) => .inl (pgA G t, n, .inr (.inr (.inr (.inr (fun i => (f i).map (pgr G))))))
  | .inr (c, fs) => .inr (c, fs.map (pV G))
def pW (G : pmG) (h : pmH) : va_W := h.mapIdx (fun k e => (pgB G + k, pE G e))
def pmFac (k : Nat) : Int32 := ([1, 1, 2, 6, 24, 120] : List Int32).getD k 0
def pmTho (k : Nat) : Int64 := ([1, 1000, 1000000, 1000000000, 1000000000000] : List Int64).getD k 0
def pmRO (L : Nat) (xs : Nat → Int32) : pmH := [.inl (0, L, .inl xs), .inl (0, 6, .inl pmFac), .inl (4, 5, .inr (.inl pmTho))]
def pA (G : pmG) : Nat → Prop := fun q => pgB G ≤ q
def pmRel (G : pmG) (g : pmH) (H : Heap) : Prop := ∃ h : pmH, g = pmRO (pgL G) (pgx G) ++ h ∧ va_P (pgD G) vwCl (pW G h) H ∧ H.size = pgB G + h.length
def pmSzE (e : va_E) : Nat := match e with
  | .inl (_, n, _) => n
  | .inr (c, _) => pmNF c
def pmSz (g : pmH) : Nat := (g.map pmSzE).sum
theorem pW_at {G : pmG} {h : pmH} {k : Nat} {e : va_E} (he : h[k]? = some e) : (pW G h)[k]? = some (pgB G + k, pE G e) := by
  simp [pW, List.getElem?_mapIdx, he]
theorem pW_of {G : pmG} {h : pmH} {k : Nat} {q : Nat × va_E} (hq : (pW G h)[k]? = some q) : q.1 = pgB G + k := by
  simp only [pW, List.getElem?_mapIdx, Option.map_eq_some_iff] at hq
  obtain ⟨e, -, rfl⟩ := hq
  rfl
theorem pW_set {G : pmG} {h : pmH} {k : Nat} {e : va_E} : pW G (h.set k e) = (pW G h).set k (pgB G + k, pE G e) := by
  refine List.ext_getElem? fun i => ?_
  simp only [pW, List.getElem?_mapIdx, List.getElem?_set, List.length_mapIdx]
  by_cases hi : k = i
  · subst hi
    by_cases hk : k < h.length <;> simp [hk]
  · simp [hi]
theorem pW_push {G : pmG} {h : pmH} {e : va_E} : pW G (h ++ [e]) = pW G h ++ [(pgB G + h.length, pE G e)] := by
  simp [pW, List.mapIdx_append]
theorem pD (G : pmG) (h : pmH) : va_D (pA G) (pW G h) := ⟨fun i j p q hi hj hpq => by
  have a := pW_of hi
  have b := pW_of hj
  omega, fun k q hk => by
  have a := pW_of hk
  show pgB G ≤ q.1
  omega⟩
theorem pmRO_at {L : Nat} {xs : Nat → Int32} {h : pmH} {k : Nat} : (pmRO L xs ++ h)[k + 3]? = h[k]? := rfl
theorem pmRO_set {L : Nat} {xs : Nat → Int32} {h : pmH} {k : Nat} {e : va_E} : (pmRO L xs ++ h).set (k + 3) e = pmRO L xs ++ h.set k e := rfl
theorem pmRO_len {L : Nat} {xs : Nat → Int32} {h : pmH} : (pmRO L xs ++ h).length = h.length + 3 := by simp [pmRO]
theorem pmSz_set {g : pmH} {a : Nat} {e e' : va_E} (h : g[a]? = some e) (he : pmSzE e' = pmSzE e) : pmSz (g.set a e') = pmSz g := by
  have : (g.set a e').map pmSzE = g.map pmSzE := by
    refine List.ext_getElem? fun i => ?_
    simp only [List.getElem?_map, List.getElem?_set]
    by_cases hi : a = i
    · subst hi
      have hl := (List.getElem?_eq_some_iff.mp h).1
      simp [hl, h, he]
      have := (List.getElem?_eq_some_iff.mp h).2
      rw [this]
    · simp [hi]
  unfold pmSz
  rw [this]
theorem pmSz_push (g : pmH) (e : va_E) : pmSz (g ++ [e]) = pmSz g + pmSzE e := by simp [pmSz]
/-! the locals -/
def pmAs (G : pmG) (L : pmL) : List (Nat × Value) := L.zipIdx.filterMap (fun q => q.1.map (fun v => (q.2, pV G v)))
theorem pmAs_mem {G : pmG} {L : pmL} {i : Nat} {w : Value} : (i, w) ∈ pmAs G L ↔ ∃ v, L[i]? = some (some v) ∧ w = pV G v := by
  simp only [pmAs, List.mem_filterMap, Option.map_eq_some_iff, Prod.mk.injEq]
  constructor
  · rintro ⟨⟨o, j⟩, hm, v, ho, rfl, rfl⟩
    have := List.mem_zipIdx_iff_getElem?.mp hm
    simp only at ho this
    subst ho
    exact ⟨v, this, rfl⟩
  · rintro ⟨v, hv, rfl⟩
    exact ⟨(some v, i), List.mem_zipIdx_iff_getElem?.mpr hv, v, rfl, rfl, rfl⟩
theorem pV_cat (G : pmG) (v : Value) : (pV G v).category = v.category := by cases v <;> rfl
theorem pm_ld {G : pmG} {ls : Array Slot} {n : Nat} {L : pmL} {i : Nat} {v : Value} (h : lv_has ls n (pmAs G L)) (hv : pmLd L i = some v) : ls[i]? = some (.val (pV G v)) := by
  refine h.2.2 (i, pV G v) (pmAs_mem.mpr ⟨v, ?_, rfl⟩)
  unfold pmLd at hv
  cases hx : L[i]? with
  | none => rw [hx] at hv; cases hv
  | some o => rw [hx] at hv; exact congrArg some hv
theorem pm_nl {G : pmG} {L : pmL} {i j : Nat} {w : Value} (h : pmNL L i = true) (hm : (j, w) ∈ pmAs G L) (hj : j + 1 = i) : w.category = 1 := by
  obtain ⟨v, hv, rfl⟩ := pmAs_mem.mp hm
  subst hj
  simp only [pmNL, hv, Option.getD_some, beq_iff_eq] at h
  rw [pV_cat]
  exact h
theorem pm_s1 {G : pmG} {ls' : Array Slot} {n : Nat} {L L' : pmL} {i : Nat} {v : Value} (hs : pmS1 L i v = some L') (h : lv_has ls' n ((i, pV G v) :: (pmAs G L).filter (fun q => !(q.1 == i) && !(q.1 + 1 == i && q.2.category == 2)))) : lv_has ls' n (pmAs G L') ∧ L'.length = L.length ∧ i < L.length := by
  unfold pmS1 at hs
  split at hs
  · rename_i hc
    cases hs
    refine ⟨⟨h.1, h.2.1, fun q hq => ?_⟩, List.length_set, hc.1⟩
    obtain ⟨j, w⟩ := q
    obtain ⟨u, hu, rfl⟩ := pmAs_mem.mp hq
    rw [List.getElem?_set] at hu
    by_cases hj : i = j
    · subst hj
      rw [if_pos rfl, if_pos hc.1] at hu
      cases hu
      exact h.2.2 _ List.mem_cons_self
    · rw [if_neg hj] at hu
      have hm : (j, pV G u) ∈ pmAs G L := pmAs_mem.mpr ⟨u, hu, rfl⟩
      refine h.2.2 _ (List.mem_cons_of_mem _ (List.mem_filter.mpr ⟨hm, ?_⟩))
      have h1 : (j == i) = false := by simpa using fun z => hj z.symm
      simp only [h1, Bool.not_false, Bool.true_and]
      by_cases h2 : j + 1 = i
      · simp [pm_nl hc.2 hm h2]
      · simp [h2]
  · cases hs
theorem pm_s2 {G : pmG} {ls' : Array Slot} {n : Nat} {L L' : pmL} {i : Nat} {v : Value} (hs : pmS2 L i v = some L') (h : lv_has ls' n ((i, pV G v) :: (pmAs G L).filter (fun q => !(q.1 == i) && (!(q.1 == i + 1) && !(q.1 + 1 == i && q.2.category == 2))))) : lv_has ls' n (pmAs G L') ∧ L'.length = L.length ∧ i + 1 < L.length := by
  unfold pmS2 at hs
  split at hs
  · rename_i hc
    cases hs
    refine ⟨⟨h.1, h.2.1, fun q hq => ?_⟩, by simp, hc.1⟩
    obtain ⟨j, w⟩ := q
    obtain ⟨u, hu, rfl⟩ := pmAs_mem.mp hq
    rw [List.getElem?_set, List.getElem?_set] at hu
    by_cases hj1 : i + 1 = j
    · rw [if_pos hj1] at hu
      simp only [List.length_set] at hu
      rw [if_pos (by omega)] at hu
      cases hu
    · rw [if_neg hj1] at hu
      by_cases hj : i = j
      · subst hj
        rw [if_pos rfl, if_pos (by omega)] at hu
        cases hu
        exact h.2.2 _ List.mem_cons_self
      · rw [if_neg hj] at hu
        have hm : (j, pV G u) ∈ pmAs G L := pmAs_mem.mpr ⟨u, hu, rfl⟩
        refine h.2.2 _ (List.mem_cons_of_mem _ (List.mem_filter.mpr ⟨hm, ?_⟩))
        have h1 : (j == i) = false := by simpa using fun z => hj z.symm
        have h3 : (j == i + 1) = false := by simpa using fun z => hj1 z.symm
        simp only [h1, h3, Bool.not_false, Bool.true_and]
        by_cases h2 : j + 1 = i
        · simp [pm_nl hc.2 hm h2]
        · simp [h2]
  · cases hs
/-! what the machine's tables say, behind any heap in which the old cells stand -/
def pmTys (G : pmG) : List (ClassId × FieldType) := [(pgA G 0, .int), (pgA G 1, .boolean), (pgA G 2, .object RX10), (pgA G 3, .object RX1)]
def pmK (G : pmG) (U : State) (H : Heap) : Prop := va_K (pgD G) vwCl (pmTys G) U ∧ va_X (pgb G) (pgL G) (pgx G) U H ∧ pgb G < pgB G ∧ va_T .int (pg1 G) 6 (fun k => .int (pmFac k)) (pA G) U H ∧ va_T .long (pg2 G) 5 (fun k => .long (pmTho k)) (pA G) U H ∧ va_Z RX11 "FACTORIALS" "[I" (.ref (pg1 G)) (pA G) U H ∧ va_Z RX11 "THOUSANDS" "[J" (.ref (pg2 G)) (pA G) U H ∧ (∀ w ∈ pmNest, va_Nw w U) ∧ va_AO RX10 U ∧ va_AO RX1 U ∧ pgB G ≤ H.size
theorem pmNest_warm {s U : State} (hW : s.WarmedH U.vm) (h : ∀ w ∈ pmNest, va_Nw w s) : ∀ w ∈ pmNest, va_Nw w U := by
  intro w hw
  have h1 := h w hw
  simp only [pmNest, List.mem_cons, List.not_mem_nil, or_false] at hw
  rcases hw with rfl | rfl | rfl | rfl | rfl | rfl | rfl
  · exact va_Nw.warmM hW h1
  · exact va_Nw.warmM hW h1
  · exact va_Nw.warmM hW h1
  · exact va_Nw.warmM hW h1
  · exact va_Nw.warmF hW h1
  · exact va_Nw.warmF hW h1
  · exact va_Nw.warmF hW h1
theorem pmK.warm {G : pmG} {s U : State} {H H1 : Heap} (hW : s.WarmedH U.vm) (h : pmK G s H) (hq : ∀ q : Nat, q < H.size → ¬ pA G q → H1[q]? = H[q]?) (hz : H.size ≤ H1.size) : pmK G U H1 := by
  obtain ⟨h1, h2, h3, h4, h5, h6, h7, h8, h9, h10, h11⟩ := h
  refine ⟨va_K.moved hW.alike h1, va_X.moved hW.alike (h2.kept (hq _ (by omega) (fun z => by have : pgB G ≤ pgb G := z; omega))), h3, va_T.moved hW.alike (h4.kept hq), va_T.moved hW.alike (h5.kept hq), va_Z.moved hW.alike (h6.kept hq), va_Z.moved hW.alike (h7.kept hq), pmNest_warm hW h8, va_AO.moved hW.alike h9, va_AO.moved hW.alike h10, by omega⟩
/-- what a frame of the method M knows -/
def pmFx (M : pmM) (p : Program) (s : State) (m : MethodId) (args : Array Value) (meth : Method) (c : Code) : Prop :=
  p.tables.exec = Jvm.exec ∧ c.code = M.2.2.1 ∧ c.maxLocals = M.2.2.2.1 ∧ s.vm.findClass (pmCN M.2.1) = some m.cls ∧ (∀ w ∈ pmTbl, w.before args s = true) ∧ (M.1.name = "<init>" → meth.name = "<init>")
/-- from here on the machine comes to Q, whatever the heap that the pure one stands for -/
def pmOK (G : pmG) (M : pmM) (p : Program) (l : Launch) (e : Env) (R : Room) (s : State) (m : MethodId) (args : Array Value) (below : List Frame) (meth : Method) (c : Code) (Q : State → Prop) (c0 s0 : Nat) (pc : Nat) (L : pmL) (S : List Value) (g : pmH) : Prop :=
  ∀ (H : Heap) (locs : List Loc) (ls : Array Slot) (cells slots : Nat), pmRel G g H → va_S (pA G) s.heap H locs → lv_has ls M.2.2.2.1 (pmAs G L) → cells + c0 = g.length → slots + s0 = pmSz g → W p l e R s m args below meth c H locs cells slots Q (F0 m pc ls (S.map (pV G)))
