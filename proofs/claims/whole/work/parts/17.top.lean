/-! ===== the claim out of a pure run of the law ===== -/
def R_law : String := "RedBalloonsLaw"
def lw_P (b : Addr) (xs : List Int32) (args : Array Value) (s : State) : Prop := args = #[.ref b] ∧ s.IntsAt b xs ∧ xs.length ≤ 384 ∧ (Jvm.Cond.and given_1 narrow_1).before args s = true
def lw_Q (_ : Array Value) (s : State) (o : Outcome) (t : State) : Prop := o = .returned (some (.int 1)) ∧ Framed s o t [] 600000 7302250
def lw_Z (below : List Frame) (a : Array Value) (s : State) : State → Prop := fun t => ∃ o, t.status = .running ∧ Ended t below o ∧ lw_Q a s o t
/-- the law's own end, with 1 on the stack, nothing written that was there before, its room as the claim has it -/
theorem lw_ret {p : Program} {l : Launch} {e : Env} {s : State} {m : MethodId} {below : List Frame} {meth : Method} {c : Code} {b : Nat} (hx : p.tables.exec = Jvm.exec) (hb : c.code = code) (hr : meth.sig.returnType = ret) (hlocks : meth.locks = false) {pc : Nat} {H : Heap} {ls : Array Slot} (hdg : decode code pc = .ok (.ireturn, 1)) : W p l e room_1 s m #[Value.ref b] below meth c H [] 600000 7302250 (lw_Z below #[Value.ref b] s) (F0 m pc ls [.int 1]) := by
  intro T hT X
  obtain ⟨fs, hret, hrun, hended, hW, hframe⟩ := X.leave (v := some (.int 1)) (hlocks := hlocks) (fun h => by rw [hr] at h; cases h)
  have hmeth' : T.vm.method? m = some meth := X.method'
  refine ⟨T.setFrames fs, ?_, .returned (some (.int 1)), hrun, hended, rfl, ⟨_, rfl⟩, hW, hframe⟩
  jvm_step X.here [X.here.top, hx, hb, hdg, hmeth', hr, ret, narrow_b1]
  (try refine ⟨rfl, ?_⟩); (try refine ⟨rfl, ?_⟩)
  first | (intro acts; rw [hret _ acts rfl rfl rfl]) | rw [hret _ _ rfl rfl rfl]
  exact Steps.refl _
/-- what holds at the law's entry: the machine, the code, the tables' words (any of lw_tbl by 'hts w (by decide +kernel)'), the script of L ints xs at the cell b, what the Statement gives of the start (any of its parts by flat_of_before) -/
def lw_At (p : Program) (s : State) (m : MethodId) (meth : Method) (c : Code) (b L : Nat) (xs : Nat → Int32) : Prop :=
  p.tables.exec = Jvm.exec ∧ c.code = code ∧ meth.sig.returnType = ret ∧ c.maxLocals = 4 ∧ s.vm.findClass R_law = some m.cls ∧ (∀ w ∈ lw_tbl, w.before #[Value.ref b] s = true) ∧ va_X b L xs s s.heap ∧ b < s.heap.size ∧ meth.locks = false ∧ (Jvm.Cond.and given_1 narrow_1).before #[Value.ref b] s = true
/-- what is wanted of the pure machine: the law answers 1, within the room -/
def pmClaim : Prop := ∀ (L : Nat) (xs : Nat → Int32), L ≤ 384 → ∃ g1 : pmH, pmV mL_law 0 [some (.ref 0), none, none, none] [] (pmRO L xs) = some (some (.int 1), g1) ∧ g1.length ≤ 3 + 600000 ∧ pmSz g1 ≤ pmSz (pmRO L xs) + 7302250
theorem pm_arrI {args : Array Value} {s : State} {ty : FieldType} (h : (Jvm.Cond.arrayClass ty).before args s = true) (hn : ∀ C, ty ≠ .object C) : ∃ cA : ClassId, ArrOfT s cA ty ∧ va_RA s cA ty := by
  obtain ⟨cA, kA, comp, h1, h2, h3⟩ := Cond.arrayClass_spec h
  refine ⟨cA, fun n z => ⟨fun k h => (by cases h), kA, h2, comp, h3⟩, ?_⟩
  cases ty with
  | object C => exact absurd rfl (hn C)
  | _ => exact h1
theorem pm_arrQ {s : State} {C : String} (h : va_AO C s) : ∃ cA : ClassId, ArrOfT s cA (.object C) ∧ va_RA s cA (.object C) := by
  obtain ⟨comp, cA, kA, h1, h2, h3, h4, h5⟩ := Cond.arrayOver_spec (va_AO.use (A := #[]) h)
  exact ⟨cA, fun n z => ⟨fun k h => (by cases h), kA, h3, comp, h4⟩, kA, comp, h3, h4, h1, h5⟩
theorem pm_AO : Jvm.Cond.arrayOver (.object RX10) ∈ lw_tbl ∧ Jvm.Cond.arrayOver (.object RX1) ∈ lw_tbl := ⟨List.mem_of_getElem? (i := 239) (by decide +kernel), List.mem_of_getElem? (i := 166) (by decide +kernel)⟩
theorem pm_LS : Jvm.Cond.laysStatic RX11 "FACTORIALS" "[I" ∈ lw_tbl ∧ Jvm.Cond.laysStatic RX11 "THOUSANDS" "[J" ∈ lw_tbl := ⟨List.mem_of_getElem? (i := 672) (by decide +kernel), List.mem_of_getElem? (i := 687) (by decide +kernel)⟩
set_option maxHeartbeats 4000000 in
set_option maxRecDepth 100000 in
theorem pm_whole (hc : pmClaim) {p : Program} {e : Env} {s : State} {m : MethodId} {below : List Frame} {meth : Method} {c : Code} (l : Launch) {b L : Nat} {xs : Nat → Int32} (hL : L ≤ 384) (C0 : lw_At p s m meth c b L xs) : W p l e room_1 s m #[Value.ref b] below meth c s.heap [] 0 0 (lw_Z below #[Value.ref b] s) (entryFrame m ([Value.ref b] : List Value).toArray 4) := by
  obtain ⟨hx, hb, hr, hml, hown, hts, hX, hbl, hlocks, hgv⟩ := id C0
  have hA0 : ∀ a : Nat, a < s.heap.size → ¬ (fun q : Nat => s.heap.size ≤ q) a := fun a h => Nat.not_le.mpr h
  have htb : ∀ w ∈ pmTbl, w.before #[Value.ref b] s = true := fun w hw => hts w (pmTbl_in hw)
  have hkn : ∀ k : Nat, ∃ (cC : ClassId) (iS : Nat → Nat), k < 13 → u_Kn s (pmCN k) (pmTX k) (pmNF k) cC iS := by
    intro k
    by_cases hk : k < 13
    · obtain ⟨cC, iS, h⟩ := u_known (C := pmCN k) (T := pmTX k) (N := pmNF k) (n := pmNF k) htb (pmC_w hk).1 (htb _ (pmC_w hk).2.1)
      exact ⟨cC, iS, fun _ => h⟩
    · exact ⟨0, fun _ => 0, fun h => absurd h hk⟩
  obtain ⟨a0, ha0⟩ := pm_arrI (htb _ pmArr_w.1) (fun C h => by cases h)
  obtain ⟨a1, ha1⟩ := pm_arrI (htb _ pmArr_w.2) (fun C h => by cases h)
  have o10 : va_AO RX10 s := va_AO.of (hts _ pm_AO.1)
  have o1 : va_AO RX1 s := va_AO.of (hts _ pm_AO.2)
  obtain ⟨a2, ha2⟩ := pm_arrQ o10
  obtain ⟨a3, ha3⟩ := pm_arrQ o1
  have hfl := flat_of_before _ hgv
  obtain ⟨t1, he1, hT1⟩ := va_Tof (A := fun q : Nat => s.heap.size ≤ q) (tm := .static RX11 "FACTORIALS" "[I") (ty := .int) (N := 6) (f := fun k => .int (pmFac k)) (by decide) (hfl _ (by decide +kernel)) (va_eqt (z := 6) (hfl _ (by decide +kernel))) (fun j hj => by
    match j, hj with
    | 0, _ => exact va_eqt (z := 1) (hfl _ (by decide +kernel))
    | 1, _ => exact va_eqt (z := 1) (hfl _ (by decide +kernel))
    | 2, _ => exact va_eqt (z := 2) (hfl _ (by decide +kernel))
    | 3, _ => exact va_eqt (z := 6) (hfl _ (by decide +kernel))
    | 4, _ => exact va_eqt (z := 24) (hfl _ (by decide +kernel))
    | 5, _ => exact va_eqt (z := 120) (hfl _ (by decide +kernel))
    | j + 6, hj => exact absurd hj (by omega)) hA0
  obtain ⟨t2, he2, hT2⟩ := va_Tof (A := fun q : Nat => s.heap.size ≤ q) (tm := .static RX11 "THOUSANDS" "[J") (ty := .long) (N := 5) (f := fun k => .long (pmTho k)) (by decide) (hfl _ (by decide +kernel)) (va_eqt (z := 5) (hfl _ (by decide +kernel))) (fun j hj => by
    match j, hj with
    | 0, _ => exact va_eqtl (z := 1) (hfl _ (by decide +kernel))
    | 1, _ => exact va_eqtl (z := 1000) (hfl _ (by decide +kernel))
    | 2, _ => exact va_eqtl (z := 1000000) (hfl _ (by decide +kernel))
    | 3, _ => exact va_eqtl (z := 1000000000) (hfl _ (by decide +kernel))
    | 4, _ => exact va_eqtl (z := 1000000000000) (hfl _ (by decide +kernel))
    | j + 5, hj => exact absurd hj (by omega)) hA0
  have hi11 : (Jvm.Cond.initialized RX11).before #[Value.ref b] s = true := htb _ (pmC_w (c := 11) (by decide)).2.2
  have hZ1 := va_Zref (A := fun q : Nat => s.heap.size ≤ q) (hts _ pm_LS.1) hi11 he1 hA0
  have hZ2 := va_Zref (A := fun q : Nat => s.heap.size ≤ q) (hts _ pm_LS.2) hi11 he2 hA0
  let G : pmG := (fun k => Classical.choose (hkn k), fun k => Classical.choose (Classical.choose_spec (hkn k)), fun k => if k = 0 then a0 else if k = 1 then a1 else if k = 2 then a2 else a3, (b, t1, t2, s.heap.size), L, xs)
  have hK : pmK G s s.heap := by
    refine ⟨⟨fun k q hq => ?_, fun k q hq => ?_⟩, hX, hbl, hT1, hT2, hZ1, hZ2, fun w hw => ?_, o10, o1, Nat.le_refl _⟩
    · have hk : k < 13 := (List.getElem?_eq_some_iff.mp hq).1
      have e1 := (pmC_cl hk).symm.trans hq
      cases e1
      exact Classical.choose_spec (Classical.choose_spec (hkn k)) hk
    · match k, hq with
      | 0, hq => cases hq; exact ha0
      | 1, hq => cases hq; exact ha1
      | 2, hq => cases hq; exact ha2
      | 3, hq => cases hq; exact ha3
      | k + 4, hq => simp [pmTys] at hq
    · have h1 := hts w (pmNest_in w hw)
      simp only [pmNest, List.mem_cons, List.not_mem_nil, or_false] at hw
      rcases hw with rfl | rfl | rfl | rfl | rfl | rfl | rfl <;> exact va_Nw.of rfl h1
  obtain ⟨g1, hv, hg1, hg2⟩ := hc L xs hL
  obtain ⟨n, hn⟩ := pmV_iff.mp hv
  have hrel : pmRel G (pmRO L xs) s.heap := ⟨[], (List.append_nil _).symm, fun k q h => by simp [pW] at h, rfl⟩
  rw [lg_entry_eq]
  refine pm_sound (G := G) (l := l) (R := room_1) (args := #[Value.ref b]) (Q := lw_Z below #[Value.ref b] s) (c0 := 3) (s0 := pmSz (pmRO L xs)) n mL_law 0 [some (.ref 0), none, none, none] [] (pmRO L xs) _ g1 hn rfl ⟨rfl, Nat.le_refl _⟩ ⟨hg1, hg2⟩ ⟨⟨by decide, by decide⟩, by decide⟩ ⟨hx, hb, hml, hown, htb, fun h => absurd h (by decide)⟩ hK ?_ s.heap [] _ 0 0 hrel va_S.rf (pm_entry (G := G) (as := [.ref 0]) (n := 4) (by decide)) rfl (Nat.zero_add _)
  intro pcr Lr Sr hsr H locs ls cells slots k1 k2 k3 k4 k5
  rcases pm_retS hsr with ⟨x, t, rfl, hxx, ht, hn, hd⟩ | ⟨x, rfl, hxx, ht, hd⟩ | ⟨rfl, hxx, ht, hd⟩
  · cases hxx
    refine va_forget (fun q hq => k2.2.2 q hq) ?_
    refine W.widen (k := 600000) (n := 7302250) (by omega) (by omega) ?_
    exact lw_ret hx hb hr hlocks hd
  · cases hxx
  · cases hxx
