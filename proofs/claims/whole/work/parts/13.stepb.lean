section PMT
variable {G : pmG} {M : pmM} {p : Program} {l : Launch} {e : Env} {R : Room} {s : State} {m : MethodId} {args : Array Value} {below : List Frame} {meth : Method} {c : Code} {Q : State → Prop} {c0 s0 : Nat} {pc pc' n i : Nat} {L L' : pmL} {S S' : List Value} {g g' : pmH}
theorem pm_iald (hF : pmFx M p s m args meth c) (hK : pmK G s s.heap) (hd : decode M.2.2.1 pc = .ok (.iaload, 1)) (hs : pmIald pc L S g = some (.inl (pc', L', S', g'))) (k : pmOK G M p l e R s m args below meth c Q c0 s0 pc' L' S' g') : pmOK G M p l e R s m args below meth c Q c0 s0 pc L S g := by
  obtain ⟨hx, hb, hml, hown, hts, hini⟩ := hF
  unfold pmIald at hs
  split at hs
  · rename_i j a r
    split at hs
    · rename_i t n f ha
      split at hs
      · rename_i hc
        obtain ⟨rfl, rfl, rfl, rfl⟩ := pm_nx hs
        obtain ⟨rfl, hin⟩ := hc
        intro H locs ls cells slots h1 h2 h3 h4 h5
        obtain ⟨h, rfl, hP, hz⟩ := id h1
        have kk := k H locs ls cells slots h1 h2 h3 h4 h5
        match a, ha with
        | 0, ha =>
          simp only [pmRO, List.cons_append, List.getElem?_cons_zero, Option.some.injEq, Sum.inl.injEq, Prod.mk.injEq, true_and] at ha
          obtain ⟨rfl, rfl⟩ := ha
          exact va_sld hx hb hK.2.1 (Nat.lt_of_lt_of_le hK.2.2.1 hK.2.2.2.2.2.2.2.2.2.2) (fun z => Nat.not_le.mpr hK.2.2.1 z) h2 (pm_in hin) hd kk
        | 1, ha =>
          simp only [pmRO, List.cons_append, List.getElem?_cons_succ, List.getElem?_cons_zero, Option.some.injEq, Sum.inl.injEq, Prod.mk.injEq, true_and] at ha
          obtain ⟨rfl, rfl⟩ := ha
          exact va_ti hx hb hK.2.2.2.1 h2 (pm_in hin) rfl hd kk
        | 2, ha =>
          simp [pmRO] at ha
        | a + 3, ha =>
          rw [pmRO_at] at ha
          exact va_iald hx hb hK.1 hP a 0 (pW_at ha) rfl (pm_in hin) hd kk
      · cases hs
    · cases hs
  · cases hs
theorem pm_bald (hF : pmFx M p s m args meth c) (hK : pmK G s s.heap) (hd : decode M.2.2.1 pc = .ok (.baload, 1)) (hs : pmBald pc L S g = some (.inl (pc', L', S', g'))) (k : pmOK G M p l e R s m args below meth c Q c0 s0 pc' L' S' g') : pmOK G M p l e R s m args below meth c Q c0 s0 pc L S g := by
  obtain ⟨hx, hb, hml, hown, hts, hini⟩ := hF
  unfold pmBald at hs
  split at hs
  · rename_i j a r
    split at hs
    · rename_i t n f ha
      split at hs
      · rename_i hc
        obtain ⟨rfl, rfl, rfl, rfl⟩ := pm_nx hs
        obtain ⟨rfl, h3a, hin⟩ := hc
        intro H locs ls cells slots h1 h2 h3 h4 h5
        obtain ⟨h, rfl, hP, hz⟩ := id h1
        have kk := k H locs ls cells slots h1 h2 h3 h4 h5
        obtain ⟨a, rfl⟩ := pm_k3 h3a
        rw [pmRO_at] at ha
        exact va_zald hx hb hK.1 hP a 1 (pW_at ha) rfl (pm_in hin) hd kk
      · cases hs
    · cases hs
  · cases hs
theorem pm_lald (hF : pmFx M p s m args meth c) (hK : pmK G s s.heap) (hd : decode M.2.2.1 pc = .ok (.laload, 1)) (hs : pmLald pc L S g = some (.inl (pc', L', S', g'))) (k : pmOK G M p l e R s m args below meth c Q c0 s0 pc' L' S' g') : pmOK G M p l e R s m args below meth c Q c0 s0 pc L S g := by
  obtain ⟨hx, hb, hml, hown, hts, hini⟩ := hF
  unfold pmLald at hs
  split at hs
  · rename_i j a r
    split at hs
    · rename_i t n f ha
      split at hs
      · rename_i hc
        obtain ⟨rfl, rfl, rfl, rfl⟩ := pm_nx hs
        obtain ⟨rfl, rfl, hin⟩ := hc
        intro H locs ls cells slots h1 h2 h3 h4 h5
        obtain ⟨h, rfl, hP, hz⟩ := id h1
        have kk := k H locs ls cells slots h1 h2 h3 h4 h5
        simp only [pmRO, List.cons_append, List.getElem?_cons_succ, List.getElem?_cons_zero, Option.some.injEq, Sum.inl.injEq, Sum.inr.injEq, Prod.mk.injEq, true_and] at ha
        obtain ⟨rfl, rfl⟩ := ha
        exact va_tl hx hb hK.2.2.2.2.1 h2 (pm_in hin) rfl hd kk
      · cases hs
    · cases hs
  · cases hs
theorem pV_rf (G : pmG) (o : Option Nat) : pV G (va_rf o) = va_rf (o.map (pgr G)) := by cases o <;> rfl
theorem pm_aald (hF : pmFx M p s m args meth c) (hK : pmK G s s.heap) (hd : decode M.2.2.1 pc = .ok (.aaload, 1)) (hs : pmAald pc L S g = some (.inl (pc', L', S', g'))) (k : pmOK G M p l e R s m args below meth c Q c0 s0 pc' L' S' g') : pmOK G M p l e R s m args below meth c Q c0 s0 pc L S g := by
  obtain ⟨hx, hb, hml, hown, hts, hini⟩ := hF
  unfold pmAald at hs
  split at hs
  · rename_i j a r
    split at hs
    · rename_i t n f ha
      split at hs
      · rename_i hc
        obtain ⟨rfl, rfl, rfl, rfl⟩ := pm_nx hs
        obtain ⟨ht, h3a, hin⟩ := hc
        intro H locs ls cells slots h1 h2 h3 h4 h5
        obtain ⟨h, rfl, hP, hz⟩ := id h1
        have kk := k H locs ls cells slots h1 h2 h3 h4 h5
        obtain ⟨a, rfl⟩ := pm_k3 h3a
        rw [pmRO_at] at ha
        rw [List.map_cons, pV_rf] at kk
        rcases ht with rfl | rfl
        · exact va_aldq hx hb hK.1 hP a 2 (pW_at ha) rfl (pm_in hin) hd kk
        · exact va_aldq hx hb hK.1 hP a 3 (pW_at ha) rfl (pm_in hin) hd kk
      · cases hs
    · cases hs
  · cases hs
theorem pm_stored {H1 : Heap} {h : pmH} {a : Nat} {e0 e1 : va_E} {locs1 : List Loc} {ls : Array Slot} {cells slots nx : Nat} {S1 : List Value} (hz0 : s.heap.size + 3 = pgB G + c0 ∧ 3 ≤ c0) (ha : h[a]? = some e0) (he : pmSzE e1 = pmSzE e0) (hP1 : va_P (pgD G) vwCl ((pW G h).set a (pgB G + a, pE G e1)) H1) (hS1 : va_S (pA G) s.heap H1 locs1) (h3 : lv_has ls M.2.2.2.1 (pmAs G L)) (h4 : cells + c0 = (pmRO (pgL G) (pgx G) ++ h).length) (h5 : slots + s0 = pmSz (pmRO (pgL G) (pgx G) ++ h)) (k : pmOK G M p l e R s m args below meth c Q c0 s0 nx L S1 ((pmRO (pgL G) (pgx G) ++ h).set (a + 3) e1)) : W p l e R s m args below meth c H1 locs1 cells slots Q (F0 m nx ls (S1.map (pV G))) := by
  rw [← pW_set] at hP1
  rw [pmRO_len] at h4
  refine pm_size hz0 hP1 hS1 (by rw [List.length_set]; exact h4) fun hz1 => ?_
  exact k H1 locs1 ls cells slots ⟨h.set a e1, pmRO_set, hP1, hz1⟩ hS1 h3 (by rw [List.length_set, pmRO_len]; exact h4) (by rw [pmSz_set (a := a + 3) (e := e0) (by rw [pmRO_at]; exact ha) he]; exact h5)
theorem pm_iast (hz0 : s.heap.size + 3 = pgB G + c0 ∧ 3 ≤ c0) (hF : pmFx M p s m args meth c) (hK : pmK G s s.heap) (hd : decode M.2.2.1 pc = .ok (.iastore, 1)) (hs : pmIast pc L S g = some (.inl (pc', L', S', g'))) (k : pmOK G M p l e R s m args below meth c Q c0 s0 pc' L' S' g') : pmOK G M p l e R s m args below meth c Q c0 s0 pc L S g := by
  obtain ⟨hx, hb, hml, hown, hts, hini⟩ := hF
  unfold pmIast at hs
  split at hs
  · rename_i x j a r
    split at hs
    · rename_i t n f ha
      split at hs
      · rename_i hc
        obtain ⟨rfl, rfl, rfl, rfl⟩ := pm_nx hs
        obtain ⟨rfl, h3a, hin⟩ := hc
        intro H locs ls cells slots h1 h2 h3 h4 h5
        obtain ⟨h, rfl, hP, hz⟩ := id h1
        obtain ⟨a, rfl⟩ := pm_k3 h3a
        rw [pmRO_at] at ha
        exact va_iast hx hb hK.1 hP (pD G h) h2 a 0 (pW_at ha) rfl (pm_in hin) hd fun H1 locs1 hP1 hD1 hS1 => pm_stored (e1 := .inl (0, n, .inl (upd f j.toNatClampNeg x))) hz0 ha (by rfl) hP1 hS1 h3 h4 h5 k
      · cases hs
    · cases hs
  · cases hs
theorem pm_bast (hz0 : s.heap.size + 3 = pgB G + c0 ∧ 3 ≤ c0) (hF : pmFx M p s m args meth c) (hK : pmK G s s.heap) (hd : decode M.2.2.1 pc = .ok (.bastore, 1)) (hs : pmBast pc L S g = some (.inl (pc', L', S', g'))) (k : pmOK G M p l e R s m args below meth c Q c0 s0 pc' L' S' g') : pmOK G M p l e R s m args below meth c Q c0 s0 pc L S g := by
  obtain ⟨hx, hb, hml, hown, hts, hini⟩ := hF
  unfold pmBast at hs
  split at hs
  · rename_i x j a r
    split at hs
    · rename_i t n f ha
      split at hs
      · rename_i hc
        obtain ⟨rfl, rfl, rfl, rfl⟩ := pm_nx hs
        obtain ⟨rfl, h3a, hin⟩ := hc
        intro H locs ls cells slots h1 h2 h3 h4 h5
        obtain ⟨h, rfl, hP, hz⟩ := id h1
        obtain ⟨a, rfl⟩ := pm_k3 h3a
        rw [pmRO_at] at ha
        exact va_zast hx hb hK.1 hP (pD G h) h2 a 1 (pW_at ha) rfl (pm_in hin) hd fun H1 locs1 hP1 hD1 hS1 => pm_stored (e1 := .inl (1, n, .inl (upd f j.toNatClampNeg (vp_nar .boolean x)))) hz0 ha (by rfl) hP1 hS1 h3 h4 h5 k
      · cases hs
    · cases hs
  · cases hs
theorem pE_up (G : pmG) (t n j v : Nat) (f : Nat → Option Nat) : pE G (.inl (t, n, .inr (.inr (.inr (.inr (va_up f j (some v))))))) = .inl (pgA G t, n, .inr (.inr (.inr (.inr (va_up (fun i => (f i).map (pgr G)) j (some (pgr G v))))))) := by
  show Sum.inl (pgA G t, n, Sum.inr (Sum.inr (Sum.inr (Sum.inr (fun i => (va_up f j (some v) i).map (pgr G)))))) = _
  have : (fun i => (va_up f j (some v) i).map (pgr G)) = va_up (fun i => (f i).map (pgr G)) j (some (pgr G v)) := by
    funext i
    by_cases hi : i = j <;> simp [va_up, hi]
  rw [this]
theorem pm_aast (hz0 : s.heap.size + 3 = pgB G + c0 ∧ 3 ≤ c0) (hF : pmFx M p s m args meth c) (hK : pmK G s s.heap) (hd : decode M.2.2.1 pc = .ok (.aastore, 1)) (hs : pmAast pc L S g = some (.inl (pc', L', S', g'))) (k : pmOK G M p l e R s m args below meth c Q c0 s0 pc' L' S' g') : pmOK G M p l e R s m args below meth c Q c0 s0 pc L S g := by
  obtain ⟨hx, hb, hml, hown, hts, hini⟩ := hF
  unfold pmAast at hs
  split at hs
  · rename_i v j a r
    split at hs
    · rename_i t n f cc fs ha hv
      split at hs
      · rename_i hc
        obtain ⟨rfl, rfl, rfl, rfl⟩ := pm_nx hs
        obtain ⟨ht, h3a, h3v, hin⟩ := hc
        intro H locs ls cells slots h1 h2 h3 h4 h5
        obtain ⟨h, rfl, hP, hz⟩ := id h1
        obtain ⟨a, rfl⟩ := pm_k3 h3a
        obtain ⟨v, rfl⟩ := pm_k3 h3v
        rw [pmRO_at] at ha hv
        rcases ht with ⟨rfl, rfl⟩ | ⟨rfl, rfl⟩
        · exact va_astq (r := (RX10, TX10, 4)) hx hb hK.1 hP (pD G h) h2 a 2 v 10 (pW_at ha) rfl (pW_at hv) rfl (pm_in hin) hd fun H1 locs1 hP1 hD1 hS1 => pm_stored hz0 ha (by rfl) (by rw [pE_up]; exact hP1) hS1 h3 h4 h5 k
        · exact va_astq (r := (RX1, TX1, 7)) hx hb hK.1 hP (pD G h) h2 a 3 v 1 (pW_at ha) rfl (pW_at hv) rfl (pm_in hin) hd fun H1 locs1 hP1 hD1 hS1 => pm_stored hz0 ha (by rfl) (by rw [pE_up]; exact hP1) hS1 h3 h4 h5 k
      · cases hs
    · cases hs
  · cases hs
theorem pm_len (hF : pmFx M p s m args meth c) (hK : pmK G s s.heap) (hd : decode M.2.2.1 pc = .ok (.arraylength, 1)) (hs : pmLen pc L S g = some (.inl (pc', L', S', g'))) (k : pmOK G M p l e R s m args below meth c Q c0 s0 pc' L' S' g') : pmOK G M p l e R s m args below meth c Q c0 s0 pc L S g := by
  obtain ⟨hx, hb, hml, hown, hts, hini⟩ := hF
  unfold pmLen at hs
  split at hs
  · rename_i a r
    split at hs
    · rename_i t n f ha
      split at hs
      · rename_i hc
        obtain ⟨rfl, rfl, rfl, rfl⟩ := pm_nx hs
        obtain ⟨rfl, ha3⟩ := hc
        intro H locs ls cells slots h1 h2 h3 h4 h5
        obtain ⟨h, rfl, hP, hz⟩ := id h1
        have kk := k H locs ls cells slots h1 h2 h3 h4 h5
        rcases ha3 with rfl | h3a
        · simp only [pmRO, List.cons_append, List.getElem?_cons_zero, Option.some.injEq, Sum.inl.injEq, Prod.mk.injEq, true_and] at ha
          obtain ⟨rfl, rfl⟩ := ha
          exact va_slen hx hb hK.2.1 (Nat.lt_of_lt_of_le hK.2.2.1 hK.2.2.2.2.2.2.2.2.2.2) (fun z => Nat.not_le.mpr hK.2.2.1 z) h2 hd kk
        · obtain ⟨a, rfl⟩ := pm_k3 h3a
          rw [pmRO_at] at ha
          exact va_alen hx hb hK.1 hP a 0 (pW_at ha) rfl rfl hd kk
      · cases hs
    · cases hs
  · cases hs
theorem pm_new1 {H : Heap} {h : pmH} {locs : List Loc} {cells slots nx q : Nat} {e1 : va_E} {ls : Array Slot} {S1 : List Value} {H1 : Heap} (hz : H.size = pgB G + h.length) (hq : q = H.size) (hP1 : va_P (pgD G) vwCl (pW G h ++ [(q, pE G e1)]) H1) (hz1 : H1.size = H.size + 1) (hS1 : va_S (pA G) s.heap H1 locs) (h3 : lv_has ls M.2.2.2.1 (pmAs G L)) (h4 : cells + c0 = (pmRO (pgL G) (pgx G) ++ h).length) (h5 : slots + s0 = pmSz (pmRO (pgL G) (pgx G) ++ h)) (k : pmOK G M p l e R s m args below meth c Q c0 s0 nx L (.ref (pmRO (pgL G) (pgx G) ++ h).length :: S1) (pmRO (pgL G) (pgx G) ++ h ++ [e1])) : W p l e R s m args below meth c H1 locs (cells + 1) (slots + pmSzE e1) Q (F0 m nx ls (.ref q :: S1.map (pV G))) := by
  subst hq
  rw [hz, ← pW_push] at hP1
  have kk := k H1 locs ls (cells + 1) (slots + pmSzE e1) ⟨h ++ [e1], by rw [List.append_assoc], hP1, by rw [hz1, hz, List.length_append]; rfl⟩ hS1 h3 (by rw [List.length_append, ← h4]; simp; omega) (by rw [pmSz_push, ← h5]; omega)
  rw [List.map_cons, pmRO_len] at kk
  rw [hz]
  exact kk
theorem pm_newA {at0 : ArrayType} {t : Nat} {ty : FieldType} (hz0 : s.heap.size + 3 = pgB G + c0 ∧ 3 ≤ c0) (hrm : g'.length ≤ c0 + R.cells ∧ pmSz g' ≤ s0 + R.slots) (hF : pmFx M p s m args meth c) (hK : pmK G s s.heap) (hty : newarray.typeOf at0 = ty) (hw : Jvm.Cond.arrayClass ty ∈ pmTbl) (hcb : componentBytes ty ≤ 8) (hfc : s.vm.findClass ("[" ++ ty.toString) = some (pgA G t)) (hdf : defaultValue ty = .int 0) (hd : decode M.2.2.1 pc = .ok (.newarray at0, 2)) (hs : pmNewA pc t L S g = some (.inl (pc', L', S', g'))) (k : pmOK G M p l e R s m args below meth c Q c0 s0 pc' L' S' g') : pmOK G M p l e R s m args below meth c Q c0 s0 pc L S g := by
  obtain ⟨hx, hb, hml, hown, hts, hini⟩ := hF
  subst hty
  unfold pmNewA at hs
  split at hs
  · rename_i n r
    split at hs
    · rename_i hc
      obtain ⟨rfl, rfl, rfl, rfl⟩ := pm_nx hs
      intro H locs ls cells slots h1 h2 h3 h4 h5
      obtain ⟨h, rfl, hP, hz⟩ := id h1
      have hrc : cells + 1 ≤ R.cells := by
        have := hrm.1
        rw [List.length_append, ← h4, List.length_singleton] at this
        omega
      have hrs : slots + n.toNatClampNeg ≤ R.slots := by
        have := hrm.2
        rw [pmSz_push, ← h5] at this
        have e2 : pmSzE (.inl (t, n.toNatClampNeg, .inl (fun _ => 0))) = n.toNatClampNeg := rfl
        omega
      have hby : n.toNatClampNeg * componentBytes (newarray.typeOf at0) ≤ 536870912 := by
        have := Nat.mul_le_mul hc.2 hcb
        omega
      refine va_newaK hx hb (hts _ hw) rfl hd rfl hc.1 rfl hby hrc hrs rfl fun H1 cA e1 z1 o1 hAr hNm => ?_
      have hcA : cA = pgA G t := Option.some.inj (hNm.symm.trans hfc)
      subst hcA
      have hk : ∀ (j : Nat) (x : Nat × va_E), (pW G h)[j]? = some x → H1[x.1]? = H[x.1]? := fun j x hj => o1 x.1 ((hP j x hj).lt)
      refine pm_new1 (e1 := .inl (t, n.toNatClampNeg, .inl (fun _ => 0))) hz rfl ((hP.kept hk).app (fun j x hj => ?_)) z1 ⟨Nat.le_trans h2.1 (by omega), fun x w1 w2 => (o1 x (Nat.lt_of_lt_of_le w1 h2.1)).trans (h2.2.1 x w1 w2), h2.2.2⟩ h3 h4 h5 k
      have hz9 : j < 1 := (List.getElem?_eq_some_iff.mp hj).1
      rw [show j = 0 by omega] at hj
      cases hj
      show H1[H.size]? = some (vp_cell _ _)
      rw [e1, hdf]
      rfl
    · cases hs
  · cases hs
theorem pm_newQ {C : String} {t : Nat} (hz0 : s.heap.size + 3 = pgB G + c0 ∧ 3 ≤ c0) (hrm : g'.length ≤ c0 + R.cells ∧ pmSz g' ≤ s0 + R.slots) (hF : pmFx M p s m args meth c) (hK : pmK G s s.heap) (hw : Jvm.Cond.classLink (pmCN M.2.1) i C ∈ pmTbl) (hov : va_AO C s) (hfc : s.vm.findClass ("[" ++ (FieldType.object C).toString) = some (pgA G t)) (hd : decode M.2.2.1 pc = .ok (.anewarray i, 3)) (hs : pmNewQ pc t L S g = some (.inl (pc', L', S', g'))) (k : pmOK G M p l e R s m args below meth c Q c0 s0 pc' L' S' g') : pmOK G M p l e R s m args below meth c Q c0 s0 pc L S g := by
  obtain ⟨hx, hb, hml, hown, hts, hini⟩ := hF
  unfold pmNewQ at hs
  split at hs
  · rename_i n r
    split at hs
    · rename_i hc
      obtain ⟨rfl, rfl, rfl, rfl⟩ := pm_nx hs
      intro H locs ls cells slots h1 h2 h3 h4 h5
      obtain ⟨h, rfl, hP, hz⟩ := id h1
      have hrc : cells + 1 ≤ R.cells := by
        have := hrm.1
        rw [List.length_append, ← h4, List.length_singleton] at this
        omega
      have hrs : slots + n.toNatClampNeg ≤ R.slots := by
        have := hrm.2
        rw [pmSz_push, ← h5] at this
        have e2 : pmSzE (.inl (t, n.toNatClampNeg, .inr (.inr (.inr (.inr (fun _ => none)))))) = n.toNatClampNeg := rfl
        omega
      refine W.anew hx hb hown (hts _ hw) (va_AO.use hov) rfl hd rfl hc.1 (by have := hc.2; omega) hrc hrs fun cA kA comp f1 f2 f3 f4 => ?_
      have hcA : cA = pgA G t := Option.some.inj (f1.symm.trans hfc)
      subst hcA
      generalize hH1 : H.push ({ cls := pgA G t, slots := Array.replicate n.toNatClampNeg .null, vm := .none } : Cell) = H1
      have z1 : H1.size = H.size + 1 := by rw [← hH1, Array.size_push]
      have e1 : H1[H.size]? = some (arrV (pgA G t) n.toNatClampNeg (fun _ => .null)) := by rw [← hH1, Array.getElem?_push_size, ← arrV_new]
      have o1 : ∀ q : Nat, q < H.size → H1[q]? = H[q]? := fun q hq => by rw [← hH1, Array.getElem?_push, if_neg (Nat.ne_of_lt hq)]
      have hk : ∀ (j : Nat) (x : Nat × va_E), (pW G h)[j]? = some x → H1[x.1]? = H[x.1]? := fun j x hj => o1 x.1 ((hP j x hj).lt)
      refine pm_new1 (e1 := .inl (t, n.toNatClampNeg, .inr (.inr (.inr (.inr (fun _ => none)))))) hz rfl ((hP.kept hk).app (fun j x hj => ?_)) z1 ⟨Nat.le_trans h2.1 (by omega), fun x w1 w2 => (o1 x (Nat.lt_of_lt_of_le w1 h2.1)).trans (h2.2.1 x w1 w2), h2.2.2⟩ h3 h4 h5 k
      have hz9 : j < 1 := (List.getElem?_eq_some_iff.mp hj).1
      rw [show j = 0 by omega] at hj
      cases hj
      show H1[H.size]? = some (vp_cell _ _)
      rw [e1]
      rfl
    · cases hs
  · cases hs
theorem pm_dv (ty : FieldType) : pV G (defaultValue ty) = defaultValue ty := by cases ty <;> rfl
theorem pm_new {ci : Nat} (hci : ci < 13) (hz0 : s.heap.size + 3 = pgB G + c0 ∧ 3 ≤ c0) (hrm : g'.length ≤ c0 + R.cells ∧ pmSz g' ≤ s0 + R.slots) (hF : pmFx M p s m args meth c) (hK : pmK G s s.heap) (hw : Jvm.Cond.classLink (pmCN M.2.1) i (pmCN ci) ∈ pmTbl) (hd : decode M.2.2.1 pc = .ok (.new i, 3)) (hs : pmNx (pc + 3) L (.ref g.length :: S) (g ++ [.inr (ci, pmDef ci)]) = some (.inl (pc', L', S', g'))) (k : pmOK G M p l e R s m args below meth c Q c0 s0 pc' L' S' g') : pmOK G M p l e R s m args below meth c Q c0 s0 pc L S g := by
  obtain ⟨hx, hb, hml, hown, hts, hini⟩ := hF
  obtain ⟨rfl, rfl, rfl, rfl⟩ := pm_nx hs
  intro H locs ls cells slots h1 h2 h3 h4 h5
  obtain ⟨h, rfl, hP, hz⟩ := id h1
  have hrc : cells + 1 ≤ R.cells := by
    have := hrm.1
    rw [List.length_append, ← h4, List.length_singleton] at this
    omega
  have hrs : slots + pmNF ci ≤ R.slots := by
    have := hrm.2
    rw [pmSz_push, ← h5] at this
    have e2 : pmSzE (.inr (ci, pmDef ci)) = pmNF ci := rfl
    omega
  have hKn := hK.1.1 ci _ (pmC_cl hci)
  refine W.newcK hx hb hown (hts _ hw) (hts _ (pmC_w hci).2.1) (hts _ (pmC_w hci).2.2) rfl hd hrc hrs hKn.2.1 rfl fun H1 kC hkC e1 z1 o1 => ?_
  have hk : ∀ (j : Nat) (x : Nat × va_E), (pW G h)[j]? = some x → H1[x.1]? = H[x.1]? := fun j x hj => o1 x.1 ((hP j x hj).lt)
  refine pm_new1 (e1 := .inr (ci, pmDef ci)) hz rfl ((hP.kept hk).app (fun j x hj => ?_)) z1 ⟨Nat.le_trans h2.1 (by omega), fun x w1 w2 => (o1 x (Nat.lt_of_lt_of_le w1 h2.1)).trans (h2.2.1 x w1 w2), h2.2.2⟩ h3 h4 h5 k
  have hz9 : j < 1 := (List.getElem?_eq_some_iff.mp hj).1
  rw [show j = 0 by omega] at hj
  cases hj
  refine ⟨_, pmC_cl hci, (u_born (pmTy ci) hts (pmC_w hci).1 hKn hkC e1 (pmC_ty hci)).to (fun j hj => ?_)⟩
  simp [vp_V, pmDef, List.getD_eq_getElem?_getD, hj, pm_dv]
end PMT
