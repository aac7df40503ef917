section PMZ
variable {G : pmG} {l : Launch}
theorem pmX_grow : ∀ (n : Nat) (M : pmM) (pc : Nat) (L : pmL) (S : List Value) (g : pmH) (v : Option Value) (g1 : pmH), pmX n M pc L S g = some (v, g1) → pmGr g g1
  | 0, M, pc, L, S, g, v, g1, h => by simp [pmX] at h
  | n + 1, M, pc, L, S, g, v, g1, h => by
    unfold pmX at h
    split at h
    · cases h
    · rename_i hs
      exact pmGr_tr (pm_grow hs) (pmX_grow n _ _ _ _ _ _ _ h)
    · split at h
      · cases h
      · rename_i hv
        exact pmGr_tr (pmX_grow n _ _ _ _ _ _ _ hv) (pmX_grow n _ _ _ _ _ _ _ h)
    · cases h
      exact pmGr_rf
theorem pmSl_cons (a : Value) (as : List Value) : pmSl (a :: as) = (if a.category = 2 then [some a, none] else [some a]) ++ pmSl as := rfl
theorem pm_ent : ∀ (as : List Value) (k i : Nat) (v : Value), (pmSl as)[i]? = some (some v) → (k + i, pV G v) ∈ lv_args k (as.map (pV G))
  | [], k, i, v, h => by simp [pmSl] at h
  | a :: as, k, i, v, h => by
    rw [pmSl_cons] at h
    simp only [List.map_cons, lv_args, pV_cat]
    by_cases hc : a.category = 2
    · rw [if_pos hc] at h
      rw [if_pos hc]
      match i, h with
      | 0, h =>
        simp only [List.cons_append, List.getElem?_cons_zero, Option.some.injEq] at h
        subst h
        exact List.mem_cons_self
      | 1, h => simp at h
      | i + 2, h =>
        have h2 : (pmSl as)[i]? = some (some v) := h
        have := pm_ent as (k + 2) i v h2
        rw [show k + (i + 2) = k + 2 + i by omega]
        exact List.mem_cons_of_mem _ this
    · rw [if_neg hc] at h
      rw [if_neg hc]
      match i, h with
      | 0, h =>
        simp only [List.cons_append, List.getElem?_cons_zero, Option.some.injEq] at h
        subst h
        exact List.mem_cons_self
      | i + 1, h =>
        have h2 : (pmSl as)[i]? = some (some v) := h
        have := pm_ent as (k + 1) i v h2
        rw [show k + (i + 1) = k + 1 + i by omega]
        exact List.mem_cons_of_mem _ this
theorem pm_sl : ∀ (as : List Value), (lg_sl (as.map (pV G))).length = (pmSl as).length
  | [] => rfl
  | a :: as => by
    have ih := pm_sl as
    rw [pmSl_cons]
    simp only [lg_sl, List.map_cons, List.flatMap_cons, List.length_append, pV_cat] at ih ⊢
    rw [ih]
    by_cases hc : a.category = 2 <;> simp [hc]
theorem pmEnt_len {as : List Value} {n : Nat} (h : (pmSl as).length ≤ n) : (pmEnt n as).length = n := by simp [pmEnt]; omega
theorem pm_entry {as : List Value} {n : Nat} (h : (pmSl as).length ≤ n) : lv_has ((lg_sl (as.map (pV G)) ++ List.replicate (n - (lg_sl (as.map (pV G))).length) Slot.unset).toArray) n (pmAs G (pmEnt n as)) := by
  have h0 := lv_entry (as.map (pV G)) (n := n) (by rw [pm_sl]; exact h)
  refine ⟨h0.1, h0.2.1, fun q hq => ?_⟩
  obtain ⟨i, w⟩ := q
  obtain ⟨v, hv, rfl⟩ := pmAs_mem.mp hq
  refine h0.2.2 _ ?_
  have hv2 : (pmSl as)[i]? = some (some v) := by
    unfold pmEnt at hv
    rcases Nat.lt_or_ge i (pmSl as).length with z | z
    · rw [List.getElem?_append_left z] at hv
      exact hv
    · rw [List.getElem?_append_right z] at hv
      have := List.eq_of_mem_replicate (List.mem_of_getElem? hv)
      cases this
  have := pm_ent (G := G) as 0 i v hv2
  rw [Nat.zero_add] at this
  exact this
theorem pm_lenS {M : pmM} {pc pc' : Nat} {L L' : pmL} {S S' : List Value} {g g' : pmH} (hs : pmS M pc L S g = some (.inl (pc', L', S', g'))) : L'.length = L.length := by
  unfold pmS at hs
  split at hs
  · rename_i ins n hd
    split at hs
    · cases ins with
      | newarray q =>
        cases q <;> first
          | (cases hs; done)
          | (have hs : pmNewA _ _ _ _ _ = _ := hs
             simp only [pmNewA, pmNx] at hs
             repeat' split at hs
             all_goals (cases hs; try rfl))
      | invokevirtual q =>
        have hs : pmInvV M pc q L S g = _ := hs
        unfold pmInvV at hs
        repeat' split at hs
        all_goals first | (cases hs; done) | exact absurd hs pmCall_ni
      | invokestatic q =>
        have hs : pmInvS M pc q L S = _ := hs
        unfold pmInvS at hs
        repeat' split at hs
        all_goals first | (cases hs; done) | exact absurd hs pmCall_ni
      | invokespecial q =>
        have hs : pmInvI M pc q L S g = _ := hs
        unfold pmInvI at hs
        repeat' split at hs
        all_goals first | (cases hs; done) | exact absurd hs pmCall_ni | (obtain ⟨-, rfl, -, -⟩ := pm_nx hs; rfl)
      | _ =>
        first
          | (cases hs; done)
          | (simp only [pmI, pmLdI, pmLdJ, pmLdA, pmStI, pmStA, pmStJ, pmInc, pmII, pmIIz, pmJJ, pmJJz, pmJI, pmGo, pmBr2, pmBr1, pmTab, pmLook, pmGet, pmPut, pmIald, pmBald, pmLald, pmAald, pmIast, pmBast, pmAast, pmLen, pmNewQ, pmS1, pmS2] at hs
             repeat' split at hs
             all_goals first
               | (cases hs; done)
               | (obtain ⟨-, rfl, -, -⟩ := pm_nx hs; rfl)
               | (obtain ⟨_, _, hs⟩ := Option.bind_eq_some_iff.mp hs; obtain ⟨-, rfl, -, -⟩ := pm_nx hs; rfl)
               | (obtain ⟨_, hz, hs⟩ := Option.bind_eq_some_iff.mp hs; obtain ⟨-, rfl, -, -⟩ := pm_nx hs; cases hz; simp; done)
               | (obtain ⟨_, hz, hs⟩ := Option.bind_eq_some_iff.mp hs; cases hz; done)
               | (obtain ⟨_, _, hs⟩ := Option.bind_eq_some_iff.mp hs; obtain ⟨_, _, hs⟩ := Option.bind_eq_some_iff.mp hs; obtain ⟨-, rfl, -, -⟩ := pm_nx hs; rfl))
    · cases hs
  · cases hs
theorem pmMT_rk : pmMT.all (fun e => decide (1 ≤ e.2.2.2.2.1.2.2.2.2.2)) = true := by decide +kernel
theorem pmMth_rk {o i k n : Nat} {N : pmM} {qs : Nat × Nat × Nat × Nat × Nat} (h : pmMth o i = some (k, n, N, qs)) : 1 ≤ N.2.2.2.2.2 := by
  obtain ⟨q, hq, he⟩ := Option.map_eq_some_iff.mp h
  have h2 := List.all_eq_true.mp pmMT_rk q (List.mem_of_find?_eq_some hq)
  obtain ⟨o', i', k', n', N', qs'⟩ := q
  simp only [Prod.mk.injEq] at he
  obtain ⟨rfl, rfl, rfl, rfl⟩ := he
  exact of_decide_eq_true h2
theorem pm_lenC {M N : pmM} {pc pc1 : Nat} {L L1 : pmL} {S as R1 : List Value} {g : pmH} (hs : pmS M pc L S g = some (.inr (.inl (N, as, pc1, L1, R1)))) : L1 = L ∧ (pmSl as).length ≤ N.2.2.2.1 ∧ plainFor N.1 = true ∧ pmCN N.2.1 = N.1.cls ∧ 1 ≤ N.2.2.2.2.2 ∧ N.2.2.2.2.2 < M.2.2.2.2.2 := by
  have core : ∀ {k : Nat} {N' : pmM}, pmCall M pc k N' L S = some (.inr (.inl (N, as, pc1, L1, R1))) → L1 = L ∧ (pmSl as).length ≤ N.2.2.2.1 ∧ N' = N ∧ N.2.2.2.2.2 < M.2.2.2.2.2 := by
    intro k N' h
    unfold pmCall at h
    split at h
    · rename_i hc
      simp only [Option.some.injEq, Sum.inr.injEq, Sum.inl.injEq, Prod.mk.injEq] at h
      obtain ⟨rfl, rfl, rfl, rfl, rfl⟩ := h
      exact ⟨rfl, hc.2.2.2, rfl, hc.2.2.1⟩
    · cases h
  have fin : ∀ {ii kd nn : Nat} {N' : pmM} {qs : Nat × Nat × Nat × Nat × Nat} {k : Nat}, pmMth M.2.1 ii = some (kd, nn, N', qs) → pmCall M pc k N' L S = some (.inr (.inl (N, as, pc1, L1, R1))) → L1 = L ∧ (pmSl as).length ≤ N.2.2.2.1 ∧ plainFor N.1 = true ∧ pmCN N.2.1 = N.1.cls ∧ 1 ≤ N.2.2.2.2.2 ∧ N.2.2.2.2.2 < M.2.2.2.2.2 := by
    intro ii kd nn N' qs k hv h
    obtain ⟨q1, q2, q3, q4, q5⟩ := qs
    obtain ⟨w1, w2, w3⟩ := pmMth_ok hv
    simp only [pmMTg, Bool.and_eq_true, decide_eq_true_eq] at w2
    obtain ⟨e1, e2, rfl, e4⟩ := core h
    exact ⟨e1, e2, w2.1.2, w2.1.1.1.1.1.2, pmMth_rk hv, e4⟩
  unfold pmS at hs
  split at hs
  · rename_i ins n hd
    split at hs
    · cases ins with
      | invokevirtual q =>
        have hs : pmInvV M pc q L S g = _ := hs
        unfold pmInvV at hs
        split at hs
        · rename_i hv
          split at hs
          · exact fin hv hs
          · cases hs
        · cases hs
      | invokestatic q =>
        have hs : pmInvS M pc q L S = _ := hs
        unfold pmInvS at hs
        split at hs
        · rename_i hv
          split at hs
          · exact fin hv hs
          · cases hs
        · cases hs
      | invokespecial q =>
        have hs : pmInvI M pc q L S g = _ := hs
        unfold pmInvI at hs
        split at hs
        · split at hs
          · split at hs
            · simp [pmNx] at hs
            · cases hs
          · cases hs
        · split at hs
          · rename_i hv
            split at hs
            · exact fin hv hs
            · cases hs
          · cases hs
      | newarray q =>
        exfalso
        cases q <;> first
          | (cases hs; done)
          | (have hs : pmNewA _ _ _ _ _ = _ := hs
             simp only [pmNewA, pmNx] at hs
             repeat' split at hs
             all_goals (cases hs; done))
      | _ =>
        exfalso
        first
          | (cases hs; done)
          | (simp only [pmI, pmLdI, pmLdJ, pmLdA, pmStI, pmStA, pmStJ, pmInc, pmII, pmIIz, pmJJ, pmJJz, pmJI, pmGo, pmBr2, pmBr1, pmTab, pmLook, pmGet, pmPut, pmIald, pmBald, pmLald, pmAald, pmIast, pmBast, pmAast, pmLen, pmNewA, pmNewQ, pmNx, Option.bind_eq_some_iff] at hs
             repeat' split at hs
             all_goals first | (cases hs; done) | (simp at hs; done) | (simp [Option.bind_eq_some_iff] at hs; done))
    · cases hs
  · cases hs
/-- what a return is -/
theorem pm_retS {M : pmM} {pc : Nat} {L : pmL} {S : List Value} {g : pmH} {v : Option Value} (hs : pmS M pc L S g = some (.inr (.inr v))) :
    (∃ (x : Int32) (t : FieldType), S = [.int x] ∧ v = some (.int x) ∧ M.2.2.2.2.1 = some t ∧ narrow t (.int x) = .int x ∧ decode M.2.2.1 pc = .ok (.ireturn, 1)) ∨ (∃ x : Int64, S = [.long x] ∧ v = some (.long x) ∧ M.2.2.2.2.1 = some .long ∧ decode M.2.2.1 pc = .ok (.lreturn, 1)) ∨ (S = [] ∧ v = none ∧ M.2.2.2.2.1 = none ∧ decode M.2.2.1 pc = .ok (.return_, 1)) := by
  have nc : ∀ {k : Nat} {N' : pmM}, ¬ pmCall M pc k N' L S = some (.inr (.inr v)) := by
    intro k N' h
    unfold pmCall at h
    split at h <;> cases h
  unfold pmS at hs
  split at hs
  · rename_i ins n hd
    split at hs
    · rename_i hn
      cases ins with
      | ireturn =>
        obtain rfl : n = 1 := hn.resolve_right (fun (z : 1 = 0) => absurd z (by decide))
        simp only [pmI] at hs
        split at hs
        · rename_i x t ht
          split at hs
          · rename_i hc
            cases hs
            exact Or.inl ⟨x, t, rfl, rfl, ht, hc, hd⟩
          · cases hs
        · cases hs
      | lreturn =>
        obtain rfl : n = 1 := hn.resolve_right (fun (z : 1 = 0) => absurd z (by decide))
        simp only [pmI] at hs
        split at hs
        · rename_i x ht
          cases hs
          exact Or.inr (Or.inl ⟨x, rfl, rfl, ht, hd⟩)
        · cases hs
      | return_ =>
        obtain rfl : n = 1 := hn.resolve_right (fun (z : 1 = 0) => absurd z (by decide))
        simp only [pmI] at hs
        split at hs
        · rename_i ht
          cases hs
          exact Or.inr (Or.inr ⟨rfl, rfl, ht, hd⟩)
        · cases hs
      | invokevirtual q =>
        exfalso
        have hs : pmInvV M pc q L S g = _ := hs
        unfold pmInvV at hs
        repeat' split at hs
        all_goals first | (cases hs; done) | exact nc hs
      | invokestatic q =>
        exfalso
        have hs : pmInvS M pc q L S = _ := hs
        unfold pmInvS at hs
        repeat' split at hs
        all_goals first | (cases hs; done) | exact nc hs
      | invokespecial q =>
        exfalso
        have hs : pmInvI M pc q L S g = _ := hs
        unfold pmInvI at hs
        repeat' split at hs
        all_goals first | (cases hs; done) | exact nc hs | (simp [pmNx] at hs; done)
      | newarray q =>
        exfalso
        cases q <;> first
          | (cases hs; done)
          | (have hs : pmNewA _ _ _ _ _ = _ := hs
             simp only [pmNewA, pmNx] at hs
             repeat' split at hs
             all_goals (cases hs; done))
      | _ =>
        exfalso
        first
          | (cases hs; done)
          | (simp only [pmI, pmLdI, pmLdJ, pmLdA, pmStI, pmStA, pmStJ, pmInc, pmII, pmIIz, pmJJ, pmJJz, pmJI, pmGo, pmBr2, pmBr1, pmTab, pmLook, pmGet, pmPut, pmIald, pmBald, pmLald, pmAald, pmIast, pmBast, pmAast, pmLen, pmNewA, pmNewQ, pmNx, Option.bind_eq_some_iff] at hs
             repeat' split at hs
             all_goals first | (cases hs; done) | (simp at hs; done) | (simp [Option.bind_eq_some_iff] at hs; done))
    · cases hs
  · cases hs
/-- THE PURE MACHINE IS SOUND: what it comes to, the machine comes to -/
theorem pm_sound : ∀ (n : Nat) (M : pmM) (pc : Nat) (L : pmL) (S : List Value) (g : pmH) (v : Option Value) (g1 : pmH), pmX n M pc L S g = some (v, g1) → L.length = M.2.2.2.1 → ∀ {p : Program} {e : Env} {R : Room} {s : State} {m : MethodId} {args : Array Value} {below : List Frame} {meth : Method} {c : Code} {Q : State → Prop} {c0 s0 : Nat},
    s.heap.size + 3 = pgB G + c0 ∧ 3 ≤ c0 → g1.length ≤ c0 + R.cells ∧ pmSz g1 ≤ s0 + R.slots → (M.2.2.2.2.2 ≤ R.frames ∧ 40 * M.2.2.2.2.2 ≤ R.locals) ∧ 1 ≤ M.2.2.2.2.2 → pmFx M p s m args meth c → pmK G s s.heap →
    (∀ (pcr : Nat) (Lr : pmL) (Sr : List Value), pmS M pcr Lr Sr g1 = some (.inr (.inr v)) → pmOK G M p l e R s m args below meth c Q c0 s0 pcr Lr Sr g1) → pmOK G M p l e R s m args below meth c Q c0 s0 pc L S g
  | 0, M, pc, L, S, g, v, g1, h => by simp [pmX] at h
  | n + 1, M, pc, L, S, g, v, g1, h => by
    intro hL p e R s m args below meth c Q c0 s0 hz0 hrm hR hF hK hret
    unfold pmX at h
    split at h
    · cases h
    · rename_i pc' L' S' g' hs
      have hg := pmX_grow n _ _ _ _ _ _ _ h
      exact pm_step hz0 ⟨Nat.le_trans hg.1 hrm.1, Nat.le_trans hg.2 hrm.2⟩ ⟨by have := hR.1.1; omega, by have := hR.1.2; omega⟩ hF hK hL hs (pm_sound n M pc' L' S' g' v g1 h ((pm_lenS hs).trans hL) hz0 hrm hR hF hK hret)
    · rename_i N as pc1 L1 R1 hs
      split at h
      · cases h
      · rename_i v2 g2 hv
        obtain ⟨rfl, hsl, hpl, hcn, hr0, hrk⟩ := pm_lenC hs
        have hg1 := pmX_grow n _ _ _ _ _ _ _ hv
        have hg2 := pmX_grow n _ _ _ _ _ _ _ h
        refine pm_call hz0 ⟨Nat.le_trans hg2.1 hrm.1, Nat.le_trans hg2.2 hrm.2⟩ hR.1 hF hK hs hg1 ?_ (pm_sound n M pc1 _ _ g2 v g1 h hL hz0 hrm hR hF hK hret)
        refine va_MetF (cc := N.2.2.1) (maxL := N.2.2.2.1) (ret := N.2.2.2.2.1) hpl rfl ?_
        intro p' e' s' m' args' below' meth' c' s₁ B hml' hPc
        obtain ⟨rfl, hrel, hK'⟩ := hPc
        have hts' := atoms_spec (ws := pmWs N) B.pre
        rw [lg_entry_eq]
        obtain ⟨h0, he0, hP0, hz'⟩ := id hrel
        have hlen : g.length = h0.length + 3 := by rw [he0, pmRO_len]
        refine pm_sound (Q := MQ below' (pmQc G v2 g2) _ s' (g2.length - g.length) (pmSz g2 - pmSz g) (pA G)) (c0 := g.length) (s0 := pmSz g) n N 0 (pmEnt N.2.2.2.1 as) [] g v2 g2 hv (pmEnt_len hsl) ⟨by rw [hz', hlen]; omega, by omega⟩ ⟨by show _ ≤ _ + (g2.length - g.length); omega, by show _ ≤ _ + (pmSz g2 - pmSz g); omega⟩ ⟨⟨Nat.le_refl _, Nat.le_refl _⟩, hr0⟩ ⟨B.exec, B.bytes, hml', by rw [hcn]; exact findClass_of_methodNamed B.named, fun w hw => hts' w (List.mem_cons_of_mem _ hw), fun hi => ((name_of_methodNamed B.named B.method).1).trans hi⟩ hK' ?_ s'.heap [] _ 0 0 hrel va_S.rf (pm_entry hsl) (Nat.zero_add _) (Nat.zero_add _)
        intro pcr Lr Sr hsr H locs ls cells slots k1 k2 k3 k4 k5
        have ec : cells = g2.length - g.length := by omega
        have es : slots = pmSz g2 - pmSz g := by omega
        subst ec
        subst es
        rcases pm_retS hsr with ⟨x, t, rfl, rfl, ht, hn, hd⟩ | ⟨x, rfl, rfl, ht, hd⟩ | ⟨rfl, rfl, ht, hd⟩
        · exact W.zret B.exec B.bytes (B.returns.trans ht) hn (fun t ht hW => ⟨rfl, by rw [ht]; exact k1, by rw [ht]; exact k2.1, fun q z1 z2 => by rw [ht]; exact k2.2.1 q z1 z2⟩) k2.2.2 hd B.notSynchronized
        · exact W.lret B.exec B.bytes (B.returns.trans ht) (fun t ht hW => ⟨rfl, by rw [ht]; exact k1, by rw [ht]; exact k2.1, fun q z1 z2 => by rw [ht]; exact k2.2.1 q z1 z2⟩) k2.2.2 hd B.notSynchronized
        · exact W.vret B.exec B.bytes (B.returns.trans ht) (fun t ht hW => ⟨rfl, by rw [ht]; exact k1, by rw [ht]; exact k2.1, fun q z1 z2 => by rw [ht]; exact k2.2.1 q z1 z2⟩) k2.2.2 hd B.notSynchronized
    · rename_i v' hs
      cases h
      exact hret pc L S hs
end PMZ
