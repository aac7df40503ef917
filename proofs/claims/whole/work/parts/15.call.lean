section PMC
variable {G : pmG} {M N : pmM} {p : Program} {l : Launch} {e : Env} {R : Room} {s : State} {m : MethodId} {args : Array Value} {below : List Frame} {meth : Method} {c : Code} {Q : State → Prop} {c0 s0 : Nat} {pc pc1 n i : Nat} {L L1 : pmL} {S R1 as : List Value} {g g1 : pmH} {v : Option Value}
def pmRm (N : pmM) (g g1 : pmH) : Room := { frames := N.2.2.2.2.2, cells := g1.length - g.length, slots := pmSz g1 - pmSz g, locals := 40 * N.2.2.2.2.2 }
def pmPc (G : pmG) (as : List Value) (g : pmH) : Array Value → State → Prop := fun a U => a = (as.map (pV G)).toArray ∧ pmRel G g U.heap ∧ pmK G U U.heap
def pmQc (G : pmG) (v : Option Value) (g1 : pmH) : Array Value → State → Outcome → State → Prop := fun _ st oc t => oc = .returned (v.map (pV G)) ∧ pmRel G g1 t.heap ∧ st.heap.size ≤ t.heap.size ∧ ∀ q : Nat, q < st.heap.size → ¬ pA G q → t.heap[q]? = st.heap[q]?
def pmWs (N : pmM) : List Jvm.Cond := Jvm.Cond.code N.1 N.2.2.1 N.2.2.2.1 N.2.2.2.2.1 :: pmTbl
def pmMet (G : pmG) (l : Launch) (N : pmM) (as : List Value) (g : pmH) (v : Option Value) (g1 : pmH) : Prop := Met l N.1 (pmWs N) (pmRm N g g1) (pmPc G as g) (pmQc G v g1) (g1.length - g.length) (pmSz g1 - pmSz g) (pA G)
theorem pmWs_good (h : pmCW N) : GoodIn pmTbl (pmWs N) := fun w hw => by
  rcases List.mem_cons.mp hw with rfl | hw
  · exact ⟨h, pmTbl_good h⟩
  · exact ⟨hw, pmTbl_good hw⟩
theorem pmK.same {U U' : State} {H : Heap} (hv : U.vm = U'.vm) (h : pmK G U H) : pmK G U' H := by
  obtain ⟨h1, h2, h3, h4, h5, h6, h7, h8, h9, h10, h11⟩ := h
  have ha : U.vm.Alike U'.vm := hv ▸ Vm.Alike.refl U.vm
  refine ⟨va_K.moved ha h1, va_X.moved ha h2, h3, va_T.moved ha h4, va_T.moved ha h5, va_Z.moved ha h6, va_Z.moved ha h7, fun w hw => ?_, va_AO.moved ha h9, va_AO.moved ha h10, h11⟩
  have hq := h8 w hw
  simp only [pmNest, List.mem_cons, List.not_mem_nil, or_false] at hw
  rcases hw with rfl | rfl | rfl | rfl | rfl | rfl | rfl <;> exact va_Nw.same rfl hv hq
theorem pm_blind : FrameBlind (pmPc G as g) := fun a U g0 mk h => ⟨h.1, h.2.1, pmK.same (U := U) rfl h.2.2⟩
theorem pm_pre {H : Heap} {locs : List Loc} (hK : pmK G s s.heap) (h1 : pmRel G g H) (h2 : va_S (pA G) s.heap H locs) : PreS s H (pmPc G as g) (as.map (pV G)) :=
  ⟨pm_blind, fun U hU hW => ⟨rfl, by rw [hU]; exact h1, by rw [hU]; exact hK.warm hW h2.2.1 h2.1⟩⟩
theorem pm_run {H : Heap} {locs : List Loc} {cells slots mc ms : Nat} {ls : Array Slot} {st0 rest : List Value} {a : Array Value} (hr : va_Run p l e R s m args below meth c H locs cells slots mc ms (F0 m pc ls st0) rest (pmQc G v g1 a) (pA G)) (hS : va_S (pA G) s.heap H locs)
    (k : ∀ (H1 : Heap) (locs1 : List Loc), pmRel G g1 H1 → va_S (pA G) s.heap H1 locs1 → W p l e R s m args below meth c H1 locs1 (cells + mc) (slots + ms) Q (F0 m (pc + 3) ls ((v.map (pV G)).toList ++ rest))) : W p l e R s m args below meth c H locs cells slots Q (F0 m pc ls st0) := by
  intro T hT X
  obtain ⟨v', st₀, t, T', LL, h0, X', hL, e1, e2, ⟨hv, hrel, hz, hk⟩, st⟩ := hr T hT X
  cases hv
  rw [h0] at hz hk
  obtain ⟨t2, a1, b1⟩ := k T'.heap (locs ++ LL) (by rw [e1]; exact hrel) ⟨Nat.le_trans hS.1 (by rw [e1]; exact hz), fun q h1 h2 => by rw [e1, hk q (Nat.lt_of_lt_of_le h1 hS.1) h2]; exact hS.2.1 q h1 h2, fun q hq => by
    rcases List.mem_append.mp hq with h | h
    · exact hS.2.2 q h
    · exact hL q h⟩ T' rfl X'
  exact ⟨t2, st t2 a1, b1⟩
theorem pm_tk {k : Nat} (h : k ≤ S.length) : S = (S.take k).reverse.reverse ++ S.drop k := by
  rw [List.reverse_reverse, List.take_append_drop]
/-- behind a call -/
theorem pm_back {H : Heap} {locs : List Loc} {cells slots : Nat} {ls : Array Slot} {st0 : List Value} {a : Array Value} (hgr : pmGr g g1) (h4 : cells + c0 = g.length) (h5 : slots + s0 = pmSz g) (h3 : lv_has ls M.2.2.2.1 (pmAs G L)) (k : pmOK G M p l e R s m args below meth c Q c0 s0 (pc + 3) L (v.toList ++ R1) g1) (hS : va_S (pA G) s.heap H locs) (hr : va_Run p l e R s m args below meth c H locs cells slots (g1.length - g.length) (pmSz g1 - pmSz g) (F0 m pc ls st0) (R1.map (pV G)) (pmQc G v g1 a) (pA G)) : W p l e R s m args below meth c H locs cells slots Q (F0 m pc ls st0) := by
  refine pm_run hr hS fun H1 locs1 hr1 hS1 => ?_
  have kk := k H1 locs1 ls (cells + (g1.length - g.length)) (slots + (pmSz g1 - pmSz g)) hr1 hS1 h3 (by have := hgr.1; omega) (by have := hgr.2; omega)
  have e1 : (v.toList ++ R1).map (pV G) = (v.map (pV G)).toList ++ R1.map (pV G) := by cases v <;> rfl
  rw [e1] at kk
  exact kk
theorem pm_call (hz0 : s.heap.size + 3 = pgB G + c0 ∧ 3 ≤ c0) (hrm : g1.length ≤ c0 + R.cells ∧ pmSz g1 ≤ s0 + R.slots) (hR : M.2.2.2.2.2 ≤ R.frames ∧ 40 * M.2.2.2.2.2 ≤ R.locals) (hF : pmFx M p s m args meth c) (hK : pmK G s s.heap) (hs : pmS M pc L S g = some (.inr (.inl (N, as, pc1, L1, R1)))) (hgr : pmGr g g1) (hM : pmMet G l N as g v g1) (k : pmOK G M p l e R s m args below meth c Q c0 s0 pc1 L1 (v.toList ++ R1) g1) : pmOK G M p l e R s m args below meth c Q c0 s0 pc L S g := by
  obtain ⟨hx, hb, hml, hown, hts, hini⟩ := hF
  have core : ∀ {kd nn : Nat} {q1 q2 q3 q4 q5 : Nat} {N' : pmM} {ii kk0 : Nat}, pmMth M.2.1 ii = some (kd, nn, N', q1, q2, q3, q4, q5) → pmCall M pc kk0 N' L S = some (.inr (.inl (N, as, pc1, L1, R1))) → N' = N ∧ as = (S.take kk0).reverse ∧ pc1 = pc + 3 ∧ L1 = L ∧ R1 = S.drop kk0 ∧ kk0 ≤ S.length ∧ (S.drop kk0).length ≤ 4 ∧ N.2.2.2.2.2 < M.2.2.2.2.2 := by
    intro kd nn q1 q2 q3 q4 q5 N' ii kk0 _ h
    unfold pmCall at h
    split at h
    · rename_i hc
      simp only [Option.some.injEq, Sum.inr.injEq, Sum.inl.injEq, Prod.mk.injEq] at h
      obtain ⟨rfl, rfl, rfl, rfl, rfl⟩ := h
      exact ⟨rfl, rfl, rfl, rfl, rfl, hc.1, hc.2.1, hc.2.2.1⟩
    · cases h
  unfold pmS at hs
  split at hs
  · rename_i ins nl hd
    split at hs
    · rename_i hn
      cases ins with
      | invokevirtual q =>
        obtain rfl : nl = 3 := hn.resolve_right (fun (z : 3 = 0) => absurd z (by decide))
        have hs : pmInvV M pc q L S g = _ := hs
        unfold pmInvV at hs
        split at hs
        · rename_i kd nn N' qs hv
          obtain ⟨q1, q2, q3, q4, q5⟩ := qs
          split at hs
          · rename_i hc
            obtain ⟨rfl, hob⟩ := hc
            obtain ⟨rfl, rfl, rfl, rfl, rfl, hle, hdl, hrk⟩ := core hv hs
            obtain ⟨w1, w2, w3⟩ := pmMth_ok hv
            simp only [pmMTw, Bool.and_eq_true] at w1
            simp only [pmMTg, Bool.and_eq_true, decide_eq_true_eq] at w2
            intro H locs ls cells slots h1 h2 h3 h4 h5
            obtain ⟨h, rfl, hP, hz⟩ := id h1
            -- the receiver
            have hSn : S.take (nn + 1) = S.take nn ++ [S[nn]'(by omega)] := by rw [List.take_succ_eq_append_getElem]
            have hgn : S[nn]? = some (S[nn]'(by omega)) := List.getElem?_eq_getElem _
            rw [hgn] at hob
            unfold pmIsObj at hob
            split at hob
            · rename_i a ha
              split at hob
              · rename_i dd fs hd9
                simp only [Bool.and_eq_true, beq_iff_eq, decide_eq_true_eq] at hob
                obtain ⟨rfl, h3a⟩ := hob
                obtain ⟨a, rfl⟩ := pm_k3 h3a
                rw [pmRO_at] at hd9
                have hSa : (S.take (nn + 1)).reverse = .ref (a + 3) :: (S.take nn).reverse := by
                  rw [hSn, List.reverse_append, Option.some.inj ha]; rfl
                have hpr := pm_pre (as := (S.take (nn + 1)).reverse) hK h1 h2
                rw [hSa, List.map_cons] at hpr
                have hstk : S.map (pV G) = (((S.take nn).reverse.map (pV G))).reverse ++ .ref (pgB G + a) :: (S.drop (nn + 1)).map (pV G) := by
                  rw [← List.map_reverse, List.reverse_reverse]
                  have e5 : S = S.take nn ++ Value.ref (a + 3) :: S.drop (nn + 1) := by
                    have := (List.take_append_drop (nn + 1) S).symm
                    rw [hSn, Option.some.inj ha, List.append_assoc] at this
                    exact this
                  conv => lhs; rw [e5]
                  rw [List.map_append, List.map_cons]
                  rfl
                have hcl : (N'.2.1) < 13 := by
                  rcases Nat.lt_or_ge N'.2.1 13 with z | z
                  · exact z
                  · have := hP a _ (pW_at hd9)
                    obtain ⟨r, hr, -⟩ := this
                    have hz9 := (List.getElem?_eq_some_iff.mp hr).1
                    have : vwCl.length = 13 := rfl
                    omega
                have hrv := va_recv hK.1 hP (pmC_cl hcl) (pW_at hd9)
                unfold pmMet at hM
                rw [hSa] at hM
                exact pm_back hgr h4 h5 h3 k h2 (va_runV (Ts := pmTbl) (own := pmCN M.2.1) (C := N'.1.cls) (index := q) (bytes := N'.2.2.1) (maxL := N'.2.2.2.1) (ret := N'.2.2.2.2.1) (n := nn) (b := pgB G + a) (As := (S.take nn).reverse.map (pV G)) (nL := M.2.2.2.1) ⟨hx, hb, hml, hown, hts⟩ hM
                  (cwV nn hts (fun w hw => by
                    unfold wsV at hw
                    rcases List.mem_append.mp hw with hw | hw
                    · simp only [List.mem_cons, List.not_mem_nil, or_false] at hw
                      rcases hw with rfl | rfl | rfl | rfl
                      · exact ⟨pmWd_in w1.1.1, pmTbl_good (pmWd_in w1.1.1)⟩
                      · exact ⟨pmWd_in w1.1.2, pmTbl_good (pmWd_in w1.1.2)⟩
                      · exact ⟨pmWd_in w1.2, pmTbl_good (pmWd_in w1.2)⟩
                      · exact ⟨pmWd_in w2.1.1.1.1.1.1, pmTbl_good (pmWd_in w2.1.1.1.1.1.1)⟩
                    · exact pmWs_good w3 w hw) rfl rfl rfl ⟨rfl, w2.1.1.1.2, w2.1.1.2, w2.1.1.1.1.2⟩ ⟨by show N'.2.2.2.2.2 + 1 ≤ _; omega, by show _ + (_ + _) + 40 * N'.2.2.2.2.2 ≤ _; have := w2.2; omega⟩)
                  ⟨hpr.1, by rw [← w2.1.1.1.1.1.2]; exact hrv, hpr.2⟩ rfl (by simp; omega) h3.1 hstk (by show 2 * 0 + _ ≤ 8; have := pm_cat ((S.drop (nn + 1)).map (pV G)); rw [List.length_map] at this; omega) hd ⟨by show cells + _ ≤ _; have := hgr.1; have := hrm.1; omega, by show slots + _ ≤ _; have := hgr.2; have := hrm.2; omega⟩)
              · cases hob
            · cases hob
          · cases hs
        · cases hs
      | invokestatic q =>
        obtain rfl : nl = 3 := hn.resolve_right (fun (z : 3 = 0) => absurd z (by decide))
        have hs : pmInvS M pc q L S = _ := hs
        unfold pmInvS at hs
        split at hs
        · rename_i kd nn N' qs hv
          obtain ⟨q1, q2, q3, q4, q5⟩ := qs
          split at hs
          · rename_i hc
            obtain ⟨rfl, rfl, rfl, rfl, rfl, hle, hdl, hrk⟩ := core hv hs
            obtain ⟨w1, w2, w3⟩ := pmMth_ok hv
            simp only [pmMTg, Bool.and_eq_true, decide_eq_true_eq] at w2
            intro H locs ls cells slots h1 h2 h3 h4 h5
            have hpr := pm_pre (as := (S.take nn).reverse) hK h1 h2
            have hstk : S.map (pV G) = (((S.take nn).reverse.map (pV G))).reverse ++ (S.drop nn).map (pV G) := by
              rw [← List.map_reverse, List.reverse_reverse, ← List.map_append, List.take_append_drop]
            have hrm2 : (pmRm N' g g1).frames + 1 ≤ R.frames ∧ 8 + (N'.2.2.2.1 + 11) + (pmRm N' g g1).locals ≤ R.locals := ⟨by show N'.2.2.2.2.2 + 1 ≤ _; omega, by show _ + (_ + _) + 40 * N'.2.2.2.2.2 ≤ _; have := w2.2; omega⟩
            have hWr : 2 * (F0 m pc ls (S.map (pV G))).monitorRoom + (((S.drop nn).map (pV G)).map fun v => v.category).sum ≤ 8 := by show 2 * 0 + _ ≤ 8; have := pm_cat ((S.drop nn).map (pV G)); rw [List.length_map] at this; omega
            have hcs : cells + (g1.length - g.length) ≤ R.cells ∧ slots + (pmSz g1 - pmSz g) ≤ R.slots := ⟨by have := hgr.1; have := hrm.1; omega, by have := hgr.2; have := hrm.2; omega⟩
            rcases hc with rfl | rfl
            · simp only [pmMTw, Bool.and_eq_true] at w1
              exact pm_back hgr h4 h5 h3 k h2 (va_runS (Ts := pmTbl) (own := pmCN M.2.1) (index := q) (bytes := N'.2.2.1) (maxL := N'.2.2.2.1) (ret := N'.2.2.2.2.1) (n := nn) (As := (S.take nn).reverse.map (pV G)) (nL := M.2.2.2.1) ⟨hx, hb, hml, hown, hts⟩ hM
                (va_cwS nn hts (fun w hw => by
                    unfold va_wsS at hw
                    rcases List.mem_append.mp hw with hw | hw
                    · simp only [List.mem_cons, List.not_mem_nil, or_false] at hw
                      rcases hw with rfl | rfl | rfl
                      · exact ⟨pmWd_in w1.1, pmTbl_good (pmWd_in w1.1)⟩
                      · exact ⟨pmWd_in w1.2, pmTbl_good (pmWd_in w1.2)⟩
                      · exact ⟨pmWd_in w2.1.1.1.1.1.1, pmTbl_good (pmWd_in w2.1.1.1.1.1.1)⟩
                    · exact pmWs_good w3 w hw) rfl rfl rfl ⟨w2.1.1.1.2, w2.1.1.2, w2.1.1.1.1.2⟩ hrm2)
                hpr rfl (by simp; omega) h3.1 hstk hWr hd hcs)
            · simp only [pmMTw, Bool.and_eq_true, decide_eq_true_eq] at w1
              exact pm_back hgr h4 h5 h3 k h2 (va_runSN (Ts := pmTbl) (own := pmCN M.2.1) (host := RX11) (index := q) (bytes := N'.2.2.1) (maxL := N'.2.2.2.1) (ret := N'.2.2.2.2.1) (n := nn) (As := (S.take nn).reverse.map (pV G)) (nL := M.2.2.2.1) ⟨hx, hb, hml, hown, hts⟩ hM
                ⟨va_cnB nn hts (pmWs_good w3) rfl rfl rfl (hK.2.2.2.2.2.2.2.1 _ w1.1) (hts _ (pmWd_in w2.1.1.1.1.1.1)) ⟨w2.1.1.1.2, w2.1.1.2, w2.1.1.1.1.2⟩ hrm2, hts _ (pmWd_in w1.2), trivial⟩
                hpr rfl (by simp; omega) h3.1 hstk hWr hd hcs)
          · cases hs
        · cases hs
      | invokespecial q =>
        obtain rfl : nl = 3 := hn.resolve_right (fun (z : 3 = 0) => absurd z (by decide))
        have hs : pmInvI M pc q L S g = _ := hs
        unfold pmInvI at hs
        split at hs
        · split at hs
          · split at hs
            · simp [pmNx] at hs
            · cases hs
          · cases hs
        · split at hs
          · rename_i kd nn N' qs hv
            obtain ⟨q1, q2, q3, q4, q5⟩ := qs
            split at hs
            · rename_i hc
              obtain ⟨hc, hob⟩ := hc
              obtain ⟨rfl, rfl, rfl, rfl, rfl, hle, hdl, hrk⟩ := core hv hs
              obtain ⟨w1, w2, w3⟩ := pmMth_ok hv
              simp only [pmMTg, Bool.and_eq_true, decide_eq_true_eq] at w2
              intro H locs ls cells slots h1 h2 h3 h4 h5
              have hSn : S.take (nn + 1) = S.take nn ++ [S[nn]'(by omega)] := by rw [List.take_succ_eq_append_getElem]
              have hgn : S[nn]? = some (S[nn]'(by omega)) := List.getElem?_eq_getElem _
              rw [hgn] at hob
              unfold pmIsObj at hob
              split at hob
              · rename_i a ha
                have hSa : (S.take (nn + 1)).reverse = .ref a :: (S.take nn).reverse := by
                  rw [hSn, List.reverse_append, Option.some.inj ha]; rfl
                have hpr := pm_pre (as := (S.take (nn + 1)).reverse) hK h1 h2
                rw [hSa, List.map_cons] at hpr
                have hstk : S.map (pV G) = (((S.take nn).reverse.map (pV G))).reverse ++ .ref (pgr G a) :: (S.drop (nn + 1)).map (pV G) := by
                  rw [← List.map_reverse, List.reverse_reverse]
                  have e5 : S = S.take nn ++ Value.ref a :: S.drop (nn + 1) := by
                    have := (List.take_append_drop (nn + 1) S).symm
                    rw [hSn, Option.some.inj ha, List.append_assoc] at this
                    exact this
                  conv => lhs; rw [e5]
                  rw [List.map_append, List.map_cons]
                  rfl
                have hrm2 : (pmRm N' g g1).frames + 1 ≤ R.frames ∧ 8 + (N'.2.2.2.1 + 11) + (pmRm N' g g1).locals ≤ R.locals := ⟨by show N'.2.2.2.2.2 + 1 ≤ _; omega, by show _ + (_ + _) + 40 * N'.2.2.2.2.2 ≤ _; have := w2.2; omega⟩
                have hWr : 2 * (F0 m pc ls (S.map (pV G))).monitorRoom + (((S.drop (nn + 1)).map (pV G)).map fun v => v.category).sum ≤ 8 := by show 2 * 0 + _ ≤ 8; have := pm_cat ((S.drop (nn + 1)).map (pV G)); rw [List.length_map] at this; omega
                have hcs : cells + (g1.length - g.length) ≤ R.cells ∧ slots + (pmSz g1 - pmSz g) ≤ R.slots := ⟨by have := hgr.1; have := hrm.1; omega, by have := hgr.2; have := hrm.2; omega⟩
                unfold pmMet at hM
                rw [hSa] at hM
                rcases hc with rfl | rfl
                · simp only [pmMTw, Bool.and_eq_true, decide_eq_true_eq] at w1
                  have hw : pmWs N' = Jvm.Cond.code N'.1 N'.2.2.1 N'.2.2.2.1 none :: pmTbl := by unfold pmWs; rw [w1.2]
                  exact pm_back hgr h4 h5 h3 k h2 (va_runI (Ts := pmTbl) (own := pmCN M.2.1) (index := q) (bytes := N'.2.2.1) (maxL := N'.2.2.2.1) (n := nn) (b := pgr G a) (As := (S.take nn).reverse.map (pV G)) (nL := M.2.2.2.1) ⟨hx, hb, hml, hown, hts⟩ hM
                    (cwI nn hts (pmWs_good w3) hw rfl rfl (hts _ (pmWd_in w2.1.1.1.1.1.1)) (hts _ (pmWd_in w1.1.1.1)) (hts _ (pmWd_in w1.1.1.2)) w1.1.2 ⟨w2.1.1.1.2, w2.1.1.2, w2.1.1.1.1.2⟩ hrm2)
                    hpr rfl (by simp; omega) h3.1 hstk hWr hd hcs)
                · simp only [pmMTw, Bool.and_eq_true, decide_eq_true_eq] at w1
                  have hw : pmWs N' = Jvm.Cond.code N'.1 N'.2.2.1 N'.2.2.2.1 none :: pmTbl := by unfold pmWs; rw [w1.2]
                  exact pm_back hgr h4 h5 h3 k h2 (va_runIN (Ts := pmTbl) (own := pmCN M.2.1) (host := RX11) (index := q) (bytes := N'.2.2.1) (maxL := N'.2.2.2.1) (n := nn) (b := pgr G a) (As := (S.take nn).reverse.map (pV G)) (nL := M.2.2.2.1) ⟨hx, hb, hml, hown, hts⟩ hM
                    ⟨va_cnB nn hts (pmWs_good w3) hw rfl rfl (hK.2.2.2.2.2.2.2.1 _ w1.1.1.1) (hts _ (pmWd_in w2.1.1.1.1.1.1)) ⟨w2.1.1.1.2, w2.1.1.2, w2.1.1.1.1.2⟩ hrm2, w1.1.2, hts _ (pmWd_in w1.1.1.2)⟩
                    hpr rfl (by simp; omega) h3.1 hstk hWr hd hcs)
              · cases hob
            · cases hs
          · cases hs
      | newarray q =>
        exfalso
        cases q <;> first
          | (cases hs; done)
          | (have hs : pmNewA _ _ _ _ _ = _ := hs
             simp only [pmNewA, pmNx] at hs
             repeat' split at hs
             all_goals (cases hs; done))
      | _ =>
        exfalso
        first
          | (cases hs; done)
          | (simp only [pmI, pmLdI, pmLdJ, pmLdA, pmStI, pmStA, pmStJ, pmInc, pmII, pmIIz, pmJJ, pmJJz, pmJI, pmGo, pmBr2, pmBr1, pmTab, pmLook, pmGet, pmPut, pmIald, pmBald, pmLald, pmAald, pmIast, pmBast, pmAast, pmLen, pmNewA, pmNewQ, pmNx, Option.bind_eq_some_iff] at hs
             repeat' split at hs
             all_goals first | (cases hs; done) | (simp at hs; done) | (simp [Option.bind_eq_some_iff] at hs; done))
    · cases hs
  · cases hs
end PMC
