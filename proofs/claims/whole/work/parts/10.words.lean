/-! ===== the words that every method has, and what the pure machine's tables say of them ===== -/
def pmTbl : List Jvm.Cond := lw_tbl.filter goodWord
def pmNest : List Jvm.Cond := [.methodLinkNest RX11 15 yX4_init RX11, .methodLinkNest RX10 25 yX1_init RX11, .methodLinkNest RX5 20 yX1_init RX11, .methodLinkNest RX3 24 yX11_power RX11, .fieldLinkNest RX9 26 RX11 "FACTORIALS" "[I" RX11, .fieldLinkNest RX6 69 RX11 "THOUSANDS" "[J" RX11, .fieldLinkNest RX8 48 RX11 "FACTORIALS" "[I" RX11]
theorem pmNest_in : ∀ w ∈ pmNest, w ∈ lw_tbl := by decide +kernel
def pmWd (p : Nat) (w : Jvm.Cond) : Bool := decide (lw_tbl[p]? = some w) && goodWord w
theorem pmWd_in {p : Nat} {w : Jvm.Cond} (h : pmWd p w = true) : w ∈ pmTbl := by
  unfold pmWd at h
  rw [Bool.and_eq_true, decide_eq_true_eq] at h
  exact List.mem_filter.mpr ⟨List.mem_of_getElem? h.1, h.2⟩
theorem pmTbl_in {w : Jvm.Cond} (h : w ∈ pmTbl) : w ∈ lw_tbl := (List.mem_filter.mp h).1
theorem pmTbl_good {w : Jvm.Cond} (h : w ∈ pmTbl) : (w.onTables && w.keeps) = true ∨ ∃ ty, w = .arrayClass ty := good_of_word (List.mem_filter.mp h).2
def pmFTc (e : Nat × Nat × Nat × Nat × Nat) : Bool := pmWd e.2.2.2.2 (.fieldLink (pmCN e.1) e.2.1 (pmTX e.2.2.1 e.2.2.2.1).1 (pmTX e.2.2.1 e.2.2.2.1).2.1 (pmTX e.2.2.1 e.2.2.2.1).2.2.1) && decide (e.2.2.1 < 13) && decide (e.2.2.2.1 < pmNF e.2.2.1) && decide ((pmTX e.2.2.1 e.2.2.2.1).1 = pmCN e.2.2.1)
theorem pmFT_ok : pmFT.all pmFTc = true := by decide +kernel
theorem pmFld_ok {o i ci k p : Nat} (h : pmFld o i = some (ci, k, p)) : Jvm.Cond.fieldLink (pmCN o) i (pmTX ci k).1 (pmTX ci k).2.1 (pmTX ci k).2.2.1 ∈ pmTbl ∧ ci < 13 ∧ k < pmNF ci ∧ (pmTX ci k).1 = pmCN ci := by
  obtain ⟨q, hq, he⟩ := Option.map_eq_some_iff.mp h
  have h1 := List.find?_some hq
  have h2 := List.all_eq_true.mp pmFT_ok q (List.mem_of_find?_eq_some hq)
  obtain ⟨o', i', ci', k', p'⟩ := q
  simp only [Bool.and_eq_true, beq_iff_eq] at h1
  simp only [Prod.mk.injEq] at he
  obtain ⟨rfl, rfl⟩ := h1
  obtain ⟨rfl, rfl, rfl⟩ := he
  simp only [pmFTc, Bool.and_eq_true, decide_eq_true_eq] at h2
  exact ⟨pmWd_in h2.1.1.1, h2.1.1.2, h2.1.2, h2.2⟩
def pmSTn (r : Nat) : String × String := if r = 1 then ("FACTORIALS", "[I") else ("THOUSANDS", "[J")
def pmSTc (e : Nat × Nat × Nat × Nat × Nat) : Bool := (e.2.2.1 == 1 || e.2.2.1 == 2) && (if e.2.2.2.1 = 0 then pmWd e.2.2.2.2 (.fieldLink (pmCN e.1) e.2.1 RX11 (pmSTn e.2.2.1).1 (pmSTn e.2.2.1).2) else decide (Jvm.Cond.fieldLinkNest (pmCN e.1) e.2.1 RX11 (pmSTn e.2.2.1).1 (pmSTn e.2.2.1).2 RX11 ∈ pmNest))
theorem pmST_ok : pmST.all pmSTc = true := by decide +kernel
theorem pmSta_ok {o i r t p : Nat} (h : pmSta o i = some (r, t, p)) : (r = 1 ∨ r = 2) ∧ (Jvm.Cond.fieldLink (pmCN o) i RX11 (pmSTn r).1 (pmSTn r).2 ∈ pmTbl ∨ Jvm.Cond.fieldLinkNest (pmCN o) i RX11 (pmSTn r).1 (pmSTn r).2 RX11 ∈ pmNest) := by
  obtain ⟨q, hq, he⟩ := Option.map_eq_some_iff.mp h
  have h1 := List.find?_some hq
  have h2 := List.all_eq_true.mp pmST_ok q (List.mem_of_find?_eq_some hq)
  obtain ⟨o', i', ci', k', p'⟩ := q
  simp only [Bool.and_eq_true, beq_iff_eq] at h1
  simp only [Prod.mk.injEq] at he
  obtain ⟨rfl, rfl⟩ := h1
  obtain ⟨rfl, rfl, rfl⟩ := he
  simp only [pmSTc, Bool.and_eq_true, Bool.or_eq_true, beq_iff_eq] at h2
  refine ⟨h2.1, ?_⟩
  have h3 := h2.2
  split at h3
  · exact Or.inl (pmWd_in h3)
  · exact Or.inr (of_decide_eq_true h3)
def pmMTw (o i k : Nat) (N : pmM) (p1 p2 p3 : Nat) : Bool := match k with
  | 0 => pmWd p1 (.methodLink (pmCN o) i N.1) && pmWd p2 (.instanceMethod N.1) && pmWd p3 (.selects N.1.cls N.1 N.1)
  | 1 => pmWd p1 (.methodLink (pmCN o) i N.1) && pmWd p2 (.static N.1)
  | 2 => pmWd p1 (.methodLink (pmCN o) i N.1) && pmWd p2 (.instanceMethod N.1) && decide (N.1.name = "<init>") && decide (N.2.2.2.2.1 = none)
  | 4 => decide (Jvm.Cond.methodLinkNest (pmCN o) i N.1 RX11 ∈ pmNest) && pmWd p2 (.instanceMethod N.1) && decide (N.1.name = "<init>") && decide (N.2.2.2.2.1 = none)
  | 5 => decide (Jvm.Cond.methodLinkNest (pmCN o) i N.1 RX11 ∈ pmNest) && pmWd p2 (.static N.1)
  | _ => false
def pmMTg (n : Nat) (N : pmM) (p4 p5 : Nat) : Bool := pmWd p4 (.initialized N.1.cls) && decide (pmCN N.2.1 = N.1.cls) && decide ((parseMethodDescriptor N.1.desc).map (fun d => d.parameters.length) = some n) && decide (N.1.cls ≠ "java/lang/invoke/MethodHandle") && decide (N.1.cls ≠ "java/lang/invoke/VarHandle") && plainFor N.1 && decide (N.2.2.2.1 ≤ 20)
def pmMTc (e : Nat × Nat × Nat × Nat × pmM × Nat × Nat × Nat × Nat × Nat) : Bool := pmMTw e.1 e.2.1 e.2.2.1 e.2.2.2.2.1 e.2.2.2.2.2.1 e.2.2.2.2.2.2.1 e.2.2.2.2.2.2.2.1 && pmMTg e.2.2.2.1 e.2.2.2.2.1 e.2.2.2.2.2.2.2.2.1 e.2.2.2.2.2.2.2.2.2
theorem pmMT_ok_0 : pmMT_0.all pmMTc = true := by decide +kernel
theorem pmMT_ok_1 : pmMT_1.all pmMTc = true := by decide +kernel
theorem pmMT_ok_2 : pmMT_2.all pmMTc = true := by decide +kernel
theorem pmMT_ok_3 : pmMT_3.all pmMTc = true := by decide +kernel
theorem pmMT_ok_4 : pmMT_4.all pmMTc = true := by decide +kernel
theorem pmMT_ok_5 : pmMT_5.all pmMTc = true := by decide +kernel
theorem pmMT_ok_6 : pmMT_6.all pmMTc = true := by decide +kernel
theorem pmMT_ok_7 : pmMT_7.all pmMTc = true := by decide +kernel
theorem pmMT_ok_8 : pmMT_8.all pmMTc = true := by decide +kernel
theorem pmMT_ok : pmMT.all pmMTc = true := by
  simp only [pmMT, List.all_append, pmMT_ok_0, pmMT_ok_1, pmMT_ok_2, pmMT_ok_3, pmMT_ok_4, pmMT_ok_5, pmMT_ok_6, pmMT_ok_7, pmMT_ok_8, Bool.and_self]
def pmCW (N : pmM) : Prop := Jvm.Cond.code N.1 N.2.2.1 N.2.2.2.1 N.2.2.2.2.1 ∈ pmTbl
set_option maxRecDepth 100000 in
theorem kwX11_init : pmCW mX11_init := List.mem_filter.mpr ⟨List.mem_of_getElem? (i := 73) rfl, rfl⟩
set_option maxRecDepth 100000 in
theorem kwX4_init : pmCW mX4_init := List.mem_filter.mpr ⟨List.mem_of_getElem? (i := 81) rfl, rfl⟩
set_option maxRecDepth 100000 in
theorem kwX7_init : pmCW mX7_init := List.mem_filter.mpr ⟨List.mem_of_getElem? (i := 147) rfl, rfl⟩
set_option maxRecDepth 100000 in
theorem kwX10_init : pmCW mX10_init := List.mem_filter.mpr ⟨List.mem_of_getElem? (i := 163) rfl, rfl⟩
set_option maxRecDepth 100000 in
theorem kwX1_init : pmCW mX1_init := List.mem_filter.mpr ⟨List.mem_of_getElem? (i := 170) rfl, rfl⟩
set_option maxRecDepth 100000 in
theorem kwX0_init : pmCW mX0_init := List.mem_filter.mpr ⟨List.mem_of_getElem? (i := 236) rfl, rfl⟩
set_option maxRecDepth 100000 in
theorem kwX6_init : pmCW mX6_init := List.mem_filter.mpr ⟨List.mem_of_getElem? (i := 256) rfl, rfl⟩
set_option maxRecDepth 100000 in
theorem kwX9_init : pmCW mX9_init := List.mem_filter.mpr ⟨List.mem_of_getElem? (i := 270) rfl, rfl⟩
set_option maxRecDepth 100000 in
theorem kwX5_init : pmCW mX5_init := List.mem_filter.mpr ⟨List.mem_of_getElem? (i := 291) rfl, rfl⟩
set_option maxRecDepth 100000 in
theorem kwX8_init : pmCW mX8_init := List.mem_filter.mpr ⟨List.mem_of_getElem? (i := 316) rfl, rfl⟩
set_option maxRecDepth 100000 in
theorem kwX2_init : pmCW mX2_init := List.mem_filter.mpr ⟨List.mem_of_getElem? (i := 332) rfl, rfl⟩
set_option maxRecDepth 100000 in
theorem kwX3_init : pmCW mX3_init := List.mem_filter.mpr ⟨List.mem_of_getElem? (i := 351) rfl, rfl⟩
set_option maxRecDepth 100000 in
theorem kwX11_write : pmCW mX11_write := List.mem_filter.mpr ⟨List.mem_of_getElem? (i := 416) rfl, rfl⟩
set_option maxRecDepth 100000 in
theorem kwX11_wipe : pmCW mX11_wipe := List.mem_filter.mpr ⟨List.mem_of_getElem? (i := 420) rfl, rfl⟩
set_option maxRecDepth 100000 in
theorem kwX11_fault : pmCW mX11_fault := List.mem_filter.mpr ⟨List.mem_of_getElem? (i := 424) rfl, rfl⟩
set_option maxRecDepth 100000 in
theorem kwX7_read : pmCW mX7_read := List.mem_filter.mpr ⟨List.mem_of_getElem? (i := 428) rfl, rfl⟩
set_option maxRecDepth 100000 in
theorem kwX4_clear : pmCW mX4_clear := List.mem_filter.mpr ⟨List.mem_of_getElem? (i := 432) rfl, rfl⟩
set_option maxRecDepth 100000 in
theorem kwX7_takes : pmCW mX7_takes := List.mem_filter.mpr ⟨List.mem_of_getElem? (i := 436) rfl, rfl⟩
set_option maxRecDepth 100000 in
theorem kwX7_opensPart : pmCW mX7_opensPart := List.mem_filter.mpr ⟨List.mem_of_getElem? (i := 440) rfl, rfl⟩
set_option maxRecDepth 100000 in
theorem kwX7_takesWind : pmCW mX7_takesWind := List.mem_filter.mpr ⟨List.mem_of_getElem? (i := 444) rfl, rfl⟩
set_option maxRecDepth 100000 in
theorem kwX7_takesStart : pmCW mX7_takesStart := List.mem_filter.mpr ⟨List.mem_of_getElem? (i := 448) rfl, rfl⟩
set_option maxRecDepth 100000 in
theorem kwX7_takesOfBalloon : pmCW mX7_takesOfBalloon := List.mem_filter.mpr ⟨List.mem_of_getElem? (i := 452) rfl, rfl⟩
set_option maxRecDepth 100000 in
theorem kwX7_takesHedgeCell : pmCW mX7_takesHedgeCell := List.mem_filter.mpr ⟨List.mem_of_getElem? (i := 456) rfl, rfl⟩
set_option maxRecDepth 100000 in
theorem kwX4_hedgeAt : pmCW mX4_hedgeAt := List.mem_filter.mpr ⟨List.mem_of_getElem? (i := 460) rfl, rfl⟩
set_option maxRecDepth 100000 in
theorem kwX7_takesOfHedge : pmCW mX7_takesOfHedge := List.mem_filter.mpr ⟨List.mem_of_getElem? (i := 464) rfl, rfl⟩
set_option maxRecDepth 100000 in
theorem kwX11_city : pmCW mX11_city := List.mem_filter.mpr ⟨List.mem_of_getElem? (i := 468) rfl, rfl⟩
set_option maxRecDepth 100000 in
theorem kwX10_begin : pmCW mX10_begin := List.mem_filter.mpr ⟨List.mem_of_getElem? (i := 472) rfl, rfl⟩
set_option maxRecDepth 100000 in
theorem kwX1_holdAt : pmCW mX1_holdAt := List.mem_filter.mpr ⟨List.mem_of_getElem? (i := 476) rfl, rfl⟩
set_option maxRecDepth 100000 in
theorem kwX0_forget : pmCW mX0_forget := List.mem_filter.mpr ⟨List.mem_of_getElem? (i := 480) rfl, rfl⟩
set_option maxRecDepth 100000 in
theorem kwX11_balloon : pmCW mX11_balloon := List.mem_filter.mpr ⟨List.mem_of_getElem? (i := 484) rfl, rfl⟩
set_option maxRecDepth 100000 in
theorem kwX10_hasBalloon : pmCW mX10_hasBalloon := List.mem_filter.mpr ⟨List.mem_of_getElem? (i := 488) rfl, rfl⟩
set_option maxRecDepth 100000 in
theorem kwX10_isAnswered : pmCW mX10_isAnswered := List.mem_filter.mpr ⟨List.mem_of_getElem? (i := 492) rfl, rfl⟩
set_option maxRecDepth 100000 in
theorem kwX10_whatCame : pmCW mX10_whatCame := List.mem_filter.mpr ⟨List.mem_of_getElem? (i := 496) rfl, rfl⟩
set_option maxRecDepth 100000 in
theorem kwX10_isGlad : pmCW mX10_isGlad := List.mem_filter.mpr ⟨List.mem_of_getElem? (i := 500) rfl, rfl⟩
set_option maxRecDepth 100000 in
theorem kwX10_gladChildren : pmCW mX10_gladChildren := List.mem_filter.mpr ⟨List.mem_of_getElem? (i := 504) rfl, rfl⟩
set_option maxRecDepth 100000 in
theorem kwX10_gladdens : pmCW mX10_gladdens := List.mem_filter.mpr ⟨List.mem_of_getElem? (i := 508) rfl, rfl⟩
set_option maxRecDepth 100000 in
theorem kwX11_hedge : pmCW mX11_hedge := List.mem_filter.mpr ⟨List.mem_of_getElem? (i := 512) rfl, rfl⟩
set_option maxRecDepth 100000 in
theorem kwX4_hasHedge : pmCW mX4_hasHedge := List.mem_filter.mpr ⟨List.mem_of_getElem? (i := 516) rfl, rfl⟩
set_option maxRecDepth 100000 in
theorem kwX10_caughtIn : pmCW mX10_caughtIn := List.mem_filter.mpr ⟨List.mem_of_getElem? (i := 520) rfl, rfl⟩
set_option maxRecDepth 100000 in
theorem kwX11_let : pmCW mX11_let := List.mem_filter.mpr ⟨List.mem_of_getElem? (i := 524) rfl, rfl⟩
set_option maxRecDepth 100000 in
theorem kwX10_is : pmCW mX10_is := List.mem_filter.mpr ⟨List.mem_of_getElem? (i := 528) rfl, rfl⟩
set_option maxRecDepth 100000 in
theorem kwX0_remember : pmCW mX0_remember := List.mem_filter.mpr ⟨List.mem_of_getElem? (i := 533) rfl, rfl⟩
set_option maxRecDepth 100000 in
theorem kwX10_takeFrom : pmCW mX10_takeFrom := List.mem_filter.mpr ⟨List.mem_of_getElem? (i := 537) rfl, rfl⟩
set_option maxRecDepth 100000 in
theorem kwX1_takeFrom : pmCW mX1_takeFrom := List.mem_filter.mpr ⟨List.mem_of_getElem? (i := 541) rfl, rfl⟩
set_option maxRecDepth 100000 in
theorem kwX10_letGo : pmCW mX10_letGo := List.mem_filter.mpr ⟨List.mem_of_getElem? (i := 545) rfl, rfl⟩
set_option maxRecDepth 100000 in
theorem kwX10_allThatAre : pmCW mX10_allThatAre := List.mem_filter.mpr ⟨List.mem_of_getElem? (i := 550) rfl, rfl⟩
set_option maxRecDepth 100000 in
theorem kwJ6_bitCount_0f7a4 : pmCW mJ6_bitCount_0f7a4 := List.mem_filter.mpr ⟨List.mem_of_getElem? (i := 553) rfl, rfl⟩
set_option maxRecDepth 100000 in
theorem kwX11_hour : pmCW mX11_hour := List.mem_filter.mpr ⟨List.mem_of_getElem? (i := 560) rfl, rfl⟩
set_option maxRecDepth 100000 in
theorem kwX10_passHour : pmCW mX10_passHour := List.mem_filter.mpr ⟨List.mem_of_getElem? (i := 564) rfl, rfl⟩
set_option maxRecDepth 100000 in
theorem kwX4_windOf : pmCW mX4_windOf := List.mem_filter.mpr ⟨List.mem_of_getElem? (i := 568) rfl, rfl⟩
set_option maxRecDepth 100000 in
theorem kwJ9_floorMod_7cf53 : pmCW mJ9_floorMod_7cf53 := List.mem_filter.mpr ⟨List.mem_of_getElem? (i := 571) rfl, rfl⟩
set_option maxRecDepth 100000 in
theorem kwX10_passHourBy : pmCW mX10_passHourBy := List.mem_filter.mpr ⟨List.mem_of_getElem? (i := 575) rfl, rfl⟩
set_option maxRecDepth 100000 in
theorem kwX1_goBy : pmCW mX1_goBy := List.mem_filter.mpr ⟨List.mem_of_getElem? (i := 579) rfl, rfl⟩
set_option maxRecDepth 100000 in
theorem kwX1_goOneCell : pmCW mX1_goOneCell := List.mem_filter.mpr ⟨List.mem_of_getElem? (i := 583) rfl, rfl⟩
set_option maxRecDepth 100000 in
theorem kwX10_catches : pmCW mX10_catches := List.mem_filter.mpr ⟨List.mem_of_getElem? (i := 587) rfl, rfl⟩
set_option maxRecDepth 100000 in
theorem kwX10_stands : pmCW mX10_stands := List.mem_filter.mpr ⟨List.mem_of_getElem? (i := 592) rfl, rfl⟩
set_option maxRecDepth 100000 in
theorem kwX1_catchIn : pmCW mX1_catchIn := List.mem_filter.mpr ⟨List.mem_of_getElem? (i := 596) rfl, rfl⟩
set_option maxRecDepth 100000 in
theorem kwX11_free : pmCW mX11_free := List.mem_filter.mpr ⟨List.mem_of_getElem? (i := 600) rfl, rfl⟩
set_option maxRecDepth 100000 in
theorem kwX10_setFree : pmCW mX10_setFree := List.mem_filter.mpr ⟨List.mem_of_getElem? (i := 604) rfl, rfl⟩
set_option maxRecDepth 100000 in
theorem kwX1_leaveHedge : pmCW mX1_leaveHedge := List.mem_filter.mpr ⟨List.mem_of_getElem? (i := 608) rfl, rfl⟩
set_option maxRecDepth 100000 in
theorem kwX11_right : pmCW mX11_right := List.mem_filter.mpr ⟨List.mem_of_getElem? (i := 612) rfl, rfl⟩
set_option maxRecDepth 100000 in
theorem kwX10_putRight : pmCW mX10_putRight := List.mem_filter.mpr ⟨List.mem_of_getElem? (i := 616) rfl, rfl⟩
set_option maxRecDepth 100000 in
theorem kwX11_undo : pmCW mX11_undo := List.mem_filter.mpr ⟨List.mem_of_getElem? (i := 621) rfl, rfl⟩
set_option maxRecDepth 100000 in
theorem kwX0_takeBack : pmCW mX0_takeBack := List.mem_filter.mpr ⟨List.mem_of_getElem? (i := 625) rfl, rfl⟩
set_option maxRecDepth 100000 in
theorem kwX11_later : pmCW mX11_later := List.mem_filter.mpr ⟨List.mem_of_getElem? (i := 629) rfl, rfl⟩
set_option maxRecDepth 100000 in
theorem kwX6_lookAhead : pmCW mX6_lookAhead := List.mem_filter.mpr ⟨List.mem_of_getElem? (i := 633) rfl, rfl⟩
set_option maxRecDepth 100000 in
theorem kwX10_passHours : pmCW mX10_passHours := List.mem_filter.mpr ⟨List.mem_of_getElem? (i := 638) rfl, rfl⟩
set_option maxRecDepth 100000 in
theorem kwX11_comes : pmCW mX11_comes := List.mem_filter.mpr ⟨List.mem_of_getElem? (i := 642) rfl, rfl⟩
set_option maxRecDepth 100000 in
theorem kwX6_hoursToAnswer : pmCW mX6_hoursToAnswer := List.mem_filter.mpr ⟨List.mem_of_getElem? (i := 646) rfl, rfl⟩
set_option maxRecDepth 100000 in
theorem kwX11_best : pmCW mX11_best := List.mem_filter.mpr ⟨List.mem_of_getElem? (i := 652) rfl, rfl⟩
set_option maxRecDepth 100000 in
theorem kwX6_hoursToLetting : pmCW mX6_hoursToLetting := List.mem_filter.mpr ⟨List.mem_of_getElem? (i := 656) rfl, rfl⟩
set_option maxRecDepth 100000 in
theorem kwX6_endsWellIfLetIn : pmCW mX6_endsWellIfLetIn := List.mem_filter.mpr ⟨List.mem_of_getElem? (i := 660) rfl, rfl⟩
set_option maxRecDepth 100000 in
theorem kwX11_most : pmCW mX11_most := List.mem_filter.mpr ⟨List.mem_of_getElem? (i := 666) rfl, rfl⟩
set_option maxRecDepth 100000 in
theorem kwX9_tryAllOrders : pmCW mX9_tryAllOrders := List.mem_filter.mpr ⟨List.mem_of_getElem? (i := 670) rfl, rfl⟩
set_option maxRecDepth 100000 in
theorem kwX9_layOut : pmCW mX9_layOut := List.mem_filter.mpr ⟨List.mem_of_getElem? (i := 676) rfl, rfl⟩
set_option maxRecDepth 100000 in
theorem kwX9_gladByOrder : pmCW mX9_gladByOrder := List.mem_filter.mpr ⟨List.mem_of_getElem? (i := 680) rfl, rfl⟩
set_option maxRecDepth 100000 in
theorem kwX11_judge : pmCW mX11_judge := List.mem_filter.mpr ⟨List.mem_of_getElem? (i := 685) rfl, rfl⟩
set_option maxRecDepth 100000 in
theorem kwX6_firstThatCannotBe : pmCW mX6_firstThatCannotBe := List.mem_filter.mpr ⟨List.mem_of_getElem? (i := 691) rfl, rfl⟩
set_option maxRecDepth 100000 in
theorem kwX6_canBe : pmCW mX6_canBe := List.mem_filter.mpr ⟨List.mem_of_getElem? (i := 697) rfl, rfl⟩
set_option maxRecDepth 100000 in
theorem kwX11_find : pmCW mX11_find := List.mem_filter.mpr ⟨List.mem_of_getElem? (i := 704) rfl, rfl⟩
set_option maxRecDepth 100000 in
theorem kwX5_add : pmCW mX5_add := List.mem_filter.mpr ⟨List.mem_of_getElem? (i := 708) rfl, rfl⟩
set_option maxRecDepth 100000 in
theorem kwX11_lose : pmCW mX11_lose := List.mem_filter.mpr ⟨List.mem_of_getElem? (i := 712) rfl, rfl⟩
set_option maxRecDepth 100000 in
theorem kwX11_began : pmCW mX11_began := List.mem_filter.mpr ⟨List.mem_of_getElem? (i := 716) rfl, rfl⟩
set_option maxRecDepth 100000 in
theorem kwX5_cellsOfLetting : pmCW mX5_cellsOfLetting := List.mem_filter.mpr ⟨List.mem_of_getElem? (i := 720) rfl, rfl⟩
set_option maxRecDepth 100000 in
theorem kwX5_agreesFrom : pmCW mX5_agreesFrom := List.mem_filter.mpr ⟨List.mem_of_getElem? (i := 724) rfl, rfl⟩
set_option maxRecDepth 100000 in
theorem kwX5_agreesBehind : pmCW mX5_agreesBehind := List.mem_filter.mpr ⟨List.mem_of_getElem? (i := 729) rfl, rfl⟩
set_option maxRecDepth 100000 in
theorem kwX11_share : pmCW mX11_share := List.mem_filter.mpr ⟨List.mem_of_getElem? (i := 735) rfl, rfl⟩
set_option maxRecDepth 100000 in
theorem kwX8_sumOverOrders : pmCW mX8_sumOverOrders := List.mem_filter.mpr ⟨List.mem_of_getElem? (i := 739) rfl, rfl⟩
set_option maxRecDepth 100000 in
theorem kwX8_weighAllSets : pmCW mX8_weighAllSets := List.mem_filter.mpr ⟨List.mem_of_getElem? (i := 744) rfl, rfl⟩
set_option maxRecDepth 100000 in
theorem kwX10_leaveStanding : pmCW mX10_leaveStanding := List.mem_filter.mpr ⟨List.mem_of_getElem? (i := 749) rfl, rfl⟩
set_option maxRecDepth 100000 in
theorem kwX11_inLeastTerms : pmCW mX11_inLeastTerms := List.mem_filter.mpr ⟨List.mem_of_getElem? (i := 757) rfl, rfl⟩
set_option maxRecDepth 100000 in
theorem kwJ9_abs_0f7a4 : pmCW mJ9_abs_0f7a4 := List.mem_filter.mpr ⟨List.mem_of_getElem? (i := 760) rfl, rfl⟩
set_option maxRecDepth 100000 in
theorem kwX11_greatestCommon : pmCW mX11_greatestCommon := List.mem_filter.mpr ⟨List.mem_of_getElem? (i := 763) rfl, rfl⟩
set_option maxRecDepth 100000 in
theorem kwX11_rests : pmCW mX11_rests := List.mem_filter.mpr ⟨List.mem_of_getElem? (i := 767) rfl, rfl⟩
set_option maxRecDepth 100000 in
theorem kwX2_tryAllPairs : pmCW mX2_tryAllPairs := List.mem_filter.mpr ⟨List.mem_of_getElem? (i := 771) rfl, rfl⟩
set_option maxRecDepth 100000 in
theorem kwX2_caughtTogether : pmCW mX2_caughtTogether := List.mem_filter.mpr ⟨List.mem_of_getElem? (i := 778) rfl, rfl⟩
set_option maxRecDepth 100000 in
theorem kwX2_ownJoy : pmCW mX2_ownJoy := List.mem_filter.mpr ⟨List.mem_of_getElem? (i := 783) rfl, rfl⟩
set_option maxRecDepth 100000 in
theorem kwX2_howManyRest : pmCW mX2_howManyRest := List.mem_filter.mpr ⟨List.mem_of_getElem? (i := 788) rfl, rfl⟩
set_option maxRecDepth 100000 in
theorem kwX2_isAtRest : pmCW mX2_isAtRest := List.mem_filter.mpr ⟨List.mem_of_getElem? (i := 792) rfl, rfl⟩
set_option maxRecDepth 100000 in
theorem kwX2_firstAtRest : pmCW mX2_firstAtRest := List.mem_filter.mpr ⟨List.mem_of_getElem? (i := 796) rfl, rfl⟩
set_option maxRecDepth 100000 in
theorem kwX11_fails : pmCW mX11_fails := List.mem_filter.mpr ⟨List.mem_of_getElem? (i := 800) rfl, rfl⟩
set_option maxRecDepth 100000 in
theorem kwX3_waysCaught : pmCW mX3_waysCaught := List.mem_filter.mpr ⟨List.mem_of_getElem? (i := 804) rfl, rfl⟩
set_option maxRecDepth 100000 in
theorem kwX11_power : pmCW mX11_power := List.mem_filter.mpr ⟨List.mem_of_getElem? (i := 808) rfl, rfl⟩
set_option maxRecDepth 100000 in
theorem kwX3_isCaughtIf : pmCW mX3_isCaughtIf := List.mem_filter.mpr ⟨List.mem_of_getElem? (i := 812) rfl, rfl⟩
set_option maxRecDepth 100000 in
theorem kwX11_seed : pmCW mX11_seed := List.mem_filter.mpr ⟨List.mem_of_getElem? (i := 820) rfl, rfl⟩
set_option maxRecDepth 100000 in
theorem kwX11_years : pmCW mX11_years := List.mem_filter.mpr ⟨List.mem_of_getElem? (i := 824) rfl, rfl⟩
set_option maxRecDepth 100000 in
theorem kwX3_gladOverYears : pmCW mX3_gladOverYears := List.mem_filter.mpr ⟨List.mem_of_getElem? (i := 828) rfl, rfl⟩
set_option maxRecDepth 100000 in
theorem kwX3_doIfItCanBe : pmCW mX3_doIfItCanBe := List.mem_filter.mpr ⟨List.mem_of_getElem? (i := 835) rfl, rfl⟩
set_option maxRecDepth 100000 in
theorem kwX11_keep : pmCW mX11_keep := List.mem_filter.mpr ⟨List.mem_of_getElem? (i := 843) rfl, rfl⟩
set_option maxRecDepth 100000 in
theorem kwX11_again : pmCW mX11_again := List.mem_filter.mpr ⟨List.mem_of_getElem? (i := 848) rfl, rfl⟩
set_option maxRecDepth 100000 in
theorem kwX11_count : pmCW mX11_count := List.mem_filter.mpr ⟨List.mem_of_getElem? (i := 852) rfl, rfl⟩
set_option maxRecDepth 100000 in
theorem kwX10_answeredBalloons : pmCW mX10_answeredBalloons := List.mem_filter.mpr ⟨List.mem_of_getElem? (i := 857) rfl, rfl⟩
set_option maxRecDepth 100000 in
theorem kwX12_init : pmCW mX12_init := List.mem_filter.mpr ⟨List.mem_of_getElem? (i := 863) rfl, rfl⟩
set_option maxRecDepth 100000 in
theorem kwX12_write : pmCW mX12_write := List.mem_filter.mpr ⟨List.mem_of_getElem? (i := 968) rfl, rfl⟩
set_option maxRecDepth 100000 in
theorem kwX12_in : pmCW mX12_in := List.mem_filter.mpr ⟨List.mem_of_getElem? (i := 972) rfl, rfl⟩
set_option maxRecDepth 100000 in
theorem kwX12_wipe : pmCW mX12_wipe := List.mem_filter.mpr ⟨List.mem_of_getElem? (i := 976) rfl, rfl⟩
set_option maxRecDepth 100000 in
theorem kwX12_fault : pmCW mX12_fault := List.mem_filter.mpr ⟨List.mem_of_getElem? (i := 980) rfl, rfl⟩
set_option maxRecDepth 100000 in
theorem kwX12_readText : pmCW mX12_readText := List.mem_filter.mpr ⟨List.mem_of_getElem? (i := 984) rfl, rfl⟩
set_option maxRecDepth 100000 in
theorem kwX12_readPart : pmCW mX12_readPart := List.mem_filter.mpr ⟨List.mem_of_getElem? (i := 988) rfl, rfl⟩
set_option maxRecDepth 100000 in
theorem kwX12_figureOf : pmCW mX12_figureOf := List.mem_filter.mpr ⟨List.mem_of_getElem? (i := 992) rfl, rfl⟩
set_option maxRecDepth 100000 in
theorem kwX12_cellOf : pmCW mX12_cellOf := List.mem_filter.mpr ⟨List.mem_of_getElem? (i := 996) rfl, rfl⟩
set_option maxRecDepth 100000 in
theorem kwX12_has : pmCW mX12_has := List.mem_filter.mpr ⟨List.mem_of_getElem? (i := 1000) rfl, rfl⟩
set_option maxRecDepth 100000 in
theorem kwX12_city : pmCW mX12_city := List.mem_filter.mpr ⟨List.mem_of_getElem? (i := 1004) rfl, rfl⟩
set_option maxRecDepth 100000 in
theorem kwX12_balloon : pmCW mX12_balloon := List.mem_filter.mpr ⟨List.mem_of_getElem? (i := 1008) rfl, rfl⟩
set_option maxRecDepth 100000 in
theorem kwX12_isBalloon : pmCW mX12_isBalloon := List.mem_filter.mpr ⟨List.mem_of_getElem? (i := 1012) rfl, rfl⟩
set_option maxRecDepth 100000 in
theorem kwX12_isAnswered : pmCW mX12_isAnswered := List.mem_filter.mpr ⟨List.mem_of_getElem? (i := 1016) rfl, rfl⟩
set_option maxRecDepth 100000 in
theorem kwX12_glad : pmCW mX12_glad := List.mem_filter.mpr ⟨List.mem_of_getElem? (i := 1020) rfl, rfl⟩
set_option maxRecDepth 100000 in
theorem kwX12_brings : pmCW mX12_brings := List.mem_filter.mpr ⟨List.mem_of_getElem? (i := 1024) rfl, rfl⟩
set_option maxRecDepth 100000 in
theorem kwX12_hedge : pmCW mX12_hedge := List.mem_filter.mpr ⟨List.mem_of_getElem? (i := 1028) rfl, rfl⟩
set_option maxRecDepth 100000 in
theorem kwX12_isHedge : pmCW mX12_isHedge := List.mem_filter.mpr ⟨List.mem_of_getElem? (i := 1032) rfl, rfl⟩
set_option maxRecDepth 100000 in
theorem kwX12_caughtIn : pmCW mX12_caughtIn := List.mem_filter.mpr ⟨List.mem_of_getElem? (i := 1036) rfl, rfl⟩
set_option maxRecDepth 100000 in
theorem kwX12_let : pmCW mX12_let := List.mem_filter.mpr ⟨List.mem_of_getElem? (i := 1040) rfl, rfl⟩
set_option maxRecDepth 100000 in
theorem kwX12_keepAct : pmCW mX12_keepAct := List.mem_filter.mpr ⟨List.mem_of_getElem? (i := 1044) rfl, rfl⟩
set_option maxRecDepth 100000 in
theorem kwX12_whoIs : pmCW mX12_whoIs := List.mem_filter.mpr ⟨List.mem_of_getElem? (i := 1048) rfl, rfl⟩
set_option maxRecDepth 100000 in
theorem kwX12_ones : pmCW mX12_ones := List.mem_filter.mpr ⟨List.mem_of_getElem? (i := 1051) rfl, rfl⟩
set_option maxRecDepth 100000 in
theorem kwX12_hour : pmCW mX12_hour := List.mem_filter.mpr ⟨List.mem_of_getElem? (i := 1055) rfl, rfl⟩
set_option maxRecDepth 100000 in
theorem kwX12_passOn : pmCW mX12_passOn := List.mem_filter.mpr ⟨List.mem_of_getElem? (i := 1059) rfl, rfl⟩
set_option maxRecDepth 100000 in
theorem kwX12_windOf : pmCW mX12_windOf := List.mem_filter.mpr ⟨List.mem_of_getElem? (i := 1063) rfl, rfl⟩
set_option maxRecDepth 100000 in
theorem kwX12_go : pmCW mX12_go := List.mem_filter.mpr ⟨List.mem_of_getElem? (i := 1067) rfl, rfl⟩
set_option maxRecDepth 100000 in
theorem kwX12_goOne : pmCW mX12_goOne := List.mem_filter.mpr ⟨List.mem_of_getElem? (i := 1071) rfl, rfl⟩
set_option maxRecDepth 100000 in
theorem kwX12_blown : pmCW mX12_blown := List.mem_filter.mpr ⟨List.mem_of_getElem? (i := 1074) rfl, rfl⟩
set_option maxRecDepth 100000 in
theorem kwX12_hedgeAt : pmCW mX12_hedgeAt := List.mem_filter.mpr ⟨List.mem_of_getElem? (i := 1078) rfl, rfl⟩
set_option maxRecDepth 100000 in
theorem kwX12_free : pmCW mX12_free := List.mem_filter.mpr ⟨List.mem_of_getElem? (i := 1082) rfl, rfl⟩
set_option maxRecDepth 100000 in
theorem kwX12_right : pmCW mX12_right := List.mem_filter.mpr ⟨List.mem_of_getElem? (i := 1086) rfl, rfl⟩
set_option maxRecDepth 100000 in
theorem kwX12_exchange : pmCW mX12_exchange := List.mem_filter.mpr ⟨List.mem_of_getElem? (i := 1090) rfl, rfl⟩
set_option maxRecDepth 100000 in
theorem kwX12_undo : pmCW mX12_undo := List.mem_filter.mpr ⟨List.mem_of_getElem? (i := 1094) rfl, rfl⟩
set_option maxRecDepth 100000 in
theorem kwX12_later : pmCW mX12_later := List.mem_filter.mpr ⟨List.mem_of_getElem? (i := 1098) rfl, rfl⟩
set_option maxRecDepth 100000 in
theorem kwX12_layTrial : pmCW mX12_layTrial := List.mem_filter.mpr ⟨List.mem_of_getElem? (i := 1103) rfl, rfl⟩
set_option maxRecDepth 100000 in
theorem kwX12_goOn : pmCW mX12_goOn := List.mem_filter.mpr ⟨List.mem_of_getElem? (i := 1107) rfl, rfl⟩
set_option maxRecDepth 100000 in
theorem kwX12_comes : pmCW mX12_comes := List.mem_filter.mpr ⟨List.mem_of_getElem? (i := 1111) rfl, rfl⟩
set_option maxRecDepth 100000 in
theorem kwX12_best : pmCW mX12_best := List.mem_filter.mpr ⟨List.mem_of_getElem? (i := 1115) rfl, rfl⟩
set_option maxRecDepth 100000 in
theorem kwX12_isWellLet : pmCW mX12_isWellLet := List.mem_filter.mpr ⟨List.mem_of_getElem? (i := 1119) rfl, rfl⟩
set_option maxRecDepth 100000 in
theorem kwX12_most : pmCW mX12_most := List.mem_filter.mpr ⟨List.mem_of_getElem? (i := 1123) rfl, rfl⟩
set_option maxRecDepth 100000 in
theorem kwX12_isOrder : pmCW mX12_isOrder := List.mem_filter.mpr ⟨List.mem_of_getElem? (i := 1127) rfl, rfl⟩
set_option maxRecDepth 100000 in
theorem kwX12_gladBy : pmCW mX12_gladBy := List.mem_filter.mpr ⟨List.mem_of_getElem? (i := 1131) rfl, rfl⟩
set_option maxRecDepth 100000 in
theorem kwX12_exchanges : pmCW mX12_exchanges := List.mem_filter.mpr ⟨List.mem_of_getElem? (i := 1135) rfl, rfl⟩
set_option maxRecDepth 100000 in
theorem kwX12_balloonTo : pmCW mX12_balloonTo := List.mem_filter.mpr ⟨List.mem_of_getElem? (i := 1139) rfl, rfl⟩
set_option maxRecDepth 100000 in
theorem kwX12_judge : pmCW mX12_judge := List.mem_filter.mpr ⟨List.mem_of_getElem? (i := 1143) rfl, rfl⟩
set_option maxRecDepth 100000 in
theorem kwX12_thousandTo : pmCW mX12_thousandTo := List.mem_filter.mpr ⟨List.mem_of_getElem? (i := 1147) rfl, rfl⟩
set_option maxRecDepth 100000 in
theorem kwX12_tryThing : pmCW mX12_tryThing := List.mem_filter.mpr ⟨List.mem_of_getElem? (i := 1152) rfl, rfl⟩
set_option maxRecDepth 100000 in
theorem kwX12_find : pmCW mX12_find := List.mem_filter.mpr ⟨List.mem_of_getElem? (i := 1156) rfl, rfl⟩
set_option maxRecDepth 100000 in
theorem kwX12_isCell : pmCW mX12_isCell := List.mem_filter.mpr ⟨List.mem_of_getElem? (i := 1159) rfl, rfl⟩
set_option maxRecDepth 100000 in
theorem kwX12_lose : pmCW mX12_lose := List.mem_filter.mpr ⟨List.mem_of_getElem? (i := 1164) rfl, rfl⟩
set_option maxRecDepth 100000 in
theorem kwX12_began : pmCW mX12_began := List.mem_filter.mpr ⟨List.mem_of_getElem? (i := 1168) rfl, rfl⟩
set_option maxRecDepth 100000 in
theorem kwX12_behind : pmCW mX12_behind := List.mem_filter.mpr ⟨List.mem_of_getElem? (i := 1173) rfl, rfl⟩
set_option maxRecDepth 100000 in
theorem kwX12_share : pmCW mX12_share := List.mem_filter.mpr ⟨List.mem_of_getElem? (i := 1177) rfl, rfl⟩
set_option maxRecDepth 100000 in
theorem kwX12_factorial : pmCW mX12_factorial := List.mem_filter.mpr ⟨List.mem_of_getElem? (i := 1180) rfl, rfl⟩
set_option maxRecDepth 100000 in
theorem kwX12_gladOf : pmCW mX12_gladOf := List.mem_filter.mpr ⟨List.mem_of_getElem? (i := 1184) rfl, rfl⟩
set_option maxRecDepth 100000 in
theorem kwX12_common : pmCW mX12_common := List.mem_filter.mpr ⟨List.mem_of_getElem? (i := 1187) rfl, rfl⟩
set_option maxRecDepth 100000 in
theorem kwX12_rests : pmCW mX12_rests := List.mem_filter.mpr ⟨List.mem_of_getElem? (i := 1191) rfl, rfl⟩
set_option maxRecDepth 100000 in
theorem kwX12_isRest : pmCW mX12_isRest := List.mem_filter.mpr ⟨List.mem_of_getElem? (i := 1195) rfl, rfl⟩
set_option maxRecDepth 100000 in
theorem kwX12_gain : pmCW mX12_gain := List.mem_filter.mpr ⟨List.mem_of_getElem? (i := 1199) rfl, rfl⟩
set_option maxRecDepth 100000 in
theorem kwX12_fails : pmCW mX12_fails := List.mem_filter.mpr ⟨List.mem_of_getElem? (i := 1203) rfl, rfl⟩
set_option maxRecDepth 100000 in
theorem kwX12_power : pmCW mX12_power := List.mem_filter.mpr ⟨List.mem_of_getElem? (i := 1208) rfl, rfl⟩
set_option maxRecDepth 100000 in
theorem kwX12_seed : pmCW mX12_seed := List.mem_filter.mpr ⟨List.mem_of_getElem? (i := 1212) rfl, rfl⟩
set_option maxRecDepth 100000 in
theorem kwX12_years : pmCW mX12_years := List.mem_filter.mpr ⟨List.mem_of_getElem? (i := 1216) rfl, rfl⟩
set_option maxRecDepth 100000 in
theorem kwX12_keep : pmCW mX12_keep := List.mem_filter.mpr ⟨List.mem_of_getElem? (i := 1224) rfl, rfl⟩
set_option maxRecDepth 100000 in
theorem kwX12_again : pmCW mX12_again := List.mem_filter.mpr ⟨List.mem_of_getElem? (i := 1228) rfl, rfl⟩
set_option maxRecDepth 100000 in
theorem kwX12_count : pmCW mX12_count := List.mem_filter.mpr ⟨List.mem_of_getElem? (i := 1232) rfl, rfl⟩
set_option maxRecDepth 100000 in
theorem kwX12_answered : pmCW mX12_answered := List.mem_filter.mpr ⟨List.mem_of_getElem? (i := 1236) rfl, rfl⟩
theorem pmMT_cw_0 : ∀ e ∈ pmMT_0, pmCW e.2.2.2.2.1 := List.forall_mem_cons.mpr ⟨kwX11_init, List.forall_mem_cons.mpr ⟨kwX4_init, List.forall_mem_cons.mpr ⟨kwX7_init, List.forall_mem_cons.mpr ⟨kwX10_init, List.forall_mem_cons.mpr ⟨kwX1_init, List.forall_mem_cons.mpr ⟨kwX0_init, List.forall_mem_cons.mpr ⟨kwX10_init, List.forall_mem_cons.mpr ⟨kwX6_init, List.forall_mem_cons.mpr ⟨kwX9_init, List.forall_mem_cons.mpr ⟨kwX5_init, List.forall_mem_cons.mpr ⟨kwX1_init, List.forall_mem_cons.mpr ⟨kwX8_init, List.forall_mem_cons.mpr ⟨kwX2_init, List.forall_mem_cons.mpr ⟨kwX3_init, List.forall_mem_cons.mpr ⟨kwX11_write, List.forall_mem_cons.mpr ⟨kwX11_wipe, List.forall_mem_cons.mpr ⟨kwX11_fault, List.forall_mem_cons.mpr ⟨kwX7_read, List.forall_mem_cons.mpr ⟨kwX4_clear, List.forall_mem_cons.mpr ⟨kwX7_takes, List.forall_mem_cons.mpr ⟨kwX7_opensPart, List.forall_mem_cons.mpr ⟨kwX7_takesWind, List.forall_mem_cons.mpr ⟨kwX7_takesStart, List.forall_mem_cons.mpr ⟨kwX7_takesOfBalloon, List.forall_mem_cons.mpr ⟨kwX7_takesHedgeCell, fun _ h => absurd h List.not_mem_nil⟩⟩⟩⟩⟩⟩⟩⟩⟩⟩⟩⟩⟩⟩⟩⟩⟩⟩⟩⟩⟩⟩⟩⟩⟩
theorem pmMT_cw_1 : ∀ e ∈ pmMT_1, pmCW e.2.2.2.2.1 := List.forall_mem_cons.mpr ⟨kwX4_hedgeAt, List.forall_mem_cons.mpr ⟨kwX7_takesOfHedge, List.forall_mem_cons.mpr ⟨kwX11_city, List.forall_mem_cons.mpr ⟨kwX10_begin, List.forall_mem_cons.mpr ⟨kwX1_holdAt, List.forall_mem_cons.mpr ⟨kwX0_forget, List.forall_mem_cons.mpr ⟨kwX11_balloon, List.forall_mem_cons.mpr ⟨kwX10_hasBalloon, List.forall_mem_cons.mpr ⟨kwX10_isAnswered, List.forall_mem_cons.mpr ⟨kwX10_whatCame, List.forall_mem_cons.mpr ⟨kwX10_isGlad, List.forall_mem_cons.mpr ⟨kwX10_gladChildren, List.forall_mem_cons.mpr ⟨kwX10_gladdens, List.forall_mem_cons.mpr ⟨kwX11_hedge, List.forall_mem_cons.mpr ⟨kwX4_hasHedge, List.forall_mem_cons.mpr ⟨kwX10_caughtIn, List.forall_mem_cons.mpr ⟨kwX11_let, List.forall_mem_cons.mpr ⟨kwX10_is, List.forall_mem_cons.mpr ⟨kwX10_hasBalloon, List.forall_mem_cons.mpr ⟨kwX0_remember, List.forall_mem_cons.mpr ⟨kwX10_takeFrom, List.forall_mem_cons.mpr ⟨kwX1_takeFrom, List.forall_mem_cons.mpr ⟨kwX10_letGo, List.forall_mem_cons.mpr ⟨kwX10_is, List.forall_mem_cons.mpr ⟨kwX10_allThatAre, fun _ h => absurd h List.not_mem_nil⟩⟩⟩⟩⟩⟩⟩⟩⟩⟩⟩⟩⟩⟩⟩⟩⟩⟩⟩⟩⟩⟩⟩⟩⟩
theorem pmMT_cw_2 : ∀ e ∈ pmMT_2, pmCW e.2.2.2.2.1 := List.forall_mem_cons.mpr ⟨kwJ6_bitCount_0f7a4, List.forall_mem_cons.mpr ⟨kwX11_hour, List.forall_mem_cons.mpr ⟨kwX10_passHour, List.forall_mem_cons.mpr ⟨kwX4_windOf, List.forall_mem_cons.mpr ⟨kwJ9_floorMod_7cf53, List.forall_mem_cons.mpr ⟨kwX10_passHourBy, List.forall_mem_cons.mpr ⟨kwX1_goBy, List.forall_mem_cons.mpr ⟨kwX1_goOneCell, List.forall_mem_cons.mpr ⟨kwX10_catches, List.forall_mem_cons.mpr ⟨kwX4_hedgeAt, List.forall_mem_cons.mpr ⟨kwX10_stands, List.forall_mem_cons.mpr ⟨kwX1_catchIn, List.forall_mem_cons.mpr ⟨kwX11_free, List.forall_mem_cons.mpr ⟨kwX10_setFree, List.forall_mem_cons.mpr ⟨kwX1_leaveHedge, List.forall_mem_cons.mpr ⟨kwX11_right, List.forall_mem_cons.mpr ⟨kwX10_putRight, List.forall_mem_cons.mpr ⟨kwX10_gladChildren, List.forall_mem_cons.mpr ⟨kwX11_undo, List.forall_mem_cons.mpr ⟨kwX0_takeBack, List.forall_mem_cons.mpr ⟨kwX11_later, List.forall_mem_cons.mpr ⟨kwX6_lookAhead, List.forall_mem_cons.mpr ⟨kwX10_takeFrom, List.forall_mem_cons.mpr ⟨kwX10_passHours, List.forall_mem_cons.mpr ⟨kwX11_comes, fun _ h => absurd h List.not_mem_nil⟩⟩⟩⟩⟩⟩⟩⟩⟩⟩⟩⟩⟩⟩⟩⟩⟩⟩⟩⟩⟩⟩⟩⟩⟩
theorem pmMT_cw_3 : ∀ e ∈ pmMT_3, pmCW e.2.2.2.2.1 := List.forall_mem_cons.mpr ⟨kwX6_hoursToAnswer, List.forall_mem_cons.mpr ⟨kwX10_isAnswered, List.forall_mem_cons.mpr ⟨kwX10_passHour, List.forall_mem_cons.mpr ⟨kwX11_best, List.forall_mem_cons.mpr ⟨kwX6_hoursToLetting, List.forall_mem_cons.mpr ⟨kwX6_endsWellIfLetIn, List.forall_mem_cons.mpr ⟨kwX10_letGo, List.forall_mem_cons.mpr ⟨kwX4_hasHedge, List.forall_mem_cons.mpr ⟨kwX11_most, List.forall_mem_cons.mpr ⟨kwX9_tryAllOrders, List.forall_mem_cons.mpr ⟨kwX9_layOut, List.forall_mem_cons.mpr ⟨kwX9_gladByOrder, List.forall_mem_cons.mpr ⟨kwX10_gladdens, List.forall_mem_cons.mpr ⟨kwX11_judge, List.forall_mem_cons.mpr ⟨kwX6_firstThatCannotBe, List.forall_mem_cons.mpr ⟨kwX6_canBe, List.forall_mem_cons.mpr ⟨kwX10_setFree, List.forall_mem_cons.mpr ⟨kwX10_putRight, List.forall_mem_cons.mpr ⟨kwX10_isGlad, List.forall_mem_cons.mpr ⟨kwX11_find, List.forall_mem_cons.mpr ⟨kwX5_add, List.forall_mem_cons.mpr ⟨kwX11_lose, List.forall_mem_cons.mpr ⟨kwX11_began, List.forall_mem_cons.mpr ⟨kwX5_cellsOfLetting, List.forall_mem_cons.mpr ⟨kwX5_agreesFrom, fun _ h => absurd h List.not_mem_nil⟩⟩⟩⟩⟩⟩⟩⟩⟩⟩⟩⟩⟩⟩⟩⟩⟩⟩⟩⟩⟩⟩⟩⟩⟩
theorem pmMT_cw_4 : ∀ e ∈ pmMT_4, pmCW e.2.2.2.2.1 := List.forall_mem_cons.mpr ⟨kwX1_holdAt, List.forall_mem_cons.mpr ⟨kwX5_agreesBehind, List.forall_mem_cons.mpr ⟨kwX4_windOf, List.forall_mem_cons.mpr ⟨kwX1_goBy, List.forall_mem_cons.mpr ⟨kwX11_share, List.forall_mem_cons.mpr ⟨kwX8_sumOverOrders, List.forall_mem_cons.mpr ⟨kwX4_hasHedge, List.forall_mem_cons.mpr ⟨kwX8_weighAllSets, List.forall_mem_cons.mpr ⟨kwX10_takeFrom, List.forall_mem_cons.mpr ⟨kwX10_leaveStanding, List.forall_mem_cons.mpr ⟨kwX10_passHours, List.forall_mem_cons.mpr ⟨kwX10_gladChildren, List.forall_mem_cons.mpr ⟨kwJ6_bitCount_0f7a4, List.forall_mem_cons.mpr ⟨kwX11_inLeastTerms, List.forall_mem_cons.mpr ⟨kwJ9_abs_0f7a4, List.forall_mem_cons.mpr ⟨kwX11_greatestCommon, List.forall_mem_cons.mpr ⟨kwX11_rests, List.forall_mem_cons.mpr ⟨kwX2_tryAllPairs, List.forall_mem_cons.mpr ⟨kwX10_takeFrom, List.forall_mem_cons.mpr ⟨kwX10_letGo, List.forall_mem_cons.mpr ⟨kwX10_passHours, List.forall_mem_cons.mpr ⟨kwX2_caughtTogether, List.forall_mem_cons.mpr ⟨kwX10_is, List.forall_mem_cons.mpr ⟨kwX2_ownJoy, List.forall_mem_cons.mpr ⟨kwX10_isGlad, fun _ h => absurd h List.not_mem_nil⟩⟩⟩⟩⟩⟩⟩⟩⟩⟩⟩⟩⟩⟩⟩⟩⟩⟩⟩⟩⟩⟩⟩⟩⟩
theorem pmMT_cw_5 : ∀ e ∈ pmMT_5, pmCW e.2.2.2.2.1 := List.forall_mem_cons.mpr ⟨kwX2_howManyRest, List.forall_mem_cons.mpr ⟨kwX2_isAtRest, List.forall_mem_cons.mpr ⟨kwX2_firstAtRest, List.forall_mem_cons.mpr ⟨kwX11_fails, List.forall_mem_cons.mpr ⟨kwX3_waysCaught, List.forall_mem_cons.mpr ⟨kwJ6_bitCount_0f7a4, List.forall_mem_cons.mpr ⟨kwX11_power, List.forall_mem_cons.mpr ⟨kwX3_isCaughtIf, List.forall_mem_cons.mpr ⟨kwX10_takeFrom, List.forall_mem_cons.mpr ⟨kwX10_passHourBy, List.forall_mem_cons.mpr ⟨kwX10_passHour, List.forall_mem_cons.mpr ⟨kwX11_power, List.forall_mem_cons.mpr ⟨kwX11_seed, List.forall_mem_cons.mpr ⟨kwX11_years, List.forall_mem_cons.mpr ⟨kwX3_gladOverYears, List.forall_mem_cons.mpr ⟨kwX3_doIfItCanBe, List.forall_mem_cons.mpr ⟨kwX10_letGo, List.forall_mem_cons.mpr ⟨kwX10_setFree, List.forall_mem_cons.mpr ⟨kwX10_putRight, List.forall_mem_cons.mpr ⟨kwX10_gladChildren, List.forall_mem_cons.mpr ⟨kwX11_keep, List.forall_mem_cons.mpr ⟨kwX10_takeFrom, List.forall_mem_cons.mpr ⟨kwX11_again, List.forall_mem_cons.mpr ⟨kwX11_count, List.forall_mem_cons.mpr ⟨kwX4_windOf, fun _ h => absurd h List.not_mem_nil⟩⟩⟩⟩⟩⟩⟩⟩⟩⟩⟩⟩⟩⟩⟩⟩⟩⟩⟩⟩⟩⟩⟩⟩⟩
theorem pmMT_cw_6 : ∀ e ∈ pmMT_6, pmCW e.2.2.2.2.1 := List.forall_mem_cons.mpr ⟨kwX10_answeredBalloons, List.forall_mem_cons.mpr ⟨kwX10_isAnswered, List.forall_mem_cons.mpr ⟨kwX12_init, List.forall_mem_cons.mpr ⟨kwX12_write, List.forall_mem_cons.mpr ⟨kwX12_in, List.forall_mem_cons.mpr ⟨kwX12_wipe, List.forall_mem_cons.mpr ⟨kwX12_fault, List.forall_mem_cons.mpr ⟨kwX12_readText, List.forall_mem_cons.mpr ⟨kwX12_readPart, List.forall_mem_cons.mpr ⟨kwX12_figureOf, List.forall_mem_cons.mpr ⟨kwX12_cellOf, List.forall_mem_cons.mpr ⟨kwX12_has, List.forall_mem_cons.mpr ⟨kwX12_city, List.forall_mem_cons.mpr ⟨kwX12_balloon, List.forall_mem_cons.mpr ⟨kwX12_isBalloon, List.forall_mem_cons.mpr ⟨kwX12_isAnswered, List.forall_mem_cons.mpr ⟨kwX12_glad, List.forall_mem_cons.mpr ⟨kwX12_brings, List.forall_mem_cons.mpr ⟨kwX12_hedge, List.forall_mem_cons.mpr ⟨kwX12_isHedge, List.forall_mem_cons.mpr ⟨kwX12_caughtIn, List.forall_mem_cons.mpr ⟨kwX12_let, List.forall_mem_cons.mpr ⟨kwX12_keepAct, List.forall_mem_cons.mpr ⟨kwX12_whoIs, List.forall_mem_cons.mpr ⟨kwX12_ones, fun _ h => absurd h List.not_mem_nil⟩⟩⟩⟩⟩⟩⟩⟩⟩⟩⟩⟩⟩⟩⟩⟩⟩⟩⟩⟩⟩⟩⟩⟩⟩
theorem pmMT_cw_7 : ∀ e ∈ pmMT_7, pmCW e.2.2.2.2.1 := List.forall_mem_cons.mpr ⟨kwX12_hour, List.forall_mem_cons.mpr ⟨kwX12_passOn, List.forall_mem_cons.mpr ⟨kwX12_windOf, List.forall_mem_cons.mpr ⟨kwX12_go, List.forall_mem_cons.mpr ⟨kwX12_goOne, List.forall_mem_cons.mpr ⟨kwX12_blown, List.forall_mem_cons.mpr ⟨kwX12_hedgeAt, List.forall_mem_cons.mpr ⟨kwX12_free, List.forall_mem_cons.mpr ⟨kwX12_right, List.forall_mem_cons.mpr ⟨kwX12_exchange, List.forall_mem_cons.mpr ⟨kwX12_undo, List.forall_mem_cons.mpr ⟨kwX12_later, List.forall_mem_cons.mpr ⟨kwX12_layTrial, List.forall_mem_cons.mpr ⟨kwX12_goOn, List.forall_mem_cons.mpr ⟨kwX12_comes, List.forall_mem_cons.mpr ⟨kwX12_best, List.forall_mem_cons.mpr ⟨kwX12_isWellLet, List.forall_mem_cons.mpr ⟨kwX12_most, List.forall_mem_cons.mpr ⟨kwX12_isOrder, List.forall_mem_cons.mpr ⟨kwX12_gladBy, List.forall_mem_cons.mpr ⟨kwX12_exchanges, List.forall_mem_cons.mpr ⟨kwX12_balloonTo, List.forall_mem_cons.mpr ⟨kwX12_judge, List.forall_mem_cons.mpr ⟨kwX12_thousandTo, List.forall_mem_cons.mpr ⟨kwX12_tryThing, fun _ h => absurd h List.not_mem_nil⟩⟩⟩⟩⟩⟩⟩⟩⟩⟩⟩⟩⟩⟩⟩⟩⟩⟩⟩⟩⟩⟩⟩⟩⟩
theorem pmMT_cw_8 : ∀ e ∈ pmMT_8, pmCW e.2.2.2.2.1 := List.forall_mem_cons.mpr ⟨kwX12_find, List.forall_mem_cons.mpr ⟨kwX12_isCell, List.forall_mem_cons.mpr ⟨kwX12_lose, List.forall_mem_cons.mpr ⟨kwX12_began, List.forall_mem_cons.mpr ⟨kwX12_behind, List.forall_mem_cons.mpr ⟨kwX12_share, List.forall_mem_cons.mpr ⟨kwX12_factorial, List.forall_mem_cons.mpr ⟨kwX12_gladOf, List.forall_mem_cons.mpr ⟨kwX12_common, List.forall_mem_cons.mpr ⟨kwX12_rests, List.forall_mem_cons.mpr ⟨kwX12_isRest, List.forall_mem_cons.mpr ⟨kwX12_gain, List.forall_mem_cons.mpr ⟨kwX12_fails, List.forall_mem_cons.mpr ⟨kwX12_power, List.forall_mem_cons.mpr ⟨kwX12_seed, List.forall_mem_cons.mpr ⟨kwX12_years, List.forall_mem_cons.mpr ⟨kwX12_keep, List.forall_mem_cons.mpr ⟨kwX12_again, List.forall_mem_cons.mpr ⟨kwX12_count, List.forall_mem_cons.mpr ⟨kwX12_answered, fun _ h => absurd h List.not_mem_nil⟩⟩⟩⟩⟩⟩⟩⟩⟩⟩⟩⟩⟩⟩⟩⟩⟩⟩⟩⟩
theorem pmMT_cw : ∀ e ∈ pmMT, pmCW e.2.2.2.2.1 := List.forall_mem_append.mpr ⟨pmMT_cw_0, List.forall_mem_append.mpr ⟨pmMT_cw_1, List.forall_mem_append.mpr ⟨pmMT_cw_2, List.forall_mem_append.mpr ⟨pmMT_cw_3, List.forall_mem_append.mpr ⟨pmMT_cw_4, List.forall_mem_append.mpr ⟨pmMT_cw_5, List.forall_mem_append.mpr ⟨pmMT_cw_6, List.forall_mem_append.mpr ⟨pmMT_cw_7, pmMT_cw_8⟩⟩⟩⟩⟩⟩⟩⟩
theorem pmMth_ok {o i k n : Nat} {N : pmM} {p1 p2 p3 p4 p5 : Nat} (h : pmMth o i = some (k, n, N, p1, p2, p3, p4, p5)) : pmMTw o i k N p1 p2 p3 = true ∧ pmMTg n N p4 p5 = true ∧ pmCW N := by
  obtain ⟨q, hq, he⟩ := Option.map_eq_some_iff.mp h
  have h1 := List.find?_some hq
  have h2 := List.all_eq_true.mp pmMT_ok q (List.mem_of_find?_eq_some hq)
  obtain ⟨o', i', k', n', N', p1', p2', p3', p4', p5'⟩ := q
  simp only [Bool.and_eq_true, beq_iff_eq] at h1
  simp only [Prod.mk.injEq] at he
  obtain ⟨rfl, rfl⟩ := h1
  obtain ⟨rfl, rfl, rfl, rfl, rfl, rfl, rfl, rfl⟩ := he
  simp only [pmMTc, Bool.and_eq_true] at h2
  exact ⟨h2.1, h2.2, pmMT_cw _ (List.mem_of_find?_eq_some hq)⟩
def pmOTc (e : Nat × Nat × Nat) : Bool := pmWd e.2.2 (.methodLink (pmCN e.1) e.2.1 objectInit)
theorem pmOT_ok : pmOT.all pmOTc = true := by decide +kernel
theorem pmObj_ok {o i p : Nat} (h : pmObj o i = some p) : Jvm.Cond.methodLink (pmCN o) i objectInit ∈ pmTbl := by
  obtain ⟨q, hq, he⟩ := Option.map_eq_some_iff.mp h
  have h1 := List.find?_some hq
  have h2 := List.all_eq_true.mp pmOT_ok q (List.mem_of_find?_eq_some hq)
  obtain ⟨o', i', p'⟩ := q
  simp only [Bool.and_eq_true, beq_iff_eq] at h1
  obtain ⟨rfl, rfl⟩ := h1
  exact pmWd_in h2
theorem pmObj_w : Jvm.Cond.instanceMethod objectInit ∈ pmTbl ∧ Jvm.Cond.code objectInit ⟨#[0xb1]⟩ 1 none ∈ pmTbl := ⟨pmWd_in (p := 75) (by decide +kernel), pmWd_in (p := 76) (by decide +kernel)⟩
def pmCTc (e : Nat × Nat × Nat × Nat) : Bool := pmWd e.2.2.2 (.classLink (pmCN e.1) e.2.1 (pmCN e.2.2.1))
theorem pmCT_ok : pmCT.all pmCTc = true := by decide +kernel
theorem pmCls_ok {o i c p : Nat} (h : pmCls o i = some (c, p)) : Jvm.Cond.classLink (pmCN o) i (pmCN c) ∈ pmTbl := by
  obtain ⟨q, hq, he⟩ := Option.map_eq_some_iff.mp h
  have h1 := List.find?_some hq
  have h2 := List.all_eq_true.mp pmCT_ok q (List.mem_of_find?_eq_some hq)
  obtain ⟨o', i', c', p'⟩ := q
  simp only [Bool.and_eq_true, beq_iff_eq] at h1
  simp only [Prod.mk.injEq] at he
  obtain ⟨rfl, rfl⟩ := h1
  obtain ⟨rfl, rfl⟩ := he
  exact pmWd_in h2
def pmCIc (e : Nat × Nat × Int32 × Nat) : Bool := pmWd e.2.2.2 (.constant (pmCN e.1) e.2.1 e.2.2.1)
theorem pmCI_ok : pmCI.all pmCIc = true := by decide +kernel
theorem pmKI_ok {o i p : Nat} {v : Int32} (h : pmKI o i = some (v, p)) : Jvm.Cond.constant (pmCN o) i v ∈ pmTbl := by
  obtain ⟨q, hq, he⟩ := Option.map_eq_some_iff.mp h
  have h1 := List.find?_some hq
  have h2 := List.all_eq_true.mp pmCI_ok q (List.mem_of_find?_eq_some hq)
  obtain ⟨o', i', c', p'⟩ := q
  simp only [Bool.and_eq_true, beq_iff_eq] at h1
  simp only [Prod.mk.injEq] at he
  obtain ⟨rfl, rfl⟩ := h1
  obtain ⟨rfl, rfl⟩ := he
  exact pmWd_in h2
def pmCJc (e : Nat × Nat × Int64 × Nat) : Bool := pmWd e.2.2.2 (.constantLong (pmCN e.1) e.2.1 e.2.2.1)
theorem pmCJ_ok : pmCJ.all pmCJc = true := by decide +kernel
theorem pmKJ_ok {o i p : Nat} {v : Int64} (h : pmKJ o i = some (v, p)) : Jvm.Cond.constantLong (pmCN o) i v ∈ pmTbl := by
  obtain ⟨q, hq, he⟩ := Option.map_eq_some_iff.mp h
  have h1 := List.find?_some hq
  have h2 := List.all_eq_true.mp pmCJ_ok q (List.mem_of_find?_eq_some hq)
  obtain ⟨o', i', c', p'⟩ := q
  simp only [Bool.and_eq_true, beq_iff_eq] at h1
  simp only [Prod.mk.injEq] at he
  obtain ⟨rfl, rfl⟩ := h1
  obtain ⟨rfl, rfl⟩ := he
  exact pmWd_in h2
theorem pmArr_w : Jvm.Cond.arrayClass .int ∈ pmTbl ∧ Jvm.Cond.arrayClass .boolean ∈ pmTbl := ⟨pmWd_in (p := 142) (by decide +kernel), pmWd_in (p := 265) (by decide +kernel)⟩
def pmLP (c : Nat) : List Nat := ([[245, 247, 249], [195, 197, 199, 201, 203, 205, 207], [338, 340, 342, 344], [357, 359, 361], [121, 123, 125, 127, 129, 131, 133, 135, 137, 139], [301, 303, 305, 307, 309], [260, 262], [152, 154, 156], [321, 323, 325], [278, 280, 282, 284], [223, 225, 227, 229], [380, 382, 384, 386, 388, 390, 392, 394, 396, 398, 400, 402, 404, 406, 408, 410], [898, 900, 902, 904, 906, 908, 910, 912, 914, 916, 918, 920, 922, 924, 926, 928, 930, 932, 934, 936, 938, 940, 942, 944, 946, 948, 950, 952, 954, 956, 958, 960, 962]]).getD c []
def pmIP (c : Nat) : Nat × Nat := ([(233, 59), (167, 58), (329, 64), (348, 65), (78, 55), (288, 62), (253, 60), (144, 56), (313, 63), (267, 61), (160, 57), (70, 54), (860, 66)]).getD c (0, 0)
def pmCc (c : Nat) : Bool := ((u_ws (pmCN c) (pmTX c) (pmNF c)).zip (pmLP c)).all (fun q => pmWd q.2 q.1) && decide ((pmLP c).length = pmNF c) && pmWd (pmIP c).1 (.instantiable (pmCN c) (pmNF c)) && pmWd (pmIP c).2 (.initialized (pmCN c))
theorem pmC_ok : (List.range 13).all pmCc = true := by decide +kernel
theorem pmC_w {c : Nat} (h : c < 13) : (∀ w ∈ u_ws (pmCN c) (pmTX c) (pmNF c), w ∈ pmTbl) ∧ Jvm.Cond.instantiable (pmCN c) (pmNF c) ∈ pmTbl ∧ Jvm.Cond.initialized (pmCN c) ∈ pmTbl := by
  have h1 := List.all_eq_true.mp pmC_ok c (List.mem_range.mpr h)
  simp only [pmCc, Bool.and_eq_true, decide_eq_true_eq] at h1
  refine ⟨fun w hw => ?_, pmWd_in h1.1.2, pmWd_in h1.2⟩
  obtain ⟨i, hi, he⟩ := List.mem_iff_getElem.mp hw
  have hlen : (u_ws (pmCN c) (pmTX c) (pmNF c)).length = pmNF c := by simp [u_ws]
  have hz : ((u_ws (pmCN c) (pmTX c) (pmNF c)).zip (pmLP c))[i]? = some (w, (pmLP c)[i]'(by omega)) := by
    rw [List.getElem?_zip_eq_some]
    exact ⟨by rw [List.getElem?_eq_getElem hi, he], List.getElem?_eq_getElem _⟩
  exact pmWd_in (List.all_eq_true.mp h1.1.1.1 _ (List.mem_of_getElem? hz))
theorem pmC_cl {c : Nat} (h : c < 13) : vwCl[c]? = some (pmCN c, pmTX c, pmNF c) := by
  match c, h with
  | 0, _ => rfl
  | 1, _ => rfl
  | 2, _ => rfl
  | 3, _ => rfl
  | 4, _ => rfl
  | 5, _ => rfl
  | 6, _ => rfl
  | 7, _ => rfl
  | 8, _ => rfl
  | 9, _ => rfl
  | 10, _ => rfl
  | 11, _ => rfl
  | 12, _ => rfl
  | n + 13, h => exact absurd h (by omega)
theorem pmC_nm {c : Nat} (h : c < 13) : ∀ a, a < pmNF c → ∀ b, b < pmNF c → a ≠ b → (pmTX c a).2.1 ≠ (pmTX c b).2.1 := by
  match c, h with
  | 0, _ => exact nmX0
  | 1, _ => exact nmX1
  | 2, _ => exact nmX2
  | 3, _ => exact nmX3
  | 4, _ => exact nmX4
  | 5, _ => exact nmX5
  | 6, _ => exact nmX6
  | 7, _ => exact nmX7
  | 8, _ => exact nmX8
  | 9, _ => exact nmX9
  | 10, _ => exact nmX10
  | 11, _ => exact nmX11
  | 12, _ => exact nmX12
  | n + 13, h => exact absurd h (by omega)
theorem pmC_ty {c : Nat} (h : c < 13) : ∀ k, k < pmNF c → parseFieldDescriptor (pmTX c k).2.2.1 = some (pmTy c k) := by
  match c, h with
  | 0, _ => exact tyX0_ok
  | 1, _ => exact tyX1_ok
  | 2, _ => exact tyX2_ok
  | 3, _ => exact tyX3_ok
  | 4, _ => exact tyX4_ok
  | 5, _ => exact tyX5_ok
  | 6, _ => exact tyX6_ok
  | 7, _ => exact tyX7_ok
  | 8, _ => exact tyX8_ok
  | 9, _ => exact tyX9_ok
  | 10, _ => exact tyX10_ok
  | 11, _ => exact tyX11_ok
  | 12, _ => exact tyX12_ok
  | n + 13, h => exact absurd h (by omega)
