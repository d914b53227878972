/-! the law's calls, 2 -/
set_option maxRecDepth 20000 in
set_option maxHeartbeats 4000000 in
theorem law_corrects {p : Program} {l : Launch} {e : Env} {s : State} {m : MethodId} {below : List Frame} {meth : Method} {c : Code} {b L : Nat} {xs : Nat → Int32} {dC : Nat → ClassId} {dI : Nat → Nat → Nat} {cI cZ : ClassId} {ad1 ad2 : Nat → Nat} {h1 h2 : mH} {N n : Nat} (C : lCtx p s m meth c b L xs dC dI cI cZ) (hL : L ≤ 256) (hi : n + 3 < L) (hN : N ≤ 100) (h : RH N h1 h2) (kk : ∀ k1 k2, RH (N + 1) k1 k2 → lG p l e s m below meth c b dC dI cI cZ ad1 ad2 (nI n) 778 [] k1 k2) : lG p l e s m below meth c b dC dI cI cZ ad1 ad2 (nI n) 373 [] h1 h2 := by
  have hv := RH_mrv h
  obtain ⟨p1, p2, s1, s2, hq⟩ := cs_corrects h (n := (xs (n + 1)).toInt) (iX (xs (n + 1))) hN
  refine lAx C (by decide +kernel) ?_
  refine lArg C (k := 1) (by omega) hL (by decide +kernel) (by decide +kernel) (by decide +kernel) (by decide +kernel) (by decide +kernel) ?_
  refine lC1 C (idx := 52) (As := [mi (xs (n + 1)).toInt]) (Vs := [.int (xs (n + 1))]) (by decide +kernel) mf_X6_corrects (mtb_in (List.mem_of_getElem? (i := 546) (by decide +kernel)) rfl) (by decide) hv.1 (Nat.le_of_ble_eq_true rfl) (s1 l) (by simp only [List.map_cons, List.map_nil, cV, iN_x]) rfl ?_
  intro z1 k1 q1
  refine lAm C (by decide +kernel) ?_
  refine lArg C (k := 1) (by omega) hL (by decide +kernel) (by decide +kernel) (by decide +kernel) (by decide +kernel) (by decide +kernel) ?_
  refine lC2 C (idx := 55) (As := [mi (xs (n + 1)).toInt]) (Vs := [.int (xs (n + 1))]) (by decide +kernel) mf_X7_corrects (mtb_in (List.mem_of_getElem? (i := 1069) (by decide +kernel)) rfl) (by decide) hv.2 (Nat.le_of_ble_eq_true rfl) (s2 l) (by simp only [List.map_cons, List.map_nil, cV, iN_x]) rfl ?_
  intro z2 k2 q2
  obtain ⟨rfl, hR⟩ := hq z1 k1 z2 k2 q1 q2
  exact lEq C (off := 387) (by decide +kernel) (by decide) (kk _ _ hR)
set_option maxRecDepth 20000 in
set_option maxHeartbeats 4000000 in
theorem law_undo {p : Program} {l : Launch} {e : Env} {s : State} {m : MethodId} {below : List Frame} {meth : Method} {c : Code} {b L : Nat} {xs : Nat → Int32} {dC : Nat → ClassId} {dI : Nat → Nat → Nat} {cI cZ : ClassId} {ad1 ad2 : Nat → Nat} {h1 h2 : mH} {N n : Nat} (C : lCtx p s m meth c b L xs dC dI cI cZ) (hL : L ≤ 256) (hi : n + 3 < L) (hN : N ≤ 100) (h : RH N h1 h2) (kk : ∀ k1 k2, RH (N + 1) k1 k2 → lG p l e s m below meth c b dC dI cI cZ ad1 ad2 (nI n) 778 [] k1 k2) : lG p l e s m below meth c b dC dI cI cZ ad1 ad2 (nI n) 396 [] h1 h2 := by
  have hv := RH_mrv h
  obtain ⟨p1, p2, s1, s2, hq⟩ := cs_undo h   hN
  refine lAx C (by decide +kernel) ?_
  refine lC1 C (idx := 56) (As := []) (Vs := []) (by decide +kernel) mf_X6_undo (mtb_in (List.mem_of_getElem? (i := 554) (by decide +kernel)) rfl) (by decide) hv.1 (Nat.le_of_ble_eq_true rfl) (s1 l) rfl rfl ?_
  intro z1 k1 q1
  refine lAm C (by decide +kernel) ?_
  refine lC2 C (idx := 59) (As := []) (Vs := []) (by decide +kernel) mf_X7_undo (mtb_in (List.mem_of_getElem? (i := 1073) (by decide +kernel)) rfl) (by decide) hv.2 (Nat.le_of_ble_eq_true rfl) (s2 l) rfl rfl ?_
  intro z2 k2 q2
  obtain ⟨rfl, hR⟩ := hq z1 k1 z2 k2 q1 q2
  exact lEq C (off := 374) (by decide +kernel) (by decide) (kk _ _ hR)
set_option maxRecDepth 20000 in
set_option maxHeartbeats 4000000 in
theorem law_now {p : Program} {l : Launch} {e : Env} {s : State} {m : MethodId} {below : List Frame} {meth : Method} {c : Code} {b L : Nat} {xs : Nat → Int32} {dC : Nat → ClassId} {dI : Nat → Nat → Nat} {cI cZ : ClassId} {ad1 ad2 : Nat → Nat} {h1 h2 : mH} {N n : Nat} (C : lCtx p s m meth c b L xs dC dI cI cZ) (hL : L ≤ 256) (hi : n + 3 < L) (hN : N ≤ 100) (h : RH N h1 h2) (kk : ∀ k1 k2, RH (N + 1) k1 k2 → lG p l e s m below meth c b dC dI cI cZ ad1 ad2 (nI n) 778 [] k1 k2) : lG p l e s m below meth c b dC dI cI cZ ad1 ad2 (nI n) 409 [] h1 h2 := by
  have hv := RH_mrv h
  obtain ⟨p1, p2, s1, s2, hq⟩ := cs_now h (w := (xs (n + 1)).toInt) (iX (xs (n + 1))) hN
  refine lAx C (by decide +kernel) ?_
  refine lArg C (k := 1) (by omega) hL (by decide +kernel) (by decide +kernel) (by decide +kernel) (by decide +kernel) (by decide +kernel) ?_
  refine lC1 C (idx := 60) (As := [mi (xs (n + 1)).toInt]) (Vs := [.int (xs (n + 1))]) (by decide +kernel) mf_X6_now (mtb_in (List.mem_of_getElem? (i := 562) (by decide +kernel)) rfl) (by decide) hv.1 (Nat.le_of_ble_eq_true rfl) (s1 l) (by simp only [List.map_cons, List.map_nil, cV, iN_x]) rfl ?_
  intro z1 k1 q1
  refine lAm C (by decide +kernel) ?_
  refine lArg C (k := 1) (by omega) hL (by decide +kernel) (by decide +kernel) (by decide +kernel) (by decide +kernel) (by decide +kernel) ?_
  refine lC2 C (idx := 63) (As := [mi (xs (n + 1)).toInt]) (Vs := [.int (xs (n + 1))]) (by decide +kernel) mf_X7_now (mtb_in (List.mem_of_getElem? (i := 1077) (by decide +kernel)) rfl) (by decide) hv.2 (Nat.le_of_ble_eq_true rfl) (s2 l) (by simp only [List.map_cons, List.map_nil, cV, iN_x]) rfl ?_
  intro z2 k2 q2
  obtain ⟨rfl, hR⟩ := hq z1 k1 z2 k2 q1 q2
  exact lEq C (off := 351) (by decide +kernel) (by decide) (kk _ _ hR)
set_option maxRecDepth 20000 in
set_option maxHeartbeats 4000000 in
theorem law_soonest {p : Program} {l : Launch} {e : Env} {s : State} {m : MethodId} {below : List Frame} {meth : Method} {c : Code} {b L : Nat} {xs : Nat → Int32} {dC : Nat → ClassId} {dI : Nat → Nat → Nat} {cI cZ : ClassId} {ad1 ad2 : Nat → Nat} {h1 h2 : mH} {N n : Nat} (C : lCtx p s m meth c b L xs dC dI cI cZ) (hL : L ≤ 256) (hi : n + 3 < L) (hN : N ≤ 100) (h : RH N h1 h2) (kk : ∀ k1 k2, RH (N + 1) k1 k2 → lG p l e s m below meth c b dC dI cI cZ ad1 ad2 (nI n) 778 [] k1 k2) : lG p l e s m below meth c b dC dI cI cZ ad1 ad2 (nI n) 432 [] h1 h2 := by
  have hv := RH_mrv h
  obtain ⟨p1, p2, s1, s2, hq⟩ := cs_soonest h   hN
  refine lAx C (by decide +kernel) ?_
  refine lC1 C (idx := 64) (As := []) (Vs := []) (by decide +kernel) mf_X6_soonest (mtb_in (List.mem_of_getElem? (i := 578) (by decide +kernel)) rfl) (by decide) hv.1 (Nat.le_of_ble_eq_true rfl) (s1 l) rfl rfl ?_
  intro z1 k1 q1
  refine lAm C (by decide +kernel) ?_
  refine lC2 C (idx := 67) (As := []) (Vs := []) (by decide +kernel) mf_X7_soonest (mtb_in (List.mem_of_getElem? (i := 1081) (by decide +kernel)) rfl) (by decide) hv.2 (Nat.le_of_ble_eq_true rfl) (s2 l) rfl rfl ?_
  intro z2 k2 q2
  obtain ⟨rfl, hR⟩ := hq z1 k1 z2 k2 q1 q2
  exact lEq C (off := 338) (by decide +kernel) (by decide) (kk _ _ hR)
set_option maxRecDepth 20000 in
set_option maxHeartbeats 4000000 in
theorem law_chance {p : Program} {l : Launch} {e : Env} {s : State} {m : MethodId} {below : List Frame} {meth : Method} {c : Code} {b L : Nat} {xs : Nat → Int32} {dC : Nat → ClassId} {dI : Nat → Nat → Nat} {cI cZ : ClassId} {ad1 ad2 : Nat → Nat} {h1 h2 : mH} {N n : Nat} (C : lCtx p s m meth c b L xs dC dI cI cZ) (hL : L ≤ 256) (hi : n + 3 < L) (hN : N ≤ 100) (h : RH N h1 h2) (kk : ∀ k1 k2, RH (N + 1) k1 k2 → lG p l e s m below meth c b dC dI cI cZ ad1 ad2 (nI n) 778 [] k1 k2) : lG p l e s m below meth c b dC dI cI cZ ad1 ad2 (nI n) 445 [] h1 h2 := by
  have hv := RH_mrv h
  obtain ⟨p1, p2, s1, s2, hq⟩ := cs_chance h (n := (xs (n + 1)).toInt) (w := (xs (n + 2)).toInt) (iX (xs (n + 1))) (iX (xs (n + 2))) hN
  refine lAx C (by decide +kernel) ?_
  refine lArg C (k := 1) (by omega) hL (by decide +kernel) (by decide +kernel) (by decide +kernel) (by decide +kernel) (by decide +kernel) ?_
  refine lArg C (k := 2) (by omega) hL (by decide +kernel) (by decide +kernel) (by decide +kernel) (by decide +kernel) (by decide +kernel) ?_
  refine lC1 C (idx := 68) (As := [mi (xs (n + 1)).toInt, mi (xs (n + 2)).toInt]) (Vs := [.int (xs (n + 1)), .int (xs (n + 2))]) (by decide +kernel) mf_X6_chance (mtb_in (List.mem_of_getElem? (i := 590) (by decide +kernel)) rfl) (by decide) hv.1 (Nat.le_of_ble_eq_true rfl) (s1 l) (by simp only [List.map_cons, List.map_nil, cV, iN_x]) rfl ?_
  intro z1 k1 q1
  refine lAm C (by decide +kernel) ?_
  refine lArg C (k := 1) (by omega) hL (by decide +kernel) (by decide +kernel) (by decide +kernel) (by decide +kernel) (by decide +kernel) ?_
  refine lArg C (k := 2) (by omega) hL (by decide +kernel) (by decide +kernel) (by decide +kernel) (by decide +kernel) (by decide +kernel) ?_
  refine lC2 C (idx := 71) (As := [mi (xs (n + 1)).toInt, mi (xs (n + 2)).toInt]) (Vs := [.int (xs (n + 1)), .int (xs (n + 2))]) (by decide +kernel) mf_X7_chance (mtb_in (List.mem_of_getElem? (i := 1085) (by decide +kernel)) rfl) (by decide) hv.2 (Nat.le_of_ble_eq_true rfl) (s2 l) (by simp only [List.map_cons, List.map_nil, cV, iN_x]) rfl ?_
  intro z2 k2 q2
  obtain ⟨rfl, hR⟩ := hq z1 k1 z2 k2 q1 q2
  exact lEq C (off := 305) (by decide +kernel) (by decide) (kk _ _ hR)
set_option maxRecDepth 20000 in
set_option maxHeartbeats 4000000 in
theorem law_safe {p : Program} {l : Launch} {e : Env} {s : State} {m : MethodId} {below : List Frame} {meth : Method} {c : Code} {b L : Nat} {xs : Nat → Int32} {dC : Nat → ClassId} {dI : Nat → Nat → Nat} {cI cZ : ClassId} {ad1 ad2 : Nat → Nat} {h1 h2 : mH} {N n : Nat} (C : lCtx p s m meth c b L xs dC dI cI cZ) (hL : L ≤ 256) (hi : n + 3 < L) (hN : N ≤ 100) (h : RH N h1 h2) (kk : ∀ k1 k2, RH (N + 1) k1 k2 → lG p l e s m below meth c b dC dI cI cZ ad1 ad2 (nI n) 778 [] k1 k2) : lG p l e s m below meth c b dC dI cI cZ ad1 ad2 (nI n) 478 [] h1 h2 := by
  have hv := RH_mrv h
  obtain ⟨p1, p2, s1, s2, hq⟩ := cs_safe h (w := (xs (n + 1)).toInt) (iX (xs (n + 1))) hN
  refine lAx C (by decide +kernel) ?_
  refine lArg C (k := 1) (by omega) hL (by decide +kernel) (by decide +kernel) (by decide +kernel) (by decide +kernel) (by decide +kernel) ?_
  refine lC1 C (idx := 72) (As := [mi (xs (n + 1)).toInt]) (Vs := [.int (xs (n + 1))]) (by decide +kernel) mf_X6_safe (mtb_in (List.mem_of_getElem? (i := 636) (by decide +kernel)) rfl) (by decide) hv.1 (Nat.le_of_ble_eq_true rfl) (s1 l) (by simp only [List.map_cons, List.map_nil, cV, iN_x]) rfl ?_
  intro z1 k1 q1
  refine lAm C (by decide +kernel) ?_
  refine lArg C (k := 1) (by omega) hL (by decide +kernel) (by decide +kernel) (by decide +kernel) (by decide +kernel) (by decide +kernel) ?_
  refine lC2 C (idx := 75) (As := [mi (xs (n + 1)).toInt]) (Vs := [.int (xs (n + 1))]) (by decide +kernel) mf_X7_safe (mtb_in (List.mem_of_getElem? (i := 1122) (by decide +kernel)) rfl) (by decide) hv.2 (Nat.le_of_ble_eq_true rfl) (s2 l) (by simp only [List.map_cons, List.map_nil, cV, iN_x]) rfl ?_
  intro z2 k2 q2
  obtain ⟨rfl, hR⟩ := hq z1 k1 z2 k2 q1 q2
  exact lEq C (off := 282) (by decide +kernel) (by decide) (kk _ _ hR)
set_option maxRecDepth 20000 in
set_option maxHeartbeats 4000000 in
theorem law_least {p : Program} {l : Launch} {e : Env} {s : State} {m : MethodId} {below : List Frame} {meth : Method} {c : Code} {b L : Nat} {xs : Nat → Int32} {dC : Nat → ClassId} {dI : Nat → Nat → Nat} {cI cZ : ClassId} {ad1 ad2 : Nat → Nat} {h1 h2 : mH} {N n : Nat} (C : lCtx p s m meth c b L xs dC dI cI cZ) (hL : L ≤ 256) (hi : n + 3 < L) (hN : N ≤ 100) (h : RH N h1 h2) (kk : ∀ k1 k2, RH (N + 1) k1 k2 → lG p l e s m below meth c b dC dI cI cZ ad1 ad2 (nI n) 778 [] k1 k2) : lG p l e s m below meth c b dC dI cI cZ ad1 ad2 (nI n) 501 [] h1 h2 := by
  have hv := RH_mrv h
  obtain ⟨p1, p2, s1, s2, hq⟩ := cs_least h (n := (xs (n + 1)).toInt) (w := (xs (n + 2)).toInt) (iX (xs (n + 1))) (iX (xs (n + 2))) hN
  refine lAx C (by decide +kernel) ?_
  refine lArg C (k := 1) (by omega) hL (by decide +kernel) (by decide +kernel) (by decide +kernel) (by decide +kernel) (by decide +kernel) ?_
  refine lArg C (k := 2) (by omega) hL (by decide +kernel) (by decide +kernel) (by decide +kernel) (by decide +kernel) (by decide +kernel) ?_
  refine lC1 C (idx := 76) (As := [mi (xs (n + 1)).toInt, mi (xs (n + 2)).toInt]) (Vs := [.int (xs (n + 1)), .int (xs (n + 2))]) (by decide +kernel) mf_X6_least (mtb_in (List.mem_of_getElem? (i := 684) (by decide +kernel)) rfl) (by decide) hv.1 (Nat.le_of_ble_eq_true rfl) (s1 l) (by simp only [List.map_cons, List.map_nil, cV, iN_x]) rfl ?_
  intro z1 k1 q1
  refine lAm C (by decide +kernel) ?_
  refine lArg C (k := 1) (by omega) hL (by decide +kernel) (by decide +kernel) (by decide +kernel) (by decide +kernel) (by decide +kernel) ?_
  refine lArg C (k := 2) (by omega) hL (by decide +kernel) (by decide +kernel) (by decide +kernel) (by decide +kernel) (by decide +kernel) ?_
  refine lC2 C (idx := 79) (As := [mi (xs (n + 1)).toInt, mi (xs (n + 2)).toInt]) (Vs := [.int (xs (n + 1)), .int (xs (n + 2))]) (by decide +kernel) mf_X7_least (mtb_in (List.mem_of_getElem? (i := 1126) (by decide +kernel)) rfl) (by decide) hv.2 (Nat.le_of_ble_eq_true rfl) (s2 l) (by simp only [List.map_cons, List.map_nil, cV, iN_x]) rfl ?_
  intro z2 k2 q2
  obtain ⟨rfl, hR⟩ := hq z1 k1 z2 k2 q1 q2
  exact lEq C (off := 249) (by decide +kernel) (by decide) (kk _ _ hR)
set_option maxRecDepth 20000 in
set_option maxHeartbeats 4000000 in
theorem law_catches {p : Program} {l : Launch} {e : Env} {s : State} {m : MethodId} {below : List Frame} {meth : Method} {c : Code} {b L : Nat} {xs : Nat → Int32} {dC : Nat → ClassId} {dI : Nat → Nat → Nat} {cI cZ : ClassId} {ad1 ad2 : Nat → Nat} {h1 h2 : mH} {N n : Nat} (C : lCtx p s m meth c b L xs dC dI cI cZ) (hL : L ≤ 256) (hi : n + 3 < L) (hN : N ≤ 100) (h : RH N h1 h2) (kk : ∀ k1 k2, RH (N + 1) k1 k2 → lG p l e s m below meth c b dC dI cI cZ ad1 ad2 (nI n) 778 [] k1 k2) : lG p l e s m below meth c b dC dI cI cZ ad1 ad2 (nI n) 534 [] h1 h2 := by
  have hv := RH_mrv h
  obtain ⟨p1, p2, s1, s2, hq⟩ := cs_catches h (p := (xs (n + 1)).toInt) (iX (xs (n + 1))) hN
  refine lAx C (by decide +kernel) ?_
  refine lArg C (k := 1) (by omega) hL (by decide +kernel) (by decide +kernel) (by decide +kernel) (by decide +kernel) (by decide +kernel) ?_
  refine lC1 C (idx := 80) (As := [mi (xs (n + 1)).toInt]) (Vs := [.int (xs (n + 1))]) (by decide +kernel) mf_X6_catches (mtb_in (List.mem_of_getElem? (i := 693) (by decide +kernel)) rfl) (by decide) hv.1 (Nat.le_of_ble_eq_true rfl) (s1 l) (by simp only [List.map_cons, List.map_nil, cV, iN_x]) rfl ?_
  intro z1 k1 q1
  refine lAm C (by decide +kernel) ?_
  refine lArg C (k := 1) (by omega) hL (by decide +kernel) (by decide +kernel) (by decide +kernel) (by decide +kernel) (by decide +kernel) ?_
  refine lC2 C (idx := 83) (As := [mi (xs (n + 1)).toInt]) (Vs := [.int (xs (n + 1))]) (by decide +kernel) mf_X7_catches (mtb_in (List.mem_of_getElem? (i := 1130) (by decide +kernel)) rfl) (by decide) hv.2 (Nat.le_of_ble_eq_true rfl) (s2 l) (by simp only [List.map_cons, List.map_nil, cV, iN_x]) rfl ?_
  intro z2 k2 q2
  obtain ⟨rfl, hR⟩ := hq z1 k1 z2 k2 q1 q2
  exact lEq C (off := 226) (by decide +kernel) (by decide) (kk _ _ hR)
set_option maxRecDepth 20000 in
set_option maxHeartbeats 4000000 in
theorem law_hears {p : Program} {l : Launch} {e : Env} {s : State} {m : MethodId} {below : List Frame} {meth : Method} {c : Code} {b L : Nat} {xs : Nat → Int32} {dC : Nat → ClassId} {dI : Nat → Nat → Nat} {cI cZ : ClassId} {ad1 ad2 : Nat → Nat} {h1 h2 : mH} {N n : Nat} (C : lCtx p s m meth c b L xs dC dI cI cZ) (hL : L ≤ 256) (hi : n + 3 < L) (hN : N ≤ 100) (h : RH N h1 h2) (kk : ∀ k1 k2, RH (N + 1) k1 k2 → lG p l e s m below meth c b dC dI cI cZ ad1 ad2 (nI n) 778 [] k1 k2) : lG p l e s m below meth c b dC dI cI cZ ad1 ad2 (nI n) 557 [] h1 h2 := by
  have hv := RH_mrv h
  obtain ⟨p1, p2, s1, s2, hq⟩ := cs_hears h (d := (xs (n + 1)).toInt) (e := (xs (n + 2)).toInt) (w := (xs (n + 3)).toInt) (iX (xs (n + 1))) (iX (xs (n + 2))) (iX (xs (n + 3)))
  refine lAx C (by decide +kernel) ?_
  refine lArg C (k := 1) (by omega) hL (by decide +kernel) (by decide +kernel) (by decide +kernel) (by decide +kernel) (by decide +kernel) ?_
  refine lArg C (k := 2) (by omega) hL (by decide +kernel) (by decide +kernel) (by decide +kernel) (by decide +kernel) (by decide +kernel) ?_
  refine lArg C (k := 3) (by omega) hL (by decide +kernel) (by decide +kernel) (by decide +kernel) (by decide +kernel) (by decide +kernel) ?_
  refine lC1 C (idx := 84) (As := [mi (xs (n + 1)).toInt, mi (xs (n + 2)).toInt, mi (xs (n + 3)).toInt]) (Vs := [.int (xs (n + 1)), .int (xs (n + 2)), .int (xs (n + 3))]) (by decide +kernel) mf_X6_hears (mtb_in (List.mem_of_getElem? (i := 703) (by decide +kernel)) rfl) (by decide) hv.1 (Nat.le_of_ble_eq_true rfl) (s1 l) (by simp only [List.map_cons, List.map_nil, cV, iN_x]) rfl ?_
  intro z1 k1 q1
  refine lAm C (by decide +kernel) ?_
  refine lArg C (k := 1) (by omega) hL (by decide +kernel) (by decide +kernel) (by decide +kernel) (by decide +kernel) (by decide +kernel) ?_
  refine lArg C (k := 2) (by omega) hL (by decide +kernel) (by decide +kernel) (by decide +kernel) (by decide +kernel) (by decide +kernel) ?_
  refine lArg C (k := 3) (by omega) hL (by decide +kernel) (by decide +kernel) (by decide +kernel) (by decide +kernel) (by decide +kernel) ?_
  refine lC2 C (idx := 88) (As := [mi (xs (n + 1)).toInt, mi (xs (n + 2)).toInt, mi (xs (n + 3)).toInt]) (Vs := [.int (xs (n + 1)), .int (xs (n + 2)), .int (xs (n + 3))]) (by decide +kernel) mf_X7_hears (mtb_in (List.mem_of_getElem? (i := 1134) (by decide +kernel)) rfl) (by decide) hv.2 (Nat.le_of_ble_eq_true rfl) (s2 l) (by simp only [List.map_cons, List.map_nil, cV, iN_x]) rfl ?_
  intro z2 k2 q2
  obtain ⟨rfl, hR⟩ := hq z1 k1 z2 k2 q1 q2
  exact lEq C (off := 183) (by decide +kernel) (by decide) (kk _ _ hR)
