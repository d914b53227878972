/-! the law's calls, 3 -/
set_option maxRecDepth 20000 in
set_option maxHeartbeats 4000000 in
theorem law_forget {p : Program} {l : Launch} {e : Env} {s : State} {m : MethodId} {below : List Frame} {meth : Method} {c : Code} {b L : Nat} {xs : Nat → Int32} {dC : Nat → ClassId} {dI : Nat → Nat → Nat} {cI cZ : ClassId} {ad1 ad2 : Nat → Nat} {h1 h2 : mH} {N n : Nat} (C : lCtx p s m meth c b L xs dC dI cI cZ) (hL : L ≤ 256) (hi : n + 3 < L) (hN : N ≤ 100) (h : RH N h1 h2) (kk : ∀ k1 k2, RH (N + 1) k1 k2 → lG p l e s m below meth c b dC dI cI cZ ad1 ad2 (nI n) 778 [] k1 k2) : lG p l e s m below meth c b dC dI cI cZ ad1 ad2 (nI n) 600 [] h1 h2 := by
  have hv := RH_mrv h
  obtain ⟨p1, p2, s1, s2, hq⟩ := cs_forget h
  refine lAx C (by decide +kernel) ?_
  refine lC1 C (idx := 89) (As := []) (Vs := []) (by decide +kernel) mf_X6_forget (mtb_in (List.mem_of_getElem? (i := 714) (by decide +kernel)) rfl) (by decide) hv.1 (Nat.le_of_ble_eq_true rfl) (s1 l) rfl rfl ?_
  intro z1 k1 q1
  refine lAm C (by decide +kernel) ?_
  refine lC2 C (idx := 92) (As := []) (Vs := []) (by decide +kernel) mf_X7_forget (mtb_in (List.mem_of_getElem? (i := 1138) (by decide +kernel)) rfl) (by decide) hv.2 (Nat.le_of_ble_eq_true rfl) (s2 l) rfl rfl ?_
  intro z2 k2 q2
  obtain ⟨rfl, hR⟩ := hq z1 k1 z2 k2 q1 q2
  exact lEq C (off := 170) (by decide +kernel) (by decide) (kk _ _ hR)
set_option maxRecDepth 20000 in
set_option maxHeartbeats 4000000 in
theorem law_could {p : Program} {l : Launch} {e : Env} {s : State} {m : MethodId} {below : List Frame} {meth : Method} {c : Code} {b L : Nat} {xs : Nat → Int32} {dC : Nat → ClassId} {dI : Nat → Nat → Nat} {cI cZ : ClassId} {ad1 ad2 : Nat → Nat} {h1 h2 : mH} {N n : Nat} (C : lCtx p s m meth c b L xs dC dI cI cZ) (hL : L ≤ 256) (hi : n + 3 < L) (hN : N ≤ 100) (h : RH N h1 h2) (kk : ∀ k1 k2, RH (N + 1) k1 k2 → lG p l e s m below meth c b dC dI cI cZ ad1 ad2 (nI n) 778 [] k1 k2) : lG p l e s m below meth c b dC dI cI cZ ad1 ad2 (nI n) 613 [] h1 h2 := by
  have hv := RH_mrv h
  obtain ⟨p1, p2, s1, s2, hq⟩ := cs_could h (d := (xs (n + 1)).toInt) (iX (xs (n + 1)))
  refine lAx C (by decide +kernel) ?_
  refine lArg C (k := 1) (by omega) hL (by decide +kernel) (by decide +kernel) (by decide +kernel) (by decide +kernel) (by decide +kernel) ?_
  refine lC1 C (idx := 93) (As := [mi (xs (n + 1)).toInt]) (Vs := [.int (xs (n + 1))]) (by decide +kernel) mf_X6_could (mtb_in (List.mem_of_getElem? (i := 718) (by decide +kernel)) rfl) (by decide) hv.1 (Nat.le_of_ble_eq_true rfl) (s1 l) (by simp only [List.map_cons, List.map_nil, cV, iN_x]) rfl ?_
  intro z1 k1 q1
  refine lAm C (by decide +kernel) ?_
  refine lArg C (k := 1) (by omega) hL (by decide +kernel) (by decide +kernel) (by decide +kernel) (by decide +kernel) (by decide +kernel) ?_
  refine lC2 C (idx := 96) (As := [mi (xs (n + 1)).toInt]) (Vs := [.int (xs (n + 1))]) (by decide +kernel) mf_X7_could (mtb_in (List.mem_of_getElem? (i := 1142) (by decide +kernel)) rfl) (by decide) hv.2 (Nat.le_of_ble_eq_true rfl) (s2 l) (by simp only [List.map_cons, List.map_nil, cV, iN_x]) rfl ?_
  intro z2 k2 q2
  obtain ⟨rfl, hR⟩ := hq z1 k1 z2 k2 q1 q2
  exact lEq C (off := 147) (by decide +kernel) (by decide) (kk _ _ hR)
set_option maxRecDepth 20000 in
set_option maxHeartbeats 4000000 in
theorem law_ways {p : Program} {l : Launch} {e : Env} {s : State} {m : MethodId} {below : List Frame} {meth : Method} {c : Code} {b L : Nat} {xs : Nat → Int32} {dC : Nat → ClassId} {dI : Nat → Nat → Nat} {cI cZ : ClassId} {ad1 ad2 : Nat → Nat} {h1 h2 : mH} {N n : Nat} (C : lCtx p s m meth c b L xs dC dI cI cZ) (hL : L ≤ 256) (hi : n + 3 < L) (hN : N ≤ 100) (h : RH N h1 h2) (kk : ∀ k1 k2, RH (N + 1) k1 k2 → lG p l e s m below meth c b dC dI cI cZ ad1 ad2 (nI n) 778 [] k1 k2) : lG p l e s m below meth c b dC dI cI cZ ad1 ad2 (nI n) 636 [] h1 h2 := by
  have hv := RH_mrv h
  obtain ⟨p1, p2, s1, s2, hq⟩ := cs_ways h
  refine lAx C (by decide +kernel) ?_
  refine lC1 C (idx := 97) (As := []) (Vs := []) (by decide +kernel) mf_X6_ways (mtb_in (List.mem_of_getElem? (i := 736) (by decide +kernel)) rfl) (by decide) hv.1 (Nat.le_of_ble_eq_true rfl) (s1 l) rfl rfl ?_
  intro z1 k1 q1
  refine lAm C (by decide +kernel) ?_
  refine lC2 C (idx := 100) (As := []) (Vs := []) (by decide +kernel) mf_X7_ways (mtb_in (List.mem_of_getElem? (i := 1167) (by decide +kernel)) rfl) (by decide) hv.2 (Nat.le_of_ble_eq_true rfl) (s2 l) rfl rfl ?_
  intro z2 k2 q2
  obtain ⟨rfl, hR⟩ := hq z1 k1 z2 k2 q1 q2
  exact lEq C (off := 134) (by decide +kernel) (by decide) (kk _ _ hR)
set_option maxRecDepth 20000 in
set_option maxHeartbeats 4000000 in
theorem law_ask {p : Program} {l : Launch} {e : Env} {s : State} {m : MethodId} {below : List Frame} {meth : Method} {c : Code} {b L : Nat} {xs : Nat → Int32} {dC : Nat → ClassId} {dI : Nat → Nat → Nat} {cI cZ : ClassId} {ad1 ad2 : Nat → Nat} {h1 h2 : mH} {N n : Nat} (C : lCtx p s m meth c b L xs dC dI cI cZ) (hL : L ≤ 256) (hi : n + 3 < L) (hN : N ≤ 100) (h : RH N h1 h2) (kk : ∀ k1 k2, RH (N + 1) k1 k2 → lG p l e s m below meth c b dC dI cI cZ ad1 ad2 (nI n) 778 [] k1 k2) : lG p l e s m below meth c b dC dI cI cZ ad1 ad2 (nI n) 649 [] h1 h2 := by
  have hv := RH_mrv h
  obtain ⟨p1, p2, s1, s2, hq⟩ := cs_ask h
  refine lAx C (by decide +kernel) ?_
  refine lC1 C (idx := 101) (As := []) (Vs := []) (by decide +kernel) mf_X6_ask (mtb_in (List.mem_of_getElem? (i := 761) (by decide +kernel)) rfl) (by decide) hv.1 (Nat.le_of_ble_eq_true rfl) (s1 l) rfl rfl ?_
  intro z1 k1 q1
  refine lAm C (by decide +kernel) ?_
  refine lC2 C (idx := 104) (As := []) (Vs := []) (by decide +kernel) mf_X7_ask (mtb_in (List.mem_of_getElem? (i := 1171) (by decide +kernel)) rfl) (by decide) hv.2 (Nat.le_of_ble_eq_true rfl) (s2 l) rfl rfl ?_
  intro z2 k2 q2
  obtain ⟨rfl, hR⟩ := hq z1 k1 z2 k2 q1 q2
  exact lEq C (off := 121) (by decide +kernel) (by decide) (kk _ _ hR)
set_option maxRecDepth 20000 in
set_option maxHeartbeats 4000000 in
theorem law_mark {p : Program} {l : Launch} {e : Env} {s : State} {m : MethodId} {below : List Frame} {meth : Method} {c : Code} {b L : Nat} {xs : Nat → Int32} {dC : Nat → ClassId} {dI : Nat → Nat → Nat} {cI cZ : ClassId} {ad1 ad2 : Nat → Nat} {h1 h2 : mH} {N n : Nat} (C : lCtx p s m meth c b L xs dC dI cI cZ) (hL : L ≤ 256) (hi : n + 3 < L) (hN : N ≤ 100) (h : RH N h1 h2) (kk : ∀ k1 k2, RH (N + 1) k1 k2 → lG p l e s m below meth c b dC dI cI cZ ad1 ad2 (nI n) 778 [] k1 k2) : lG p l e s m below meth c b dC dI cI cZ ad1 ad2 (nI n) 662 [] h1 h2 := by
  have hv := RH_mrv h
  obtain ⟨p1, p2, s1, s2, hq⟩ := cs_mark h (kd := (xs (n + 1)).toInt) (i := (xs (n + 2)).toInt) (iX (xs (n + 1))) (iX (xs (n + 2))) hN
  refine lAx C (by decide +kernel) ?_
  refine lArg C (k := 1) (by omega) hL (by decide +kernel) (by decide +kernel) (by decide +kernel) (by decide +kernel) (by decide +kernel) ?_
  refine lArg C (k := 2) (by omega) hL (by decide +kernel) (by decide +kernel) (by decide +kernel) (by decide +kernel) (by decide +kernel) ?_
  refine lC1 C (idx := 105) (As := [mi (xs (n + 1)).toInt, mi (xs (n + 2)).toInt]) (Vs := [.int (xs (n + 1)), .int (xs (n + 2))]) (by decide +kernel) mf_X6_mark (mtb_in (List.mem_of_getElem? (i := 776) (by decide +kernel)) rfl) (by decide) hv.1 (Nat.le_of_ble_eq_true rfl) (s1 l) (by simp only [List.map_cons, List.map_nil, cV, iN_x]) rfl ?_
  intro z1 k1 q1
  refine lAm C (by decide +kernel) ?_
  refine lArg C (k := 1) (by omega) hL (by decide +kernel) (by decide +kernel) (by decide +kernel) (by decide +kernel) (by decide +kernel) ?_
  refine lArg C (k := 2) (by omega) hL (by decide +kernel) (by decide +kernel) (by decide +kernel) (by decide +kernel) (by decide +kernel) ?_
  refine lC2 C (idx := 108) (As := [mi (xs (n + 1)).toInt, mi (xs (n + 2)).toInt]) (Vs := [.int (xs (n + 1)), .int (xs (n + 2))]) (by decide +kernel) mf_X7_mark (mtb_in (List.mem_of_getElem? (i := 1175) (by decide +kernel)) rfl) (by decide) hv.2 (Nat.le_of_ble_eq_true rfl) (s2 l) (by simp only [List.map_cons, List.map_nil, cV, iN_x]) rfl ?_
  intro z2 k2 q2
  obtain ⟨rfl, hR⟩ := hq z1 k1 z2 k2 q1 q2
  exact lEq C (off := 88) (by decide +kernel) (by decide) (kk _ _ hR)
set_option maxRecDepth 20000 in
set_option maxHeartbeats 4000000 in
theorem law_keep {p : Program} {l : Launch} {e : Env} {s : State} {m : MethodId} {below : List Frame} {meth : Method} {c : Code} {b L : Nat} {xs : Nat → Int32} {dC : Nat → ClassId} {dI : Nat → Nat → Nat} {cI cZ : ClassId} {ad1 ad2 : Nat → Nat} {h1 h2 : mH} {N n : Nat} (C : lCtx p s m meth c b L xs dC dI cI cZ) (hL : L ≤ 256) (hi : n + 3 < L) (hN : N ≤ 100) (h : RH N h1 h2) (kk : ∀ k1 k2, RH (N + 1) k1 k2 → lG p l e s m below meth c b dC dI cI cZ ad1 ad2 (nI n) 778 [] k1 k2) : lG p l e s m below meth c b dC dI cI cZ ad1 ad2 (nI n) 695 [] h1 h2 := by
  have hv := RH_mrv h
  obtain ⟨p1, p2, s1, s2, hq⟩ := cs_keep h (w := (xs (n + 1)).toInt) (iX (xs (n + 1))) hN
  refine lAx C (by decide +kernel) ?_
  refine lArg C (k := 1) (by omega) hL (by decide +kernel) (by decide +kernel) (by decide +kernel) (by decide +kernel) (by decide +kernel) ?_
  refine lC1 C (idx := 109) (As := [mi (xs (n + 1)).toInt]) (Vs := [.int (xs (n + 1))]) (by decide +kernel) mf_X6_keep (mtb_in (List.mem_of_getElem? (i := 809) (by decide +kernel)) rfl) (by decide) hv.1 (Nat.le_of_ble_eq_true rfl) (s1 l) (by simp only [List.map_cons, List.map_nil, cV, iN_x]) rfl ?_
  intro z1 k1 q1
  refine lAm C (by decide +kernel) ?_
  refine lArg C (k := 1) (by omega) hL (by decide +kernel) (by decide +kernel) (by decide +kernel) (by decide +kernel) (by decide +kernel) ?_
  refine lC2 C (idx := 112) (As := [mi (xs (n + 1)).toInt]) (Vs := [.int (xs (n + 1))]) (by decide +kernel) mf_X7_keep (mtb_in (List.mem_of_getElem? (i := 1184) (by decide +kernel)) rfl) (by decide) hv.2 (Nat.le_of_ble_eq_true rfl) (s2 l) (by simp only [List.map_cons, List.map_nil, cV, iN_x]) rfl ?_
  intro z2 k2 q2
  obtain ⟨rfl, hR⟩ := hq z1 k1 z2 k2 q1 q2
  exact lEq C (off := 65) (by decide +kernel) (by decide) (kk _ _ hR)
set_option maxRecDepth 20000 in
set_option maxHeartbeats 4000000 in
theorem law_back {p : Program} {l : Launch} {e : Env} {s : State} {m : MethodId} {below : List Frame} {meth : Method} {c : Code} {b L : Nat} {xs : Nat → Int32} {dC : Nat → ClassId} {dI : Nat → Nat → Nat} {cI cZ : ClassId} {ad1 ad2 : Nat → Nat} {h1 h2 : mH} {N n : Nat} (C : lCtx p s m meth c b L xs dC dI cI cZ) (hL : L ≤ 256) (hi : n + 3 < L) (hN : N ≤ 100) (h : RH N h1 h2) (kk : ∀ k1 k2, RH (N + 1) k1 k2 → lG p l e s m below meth c b dC dI cI cZ ad1 ad2 (nI n) 778 [] k1 k2) : lG p l e s m below meth c b dC dI cI cZ ad1 ad2 (nI n) 718 [] h1 h2 := by
  have hv := RH_mrv h
  obtain ⟨p1, p2, s1, s2, hq⟩ := cs_back h (w := (xs (n + 1)).toInt) (iX (xs (n + 1))) hN
  refine lAx C (by decide +kernel) ?_
  refine lArg C (k := 1) (by omega) hL (by decide +kernel) (by decide +kernel) (by decide +kernel) (by decide +kernel) (by decide +kernel) ?_
  refine lC1 C (idx := 113) (As := [mi (xs (n + 1)).toInt]) (Vs := [.int (xs (n + 1))]) (by decide +kernel) mf_X6_back (mtb_in (List.mem_of_getElem? (i := 817) (by decide +kernel)) rfl) (by decide) hv.1 (Nat.le_of_ble_eq_true rfl) (s1 l) (by simp only [List.map_cons, List.map_nil, cV, iN_x]) rfl ?_
  intro z1 k1 q1
  refine lAm C (by decide +kernel) ?_
  refine lArg C (k := 1) (by omega) hL (by decide +kernel) (by decide +kernel) (by decide +kernel) (by decide +kernel) (by decide +kernel) ?_
  refine lC2 C (idx := 116) (As := [mi (xs (n + 1)).toInt]) (Vs := [.int (xs (n + 1))]) (by decide +kernel) mf_X7_back (mtb_in (List.mem_of_getElem? (i := 1188) (by decide +kernel)) rfl) (by decide) hv.2 (Nat.le_of_ble_eq_true rfl) (s2 l) (by simp only [List.map_cons, List.map_nil, cV, iN_x]) rfl ?_
  intro z2 k2 q2
  obtain ⟨rfl, hR⟩ := hq z1 k1 z2 k2 q1 q2
  exact lEq C (off := 42) (by decide +kernel) (by decide) (kk _ _ hR)
set_option maxRecDepth 20000 in
set_option maxHeartbeats 4000000 in
theorem law_count {p : Program} {l : Launch} {e : Env} {s : State} {m : MethodId} {below : List Frame} {meth : Method} {c : Code} {b L : Nat} {xs : Nat → Int32} {dC : Nat → ClassId} {dI : Nat → Nat → Nat} {cI cZ : ClassId} {ad1 ad2 : Nat → Nat} {h1 h2 : mH} {N n : Nat} (C : lCtx p s m meth c b L xs dC dI cI cZ) (hL : L ≤ 256) (hi : n + 3 < L) (hN : N ≤ 100) (h : RH N h1 h2) (kk : ∀ k1 k2, RH (N + 1) k1 k2 → lG p l e s m below meth c b dC dI cI cZ ad1 ad2 (nI n) 778 [] k1 k2) : lG p l e s m below meth c b dC dI cI cZ ad1 ad2 (nI n) 741 [] h1 h2 := by
  have hv := RH_mrv h
  obtain ⟨p1, p2, s1, s2, hq⟩ := cs_count h (w := (xs (n + 1)).toInt) (iX (xs (n + 1))) hN
  refine lAx C (by decide +kernel) ?_
  refine lArg C (k := 1) (by omega) hL (by decide +kernel) (by decide +kernel) (by decide +kernel) (by decide +kernel) (by decide +kernel) ?_
  refine lC1 C (idx := 117) (As := [mi (xs (n + 1)).toInt]) (Vs := [.int (xs (n + 1))]) (by decide +kernel) mf_X6_count (mtb_in (List.mem_of_getElem? (i := 821) (by decide +kernel)) rfl) (by decide) hv.1 (Nat.le_of_ble_eq_true rfl) (s1 l) (by simp only [List.map_cons, List.map_nil, cV, iN_x]) rfl ?_
  intro z1 k1 q1
  refine lAm C (by decide +kernel) ?_
  refine lArg C (k := 1) (by omega) hL (by decide +kernel) (by decide +kernel) (by decide +kernel) (by decide +kernel) (by decide +kernel) ?_
  refine lC2 C (idx := 120) (As := [mi (xs (n + 1)).toInt]) (Vs := [.int (xs (n + 1))]) (by decide +kernel) mf_X7_count (mtb_in (List.mem_of_getElem? (i := 1192) (by decide +kernel)) rfl) (by decide) hv.2 (Nat.le_of_ble_eq_true rfl) (s2 l) (by simp only [List.map_cons, List.map_nil, cV, iN_x]) rfl ?_
  intro z2 k2 q2
  obtain ⟨rfl, hR⟩ := hq z1 k1 z2 k2 q1 q2
  exact lEq C (off := 19) (by decide +kernel) (by decide) (kk _ _ hR)
set_option maxRecDepth 20000 in
set_option maxHeartbeats 4000000 in
theorem law_trace {p : Program} {l : Launch} {e : Env} {s : State} {m : MethodId} {below : List Frame} {meth : Method} {c : Code} {b L : Nat} {xs : Nat → Int32} {dC : Nat → ClassId} {dI : Nat → Nat → Nat} {cI cZ : ClassId} {ad1 ad2 : Nat → Nat} {h1 h2 : mH} {N n : Nat} (C : lCtx p s m meth c b L xs dC dI cI cZ) (hL : L ≤ 256) (hi : n + 3 < L) (hN : N ≤ 100) (h : RH N h1 h2) (kk : ∀ k1 k2, RH (N + 1) k1 k2 → lG p l e s m below meth c b dC dI cI cZ ad1 ad2 (nI n) 778 [] k1 k2) : lG p l e s m below meth c b dC dI cI cZ ad1 ad2 (nI n) 764 [] h1 h2 := by
  have hv := RH_mrv h
  obtain ⟨p1, p2, s1, s2, hq⟩ := cs_trace h
  refine lAx C (by decide +kernel) ?_
  refine lCJ1 C (idx := 121) (by decide +kernel) mf_X6_trace (mtb_in (List.mem_of_getElem? (i := 825) (by decide +kernel)) rfl) (by decide) hv.1 (Nat.le_of_ble_eq_true rfl) (s1 l) ?_
  intro z1 k1 q1
  refine lAm C (by decide +kernel) ?_
  refine lCJ2 C (idx := 125) (by decide +kernel) mf_X7_trace (mtb_in (List.mem_of_getElem? (i := 1196) (by decide +kernel)) rfl) (by decide) hv.2 (Nat.le_of_ble_eq_true rfl) (s2 l) ?_
  intro z2 k2 q2
  obtain ⟨rfl, hR⟩ := hq z1 k1 z2 k2 q1 q2
  exact lEqJ C (off := 5) (by decide +kernel) (by decide +kernel) (by decide) (kk _ _ hR)
