/-! the law's calls, 1 -/
theorem iX (x : Int32) : inI x.toInt := ⟨Int32.le_toInt x, by have := Int32.toInt_lt x; omega⟩
set_option maxRecDepth 20000 in
set_option maxHeartbeats 4000000 in
theorem law_type {p : Program} {l : Launch} {e : Env} {s : State} {m : MethodId} {below : List Frame} {meth : Method} {c : Code} {b L : Nat} {xs : Nat → Int32} {dC : Nat → ClassId} {dI : Nat → Nat → Nat} {cI cZ : ClassId} {ad1 ad2 : Nat → Nat} {h1 h2 : mH} {N n : Nat} (C : lCtx p s m meth c b L xs dC dI cI cZ) (hL : L ≤ 256) (hi : n + 3 < L) (hN : N ≤ 100) (h : RH N h1 h2) (kk : ∀ k1 k2, RH (N + 1) k1 k2 → lG p l e s m below meth c b dC dI cI cZ ad1 ad2 (nI n) 778 [] k1 k2) : lG p l e s m below meth c b dC dI cI cZ ad1 ad2 (nI n) 156 [] h1 h2 := by
  have hv := RH_mrv h
  obtain ⟨p1, p2, s1, s2, hq⟩ := cs_type h (c := (xs (n + 1)).toInt) (iX (xs (n + 1)))
  refine lAx C (by decide +kernel) ?_
  refine lArg C (k := 1) (by omega) hL (by decide +kernel) (by decide +kernel) (by decide +kernel) (by decide +kernel) (by decide +kernel) ?_
  refine lC1 C (idx := 13) (As := [mi (xs (n + 1)).toInt]) (Vs := [.int (xs (n + 1))]) (by decide +kernel) mf_X6_type (mtb_in (List.mem_of_getElem? (i := 311) (by decide +kernel)) rfl) (by decide) hv.1 (Nat.le_of_ble_eq_true rfl) (s1 l) (by simp only [List.map_cons, List.map_nil, cV, iN_x]) rfl ?_
  intro z1 k1 q1
  refine lAm C (by decide +kernel) ?_
  refine lArg C (k := 1) (by omega) hL (by decide +kernel) (by decide +kernel) (by decide +kernel) (by decide +kernel) (by decide +kernel) ?_
  refine lC2 C (idx := 17) (As := [mi (xs (n + 1)).toInt]) (Vs := [.int (xs (n + 1))]) (by decide +kernel) mf_X7_type (mtb_in (List.mem_of_getElem? (i := 942) (by decide +kernel)) rfl) (by decide) hv.2 (Nat.le_of_ble_eq_true rfl) (s2 l) (by simp only [List.map_cons, List.map_nil, cV, iN_x]) rfl ?_
  intro z2 k2 q2
  obtain ⟨rfl, hR⟩ := hq z1 k1 z2 k2 q1 q2
  exact lEq C (off := 604) (by decide +kernel) (by decide) (kk _ _ hR)
set_option maxRecDepth 20000 in
set_option maxHeartbeats 4000000 in
theorem law_clear {p : Program} {l : Launch} {e : Env} {s : State} {m : MethodId} {below : List Frame} {meth : Method} {c : Code} {b L : Nat} {xs : Nat → Int32} {dC : Nat → ClassId} {dI : Nat → Nat → Nat} {cI cZ : ClassId} {ad1 ad2 : Nat → Nat} {h1 h2 : mH} {N n : Nat} (C : lCtx p s m meth c b L xs dC dI cI cZ) (hL : L ≤ 256) (hi : n + 3 < L) (hN : N ≤ 100) (h : RH N h1 h2) (kk : ∀ k1 k2, RH (N + 1) k1 k2 → lG p l e s m below meth c b dC dI cI cZ ad1 ad2 (nI n) 778 [] k1 k2) : lG p l e s m below meth c b dC dI cI cZ ad1 ad2 (nI n) 179 [] h1 h2 := by
  have hv := RH_mrv h
  obtain ⟨p1, p2, s1, s2, hq⟩ := cs_clear h
  refine lAx C (by decide +kernel) ?_
  refine lC1 C (idx := 18) (As := []) (Vs := []) (by decide +kernel) mf_X6_clear (mtb_in (List.mem_of_getElem? (i := 319) (by decide +kernel)) rfl) (by decide) hv.1 (Nat.le_of_ble_eq_true rfl) (s1 l) rfl rfl ?_
  intro z1 k1 q1
  refine lAm C (by decide +kernel) ?_
  refine lC2 C (idx := 22) (As := []) (Vs := []) (by decide +kernel) mf_X7_clear (mtb_in (List.mem_of_getElem? (i := 949) (by decide +kernel)) rfl) (by decide) hv.2 (Nat.le_of_ble_eq_true rfl) (s2 l) rfl rfl ?_
  intro z2 k2 q2
  obtain ⟨rfl, hR⟩ := hq z1 k1 z2 k2 q1 q2
  exact lEq C (off := 591) (by decide +kernel) (by decide) (kk _ _ hR)
set_option maxRecDepth 20000 in
set_option maxHeartbeats 4000000 in
theorem law_sentence {p : Program} {l : Launch} {e : Env} {s : State} {m : MethodId} {below : List Frame} {meth : Method} {c : Code} {b L : Nat} {xs : Nat → Int32} {dC : Nat → ClassId} {dI : Nat → Nat → Nat} {cI cZ : ClassId} {ad1 ad2 : Nat → Nat} {h1 h2 : mH} {N n : Nat} (C : lCtx p s m meth c b L xs dC dI cI cZ) (hL : L ≤ 256) (hi : n + 3 < L) (hN : N ≤ 100) (h : RH N h1 h2) (kk : ∀ k1 k2, RH (N + 1) k1 k2 → lG p l e s m below meth c b dC dI cI cZ ad1 ad2 (nI n) 778 [] k1 k2) : lG p l e s m below meth c b dC dI cI cZ ad1 ad2 (nI n) 192 [] h1 h2 := by
  have hv := RH_mrv h
  obtain ⟨p1, p2, s1, s2, hq⟩ := cs_sentence h
  refine lAx C (by decide +kernel) ?_
  refine lC1 C (idx := 23) (As := []) (Vs := []) (by decide +kernel) mf_X6_sentence (mtb_in (List.mem_of_getElem? (i := 323) (by decide +kernel)) rfl) (by decide) hv.1 (Nat.le_of_ble_eq_true rfl) (s1 l) rfl rfl ?_
  intro z1 k1 q1
  refine lAm C (by decide +kernel) ?_
  refine lC2 C (idx := 26) (As := []) (Vs := []) (by decide +kernel) mf_X7_sentence (mtb_in (List.mem_of_getElem? (i := 953) (by decide +kernel)) rfl) (by decide) hv.2 (Nat.le_of_ble_eq_true rfl) (s2 l) rfl rfl ?_
  intro z2 k2 q2
  obtain ⟨rfl, hR⟩ := hq z1 k1 z2 k2 q1 q2
  exact lEq C (off := 578) (by decide +kernel) (by decide) (kk _ _ hR)
set_option maxRecDepth 20000 in
set_option maxHeartbeats 4000000 in
theorem law_sun {p : Program} {l : Launch} {e : Env} {s : State} {m : MethodId} {below : List Frame} {meth : Method} {c : Code} {b L : Nat} {xs : Nat → Int32} {dC : Nat → ClassId} {dI : Nat → Nat → Nat} {cI cZ : ClassId} {ad1 ad2 : Nat → Nat} {h1 h2 : mH} {N n : Nat} (C : lCtx p s m meth c b L xs dC dI cI cZ) (hL : L ≤ 256) (hi : n + 3 < L) (hN : N ≤ 100) (h : RH N h1 h2) (kk : ∀ k1 k2, RH (N + 1) k1 k2 → lG p l e s m below meth c b dC dI cI cZ ad1 ad2 (nI n) 778 [] k1 k2) : lG p l e s m below meth c b dC dI cI cZ ad1 ad2 (nI n) 205 [] h1 h2 := by
  have hv := RH_mrv h
  obtain ⟨p1, p2, s1, s2, hq⟩ := cs_sun h (d := (xs (n + 1)).toInt) (iX (xs (n + 1))) hN
  refine lAx C (by decide +kernel) ?_
  refine lArg C (k := 1) (by omega) hL (by decide +kernel) (by decide +kernel) (by decide +kernel) (by decide +kernel) (by decide +kernel) ?_
  refine lC1 C (idx := 27) (As := [mi (xs (n + 1)).toInt]) (Vs := [.int (xs (n + 1))]) (by decide +kernel) mf_X6_sun (mtb_in (List.mem_of_getElem? (i := 410) (by decide +kernel)) rfl) (by decide) hv.1 (Nat.le_of_ble_eq_true rfl) (s1 l) (by simp only [List.map_cons, List.map_nil, cV, iN_x]) rfl ?_
  intro z1 k1 q1
  refine lAm C (by decide +kernel) ?_
  refine lArg C (k := 1) (by omega) hL (by decide +kernel) (by decide +kernel) (by decide +kernel) (by decide +kernel) (by decide +kernel) ?_
  refine lC2 C (idx := 30) (As := [mi (xs (n + 1)).toInt]) (Vs := [.int (xs (n + 1))]) (by decide +kernel) mf_X7_sun (mtb_in (List.mem_of_getElem? (i := 995) (by decide +kernel)) rfl) (by decide) hv.2 (Nat.le_of_ble_eq_true rfl) (s2 l) (by simp only [List.map_cons, List.map_nil, cV, iN_x]) rfl ?_
  intro z2 k2 q2
  obtain ⟨rfl, hR⟩ := hq z1 k1 z2 k2 q1 q2
  exact lEq C (off := 555) (by decide +kernel) (by decide) (kk _ _ hR)
set_option maxRecDepth 20000 in
set_option maxHeartbeats 4000000 in
theorem law_bribe {p : Program} {l : Launch} {e : Env} {s : State} {m : MethodId} {below : List Frame} {meth : Method} {c : Code} {b L : Nat} {xs : Nat → Int32} {dC : Nat → ClassId} {dI : Nat → Nat → Nat} {cI cZ : ClassId} {ad1 ad2 : Nat → Nat} {h1 h2 : mH} {N n : Nat} (C : lCtx p s m meth c b L xs dC dI cI cZ) (hL : L ≤ 256) (hi : n + 3 < L) (hN : N ≤ 100) (h : RH N h1 h2) (kk : ∀ k1 k2, RH (N + 1) k1 k2 → lG p l e s m below meth c b dC dI cI cZ ad1 ad2 (nI n) 778 [] k1 k2) : lG p l e s m below meth c b dC dI cI cZ ad1 ad2 (nI n) 228 [] h1 h2 := by
  have hv := RH_mrv h
  obtain ⟨p1, p2, s1, s2, hq⟩ := cs_bribe h (b := (xs (n + 1)).toInt) (w := (xs (n + 2)).toInt) (iX (xs (n + 1))) (iX (xs (n + 2))) hN
  refine lAx C (by decide +kernel) ?_
  refine lArg C (k := 1) (by omega) hL (by decide +kernel) (by decide +kernel) (by decide +kernel) (by decide +kernel) (by decide +kernel) ?_
  refine lArg C (k := 2) (by omega) hL (by decide +kernel) (by decide +kernel) (by decide +kernel) (by decide +kernel) (by decide +kernel) ?_
  refine lC1 C (idx := 31) (As := [mi (xs (n + 1)).toInt, mi (xs (n + 2)).toInt]) (Vs := [.int (xs (n + 1)), .int (xs (n + 2))]) (by decide +kernel) mf_X6_bribe (mtb_in (List.mem_of_getElem? (i := 418) (by decide +kernel)) rfl) (by decide) hv.1 (Nat.le_of_ble_eq_true rfl) (s1 l) (by simp only [List.map_cons, List.map_nil, cV, iN_x]) rfl ?_
  intro z1 k1 q1
  refine lAm C (by decide +kernel) ?_
  refine lArg C (k := 1) (by omega) hL (by decide +kernel) (by decide +kernel) (by decide +kernel) (by decide +kernel) (by decide +kernel) ?_
  refine lArg C (k := 2) (by omega) hL (by decide +kernel) (by decide +kernel) (by decide +kernel) (by decide +kernel) (by decide +kernel) ?_
  refine lC2 C (idx := 35) (As := [mi (xs (n + 1)).toInt, mi (xs (n + 2)).toInt]) (Vs := [.int (xs (n + 1)), .int (xs (n + 2))]) (by decide +kernel) mf_X7_bribe (mtb_in (List.mem_of_getElem? (i := 999) (by decide +kernel)) rfl) (by decide) hv.2 (Nat.le_of_ble_eq_true rfl) (s2 l) (by simp only [List.map_cons, List.map_nil, cV, iN_x]) rfl ?_
  intro z2 k2 q2
  obtain ⟨rfl, hR⟩ := hq z1 k1 z2 k2 q1 q2
  exact lEq C (off := 522) (by decide +kernel) (by decide) (kk _ _ hR)
set_option maxRecDepth 20000 in
set_option maxHeartbeats 4000000 in
theorem law_trade {p : Program} {l : Launch} {e : Env} {s : State} {m : MethodId} {below : List Frame} {meth : Method} {c : Code} {b L : Nat} {xs : Nat → Int32} {dC : Nat → ClassId} {dI : Nat → Nat → Nat} {cI cZ : ClassId} {ad1 ad2 : Nat → Nat} {h1 h2 : mH} {N n : Nat} (C : lCtx p s m meth c b L xs dC dI cI cZ) (hL : L ≤ 256) (hi : n + 3 < L) (hN : N ≤ 100) (h : RH N h1 h2) (kk : ∀ k1 k2, RH (N + 1) k1 k2 → lG p l e s m below meth c b dC dI cI cZ ad1 ad2 (nI n) 778 [] k1 k2) : lG p l e s m below meth c b dC dI cI cZ ad1 ad2 (nI n) 261 [] h1 h2 := by
  have hv := RH_mrv h
  obtain ⟨p1, p2, s1, s2, hq⟩ := cs_trade h (i := (xs (n + 1)).toInt) (w := (xs (n + 2)).toInt) (iX (xs (n + 1))) (iX (xs (n + 2))) hN
  refine lAx C (by decide +kernel) ?_
  refine lArg C (k := 1) (by omega) hL (by decide +kernel) (by decide +kernel) (by decide +kernel) (by decide +kernel) (by decide +kernel) ?_
  refine lArg C (k := 2) (by omega) hL (by decide +kernel) (by decide +kernel) (by decide +kernel) (by decide +kernel) (by decide +kernel) ?_
  refine lC1 C (idx := 36) (As := [mi (xs (n + 1)).toInt, mi (xs (n + 2)).toInt]) (Vs := [.int (xs (n + 1)), .int (xs (n + 2))]) (by decide +kernel) mf_X6_trade (mtb_in (List.mem_of_getElem? (i := 428) (by decide +kernel)) rfl) (by decide) hv.1 (Nat.le_of_ble_eq_true rfl) (s1 l) (by simp only [List.map_cons, List.map_nil, cV, iN_x]) rfl ?_
  intro z1 k1 q1
  refine lAm C (by decide +kernel) ?_
  refine lArg C (k := 1) (by omega) hL (by decide +kernel) (by decide +kernel) (by decide +kernel) (by decide +kernel) (by decide +kernel) ?_
  refine lArg C (k := 2) (by omega) hL (by decide +kernel) (by decide +kernel) (by decide +kernel) (by decide +kernel) (by decide +kernel) ?_
  refine lC2 C (idx := 39) (As := [mi (xs (n + 1)).toInt, mi (xs (n + 2)).toInt]) (Vs := [.int (xs (n + 1)), .int (xs (n + 2))]) (by decide +kernel) mf_X7_trade (mtb_in (List.mem_of_getElem? (i := 1004) (by decide +kernel)) rfl) (by decide) hv.2 (Nat.le_of_ble_eq_true rfl) (s2 l) (by simp only [List.map_cons, List.map_nil, cV, iN_x]) rfl ?_
  intro z2 k2 q2
  obtain ⟨rfl, hR⟩ := hq z1 k1 z2 k2 q1 q2
  exact lEq C (off := 489) (by decide +kernel) (by decide) (kk _ _ hR)
set_option maxRecDepth 20000 in
set_option maxHeartbeats 4000000 in
theorem law_winds {p : Program} {l : Launch} {e : Env} {s : State} {m : MethodId} {below : List Frame} {meth : Method} {c : Code} {b L : Nat} {xs : Nat → Int32} {dC : Nat → ClassId} {dI : Nat → Nat → Nat} {cI cZ : ClassId} {ad1 ad2 : Nat → Nat} {h1 h2 : mH} {N n : Nat} (C : lCtx p s m meth c b L xs dC dI cI cZ) (hL : L ≤ 256) (hi : n + 3 < L) (hN : N ≤ 100) (h : RH N h1 h2) (kk : ∀ k1 k2, RH (N + 1) k1 k2 → lG p l e s m below meth c b dC dI cI cZ ad1 ad2 (nI n) 778 [] k1 k2) : lG p l e s m below meth c b dC dI cI cZ ad1 ad2 (nI n) 294 [] h1 h2 := by
  have hv := RH_mrv h
  obtain ⟨p1, p2, s1, s2, hq⟩ := cs_winds h (p := (xs (n + 1)).toInt) (z := (xs (n + 2)).toInt) (iX (xs (n + 1))) (iX (xs (n + 2))) hN
  refine lAx C (by decide +kernel) ?_
  refine lArg C (k := 1) (by omega) hL (by decide +kernel) (by decide +kernel) (by decide +kernel) (by decide +kernel) (by decide +kernel) ?_
  refine lArg C (k := 2) (by omega) hL (by decide +kernel) (by decide +kernel) (by decide +kernel) (by decide +kernel) (by decide +kernel) ?_
  refine lC1 C (idx := 40) (As := [mi (xs (n + 1)).toInt, mi (xs (n + 2)).toInt]) (Vs := [.int (xs (n + 1)), .int (xs (n + 2))]) (by decide +kernel) mf_X6_winds (mtb_in (List.mem_of_getElem? (i := 444) (by decide +kernel)) rfl) (by decide) hv.1 (Nat.le_of_ble_eq_true rfl) (s1 l) (by simp only [List.map_cons, List.map_nil, cV, iN_x]) rfl ?_
  intro z1 k1 q1
  refine lAm C (by decide +kernel) ?_
  refine lArg C (k := 1) (by omega) hL (by decide +kernel) (by decide +kernel) (by decide +kernel) (by decide +kernel) (by decide +kernel) ?_
  refine lArg C (k := 2) (by omega) hL (by decide +kernel) (by decide +kernel) (by decide +kernel) (by decide +kernel) (by decide +kernel) ?_
  refine lC2 C (idx := 43) (As := [mi (xs (n + 1)).toInt, mi (xs (n + 2)).toInt]) (Vs := [.int (xs (n + 1)), .int (xs (n + 2))]) (by decide +kernel) mf_X7_winds (mtb_in (List.mem_of_getElem? (i := 1012) (by decide +kernel)) rfl) (by decide) hv.2 (Nat.le_of_ble_eq_true rfl) (s2 l) (by simp only [List.map_cons, List.map_nil, cV, iN_x]) rfl ?_
  intro z2 k2 q2
  obtain ⟨rfl, hR⟩ := hq z1 k1 z2 k2 q1 q2
  exact lEq C (off := 456) (by decide +kernel) (by decide) (kk _ _ hR)
set_option maxRecDepth 20000 in
set_option maxHeartbeats 4000000 in
theorem law_watches {p : Program} {l : Launch} {e : Env} {s : State} {m : MethodId} {below : List Frame} {meth : Method} {c : Code} {b L : Nat} {xs : Nat → Int32} {dC : Nat → ClassId} {dI : Nat → Nat → Nat} {cI cZ : ClassId} {ad1 ad2 : Nat → Nat} {h1 h2 : mH} {N n : Nat} (C : lCtx p s m meth c b L xs dC dI cI cZ) (hL : L ≤ 256) (hi : n + 3 < L) (hN : N ≤ 100) (h : RH N h1 h2) (kk : ∀ k1 k2, RH (N + 1) k1 k2 → lG p l e s m below meth c b dC dI cI cZ ad1 ad2 (nI n) 778 [] k1 k2) : lG p l e s m below meth c b dC dI cI cZ ad1 ad2 (nI n) 327 [] h1 h2 := by
  have hv := RH_mrv h
  obtain ⟨p1, p2, s1, s2, hq⟩ := cs_watches h   hN
  refine lAx C (by decide +kernel) ?_
  refine lC1 C (idx := 44) (As := []) (Vs := []) (by decide +kernel) mf_X6_watches (mtb_in (List.mem_of_getElem? (i := 529) (by decide +kernel)) rfl) (by decide) hv.1 (Nat.le_of_ble_eq_true rfl) (s1 l) rfl rfl ?_
  intro z1 k1 q1
  refine lAm C (by decide +kernel) ?_
  refine lC2 C (idx := 47) (As := []) (Vs := []) (by decide +kernel) mf_X7_watches (mtb_in (List.mem_of_getElem? (i := 1061) (by decide +kernel)) rfl) (by decide) hv.2 (Nat.le_of_ble_eq_true rfl) (s2 l) rfl rfl ?_
  intro z2 k2 q2
  obtain ⟨rfl, hR⟩ := hq z1 k1 z2 k2 q1 q2
  exact lEq C (off := 443) (by decide +kernel) (by decide) (kk _ _ hR)
set_option maxRecDepth 20000 in
set_option maxHeartbeats 4000000 in
theorem law_pays {p : Program} {l : Launch} {e : Env} {s : State} {m : MethodId} {below : List Frame} {meth : Method} {c : Code} {b L : Nat} {xs : Nat → Int32} {dC : Nat → ClassId} {dI : Nat → Nat → Nat} {cI cZ : ClassId} {ad1 ad2 : Nat → Nat} {h1 h2 : mH} {N n : Nat} (C : lCtx p s m meth c b L xs dC dI cI cZ) (hL : L ≤ 256) (hi : n + 3 < L) (hN : N ≤ 100) (h : RH N h1 h2) (kk : ∀ k1 k2, RH (N + 1) k1 k2 → lG p l e s m below meth c b dC dI cI cZ ad1 ad2 (nI n) 778 [] k1 k2) : lG p l e s m below meth c b dC dI cI cZ ad1 ad2 (nI n) 340 [] h1 h2 := by
  have hv := RH_mrv h
  obtain ⟨p1, p2, s1, s2, hq⟩ := cs_pays h (i := (xs (n + 1)).toInt) (v := (xs (n + 2)).toInt) (iX (xs (n + 1))) (iX (xs (n + 2))) hN
  refine lAx C (by decide +kernel) ?_
  refine lArg C (k := 1) (by omega) hL (by decide +kernel) (by decide +kernel) (by decide +kernel) (by decide +kernel) (by decide +kernel) ?_
  refine lArg C (k := 2) (by omega) hL (by decide +kernel) (by decide +kernel) (by decide +kernel) (by decide +kernel) (by decide +kernel) ?_
  refine lC1 C (idx := 48) (As := [mi (xs (n + 1)).toInt, mi (xs (n + 2)).toInt]) (Vs := [.int (xs (n + 1)), .int (xs (n + 2))]) (by decide +kernel) mf_X6_pays (mtb_in (List.mem_of_getElem? (i := 537) (by decide +kernel)) rfl) (by decide) hv.1 (Nat.le_of_ble_eq_true rfl) (s1 l) (by simp only [List.map_cons, List.map_nil, cV, iN_x]) rfl ?_
  intro z1 k1 q1
  refine lAm C (by decide +kernel) ?_
  refine lArg C (k := 1) (by omega) hL (by decide +kernel) (by decide +kernel) (by decide +kernel) (by decide +kernel) (by decide +kernel) ?_
  refine lArg C (k := 2) (by omega) hL (by decide +kernel) (by decide +kernel) (by decide +kernel) (by decide +kernel) (by decide +kernel) ?_
  refine lC2 C (idx := 51) (As := [mi (xs (n + 1)).toInt, mi (xs (n + 2)).toInt]) (Vs := [.int (xs (n + 1)), .int (xs (n + 2))]) (by decide +kernel) mf_X7_pays (mtb_in (List.mem_of_getElem? (i := 1065) (by decide +kernel)) rfl) (by decide) hv.2 (Nat.le_of_ble_eq_true rfl) (s2 l) (by simp only [List.map_cons, List.map_nil, cV, iN_x]) rfl ?_
  intro z2 k2 q2
  obtain ⟨rfl, hR⟩ := hq z1 k1 z2 k2 q1 q2
  exact lEq C (off := 410) (by decide +kernel) (by decide) (kk _ _ hR)
