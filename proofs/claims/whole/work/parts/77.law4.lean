/-! the start, the loop, the whole -/
theorem RH_0 : RH 0 (hC (false, 0) ((fun _ => 0), 0, 0, 0, 0, 0, -1, 0, 0, 0) ((fun _ => 0), (fun _ => 0), (fun _ => 0), 0, 0, 0, 20, 2, 3) ((fun _ => 0), (fun _ => 0), (fun _ => 0), 0, 0, 0, 20, 2, 3) (mup (begM (fun _ => 0) 9) 1 20, 0, 0) ((fun _ => 0), 0, 0) ((fun _ => 0), 0, 0) (false, (fun _ => 0), (fun _ => 0), 0, 0, -9) (false, (fun _ => 0), (fun _ => 0), 0, 1, -9) (false, drpA (fun _ => 0) 14, (fun _ => 0), (fun _ => 0), 0)) (hM ((fun _ => 0), (fun _ => 0), (fun _ => 0), 0, 0, 0, 20, 2, 3) ((fun _ => 0), (fun _ => 0), (fun _ => 0), 0, 0, 0, 0, 0, 0) (mup (fun _ => 0) 1 20) (fun _ => 0) (fun _ => 0) 0 (fun _ => 0) 0 ((fun _ => 0), 0, 0, 0, 0, 0, 0, 0, 0, 0) (fun _ => 0) (fun _ => 0) (fun _ => 0) (fun _ => 0)) := by
  have hZ : TAR (((fun _ => 0), (fun _ => 0), (fun _ => 0), 0, 0, 0, 20, 2, 3) : TD) := ⟨fun i _ => (by decide : (0 : Int) ≤ 0 ∧ (0 : Int) ≤ 10), fun i _ => (by decide : ((0 : Int) ≤ 0 ∧ (0 : Int) ≤ 13) ∧ ((0 : Int) ≤ 0 ∧ (0 : Int) ≤ 1) ∧ ((-2 : Int) ≤ 0 ∧ (0 : Int) ≤ 3) ∧ (0 : Int) ≤ 0 ∧ (0 : Int) ≤ 20), fun i _ => (by decide : ((0 : Int) ≤ 0 ∧ (0 : Int) ≤ 9) ∧ (0 : Int) ≤ 0 ∧ (0 : Int) ≤ 1)⟩
  have hT : TOK (((fun _ => 0), (fun _ => 0), (fun _ => 0), 0, 0, 0, 20, 2, 3) : TD) := ⟨(by decide : (0 : Int) ≤ 0 ∧ (0 : Int) ≤ 14), (by decide : (0 : Int) ≤ 0 ∧ (0 : Int) ≤ 6), (by decide : (0 : Int) ≤ 0 ∧ (0 : Int) ≤ 4), (by decide : (0 : Int) ≤ 20 ∧ (20 : Int) ≤ 60), (by decide : (0 : Int) ≤ 2 ∧ (2 : Int) ≤ 6), (by decide : (0 : Int) ≤ 3 ∧ (3 : Int) ≤ 9), hZ⟩
  have hs : SETm (bgS ((fun _ => 0), (fun _ => 0), (fun _ => 0), 0, 0, 0, 0, 0, 0)) (mup (fun _ => 0) 1 20) := ⟨mup_s, fun a _ q => by rw [mup_n q]⟩
  refine RLN.is (N := 0) ⟨⟨hT, hT, ⟨rfl, rfl, rfl, rfl, rfl⟩, fun a ha => rfl, fun a ha => rfl, fun a ha => rfl⟩, hZ, hZ, ⟨?_, ?_, rfl, fun a ha => rfl⟩, STR_beg (sd := bgS ((fun _ => 0), (fun _ => 0), (fun _ => 0), 0, 0, 0, 0, 0, 0)) (by decide) (by decide : (0 : Int) ≤ 0) hs rfl (by decide), ⟨Or.inl rfl, rfl, fun q => absurd q (show ¬ (0 : Int) = 1 by decide)⟩, ⟨Or.inl rfl, rfl, fun q => absurd q (show ¬ (0 : Int) = 1 by decide)⟩, ⟨fun i _ => (by decide : (-100 : Int) ≤ 0 ∧ (0 : Int) ≤ 100), by decide, rfl, fun d hd => ?_⟩, rfl⟩
  · exact ⟨(by decide : (0 : Int) ≤ 0 ∧ (0 : Int) ≤ 150), (by decide : (0 : Int) ≤ 0 ∧ (0 : Int) ≤ 0), (by decide : (0 : Int) ≤ 0 ∧ (0 : Int) ≤ 150), (by decide : (0 : Int) ≤ 0 ∧ (0 : Int) ≤ 4), (by decide : (0 : Int) ≤ 0 ∧ (0 : Int) ≤ 255), (by decide : (-1 : Int) ≤ -1 ∧ (-1 : Int) ≤ 150), fun i _ => (by decide : (0 : Int) ≤ 0 ∧ (0 : Int) ≤ 255)⟩
  · exact ⟨(by decide : (0 : Int) ≤ 0 ∧ (0 : Int) ≤ 150), (by decide : (0 : Int) ≤ 0 ∧ (0 : Int) ≤ 0), (by decide : (0 : Int) ≤ 0 ∧ (0 : Int) ≤ 150), (by decide : (0 : Int) ≤ 0 ∧ (0 : Int) ≤ 4), (by decide : (0 : Int) ≤ 0 ∧ (0 : Int) ≤ 999), (by decide : (0 : Int) ≤ 0 ∧ (0 : Int) ≤ 1), fun i _ => (by decide : (0 : Int) ≤ 0 ∧ (0 : Int) ≤ 255)⟩
  · show drpA (fun _ => 0) 14 d = st19 (hAl (fun _ => 0) 0 d)
    rw [drpA_in hd, ← st_all]
    exact st19_cg (fun i hi => (hAl_0 hi).symm)
set_option maxRecDepth 20000 in
set_option maxHeartbeats 4000000 in
theorem law_sw {p : Program} {l : Launch} {e : Env} {s : State} {m : MethodId} {below : List Frame} {meth : Method} {c : Code} {b L : Nat} {xs : Nat → Int32} {dC : Nat → ClassId} {dI : Nat → Nat → Nat} {cI cZ : ClassId} {ad1 ad2 : Nat → Nat} {h1 h2 : mH} {N n : Nat} (C : lCtx p s m meth c b L xs dC dI cI cZ) (hL : L ≤ 256) (hi : n + 3 < L) (hN : N ≤ 100) (h : RH N h1 h2) (kk : ∀ k1 k2, RH (N + 1) k1 k2 → lG p l e s m below meth c b dC dI cI cZ ad1 ad2 (nI n) 778 [] k1 k2) : lG p l e s m below meth c b dC dI cI cZ ad1 ad2 (nI n) 26 [] h1 h2 := by
  obtain ⟨hx, hb, hown, hts, hK, hml, hnst, hX, hbl⟩ := id C
  intro H locs ls hP hD hS hl
  refine lv_aload_n (k := 0) (i := 0) hx hb (by decide +kernel) rfl (lv_at hl 3 rfl) ?_
  refine lv_iload_n (k := 3) (i := 3) hx hb (by decide +kernel) rfl (lv_at hl 0 rfl) ?_
  refine va_sld hx hb hX hbl (show ¬ lA s b from Nat.not_le.mpr hbl) hS (vp_in_nI (show n < L by omega) (by omega)) (by decide +kernel) ?_
  refine lv_bipush (n := 31) (v := 31) hx hb (by decide +kernel) (by decide +kernel) ?_
  refine lv_iand hx hb (by decide +kernel) ?_
  obtain ⟨j, hj, ej⟩ := pk_andE (xs (nI n).toNatClampNeg) (m := 31) 5 (by decide +kernel)
  rw [ej]
  have hdg : decode code 32 = .ok (.tableswitch 746 0 26 #[124, 147, 160, 173, 196, 229, 262, 295, 308, 341, 364, 377, 400, 413, 446, 469, 502, 525, 568, 581, 604, 617, 630, 663, 686, 709, 732], 124) := by decide +kernel
  rcases (show j = 0 ∨ j = 1 ∨ j = 2 ∨ j = 3 ∨ j = 4 ∨ j = 5 ∨ j = 6 ∨ j = 7 ∨ j = 8 ∨ j = 9 ∨ j = 10 ∨ j = 11 ∨ j = 12 ∨ j = 13 ∨ j = 14 ∨ j = 15 ∨ j = 16 ∨ j = 17 ∨ j = 18 ∨ j = 19 ∨ j = 20 ∨ j = 21 ∨ j = 22 ∨ j = 23 ∨ j = 24 ∨ j = 25 ∨ j = 26 ∨ 27 ≤ j by omega) with rfl | rfl | rfl | rfl | rfl | rfl | rfl | rfl | rfl | rfl | rfl | rfl | rfl | rfl | rfl | rfl | rfl | rfl | rfl | rfl | rfl | rfl | rfl | rfl | rfl | rfl | rfl | hj27
  · exact lv_tableIn (off := 124) (tgt := 156) hx hb hdg (by decide +kernel) (by decide +kernel) (by decide +kernel) (by decide) (law_type C hL hi hN h kk H locs ls hP hD hS hl)
  · exact lv_tableIn (off := 147) (tgt := 179) hx hb hdg (by decide +kernel) (by decide +kernel) (by decide +kernel) (by decide) (law_clear C hL hi hN h kk H locs ls hP hD hS hl)
  · exact lv_tableIn (off := 160) (tgt := 192) hx hb hdg (by decide +kernel) (by decide +kernel) (by decide +kernel) (by decide) (law_sentence C hL hi hN h kk H locs ls hP hD hS hl)
  · exact lv_tableIn (off := 173) (tgt := 205) hx hb hdg (by decide +kernel) (by decide +kernel) (by decide +kernel) (by decide) (law_sun C hL hi hN h kk H locs ls hP hD hS hl)
  · exact lv_tableIn (off := 196) (tgt := 228) hx hb hdg (by decide +kernel) (by decide +kernel) (by decide +kernel) (by decide) (law_bribe C hL hi hN h kk H locs ls hP hD hS hl)
  · exact lv_tableIn (off := 229) (tgt := 261) hx hb hdg (by decide +kernel) (by decide +kernel) (by decide +kernel) (by decide) (law_trade C hL hi hN h kk H locs ls hP hD hS hl)
  · exact lv_tableIn (off := 262) (tgt := 294) hx hb hdg (by decide +kernel) (by decide +kernel) (by decide +kernel) (by decide) (law_winds C hL hi hN h kk H locs ls hP hD hS hl)
  · exact lv_tableIn (off := 295) (tgt := 327) hx hb hdg (by decide +kernel) (by decide +kernel) (by decide +kernel) (by decide) (law_watches C hL hi hN h kk H locs ls hP hD hS hl)
  · exact lv_tableIn (off := 308) (tgt := 340) hx hb hdg (by decide +kernel) (by decide +kernel) (by decide +kernel) (by decide) (law_pays C hL hi hN h kk H locs ls hP hD hS hl)
  · exact lv_tableIn (off := 341) (tgt := 373) hx hb hdg (by decide +kernel) (by decide +kernel) (by decide +kernel) (by decide) (law_corrects C hL hi hN h kk H locs ls hP hD hS hl)
  · exact lv_tableIn (off := 364) (tgt := 396) hx hb hdg (by decide +kernel) (by decide +kernel) (by decide +kernel) (by decide) (law_undo C hL hi hN h kk H locs ls hP hD hS hl)
  · exact lv_tableIn (off := 377) (tgt := 409) hx hb hdg (by decide +kernel) (by decide +kernel) (by decide +kernel) (by decide) (law_now C hL hi hN h kk H locs ls hP hD hS hl)
  · exact lv_tableIn (off := 400) (tgt := 432) hx hb hdg (by decide +kernel) (by decide +kernel) (by decide +kernel) (by decide) (law_soonest C hL hi hN h kk H locs ls hP hD hS hl)
  · exact lv_tableIn (off := 413) (tgt := 445) hx hb hdg (by decide +kernel) (by decide +kernel) (by decide +kernel) (by decide) (law_chance C hL hi hN h kk H locs ls hP hD hS hl)
  · exact lv_tableIn (off := 446) (tgt := 478) hx hb hdg (by decide +kernel) (by decide +kernel) (by decide +kernel) (by decide) (law_safe C hL hi hN h kk H locs ls hP hD hS hl)
  · exact lv_tableIn (off := 469) (tgt := 501) hx hb hdg (by decide +kernel) (by decide +kernel) (by decide +kernel) (by decide) (law_least C hL hi hN h kk H locs ls hP hD hS hl)
  · exact lv_tableIn (off := 502) (tgt := 534) hx hb hdg (by decide +kernel) (by decide +kernel) (by decide +kernel) (by decide) (law_catches C hL hi hN h kk H locs ls hP hD hS hl)
  · exact lv_tableIn (off := 525) (tgt := 557) hx hb hdg (by decide +kernel) (by decide +kernel) (by decide +kernel) (by decide) (law_hears C hL hi hN h kk H locs ls hP hD hS hl)
  · exact lv_tableIn (off := 568) (tgt := 600) hx hb hdg (by decide +kernel) (by decide +kernel) (by decide +kernel) (by decide) (law_forget C hL hi hN h kk H locs ls hP hD hS hl)
  · exact lv_tableIn (off := 581) (tgt := 613) hx hb hdg (by decide +kernel) (by decide +kernel) (by decide +kernel) (by decide) (law_could C hL hi hN h kk H locs ls hP hD hS hl)
  · exact lv_tableIn (off := 604) (tgt := 636) hx hb hdg (by decide +kernel) (by decide +kernel) (by decide +kernel) (by decide) (law_ways C hL hi hN h kk H locs ls hP hD hS hl)
  · exact lv_tableIn (off := 617) (tgt := 649) hx hb hdg (by decide +kernel) (by decide +kernel) (by decide +kernel) (by decide) (law_ask C hL hi hN h kk H locs ls hP hD hS hl)
  · exact lv_tableIn (off := 630) (tgt := 662) hx hb hdg (by decide +kernel) (by decide +kernel) (by decide +kernel) (by decide) (law_mark C hL hi hN h kk H locs ls hP hD hS hl)
  · exact lv_tableIn (off := 663) (tgt := 695) hx hb hdg (by decide +kernel) (by decide +kernel) (by decide +kernel) (by decide) (law_keep C hL hi hN h kk H locs ls hP hD hS hl)
  · exact lv_tableIn (off := 686) (tgt := 718) hx hb hdg (by decide +kernel) (by decide +kernel) (by decide +kernel) (by decide) (law_back C hL hi hN h kk H locs ls hP hD hS hl)
  · exact lv_tableIn (off := 709) (tgt := 741) hx hb hdg (by decide +kernel) (by decide +kernel) (by decide +kernel) (by decide) (law_count C hL hi hN h kk H locs ls hP hD hS hl)
  · exact lv_tableIn (off := 732) (tgt := 764) hx hb hdg (by decide +kernel) (by decide +kernel) (by decide +kernel) (by decide) (law_trace C hL hi hN h kk H locs ls hP hD hS hl)
  · refine lv_tableOut (tgt := 778) hx hb hdg (Or.inr (by rw [nI_toInt (by omega)]; omega)) (by decide) ?_
    exact kk h1 h2 (by
      obtain ⟨k, asked, ux, ua, ub, mo, kn, kp, v1, v2, kP, pr, pl, tk, pm, pa, kO, qr, ql, un, lw, qa, kH, al, hr, lt, hd, mt, sd, ms, mg, mk, hn, mh, tr, mx, w9, t9, c9, g9, rfl, rfl, hR⟩ := h
      exact hR.up.is) H locs ls hP hD hS hl
set_option maxRecDepth 20000 in
set_option maxHeartbeats 4000000 in
theorem law_loop {p : Program} {l : Launch} {e : Env} {s : State} {m : MethodId} {below : List Frame} {meth : Method} {c : Code} {b L : Nat} {xs : Nat → Int32} {dC : Nat → ClassId} {dI : Nat → Nat → Nat} {cI cZ : ClassId} {ad1 ad2 : Nat → Nat} (C : lCtx p s m meth c b L xs dC dI cI cZ) (C0 : lw_At p s m meth c b L xs) (hL : L ≤ 256) : ∀ (f N : Nat) (h1 h2 : mH), RH N h1 h2 → 64 < f + N → N ≤ 64 → lG p l e s m below meth c b dC dI cI cZ ad1 ad2 (nI (4 * N)) 18 [] h1 h2 := by
  obtain ⟨hx, hb, hown, hts, hK, hml, hnst, hX, hbl⟩ := id C
  intro f
  induction f with
  | zero => intro N h1 h2 _ hf hN; omega
  | succ f ih =>
    intro N h1 h2 h hf hN H locs ls hP hD hS hl
    refine lv_iload_n (k := 3) (i := 3) hx hb (by decide +kernel) rfl (lv_at hl 0 rfl) ?_
    refine lv_aload_n (k := 0) (i := 0) hx hb (by decide +kernel) rfl (lv_at hl 3 rfl) ?_
    refine va_slen hx hb hX hbl (show ¬ lA s b from Nat.not_le.mpr hbl) hS (by decide +kernel) ?_
    refine lv_iconst (n := 4) (v := iN 4) hx hb (by decide +kernel) rfl ?_
    refine lv_isub hx hb (by decide +kernel) ?_
    have e1 : Int32.ofNat L - iN 4 = iN ((L : Int) - 4) := by rw [← iN_sub, iN_n]; rfl
    have e2 : nI (4 * N) = iN ((4 * N : Nat) : Int) := (iN_n _).symm
    rw [e1]
    refine lv_icmp_gt (off := 761) (tgt := 784) hx hb (by decide +kernel) (by decide) (fun hc => ?_) (fun hc => ?_)
    · refine lv_iconst (n := 1) (v := 1) hx hb (by decide +kernel) (by decide) ?_
      refine va_forget (fun q hq => hS.2.2 q hq) ?_
      exact lw_ret hx hb C0.2.2.1 C0.2.2.2.2.2.2.2.2.1 (by decide +kernel)
    · rw [e2, iN_lt ⟨by omega, by omega⟩ ⟨by omega, by omega⟩] at hc
      refine law_sw C hL (N := N) (n := 4 * N) (by omega) (by omega) h (fun k1 k2 hR => ?_) H locs ls hP hD hS hl
      intro H locs ls hP hD hS hl
      refine lv_iinc (v := nI (4 * (N + 1))) (lv' := [(3, .int (nI (4 * (N + 1)))), (2, .ref (ad2 0)), (1, .ref (ad1 0)), (0, .ref b)]) hx hb (i := 3) (n := 4) (by decide +kernel) hl (k := 0) rfl (by rw [show Int32.ofInt 4 = nI 4 from rfl, nI_add]; rfl) (by decide) rfl (fun ls hl => ?_)
      refine lv_goto (off := -763) (tgt := 18) hx hb (by decide +kernel) (by decide) ?_
      exact ih (N + 1) k1 k2 hR (by omega) (by omega) H locs ls hP hD hS hl
