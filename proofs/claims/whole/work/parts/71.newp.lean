/-! the constructors of the class's parts -/
abbrev nul : mV := .inr (.inr none)
theorem obj_i : Cond.instanceMethod Lib.objectInit ∈ mtb := (mtb_in (List.mem_of_getElem? (i := 86) (by decide +kernel)) rfl)
theorem obj_c : Cond.code Lib.objectInit ⟨#[0xb1]⟩ 1 none ∈ mtb := (mtb_in (List.mem_of_getElem? (i := 87) (by decide +kernel)) rfl)
theorem arr_i : Cond.arrayClass .int ∈ mtb := (mtb_in (List.mem_of_getElem? (i := 126) (by decide +kernel)) rfl)
theorem arr_z : Cond.arrayClass .boolean ∈ mtb := (mtb_in (List.mem_of_getElem? (i := 941) (by decide +kernel)) rfl)
theorem cf_X0 : cfA yX0_init cX0_init := ⟨ini_X0, (mtb_in (List.mem_of_getElem? (i := 255) (by decide +kernel)) rfl), by decide +kernel, rfl, (mtb_in (List.mem_of_getElem? (i := 254) (by decide +kernel)) rfl)⟩
theorem cf_X1 : cfA yX1_init cX1_init := ⟨ini_X1, (mtb_in (List.mem_of_getElem? (i := 230) (by decide +kernel)) rfl), by decide +kernel, rfl, (mtb_in (List.mem_of_getElem? (i := 229) (by decide +kernel)) rfl)⟩
theorem cf_X2 : cfA yX2_init cX2_init := ⟨ini_X2, (mtb_in (List.mem_of_getElem? (i := 206) (by decide +kernel)) rfl), by decide +kernel, rfl, (mtb_in (List.mem_of_getElem? (i := 205) (by decide +kernel)) rfl)⟩
theorem cf_X3 : cfA yX3_init cX3_init := ⟨ini_X3, (mtb_in (List.mem_of_getElem? (i := 188) (by decide +kernel)) rfl), by decide +kernel, rfl, (mtb_in (List.mem_of_getElem? (i := 187) (by decide +kernel)) rfl)⟩
theorem cf_X4 : cfA yX4_init cX4_init := ⟨ini_X4, (mtb_in (List.mem_of_getElem? (i := 92) (by decide +kernel)) rfl), by decide +kernel, rfl, (mtb_in (List.mem_of_getElem? (i := 91) (by decide +kernel)) rfl)⟩
theorem cf_X5 : cfA yX5_init cX5_init := ⟨ini_X5, (mtb_in (List.mem_of_getElem? (i := 131) (by decide +kernel)) rfl), by decide +kernel, rfl, (mtb_in (List.mem_of_getElem? (i := 130) (by decide +kernel)) rfl)⟩
theorem cf_X6 : cfA yX6_init cX6_init := ⟨ini_X6, (mtb_in (List.mem_of_getElem? (i := 84) (by decide +kernel)) rfl), by decide +kernel, rfl, (mtb_in (List.mem_of_getElem? (i := 83) (by decide +kernel)) rfl)⟩
theorem cf_X7 : cfA yX7_init cX7_init := ⟨ini_X7, (mtb_in (List.mem_of_getElem? (i := 833) (by decide +kernel)) rfl), by decide +kernel, rfl, (mtb_in (List.mem_of_getElem? (i := 832) (by decide +kernel)) rfl)⟩
set_option maxRecDepth 20000 in
set_option maxHeartbeats 2000000 in
theorem sn_wipe {l : Launch}  : SpV l 1 yX5_wipe cX5_wipe 1 none [mr 0] ([.inl (5, [mr 1, mr 2, mr 3, mi 0, mi 0, mi 0, mi 0, mi 0, mi 0]), .inr (false, 14, fun _ => 0), .inr (false, 24, fun _ => 0), .inr (false, 8, fun _ => 0)]) (fun h => h = [.inl (5, [mr 1, mr 2, mr 3, mi 0, mi 0, mi 0, mi 20, mi 2, mi 3]), .inr (false, 14, fun _ => 0), .inr (false, 24, fun _ => 0), .inr (false, 8, fun _ => 0)]) := by
  refine SpV.of (cd := kdX5_wipe) (fT := mlook flX5) (kT := mlook klX5) (kJ := mlook jlX5) mfA_X5_wipe ok_X5_wipe fT_X5 kT_X5 jT_X5 jdk_ok True.intro (Nat.le_of_ble_eq_true rfl) (fun G hG => ?_)
  refine rRun hG 99999 ?_
  refine And.intro ⟨rfl, by exact Nat.le_of_ble_eq_true rfl, by first | exact True.intro | exact Or.inl rfl | exact Or.inr rfl⟩ (And.intro ⟨rfl, by exact Nat.le_of_ble_eq_true rfl, by first | exact True.intro | exact Or.inl rfl | exact Or.inr rfl⟩ (And.intro ⟨rfl, by exact Nat.le_of_ble_eq_true rfl, by first | exact True.intro | exact Or.inl rfl | exact Or.inr rfl⟩ (And.intro ⟨rfl, by exact Nat.le_of_ble_eq_true rfl, by first | exact True.intro | exact Or.inl rfl | exact Or.inr rfl⟩ (And.intro ⟨rfl, by exact Nat.le_of_ble_eq_true rfl, by first | exact True.intro | exact Or.inl rfl | exact Or.inr rfl⟩ (And.intro ⟨rfl, by exact Nat.le_of_ble_eq_true rfl, by first | exact True.intro | exact Or.inl rfl | exact Or.inr rfl⟩ (?_))))))
  refine rVR hG rfl rfl rfl ?_
  rfl
set_option maxRecDepth 20000 in
set_option maxHeartbeats 2000000 in
theorem sn_drop {l : Launch}  : SpV l 1 yX0_drop cX0_drop 2 none [mr 0] ([.inl (0, [mr 1, mr 2, mr 3, mi 0]), .inr (false, 14, fun _ => 0), .inr (false, 19, fun _ => 0), .inr (false, 19, fun _ => 0)]) (fun h => h = [.inl (0, [mr 1, mr 2, mr 3, mi 0]), .inr (false, 14, drpA (fun _ => 0) 14), .inr (false, 19, fun _ => 0), .inr (false, 19, fun _ => 0)]) := by
  refine SpV.of (cd := kdX0_drop) (fT := mlook flX0) (kT := mlook klX0) (kJ := mlook jlX0) mfA_X0_drop ok_X0_drop fT_X0 kT_X0 jT_X0 jdk_ok True.intro (Nat.le_of_ble_eq_true rfl) (fun G hG => ?_)
  refine rRun hG 7 ?_
  refine And.intro ⟨rfl, by exact Nat.le_of_ble_eq_true rfl, by first | exact True.intro | exact Or.inl rfl | exact Or.inr rfl⟩ (?_)
  have J7 : ∀ (n : Nat) (i : Nat), i ≤ 14 → 14 - i < n → G 7 [some (mr 0), some (mi (i : Int))] [] ([.inl (0, [mr 1, mr 2, mr 3, mi 0]), .inr (false, 14, drpA (fun _ => 0) i), .inr (false, 19, fun _ => 0), .inr (false, 19, fun _ => 0)]) := by
    intro n
    induction n with
    | zero => intro i _ hm; exact absurd hm (Nat.not_lt_zero _)
    | succ n ih =>
      intro i hinv hm
      refine rRun hG 99999 ?_
      refine And.intro rfl (And.intro (by decide) (And.intro (by first | omega | (dsimp only [Int.reduceToNat]; omega)) (And.intro (fun c1 => ?_) (fun c1 => ?_))))
      · try dsimp only [Int.reduceToNat] at c1
        refine rVR hG rfl rfl rfl ?_
        obtain rfl : i = 14 := by omega
        rfl
      · try dsimp only [Int.reduceToNat] at c1
        refine And.intro rfl (And.intro (by first | omega | (dsimp only [Int.reduceToNat]; omega)) (?_))
        exact ih (i + 1) (by omega) (by omega)
  exact J7 _ 0 (by omega) (Nat.lt_succ_self _)
set_option maxRecDepth 20000 in
set_option maxHeartbeats 4000000 in
theorem mk_X0 {l : Launch} : SpN l (fun _ => True) 2 3 52 yX0_init cX0_init (.inl (0, [nul, nul, nul, mi 0])) ([.inl (0, [mr 1, mr 2, mr 3, mi 0]), .inr (false, 14, drpA (fun _ => 0) 14), .inr (false, 19, fun _ => 0), .inr (false, 19, fun _ => 0)]) := by
  refine SpN.of (by decide +kernel) rfl (fun dC dI cI cZ ad A p e s m args below meth c Q a0 C hE hinit hA hret => ?_)
  refine kAload C (by decide +kernel) ?_
  refine kObj C (idx := 3) (mtb_in (List.mem_of_getElem? (i := 256) (by decide +kernel)) rfl) obj_i obj_c ⟨Nat.le_of_ble_eq_true rfl, Nat.le_of_ble_eq_true rfl⟩ (by decide +kernel) (Nat.le_of_ble_eq_true rfl) ?_
  refine kAload C (by decide +kernel) ?_
  refine kBi C (z := 14) (by decide +kernel) (by decide +kernel) ?_
  refine kArr C hA (N := 14) rfl rfl (by decide) arr_i (by decide) ⟨Nat.le_of_ble_eq_true rfl, Nat.le_of_ble_eq_true rfl⟩ (by decide +kernel) (fun q7 => ?_)
  show kG p l e (rmN 2 3 52) s m args below meth c Q dC dI cI cZ A s.heap a0 1 14 9 [mr 1, mr 0] _ ([.inl (0, [nul, nul, nul, mi 0]), .inr (false, 14, fun _ => 0)])
  refine kPutF C (idx := 9) (ty := (.array .int)) (rfl : mcl[0]? = some (RX0, TX0, 4)) uw_X0 tyX0 tyX0_ok nmX0 rfl (j := 0) (by decide) (mtb_in (List.mem_of_getElem? (i := 262) (by decide +kernel)) rfl) rfl hinit rfl (by decide +kernel) (fun _ => rfl) (fun _ => rfl) (Nat.le_of_ble_eq_true rfl) (by decide +kernel) ?_
  show kG p l e (rmN 2 3 52) s m args below meth c Q dC dI cI cZ A s.heap a0 1 14 12 [] _ ([.inl (0, [mr 1, nul, nul, mi 0]), .inr (false, 14, fun _ => 0)])
  refine kAload C (by decide +kernel) ?_
  refine kBi C (z := 19) (by decide +kernel) (by decide +kernel) ?_
  refine kArr C hA (N := 19) rfl rfl (by decide) arr_i (by decide) ⟨Nat.le_of_ble_eq_true rfl, Nat.le_of_ble_eq_true rfl⟩ (by decide +kernel) (fun q15 => ?_)
  show kG p l e (rmN 2 3 52) s m args below meth c Q dC dI cI cZ A s.heap a0 2 33 17 [mr 2, mr 0] _ ([.inl (0, [mr 1, nul, nul, mi 0]), .inr (false, 14, fun _ => 0), .inr (false, 19, fun _ => 0)])
  refine kPut C (idx := 15) (ty := (.array .int)) (rfl : mcl[0]? = some (RX0, TX0, 4)) uw_X0 tyX0 tyX0_ok nmX0 rfl (j := 1) (by decide) (mtb_in (List.mem_of_getElem? (i := 263) (by decide +kernel)) rfl) rfl (by decide +kernel) (fun _ => rfl) (fun _ => rfl) (Nat.le_of_ble_eq_true rfl) (by decide +kernel) ?_
  show kG p l e (rmN 2 3 52) s m args below meth c Q dC dI cI cZ A s.heap a0 2 33 20 [] _ ([.inl (0, [mr 1, mr 2, nul, mi 0]), .inr (false, 14, fun _ => 0), .inr (false, 19, fun _ => 0)])
  refine kAload C (by decide +kernel) ?_
  refine kBi C (z := 19) (by decide +kernel) (by decide +kernel) ?_
  refine kArr C hA (N := 19) rfl rfl (by decide) arr_i (by decide) ⟨Nat.le_of_ble_eq_true rfl, Nat.le_of_ble_eq_true rfl⟩ (by decide +kernel) (fun q23 => ?_)
  show kG p l e (rmN 2 3 52) s m args below meth c Q dC dI cI cZ A s.heap a0 3 52 25 [mr 3, mr 0] _ ([.inl (0, [mr 1, mr 2, nul, mi 0]), .inr (false, 14, fun _ => 0), .inr (false, 19, fun _ => 0), .inr (false, 19, fun _ => 0)])
  refine kPut C (idx := 18) (ty := (.array .int)) (rfl : mcl[0]? = some (RX0, TX0, 4)) uw_X0 tyX0 tyX0_ok nmX0 rfl (j := 2) (by decide) (mtb_in (List.mem_of_getElem? (i := 264) (by decide +kernel)) rfl) rfl (by decide +kernel) (fun _ => rfl) (fun _ => rfl) (Nat.le_of_ble_eq_true rfl) (by decide +kernel) ?_
  show kG p l e (rmN 2 3 52) s m args below meth c Q dC dI cI cZ A s.heap a0 3 52 28 [] _ ([.inl (0, [mr 1, mr 2, mr 3, mi 0]), .inr (false, 14, fun _ => 0), .inr (false, 19, fun _ => 0), .inr (false, 19, fun _ => 0)])
  refine kAload C (by decide +kernel) ?_
  refine kIc C (z := 0) (by decide +kernel) ?_
  refine kPut C (idx := 21) (ty := .int) (rfl : mcl[0]? = some (RX0, TX0, 4)) uw_X0 tyX0 tyX0_ok nmX0 rfl (j := 3) (by decide) (mtb_in (List.mem_of_getElem? (i := 265) (by decide +kernel)) rfl) rfl (by decide +kernel) (fun _ => rfl) (fun _ => rfl) (Nat.le_of_ble_eq_true rfl) (by decide +kernel) ?_
  show kG p l e (rmN 2 3 52) s m args below meth c Q dC dI cI cZ A s.heap a0 3 52 33 [] _ ([.inl (0, [mr 1, mr 2, mr 3, mi 0]), .inr (false, 14, fun _ => 0), .inr (false, 19, fun _ => 0), .inr (false, 19, fun _ => 0)])
  refine kAload C (by decide +kernel) ?_
  refine kVV C hA (idx := 25) (As := []) (rest := []) (by decide +kernel) mf_X0_drop lk_X0_25 ⟨Nat.le_of_ble_eq_true rfl, Nat.le_of_ble_eq_true rfl⟩ ⟨Nat.le_of_ble_eq_true rfl, Nat.le_of_ble_eq_true rfl⟩ (Nat.le_of_ble_eq_true rfl) ⟨_, _, _, rfl, rfl, rfl⟩ sn_drop rfl ?_
  rintro _ rfl
  exact hret 37 _ (by decide +kernel)
set_option maxRecDepth 20000 in
set_option maxHeartbeats 4000000 in
theorem mk_X1 {l : Launch} : SpN l (fun _ => True) 1 2 1900 yX1_init cX1_init (.inl (1, [nul, nul, mi 0, mi 0, mi 0])) ([.inl (1, [mr 1, mr 2, mi 0, mi 1, mi (-9)]), .inr (false, 950, fun _ => 0), .inr (false, 950, fun _ => 0)]) := by
  refine SpN.of (by decide +kernel) rfl (fun dC dI cI cZ ad A p e s m args below meth c Q a0 C hE hinit hA hret => ?_)
  refine kAload C (by decide +kernel) ?_
  refine kObj C (idx := 3) (mtb_in (List.mem_of_getElem? (i := 231) (by decide +kernel)) rfl) obj_i obj_c ⟨Nat.le_of_ble_eq_true rfl, Nat.le_of_ble_eq_true rfl⟩ (by decide +kernel) (Nat.le_of_ble_eq_true rfl) ?_
  refine kAload C (by decide +kernel) ?_
  refine kSi C (z := 950) (by decide +kernel) (by decide +kernel) ?_
  refine kArr C hA (N := 950) rfl rfl (by decide) arr_i (by decide) ⟨Nat.le_of_ble_eq_true rfl, Nat.le_of_ble_eq_true rfl⟩ (by decide +kernel) (fun q8 => ?_)
  show kG p l e (rmN 1 2 1900) s m args below meth c Q dC dI cI cZ A s.heap a0 1 950 10 [mr 1, mr 0] _ ([.inl (1, [nul, nul, mi 0, mi 0, mi 0]), .inr (false, 950, fun _ => 0)])
  refine kPut C (idx := 11) (ty := (.array .int)) (rfl : mcl[1]? = some (RX1, TX1, 5)) uw_X1 tyX1 tyX1_ok nmX1 rfl (j := 0) (by decide) (mtb_in (List.mem_of_getElem? (i := 232) (by decide +kernel)) rfl) rfl (by decide +kernel) (fun _ => rfl) (fun _ => rfl) (Nat.le_of_ble_eq_true rfl) (by decide +kernel) ?_
  show kG p l e (rmN 1 2 1900) s m args below meth c Q dC dI cI cZ A s.heap a0 1 950 13 [] _ ([.inl (1, [mr 1, nul, mi 0, mi 0, mi 0]), .inr (false, 950, fun _ => 0)])
  refine kAload C (by decide +kernel) ?_
  refine kSi C (z := 950) (by decide +kernel) (by decide +kernel) ?_
  refine kArr C hA (N := 950) rfl rfl (by decide) arr_i (by decide) ⟨Nat.le_of_ble_eq_true rfl, Nat.le_of_ble_eq_true rfl⟩ (by decide +kernel) (fun q17 => ?_)
  show kG p l e (rmN 1 2 1900) s m args below meth c Q dC dI cI cZ A s.heap a0 2 1900 19 [mr 2, mr 0] _ ([.inl (1, [mr 1, nul, mi 0, mi 0, mi 0]), .inr (false, 950, fun _ => 0), .inr (false, 950, fun _ => 0)])
  refine kPut C (idx := 15) (ty := (.array .int)) (rfl : mcl[1]? = some (RX1, TX1, 5)) uw_X1 tyX1 tyX1_ok nmX1 rfl (j := 1) (by decide) (mtb_in (List.mem_of_getElem? (i := 233) (by decide +kernel)) rfl) rfl (by decide +kernel) (fun _ => rfl) (fun _ => rfl) (Nat.le_of_ble_eq_true rfl) (by decide +kernel) ?_
  show kG p l e (rmN 1 2 1900) s m args below meth c Q dC dI cI cZ A s.heap a0 2 1900 22 [] _ ([.inl (1, [mr 1, mr 2, mi 0, mi 0, mi 0]), .inr (false, 950, fun _ => 0), .inr (false, 950, fun _ => 0)])
  refine kAload C (by decide +kernel) ?_
  refine kIc C (z := 0) (by decide +kernel) ?_
  refine kPut C (idx := 18) (ty := .int) (rfl : mcl[1]? = some (RX1, TX1, 5)) uw_X1 tyX1 tyX1_ok nmX1 rfl (j := 2) (by decide) (mtb_in (List.mem_of_getElem? (i := 234) (by decide +kernel)) rfl) rfl (by decide +kernel) (fun _ => rfl) (fun _ => rfl) (Nat.le_of_ble_eq_true rfl) (by decide +kernel) ?_
  show kG p l e (rmN 1 2 1900) s m args below meth c Q dC dI cI cZ A s.heap a0 2 1900 27 [] _ ([.inl (1, [mr 1, mr 2, mi 0, mi 0, mi 0]), .inr (false, 950, fun _ => 0), .inr (false, 950, fun _ => 0)])
  refine kAload C (by decide +kernel) ?_
  refine kIc C (z := 1) (by decide +kernel) ?_
  refine kPut C (idx := 22) (ty := .int) (rfl : mcl[1]? = some (RX1, TX1, 5)) uw_X1 tyX1 tyX1_ok nmX1 rfl (j := 3) (by decide) (mtb_in (List.mem_of_getElem? (i := 236) (by decide +kernel)) rfl) rfl (by decide +kernel) (fun _ => rfl) (fun _ => rfl) (Nat.le_of_ble_eq_true rfl) (by decide +kernel) ?_
  show kG p l e (rmN 1 2 1900) s m args below meth c Q dC dI cI cZ A s.heap a0 2 1900 32 [] _ ([.inl (1, [mr 1, mr 2, mi 0, mi 1, mi 0]), .inr (false, 950, fun _ => 0), .inr (false, 950, fun _ => 0)])
  refine kAload C (by decide +kernel) ?_
  refine kBi C (z := -9) (by decide +kernel) (by decide +kernel) ?_
  refine kPut C (idx := 25) (ty := .int) (rfl : mcl[1]? = some (RX1, TX1, 5)) uw_X1 tyX1 tyX1_ok nmX1 rfl (j := 4) (by decide) (mtb_in (List.mem_of_getElem? (i := 238) (by decide +kernel)) rfl) rfl (by decide +kernel) (fun _ => rfl) (fun _ => rfl) (Nat.le_of_ble_eq_true rfl) (by decide +kernel) ?_
  show kG p l e (rmN 1 2 1900) s m args below meth c Q dC dI cI cZ A s.heap a0 2 1900 38 [] _ ([.inl (1, [mr 1, mr 2, mi 0, mi 1, mi (-9)]), .inr (false, 950, fun _ => 0), .inr (false, 950, fun _ => 0)])
  exact hret 38 _ (by decide +kernel)
set_option maxRecDepth 20000 in
set_option maxHeartbeats 4000000 in
theorem mk_X2 {l : Launch} : SpN l (fun _ => True) 1 2 38 yX2_init cX2_init (.inl (2, [nul, nul, mi 0, mi 0, mi 0])) ([.inl (2, [mr 1, mr 2, mi 0, mi 0, mi (-9)]), .inr (false, 19, fun _ => 0), .inr (false, 19, fun _ => 0)]) := by
  refine SpN.of (by decide +kernel) rfl (fun dC dI cI cZ ad A p e s m args below meth c Q a0 C hE hinit hA hret => ?_)
  refine kAload C (by decide +kernel) ?_
  refine kObj C (idx := 3) (mtb_in (List.mem_of_getElem? (i := 207) (by decide +kernel)) rfl) obj_i obj_c ⟨Nat.le_of_ble_eq_true rfl, Nat.le_of_ble_eq_true rfl⟩ (by decide +kernel) (Nat.le_of_ble_eq_true rfl) ?_
  refine kAload C (by decide +kernel) ?_
  refine kBi C (z := 19) (by decide +kernel) (by decide +kernel) ?_
  refine kArr C hA (N := 19) rfl rfl (by decide) arr_i (by decide) ⟨Nat.le_of_ble_eq_true rfl, Nat.le_of_ble_eq_true rfl⟩ (by decide +kernel) (fun q7 => ?_)
  show kG p l e (rmN 1 2 38) s m args below meth c Q dC dI cI cZ A s.heap a0 1 19 9 [mr 1, mr 0] _ ([.inl (2, [nul, nul, mi 0, mi 0, mi 0]), .inr (false, 19, fun _ => 0)])
  refine kPut C (idx := 9) (ty := (.array .int)) (rfl : mcl[2]? = some (RX2, TX2, 5)) uw_X2 tyX2 tyX2_ok nmX2 rfl (j := 0) (by decide) (mtb_in (List.mem_of_getElem? (i := 208) (by decide +kernel)) rfl) rfl (by decide +kernel) (fun _ => rfl) (fun _ => rfl) (Nat.le_of_ble_eq_true rfl) (by decide +kernel) ?_
  show kG p l e (rmN 1 2 38) s m args below meth c Q dC dI cI cZ A s.heap a0 1 19 12 [] _ ([.inl (2, [mr 1, nul, mi 0, mi 0, mi 0]), .inr (false, 19, fun _ => 0)])
  refine kAload C (by decide +kernel) ?_
  refine kBi C (z := 19) (by decide +kernel) (by decide +kernel) ?_
  refine kArr C hA (N := 19) rfl rfl (by decide) arr_i (by decide) ⟨Nat.le_of_ble_eq_true rfl, Nat.le_of_ble_eq_true rfl⟩ (by decide +kernel) (fun q15 => ?_)
  show kG p l e (rmN 1 2 38) s m args below meth c Q dC dI cI cZ A s.heap a0 2 38 17 [mr 2, mr 0] _ ([.inl (2, [mr 1, nul, mi 0, mi 0, mi 0]), .inr (false, 19, fun _ => 0), .inr (false, 19, fun _ => 0)])
  refine kPut C (idx := 15) (ty := (.array .int)) (rfl : mcl[2]? = some (RX2, TX2, 5)) uw_X2 tyX2 tyX2_ok nmX2 rfl (j := 1) (by decide) (mtb_in (List.mem_of_getElem? (i := 209) (by decide +kernel)) rfl) rfl (by decide +kernel) (fun _ => rfl) (fun _ => rfl) (Nat.le_of_ble_eq_true rfl) (by decide +kernel) ?_
  show kG p l e (rmN 1 2 38) s m args below meth c Q dC dI cI cZ A s.heap a0 2 38 20 [] _ ([.inl (2, [mr 1, mr 2, mi 0, mi 0, mi 0]), .inr (false, 19, fun _ => 0), .inr (false, 19, fun _ => 0)])
  refine kAload C (by decide +kernel) ?_
  refine kIc C (z := 0) (by decide +kernel) ?_
  refine kPut C (idx := 18) (ty := .boolean) (rfl : mcl[2]? = some (RX2, TX2, 5)) uw_X2 tyX2 tyX2_ok nmX2 rfl (j := 2) (by decide) (mtb_in (List.mem_of_getElem? (i := 210) (by decide +kernel)) rfl) rfl (by decide +kernel) (fun _ => rfl) (fun _ => rfl) (Nat.le_of_ble_eq_true rfl) (by decide +kernel) ?_
  show kG p l e (rmN 1 2 38) s m args below meth c Q dC dI cI cZ A s.heap a0 2 38 25 [] _ ([.inl (2, [mr 1, mr 2, mi 0, mi 0, mi 0]), .inr (false, 19, fun _ => 0), .inr (false, 19, fun _ => 0)])
  refine kAload C (by decide +kernel) ?_
  refine kIc C (z := 0) (by decide +kernel) ?_
  refine kPut C (idx := 22) (ty := .int) (rfl : mcl[2]? = some (RX2, TX2, 5)) uw_X2 tyX2 tyX2_ok nmX2 rfl (j := 3) (by decide) (mtb_in (List.mem_of_getElem? (i := 211) (by decide +kernel)) rfl) rfl (by decide +kernel) (fun _ => rfl) (fun _ => rfl) (Nat.le_of_ble_eq_true rfl) (by decide +kernel) ?_
  show kG p l e (rmN 1 2 38) s m args below meth c Q dC dI cI cZ A s.heap a0 2 38 30 [] _ ([.inl (2, [mr 1, mr 2, mi 0, mi 0, mi 0]), .inr (false, 19, fun _ => 0), .inr (false, 19, fun _ => 0)])
  refine kAload C (by decide +kernel) ?_
  refine kBi C (z := -9) (by decide +kernel) (by decide +kernel) ?_
  refine kPut C (idx := 26) (ty := .int) (rfl : mcl[2]? = some (RX2, TX2, 5)) uw_X2 tyX2 tyX2_ok nmX2 rfl (j := 4) (by decide) (mtb_in (List.mem_of_getElem? (i := 213) (by decide +kernel)) rfl) rfl (by decide +kernel) (fun _ => rfl) (fun _ => rfl) (Nat.le_of_ble_eq_true rfl) (by decide +kernel) ?_
  show kG p l e (rmN 1 2 38) s m args below meth c Q dC dI cI cZ A s.heap a0 2 38 36 [] _ ([.inl (2, [mr 1, mr 2, mi 0, mi 0, mi (-9)]), .inr (false, 19, fun _ => 0), .inr (false, 19, fun _ => 0)])
  exact hret 36 _ (by decide +kernel)
set_option maxRecDepth 20000 in
set_option maxHeartbeats 4000000 in
theorem mk_X3 {l : Launch} : SpN l (fun _ => True) 1 1 99 yX3_init cX3_init (.inl (3, [nul, mi 0, mi 0])) ([.inl (3, [mr 1, mi 0, mi 0]), .inr (false, 99, fun _ => 0)]) := by
  refine SpN.of (by decide +kernel) rfl (fun dC dI cI cZ ad A p e s m args below meth c Q a0 C hE hinit hA hret => ?_)
  refine kAload C (by decide +kernel) ?_
  refine kObj C (idx := 5) (mtb_in (List.mem_of_getElem? (i := 189) (by decide +kernel)) rfl) obj_i obj_c ⟨Nat.le_of_ble_eq_true rfl, Nat.le_of_ble_eq_true rfl⟩ (by decide +kernel) (Nat.le_of_ble_eq_true rfl) ?_
  refine kAload C (by decide +kernel) ?_
  refine kBi C (z := 99) (by decide +kernel) (by decide +kernel) ?_
  refine kArr C hA (N := 99) rfl rfl (by decide) arr_i (by decide) ⟨Nat.le_of_ble_eq_true rfl, Nat.le_of_ble_eq_true rfl⟩ (by decide +kernel) (fun q7 => ?_)
  show kG p l e (rmN 1 1 99) s m args below meth c Q dC dI cI cZ A s.heap a0 1 99 9 [mr 1, mr 0] _ ([.inl (3, [nul, mi 0, mi 0]), .inr (false, 99, fun _ => 0)])
  refine kPutF C (idx := 11) (ty := (.array .int)) (rfl : mcl[3]? = some (RX3, TX3, 3)) uw_X3 tyX3 tyX3_ok nmX3 rfl (j := 0) (by decide) (mtb_in (List.mem_of_getElem? (i := 190) (by decide +kernel)) rfl) rfl hinit rfl (by decide +kernel) (fun _ => rfl) (fun _ => rfl) (Nat.le_of_ble_eq_true rfl) (by decide +kernel) ?_
  show kG p l e (rmN 1 1 99) s m args below meth c Q dC dI cI cZ A s.heap a0 1 99 12 [] _ ([.inl (3, [mr 1, mi 0, mi 0]), .inr (false, 99, fun _ => 0)])
  refine kAload C (by decide +kernel) ?_
  refine kIc C (z := 0) (by decide +kernel) ?_
  refine kPut C (idx := 15) (ty := .int) (rfl : mcl[3]? = some (RX3, TX3, 3)) uw_X3 tyX3 tyX3_ok nmX3 rfl (j := 1) (by decide) (mtb_in (List.mem_of_getElem? (i := 191) (by decide +kernel)) rfl) rfl (by decide +kernel) (fun _ => rfl) (fun _ => rfl) (Nat.le_of_ble_eq_true rfl) (by decide +kernel) ?_
  show kG p l e (rmN 1 1 99) s m args below meth c Q dC dI cI cZ A s.heap a0 1 99 17 [] _ ([.inl (3, [mr 1, mi 0, mi 0]), .inr (false, 99, fun _ => 0)])
  refine kAload C (by decide +kernel) ?_
  refine kIc C (z := 0) (by decide +kernel) ?_
  refine kPut C (idx := 19) (ty := .boolean) (rfl : mcl[3]? = some (RX3, TX3, 3)) uw_X3 tyX3 tyX3_ok nmX3 rfl (j := 2) (by decide) (mtb_in (List.mem_of_getElem? (i := 193) (by decide +kernel)) rfl) rfl (by decide +kernel) (fun _ => rfl) (fun _ => rfl) (Nat.le_of_ble_eq_true rfl) (by decide +kernel) ?_
  show kG p l e (rmN 1 1 99) s m args below meth c Q dC dI cI cZ A s.heap a0 1 99 22 [] _ ([.inl (3, [mr 1, mi 0, mi 0]), .inr (false, 99, fun _ => 0)])
  exact hret 22 _ (by decide +kernel)
set_option maxRecDepth 20000 in
set_option maxHeartbeats 4000000 in
theorem mk_X4 {l : Launch} : SpN l (fun _ => True) 1 1 150 yX4_init cX4_init (.inl (4, [nul, mi 0, mi 0, mi 0, mi 0, mi 0, mi 0, mi 0, mi 0, mi 0])) ([.inl (4, [mr 1, mi 0, mi 0, mi 0, mi 0, mi 0, mi (-1), mi 0, mi 0, mi 0]), .inr (false, 150, fun _ => 0)]) := by
  refine SpN.of (by decide +kernel) rfl (fun dC dI cI cZ ad A p e s m args below meth c Q a0 C hE hinit hA hret => ?_)
  refine kAload C (by decide +kernel) ?_
  refine kObj C (idx := 3) (mtb_in (List.mem_of_getElem? (i := 93) (by decide +kernel)) rfl) obj_i obj_c ⟨Nat.le_of_ble_eq_true rfl, Nat.le_of_ble_eq_true rfl⟩ (by decide +kernel) (Nat.le_of_ble_eq_true rfl) ?_
  refine kAload C (by decide +kernel) ?_
  refine kSi C (z := 150) (by decide +kernel) (by decide +kernel) ?_
  refine kArr C hA (N := 150) rfl rfl (by decide) arr_i (by decide) ⟨Nat.le_of_ble_eq_true rfl, Nat.le_of_ble_eq_true rfl⟩ (by decide +kernel) (fun q8 => ?_)
  show kG p l e (rmN 1 1 150) s m args below meth c Q dC dI cI cZ A s.heap a0 1 150 10 [mr 1, mr 0] _ ([.inl (4, [nul, mi 0, mi 0, mi 0, mi 0, mi 0, mi 0, mi 0, mi 0, mi 0]), .inr (false, 150, fun _ => 0)])
  refine kPutF C (idx := 9) (ty := (.array .int)) (rfl : mcl[4]? = some (RX4, TX4, 10)) uw_X4 tyX4 tyX4_ok nmX4 rfl (j := 0) (by decide) (mtb_in (List.mem_of_getElem? (i := 94) (by decide +kernel)) rfl) rfl hinit rfl (by decide +kernel) (fun _ => rfl) (fun _ => rfl) (Nat.le_of_ble_eq_true rfl) (by decide +kernel) ?_
  show kG p l e (rmN 1 1 150) s m args below meth c Q dC dI cI cZ A s.heap a0 1 150 13 [] _ ([.inl (4, [mr 1, mi 0, mi 0, mi 0, mi 0, mi 0, mi 0, mi 0, mi 0, mi 0]), .inr (false, 150, fun _ => 0)])
  refine kAload C (by decide +kernel) ?_
  refine kIc C (z := 0) (by decide +kernel) ?_
  refine kPut C (idx := 15) (ty := .int) (rfl : mcl[4]? = some (RX4, TX4, 10)) uw_X4 tyX4 tyX4_ok nmX4 rfl (j := 1) (by decide) (mtb_in (List.mem_of_getElem? (i := 95) (by decide +kernel)) rfl) rfl (by decide +kernel) (fun _ => rfl) (fun _ => rfl) (Nat.le_of_ble_eq_true rfl) (by decide +kernel) ?_
  show kG p l e (rmN 1 1 150) s m args below meth c Q dC dI cI cZ A s.heap a0 1 150 18 [] _ ([.inl (4, [mr 1, mi 0, mi 0, mi 0, mi 0, mi 0, mi 0, mi 0, mi 0, mi 0]), .inr (false, 150, fun _ => 0)])
  refine kAload C (by decide +kernel) ?_
  refine kIc C (z := 0) (by decide +kernel) ?_
  refine kPut C (idx := 19) (ty := .int) (rfl : mcl[4]? = some (RX4, TX4, 10)) uw_X4 tyX4 tyX4_ok nmX4 rfl (j := 2) (by decide) (mtb_in (List.mem_of_getElem? (i := 97) (by decide +kernel)) rfl) rfl (by decide +kernel) (fun _ => rfl) (fun _ => rfl) (Nat.le_of_ble_eq_true rfl) (by decide +kernel) ?_
  show kG p l e (rmN 1 1 150) s m args below meth c Q dC dI cI cZ A s.heap a0 1 150 23 [] _ ([.inl (4, [mr 1, mi 0, mi 0, mi 0, mi 0, mi 0, mi 0, mi 0, mi 0, mi 0]), .inr (false, 150, fun _ => 0)])
  refine kAload C (by decide +kernel) ?_
  refine kIc C (z := 0) (by decide +kernel) ?_
  refine kPut C (idx := 22) (ty := .int) (rfl : mcl[4]? = some (RX4, TX4, 10)) uw_X4 tyX4 tyX4_ok nmX4 rfl (j := 3) (by decide) (mtb_in (List.mem_of_getElem? (i := 98) (by decide +kernel)) rfl) rfl (by decide +kernel) (fun _ => rfl) (fun _ => rfl) (Nat.le_of_ble_eq_true rfl) (by decide +kernel) ?_
  show kG p l e (rmN 1 1 150) s m args below meth c Q dC dI cI cZ A s.heap a0 1 150 28 [] _ ([.inl (4, [mr 1, mi 0, mi 0, mi 0, mi 0, mi 0, mi 0, mi 0, mi 0, mi 0]), .inr (false, 150, fun _ => 0)])
  refine kAload C (by decide +kernel) ?_
  refine kIc C (z := 0) (by decide +kernel) ?_
  refine kPut C (idx := 25) (ty := .int) (rfl : mcl[4]? = some (RX4, TX4, 10)) uw_X4 tyX4 tyX4_ok nmX4 rfl (j := 4) (by decide) (mtb_in (List.mem_of_getElem? (i := 99) (by decide +kernel)) rfl) rfl (by decide +kernel) (fun _ => rfl) (fun _ => rfl) (Nat.le_of_ble_eq_true rfl) (by decide +kernel) ?_
  show kG p l e (rmN 1 1 150) s m args below meth c Q dC dI cI cZ A s.heap a0 1 150 33 [] _ ([.inl (4, [mr 1, mi 0, mi 0, mi 0, mi 0, mi 0, mi 0, mi 0, mi 0, mi 0]), .inr (false, 150, fun _ => 0)])
  refine kAload C (by decide +kernel) ?_
  refine kIc C (z := 0) (by decide +kernel) ?_
  refine kPut C (idx := 28) (ty := .int) (rfl : mcl[4]? = some (RX4, TX4, 10)) uw_X4 tyX4 tyX4_ok nmX4 rfl (j := 5) (by decide) (mtb_in (List.mem_of_getElem? (i := 100) (by decide +kernel)) rfl) rfl (by decide +kernel) (fun _ => rfl) (fun _ => rfl) (Nat.le_of_ble_eq_true rfl) (by decide +kernel) ?_
  show kG p l e (rmN 1 1 150) s m args below meth c Q dC dI cI cZ A s.heap a0 1 150 38 [] _ ([.inl (4, [mr 1, mi 0, mi 0, mi 0, mi 0, mi 0, mi 0, mi 0, mi 0, mi 0]), .inr (false, 150, fun _ => 0)])
  refine kAload C (by decide +kernel) ?_
  refine kIc C (z := -1) (by decide +kernel) ?_
  refine kPut C (idx := 31) (ty := .int) (rfl : mcl[4]? = some (RX4, TX4, 10)) uw_X4 tyX4 tyX4_ok nmX4 rfl (j := 6) (by decide) (mtb_in (List.mem_of_getElem? (i := 101) (by decide +kernel)) rfl) rfl (by decide +kernel) (fun _ => rfl) (fun _ => rfl) (Nat.le_of_ble_eq_true rfl) (by decide +kernel) ?_
  show kG p l e (rmN 1 1 150) s m args below meth c Q dC dI cI cZ A s.heap a0 1 150 43 [] _ ([.inl (4, [mr 1, mi 0, mi 0, mi 0, mi 0, mi 0, mi (-1), mi 0, mi 0, mi 0]), .inr (false, 150, fun _ => 0)])
  refine kAload C (by decide +kernel) ?_
  refine kIc C (z := 0) (by decide +kernel) ?_
  refine kPut C (idx := 34) (ty := .boolean) (rfl : mcl[4]? = some (RX4, TX4, 10)) uw_X4 tyX4 tyX4_ok nmX4 rfl (j := 7) (by decide) (mtb_in (List.mem_of_getElem? (i := 102) (by decide +kernel)) rfl) rfl (by decide +kernel) (fun _ => rfl) (fun _ => rfl) (Nat.le_of_ble_eq_true rfl) (by decide +kernel) ?_
  show kG p l e (rmN 1 1 150) s m args below meth c Q dC dI cI cZ A s.heap a0 1 150 48 [] _ ([.inl (4, [mr 1, mi 0, mi 0, mi 0, mi 0, mi 0, mi (-1), mi 0, mi 0, mi 0]), .inr (false, 150, fun _ => 0)])
  refine kAload C (by decide +kernel) ?_
  refine kIc C (z := 0) (by decide +kernel) ?_
  refine kPut C (idx := 38) (ty := .boolean) (rfl : mcl[4]? = some (RX4, TX4, 10)) uw_X4 tyX4 tyX4_ok nmX4 rfl (j := 8) (by decide) (mtb_in (List.mem_of_getElem? (i := 103) (by decide +kernel)) rfl) rfl (by decide +kernel) (fun _ => rfl) (fun _ => rfl) (Nat.le_of_ble_eq_true rfl) (by decide +kernel) ?_
  show kG p l e (rmN 1 1 150) s m args below meth c Q dC dI cI cZ A s.heap a0 1 150 53 [] _ ([.inl (4, [mr 1, mi 0, mi 0, mi 0, mi 0, mi 0, mi (-1), mi 0, mi 0, mi 0]), .inr (false, 150, fun _ => 0)])
  refine kAload C (by decide +kernel) ?_
  refine kIc C (z := 0) (by decide +kernel) ?_
  refine kPut C (idx := 41) (ty := .boolean) (rfl : mcl[4]? = some (RX4, TX4, 10)) uw_X4 tyX4 tyX4_ok nmX4 rfl (j := 9) (by decide) (mtb_in (List.mem_of_getElem? (i := 104) (by decide +kernel)) rfl) rfl (by decide +kernel) (fun _ => rfl) (fun _ => rfl) (Nat.le_of_ble_eq_true rfl) (by decide +kernel) ?_
  show kG p l e (rmN 1 1 150) s m args below meth c Q dC dI cI cZ A s.heap a0 1 150 58 [] _ ([.inl (4, [mr 1, mi 0, mi 0, mi 0, mi 0, mi 0, mi (-1), mi 0, mi 0, mi 0]), .inr (false, 150, fun _ => 0)])
  exact hret 58 _ (by decide +kernel)
set_option maxRecDepth 20000 in
set_option maxHeartbeats 4000000 in
theorem mk_X5 {l : Launch} : SpN l (fun _ => True) 2 3 46 yX5_init cX5_init (.inl (5, [nul, nul, nul, mi 0, mi 0, mi 0, mi 0, mi 0, mi 0])) ([.inl (5, [mr 1, mr 2, mr 3, mi 0, mi 0, mi 0, mi 20, mi 2, mi 3]), .inr (false, 14, fun _ => 0), .inr (false, 24, fun _ => 0), .inr (false, 8, fun _ => 0)]) := by
  refine SpN.of (by decide +kernel) rfl (fun dC dI cI cZ ad A p e s m args below meth c Q a0 C hE hinit hA hret => ?_)
  refine kAload C (by decide +kernel) ?_
  refine kObj C (idx := 3) (mtb_in (List.mem_of_getElem? (i := 132) (by decide +kernel)) rfl) obj_i obj_c ⟨Nat.le_of_ble_eq_true rfl, Nat.le_of_ble_eq_true rfl⟩ (by decide +kernel) (Nat.le_of_ble_eq_true rfl) ?_
  refine kAload C (by decide +kernel) ?_
  refine kBi C (z := 14) (by decide +kernel) (by decide +kernel) ?_
  refine kArr C hA (N := 14) rfl rfl (by decide) arr_i (by decide) ⟨Nat.le_of_ble_eq_true rfl, Nat.le_of_ble_eq_true rfl⟩ (by decide +kernel) (fun q7 => ?_)
  show kG p l e (rmN 2 3 46) s m args below meth c Q dC dI cI cZ A s.heap a0 1 14 9 [mr 1, mr 0] _ ([.inl (5, [nul, nul, nul, mi 0, mi 0, mi 0, mi 0, mi 0, mi 0]), .inr (false, 14, fun _ => 0)])
  refine kPutF C (idx := 9) (ty := (.array .int)) (rfl : mcl[5]? = some (RX5, TX5, 9)) uw_X5 tyX5 tyX5_ok nmX5 rfl (j := 0) (by decide) (mtb_in (List.mem_of_getElem? (i := 137) (by decide +kernel)) rfl) rfl hinit rfl (by decide +kernel) (fun _ => rfl) (fun _ => rfl) (Nat.le_of_ble_eq_true rfl) (by decide +kernel) ?_
  show kG p l e (rmN 2 3 46) s m args below meth c Q dC dI cI cZ A s.heap a0 1 14 12 [] _ ([.inl (5, [mr 1, nul, nul, mi 0, mi 0, mi 0, mi 0, mi 0, mi 0]), .inr (false, 14, fun _ => 0)])
  refine kAload C (by decide +kernel) ?_
  refine kBi C (z := 24) (by decide +kernel) (by decide +kernel) ?_
  refine kArr C hA (N := 24) rfl rfl (by decide) arr_i (by decide) ⟨Nat.le_of_ble_eq_true rfl, Nat.le_of_ble_eq_true rfl⟩ (by decide +kernel) (fun q15 => ?_)
  show kG p l e (rmN 2 3 46) s m args below meth c Q dC dI cI cZ A s.heap a0 2 38 17 [mr 2, mr 0] _ ([.inl (5, [mr 1, nul, nul, mi 0, mi 0, mi 0, mi 0, mi 0, mi 0]), .inr (false, 14, fun _ => 0), .inr (false, 24, fun _ => 0)])
  refine kPutF C (idx := 15) (ty := (.array .int)) (rfl : mcl[5]? = some (RX5, TX5, 9)) uw_X5 tyX5 tyX5_ok nmX5 rfl (j := 1) (by decide) (mtb_in (List.mem_of_getElem? (i := 138) (by decide +kernel)) rfl) rfl hinit rfl (by decide +kernel) (fun _ => rfl) (fun _ => rfl) (Nat.le_of_ble_eq_true rfl) (by decide +kernel) ?_
  show kG p l e (rmN 2 3 46) s m args below meth c Q dC dI cI cZ A s.heap a0 2 38 20 [] _ ([.inl (5, [mr 1, mr 2, nul, mi 0, mi 0, mi 0, mi 0, mi 0, mi 0]), .inr (false, 14, fun _ => 0), .inr (false, 24, fun _ => 0)])
  refine kAload C (by decide +kernel) ?_
  refine kBi C (z := 8) (by decide +kernel) (by decide +kernel) ?_
  refine kArr C hA (N := 8) rfl rfl (by decide) arr_i (by decide) ⟨Nat.le_of_ble_eq_true rfl, Nat.le_of_ble_eq_true rfl⟩ (by decide +kernel) (fun q23 => ?_)
  show kG p l e (rmN 2 3 46) s m args below meth c Q dC dI cI cZ A s.heap a0 3 46 25 [mr 3, mr 0] _ ([.inl (5, [mr 1, mr 2, nul, mi 0, mi 0, mi 0, mi 0, mi 0, mi 0]), .inr (false, 14, fun _ => 0), .inr (false, 24, fun _ => 0), .inr (false, 8, fun _ => 0)])
  refine kPutF C (idx := 18) (ty := (.array .int)) (rfl : mcl[5]? = some (RX5, TX5, 9)) uw_X5 tyX5 tyX5_ok nmX5 rfl (j := 2) (by decide) (mtb_in (List.mem_of_getElem? (i := 139) (by decide +kernel)) rfl) rfl hinit rfl (by decide +kernel) (fun _ => rfl) (fun _ => rfl) (Nat.le_of_ble_eq_true rfl) (by decide +kernel) ?_
  show kG p l e (rmN 2 3 46) s m args below meth c Q dC dI cI cZ A s.heap a0 3 46 28 [] _ ([.inl (5, [mr 1, mr 2, mr 3, mi 0, mi 0, mi 0, mi 0, mi 0, mi 0]), .inr (false, 14, fun _ => 0), .inr (false, 24, fun _ => 0), .inr (false, 8, fun _ => 0)])
  refine kAload C (by decide +kernel) ?_
  refine kVV C hA (idx := 21) (As := []) (rest := []) (by decide +kernel) mf_X5_wipe lk_X5_21 ⟨Nat.le_of_ble_eq_true rfl, Nat.le_of_ble_eq_true rfl⟩ ⟨Nat.le_of_ble_eq_true rfl, Nat.le_of_ble_eq_true rfl⟩ (Nat.le_of_ble_eq_true rfl) ⟨_, _, _, rfl, rfl, rfl⟩ sn_wipe rfl ?_
  rintro _ rfl
  exact hret 32 _ (by decide +kernel)
