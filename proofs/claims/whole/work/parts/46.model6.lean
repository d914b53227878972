/-! the reference: what was heard -/
section WALKS
variable {l : Launch}
def HOK (m : FN) : Prop := ∀ i, i < 18 → -100 ≤ m i ∧ m i ≤ 100
def hrdF (m : FN) (d e : Int) : Nat → Int
  | 0 => if max e (-e) ≤ 9 then 1 else 0
  | i + 1 => if hrdF m d e i = 1 ∧ (¬ m (3 * i) = d ∨ max (e - m (3 * i + 1)) (-(e - m (3 * i + 1))) ≤ m (3 * i + 2)) then 1 else 0
theorem hrdF_s {m : FN} {d e : Int} {i : Nat} : hrdF m d e (i + 1) = if hrdF m d e i = 1 ∧ (¬ m (3 * i) = d ∨ max (e - m (3 * i + 1)) (-(e - m (3 * i + 1))) ≤ m (3 * i + 2)) then 1 else 0 := rfl
theorem hrdF_01 {m : FN} {d e : Int} : ∀ i, hrdF m d e i = 0 ∨ hrdF m d e i = 1
  | 0 => by unfold hrdF; split <;> simp
  | i + 1 => by rw [hrdF_s]; split <;> simp
def comF (c : FN) (d e : Int) : Int := if d < 0 then (if e = 0 then 1 else 0) else if 9 < max e (-e) then 0 else c (19 * d + e + 9).toNat
def goeF (g : FN) (d e : Int) : Int := if 9 < max e (-e) then 0 else g (19 * d + e + 9).toNat
set_option maxRecDepth 20000 in
set_option maxHeartbeats 1000000 in
theorem sp_X7_isHeard {mt sd : TD} {ms mg mk : FN} {hn : Int} {mh : FN} {tr : Int} {mx : XD} {w9 t9 c9 g9 : FN} {d e : Int} (hH : HOK mh) (h1 : inI d) (h2 : -100 ≤ e ∧ e ≤ 100) (h3 : 0 ≤ hn ∧ hn ≤ 6) : SpI l 2 yX7_isHeard cX7_isHeard 5 (some .boolean) [mr 0, mi d, mi e] (hM mt sd ms mg mk hn mh tr mx w9 t9 c9 g9) (fun z h => z = hrdF mh d e hn.toNat ∧ h = hM mt sd ms mg mk hn mh tr mx w9 t9 c9 g9) := by
  refine SpI.of (cd := kdX7_isHeard) (fT := mlook flX7) (kT := mlook klX7) (kJ := mlook jlX7) mfA_X7_isHeard ok_X7_isHeard fT_X7 kT_X7 jT_X7 jdk_ok True.intro (Nat.le_of_ble_eq_true rfl) (fun G hG => ?_)
  refine rRun hG 18 ?_
  refine rS hG (sp_X7_size (v := e) (by omega)) rfl rfl lk_X7_164 mf_X7_size (by decide) (Nat.le_of_ble_eq_true rfl) ?_
  rintro _ _ ⟨rfl, rfl⟩
  refine rRun hG 18 ?_
  refine And.intro (by first | omega | (dsimp only [Int.reduceToNat]; omega)) (And.intro (fun c2 => ?_) (fun c2 => ?_))
  · try dsimp only [Int.reduceToNat] at c2
    refine rRun hG 18 ?_
    have J18 : ∀ (n : Nat) (i : Nat), (i : Int) ≤ hn → hn.toNat - i < n → G 18 [some (mr 0), some (mi d), some (mi e), some (mi (hrdF mh d e i)), some (mi (i : Int))] [] (hM mt sd ms mg mk hn mh tr mx w9 t9 c9 g9) := by
      intro n
      induction n with
      | zero => intro i _ hm; exact absurd hm (Nat.not_lt_zero _)
      | succ n ih =>
        intro i hinv hm
        have h01 := hrdF_01 (m := mh) (d := d) (e := e) i
        have e0 : (3 * (i : Int)).toNat = 3 * i := by omega
        have e1 : (3 * (i : Int) + 1).toNat = 3 * i + 1 := by omega
        have e2 : (3 * (i : Int) + 2).toNat = 3 * i + 2 := by omega
        have hB : i < 6 → _ := fun q => And.intro (hH (3 * i) (by omega)) (And.intro (hH (3 * i + 1) (by omega)) (hH (3 * i + 2) (by omega)))
        refine rRun hG 99999 ?_
        refine And.intro rfl (And.intro (by first | omega | (dsimp only [Int.reduceToNat]; omega)) (And.intro (fun c3 => ?_) (fun c3 => ?_)))
        · try dsimp only [Int.reduceToNat] at c3
          refine rRun hG 99999 ?_
          refine rIR hG rfl rfl (by first | exact Or.inl rfl | exact Or.inr rfl | (show _ ∨ _; omega)) ?_
          refine ⟨?_, rfl⟩
          rw [show hn.toNat = i by omega]
        · try dsimp only [Int.reduceToNat] at c3
          have hB := hB (by omega)
          refine And.intro (by first | omega | (dsimp only [Int.reduceToNat]; omega)) (And.intro (fun c4 => ?_) (fun c4 => ?_))
          · try dsimp only [Int.reduceToNat] at c4
            refine rRun hG 99999 ?_
            refine rLess hG ?_ (ih (i + 1) ?_ ?_)
            · refine ⟨rfl, rfl, rfl, congrArg mi ?_, rfl, True.intro⟩
              rw [hrdF_s]
              first | (exfalso; omega) | (rw [if_pos (by omega)]; done) | (rw [if_neg (by omega)]; done)
            · omega
            · omega
          · try dsimp only [Int.reduceToNat] at c4
            refine And.intro rfl (And.intro (by first | omega | (dsimp only [Int.reduceToNat]; omega)) (And.intro (by rw [e0]; omega) (And.intro (fun ca => ?_) (fun ca => ?_))))
            · try dsimp only [Int.reduceToNat] at ca
              rw [e0] at ca
              refine rRun hG 99999 ?_
              refine rRun hG 99999 ?_
              refine rLess hG ?_ (ih (i + 1) ?_ ?_)
              · refine ⟨rfl, rfl, rfl, congrArg mi ?_, rfl, True.intro⟩
                rw [hrdF_s]
                first | (exfalso; omega) | (rw [if_pos (by omega)]; done) | (rw [if_neg (by omega)]; done)
              · omega
              · omega
            · try dsimp only [Int.reduceToNat] at ca
              rw [e0] at ca
              refine And.intro rfl (And.intro (by first | omega | (dsimp only [Int.reduceToNat]; omega)) (?_))
              refine rS hG (sp_X7_size (v := e - mh (3 * (i : Int) + 1).toNat) (by rw [e1]; omega)) rfl rfl lk_X7_164 mf_X7_size (by decide) (Nat.le_of_ble_eq_true rfl) ?_
              rintro _ _ ⟨rfl, rfl⟩
              refine rRun hG 99999 ?_
              refine And.intro rfl (And.intro (by first | omega | (dsimp only [Int.reduceToNat]; omega)) (And.intro (by rw [e1, e2]; omega) (And.intro (fun cb => ?_) (fun cb => ?_))))
              · try dsimp only [Int.reduceToNat] at cb
                rw [e1, e2] at cb
                refine rRun hG 99999 ?_
                refine rLess hG ?_ (ih (i + 1) ?_ ?_)
                · refine ⟨rfl, rfl, rfl, congrArg mi ?_, rfl, True.intro⟩
                  rw [hrdF_s]
                  first | (exfalso; omega) | (rw [if_pos (by omega)]; done) | (rw [if_neg (by omega)]; done)
                · omega
                · omega
              · try dsimp only [Int.reduceToNat] at cb
                rw [e1, e2] at cb
                refine rRun hG 99999 ?_
                refine rLess hG ?_ (ih (i + 1) ?_ ?_)
                · refine ⟨rfl, rfl, rfl, congrArg mi ?_, rfl, True.intro⟩
                  rw [hrdF_s]
                  first | (exfalso; omega) | (rw [if_pos (by omega)]; done) | (rw [if_neg (by omega)]; done)
                · omega
                · omega
    refine rLess hG (L' := [some (mr 0), some (mi d), some (mi e), some (mi (hrdF mh d e 0)), some (mi ((0 : Nat) : Int))]) ⟨rfl, rfl, rfl, congrArg mi ?_, rfl, True.intro⟩ (J18 _ 0 (by omega) (Nat.lt_succ_self _))
    rw [show hrdF mh d e 0 = (if max e (-e) ≤ 9 then 1 else 0) from rfl]
    first | (rw [if_pos (by omega)]; done) | (rw [if_neg (by omega)]; done)
  · try dsimp only [Int.reduceToNat] at c2
    refine rRun hG 18 ?_
    have J18 : ∀ (n : Nat) (i : Nat), (i : Int) ≤ hn → hn.toNat - i < n → G 18 [some (mr 0), some (mi d), some (mi e), some (mi (hrdF mh d e i)), some (mi (i : Int))] [] (hM mt sd ms mg mk hn mh tr mx w9 t9 c9 g9) := by
      intro n
      induction n with
      | zero => intro i _ hm; exact absurd hm (Nat.not_lt_zero _)
      | succ n ih =>
        intro i hinv hm
        have h01 := hrdF_01 (m := mh) (d := d) (e := e) i
        have e0 : (3 * (i : Int)).toNat = 3 * i := by omega
        have e1 : (3 * (i : Int) + 1).toNat = 3 * i + 1 := by omega
        have e2 : (3 * (i : Int) + 2).toNat = 3 * i + 2 := by omega
        have hB : i < 6 → _ := fun q => And.intro (hH (3 * i) (by omega)) (And.intro (hH (3 * i + 1) (by omega)) (hH (3 * i + 2) (by omega)))
        refine rRun hG 99999 ?_
        refine And.intro rfl (And.intro (by first | omega | (dsimp only [Int.reduceToNat]; omega)) (And.intro (fun c6 => ?_) (fun c6 => ?_)))
        · try dsimp only [Int.reduceToNat] at c6
          refine rRun hG 99999 ?_
          refine rIR hG rfl rfl (by first | exact Or.inl rfl | exact Or.inr rfl | (show _ ∨ _; omega)) ?_
          refine ⟨?_, rfl⟩
          rw [show hn.toNat = i by omega]
        · try dsimp only [Int.reduceToNat] at c6
          have hB := hB (by omega)
          refine And.intro (by first | omega | (dsimp only [Int.reduceToNat]; omega)) (And.intro (fun c7 => ?_) (fun c7 => ?_))
          · try dsimp only [Int.reduceToNat] at c7
            refine rRun hG 99999 ?_
            refine rLess hG ?_ (ih (i + 1) ?_ ?_)
            · refine ⟨rfl, rfl, rfl, congrArg mi ?_, rfl, True.intro⟩
              rw [hrdF_s]
              first | (exfalso; omega) | (rw [if_pos (by omega)]; done) | (rw [if_neg (by omega)]; done)
            · omega
            · omega
          · try dsimp only [Int.reduceToNat] at c7
            refine And.intro rfl (And.intro (by first | omega | (dsimp only [Int.reduceToNat]; omega)) (And.intro (by rw [e0]; omega) (And.intro (fun ca => ?_) (fun ca => ?_))))
            · try dsimp only [Int.reduceToNat] at ca
              rw [e0] at ca
              refine rRun hG 99999 ?_
              refine rRun hG 99999 ?_
              refine rLess hG ?_ (ih (i + 1) ?_ ?_)
              · refine ⟨rfl, rfl, rfl, congrArg mi ?_, rfl, True.intro⟩
                rw [hrdF_s]
                first | (exfalso; omega) | (rw [if_pos (by omega)]; done) | (rw [if_neg (by omega)]; done)
              · omega
              · omega
            · try dsimp only [Int.reduceToNat] at ca
              rw [e0] at ca
              refine And.intro rfl (And.intro (by first | omega | (dsimp only [Int.reduceToNat]; omega)) (?_))
              refine rS hG (sp_X7_size (v := e - mh (3 * (i : Int) + 1).toNat) (by rw [e1]; omega)) rfl rfl lk_X7_164 mf_X7_size (by decide) (Nat.le_of_ble_eq_true rfl) ?_
              rintro _ _ ⟨rfl, rfl⟩
              refine rRun hG 99999 ?_
              refine And.intro rfl (And.intro (by first | omega | (dsimp only [Int.reduceToNat]; omega)) (And.intro (by rw [e1, e2]; omega) (And.intro (fun cb => ?_) (fun cb => ?_))))
              · try dsimp only [Int.reduceToNat] at cb
                rw [e1, e2] at cb
                refine rRun hG 99999 ?_
                refine rLess hG ?_ (ih (i + 1) ?_ ?_)
                · refine ⟨rfl, rfl, rfl, congrArg mi ?_, rfl, True.intro⟩
                  rw [hrdF_s]
                  first | (exfalso; omega) | (rw [if_pos (by omega)]; done) | (rw [if_neg (by omega)]; done)
                · omega
                · omega
              · try dsimp only [Int.reduceToNat] at cb
                rw [e1, e2] at cb
                refine rRun hG 99999 ?_
                refine rLess hG ?_ (ih (i + 1) ?_ ?_)
                · refine ⟨rfl, rfl, rfl, congrArg mi ?_, rfl, True.intro⟩
                  rw [hrdF_s]
                  first | (exfalso; omega) | (rw [if_pos (by omega)]; done) | (rw [if_neg (by omega)]; done)
                · omega
                · omega
    refine rLess hG (L' := [some (mr 0), some (mi d), some (mi e), some (mi (hrdF mh d e 0)), some (mi ((0 : Nat) : Int))]) ⟨rfl, rfl, rfl, congrArg mi ?_, rfl, True.intro⟩ (J18 _ 0 (by omega) (Nat.lt_succ_self _))
    rw [show hrdF mh d e 0 = (if max e (-e) ≤ 9 then 1 else 0) from rfl]
    first | (rw [if_pos (by omega)]; done) | (rw [if_neg (by omega)]; done)
set_option maxRecDepth 20000 in
set_option maxHeartbeats 1000000 in
theorem sp_X7_comeTo {mt sd : TD} {ms mg mk : FN} {hn : Int} {mh : FN} {tr : Int} {mx : XD} {w9 t9 c9 g9 : FN} {d e : Int} (h1 : -1 ≤ d ∧ d ≤ 13) (h2 : -100 ≤ e ∧ e ≤ 100) : SpI l 2 yX7_comeTo cX7_comeTo 3 (some .int) [mr 0, mi d, mi e] (hM mt sd ms mg mk hn mh tr mx w9 t9 c9 g9) (fun z h => z = comF c9 d e ∧ h = hM mt sd ms mg mk hn mh tr mx w9 t9 c9 g9) := by
  refine SpI.of (cd := kdX7_comeTo) (fT := mlook flX7) (kT := mlook klX7) (kJ := mlook jlX7) mfA_X7_comeTo ok_X7_comeTo fT_X7 kT_X7 jT_X7 jdk_ok True.intro (Nat.le_of_ble_eq_true rfl) (fun G hG => ?_)
  refine rRun hG 99999 ?_
  refine And.intro (by first | omega | (dsimp only [Int.reduceToNat]; omega)) (And.intro (fun c1 => ?_) (fun c1 => ?_))
  · try dsimp only [Int.reduceToNat] at c1
    refine rRun hG 99999 ?_
    refine rS hG (sp_X7_size (v := e) (by omega)) rfl rfl lk_X7_164 mf_X7_size (by decide) (Nat.le_of_ble_eq_true rfl) ?_
    rintro _ _ ⟨rfl, rfl⟩
    refine rRun hG 99999 ?_
    refine And.intro (by first | omega | (dsimp only [Int.reduceToNat]; omega)) (And.intro (fun c3 => ?_) (fun c3 => ?_))
    · try dsimp only [Int.reduceToNat] at c3
      refine rRun hG 99999 ?_
      refine And.intro rfl (And.intro (by first | omega | (dsimp only [Int.reduceToNat]; omega)) (?_))
      refine rIR hG rfl rfl (True.intro) ?_
      refine ⟨?_, rfl⟩
      unfold comF
      first | (rw [if_pos (by omega), if_pos (by omega)]; done) | (rw [if_pos (by omega), if_neg (by omega)]; done) | (rw [if_neg (by omega), if_pos (by omega)]; done) | (rw [if_neg (by omega), if_neg (by omega)]; done)
    · try dsimp only [Int.reduceToNat] at c3
      refine rIR hG rfl rfl (True.intro) ?_
      refine ⟨?_, rfl⟩
      unfold comF
      first | (rw [if_pos (by omega), if_pos (by omega)]; done) | (rw [if_pos (by omega), if_neg (by omega)]; done) | (rw [if_neg (by omega), if_pos (by omega)]; done) | (rw [if_neg (by omega), if_neg (by omega)]; done)
  · try dsimp only [Int.reduceToNat] at c1
    refine And.intro (by first | omega | (dsimp only [Int.reduceToNat]; omega)) (And.intro (fun c4 => ?_) (fun c4 => ?_))
    · try dsimp only [Int.reduceToNat] at c4
      refine rRun hG 99999 ?_
      refine rIR hG rfl rfl (True.intro) ?_
      refine ⟨?_, rfl⟩
      unfold comF
      first | (rw [if_pos (by omega), if_pos (by omega)]; done) | (rw [if_pos (by omega), if_neg (by omega)]; done) | (rw [if_neg (by omega), if_pos (by omega)]; done) | (rw [if_neg (by omega), if_neg (by omega)]; done)
    · try dsimp only [Int.reduceToNat] at c4
      refine rIR hG rfl rfl (True.intro) ?_
      refine ⟨?_, rfl⟩
      unfold comF
      first | (rw [if_pos (by omega), if_pos (by omega)]; done) | (rw [if_pos (by omega), if_neg (by omega)]; done) | (rw [if_neg (by omega), if_pos (by omega)]; done) | (rw [if_neg (by omega), if_neg (by omega)]; done)
set_option maxRecDepth 20000 in
set_option maxHeartbeats 1000000 in
theorem sp_X7_goFrom {mt sd : TD} {ms mg mk : FN} {hn : Int} {mh : FN} {tr : Int} {mx : XD} {w9 t9 c9 g9 : FN} {d e : Int} (h1 : 0 ≤ d ∧ d ≤ 13) (h2 : -100 ≤ e ∧ e ≤ 100) : SpI l 2 yX7_goFrom cX7_goFrom 3 (some .int) [mr 0, mi d, mi e] (hM mt sd ms mg mk hn mh tr mx w9 t9 c9 g9) (fun z h => z = goeF g9 d e ∧ h = hM mt sd ms mg mk hn mh tr mx w9 t9 c9 g9) := by
  refine SpI.of (cd := kdX7_goFrom) (fT := mlook flX7) (kT := mlook klX7) (kJ := mlook jlX7) mfA_X7_goFrom ok_X7_goFrom fT_X7 kT_X7 jT_X7 jdk_ok True.intro (Nat.le_of_ble_eq_true rfl) (fun G hG => ?_)
  refine rRun hG 99999 ?_
  refine rS hG (sp_X7_size (v := e) (by omega)) rfl rfl lk_X7_164 mf_X7_size (by decide) (Nat.le_of_ble_eq_true rfl) ?_
  rintro _ _ ⟨rfl, rfl⟩
  refine rRun hG 99999 ?_
  refine And.intro (by first | omega | (dsimp only [Int.reduceToNat]; omega)) (And.intro (fun c2 => ?_) (fun c2 => ?_))
  · try dsimp only [Int.reduceToNat] at c2
    refine rRun hG 99999 ?_
    refine And.intro rfl (And.intro (by first | omega | (dsimp only [Int.reduceToNat]; omega)) (?_))
    refine rIR hG rfl rfl (True.intro) ?_
    refine ⟨?_, rfl⟩
    unfold goeF
    first | (rw [if_pos (by omega)]; done) | (rw [if_neg (by omega)]; done)
  · try dsimp only [Int.reduceToNat] at c2
    refine rIR hG rfl rfl (True.intro) ?_
    refine ⟨?_, rfl⟩
    unfold goeF
    first | (rw [if_pos (by omega)]; done) | (rw [if_neg (by omega)]; done)
end WALKS
