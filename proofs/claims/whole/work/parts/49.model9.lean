/-! the reference: the pace of the best turn -/
section WALKS
variable {l : Launch}
set_option maxRecDepth 20000 in
set_option maxHeartbeats 1000000 in
theorem sp_X7_paceBy {mt sd : TD} {ms mg mk : FN} {hn : Int} {mh : FN} {tr : Int} {mx : XD} {w9 t9 c9 g9 : FN} {kd : Int} (hT : TOK mt) (hQ : MOM ms) (hW : WOK t9) (h1 : 0 ≤ kd ∧ kd ≤ 2) (h2 : ms 0 ≤ 13) : SpI l 5 yX7_paceBy cX7_paceBy 6 (some .int) [mr 0, mi kd] (hM mt sd ms mg mk hn mh tr mx w9 t9 c9 g9) (fun z h => z = (foldB (bsG mt t9 kd (ms 0) (ms 1) (ms 2)) (-1000000) 6).2 ∧ h = hM mt sd ms mg mk hn mh tr mx w9 t9 c9 g9) := by
  have hQ1 := hQ.1
  have hQ2 := hQ.2.1
  have hQ3 := hQ.2.2.1
  refine SpI.of (cd := kdX7_paceBy) (fT := mlook flX7) (kT := mlook klX7) (kJ := mlook jlX7) mfA_X7_paceBy ok_X7_paceBy fT_X7 kT_X7 jT_X7 jdk_ok True.intro (Nat.le_of_ble_eq_true rfl) (fun G hG => ?_)
  refine rRun hG 10 ?_
  have J10 : ∀ (n : Nat) (i : Nat), i ≤ 6 → 6 - i < n → G 10 [some (mr 0), some (mi kd), some (mi ((foldB (bsG mt t9 kd (ms 0) (ms 1) (ms 2)) (-1000000) i).1)), some (mi ((foldB (bsG mt t9 kd (ms 0) (ms 1) (ms 2)) (-1000000) i).2)), some (mi ((i : Int) - 2)), none] [] (hM mt sd ms mg mk hn mh tr mx w9 t9 c9 g9) := by
    intro n
    induction n with
    | zero => intro i _ hm; exact absurd hm (Nat.not_lt_zero _)
    | succ n ih =>
      intro i hinv hm
      have hb := bsF_in (g := (bsG mt t9 kd (ms 0) (ms 1) (ms 2))) (fun p hp => bsG_in hT hW (by omega) (by omega) hp) i hinv
      refine rRun hG 58 ?_
      refine And.intro (by first | omega | (dsimp only [Int.reduceToNat]; omega)) (And.intro (fun c1 => ?_) (fun c1 => ?_))
      · try dsimp only [Int.reduceToNat] at c1
        refine rRun hG 99999 ?_
        refine rIR hG rfl rfl (True.intro) ?_
        obtain rfl : i = 6 := by omega
        exact ⟨rfl, rfl⟩
      · try dsimp only [Int.reduceToNat] at c1
        refine And.intro rfl (And.intro (by first | omega | (dsimp only [Int.reduceToNat]; omega)) (?_))
        refine rS hG (sp_X7_mayTurn (e := ms 2) (p := (i : Int) - 2) (by omega) (by omega)) rfl rfl lk_X7_208 mf_X7_mayTurn (by decide) (Nat.le_of_ble_eq_true rfl) ?_
        rintro w1 _ ⟨hw1, rfl⟩
        have w11 : (w1 = 1 ∧ (max (ms 2 + ((i : Int) - 2)) (-(ms 2 + ((i : Int) - 2))) ≤ 9)) ∨ (w1 = 0 ∧ ¬ (max (ms 2 + ((i : Int) - 2)) (-(ms 2 + ((i : Int) - 2))) ≤ 9)) := (by rw [hw1]; by_cases q9 : (max (ms 2 + ((i : Int) - 2)) (-(ms 2 + ((i : Int) - 2))) ≤ 9) <;> simp [q9])
        clear hw1
        have hq := bsG_in (kd := kd) (e := ms 2) (day := ms 0) (r := ms 1) hT hW (by omega) (by omega) (p := (i : Int) - 2) (by omega)
        refine rRun hG 58 ?_
        refine And.intro (by first | omega | (dsimp only [Int.reduceToNat]; omega)) (And.intro (fun c3 => ?_) (fun c3 => ?_))
        · try dsimp only [Int.reduceToNat] at c3
          have hg9 : bsG mt t9 kd (ms 0) (ms 1) (ms 2) ((i : Int) - 2) = -1000000 := if_neg (by omega)
          refine rRun hG 99999 ?_
          refine And.intro (by first | omega | (dsimp only [Int.reduceToNat]; omega)) (And.intro (fun c4 => ?_) (fun c4 => ?_))
          · try dsimp only [Int.reduceToNat] at c4
            refine rRun hG 99999 ?_
            refine And.intro (by first | omega | (dsimp only [Int.reduceToNat]; omega)) (And.intro (fun c5 => ?_) (fun c5 => ?_))
            · try dsimp only [Int.reduceToNat] at c5
              refine rRun hG 99999 ?_
              refine rLess hG ?_ (ih (i + 1) ?_ ?_)
              · refine ⟨rfl, rfl, congrArg mi ?_, congrArg mi ?_, congrArg mi (by omega), True.intro⟩
                · rw [foldB_s]; first | (exfalso; omega) | (rw [if_pos (by omega)]; exact hg9.symm) | (rw [if_pos (by omega)]; exact hg9) | (rw [if_pos (by omega)]; done) | (rw [if_neg (by omega)]; done)
                · rw [foldB_s]; first | (exfalso; omega) | (rw [if_pos (by omega)]; exact hg9.symm) | (rw [if_pos (by omega)]; exact hg9) | (rw [if_pos (by omega)]; done) | (rw [if_neg (by omega)]; done)
              · omega
              · omega
            · try dsimp only [Int.reduceToNat] at c5
              refine rRun hG 99999 ?_
              refine rLess hG ?_ (ih (i + 1) ?_ ?_)
              · refine ⟨rfl, rfl, congrArg mi ?_, congrArg mi ?_, congrArg mi (by omega), True.intro⟩
                · rw [foldB_s]; first | (exfalso; omega) | (rw [if_pos (by omega)]; exact hg9.symm) | (rw [if_pos (by omega)]; exact hg9) | (rw [if_pos (by omega)]; done) | (rw [if_neg (by omega)]; done)
                · rw [foldB_s]; first | (exfalso; omega) | (rw [if_pos (by omega)]; exact hg9.symm) | (rw [if_pos (by omega)]; exact hg9) | (rw [if_pos (by omega)]; done) | (rw [if_neg (by omega)]; done)
              · omega
              · omega
          · try dsimp only [Int.reduceToNat] at c4
            refine rRun hG 99999 ?_
            refine And.intro (by first | omega | (dsimp only [Int.reduceToNat]; omega)) (And.intro (fun c6 => ?_) (fun c6 => ?_))
            · try dsimp only [Int.reduceToNat] at c6
              refine rRun hG 99999 ?_
              refine rLess hG ?_ (ih (i + 1) ?_ ?_)
              · refine ⟨rfl, rfl, congrArg mi ?_, congrArg mi ?_, congrArg mi (by omega), True.intro⟩
                · rw [foldB_s]; first | (exfalso; omega) | (rw [if_pos (by omega)]; exact hg9.symm) | (rw [if_pos (by omega)]; exact hg9) | (rw [if_pos (by omega)]; done) | (rw [if_neg (by omega)]; done)
                · rw [foldB_s]; first | (exfalso; omega) | (rw [if_pos (by omega)]; exact hg9.symm) | (rw [if_pos (by omega)]; exact hg9) | (rw [if_pos (by omega)]; done) | (rw [if_neg (by omega)]; done)
              · omega
              · omega
            · try dsimp only [Int.reduceToNat] at c6
              refine rRun hG 99999 ?_
              refine rLess hG ?_ (ih (i + 1) ?_ ?_)
              · refine ⟨rfl, rfl, congrArg mi ?_, congrArg mi ?_, congrArg mi (by omega), True.intro⟩
                · rw [foldB_s]; first | (exfalso; omega) | (rw [if_pos (by omega)]; exact hg9.symm) | (rw [if_pos (by omega)]; exact hg9) | (rw [if_pos (by omega)]; done) | (rw [if_neg (by omega)]; done)
                · rw [foldB_s]; first | (exfalso; omega) | (rw [if_pos (by omega)]; exact hg9.symm) | (rw [if_pos (by omega)]; exact hg9) | (rw [if_pos (by omega)]; done) | (rw [if_neg (by omega)]; done)
              · omega
              · omega
        · try dsimp only [Int.reduceToNat] at c3
          refine And.intro rfl (And.intro (by first | omega | (dsimp only [Int.reduceToNat]; omega)) (And.intro rfl (And.intro (by first | omega | (dsimp only [Int.reduceToNat]; omega)) (And.intro rfl (And.intro (by first | omega | (dsimp only [Int.reduceToNat]; omega)) (?_))))))
          refine rV hG (sp_X7_worthBy (mt := mt) (sd := sd) (ms := ms) (mg := mg) (mk := mk) (hn := hn) (mh := mh) (tr := tr) (mx := mx) (w9 := w9) (t9 := t9) (c9 := c9) (g9 := g9) (kd := kd) (day := ms 0) (r := ms 1) (e := ms 2) (p := (i : Int) - 2) hT hW h1 (by omega) (by omega) (by omega) (by omega) (by omega)) rfl rfl lk_X7_212 mf_X7_worthBy (by decide) (Nat.le_of_ble_eq_true rfl) ⟨_, _, _, rfl, rfl, rfl⟩ ?_
          rintro _ _ ⟨rfl, rfl⟩
          have hg9 : bsG mt t9 kd (ms 0) (ms 1) (ms 2) ((i : Int) - 2) = wbF mt t9 kd (ms 0) (ms 1) (ms 2) ((i : Int) - 2) := if_pos (by omega)
          refine rRun hG 58 ?_
          refine rRun hG 99999 ?_
          refine And.intro (by first | omega | (dsimp only [Int.reduceToNat]; omega)) (And.intro (fun c8 => ?_) (fun c8 => ?_))
          · try dsimp only [Int.reduceToNat] at c8
            refine rRun hG 99999 ?_
            refine And.intro (by first | omega | (dsimp only [Int.reduceToNat]; omega)) (And.intro (fun c9 => ?_) (fun c9 => ?_))
            · try dsimp only [Int.reduceToNat] at c9
              refine rRun hG 99999 ?_
              refine rLess hG ?_ (ih (i + 1) ?_ ?_)
              · refine ⟨rfl, rfl, congrArg mi ?_, congrArg mi ?_, congrArg mi (by omega), True.intro⟩
                · rw [foldB_s]; first | (exfalso; omega) | (rw [if_pos (by omega)]; exact hg9.symm) | (rw [if_pos (by omega)]; exact hg9) | (rw [if_pos (by omega)]; done) | (rw [if_neg (by omega)]; done)
                · rw [foldB_s]; first | (exfalso; omega) | (rw [if_pos (by omega)]; exact hg9.symm) | (rw [if_pos (by omega)]; exact hg9) | (rw [if_pos (by omega)]; done) | (rw [if_neg (by omega)]; done)
              · omega
              · omega
            · try dsimp only [Int.reduceToNat] at c9
              refine rRun hG 99999 ?_
              refine rLess hG ?_ (ih (i + 1) ?_ ?_)
              · refine ⟨rfl, rfl, congrArg mi ?_, congrArg mi ?_, congrArg mi (by omega), True.intro⟩
                · rw [foldB_s]; first | (exfalso; omega) | (rw [if_pos (by omega)]; exact hg9.symm) | (rw [if_pos (by omega)]; exact hg9) | (rw [if_pos (by omega)]; done) | (rw [if_neg (by omega)]; done)
                · rw [foldB_s]; first | (exfalso; omega) | (rw [if_pos (by omega)]; exact hg9.symm) | (rw [if_pos (by omega)]; exact hg9) | (rw [if_pos (by omega)]; done) | (rw [if_neg (by omega)]; done)
              · omega
              · omega
          · try dsimp only [Int.reduceToNat] at c8
            refine rRun hG 99999 ?_
            refine And.intro (by first | omega | (dsimp only [Int.reduceToNat]; omega)) (And.intro (fun c10 => ?_) (fun c10 => ?_))
            · try dsimp only [Int.reduceToNat] at c10
              refine rRun hG 99999 ?_
              refine rLess hG ?_ (ih (i + 1) ?_ ?_)
              · refine ⟨rfl, rfl, congrArg mi ?_, congrArg mi ?_, congrArg mi (by omega), True.intro⟩
                · rw [foldB_s]; first | (exfalso; omega) | (rw [if_pos (by omega)]; exact hg9.symm) | (rw [if_pos (by omega)]; exact hg9) | (rw [if_pos (by omega)]; done) | (rw [if_neg (by omega)]; done)
                · rw [foldB_s]; first | (exfalso; omega) | (rw [if_pos (by omega)]; exact hg9.symm) | (rw [if_pos (by omega)]; exact hg9) | (rw [if_pos (by omega)]; done) | (rw [if_neg (by omega)]; done)
              · omega
              · omega
            · try dsimp only [Int.reduceToNat] at c10
              refine rRun hG 99999 ?_
              refine rLess hG ?_ (ih (i + 1) ?_ ?_)
              · refine ⟨rfl, rfl, congrArg mi ?_, congrArg mi ?_, congrArg mi (by omega), True.intro⟩
                · rw [foldB_s]; first | (exfalso; omega) | (rw [if_pos (by omega)]; exact hg9.symm) | (rw [if_pos (by omega)]; exact hg9) | (rw [if_pos (by omega)]; done) | (rw [if_neg (by omega)]; done)
                · rw [foldB_s]; first | (exfalso; omega) | (rw [if_pos (by omega)]; exact hg9.symm) | (rw [if_pos (by omega)]; exact hg9) | (rw [if_pos (by omega)]; done) | (rw [if_neg (by omega)]; done)
              · omega
              · omega
  exact J10 _ 0 (by omega) (Nat.lt_succ_self _)
end WALKS
