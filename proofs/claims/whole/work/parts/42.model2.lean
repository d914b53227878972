/-! the reference: how soon, how caught, what is now, odds lowest -/
section WALKS
variable {l : Launch}
def MOM (m : FN) : Prop := (0 ≤ m 0 ∧ m 0 ≤ 14) ∧ (0 ≤ m 1 ∧ m 1 ≤ 99) ∧ (-9 ≤ m 2 ∧ m 2 ≤ 9) ∧ (0 ≤ m 3 ∧ m 3 ≤ 999) ∧ (∀ i, i < 4 → 0 ≤ m (4 + i) ∧ m (4 + i) ≤ 9999) ∧ (0 ≤ m 8 ∧ m 8 ≤ 1000) ∧ (0 ≤ m 9 ∧ m 9 ≤ 10)
set_option maxRecDepth 20000 in
set_option maxHeartbeats 1000000 in
theorem sp_X7_at {hh : mH} {r e : Int} (h1 : -1000 ≤ r ∧ r ≤ 1000) (h2 : -1000 ≤ e ∧ e ≤ 1000) : SpI l 1 yX7_at cX7_at 2 (some .int) [mi r, mi e] (hh) (fun z h => z = 19 * r + e + 9 ∧ h = hh) := by
  refine SpI.of (cd := kdX7_at) (fT := mlook flX7) (kT := mlook klX7) (kJ := mlook jlX7) mfA_X7_at ok_X7_at fT_X7 kT_X7 jT_X7 jdk_ok True.intro (Nat.le_of_ble_eq_true rfl) (fun G hG => ?_)
  refine rRun hG 99999 ?_
  refine rIR hG rfl rfl (True.intro) ?_
  exact ⟨rfl, rfl⟩
set_option maxRecDepth 20000 in
set_option maxHeartbeats 1000000 in
theorem sp_X7_mayTurn {hh : mH} {e p : Int} (h1 : -1000 ≤ e ∧ e ≤ 1000) (h2 : -1000 ≤ p ∧ p ≤ 1000) : SpI l 2 yX7_mayTurn cX7_mayTurn 2 (some .boolean) [mi e, mi p] (hh) (fun z h => z = (if max (e + p) (-(e + p)) ≤ 9 then 1 else 0) ∧ h = hh) := by
  refine SpI.of (cd := kdX7_mayTurn) (fT := mlook flX7) (kT := mlook klX7) (kJ := mlook jlX7) mfA_X7_mayTurn ok_X7_mayTurn fT_X7 kT_X7 jT_X7 jdk_ok True.intro (Nat.le_of_ble_eq_true rfl) (fun G hG => ?_)
  refine rRun hG 99999 ?_
  refine rS hG (sp_X7_size (v := e + p) (by omega)) rfl rfl lk_X7_164 mf_X7_size (by decide) (Nat.le_of_ble_eq_true rfl) ?_
  rintro _ _ ⟨rfl, rfl⟩
  refine rRun hG 99999 ?_
  refine And.intro (by first | omega | (dsimp only [Int.reduceToNat]; omega)) (And.intro (fun c2 => ?_) (fun c2 => ?_))
  · try dsimp only [Int.reduceToNat] at c2
    refine rRun hG 99999 ?_
    refine rIR hG rfl rfl (by first | exact Or.inl rfl | exact Or.inr rfl | (show _ ∨ _; omega)) ?_
    exact ⟨by first | (rw [if_pos (by omega)]; done) | (rw [if_neg (by omega)]; done), rfl⟩
  · try dsimp only [Int.reduceToNat] at c2
    refine rIR hG rfl rfl (by first | exact Or.inl rfl | exact Or.inr rfl | (show _ ∨ _; omega)) ?_
    exact ⟨by first | (rw [if_pos (by omega)]; done) | (rw [if_neg (by omega)]; done), rfl⟩
set_option maxRecDepth 20000 in
set_option maxHeartbeats 1000000 in
theorem sp_X7_daysOf {mt sd : TD} {ms mg mk : FN} {hn : Int} {mh : FN} {tr : Int} {mx : XD} {w9 t9 c9 g9 : FN} {n : Int} (hT : TOK mt) (hQ : MOM ms) (h1 : inI n) : SpI l 2 yX7_daysOf cX7_daysOf 2 (some .int) [mr 0, mi n] (hM mt sd ms mg mk hn mh tr mx w9 t9 c9 g9) (fun z h => z = min n (tDay mt - ms 0) ∧ h = hM mt sd ms mg mk hn mh tr mx w9 t9 c9 g9) := by
  have hT1 := hT.1
  have hM1 := hQ.1
  refine SpI.of (cd := kdX7_daysOf) (fT := mlook flX7) (kT := mlook klX7) (kJ := mlook jlX7) mfA_X7_daysOf ok_X7_daysOf fT_X7 kT_X7 jT_X7 jdk_ok True.intro (Nat.le_of_ble_eq_true rfl) (fun G hG => ?_)
  refine rRun hG 99999 ?_
  refine And.intro rfl (And.intro rfl (And.intro (by first | omega | (dsimp only [Int.reduceToNat]; omega)) (?_)))
  refine rS hG (sp_X7_lesser (a := n) (b := tDay mt - ms 0) (by omega)) rfl rfl lk_X7_170 mf_X7_lesser (by decide) (Nat.le_of_ble_eq_true rfl) ?_
  rintro _ _ ⟨rfl, rfl⟩
  refine rIR hG rfl rfl (True.intro) ?_
  exact ⟨rfl, rfl⟩
def sooM (D : Int) : Nat → Nat → Int → Int → Int
  | 0, _, _, _ => 0
  | n + 1, k, r, e => if 0 < r ∧ (k : Int) < D then sooM D n (k + 1) (max 0 (r - 4 - min 3 (9 - e))) (e + min 3 (9 - e)) else if 0 < r then -9 else (k : Int)
theorem sooM_s {D : Int} {n k : Nat} {r e : Int} : sooM D (n + 1) k r e = if 0 < r ∧ (k : Int) < D then sooM D n (k + 1) (max 0 (r - 4 - min 3 (9 - e))) (e + min 3 (9 - e)) else if 0 < r then -9 else (k : Int) := rfl
def catM (lim pace : Int) : Nat → Nat → Int → Int → Int
  | 0, _, _, _ => -9
  | n + 1, k, e, r => if 9 < max e (-e) then -9 else if lim < max e (-e) then (k : Int) else if r = 0 then -9 else catM lim pace n (k + 1) (e + pace) (max 0 (r - 4 - pace))
theorem catM_s {lim pace : Int} {n k : Nat} {e r : Int} : catM lim pace (n + 1) k e r = if 9 < max e (-e) then -9 else if lim < max e (-e) then (k : Int) else if r = 0 then -9 else catM lim pace n (k + 1) (e + pace) (max 0 (r - 4 - pace)) := rfl
set_option maxRecDepth 20000 in
set_option maxHeartbeats 1000000 in
theorem sp_X7_soonest {mt sd : TD} {ms mg mk : FN} {hn : Int} {mh : FN} {tr : Int} {mx : XD} {w9 t9 c9 g9 : FN}  (hT : TOK mt) (hQ : MOM ms) (h9 : ms 0 ≤ tDay mt) : SpI l 2 yX7_soonest cX7_soonest 5 (some .int) [mr 0] (hM mt sd ms mg mk hn mh tr mx w9 t9 c9 g9) (fun z h => z = sooM (tDay mt - ms 0) ((tDay mt - ms 0).toNat + 1) 0 (ms 1) (ms 2) ∧ h = hM mt sd ms mg mk hn mh tr mx w9 t9 c9 g9) := by
  have hT1 := hT.1
  have hM1 := hQ.1
  have hM2 := hQ.2.1
  have hM3 := hQ.2.2.1
  refine SpI.of (cd := kdX7_soonest) (fT := mlook flX7) (kT := mlook klX7) (kJ := mlook jlX7) mfA_X7_soonest ok_X7_soonest fT_X7 kT_X7 jT_X7 jdk_ok True.intro (Nat.le_of_ble_eq_true rfl) (fun G hG => ?_)
  refine rRun hG 16 ?_
  refine And.intro rfl (And.intro (by first | omega | (dsimp only [Int.reduceToNat]; omega)) (And.intro rfl (And.intro (by first | omega | (dsimp only [Int.reduceToNat]; omega)) (?_))))
  have J16 : ∀ (n : Nat) (k1 : Nat) (er rs : Int), ((k1 : Int) ≤ tDay mt - ms 0 ∧ (-9 ≤ er ∧ er ≤ 9) ∧ (0 ≤ rs ∧ rs ≤ 99) ∧ sooM (tDay mt - ms 0) ((tDay mt - ms 0).toNat + 1 - k1) k1 rs er = sooM (tDay mt - ms 0) ((tDay mt - ms 0).toNat + 1) 0 (ms 1) (ms 2)) → ((tDay mt - ms 0).toNat + 1) - k1 < n → G 16 [some (mr 0), some (mi rs), some (mi er), some (mi k1), none] [] (hM mt sd ms mg mk hn mh tr mx w9 t9 c9 g9) := by
    intro n
    induction n with
    | zero => intro k1 er rs _ hm; exact absurd hm (Nat.not_lt_zero _)
    | succ n ih =>
      intro k1 er rs hinv hm
      refine rRun hG 99999 ?_
      refine And.intro (by first | omega | (dsimp only [Int.reduceToNat]; omega)) (And.intro (fun c1 => ?_) (fun c1 => ?_))
      · try dsimp only [Int.reduceToNat] at c1
        refine rRun hG 99999 ?_
        refine And.intro (by first | omega | (dsimp only [Int.reduceToNat]; omega)) (And.intro (fun c2 => ?_) (fun c2 => ?_))
        · try dsimp only [Int.reduceToNat] at c2
          refine rRun hG 99999 ?_
          refine rIR hG rfl rfl (True.intro) ?_
          refine ⟨?_, rfl⟩
          rw [← hinv.2.2.2]
          rw [show (tDay mt - ms 0).toNat + 1 - k1 = ((tDay mt - ms 0).toNat - k1) + 1 by omega, sooM_s, if_neg (by omega)]
          first | (rw [if_pos (by omega)]; done) | (rw [if_neg (by omega)]; done)
        · try dsimp only [Int.reduceToNat] at c2
          refine rIR hG rfl rfl (True.intro) ?_
          refine ⟨?_, rfl⟩
          rw [← hinv.2.2.2]
          rw [show (tDay mt - ms 0).toNat + 1 - k1 = ((tDay mt - ms 0).toNat - k1) + 1 by omega, sooM_s, if_neg (by omega)]
          first | (rw [if_pos (by omega)]; done) | (rw [if_neg (by omega)]; done)
      · try dsimp only [Int.reduceToNat] at c1
        refine And.intro rfl (And.intro rfl (And.intro (by first | omega | (dsimp only [Int.reduceToNat]; omega)) (And.intro (by first | omega | (dsimp only [Int.reduceToNat]; omega)) (And.intro (fun c3 => ?_) (fun c3 => ?_)))))
        · try dsimp only [Int.reduceToNat] at c3
          refine rRun hG 99999 ?_
          refine And.intro (by first | omega | (dsimp only [Int.reduceToNat]; omega)) (And.intro (fun c4 => ?_) (fun c4 => ?_))
          · try dsimp only [Int.reduceToNat] at c4
            refine rRun hG 99999 ?_
            refine rIR hG rfl rfl (True.intro) ?_
            refine ⟨?_, rfl⟩
            rw [← hinv.2.2.2]
            rw [show (tDay mt - ms 0).toNat + 1 - k1 = ((tDay mt - ms 0).toNat - k1) + 1 by omega, sooM_s, if_neg (by omega)]
            first | (rw [if_pos (by omega)]; done) | (rw [if_neg (by omega)]; done)
          · try dsimp only [Int.reduceToNat] at c4
            refine rIR hG rfl rfl (True.intro) ?_
            refine ⟨?_, rfl⟩
            rw [← hinv.2.2.2]
            rw [show (tDay mt - ms 0).toNat + 1 - k1 = ((tDay mt - ms 0).toNat - k1) + 1 by omega, sooM_s, if_neg (by omega)]
            first | (rw [if_pos (by omega)]; done) | (rw [if_neg (by omega)]; done)
        · try dsimp only [Int.reduceToNat] at c3
          refine And.intro (by first | omega | (dsimp only [Int.reduceToNat]; omega)) (And.intro (fun c5 => ?_) (fun c5 => ?_))
          · try dsimp only [Int.reduceToNat] at c5
            refine rRun hG 99999 ?_
            refine rS hG (sp_X7_restBehind (r := rs) (by omega) (by omega)) rfl rfl lk_X7_182 mf_X7_restBehind (by decide) (Nat.le_of_ble_eq_true rfl) ?_
            rintro _ _ ⟨rfl, rfl⟩
            refine rRun hG 99999 ?_
            refine rLess hG ?_ (ih (k1 + 1) (er + min 3 (9 - er)) (max 0 (rs - 4 - min 3 (9 - er))) ⟨?_, ?_, ?_, ?_⟩ ?_)
            · refine ⟨rfl, congrArg mi ?_, congrArg mi ?_, rfl, True.intro⟩
              · first | omega | (dsimp only; omega)
              · first | omega | (dsimp only; omega)
            · omega
            · omega
            · omega
            · rw [← hinv.2.2.2]
              rw [show (tDay mt - ms 0).toNat + 1 - k1 = ((tDay mt - ms 0).toNat + 1 - (k1 + 1)) + 1 by omega, sooM_s, if_pos (by omega)]
            · omega
          · try dsimp only [Int.reduceToNat] at c5
            refine rRun hG 99999 ?_
            refine rS hG (sp_X7_restBehind (r := rs) (by omega) (by omega)) rfl rfl lk_X7_182 mf_X7_restBehind (by decide) (Nat.le_of_ble_eq_true rfl) ?_
            rintro _ _ ⟨rfl, rfl⟩
            refine rRun hG 99999 ?_
            refine rLess hG ?_ (ih (k1 + 1) (er + min 3 (9 - er)) (max 0 (rs - 4 - min 3 (9 - er))) ⟨?_, ?_, ?_, ?_⟩ ?_)
            · refine ⟨rfl, congrArg mi ?_, congrArg mi ?_, rfl, True.intro⟩
              · first | omega | (dsimp only; omega)
              · first | omega | (dsimp only; omega)
            · omega
            · omega
            · omega
            · rw [← hinv.2.2.2]
              rw [show (tDay mt - ms 0).toNat + 1 - k1 = ((tDay mt - ms 0).toNat + 1 - (k1 + 1)) + 1 by omega, sooM_s, if_pos (by omega)]
            · omega
  exact J16 _ 0 (ms 2) (ms 1) ⟨by omega, by omega, by omega, rfl⟩ (Nat.lt_succ_self _)
set_option maxRecDepth 20000 in
set_option maxHeartbeats 1000000 in
theorem sp_X7_catches {mt sd : TD} {ms mg mk : FN} {hn : Int} {mh : FN} {tr : Int} {mx : XD} {w9 t9 c9 g9 : FN} {pace : Int} (hT : TOK mt) (hQ : MOM ms) (h9 : ms 0 ≤ tDay mt) (h1 : inI pace) : SpI l 3 yX7_catches cX7_catches 5 (some .int) [mr 0, mi pace] (hM mt sd ms mg mk hn mh tr mx w9 t9 c9 g9) (fun z h => (¬ (-2 ≤ pace ∧ pace ≤ 3) ∧ z = -1 ∧ h = hM mt sd ms mg mk hn mh tr mx w9 t9 c9 g9) ∨ ((-2 ≤ pace ∧ pace ≤ 3) ∧ (ms 0 = tDay mt ∨ ms 1 = 0) ∧ z = -9 ∧ h = hM mt sd ms mg mk hn mh tr mx w9 t9 c9 g9) ∨ ((-2 ≤ pace ∧ pace ≤ 3) ∧ ¬ (ms 0 = tDay mt ∨ ms 1 = 0) ∧ z = catM (tLim mt) pace ((tDay mt - ms 0).toNat + 1) 0 (ms 2) (ms 1) ∧ h = hM mt sd ms mg mk hn mh tr mx w9 t9 c9 g9)) := by
  have hT1 := hT.1
  have hM1 := hQ.1
  have hM2 := hQ.2.1
  have hM3 := hQ.2.2.1
  have hT5 : 0 ≤ tLim mt ∧ tLim mt ≤ 6 := hT.2.2.2.2.1
  refine SpI.of (cd := kdX7_catches) (fT := mlook flX7) (kT := mlook klX7) (kJ := mlook jlX7) mfA_X7_catches ok_X7_catches fT_X7 kT_X7 jT_X7 jdk_ok True.intro (Nat.le_of_ble_eq_true rfl) (fun G hG => ?_)
  refine rRun hG 36 ?_
  refine rS hG (sp_X7_isPace (v := pace) h1) rfl rfl lk_X7_173 mf_X7_isPace (by decide) (Nat.le_of_ble_eq_true rfl) ?_
  rintro w1 _ ⟨hw1, rfl⟩
  have w11 : (w1 = 1 ∧ (-2 ≤ pace ∧ pace ≤ 3)) ∨ (w1 = 0 ∧ ¬ (-2 ≤ pace ∧ pace ≤ 3)) := (by rw [hw1]; by_cases q9 : (-2 ≤ pace ∧ pace ≤ 3) <;> simp [q9])
  clear hw1
  refine rRun hG 36 ?_
  refine And.intro (by first | omega | (dsimp only [Int.reduceToNat]; omega)) (And.intro (fun c2 => ?_) (fun c2 => ?_))
  · try dsimp only [Int.reduceToNat] at c2
    refine rRun hG 36 ?_
    refine rV hG (sp_X7_isDone (mt := mt) (sd := sd) (ms := ms) (mg := mg) (mk := mk) (hn := hn) (mh := mh) (tr := tr) (mx := mx) (w9 := w9) (t9 := t9) (c9 := c9) (g9 := g9) (by omega) (by omega) (by omega)) rfl rfl lk_X7_176 mf_X7_isDone (by decide) (Nat.le_of_ble_eq_true rfl) ⟨_, _, _, rfl, rfl, rfl⟩ ?_
    rintro w2 _ ⟨hw2, rfl⟩
    have w21 : (w2 = 1 ∧ (ms 0 = tDay mt ∨ ms 1 = 0)) ∨ (w2 = 0 ∧ ¬ (ms 0 = tDay mt ∨ ms 1 = 0)) := (by rw [hw2]; by_cases q9 : (ms 0 = tDay mt ∨ ms 1 = 0) <;> simp [q9])
    clear hw2
    refine rRun hG 36 ?_
    refine And.intro (by first | omega | (dsimp only [Int.reduceToNat]; omega)) (And.intro (fun c4 => ?_) (fun c4 => ?_))
    · try dsimp only [Int.reduceToNat] at c4
      refine rRun hG 36 ?_
      refine And.intro rfl (And.intro (by first | omega | (dsimp only [Int.reduceToNat]; omega)) (And.intro rfl (And.intro (by first | omega | (dsimp only [Int.reduceToNat]; omega)) (?_))))
      have J36 : ∀ (n : Nat) (k1 : Nat) (er rs : Int), ((k1 : Int) ≤ tDay mt - ms 0 + 1 ∧ (-100 - 50 * k1 ≤ er ∧ er ≤ 100 + 50 * k1) ∧ (0 ≤ rs ∧ rs ≤ 99) ∧ catM (tLim mt) pace ((tDay mt - ms 0).toNat + 1 - k1) k1 er rs = catM (tLim mt) pace ((tDay mt - ms 0).toNat + 1) 0 (ms 2) (ms 1)) → ((tDay mt - ms 0).toNat + 1) - k1 < n → G 36 [some (mr 0), some (mi pace), some (mi er), some (mi rs), some (mi k1)] [] (hM mt sd ms mg mk hn mh tr mx w9 t9 c9 g9) := by
        intro n
        induction n with
        | zero => intro k1 er rs _ hm; exact absurd hm (Nat.not_lt_zero _)
        | succ n ih =>
          intro k1 er rs hinv hm
          refine rRun hG 99999 ?_
          refine And.intro rfl (And.intro rfl (And.intro (by first | omega | (dsimp only [Int.reduceToNat]; omega)) (And.intro (by first | omega | (dsimp only [Int.reduceToNat]; omega)) (And.intro (fun c5 => ?_) (fun c5 => ?_)))))
          · try dsimp only [Int.reduceToNat] at c5
            refine rRun hG 99999 ?_
            refine rIR hG rfl rfl (True.intro) ?_
            refine Or.inr (Or.inr ⟨by omega, by omega, ?_, rfl⟩)
            rw [← hinv.2.2.2]
            rw [show (tDay mt - ms 0).toNat + 1 - k1 = 0 by omega]
            rfl
          · try dsimp only [Int.reduceToNat] at c5
            refine rS hG (sp_X7_size (v := er) (by omega)) rfl rfl lk_X7_164 mf_X7_size (by decide) (Nat.le_of_ble_eq_true rfl) ?_
            rintro _ _ ⟨rfl, rfl⟩
            refine rRun hG 99999 ?_
            refine And.intro (by first | omega | (dsimp only [Int.reduceToNat]; omega)) (And.intro (fun c7 => ?_) (fun c7 => ?_))
            · try dsimp only [Int.reduceToNat] at c7
              refine rRun hG 99999 ?_
              refine rS hG (sp_X7_size (v := er) (by omega)) rfl rfl lk_X7_164 mf_X7_size (by decide) (Nat.le_of_ble_eq_true rfl) ?_
              rintro _ _ ⟨rfl, rfl⟩
              refine rRun hG 99999 ?_
              refine And.intro rfl (And.intro (by first | omega | (dsimp only [Int.reduceToNat]; omega)) (And.intro (fun c9 => ?_) (fun c9 => ?_)))
              · try dsimp only [Int.reduceToNat] at c9
                refine rRun hG 99999 ?_
                refine And.intro (by first | omega | (dsimp only [Int.reduceToNat]; omega)) (And.intro (fun c10 => ?_) (fun c10 => ?_))
                · try dsimp only [Int.reduceToNat] at c10
                  refine rRun hG 99999 ?_
                  refine rS hG (sp_X7_restBehind (r := rs) (p := pace) (by omega) (by omega)) rfl rfl lk_X7_182 mf_X7_restBehind (by decide) (Nat.le_of_ble_eq_true rfl) ?_
                  rintro _ _ ⟨rfl, rfl⟩
                  refine rRun hG 99999 ?_
                  refine rLess hG ?_ (ih (k1 + 1) (er + pace) (max 0 (rs - 4 - pace)) ⟨?_, ?_, ?_, ?_⟩ ?_)
                  · exact ⟨rfl, rfl, rfl, rfl, rfl, True.intro⟩
                  · omega
                  · omega
                  · omega
                  · rw [← hinv.2.2.2]
                    rw [show (tDay mt - ms 0).toNat + 1 - k1 = ((tDay mt - ms 0).toNat + 1 - (k1 + 1)) + 1 by omega, catM_s, if_neg (by omega), if_neg (by omega), if_neg (by omega)]
                  · omega
                · try dsimp only [Int.reduceToNat] at c10
                  refine rIR hG rfl rfl (True.intro) ?_
                  refine Or.inr (Or.inr ⟨by omega, by omega, ?_, rfl⟩)
                  rw [← hinv.2.2.2]
                  rw [show (tDay mt - ms 0).toNat + 1 - k1 = ((tDay mt - ms 0).toNat - k1) + 1 by omega, catM_s, if_neg (by omega), if_neg (by omega), if_pos (by omega)]
              · try dsimp only [Int.reduceToNat] at c9
                refine rIR hG rfl rfl (True.intro) ?_
                refine Or.inr (Or.inr ⟨by omega, by omega, ?_, rfl⟩)
                rw [← hinv.2.2.2]
                rw [show (tDay mt - ms 0).toNat + 1 - k1 = ((tDay mt - ms 0).toNat - k1) + 1 by omega, catM_s, if_neg (by omega), if_pos (by omega)]
            · try dsimp only [Int.reduceToNat] at c7
              refine rIR hG rfl rfl (True.intro) ?_
              refine Or.inr (Or.inr ⟨by omega, by omega, ?_, rfl⟩)
              rw [← hinv.2.2.2]
              rw [show (tDay mt - ms 0).toNat + 1 - k1 = ((tDay mt - ms 0).toNat - k1) + 1 by omega, catM_s, if_pos (by omega)]
      exact J36 _ 0 (ms 2) (ms 1) ⟨by omega, by omega, by omega, rfl⟩ (Nat.lt_succ_self _)
    · try dsimp only [Int.reduceToNat] at c4
      refine rIR hG rfl rfl (True.intro) ?_
      exact Or.inr (Or.inl ⟨by omega, by omega, rfl, rfl⟩)
  · try dsimp only [Int.reduceToNat] at c2
    refine rIR hG rfl rfl (True.intro) ?_
    exact Or.inl ⟨by omega, rfl, rfl⟩
set_option maxRecDepth 20000 in
set_option maxHeartbeats 1000000 in
theorem sp_X7_lowest {hh : mH} {a b w : Int} (h1 : 0 ≤ a ∧ a ≤ 2147483647) (h2 : 0 ≤ b ∧ b ≤ 2147483647) (h3 : 0 < a ∨ 0 < b) (h4 : inI w) : SpI l 1 yX7_lowest cX7_lowest 6 (some .int) [mi a, mi b, mi w] (hh) (fun z h => z = (if w = 0 then a else b) / ((Nat.gcd b.toNat a.toNat : Nat) : Int) ∧ h = hh) := by
  refine SpI.of (cd := kdX7_lowest) (fT := mlook flX7) (kT := mlook klX7) (kJ := mlook jlX7) mfA_X7_lowest ok_X7_lowest fT_X7 kT_X7 jT_X7 jdk_ok True.intro (Nat.le_of_ble_eq_true rfl) (fun G hG => ?_)
  refine rRun hG 5 ?_
  have J5 : ∀ (n : Nat) (a1 b1 : Int), ((0 ≤ a1 ∧ a1 ≤ 2147483647) ∧ (0 ≤ b1 ∧ b1 ≤ 2147483647) ∧ (0 < a1 ∨ 0 < b1) ∧ Nat.gcd b1.toNat a1.toNat = Nat.gcd b.toNat a.toNat) → b1.toNat < n → G 5 [some (mi a), some (mi b), some (mi w), some (mi a1), some (mi b1), none] [] (hh) := by
    intro n
    induction n with
    | zero => intro a1 b1 _ hm; exact absurd hm (Nat.not_lt_zero _)
    | succ n ih =>
      intro a1 b1 hinv hm
      refine rRun hG 99999 ?_
      refine And.intro (by first | omega | (dsimp only [Int.reduceToNat]; omega)) (And.intro (fun c1 => ?_) (fun c1 => ?_))
      · try dsimp only [Int.reduceToNat] at c1
        refine rRun hG 99999 ?_
        refine And.intro (by first | omega | (dsimp only [Int.reduceToNat]; omega)) (And.intro (fun c2 => ?_) (fun c2 => ?_))
        · try dsimp only [Int.reduceToNat] at c2
          refine rRun hG 99999 ?_
          refine And.intro (by omega) (?_)
          refine rIR hG rfl rfl (True.intro) ?_
          refine ⟨?_, rfl⟩
          have e0 : b1 = 0 := by omega
          subst e0
          have e1 : (a1 : Int) = (Nat.gcd b.toNat a.toNat : Nat) := by rw [← hinv.2.2.2]; simp; omega
          rw [← e1]
          first | (rw [if_pos (by omega)]; done) | (rw [if_neg (by omega)]; done)
        · try dsimp only [Int.reduceToNat] at c2
          refine rRun hG 99999 ?_
          refine And.intro (by omega) (?_)
          refine rIR hG rfl rfl (True.intro) ?_
          refine ⟨?_, rfl⟩
          have e0 : b1 = 0 := by omega
          subst e0
          have e1 : (a1 : Int) = (Nat.gcd b.toNat a.toNat : Nat) := by rw [← hinv.2.2.2]; simp; omega
          rw [← e1]
          first | (rw [if_pos (by omega)]; done) | (rw [if_neg (by omega)]; done)
      · try dsimp only [Int.reduceToNat] at c1
        refine And.intro (by first | omega | (dsimp only [Int.reduceToNat]; omega)) (?_)
        have hq : 0 ≤ a1 % b1 ∧ a1 % b1 < b1 := ⟨Int.emod_nonneg _ (by omega), Int.emod_lt_of_pos _ (by omega)⟩
        refine rLess hG ?_ (ih b1 (a1 % b1) ⟨by omega, by omega, by omega, ?_⟩ (by omega))
        · exact ⟨rfl, rfl, rfl, rfl, rfl, True.intro⟩
        · rw [← hinv.2.2.2, Int.toNat_emod (by omega) (by omega), ← Nat.gcd_rec]
  exact J5 _ _ _ ⟨by omega, by omega, by omega, rfl⟩ (Nat.lt_succ_self _)
set_option maxRecDepth 20000 in
set_option maxHeartbeats 1000000 in
theorem sp_X7_forget {mt sd : TD} {ms mg mk : FN} {hn : Int} {mh : FN} {tr : Int} {mx : XD} {w9 t9 c9 g9 : FN}   : SpI l 1 yX7_forget cX7_forget 2 (some .int) [mr 0] (hM mt sd ms mg mk hn mh tr mx w9 t9 c9 g9) (fun z h => z = hn ∧ h = hM mt sd ms mg mk 0 mh tr mx w9 t9 c9 g9) := by
  refine SpI.of (cd := kdX7_forget) (fT := mlook flX7) (kT := mlook klX7) (kJ := mlook jlX7) mfA_X7_forget ok_X7_forget fT_X7 kT_X7 jT_X7 jdk_ok True.intro (Nat.le_of_ble_eq_true rfl) (fun G hG => ?_)
  refine rRun hG 99999 ?_
  refine And.intro rfl (And.intro ⟨rfl, by exact Nat.le_of_ble_eq_true rfl, by first | exact True.intro | exact Or.inl rfl | exact Or.inr rfl⟩ (?_))
  refine rIR hG rfl rfl (True.intro) ?_
  exact ⟨rfl, rfl⟩
set_option maxRecDepth 20000 in
set_option maxHeartbeats 1000000 in
theorem sp_X7_hears {mt sd : TD} {ms mg mk : FN} {hn : Int} {mh : FN} {tr : Int} {mx : XD} {w9 t9 c9 g9 : FN} {d e w : Int} (h1 : inI d) (h2 : inI e) (h3 : inI w) (h4 : 0 ≤ hn ∧ hn ≤ 6) : SpI l 2 yX7_hears cX7_hears 4 (some .int) [mr 0, mi d, mi e, mi w] (hM mt sd ms mg mk hn mh tr mx w9 t9 c9 g9) (fun z h => (¬ ((0 ≤ d ∧ d ≤ 13) ∧ (-9 ≤ e ∧ e ≤ 9) ∧ (0 ≤ w ∧ w ≤ 3)) ∧ z = -1 ∧ h = hM mt sd ms mg mk hn mh tr mx w9 t9 c9 g9) ∨ (((0 ≤ d ∧ d ≤ 13) ∧ (-9 ≤ e ∧ e ≤ 9) ∧ (0 ≤ w ∧ w ≤ 3)) ∧ hn = 6 ∧ z = -3 ∧ h = hM mt sd ms mg mk hn mh tr mx w9 t9 c9 g9) ∨ (((0 ≤ d ∧ d ≤ 13) ∧ (-9 ≤ e ∧ e ≤ 9) ∧ (0 ≤ w ∧ w ≤ 3)) ∧ ¬ hn = 6 ∧ z = hn + 1 ∧ h = hM mt sd ms mg mk (hn + 1) (mup (mup (mup mh (3 * hn).toNat d) (3 * hn + 1).toNat e) (3 * hn + 2).toNat w) tr mx w9 t9 c9 g9)) := by
  refine SpI.of (cd := kdX7_hears) (fT := mlook flX7) (kT := mlook klX7) (kJ := mlook jlX7) mfA_X7_hears ok_X7_hears fT_X7 kT_X7 jT_X7 jdk_ok True.intro (Nat.le_of_ble_eq_true rfl) (fun G hG => ?_)
  refine rRun hG 99999 ?_
  refine rS hG (sp_X7_in (v := d) (a := 0) (b := 13) (by omega)) rfl rfl lk_X7_66 mf_X7_in (by decide) (Nat.le_of_ble_eq_true rfl) ?_
  rintro w1 _ ⟨hw1, rfl⟩
  have w11 : (w1 = 1 ∧ (0 ≤ d ∧ d ≤ 13)) ∨ (w1 = 0 ∧ ¬ (0 ≤ d ∧ d ≤ 13)) := (by rw [hw1]; by_cases q9 : (0 ≤ d ∧ d ≤ 13) <;> simp [q9])
  clear hw1
  refine rRun hG 99999 ?_
  refine And.intro (by first | omega | (dsimp only [Int.reduceToNat]; omega)) (And.intro (fun c2 => ?_) (fun c2 => ?_))
  · try dsimp only [Int.reduceToNat] at c2
    refine rRun hG 99999 ?_
    refine rIR hG rfl rfl (True.intro) ?_
    exact Or.inl ⟨by omega, rfl, rfl⟩
  · try dsimp only [Int.reduceToNat] at c2
    refine rS hG (sp_X7_in (v := e) (a := (-9)) (b := 9) (by omega)) rfl rfl lk_X7_66 mf_X7_in (by decide) (Nat.le_of_ble_eq_true rfl) ?_
    rintro w2 _ ⟨hw2, rfl⟩
    have w21 : (w2 = 1 ∧ ((-9) ≤ e ∧ e ≤ 9)) ∨ (w2 = 0 ∧ ¬ ((-9) ≤ e ∧ e ≤ 9)) := (by rw [hw2]; by_cases q9 : ((-9) ≤ e ∧ e ≤ 9) <;> simp [q9])
    clear hw2
    refine rRun hG 99999 ?_
    refine And.intro (by first | omega | (dsimp only [Int.reduceToNat]; omega)) (And.intro (fun c4 => ?_) (fun c4 => ?_))
    · try dsimp only [Int.reduceToNat] at c4
      refine rRun hG 99999 ?_
      refine rIR hG rfl rfl (True.intro) ?_
      exact Or.inl ⟨by omega, rfl, rfl⟩
    · try dsimp only [Int.reduceToNat] at c4
      refine rS hG (sp_X7_in (v := w) (a := 0) (b := 3) (by omega)) rfl rfl lk_X7_66 mf_X7_in (by decide) (Nat.le_of_ble_eq_true rfl) ?_
      rintro w3 _ ⟨hw3, rfl⟩
      have w31 : (w3 = 1 ∧ (0 ≤ w ∧ w ≤ 3)) ∨ (w3 = 0 ∧ ¬ (0 ≤ w ∧ w ≤ 3)) := (by rw [hw3]; by_cases q9 : (0 ≤ w ∧ w ≤ 3) <;> simp [q9])
      clear hw3
      refine rRun hG 99999 ?_
      refine And.intro (by first | omega | (dsimp only [Int.reduceToNat]; omega)) (And.intro (fun c6 => ?_) (fun c6 => ?_))
      · try dsimp only [Int.reduceToNat] at c6
        refine rRun hG 99999 ?_
        refine And.intro rfl (And.intro (by first | omega | (dsimp only [Int.reduceToNat]; omega)) (And.intro (fun c7 => ?_) (fun c7 => ?_)))
        · try dsimp only [Int.reduceToNat] at c7
          refine rRun hG 99999 ?_
          refine And.intro rfl (And.intro rfl (And.intro (by first | omega | (dsimp only [Int.reduceToNat]; omega)) (And.intro rfl (And.intro rfl (And.intro (by first | omega | (dsimp only [Int.reduceToNat]; omega)) (And.intro rfl (And.intro rfl (And.intro (by first | omega | (dsimp only [Int.reduceToNat]; omega)) (And.intro rfl (And.intro ⟨rfl, by exact Nat.le_of_ble_eq_true rfl, by first | exact True.intro | exact Or.inl rfl | exact Or.inr rfl⟩ (And.intro rfl (?_))))))))))))
          refine rIR hG rfl rfl (True.intro) ?_
          exact Or.inr (Or.inr ⟨by omega, by omega, rfl, rfl⟩)
        · try dsimp only [Int.reduceToNat] at c7
          refine rIR hG rfl rfl (True.intro) ?_
          exact Or.inr (Or.inl ⟨by omega, by omega, rfl, rfl⟩)
      · try dsimp only [Int.reduceToNat] at c6
        refine rIR hG rfl rfl (True.intro) ?_
        exact Or.inl ⟨by omega, rfl, rfl⟩
end WALKS
