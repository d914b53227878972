/-! the reference: chance, safe, least -/
section WALKS
variable {l : Launch}
def mfold (t : TD) (kd : Int) (ms : FN) (dn : Int) : Int × Int := foldB (bsV t (MW t kd (ms 0) dn (dn.toNat - 1)) kd (ms 0) (ms 1) (ms 2)) (-1000000) 6
theorem bsV_pos {t : TD} (hT : TOK t) {V : Int → Int → Int} (hV : ∀ r e, -9 ≤ e ∧ e ≤ 9 → 0 ≤ V r e) {day r e p : Int} (h1 : 0 ≤ day ∧ day ≤ 13) (h2 : max (e + p) (-(e + p)) ≤ 9) : 0 ≤ bsV t V 0 day r e p := by
  have hs : 0 ≤ wbS t day (e + p) ∧ wbS t day (e + p) ≤ 10 := by
    have := hT.2.2.2.2.2.2.1 day.toNat (by omega)
    unfold wbS; split <;> omega
  unfold bsV
  rw [if_pos h2]
  unfold wbV
  rw [if_pos rfl]
  have a := Int.mul_nonneg hs.1 (hV (min 99 (max 0 (r - 4 - p) + tAdd t)) 0 (by omega))
  have b := Int.mul_nonneg (show 0 ≤ 10 - wbS t day (e + p) by omega) (hV (max 0 (r - 4 - p)) (e + p) (by omega))
  omega
theorem fold0_pos {t : TD} (hT : TOK t) {V : Int → Int → Int} (hV : ∀ r e, -9 ≤ e ∧ e ≤ 9 → 0 ≤ V r e) {day r e : Int} (h1 : 0 ≤ day ∧ day ≤ 13) (h2 : -9 ≤ e ∧ e ≤ 9) : 0 ≤ (foldB (bsV t V 0 day r e) (-1000000) 6).1 := by
  have a := foldB_ge (g := bsV t V 0 day r e) (b0 := -1000000) 6 2 (by omega)
  have b := bsV_pos hT hV (day := day) (r := r) (e := e) (p := ((2 : Nat) : Int) - 2) h1 (by omega)
  omega
theorem mfree_in0 (j : Nat) : 0 ≤ mfree 0 j := by
  unfold mfree
  rw [if_pos rfl]
  exact Int.pow_nonneg (by decide)
theorem MW_pos {t : TD} (hT : TOK t) {D0 n : Int} (h0 : 0 ≤ D0 ∧ D0 + n ≤ 14) : ∀ j : Nat, (j : Int) ≤ n → ∀ r e, -9 ≤ e ∧ e ≤ 9 → 0 ≤ MW t 0 D0 n j r e
  | 0, _, r, e, _ => by
    show 0 ≤ (if r = 0 then mfree 0 0 else mover 0)
    unfold mfree mover
    split <;> simp
  | j + 1, hj, r, e, he => by
    rw [MW_s]
    split
    · exact (mfree_in0 (j + 1))
    · exact fold0_pos hT (MW_pos hT h0 j (by omega)) (by omega) he
theorem mfold_in {t : TD} (hT : TOK t) {kd : Int} {ms : FN} {dn : Int} (h0 : 0 ≤ ms 0 ∧ ms 0 + dn ≤ 14) (h1 : 1 ≤ dn) (h8 : kd = 0 → dn ≤ 8) : -1000000 ≤ (mfold t kd ms dn).1 ∧ (mfold t kd ms dn).1 ≤ mwB kd dn.toNat := by
  have hB := mwB_s (kd := kd) (j := dn.toNat - 1)
  refine foldB_up (by have := (mwB_s (kd := kd) (j := dn.toNat)).1; omega) (fun p hp => ?_) 6 (Nat.le_refl _)
  have hq := bsV_up hT (V := MW t kd (ms 0) dn (dn.toNat - 1)) (M := mwB kd (dn.toNat - 1)) (kd := kd) (day := ms 0) (r := ms 1) (e := ms 2) (p := p) hB.1 (fun r e => (MW_in hT h0 _ (by omega) r e).2) (by omega)
  rw [← hB.2, show dn.toNat - 1 + 1 = dn.toNat by omega] at hq
  exact hq
theorem mfold_pos {t : TD} (hT : TOK t) {ms : FN} {dn : Int} (h0 : 0 ≤ ms 0 ∧ ms 0 + dn ≤ 14) (h1 : 1 ≤ dn) (h2 : -9 ≤ ms 2 ∧ ms 2 ≤ 9) : 0 ≤ (mfold t 0 ms dn).1 := fold0_pos hT (MW_pos hT h0 _ (by omega)) (by omega) h2
def chaM (t : TD) (ms : FN) (dn w : Int) : Int := if ms 1 = 0 ∨ dn = 0 then (if w = 2 then -9 else if w = 1 ∨ ms 1 = 0 then 1 else 0) else if w = 2 then (mfold t 0 ms dn).2 else (if w = 0 then (mfold t 0 ms dn).1 else 10 ^ dn.toNat) / ((Nat.gcd ((10 : Int) ^ dn.toNat).toNat (mfold t 0 ms dn).1.toNat : Nat) : Int)
def safM (t : TD) (ms : FN) (w : Int) : Int := if ms 0 = tDay t ∨ ms 1 = 0 then (if w = 0 then 0 else -9) else if (mfold t 1 ms (tDay t - ms 0)).1 < 0 then -9 else if w = 0 then (mfold t 1 ms (tDay t - ms 0)).1 else (mfold t 1 ms (tDay t - ms 0)).2
def leaM (t : TD) (ms : FN) (dn w : Int) : Int := if ms 1 = 0 then (if w = 0 then 0 else -9) else if dn = 0 then -9 else if (mfold t 2 ms dn).1 = -1000000 then -9 else if w = 0 then -(mfold t 2 ms dn).1 else (mfold t 2 ms dn).2
set_option maxRecDepth 20000 in
set_option maxHeartbeats 2000000 in
theorem sp_X7_chance {mt sd : TD} {ms mg mk : FN} {hn : Int} {mh : FN} {tr : Int} {mx : XD} {w9 t9 c9 g9 : FN} {nn w : Int} (hT : TOK mt) (hQ : MOM ms) (h9 : ms 0 ≤ tDay mt) (h1 : inI nn) (h2 : inI w) : SpI l 7 yX7_chance cX7_chance 6 (some .int) [mr 0, mi nn, mi w] (hM mt sd ms mg mk hn mh tr mx w9 t9 c9 g9) (fun z h => (¬ (0 ≤ nn ∧ nn ≤ 8 ∧ 0 ≤ w ∧ w ≤ 2) ∧ z = -1000000 ∧ h = hM mt sd ms mg mk hn mh tr mx w9 t9 c9 g9) ∨ ((0 ≤ nn ∧ nn ≤ 8 ∧ 0 ≤ w ∧ w ≤ 2) ∧ z = chaM mt ms (min nn (tDay mt - ms 0)) w ∧ ∃ w5 t5 : FN, h = hM mt sd ms mg mk hn mh tr mx w5 t5 c9 g9)) := by
  have hT0 := hT.1
  have hQ0 := hQ.1
  have hQ1 := hQ.2.1
  have hQ2 := hQ.2.2.1
  refine SpI.of (cd := kdX7_chance) (fT := mlook flX7) (kT := mlook klX7) (kJ := mlook jlX7) mfA_X7_chance ok_X7_chance fT_X7 kT_X7 jT_X7 jdk_ok True.intro (Nat.le_of_ble_eq_true rfl) (fun G hG => ?_)
  refine rRun hG 90 ?_
  refine rS hG (sp_X7_in (v := nn) (a := 0) (b := 8) (by omega)) rfl rfl lk_X7_66 mf_X7_in (by decide) (Nat.le_of_ble_eq_true rfl) ?_
  rintro w1 _ ⟨hw1, rfl⟩
  have w11 : (w1 = 1 ∧ (0 ≤ nn ∧ nn ≤ 8)) ∨ (w1 = 0 ∧ ¬ (0 ≤ nn ∧ nn ≤ 8)) := (by rw [hw1]; by_cases q9 : (0 ≤ nn ∧ nn ≤ 8) <;> simp [q9])
  clear hw1
  refine rRun hG 90 ?_
  refine And.intro (by first | omega | (dsimp only [Int.reduceToNat]; omega)) (And.intro (fun c2 => ?_) (fun c2 => ?_))
  · try dsimp only [Int.reduceToNat] at c2
    refine rRun hG 90 ?_
    refine rIR hG rfl rfl (True.intro) ?_
    exact Or.inl ⟨by omega, rfl, rfl⟩
  · try dsimp only [Int.reduceToNat] at c2
    refine rS hG (sp_X7_in (v := w) (a := 0) (b := 2) (by omega)) rfl rfl lk_X7_66 mf_X7_in (by decide) (Nat.le_of_ble_eq_true rfl) ?_
    rintro w2 _ ⟨hw2, rfl⟩
    have w21 : (w2 = 1 ∧ (0 ≤ w ∧ w ≤ 2)) ∨ (w2 = 0 ∧ ¬ (0 ≤ w ∧ w ≤ 2)) := (by rw [hw2]; by_cases q9 : (0 ≤ w ∧ w ≤ 2) <;> simp [q9])
    clear hw2
    refine rRun hG 90 ?_
    refine And.intro (by first | omega | (dsimp only [Int.reduceToNat]; omega)) (And.intro (fun c4 => ?_) (fun c4 => ?_))
    · try dsimp only [Int.reduceToNat] at c4
      refine rRun hG 90 ?_
      refine rV hG (sp_X7_daysOf (mt := mt) (sd := sd) (ms := ms) (mg := mg) (mk := mk) (hn := hn) (mh := mh) (tr := tr) (mx := mx) (w9 := w9) (t9 := t9) (c9 := c9) (g9 := g9) (n := nn) hT hQ h1) rfl rfl lk_X7_220 mf_X7_daysOf (by decide) (Nat.le_of_ble_eq_true rfl) ⟨_, _, _, rfl, rfl, rfl⟩ ?_
      rintro _ _ ⟨rfl, rfl⟩
      refine rRun hG 90 ?_
      refine rV hG (sp_X7_isFree (mt := mt) (sd := sd) (ms := ms) (mg := mg) (mk := mk) (hn := hn) (mh := mh) (tr := tr) (mx := mx) (w9 := w9) (t9 := t9) (c9 := c9) (g9 := g9) (by omega)) rfl rfl lk_X7_161 mf_X7_isFree (by decide) (Nat.le_of_ble_eq_true rfl) ⟨_, _, _, rfl, rfl, rfl⟩ ?_
      rintro w3 _ ⟨hw3, rfl⟩
      have w31 : (w3 = 1 ∧ (ms 1 = 0)) ∨ (w3 = 0 ∧ ¬ (ms 1 = 0)) := (by rw [hw3]; by_cases q9 : (ms 1 = 0) <;> simp [q9])
      clear hw3
      refine rRun hG 90 ?_
      refine And.intro (by first | omega | (dsimp only [Int.reduceToNat]; omega)) (And.intro (fun c7 => ?_) (fun c7 => ?_))
      · try dsimp only [Int.reduceToNat] at c7
        refine rRun hG 90 ?_
        refine And.intro (by first | omega | (dsimp only [Int.reduceToNat]; omega)) (And.intro (fun c8 => ?_) (fun c8 => ?_))
        · try dsimp only [Int.reduceToNat] at c8
          refine rRun hG 90 ?_
          refine And.intro (by first | omega | (dsimp only [Int.reduceToNat]; omega)) (And.intro (fun c10 => ?_) (fun c10 => ?_))
          · try dsimp only [Int.reduceToNat] at c10
            refine rRun hG 90 ?_
            refine rIR hG rfl rfl (True.intro) ?_
            refine Or.inr ⟨by omega, ?_, w9, t9, rfl⟩
            unfold chaM
            rw [if_pos (show ms 1 = 0 ∨ (min nn (tDay mt - ms 0)) = 0 by omega)]
            (repeat' split) <;> omega
          · try dsimp only [Int.reduceToNat] at c10
            refine rV hG (sp_X7_isFree (mt := mt) (sd := sd) (ms := ms) (mg := mg) (mk := mk) (hn := hn) (mh := mh) (tr := tr) (mx := mx) (w9 := w9) (t9 := t9) (c9 := c9) (g9 := g9) (by omega)) rfl rfl lk_X7_161 mf_X7_isFree (by decide) (Nat.le_of_ble_eq_true rfl) ⟨_, _, _, rfl, rfl, rfl⟩ ?_
            rintro w4 _ ⟨hw4, rfl⟩
            have w41 : (w4 = 1 ∧ (ms 1 = 0)) ∨ (w4 = 0 ∧ ¬ (ms 1 = 0)) := (by rw [hw4]; by_cases q9 : (ms 1 = 0) <;> simp [q9])
            clear hw4
            refine rRun hG 90 ?_
            refine And.intro (by first | omega | (dsimp only [Int.reduceToNat]; omega)) (And.intro (fun c12 => ?_) (fun c12 => ?_))
            · try dsimp only [Int.reduceToNat] at c12
              refine rRun hG 90 ?_
              refine rIR hG rfl rfl (True.intro) ?_
              refine Or.inr ⟨by omega, ?_, w9, t9, rfl⟩
              unfold chaM
              rw [if_pos (show ms 1 = 0 ∨ (min nn (tDay mt - ms 0)) = 0 by omega)]
              (repeat' split) <;> omega
            · try dsimp only [Int.reduceToNat] at c12
              refine rIR hG rfl rfl (True.intro) ?_
              refine Or.inr ⟨by omega, ?_, w9, t9, rfl⟩
              unfold chaM
              rw [if_pos (show ms 1 = 0 ∨ (min nn (tDay mt - ms 0)) = 0 by omega)]
              (repeat' split) <;> omega
        · try dsimp only [Int.reduceToNat] at c8
          refine rIR hG rfl rfl (True.intro) ?_
          refine Or.inr ⟨by omega, ?_, w9, t9, rfl⟩
          unfold chaM
          rw [if_pos (show ms 1 = 0 ∨ (min nn (tDay mt - ms 0)) = 0 by omega)]
          (repeat' split) <;> omega
      · try dsimp only [Int.reduceToNat] at c7
        refine And.intro (by first | omega | (dsimp only [Int.reduceToNat]; omega)) (And.intro (fun c13 => ?_) (fun c13 => ?_))
        · try dsimp only [Int.reduceToNat] at c13
          refine rRun hG 90 ?_
          refine rVV hG (sp_X7_findWorths (mt := mt) (sd := sd) (ms := ms) (mg := mg) (mk := mk) (hn := hn) (mh := mh) (tr := tr) (mx := mx) (w9 := w9) (t9 := t9) (c9 := c9) (g9 := g9) (kd := 0) (n := (min nn (tDay mt - ms 0))) hT (by omega) (by omega) (by omega) (by omega)) rfl rfl lk_X7_223 mf_X7_findWorths (by decide) (Nat.le_of_ble_eq_true rfl) ⟨_, _, _, rfl, rfl, rfl⟩ ?_
          rintro _ ⟨w5, t5, ht5, rfl⟩
          have hW5 := MW_WOK hT (kd := 0) (D0 := ms 0) (n := (min nn (tDay mt - ms 0))) (by omega) (by omega) (j := ((min nn (tDay mt - ms 0))).toNat - 1) (by omega) ht5
          have hb5 := bsG_V hT ht5 (kd := 0) (day := ms 0) (r := ms 1) (e := ms 2) (by omega)
          have hi5 := mfold_in hT (kd := 0) (ms := ms) (dn := (min nn (tDay mt - ms 0))) (by omega) (by omega) (by omega)
          have hB5 := mwB_le (kd := 0) (j := ((min nn (tDay mt - ms 0))).toNat) (by omega) (by omega)
          refine rRun hG 90 ?_
          refine And.intro (by first | omega | (dsimp only [Int.reduceToNat]; omega)) (And.intro (fun c15 => ?_) (fun c15 => ?_))
          · try dsimp only [Int.reduceToNat] at c15
            refine rRun hG 90 ?_
            have J90 : ∀ (n : Nat) (k : Nat), (k : Int) ≤ (min nn (tDay mt - ms 0)) → (min nn (tDay mt - ms 0)).toNat - k < n → G 90 [some (mr 0), some (mi nn), some (mi w), some (mi (min nn (tDay mt - ms 0))), some (mi ((10 : Int) ^ k)), some (mi (k : Int))] [] (hM mt sd ms mg mk hn mh tr mx w5 t5 c9 g9) := by
              intro n
              induction n with
              | zero => intro k _ hm; exact absurd hm (Nat.not_lt_zero _)
              | succ n ih =>
                intro k hinv hm
                refine rRun hG 109 ?_
                refine And.intro (by first | omega | (dsimp only [Int.reduceToNat]; omega)) (And.intro (fun c16 => ?_) (fun c16 => ?_))
                · try dsimp only [Int.reduceToNat] at c16
                  obtain rfl : k = (min nn (tDay mt - ms 0)).toNat := by omega
                  have hten := ten_in (min nn (tDay mt - ms 0)).toNat (by omega)
                  have hpos := mfold_pos hT (ms := ms) (dn := (min nn (tDay mt - ms 0))) (by omega) (by omega) (by omega)
                  refine rRun hG 99999 ?_
                  refine And.intro rfl (And.intro (by first | omega | (dsimp only [Int.reduceToNat]; omega)) (And.intro rfl (And.intro (by first | omega | (dsimp only [Int.reduceToNat]; omega)) (And.intro rfl (And.intro (by first | omega | (dsimp only [Int.reduceToNat]; omega)) (?_))))))
                  refine rV hG (sp_X7_bestOf (mt := mt) (sd := sd) (ms := ms) (mg := mg) (mk := mk) (hn := hn) (mh := mh) (tr := tr) (mx := mx) (w9 := w5) (t9 := t5) (c9 := c9) (g9 := g9) (kd := 0) (day := ms 0) (r := ms 1) (e := ms 2) hT hW5 (by omega) (by omega) (by omega) (by omega)) rfl rfl lk_X7_216 mf_X7_bestOf (by decide) (Nat.le_of_ble_eq_true rfl) ⟨_, _, _, rfl, rfl, rfl⟩ ?_
                  rintro _ _ ⟨rfl, rfl⟩
                  rw [hb5]
                  rw [show foldB (bsV mt (MW mt 0 (ms 0) ((min nn (tDay mt - ms 0))) (((min nn (tDay mt - ms 0))).toNat - 1)) 0 (ms 0) (ms 1) (ms 2)) (-1000000) 6 = mfold mt 0 ms ((min nn (tDay mt - ms 0))) from rfl]
                  refine rRun hG 99999 ?_
                  refine rS hG (sp_X7_lowest (a := (mfold mt 0 ms (min nn (tDay mt - ms 0))).1) (b := (10 : Int) ^ (min nn (tDay mt - ms 0)).toNat) (w := w) (by omega) (by omega) (by omega) h2) rfl rfl lk_X7_230 mf_X7_lowest (by decide) (Nat.le_of_ble_eq_true rfl) ?_
                  rintro _ _ ⟨rfl, rfl⟩
                  refine rIR hG rfl rfl (True.intro) ?_
                  refine Or.inr ⟨by omega, ?_, w5, t5, rfl⟩
                  unfold chaM
                  rw [if_neg (show ¬ (ms 1 = 0 ∨ (min nn (tDay mt - ms 0)) = 0) by omega), if_neg (show ¬ w = 2 by omega)]
                · try dsimp only [Int.reduceToNat] at c16
                  refine rLess hG ?_ (ih (k + 1) (by omega) (by omega))
                  exact ⟨rfl, rfl, rfl, rfl, congrArg mi (by rw [Int.pow_succ]), rfl, True.intro⟩
            refine rLess hG ?_ (J90 _ 0 (by omega) (Nat.lt_succ_self _))
            exact ⟨rfl, rfl, rfl, rfl, rfl, rfl, True.intro⟩
          · try dsimp only [Int.reduceToNat] at c15
            refine rV hG (sp_X7_paceBy (mt := mt) (sd := sd) (ms := ms) (mg := mg) (mk := mk) (hn := hn) (mh := mh) (tr := tr) (mx := mx) (w9 := w5) (t9 := t5) (c9 := c9) (g9 := g9) (kd := 0) hT hQ hW5 (by omega) (by omega)) rfl rfl lk_X7_227 mf_X7_paceBy (by decide) (Nat.le_of_ble_eq_true rfl) ⟨_, _, _, rfl, rfl, rfl⟩ ?_
            rintro _ _ ⟨rfl, rfl⟩
            rw [hb5]
            refine rIR hG rfl rfl (True.intro) ?_
            refine Or.inr ⟨by omega, ?_, w5, t5, rfl⟩
            unfold chaM
            rw [if_neg (by omega), if_pos (by omega)]
            rfl
        · try dsimp only [Int.reduceToNat] at c13
          refine And.intro (by first | omega | (dsimp only [Int.reduceToNat]; omega)) (And.intro (fun c20 => ?_) (fun c20 => ?_))
          · try dsimp only [Int.reduceToNat] at c20
            refine rRun hG 90 ?_
            refine And.intro (by first | omega | (dsimp only [Int.reduceToNat]; omega)) (And.intro (fun c21 => ?_) (fun c21 => ?_))
            · try dsimp only [Int.reduceToNat] at c21
              refine rRun hG 90 ?_
              refine rIR hG rfl rfl (True.intro) ?_
              refine Or.inr ⟨by omega, ?_, w9, t9, rfl⟩
              unfold chaM
              rw [if_pos (show ms 1 = 0 ∨ (min nn (tDay mt - ms 0)) = 0 by omega)]
              (repeat' split) <;> omega
            · try dsimp only [Int.reduceToNat] at c21
              refine rV hG (sp_X7_isFree (mt := mt) (sd := sd) (ms := ms) (mg := mg) (mk := mk) (hn := hn) (mh := mh) (tr := tr) (mx := mx) (w9 := w9) (t9 := t9) (c9 := c9) (g9 := g9) (by omega)) rfl rfl lk_X7_161 mf_X7_isFree (by decide) (Nat.le_of_ble_eq_true rfl) ⟨_, _, _, rfl, rfl, rfl⟩ ?_
              rintro w4 _ ⟨hw4, rfl⟩
              have w41 : (w4 = 1 ∧ (ms 1 = 0)) ∨ (w4 = 0 ∧ ¬ (ms 1 = 0)) := (by rw [hw4]; by_cases q9 : (ms 1 = 0) <;> simp [q9])
              clear hw4
              refine rRun hG 90 ?_
              refine And.intro (by first | omega | (dsimp only [Int.reduceToNat]; omega)) (And.intro (fun c23 => ?_) (fun c23 => ?_))
              · try dsimp only [Int.reduceToNat] at c23
                refine rRun hG 90 ?_
                refine rIR hG rfl rfl (True.intro) ?_
                refine Or.inr ⟨by omega, ?_, w9, t9, rfl⟩
                unfold chaM
                rw [if_pos (show ms 1 = 0 ∨ (min nn (tDay mt - ms 0)) = 0 by omega)]
                (repeat' split) <;> omega
              · try dsimp only [Int.reduceToNat] at c23
                refine rIR hG rfl rfl (True.intro) ?_
                refine Or.inr ⟨by omega, ?_, w9, t9, rfl⟩
                unfold chaM
                rw [if_pos (show ms 1 = 0 ∨ (min nn (tDay mt - ms 0)) = 0 by omega)]
                (repeat' split) <;> omega
          · try dsimp only [Int.reduceToNat] at c20
            refine rIR hG rfl rfl (True.intro) ?_
            refine Or.inr ⟨by omega, ?_, w9, t9, rfl⟩
            unfold chaM
            rw [if_pos (show ms 1 = 0 ∨ (min nn (tDay mt - ms 0)) = 0 by omega)]
            (repeat' split) <;> omega
    · try dsimp only [Int.reduceToNat] at c4
      refine rIR hG rfl rfl (True.intro) ?_
      exact Or.inl ⟨by omega, rfl, rfl⟩
set_option maxRecDepth 20000 in
set_option maxHeartbeats 2000000 in
theorem sp_X7_safe {mt sd : TD} {ms mg mk : FN} {hn : Int} {mh : FN} {tr : Int} {mx : XD} {w9 t9 c9 g9 : FN} {w : Int} (hT : TOK mt) (hQ : MOM ms) (h9 : ms 0 ≤ tDay mt) (h1 : inI w) : SpI l 7 yX7_safe cX7_safe 3 (some .int) [mr 0, mi w] (hM mt sd ms mg mk hn mh tr mx w9 t9 c9 g9) (fun z h => (¬ (0 ≤ w ∧ w ≤ 1) ∧ z = -1000000 ∧ h = hM mt sd ms mg mk hn mh tr mx w9 t9 c9 g9) ∨ ((0 ≤ w ∧ w ≤ 1) ∧ z = safM mt ms w ∧ ∃ w5 t5 : FN, h = hM mt sd ms mg mk hn mh tr mx w5 t5 c9 g9)) := by
  have hT0 := hT.1
  have hQ0 := hQ.1
  have hQ1 := hQ.2.1
  have hQ2 := hQ.2.2.1
  refine SpI.of (cd := kdX7_safe) (fT := mlook flX7) (kT := mlook klX7) (kJ := mlook jlX7) mfA_X7_safe ok_X7_safe fT_X7 kT_X7 jT_X7 jdk_ok True.intro (Nat.le_of_ble_eq_true rfl) (fun G hG => ?_)
  refine rRun hG 99999 ?_
  refine rS hG (sp_X7_in (v := w) (a := 0) (b := 1) (by omega)) rfl rfl lk_X7_66 mf_X7_in (by decide) (Nat.le_of_ble_eq_true rfl) ?_
  rintro w1 _ ⟨hw1, rfl⟩
  have w11 : (w1 = 1 ∧ (0 ≤ w ∧ w ≤ 1)) ∨ (w1 = 0 ∧ ¬ (0 ≤ w ∧ w ≤ 1)) := (by rw [hw1]; by_cases q9 : (0 ≤ w ∧ w ≤ 1) <;> simp [q9])
  clear hw1
  refine rRun hG 99999 ?_
  refine And.intro (by first | omega | (dsimp only [Int.reduceToNat]; omega)) (And.intro (fun c2 => ?_) (fun c2 => ?_))
  · try dsimp only [Int.reduceToNat] at c2
    refine rRun hG 99999 ?_
    refine rV hG (sp_X7_isDone (mt := mt) (sd := sd) (ms := ms) (mg := mg) (mk := mk) (hn := hn) (mh := mh) (tr := tr) (mx := mx) (w9 := w9) (t9 := t9) (c9 := c9) (g9 := g9) (by omega) (by omega) (by omega)) rfl rfl lk_X7_176 mf_X7_isDone (by decide) (Nat.le_of_ble_eq_true rfl) ⟨_, _, _, rfl, rfl, rfl⟩ ?_
    rintro w2 _ ⟨hw2, rfl⟩
    have w21 : (w2 = 1 ∧ (ms 0 = tDay mt ∨ ms 1 = 0)) ∨ (w2 = 0 ∧ ¬ (ms 0 = tDay mt ∨ ms 1 = 0)) := (by rw [hw2]; by_cases q9 : (ms 0 = tDay mt ∨ ms 1 = 0) <;> simp [q9])
    clear hw2
    refine rRun hG 99999 ?_
    refine And.intro (by first | omega | (dsimp only [Int.reduceToNat]; omega)) (And.intro (fun c4 => ?_) (fun c4 => ?_))
    · try dsimp only [Int.reduceToNat] at c4
      refine rRun hG 99999 ?_
      refine And.intro rfl (And.intro rfl (And.intro (by first | omega | (dsimp only [Int.reduceToNat]; omega)) (?_)))
      refine rVV hG (sp_X7_findWorths (mt := mt) (sd := sd) (ms := ms) (mg := mg) (mk := mk) (hn := hn) (mh := mh) (tr := tr) (mx := mx) (w9 := w9) (t9 := t9) (c9 := c9) (g9 := g9) (kd := 1) (n := (tDay mt - ms 0)) hT (by omega) (by omega) (by omega) (by omega)) rfl rfl lk_X7_223 mf_X7_findWorths (by decide) (Nat.le_of_ble_eq_true rfl) ⟨_, _, _, rfl, rfl, rfl⟩ ?_
      rintro _ ⟨w5, t5, ht5, rfl⟩
      have hW5 := MW_WOK hT (kd := 1) (D0 := ms 0) (n := (tDay mt - ms 0)) (by omega) (by omega) (j := ((tDay mt - ms 0)).toNat - 1) (by omega) ht5
      have hb5 := bsG_V hT ht5 (kd := 1) (day := ms 0) (r := ms 1) (e := ms 2) (by omega)
      have hi5 := mfold_in hT (kd := 1) (ms := ms) (dn := (tDay mt - ms 0)) (by omega) (by omega) (by omega)
      have hB5 := mwB_le (kd := 1) (j := ((tDay mt - ms 0)).toNat) (by omega) (by omega)
      refine rRun hG 99999 ?_
      refine And.intro rfl (And.intro (by first | omega | (dsimp only [Int.reduceToNat]; omega)) (And.intro rfl (And.intro (by first | omega | (dsimp only [Int.reduceToNat]; omega)) (And.intro rfl (And.intro (by first | omega | (dsimp only [Int.reduceToNat]; omega)) (?_))))))
      refine rV hG (sp_X7_bestOf (mt := mt) (sd := sd) (ms := ms) (mg := mg) (mk := mk) (hn := hn) (mh := mh) (tr := tr) (mx := mx) (w9 := w5) (t9 := t5) (c9 := c9) (g9 := g9) (kd := 1) (day := ms 0) (r := ms 1) (e := ms 2) hT hW5 (by omega) (by omega) (by omega) (by omega)) rfl rfl lk_X7_216 mf_X7_bestOf (by decide) (Nat.le_of_ble_eq_true rfl) ⟨_, _, _, rfl, rfl, rfl⟩ ?_
      rintro _ _ ⟨rfl, rfl⟩
      rw [hb5]
      rw [show foldB (bsV mt (MW mt 1 (ms 0) ((tDay mt - ms 0)) (((tDay mt - ms 0)).toNat - 1)) 1 (ms 0) (ms 1) (ms 2)) (-1000000) 6 = mfold mt 1 ms ((tDay mt - ms 0)) from rfl]
      refine rRun hG 99999 ?_
      refine And.intro (by first | omega | (dsimp only [Int.reduceToNat]; omega)) (And.intro (fun c7 => ?_) (fun c7 => ?_))
      · try dsimp only [Int.reduceToNat] at c7
        refine rRun hG 99999 ?_
        refine And.intro (by first | omega | (dsimp only [Int.reduceToNat]; omega)) (And.intro (fun c8 => ?_) (fun c8 => ?_))
        · try dsimp only [Int.reduceToNat] at c8
          refine rRun hG 99999 ?_
          refine rV hG (sp_X7_paceBy (mt := mt) (sd := sd) (ms := ms) (mg := mg) (mk := mk) (hn := hn) (mh := mh) (tr := tr) (mx := mx) (w9 := w5) (t9 := t5) (c9 := c9) (g9 := g9) (kd := 1) hT hQ hW5 (by omega) (by omega)) rfl rfl lk_X7_227 mf_X7_paceBy (by decide) (Nat.le_of_ble_eq_true rfl) ⟨_, _, _, rfl, rfl, rfl⟩ ?_
          rintro _ _ ⟨rfl, rfl⟩
          rw [hb5]
          refine rIR hG rfl rfl (True.intro) ?_
          refine Or.inr ⟨by omega, ?_, w5, t5, rfl⟩
          unfold safM
          rw [if_neg (by omega)]
          first | (rw [if_pos (by omega)]; done) | (rw [if_neg (by omega), if_pos (by omega)]; done) | (rw [if_neg (by omega), if_neg (by omega)]; rfl)
        · try dsimp only [Int.reduceToNat] at c8
          refine rIR hG rfl rfl (True.intro) ?_
          refine Or.inr ⟨by omega, ?_, w5, t5, rfl⟩
          unfold safM
          rw [if_neg (by omega)]
          first | (rw [if_pos (by omega)]; done) | (rw [if_neg (by omega), if_pos (by omega)]; done) | (rw [if_neg (by omega), if_neg (by omega)]; rfl)
      · try dsimp only [Int.reduceToNat] at c7
        refine rIR hG rfl rfl (True.intro) ?_
        refine Or.inr ⟨by omega, ?_, w5, t5, rfl⟩
        unfold safM
        rw [if_neg (by omega)]
        first | (rw [if_pos (by omega)]; done) | (rw [if_neg (by omega), if_pos (by omega)]; done) | (rw [if_neg (by omega), if_neg (by omega)]; rfl)
    · try dsimp only [Int.reduceToNat] at c4
      refine And.intro (by first | omega | (dsimp only [Int.reduceToNat]; omega)) (And.intro (fun c11 => ?_) (fun c11 => ?_))
      · try dsimp only [Int.reduceToNat] at c11
        refine rRun hG 99999 ?_
        refine rIR hG rfl rfl (True.intro) ?_
        refine Or.inr ⟨by omega, ?_, w9, t9, rfl⟩
        unfold safM
        rw [if_pos (by omega)]
        (repeat' split) <;> omega
      · try dsimp only [Int.reduceToNat] at c11
        refine rIR hG rfl rfl (True.intro) ?_
        refine Or.inr ⟨by omega, ?_, w9, t9, rfl⟩
        unfold safM
        rw [if_pos (by omega)]
        (repeat' split) <;> omega
  · try dsimp only [Int.reduceToNat] at c2
    refine rIR hG rfl rfl (True.intro) ?_
    exact Or.inl ⟨by omega, rfl, rfl⟩
set_option maxRecDepth 20000 in
set_option maxHeartbeats 2000000 in
theorem sp_X7_least {mt sd : TD} {ms mg mk : FN} {hn : Int} {mh : FN} {tr : Int} {mx : XD} {w9 t9 c9 g9 : FN} {nn w : Int} (hT : TOK mt) (hQ : MOM ms) (h9 : ms 0 ≤ tDay mt) (h1 : inI nn) (h2 : inI w) : SpI l 7 yX7_least cX7_least 5 (some .int) [mr 0, mi nn, mi w] (hM mt sd ms mg mk hn mh tr mx w9 t9 c9 g9) (fun z h => (¬ (0 ≤ nn ∧ nn ≤ 14 ∧ 0 ≤ w ∧ w ≤ 1) ∧ z = -1000000 ∧ h = hM mt sd ms mg mk hn mh tr mx w9 t9 c9 g9) ∨ ((0 ≤ nn ∧ nn ≤ 14 ∧ 0 ≤ w ∧ w ≤ 1) ∧ z = leaM mt ms (min nn (tDay mt - ms 0)) w ∧ ∃ w5 t5 : FN, h = hM mt sd ms mg mk hn mh tr mx w5 t5 c9 g9)) := by
  have hT0 := hT.1
  have hQ0 := hQ.1
  have hQ1 := hQ.2.1
  have hQ2 := hQ.2.2.1
  refine SpI.of (cd := kdX7_least) (fT := mlook flX7) (kT := mlook klX7) (kJ := mlook jlX7) mfA_X7_least ok_X7_least fT_X7 kT_X7 jT_X7 jdk_ok True.intro (Nat.le_of_ble_eq_true rfl) (fun G hG => ?_)
  refine rRun hG 99999 ?_
  refine rS hG (sp_X7_in (v := nn) (a := 0) (b := 14) (by omega)) rfl rfl lk_X7_66 mf_X7_in (by decide) (Nat.le_of_ble_eq_true rfl) ?_
  rintro w1 _ ⟨hw1, rfl⟩
  have w11 : (w1 = 1 ∧ (0 ≤ nn ∧ nn ≤ 14)) ∨ (w1 = 0 ∧ ¬ (0 ≤ nn ∧ nn ≤ 14)) := (by rw [hw1]; by_cases q9 : (0 ≤ nn ∧ nn ≤ 14) <;> simp [q9])
  clear hw1
  refine rRun hG 99999 ?_
  refine And.intro (by first | omega | (dsimp only [Int.reduceToNat]; omega)) (And.intro (fun c2 => ?_) (fun c2 => ?_))
  · try dsimp only [Int.reduceToNat] at c2
    refine rRun hG 99999 ?_
    refine rIR hG rfl rfl (True.intro) ?_
    exact Or.inl ⟨by omega, rfl, rfl⟩
  · try dsimp only [Int.reduceToNat] at c2
    refine rS hG (sp_X7_in (v := w) (a := 0) (b := 1) (by omega)) rfl rfl lk_X7_66 mf_X7_in (by decide) (Nat.le_of_ble_eq_true rfl) ?_
    rintro w2 _ ⟨hw2, rfl⟩
    have w21 : (w2 = 1 ∧ (0 ≤ w ∧ w ≤ 1)) ∨ (w2 = 0 ∧ ¬ (0 ≤ w ∧ w ≤ 1)) := (by rw [hw2]; by_cases q9 : (0 ≤ w ∧ w ≤ 1) <;> simp [q9])
    clear hw2
    refine rRun hG 99999 ?_
    refine And.intro (by first | omega | (dsimp only [Int.reduceToNat]; omega)) (And.intro (fun c4 => ?_) (fun c4 => ?_))
    · try dsimp only [Int.reduceToNat] at c4
      refine rRun hG 99999 ?_
      refine rV hG (sp_X7_isFree (mt := mt) (sd := sd) (ms := ms) (mg := mg) (mk := mk) (hn := hn) (mh := mh) (tr := tr) (mx := mx) (w9 := w9) (t9 := t9) (c9 := c9) (g9 := g9) (by omega)) rfl rfl lk_X7_161 mf_X7_isFree (by decide) (Nat.le_of_ble_eq_true rfl) ⟨_, _, _, rfl, rfl, rfl⟩ ?_
      rintro w3 _ ⟨hw3, rfl⟩
      have w31 : (w3 = 1 ∧ (ms 1 = 0)) ∨ (w3 = 0 ∧ ¬ (ms 1 = 0)) := (by rw [hw3]; by_cases q9 : (ms 1 = 0) <;> simp [q9])
      clear hw3
      refine rRun hG 99999 ?_
      refine And.intro (by first | omega | (dsimp only [Int.reduceToNat]; omega)) (And.intro (fun c6 => ?_) (fun c6 => ?_))
      · try dsimp only [Int.reduceToNat] at c6
        refine rRun hG 99999 ?_
        refine rV hG (sp_X7_daysOf (mt := mt) (sd := sd) (ms := ms) (mg := mg) (mk := mk) (hn := hn) (mh := mh) (tr := tr) (mx := mx) (w9 := w9) (t9 := t9) (c9 := c9) (g9 := g9) (n := nn) hT hQ h1) rfl rfl lk_X7_220 mf_X7_daysOf (by decide) (Nat.le_of_ble_eq_true rfl) ⟨_, _, _, rfl, rfl, rfl⟩ ?_
        rintro _ _ ⟨rfl, rfl⟩
        refine rRun hG 99999 ?_
        refine And.intro (by first | omega | (dsimp only [Int.reduceToNat]; omega)) (And.intro (fun c8 => ?_) (fun c8 => ?_))
        · try dsimp only [Int.reduceToNat] at c8
          refine rRun hG 99999 ?_
          refine rVV hG (sp_X7_findWorths (mt := mt) (sd := sd) (ms := ms) (mg := mg) (mk := mk) (hn := hn) (mh := mh) (tr := tr) (mx := mx) (w9 := w9) (t9 := t9) (c9 := c9) (g9 := g9) (kd := 2) (n := (min nn (tDay mt - ms 0))) hT (by omega) (by omega) (by omega) (by omega)) rfl rfl lk_X7_223 mf_X7_findWorths (by decide) (Nat.le_of_ble_eq_true rfl) ⟨_, _, _, rfl, rfl, rfl⟩ ?_
          rintro _ ⟨w5, t5, ht5, rfl⟩
          have hW5 := MW_WOK hT (kd := 2) (D0 := ms 0) (n := (min nn (tDay mt - ms 0))) (by omega) (by omega) (j := ((min nn (tDay mt - ms 0))).toNat - 1) (by omega) ht5
          have hb5 := bsG_V hT ht5 (kd := 2) (day := ms 0) (r := ms 1) (e := ms 2) (by omega)
          have hi5 := mfold_in hT (kd := 2) (ms := ms) (dn := (min nn (tDay mt - ms 0))) (by omega) (by omega) (by omega)
          have hB5 := mwB_le (kd := 2) (j := ((min nn (tDay mt - ms 0))).toNat) (by omega) (by omega)
          refine rRun hG 99999 ?_
          refine And.intro rfl (And.intro (by first | omega | (dsimp only [Int.reduceToNat]; omega)) (And.intro rfl (And.intro (by first | omega | (dsimp only [Int.reduceToNat]; omega)) (And.intro rfl (And.intro (by first | omega | (dsimp only [Int.reduceToNat]; omega)) (?_))))))
          refine rV hG (sp_X7_bestOf (mt := mt) (sd := sd) (ms := ms) (mg := mg) (mk := mk) (hn := hn) (mh := mh) (tr := tr) (mx := mx) (w9 := w5) (t9 := t5) (c9 := c9) (g9 := g9) (kd := 2) (day := ms 0) (r := ms 1) (e := ms 2) hT hW5 (by omega) (by omega) (by omega) (by omega)) rfl rfl lk_X7_216 mf_X7_bestOf (by decide) (Nat.le_of_ble_eq_true rfl) ⟨_, _, _, rfl, rfl, rfl⟩ ?_
          rintro _ _ ⟨rfl, rfl⟩
          rw [hb5]
          rw [show foldB (bsV mt (MW mt 2 (ms 0) ((min nn (tDay mt - ms 0))) (((min nn (tDay mt - ms 0))).toNat - 1)) 2 (ms 0) (ms 1) (ms 2)) (-1000000) 6 = mfold mt 2 ms ((min nn (tDay mt - ms 0))) from rfl]
          refine rRun hG 99999 ?_
          refine And.intro (by first | omega | (dsimp only [Int.reduceToNat]; omega)) (And.intro (fun c12 => ?_) (fun c12 => ?_))
          · try dsimp only [Int.reduceToNat] at c12
            refine rRun hG 99999 ?_
            refine And.intro (by first | omega | (dsimp only [Int.reduceToNat]; omega)) (And.intro (fun c13 => ?_) (fun c13 => ?_))
            · try dsimp only [Int.reduceToNat] at c13
              refine rRun hG 99999 ?_
              refine rV hG (sp_X7_paceBy (mt := mt) (sd := sd) (ms := ms) (mg := mg) (mk := mk) (hn := hn) (mh := mh) (tr := tr) (mx := mx) (w9 := w5) (t9 := t5) (c9 := c9) (g9 := g9) (kd := 2) hT hQ hW5 (by omega) (by omega)) rfl rfl lk_X7_227 mf_X7_paceBy (by decide) (Nat.le_of_ble_eq_true rfl) ⟨_, _, _, rfl, rfl, rfl⟩ ?_
              rintro _ _ ⟨rfl, rfl⟩
              rw [hb5]
              refine rIR hG rfl rfl (True.intro) ?_
              refine Or.inr ⟨by omega, ?_, w5, t5, rfl⟩
              unfold leaM
              rw [if_neg (by omega), if_neg (by omega)]
              first | (rw [if_pos (by omega)]; done) | (rw [if_neg (by omega), if_pos (by omega)]; done) | (rw [if_neg (by omega), if_neg (by omega)]; rfl)
            · try dsimp only [Int.reduceToNat] at c13
              refine rIR hG rfl rfl (True.intro) ?_
              refine Or.inr ⟨by omega, ?_, w5, t5, rfl⟩
              unfold leaM
              rw [if_neg (by omega), if_neg (by omega)]
              first | (rw [if_pos (by omega)]; done) | (rw [if_neg (by omega), if_pos (by omega)]; done) | (rw [if_neg (by omega), if_neg (by omega)]; rfl)
          · try dsimp only [Int.reduceToNat] at c12
            refine rIR hG rfl rfl (True.intro) ?_
            refine Or.inr ⟨by omega, ?_, w5, t5, rfl⟩
            unfold leaM
            rw [if_neg (by omega), if_neg (by omega)]
            first | (rw [if_pos (by omega)]; done) | (rw [if_neg (by omega), if_pos (by omega)]; done) | (rw [if_neg (by omega), if_neg (by omega)]; rfl)
        · try dsimp only [Int.reduceToNat] at c8
          refine rIR hG rfl rfl (True.intro) ?_
          refine Or.inr ⟨by omega, ?_, w9, t9, rfl⟩
          unfold leaM
          rw [if_neg (by omega), if_pos (by omega)]
      · try dsimp only [Int.reduceToNat] at c6
        refine And.intro (by first | omega | (dsimp only [Int.reduceToNat]; omega)) (And.intro (fun c15 => ?_) (fun c15 => ?_))
        · try dsimp only [Int.reduceToNat] at c15
          refine rRun hG 99999 ?_
          refine rIR hG rfl rfl (True.intro) ?_
          refine Or.inr ⟨by omega, ?_, w9, t9, rfl⟩
          unfold leaM
          rw [if_pos (by omega)]
          (repeat' split) <;> omega
        · try dsimp only [Int.reduceToNat] at c15
          refine rIR hG rfl rfl (True.intro) ?_
          refine Or.inr ⟨by omega, ?_, w9, t9, rfl⟩
          unfold leaM
          rw [if_pos (by omega)]
          (repeat' split) <;> omega
    · try dsimp only [Int.reduceToNat] at c4
      refine rIR hG rfl rfl (True.intro) ?_
      exact Or.inl ⟨by omega, rfl, rfl⟩
end WALKS
