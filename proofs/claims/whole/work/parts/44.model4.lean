/-! the reference: watches, pays, corrects, undo, now, count, images, marks -/
section WALKS
variable {l : Launch}
set_option maxRecDepth 20000 in
set_option maxHeartbeats 1000000 in
theorem sp_X7_watches {mt sd : TD} {ms mg mk : FN} {hn : Int} {mh : FN} {tr : Int} {mx : XD} {w9 t9 c9 g9 : FN}  (hT : TOK mt) (hQ : MOM ms) (h9 : ms 0 ≤ tDay mt) : SpI l 3 yX7_watches cX7_watches 1 (some .int) [mr 0] (hM mt sd ms mg mk hn mh tr mx w9 t9 c9 g9) (fun z h => ((ms 0 = tDay mt ∨ ms 1 = 0) ∧ z = -2 ∧ h = hM mt sd ms mg mk hn mh tr mx w9 t9 c9 g9) ∨ (¬ (ms 0 = tDay mt ∨ ms 1 = 0) ∧ z = chkR (remM ms) (tLim mt) ∧ h = hM mt sd (chkW (remM ms) (tLim mt) (tAdd mt)) mg mk hn mh tr mx w9 t9 c9 g9)) := by
  have hT1 := hT.1
  have hT5 := hT.2.2.2.2.1
  have hT6 := hT.2.2.2.2.2.1
  have hQ1 := hQ.1
  have hQ2 := hQ.2.1
  have hQ3 := hQ.2.2.1
  have hQ4 := hQ.2.2.2.1
  have hQ5 := hQ.2.2.2.2.1
  have hQ8 := hQ.2.2.2.2.2.1
  have hQ9 := hQ.2.2.2.2.2.2
  have r0 : remM ms 0 = ms 0 := remM_lo hQ9 (by decide)
  have r1 : remM ms 1 = ms 1 := remM_lo hQ9 (by decide)
  have r2 : remM ms 2 = ms 2 := remM_lo hQ9 (by decide)
  have r3 : remM ms 3 = ms 3 := remM_lo hQ9 (by decide)
  have r8 : remM ms 8 = ms 8 := remM_lo hQ9 (by decide)
  refine SpI.of (cd := kdX7_watches) (fT := mlook flX7) (kT := mlook klX7) (kJ := mlook jlX7) mfA_X7_watches ok_X7_watches fT_X7 kT_X7 jT_X7 jdk_ok True.intro (Nat.le_of_ble_eq_true rfl) (fun G hG => ?_)
  refine rRun hG 99999 ?_
  refine rV hG (sp_X7_isDone (mt := mt) (sd := sd) (ms := ms) (mg := mg) (mk := mk) (hn := hn) (mh := mh) (tr := tr) (mx := mx) (w9 := w9) (t9 := t9) (c9 := c9) (g9 := g9) (by omega) (by omega) (by omega)) rfl rfl lk_X7_176 mf_X7_isDone (by decide) (Nat.le_of_ble_eq_true rfl) ⟨_, _, _, rfl, rfl, rfl⟩ ?_
  rintro w1 _ ⟨hw1, rfl⟩
  have w11 : (w1 = 1 ∧ (ms 0 = tDay mt ∨ ms 1 = 0)) ∨ (w1 = 0 ∧ ¬ (ms 0 = tDay mt ∨ ms 1 = 0)) := (by rw [hw1]; by_cases q9 : (ms 0 = tDay mt ∨ ms 1 = 0) <;> simp [q9])
  clear hw1
  refine rRun hG 99999 ?_
  refine And.intro (by first | omega | (dsimp only [Int.reduceToNat]; omega)) (And.intro (fun c2 => ?_) (fun c2 => ?_))
  · try dsimp only [Int.reduceToNat] at c2
    refine rRun hG 99999 ?_
    refine rVV hG (sp_X7_remembers (mt := mt) (sd := sd) (ms := ms) (mg := mg) (mk := mk) (hn := hn) (mh := mh) (tr := tr) (mx := mx) (w9 := w9) (t9 := t9) (c9 := c9) (g9 := g9) hQ9) rfl rfl lk_X7_179 mf_X7_remembers (by decide) (Nat.le_of_ble_eq_true rfl) ⟨_, _, _, rfl, rfl, rfl⟩ ?_
    rintro _ rfl
    refine rRun hG 99999 ?_
    refine rV hG (sp_X7_checks (mt := mt) (sd := sd) (ms := (remM ms)) (mg := mg) (mk := mk) (hn := hn) (mh := mh) (tr := tr) (mx := mx) (w9 := w9) (t9 := t9) (c9 := c9) (g9 := g9) (by omega) (by omega) (by omega) (by omega) (by omega)) rfl rfl lk_X7_198 mf_X7_checks (by decide) (Nat.le_of_ble_eq_true rfl) ⟨_, _, _, rfl, rfl, rfl⟩ ?_
    rintro _ _ ⟨rfl, rfl⟩
    refine rIR hG rfl rfl (True.intro) ?_
    exact Or.inr ⟨by omega, rfl, rfl⟩
  · try dsimp only [Int.reduceToNat] at c2
    refine rIR hG rfl rfl (True.intro) ?_
    exact Or.inl ⟨by omega, rfl, rfl⟩
set_option maxRecDepth 20000 in
set_option maxHeartbeats 1000000 in
theorem sp_X7_pays {mt sd : TD} {ms mg mk : FN} {hn : Int} {mh : FN} {tr : Int} {mx : XD} {w9 t9 c9 g9 : FN} {i v : Int} (hT : TOK mt) (hQ : MOM ms) (h9 : ms 0 ≤ tDay mt) (h1 : inI i) (h2 : inI v) : SpI l 3 yX7_pays cX7_pays 3 (some .int) [mr 0, mi i, mi v] (hM mt sd ms mg mk hn mh tr mx w9 t9 c9 g9) (fun z h => (¬ ((0 ≤ i ∧ i < tNT mt) ∧ 1 ≤ v ∧ v ≤ 99) ∧ z = -1 ∧ h = hM mt sd ms mg mk hn mh tr mx w9 t9 c9 g9) ∨ (((0 ≤ i ∧ i < tNT mt) ∧ 1 ≤ v ∧ v ≤ 99) ∧ ms 3 < v ∧ z = -2 ∧ h = hM mt sd ms mg mk hn mh tr mx w9 t9 c9 g9) ∨ (((0 ≤ i ∧ i < tNT mt) ∧ 1 ≤ v ∧ v ≤ 99) ∧ ¬ ms 3 < v ∧ z = max 0 (ms (4 + i).toNat - v) ∧ h = hM mt sd (mup (mup (remM ms) 3 (ms 3 - v)) (4 + i).toNat (max 0 (ms (4 + i).toNat - v))) mg mk hn mh tr mx w9 t9 c9 g9)) := by
  have hT1 := hT.1
  have hT5 := hT.2.2.2.2.1
  have hT6 := hT.2.2.2.2.2.1
  have hQ1 := hQ.1
  have hQ2 := hQ.2.1
  have hQ3 := hQ.2.2.1
  have hQ4 := hQ.2.2.2.1
  have hQ5 := hQ.2.2.2.2.1
  have hQ8 := hQ.2.2.2.2.2.1
  have hQ9 := hQ.2.2.2.2.2.2
  have r0 : remM ms 0 = ms 0 := remM_lo hQ9 (by decide)
  have r1 : remM ms 1 = ms 1 := remM_lo hQ9 (by decide)
  have r2 : remM ms 2 = ms 2 := remM_lo hQ9 (by decide)
  have r3 : remM ms 3 = ms 3 := remM_lo hQ9 (by decide)
  have r8 : remM ms 8 = ms 8 := remM_lo hQ9 (by decide)
  have hT3 := hT.2.2.1
  refine SpI.of (cd := kdX7_pays) (fT := mlook flX7) (kT := mlook klX7) (kJ := mlook jlX7) mfA_X7_pays ok_X7_pays fT_X7 kT_X7 jT_X7 jdk_ok True.intro (Nat.le_of_ble_eq_true rfl) (fun G hG => ?_)
  refine rRun hG 47 ?_
  refine rV hG (sp_X7_isTrade (mt := mt) (sd := sd) (ms := ms) (mg := mg) (mk := mk) (hn := hn) (mh := mh) (tr := tr) (mx := mx) (w9 := w9) (t9 := t9) (c9 := c9) (g9 := g9) (i := i) h1 (by omega)) rfl rfl lk_X7_154 mf_X7_isTrade (by decide) (Nat.le_of_ble_eq_true rfl) ⟨_, _, _, rfl, rfl, rfl⟩ ?_
  rintro w1 _ ⟨hw1, rfl⟩
  have w11 : (w1 = 1 ∧ (0 ≤ i ∧ i < tNT mt)) ∨ (w1 = 0 ∧ ¬ (0 ≤ i ∧ i < tNT mt)) := (by rw [hw1]; by_cases q9 : (0 ≤ i ∧ i < tNT mt) <;> simp [q9])
  clear hw1
  refine rRun hG 47 ?_
  refine And.intro (by first | omega | (dsimp only [Int.reduceToNat]; omega)) (And.intro (fun c2 => ?_) (fun c2 => ?_))
  · try dsimp only [Int.reduceToNat] at c2
    refine rRun hG 47 ?_
    refine rIR hG rfl rfl (True.intro) ?_
    exact Or.inl ⟨by omega, rfl, rfl⟩
  · try dsimp only [Int.reduceToNat] at c2
    refine rS hG (sp_X7_in (v := v) (a := 1) (b := 99) (by omega)) rfl rfl lk_X7_66 mf_X7_in (by decide) (Nat.le_of_ble_eq_true rfl) ?_
    rintro w2 _ ⟨hw2, rfl⟩
    have w21 : (w2 = 1 ∧ (1 ≤ v ∧ v ≤ 99)) ∨ (w2 = 0 ∧ ¬ (1 ≤ v ∧ v ≤ 99)) := (by rw [hw2]; by_cases q9 : (1 ≤ v ∧ v ≤ 99) <;> simp [q9])
    clear hw2
    refine rRun hG 47 ?_
    refine And.intro (by first | omega | (dsimp only [Int.reduceToNat]; omega)) (And.intro (fun c4 => ?_) (fun c4 => ?_))
    · try dsimp only [Int.reduceToNat] at c4
      refine rRun hG 47 ?_
      refine And.intro rfl (And.intro (by first | omega | (dsimp only [Int.reduceToNat]; omega)) (And.intro (by first | omega | (dsimp only [Int.reduceToNat]; omega)) (And.intro (fun c5 => ?_) (fun c5 => ?_))))
      · try dsimp only [Int.reduceToNat] at c5
        refine rRun hG 47 ?_
        refine rVV hG (sp_X7_remembers (mt := mt) (sd := sd) (ms := ms) (mg := mg) (mk := mk) (hn := hn) (mh := mh) (tr := tr) (mx := mx) (w9 := w9) (t9 := t9) (c9 := c9) (g9 := g9) hQ9) rfl rfl lk_X7_179 mf_X7_remembers (by decide) (Nat.le_of_ble_eq_true rfl) ⟨_, _, _, rfl, rfl, rfl⟩ ?_
        rintro _ rfl
        refine rRun hG 47 ?_
        refine And.intro rfl (And.intro (by first | omega | (dsimp only [Int.reduceToNat]; omega)) (And.intro (by first | omega | (dsimp only [Int.reduceToNat]; omega)) (?_)))
        have e3 : mup (remM ms) (Int.toNat 3) (remM ms (Int.toNat 3) - v) = (mup (remM ms) 3 (ms 3 - v)) := by rw [← r3]; rfl
        have g4 : (mup (remM ms) 3 (ms 3 - v)) (4 + i).toNat = ms (4 + i).toNat := by rw [mup_n (by omega)]; exact remM_lo hQ9 (by omega)
        show G 47 _ _ (hM mt sd (mup (remM ms) (Int.toNat 3) (remM ms (Int.toNat 3) - v)) mg mk hn mh tr mx w9 t9 c9 g9)
        rw [e3]
        have hI := hQ5 i.toNat (by omega)
        rw [show 4 + i.toNat = (4 + i).toNat by omega] at hI
        generalize (mup (remM ms) 3 (ms 3 - v)) = g at *
        refine rRun hG 99999 ?_
        refine And.intro rfl (And.intro rfl (And.intro (by first | omega | (dsimp only [Int.reduceToNat]; omega)) (And.intro (by first | omega | (dsimp only [Int.reduceToNat]; omega)) (And.intro (fun c7 => ?_) (fun c7 => ?_)))))
        · try dsimp only [Int.reduceToNat] at c7
          refine rRun hG 99999 ?_
          refine And.intro rfl (And.intro (by first | omega | (dsimp only [Int.reduceToNat]; omega)) (And.intro (by first | omega | (dsimp only [Int.reduceToNat]; omega)) (And.intro rfl (And.intro (by first | omega | (dsimp only [Int.reduceToNat]; omega)) (?_)))))
          refine rIR hG rfl rfl (True.intro) ?_
          refine Or.inr (Or.inr ⟨by omega, by omega, ?_, ?_⟩)
          · show mup g (4 + i).toNat _ (4 + i).toNat = _
            rw [mup_s]; omega
          · show hM mt sd (mup g (4 + i).toNat _) mg mk hn mh tr mx w9 t9 c9 g9 = hM mt sd (mup g (4 + i).toNat _) mg mk hn mh tr mx w9 t9 c9 g9
            first | rw [show max 0 (ms (4 + i).toNat - v) = 0 by omega] | rw [show max 0 (ms (4 + i).toNat - v) = g (4 + i).toNat - v by omega]
        · try dsimp only [Int.reduceToNat] at c7
          refine rRun hG 99999 ?_
          refine And.intro (by first | omega | (dsimp only [Int.reduceToNat]; omega)) (And.intro rfl (And.intro (by first | omega | (dsimp only [Int.reduceToNat]; omega)) (?_)))
          refine rIR hG rfl rfl (True.intro) ?_
          refine Or.inr (Or.inr ⟨by omega, by omega, ?_, ?_⟩)
          · show mup g (4 + i).toNat _ (4 + i).toNat = _
            rw [mup_s]; omega
          · show hM mt sd (mup g (4 + i).toNat _) mg mk hn mh tr mx w9 t9 c9 g9 = hM mt sd (mup g (4 + i).toNat _) mg mk hn mh tr mx w9 t9 c9 g9
            first | rw [show max 0 (ms (4 + i).toNat - v) = 0 by omega] | rw [show max 0 (ms (4 + i).toNat - v) = g (4 + i).toNat - v by omega]
      · try dsimp only [Int.reduceToNat] at c5
        refine rIR hG rfl rfl (True.intro) ?_
        exact Or.inr (Or.inl ⟨by omega, by omega, rfl, rfl⟩)
    · try dsimp only [Int.reduceToNat] at c4
      refine rIR hG rfl rfl (True.intro) ?_
      exact Or.inl ⟨by omega, rfl, rfl⟩
set_option maxRecDepth 20000 in
set_option maxHeartbeats 1000000 in
theorem sp_X7_corrects {mt sd : TD} {ms mg mk : FN} {hn : Int} {mh : FN} {tr : Int} {mx : XD} {w9 t9 c9 g9 : FN} {v : Int} (hT : TOK mt) (hQ : MOM ms) (h9 : ms 0 ≤ tDay mt) (h1 : inI v) : SpI l 3 yX7_corrects cX7_corrects 2 (some .int) [mr 0, mi v] (hM mt sd ms mg mk hn mh tr mx w9 t9 c9 g9) (fun z h => (¬ ((-9 ≤ v ∧ v ≤ 9) ∧ ¬ v = 0 ∧ ¬ (ms 0 = tDay mt ∨ ms 1 = 0) ∧ max (ms 2 + v) (-(ms 2 + v)) ≤ 9) ∧ z = -1000000 ∧ h = hM mt sd ms mg mk hn mh tr mx w9 t9 c9 g9) ∨ (((-9 ≤ v ∧ v ≤ 9) ∧ ¬ v = 0 ∧ ¬ (ms 0 = tDay mt ∨ ms 1 = 0) ∧ max (ms 2 + v) (-(ms 2 + v)) ≤ 9) ∧ z = ms 2 + v ∧ h = hM mt sd (mup (remM ms) 2 (ms 2 + v)) mg mk hn mh tr mx w9 t9 c9 g9)) := by
  have hT1 := hT.1
  have hT5 := hT.2.2.2.2.1
  have hT6 := hT.2.2.2.2.2.1
  have hQ1 := hQ.1
  have hQ2 := hQ.2.1
  have hQ3 := hQ.2.2.1
  have hQ4 := hQ.2.2.2.1
  have hQ5 := hQ.2.2.2.2.1
  have hQ8 := hQ.2.2.2.2.2.1
  have hQ9 := hQ.2.2.2.2.2.2
  have r0 : remM ms 0 = ms 0 := remM_lo hQ9 (by decide)
  have r1 : remM ms 1 = ms 1 := remM_lo hQ9 (by decide)
  have r2 : remM ms 2 = ms 2 := remM_lo hQ9 (by decide)
  have r3 : remM ms 3 = ms 3 := remM_lo hQ9 (by decide)
  have r8 : remM ms 8 = ms 8 := remM_lo hQ9 (by decide)
  refine SpI.of (cd := kdX7_corrects) (fT := mlook flX7) (kT := mlook klX7) (kJ := mlook jlX7) mfA_X7_corrects ok_X7_corrects fT_X7 kT_X7 jT_X7 jdk_ok True.intro (Nat.le_of_ble_eq_true rfl) (fun G hG => ?_)
  refine rRun hG 99999 ?_
  refine rS hG (sp_X7_in (v := v) (a := (-9)) (b := 9) (by omega)) rfl rfl lk_X7_66 mf_X7_in (by decide) (Nat.le_of_ble_eq_true rfl) ?_
  rintro w1 _ ⟨hw1, rfl⟩
  have w11 : (w1 = 1 ∧ ((-9) ≤ v ∧ v ≤ 9)) ∨ (w1 = 0 ∧ ¬ ((-9) ≤ v ∧ v ≤ 9)) := (by rw [hw1]; by_cases q9 : ((-9) ≤ v ∧ v ≤ 9) <;> simp [q9])
  clear hw1
  refine rRun hG 99999 ?_
  refine And.intro (by first | omega | (dsimp only [Int.reduceToNat]; omega)) (And.intro (fun c2 => ?_) (fun c2 => ?_))
  · try dsimp only [Int.reduceToNat] at c2
    refine rRun hG 99999 ?_
    refine rIR hG rfl rfl (True.intro) ?_
    exact Or.inl ⟨by omega, rfl, rfl⟩
  · try dsimp only [Int.reduceToNat] at c2
    refine And.intro (by first | omega | (dsimp only [Int.reduceToNat]; omega)) (And.intro (fun c3 => ?_) (fun c3 => ?_))
    · try dsimp only [Int.reduceToNat] at c3
      refine rRun hG 99999 ?_
      refine rIR hG rfl rfl (True.intro) ?_
      exact Or.inl ⟨by omega, rfl, rfl⟩
    · try dsimp only [Int.reduceToNat] at c3
      refine rV hG (sp_X7_isDone (mt := mt) (sd := sd) (ms := ms) (mg := mg) (mk := mk) (hn := hn) (mh := mh) (tr := tr) (mx := mx) (w9 := w9) (t9 := t9) (c9 := c9) (g9 := g9) (by omega) (by omega) (by omega)) rfl rfl lk_X7_176 mf_X7_isDone (by decide) (Nat.le_of_ble_eq_true rfl) ⟨_, _, _, rfl, rfl, rfl⟩ ?_
      rintro w2 _ ⟨hw2, rfl⟩
      have w21 : (w2 = 1 ∧ (ms 0 = tDay mt ∨ ms 1 = 0)) ∨ (w2 = 0 ∧ ¬ (ms 0 = tDay mt ∨ ms 1 = 0)) := (by rw [hw2]; by_cases q9 : (ms 0 = tDay mt ∨ ms 1 = 0) <;> simp [q9])
      clear hw2
      refine rRun hG 99999 ?_
      refine And.intro (by first | omega | (dsimp only [Int.reduceToNat]; omega)) (And.intro (fun c5 => ?_) (fun c5 => ?_))
      · try dsimp only [Int.reduceToNat] at c5
        refine rRun hG 99999 ?_
        refine rIR hG rfl rfl (True.intro) ?_
        exact Or.inl ⟨by omega, rfl, rfl⟩
      · try dsimp only [Int.reduceToNat] at c5
        refine And.intro rfl (And.intro (by first | omega | (dsimp only [Int.reduceToNat]; omega)) (?_))
        refine rS hG (sp_X7_size (v := ms 2 + v) (by omega)) rfl rfl lk_X7_164 mf_X7_size (by decide) (Nat.le_of_ble_eq_true rfl) ?_
        rintro _ _ ⟨rfl, rfl⟩
        refine rRun hG 99999 ?_
        refine And.intro (by first | omega | (dsimp only [Int.reduceToNat]; omega)) (And.intro (fun c7 => ?_) (fun c7 => ?_))
        · try dsimp only [Int.reduceToNat] at c7
          refine rRun hG 99999 ?_
          refine rVV hG (sp_X7_remembers (mt := mt) (sd := sd) (ms := ms) (mg := mg) (mk := mk) (hn := hn) (mh := mh) (tr := tr) (mx := mx) (w9 := w9) (t9 := t9) (c9 := c9) (g9 := g9) hQ9) rfl rfl lk_X7_179 mf_X7_remembers (by decide) (Nat.le_of_ble_eq_true rfl) ⟨_, _, _, rfl, rfl, rfl⟩ ?_
          rintro _ rfl
          refine rRun hG 99999 ?_
          refine And.intro rfl (And.intro (by first | omega | (dsimp only [Int.reduceToNat]; omega)) (And.intro (by first | omega | (dsimp only [Int.reduceToNat]; omega)) (And.intro rfl (And.intro (by first | omega | (dsimp only [Int.reduceToNat]; omega)) (?_)))))
          refine rIR hG rfl rfl (True.intro) ?_
          refine Or.inr ⟨by omega, ?_, ?_⟩
          · show mup (remM ms) 2 (remM ms 2 + v) 2 = _
            rw [mup_s, r2]
          · show hM mt sd (mup (remM ms) 2 (remM ms 2 + v)) mg mk hn mh tr mx w9 t9 c9 g9 = _
            rw [r2]
        · try dsimp only [Int.reduceToNat] at c7
          refine rIR hG rfl rfl (True.intro) ?_
          exact Or.inl ⟨by omega, rfl, rfl⟩
set_option maxRecDepth 20000 in
set_option maxHeartbeats 1000000 in
theorem sp_X7_undo {mt sd : TD} {ms mg mk : FN} {hn : Int} {mh : FN} {tr : Int} {mx : XD} {w9 t9 c9 g9 : FN}  (hT : TOK mt) (hQ : MOM ms) (h9 : ms 0 ≤ tDay mt) : SpI l 1 yX7_undo cX7_undo 3 (some .int) [mr 0] (hM mt sd ms mg mk hn mh tr mx w9 t9 c9 g9) (fun z h => (ms 9 = 0 ∧ z = -2 ∧ h = hM mt sd ms mg mk hn mh tr mx w9 t9 c9 g9) ∨ (¬ ms 9 = 0 ∧ z = ms 9 - 1 ∧ h = hM mt sd (undK ms 9) mg mk hn mh tr mx w9 t9 c9 g9)) := by
  have hT1 := hT.1
  have hT5 := hT.2.2.2.2.1
  have hT6 := hT.2.2.2.2.2.1
  have hQ1 := hQ.1
  have hQ2 := hQ.2.1
  have hQ3 := hQ.2.2.1
  have hQ4 := hQ.2.2.2.1
  have hQ5 := hQ.2.2.2.2.1
  have hQ8 := hQ.2.2.2.2.2.1
  have hQ9 := hQ.2.2.2.2.2.2
  have r0 : remM ms 0 = ms 0 := remM_lo hQ9 (by decide)
  have r1 : remM ms 1 = ms 1 := remM_lo hQ9 (by decide)
  have r2 : remM ms 2 = ms 2 := remM_lo hQ9 (by decide)
  have r3 : remM ms 3 = ms 3 := remM_lo hQ9 (by decide)
  have r8 : remM ms 8 = ms 8 := remM_lo hQ9 (by decide)
  refine SpI.of (cd := kdX7_undo) (fT := mlook flX7) (kT := mlook klX7) (kJ := mlook jlX7) mfA_X7_undo ok_X7_undo fT_X7 kT_X7 jT_X7 jdk_ok True.intro (Nat.le_of_ble_eq_true rfl) (fun G hG => ?_)
  refine rRun hG 24 ?_
  refine And.intro rfl (And.intro (by first | omega | (dsimp only [Int.reduceToNat]; omega)) (And.intro (by first | omega | (dsimp only [Int.reduceToNat]; omega)) (And.intro (fun c1 => ?_) (fun c1 => ?_))))
  · try dsimp only [Int.reduceToNat] at c1
    refine rRun hG 24 ?_
    refine And.intro rfl (And.intro (by first | omega | (dsimp only [Int.reduceToNat]; omega)) (And.intro (by first | omega | (dsimp only [Int.reduceToNat]; omega)) (?_)))
    have h90 : mup ms (Int.toNat 9) (ms (Int.toNat 9) - 1) (Int.toNat 9) = ms 9 - 1 := mup_s
    show G 24 _ _ (hM mt sd (mup ms (Int.toNat 9) (ms (Int.toNat 9) - 1)) mg mk hn mh tr mx w9 t9 c9 g9)
    refine rRun hG 40 ?_
    refine And.intro rfl (And.intro (by first | omega | (dsimp only [Int.reduceToNat]; omega)) (?_))
    have J40 : ∀ (n : Nat) (k : Nat) (f : FN), (k ≤ 9 ∧ ∀ a, f a = undK ms k a) → 9 - k < n → G 40 [some (mr 0), some (mi (10 + 9 * (ms 9 - 1))), some (mi (k : Int))] [] (hM mt sd f mg mk hn mh tr mx w9 t9 c9 g9) := by
      intro n
      induction n with
      | zero => intro k f _ hm; exact absurd hm (Nat.not_lt_zero _)
      | succ n ih =>
        intro k f hinv hm
        refine rRun hG 99999 ?_
        refine And.intro (by first | omega | (dsimp only [Int.reduceToNat]; omega)) (And.intro (fun c2 => ?_) (fun c2 => ?_))
        · try dsimp only [Int.reduceToNat] at c2
          refine rRun hG 99999 ?_
          refine And.intro rfl (And.intro (by first | omega | (dsimp only [Int.reduceToNat]; omega)) (?_))
          refine rIR hG rfl rfl (True.intro) ?_
          obtain rfl : f = undK ms 9 := (funext fun a => by rw [hinv.2 a, show k = 9 by omega])
          refine Or.inr ⟨by omega, ?_, rfl⟩
          exact (if_neg (by omega)).trans (if_pos rfl)
        · try dsimp only [Int.reduceToNat] at c2
          refine And.intro rfl (And.intro rfl (And.intro (by first | omega | (dsimp only [Int.reduceToNat]; omega)) (And.intro (by first | omega | (dsimp only [Int.reduceToNat]; omega)) (?_))))
          refine rLess hG ?_ (ih (k + 1) (mup f (k : Int).toNat (f ((10 + 9 * (ms 9 - 1)) + (k : Int)).toNat)) ⟨?_, ?_⟩ ?_)
          · exact ⟨rfl, rfl, rfl, True.intro⟩
          · omega
          · intro a
            simp only [mup, hinv.2, undK]; (repeat' split); all_goals first | rfl | (exfalso; omega) | (congr 1; omega)
          · omega
    have e40 : mup ms (Int.toNat 9) (ms (Int.toNat 9) - 1) (Int.toNat 9) = ms 9 - 1 := mup_s
    refine rLess hG (L' := [some (mr 0), some (mi (10 + 9 * mup ms (Int.toNat 9) (ms (Int.toNat 9) - 1) (Int.toNat 9))), some (mi ((0 : Nat) : Int))]) ⟨rfl, rfl, rfl, True.intro⟩ ?_
    rw [e40]
    exact J40 _ 0 (mup ms 9 (ms 9 - 1)) ⟨by omega, fun a => by unfold undK mup; rw [if_neg (by omega : ¬ a < 0)]⟩ (Nat.lt_succ_self _)
  · try dsimp only [Int.reduceToNat] at c1
    refine rIR hG rfl rfl (True.intro) ?_
    exact Or.inl ⟨by omega, rfl, rfl⟩
def nowM (D : Int) (m : FN) (w : Int) : Int := if w = 0 then m 0 else if w = 1 then m 1 else if w = 2 then m 2 else if w = 3 then m 3 else if w = 4 then m 4 + m 5 + m 6 + m 7 else if w = 5 then m 8 else if w = 6 then (if m 0 = D then 1 else 0) else if w = 7 then (if m 1 = 0 then 1 else 0) else -1000000
def cntM (t : TD) (m : FN) (hn xn w : Int) : Int := if w = 0 then tDay t else if w = 1 then tNB t else if w = 2 then tNT t else if w = 3 then tLim t else if w = 4 then tAdd t else if w = 5 then hn else if w = 6 then m 9 else if w = 7 then xn else -1
set_option maxRecDepth 20000 in
set_option maxHeartbeats 1000000 in
theorem sp_X7_now {mt sd : TD} {ms mg mk : FN} {hn : Int} {mh : FN} {tr : Int} {mx : XD} {w9 t9 c9 g9 : FN} {w : Int} (hT : TOK mt) (hQ : MOM ms) (h9 : ms 0 ≤ tDay mt) (h1 : inI w) : SpI l 2 yX7_now cX7_now 2 (some .int) [mr 0, mi w] (hM mt sd ms mg mk hn mh tr mx w9 t9 c9 g9) (fun z h => z = nowM (tDay mt) ms w ∧ h = hM mt sd ms mg mk hn mh tr mx w9 t9 c9 g9) := by
  have hT1 := hT.1
  have hT5 := hT.2.2.2.2.1
  have hT6 := hT.2.2.2.2.2.1
  have hQ1 := hQ.1
  have hQ2 := hQ.2.1
  have hQ3 := hQ.2.2.1
  have hQ4 := hQ.2.2.2.1
  have hQ5 := hQ.2.2.2.2.1
  have hQ8 := hQ.2.2.2.2.2.1
  have hQ9 := hQ.2.2.2.2.2.2
  have r0 : remM ms 0 = ms 0 := remM_lo hQ9 (by decide)
  have r1 : remM ms 1 = ms 1 := remM_lo hQ9 (by decide)
  have r2 : remM ms 2 = ms 2 := remM_lo hQ9 (by decide)
  have r3 : remM ms 3 = ms 3 := remM_lo hQ9 (by decide)
  have r8 : remM ms 8 = ms 8 := remM_lo hQ9 (by decide)
  refine SpI.of (cd := kdX7_now) (fT := mlook flX7) (kT := mlook klX7) (kJ := mlook jlX7) mfA_X7_now ok_X7_now fT_X7 kT_X7 jT_X7 jdk_ok True.intro (Nat.le_of_ble_eq_true rfl) (fun G hG => ?_)
  refine rRun hG 99999 ?_
  refine And.intro (by first | omega | (dsimp only [Int.reduceToNat]; omega)) (And.intro (fun c1 => ?_) (And.intro (fun c1 => ?_) (And.intro (fun c1 => ?_) (And.intro (fun c1 => ?_) (And.intro (fun c1 => ?_) (And.intro (fun c1 => ?_) (And.intro (fun c1 => ?_) (And.intro (fun c1 => ?_) (And.intro (fun c1 => ?_) (True.intro))))))))))
  · skip
    refine rRun hG 99999 ?_
    refine rIR hG rfl rfl (True.intro) ?_
    refine ⟨?_, rfl⟩
    unfold nowM
    rw [if_neg (by omega), if_neg (by omega), if_neg (by omega), if_neg (by omega), if_neg (by omega), if_neg (by omega), if_neg (by omega), if_neg (by omega)]
  · skip
    refine rRun hG 99999 ?_
    refine And.intro rfl (And.intro (by first | omega | (obtain rfl : w = 1 := c1; decide) | (obtain rfl : w = 2 := c1; decide) | (obtain rfl : w = 3 := c1; decide)) (?_))
    refine rIR hG rfl rfl (True.intro) ?_
    refine ⟨?_, rfl⟩
    first | (obtain rfl : w = 0 := c1; rfl) | (obtain rfl : w = 1 := c1; rfl) | (obtain rfl : w = 2 := c1; rfl) | (obtain rfl : w = 3 := c1; rfl)
  · skip
    refine rRun hG 99999 ?_
    refine And.intro rfl (And.intro (by first | omega | (obtain rfl : w = 1 := c1; decide) | (obtain rfl : w = 2 := c1; decide) | (obtain rfl : w = 3 := c1; decide)) (?_))
    refine rIR hG rfl rfl (True.intro) ?_
    refine ⟨?_, rfl⟩
    first | (obtain rfl : w = 0 := c1; rfl) | (obtain rfl : w = 1 := c1; rfl) | (obtain rfl : w = 2 := c1; rfl) | (obtain rfl : w = 3 := c1; rfl)
  · skip
    refine rRun hG 99999 ?_
    refine And.intro rfl (And.intro (by first | omega | (obtain rfl : w = 1 := c1; decide) | (obtain rfl : w = 2 := c1; decide) | (obtain rfl : w = 3 := c1; decide)) (?_))
    refine rIR hG rfl rfl (True.intro) ?_
    refine ⟨?_, rfl⟩
    first | (obtain rfl : w = 0 := c1; rfl) | (obtain rfl : w = 1 := c1; rfl) | (obtain rfl : w = 2 := c1; rfl) | (obtain rfl : w = 3 := c1; rfl)
  · skip
    refine rRun hG 99999 ?_
    refine And.intro rfl (And.intro (by first | omega | (obtain rfl : w = 1 := c1; decide) | (obtain rfl : w = 2 := c1; decide) | (obtain rfl : w = 3 := c1; decide)) (?_))
    refine rIR hG rfl rfl (True.intro) ?_
    refine ⟨?_, rfl⟩
    first | (obtain rfl : w = 0 := c1; rfl) | (obtain rfl : w = 1 := c1; rfl) | (obtain rfl : w = 2 := c1; rfl) | (obtain rfl : w = 3 := c1; rfl)
  · skip
    refine rRun hG 99999 ?_
    refine And.intro rfl (And.intro (by first | omega | (dsimp only [Int.reduceToNat]; omega)) (And.intro rfl (And.intro (by first | omega | (dsimp only [Int.reduceToNat]; omega)) (And.intro rfl (And.intro (by first | omega | (dsimp only [Int.reduceToNat]; omega)) (And.intro rfl (And.intro (by first | omega | (dsimp only [Int.reduceToNat]; omega)) (?_))))))))
    refine rIR hG rfl rfl (True.intro) ?_
    refine ⟨?_, rfl⟩
    obtain rfl : w = 4 := by omega
    rfl
  · skip
    refine rRun hG 99999 ?_
    refine And.intro rfl (And.intro (by first | omega | (dsimp only [Int.reduceToNat]; omega)) (?_))
    refine rIR hG rfl rfl (True.intro) ?_
    refine ⟨?_, rfl⟩
    obtain rfl : w = 5 := by omega
    rfl
  · skip
    refine rRun hG 99999 ?_
    refine rV hG (sp_X7_isOver (mt := mt) (sd := sd) (ms := ms) (mg := mg) (mk := mk) (hn := hn) (mh := mh) (tr := tr) (mx := mx) (w9 := w9) (t9 := t9) (c9 := c9) (g9 := g9) (by omega) (by omega)) rfl rfl lk_X7_157 mf_X7_isOver (by decide) (Nat.le_of_ble_eq_true rfl) ⟨_, _, _, rfl, rfl, rfl⟩ ?_
    rintro w2 _ ⟨hw2, rfl⟩
    have w21 : (w2 = 1 ∧ (ms 0 = tDay mt)) ∨ (w2 = 0 ∧ ¬ (ms 0 = tDay mt)) := (by rw [hw2]; by_cases q9 : (ms 0 = tDay mt) <;> simp [q9])
    clear hw2
    refine rRun hG 99999 ?_
    refine And.intro (by first | omega | (dsimp only [Int.reduceToNat]; omega)) (And.intro (fun c3 => ?_) (fun c3 => ?_))
    · try dsimp only [Int.reduceToNat] at c3
      refine rRun hG 99999 ?_
      refine rIR hG rfl rfl (True.intro) ?_
      refine ⟨?_, rfl⟩
      obtain rfl : w = 6 := by omega
      show _ = (if ms 0 = tDay mt then 1 else 0)
      first | (rw [if_pos (by omega)]; done) | (rw [if_neg (by omega)]; done)
    · try dsimp only [Int.reduceToNat] at c3
      refine rIR hG rfl rfl (True.intro) ?_
      refine ⟨?_, rfl⟩
      obtain rfl : w = 6 := by omega
      show _ = (if ms 0 = tDay mt then 1 else 0)
      first | (rw [if_pos (by omega)]; done) | (rw [if_neg (by omega)]; done)
  · skip
    refine rRun hG 99999 ?_
    refine rV hG (sp_X7_isFree (mt := mt) (sd := sd) (ms := ms) (mg := mg) (mk := mk) (hn := hn) (mh := mh) (tr := tr) (mx := mx) (w9 := w9) (t9 := t9) (c9 := c9) (g9 := g9) (by omega)) rfl rfl lk_X7_161 mf_X7_isFree (by decide) (Nat.le_of_ble_eq_true rfl) ⟨_, _, _, rfl, rfl, rfl⟩ ?_
    rintro w2 _ ⟨hw2, rfl⟩
    have w21 : (w2 = 1 ∧ (ms 1 = 0)) ∨ (w2 = 0 ∧ ¬ (ms 1 = 0)) := (by rw [hw2]; by_cases q9 : (ms 1 = 0) <;> simp [q9])
    clear hw2
    refine rRun hG 99999 ?_
    refine And.intro (by first | omega | (dsimp only [Int.reduceToNat]; omega)) (And.intro (fun c5 => ?_) (fun c5 => ?_))
    · try dsimp only [Int.reduceToNat] at c5
      refine rRun hG 99999 ?_
      refine rIR hG rfl rfl (True.intro) ?_
      refine ⟨?_, rfl⟩
      obtain rfl : w = 7 := by omega
      show _ = (if ms 1 = 0 then 1 else 0)
      first | (rw [if_pos (by omega)]; done) | (rw [if_neg (by omega)]; done)
    · try dsimp only [Int.reduceToNat] at c5
      refine rIR hG rfl rfl (True.intro) ?_
      refine ⟨?_, rfl⟩
      obtain rfl : w = 7 := by omega
      show _ = (if ms 1 = 0 then 1 else 0)
      first | (rw [if_pos (by omega)]; done) | (rw [if_neg (by omega)]; done)
set_option maxRecDepth 20000 in
set_option maxHeartbeats 1000000 in
theorem sp_X7_count {mt sd : TD} {ms mg mk : FN} {hn : Int} {mh : FN} {tr : Int} {mx : XD} {w9 t9 c9 g9 : FN} {w : Int} (h1 : inI w) : SpI l 1 yX7_count cX7_count 2 (some .int) [mr 0, mi w] (hM mt sd ms mg mk hn mh tr mx w9 t9 c9 g9) (fun z h => z = cntM mt ms hn (xN mx) w ∧ h = hM mt sd ms mg mk hn mh tr mx w9 t9 c9 g9) := by
  refine SpI.of (cd := kdX7_count) (fT := mlook flX7) (kT := mlook klX7) (kJ := mlook jlX7) mfA_X7_count ok_X7_count fT_X7 kT_X7 jT_X7 jdk_ok True.intro (Nat.le_of_ble_eq_true rfl) (fun G hG => ?_)
  refine rRun hG 99999 ?_
  refine And.intro (by first | omega | (dsimp only [Int.reduceToNat]; omega)) (And.intro (fun c1 => ?_) (And.intro (fun c1 => ?_) (And.intro (fun c1 => ?_) (And.intro (fun c1 => ?_) (And.intro (fun c1 => ?_) (And.intro (fun c1 => ?_) (And.intro (fun c1 => ?_) (And.intro (fun c1 => ?_) (And.intro (fun c1 => ?_) (True.intro))))))))))
  · skip
    refine rRun hG 99999 ?_
    refine rIR hG rfl rfl (True.intro) ?_
    refine ⟨?_, rfl⟩
    unfold cntM
    rw [if_neg (by omega), if_neg (by omega), if_neg (by omega), if_neg (by omega), if_neg (by omega), if_neg (by omega), if_neg (by omega), if_neg (by omega)]
  · skip
    refine rRun hG 99999 ?_
    refine And.intro rfl (?_)
    refine rIR hG rfl rfl (True.intro) ?_
    refine ⟨?_, rfl⟩
    obtain rfl : w = 0 := by omega
    rfl
  · skip
    refine rRun hG 99999 ?_
    refine And.intro rfl (?_)
    refine rIR hG rfl rfl (True.intro) ?_
    refine ⟨?_, rfl⟩
    obtain rfl : w = 1 := by omega
    rfl
  · skip
    refine rRun hG 99999 ?_
    refine And.intro rfl (?_)
    refine rIR hG rfl rfl (True.intro) ?_
    refine ⟨?_, rfl⟩
    obtain rfl : w = 2 := by omega
    rfl
  · skip
    refine rRun hG 99999 ?_
    refine And.intro rfl (?_)
    refine rIR hG rfl rfl (True.intro) ?_
    refine ⟨?_, rfl⟩
    obtain rfl : w = 3 := by omega
    rfl
  · skip
    refine rRun hG 99999 ?_
    refine And.intro rfl (?_)
    refine rIR hG rfl rfl (True.intro) ?_
    refine ⟨?_, rfl⟩
    obtain rfl : w = 4 := by omega
    rfl
  · skip
    refine rRun hG 99999 ?_
    refine And.intro rfl (?_)
    refine rIR hG rfl rfl (True.intro) ?_
    refine ⟨?_, rfl⟩
    obtain rfl : w = 5 := by omega
    rfl
  · skip
    refine rRun hG 99999 ?_
    refine And.intro rfl (And.intro (by first | omega | (dsimp only [Int.reduceToNat]; omega)) (?_))
    refine rIR hG rfl rfl (True.intro) ?_
    refine ⟨?_, rfl⟩
    obtain rfl : w = 6 := by omega
    rfl
  · skip
    refine rRun hG 99999 ?_
    refine And.intro rfl (?_)
    refine rIR hG rfl rfl (True.intro) ?_
    refine ⟨?_, rfl⟩
    obtain rfl : w = 7 := by omega
    rfl
set_option maxRecDepth 20000 in
set_option maxHeartbeats 1000000 in
theorem sp_X7_keep {mt sd : TD} {ms mg mk : FN} {hn : Int} {mh : FN} {tr : Int} {mx : XD} {w9 t9 c9 g9 : FN} {w : Int} (h1 : inI w) : SpI l 2 yX7_keep cX7_keep 3 (some .int) [mr 0, mi w] (hM mt sd ms mg mk hn mh tr mx w9 t9 c9 g9) (fun z h => (¬ (0 ≤ w ∧ w ≤ 1) ∧ z = -1 ∧ h = hM mt sd ms mg mk hn mh tr mx w9 t9 c9 g9) ∨ ((0 ≤ w ∧ w ≤ 1) ∧ z = ms 0 ∧ h = hM mt sd ms (kepK mg ms w.toNat 100) (mup mk w.toNat 1) hn mh tr mx w9 t9 c9 g9)) := by
  refine SpI.of (cd := kdX7_keep) (fT := mlook flX7) (kT := mlook klX7) (kJ := mlook jlX7) mfA_X7_keep ok_X7_keep fT_X7 kT_X7 jT_X7 jdk_ok True.intro (Nat.le_of_ble_eq_true rfl) (fun G hG => ?_)
  refine rRun hG 13 ?_
  refine rS hG (sp_X7_in (v := w) (a := 0) (b := 1) (by omega)) rfl rfl lk_X7_66 mf_X7_in (by decide) (Nat.le_of_ble_eq_true rfl) ?_
  rintro w1 _ ⟨hw1, rfl⟩
  have w11 : (w1 = 1 ∧ (0 ≤ w ∧ w ≤ 1)) ∨ (w1 = 0 ∧ ¬ (0 ≤ w ∧ w ≤ 1)) := (by rw [hw1]; by_cases q9 : (0 ≤ w ∧ w ≤ 1) <;> simp [q9])
  clear hw1
  refine rRun hG 13 ?_
  refine And.intro (by first | omega | (dsimp only [Int.reduceToNat]; omega)) (And.intro (fun c2 => ?_) (fun c2 => ?_))
  · try dsimp only [Int.reduceToNat] at c2
    refine rRun hG 13 ?_
    have J13 : ∀ (n : Nat) (k : Nat) (f : FN), (k ≤ 100 ∧ ∀ a, f a = kepK mg ms w.toNat k a) → 100 - k < n → G 13 [some (mr 0), some (mi w), some (mi (k : Int))] [] (hM mt sd ms f mk hn mh tr mx w9 t9 c9 g9) := by
      intro n
      induction n with
      | zero => intro k f _ hm; exact absurd hm (Nat.not_lt_zero _)
      | succ n ih =>
        intro k f hinv hm
        refine rRun hG 99999 ?_
        refine And.intro (by first | omega | (dsimp only [Int.reduceToNat]; omega)) (And.intro (fun c3 => ?_) (fun c3 => ?_))
        · try dsimp only [Int.reduceToNat] at c3
          refine rRun hG 99999 ?_
          refine And.intro rfl (And.intro (by first | omega | (dsimp only [Int.reduceToNat]; omega)) (And.intro rfl (And.intro (by first | omega | (dsimp only [Int.reduceToNat]; omega)) (?_))))
          refine rIR hG rfl rfl (True.intro) ?_
          obtain rfl : f = kepK mg ms w.toNat 100 := (funext fun a => by rw [hinv.2 a, show k = 100 by omega])
          exact Or.inr ⟨by omega, rfl, rfl⟩
        · try dsimp only [Int.reduceToNat] at c3
          refine And.intro rfl (And.intro rfl (And.intro (by first | omega | (dsimp only [Int.reduceToNat]; omega)) (And.intro (by first | omega | (dsimp only [Int.reduceToNat]; omega)) (?_))))
          refine rLess hG ?_ (ih (k + 1) (mup f (100 * w + (k : Int)).toNat (ms (k : Int).toNat)) ⟨?_, ?_⟩ ?_)
          · exact ⟨rfl, rfl, rfl, True.intro⟩
          · omega
          · intro a
            simp only [mup, hinv.2, kepK]; (repeat' split); all_goals first | rfl | (exfalso; omega) | (congr 1; omega)
          · omega
    exact J13 _ 0 mg ⟨by omega, fun a => (if_neg (by omega)).symm⟩ (Nat.lt_succ_self _)
  · try dsimp only [Int.reduceToNat] at c2
    refine rIR hG rfl rfl (True.intro) ?_
    exact Or.inl ⟨by omega, rfl, rfl⟩
set_option maxRecDepth 20000 in
set_option maxHeartbeats 1000000 in
theorem sp_X7_back {mt sd : TD} {ms mg mk : FN} {hn : Int} {mh : FN} {tr : Int} {mx : XD} {w9 t9 c9 g9 : FN} {w : Int} (h1 : inI w) (h2 : ∀ a, a < 2 → 0 ≤ mk a ∧ mk a ≤ 1) : SpI l 2 yX7_back cX7_back 3 (some .int) [mr 0, mi w] (hM mt sd ms mg mk hn mh tr mx w9 t9 c9 g9) (fun z h => (¬ (0 ≤ w ∧ w ≤ 1) ∧ z = -1 ∧ h = hM mt sd ms mg mk hn mh tr mx w9 t9 c9 g9) ∨ ((0 ≤ w ∧ w ≤ 1) ∧ mk w.toNat = 0 ∧ z = -2 ∧ h = hM mt sd ms mg mk hn mh tr mx w9 t9 c9 g9) ∨ ((0 ≤ w ∧ w ≤ 1) ∧ ¬ mk w.toNat = 0 ∧ z = bakK mg ms w.toNat 100 0 ∧ h = hM mt sd (bakK mg ms w.toNat 100) mg mk hn mh tr mx w9 t9 c9 g9)) := by
  refine SpI.of (cd := kdX7_back) (fT := mlook flX7) (kT := mlook klX7) (kJ := mlook jlX7) mfA_X7_back ok_X7_back fT_X7 kT_X7 jT_X7 jdk_ok True.intro (Nat.le_of_ble_eq_true rfl) (fun G hG => ?_)
  refine rRun hG 25 ?_
  refine rS hG (sp_X7_in (v := w) (a := 0) (b := 1) (by omega)) rfl rfl lk_X7_66 mf_X7_in (by decide) (Nat.le_of_ble_eq_true rfl) ?_
  rintro w1 _ ⟨hw1, rfl⟩
  have w11 : (w1 = 1 ∧ (0 ≤ w ∧ w ≤ 1)) ∨ (w1 = 0 ∧ ¬ (0 ≤ w ∧ w ≤ 1)) := (by rw [hw1]; by_cases q9 : (0 ≤ w ∧ w ≤ 1) <;> simp [q9])
  clear hw1
  refine rRun hG 25 ?_
  refine And.intro (by first | omega | (dsimp only [Int.reduceToNat]; omega)) (And.intro (fun c2 => ?_) (fun c2 => ?_))
  · try dsimp only [Int.reduceToNat] at c2
    refine rRun hG 25 ?_
    refine And.intro rfl (And.intro (by first | omega | (dsimp only [Int.reduceToNat]; omega)) (And.intro (by have := h2 w.toNat (by omega); omega) (And.intro (fun c3 => ?_) (fun c3 => ?_))))
    · try dsimp only [Int.reduceToNat] at c3
      refine rRun hG 25 ?_
      have J25 : ∀ (n : Nat) (k : Nat) (f : FN), (k ≤ 100 ∧ ∀ a, f a = bakK mg ms w.toNat k a) → 100 - k < n → G 25 [some (mr 0), some (mi w), some (mi (k : Int))] [] (hM mt sd f mg mk hn mh tr mx w9 t9 c9 g9) := by
        intro n
        induction n with
        | zero => intro k f _ hm; exact absurd hm (Nat.not_lt_zero _)
        | succ n ih =>
          intro k f hinv hm
          refine rRun hG 99999 ?_
          refine And.intro (by first | omega | (dsimp only [Int.reduceToNat]; omega)) (And.intro (fun c4 => ?_) (fun c4 => ?_))
          · try dsimp only [Int.reduceToNat] at c4
            refine rRun hG 99999 ?_
            refine And.intro rfl (And.intro (by first | omega | (dsimp only [Int.reduceToNat]; omega)) (?_))
            refine rIR hG rfl rfl (True.intro) ?_
            obtain rfl : f = bakK mg ms w.toNat 100 := (funext fun a => by rw [hinv.2 a, show k = 100 by omega])
            exact Or.inr (Or.inr ⟨by omega, by omega, rfl, rfl⟩)
          · try dsimp only [Int.reduceToNat] at c4
            refine And.intro rfl (And.intro rfl (And.intro (by first | omega | (dsimp only [Int.reduceToNat]; omega)) (And.intro (by first | omega | (dsimp only [Int.reduceToNat]; omega)) (?_))))
            refine rLess hG ?_ (ih (k + 1) (mup f (k : Int).toNat (mg (100 * w + (k : Int)).toNat)) ⟨?_, ?_⟩ ?_)
            · exact ⟨rfl, rfl, rfl, True.intro⟩
            · omega
            · intro a
              simp only [mup, hinv.2, bakK]; (repeat' split); all_goals first | rfl | (exfalso; omega) | (congr 1; omega)
            · omega
      exact J25 _ 0 ms ⟨by omega, fun a => (if_neg (by omega)).symm⟩ (Nat.lt_succ_self _)
    · try dsimp only [Int.reduceToNat] at c3
      refine rIR hG rfl rfl (True.intro) ?_
      exact Or.inr (Or.inl ⟨by omega, by omega, rfl, rfl⟩)
  · try dsimp only [Int.reduceToNat] at c2
    refine rIR hG rfl rfl (True.intro) ?_
    exact Or.inl ⟨by omega, rfl, rfl⟩
def mrkM (mt : TD) (ms : FN) (kd i : Int) : Int := if kd = 0 then tTra mt (2 * i).toNat else if kd = 1 then tTra mt (2 * i).toNat + ms (4 + i).toNat else if kd = 2 then tTra mt (2 * i).toNat - ms 2 else if kd = 3 then 2 * (tTra mt (2 * i).toNat + ms (4 + i).toNat) else if kd = 4 then tTra mt (2 * i).toNat - ms 2 + i else if kd = 5 then tTra mt (2 * i).toNat + ms 3 else -1000000
set_option maxRecDepth 20000 in
set_option maxHeartbeats 1000000 in
theorem sp_X7_mark {mt sd : TD} {ms mg mk : FN} {hn : Int} {mh : FN} {tr : Int} {mx : XD} {w9 t9 c9 g9 : FN} {kd i : Int} (h1 : inI kd) (h2 : inI i) (h3 : 0 ≤ tNT mt ∧ tNT mt ≤ 4) : SpI l 3 yX7_mark cX7_mark 6 (some .int) [mr 0, mi kd, mi i] (hM mt sd ms mg mk hn mh tr mx w9 t9 c9 g9) (fun z h => (¬ ((0 ≤ kd ∧ kd ≤ 5) ∧ 0 ≤ i ∧ i < tNT mt) ∧ z = -1000000 ∧ h = hM mt sd ms mg mk hn mh tr mx w9 t9 c9 g9) ∨ (((0 ≤ kd ∧ kd ≤ 5) ∧ 0 ≤ i ∧ i < tNT mt) ∧ z = mrkM mt ms kd i ∧ h = hM mt sd ms mg mk hn mh (tr + mrkT kd) mx w9 t9 c9 g9)) := by
  refine SpI.of (cd := kdX7_mark) (fT := mlook flX7) (kT := mlook klX7) (kJ := mlook jlX7) mfA_X7_mark ok_X7_mark fT_X7 kT_X7 jT_X7 jdk_ok True.intro (Nat.le_of_ble_eq_true rfl) (fun G hG => ?_)
  refine rRun hG 99999 ?_
  refine rS hG (sp_X7_in (v := kd) (a := 0) (b := 5) (by omega)) rfl rfl lk_X7_66 mf_X7_in (by decide) (Nat.le_of_ble_eq_true rfl) ?_
  rintro w1 _ ⟨hw1, rfl⟩
  have w11 : (w1 = 1 ∧ (0 ≤ kd ∧ kd ≤ 5)) ∨ (w1 = 0 ∧ ¬ (0 ≤ kd ∧ kd ≤ 5)) := (by rw [hw1]; by_cases q9 : (0 ≤ kd ∧ kd ≤ 5) <;> simp [q9])
  clear hw1
  refine rRun hG 99999 ?_
  refine And.intro (by first | omega | (dsimp only [Int.reduceToNat]; omega)) (And.intro (fun c2 => ?_) (fun c2 => ?_))
  · try dsimp only [Int.reduceToNat] at c2
    refine rRun hG 99999 ?_
    refine rIR hG rfl rfl (True.intro) ?_
    exact Or.inl ⟨by omega, rfl, rfl⟩
  · try dsimp only [Int.reduceToNat] at c2
    refine rV hG (sp_X7_isTrade (mt := mt) (sd := sd) (ms := ms) (mg := mg) (mk := mk) (hn := hn) (mh := mh) (tr := tr) (mx := mx) (w9 := w9) (t9 := t9) (c9 := c9) (g9 := g9) (i := i) h2 (by omega)) rfl rfl lk_X7_154 mf_X7_isTrade (by decide) (Nat.le_of_ble_eq_true rfl) ⟨_, _, _, rfl, rfl, rfl⟩ ?_
    rintro w2 _ ⟨hw2, rfl⟩
    have w21 : (w2 = 1 ∧ (0 ≤ i ∧ i < tNT mt)) ∨ (w2 = 0 ∧ ¬ (0 ≤ i ∧ i < tNT mt)) := (by rw [hw2]; by_cases q9 : (0 ≤ i ∧ i < tNT mt) <;> simp [q9])
    clear hw2
    refine rRun hG 99999 ?_
    refine And.intro (by first | omega | (dsimp only [Int.reduceToNat]; omega)) (And.intro (fun c4 => ?_) (fun c4 => ?_))
    · try dsimp only [Int.reduceToNat] at c4
      refine rRun hG 99999 ?_
      refine And.intro rfl (And.intro (by first | omega | (dsimp only [Int.reduceToNat]; omega)) (And.intro rfl (And.intro (by first | omega | (dsimp only [Int.reduceToNat]; omega)) (And.intro rfl (And.intro (by first | omega | (dsimp only [Int.reduceToNat]; omega)) (And.intro (by first | omega | (dsimp only [Int.reduceToNat]; omega)) (And.intro (fun c5 => ?_) (And.intro (fun c5 => ?_) (And.intro (fun c5 => ?_) (And.intro (fun c5 => ?_) (And.intro (fun c5 => ?_) (And.intro (fun c5 => ?_) (True.intro)))))))))))))
      · skip
        refine rRun hG 99999 ?_
        refine And.intro rfl (And.intro ⟨rfl, by exact Nat.le_of_ble_eq_true rfl, by first | exact True.intro | exact Or.inl rfl | exact Or.inr rfl⟩ (?_))
        refine rIR hG rfl rfl (True.intro) ?_
        obtain rfl : kd = 0 := by omega
        exact Or.inr ⟨by omega, rfl, rfl⟩
      · skip
        refine rRun hG 99999 ?_
        refine And.intro rfl (And.intro ⟨rfl, by exact Nat.le_of_ble_eq_true rfl, by first | exact True.intro | exact Or.inl rfl | exact Or.inr rfl⟩ (?_))
        refine rIR hG rfl rfl (True.intro) ?_
        obtain rfl : kd = 1 := by omega
        exact Or.inr ⟨by omega, rfl, rfl⟩
      · skip
        refine rRun hG 99999 ?_
        refine And.intro rfl (And.intro ⟨rfl, by exact Nat.le_of_ble_eq_true rfl, by first | exact True.intro | exact Or.inl rfl | exact Or.inr rfl⟩ (?_))
        refine rIR hG rfl rfl (True.intro) ?_
        obtain rfl : kd = 2 := by omega
        exact Or.inr ⟨by omega, rfl, rfl⟩
      · skip
        refine rRun hG 99999 ?_
        refine And.intro rfl (And.intro ⟨rfl, by exact Nat.le_of_ble_eq_true rfl, by first | exact True.intro | exact Or.inl rfl | exact Or.inr rfl⟩ (?_))
        refine rIR hG rfl rfl (True.intro) ?_
        obtain rfl : kd = 3 := by omega
        exact Or.inr ⟨by omega, rfl, rfl⟩
      · skip
        refine rRun hG 99999 ?_
        refine And.intro rfl (And.intro ⟨rfl, by exact Nat.le_of_ble_eq_true rfl, by first | exact True.intro | exact Or.inl rfl | exact Or.inr rfl⟩ (?_))
        refine rIR hG rfl rfl (True.intro) ?_
        obtain rfl : kd = 4 := by omega
        exact Or.inr ⟨by omega, rfl, rfl⟩
      · skip
        refine rRun hG 99999 ?_
        refine And.intro rfl (And.intro ⟨rfl, by exact Nat.le_of_ble_eq_true rfl, by first | exact True.intro | exact Or.inl rfl | exact Or.inr rfl⟩ (And.intro rfl (And.intro (by first | omega | (dsimp only [Int.reduceToNat]; omega)) (?_))))
        refine rIR hG rfl rfl (True.intro) ?_
        obtain rfl : kd = 5 := by omega
        exact Or.inr ⟨by omega, rfl, rfl⟩
    · try dsimp only [Int.reduceToNat] at c4
      refine rIR hG rfl rfl (True.intro) ?_
      exact Or.inl ⟨by omega, rfl, rfl⟩
end WALKS
