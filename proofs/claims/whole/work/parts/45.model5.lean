/-! the reference: a turned day -/
section WALKS
variable {l : Launch}
def hrmW (tr : FN) (e : Int) (m : FN) : Nat → FN
  | 0 => m
  | i + 1 => mup (hrmW tr e m i) (4 + i) (min 9999 (hrmW tr e m i (4 + i) + hrm1 tr e i))
theorem hrmW_lo {tr : FN} {e : Int} {m : FN} : ∀ {i j : Nat}, (j < 4 ∨ 4 + i ≤ j) → hrmW tr e m i j = m j
  | 0, _, _ => rfl
  | i + 1, j, h => by
    show mup (hrmW tr e m i) (4 + i) _ j = m j
    rw [mup_n (by omega)]
    exact hrmW_lo (by omega)
theorem chkW_0 {m : FN} {a b : Int} : chkW m a b 0 = m 0 := by
  unfold chkW
  by_cases q : max (m 2) (-(m 2)) ≤ a
  · rw [if_pos q]
  · rw [if_neg q, mup_n (by decide), mup_n (by decide), mup_n (by decide)]
/-- what a turned day leaves ahead of the check -/
def wndM (t : TD) (p : Int) (m : FN) : FN :=
  hrmW (tTra t) (m 2 + p) (mup (mup (mup (remM m) 2 (m 2 + p)) 1 (max 0 (m 1 - 4 - p))) 3 (min 999 (m 3 + cndl (tBri t) (m 0) p (tNB t).toNat))) (tNT t).toNat
def wndR (t : TD) (p z : Int) (m : FN) : Int := if drw (m 0) z < tSun t (m 0).toNat then chkR (wndM t p m) (tLim t) else 0
def wndC (t : TD) (p z : Int) (m : FN) : FN := if drw (m 0) z < tSun t (m 0).toNat then chkW (wndM t p m) (tLim t) (tAdd t) else wndM t p m
set_option maxRecDepth 20000 in
set_option maxHeartbeats 2000000 in
theorem sp_X7_winds {mt sd : TD} {ms mg mk : FN} {hn : Int} {mh : FN} {tr : Int} {mx : XD} {w9 t9 c9 g9 : FN} {p z : Int} (hT : TOK mt) (hQ : MOM ms) (h9 : ms 0 ≤ tDay mt) (h1 : inI p) (h2 : inI z) : SpI l 3 yX7_winds cX7_winds 8 (some .int) [mr 0, mi p, mi z] (hM mt sd ms mg mk hn mh tr mx w9 t9 c9 g9) (fun w h => (¬ ((-2 ≤ p ∧ p ≤ 3) ∧ 0 ≤ z ∧ z ≤ 9999) ∧ w = -1 ∧ h = hM mt sd ms mg mk hn mh tr mx w9 t9 c9 g9) ∨ (((-2 ≤ p ∧ p ≤ 3) ∧ 0 ≤ z ∧ z ≤ 9999) ∧ ((ms 0 = tDay mt ∨ ms 1 = 0) ∨ 9 < max (ms 2 + p) (-(ms 2 + p))) ∧ w = -2 ∧ h = hM mt sd ms mg mk hn mh tr mx w9 t9 c9 g9) ∨ (((-2 ≤ p ∧ p ≤ 3) ∧ 0 ≤ z ∧ z ≤ 9999) ∧ ¬ ((ms 0 = tDay mt ∨ ms 1 = 0) ∨ 9 < max (ms 2 + p) (-(ms 2 + p))) ∧ w = wndR mt p z ms ∧ h = hM mt sd (mup (wndC mt p z ms) 0 (ms 0 + 1)) mg mk hn mh tr mx w9 t9 c9 g9)) := by
  have hT1 := hT.1
  have hT5 := hT.2.2.2.2.1
  have hT6 := hT.2.2.2.2.2.1
  have hQ1 := hQ.1
  have hQ2 := hQ.2.1
  have hQ3 := hQ.2.2.1
  have hQ4 := hQ.2.2.2.1
  have hQ5 := hQ.2.2.2.2.1
  have hQ8 := hQ.2.2.2.2.2.1
  have hQ9 := hQ.2.2.2.2.2.2
  have r0 : remM ms 0 = ms 0 := remM_lo hQ9 (by decide)
  have r1 : remM ms 1 = ms 1 := remM_lo hQ9 (by decide)
  have r2 : remM ms 2 = ms 2 := remM_lo hQ9 (by decide)
  have r3 : remM ms 3 = ms 3 := remM_lo hQ9 (by decide)
  have r8 : remM ms 8 = ms 8 := remM_lo hQ9 (by decide)
  have hT3 := hT.2.2.1
  have hT2 := hT.2.1
  refine SpI.of (cd := kdX7_winds) (fT := mlook flX7) (kT := mlook klX7) (kJ := mlook jlX7) mfA_X7_winds ok_X7_winds fT_X7 kT_X7 jT_X7 jdk_ok True.intro (Nat.le_of_ble_eq_true rfl) (fun G hG => ?_)
  refine rRun hG 29 ?_
  refine rS hG (sp_X7_isPace (v := p) h1) rfl rfl lk_X7_173 mf_X7_isPace (by decide) (Nat.le_of_ble_eq_true rfl) ?_
  rintro w1 _ ⟨hw1, rfl⟩
  have w11 : (w1 = 1 ∧ (-2 ≤ p ∧ p ≤ 3)) ∨ (w1 = 0 ∧ ¬ (-2 ≤ p ∧ p ≤ 3)) := (by rw [hw1]; by_cases q9 : (-2 ≤ p ∧ p ≤ 3) <;> simp [q9])
  clear hw1
  refine rRun hG 29 ?_
  refine And.intro (by first | omega | (dsimp only [Int.reduceToNat]; omega)) (And.intro (fun c2 => ?_) (fun c2 => ?_))
  · try dsimp only [Int.reduceToNat] at c2
    refine rRun hG 29 ?_
    refine rIR hG rfl rfl (True.intro) ?_
    exact Or.inl ⟨by omega, rfl, rfl⟩
  · try dsimp only [Int.reduceToNat] at c2
    refine rS hG (sp_X7_in (v := z) (a := 0) (b := 9999) (by omega)) rfl rfl lk_X7_66 mf_X7_in (by decide) (Nat.le_of_ble_eq_true rfl) ?_
    rintro w2 _ ⟨hw2, rfl⟩
    have w21 : (w2 = 1 ∧ (0 ≤ z ∧ z ≤ 9999)) ∨ (w2 = 0 ∧ ¬ (0 ≤ z ∧ z ≤ 9999)) := (by rw [hw2]; by_cases q9 : (0 ≤ z ∧ z ≤ 9999) <;> simp [q9])
    clear hw2
    refine rRun hG 29 ?_
    refine And.intro (by first | omega | (dsimp only [Int.reduceToNat]; omega)) (And.intro (fun c4 => ?_) (fun c4 => ?_))
    · try dsimp only [Int.reduceToNat] at c4
      refine rRun hG 29 ?_
      refine And.intro rfl (And.intro (by first | omega | (dsimp only [Int.reduceToNat]; omega)) (?_))
      refine rLess hG (L' := [some (mr 0), some (mi (p)), some (mi (z)), some (mi (ms 2 + p)), none, none, none, none]) ⟨rfl, rfl, rfl, rfl, True.intro⟩ ?_
      refine rRun hG 59 ?_
      refine rV hG (sp_X7_isDone (mt := mt) (sd := sd) (ms := ms) (mg := mg) (mk := mk) (hn := hn) (mh := mh) (tr := tr) (mx := mx) (w9 := w9) (t9 := t9) (c9 := c9) (g9 := g9) (by omega) (by omega) (by omega)) rfl rfl lk_X7_176 mf_X7_isDone (by decide) (Nat.le_of_ble_eq_true rfl) ⟨_, _, _, rfl, rfl, rfl⟩ ?_
      rintro w3 _ ⟨hw3, rfl⟩
      have w31 : (w3 = 1 ∧ (ms 0 = tDay mt ∨ ms 1 = 0)) ∨ (w3 = 0 ∧ ¬ (ms 0 = tDay mt ∨ ms 1 = 0)) := (by rw [hw3]; by_cases q9 : (ms 0 = tDay mt ∨ ms 1 = 0) <;> simp [q9])
      clear hw3
      refine rRun hG 59 ?_
      refine And.intro (by first | omega | (dsimp only [Int.reduceToNat]; omega)) (And.intro (fun c6 => ?_) (fun c6 => ?_))
      · try dsimp only [Int.reduceToNat] at c6
        refine rRun hG 59 ?_
        refine rIR hG rfl rfl (True.intro) ?_
        exact Or.inr (Or.inl ⟨by omega, by omega, rfl, rfl⟩)
      · try dsimp only [Int.reduceToNat] at c6
        refine rS hG (sp_X7_size (v := ms 2 + p) (by omega)) rfl rfl lk_X7_164 mf_X7_size (by decide) (Nat.le_of_ble_eq_true rfl) ?_
        rintro _ _ ⟨rfl, rfl⟩
        refine rRun hG 59 ?_
        refine And.intro (by first | omega | (dsimp only [Int.reduceToNat]; omega)) (And.intro (fun c8 => ?_) (fun c8 => ?_))
        · try dsimp only [Int.reduceToNat] at c8
          refine rRun hG 59 ?_
          refine rVV hG (sp_X7_remembers (mt := mt) (sd := sd) (ms := ms) (mg := mg) (mk := mk) (hn := hn) (mh := mh) (tr := tr) (mx := mx) (w9 := w9) (t9 := t9) (c9 := c9) (g9 := g9) hQ9) rfl rfl lk_X7_179 mf_X7_remembers (by decide) (Nat.le_of_ble_eq_true rfl) ⟨_, _, _, rfl, rfl, rfl⟩ ?_
          rintro _ rfl
          refine rRun hG 59 ?_
          refine And.intro rfl (And.intro (by first | omega | (dsimp only [Int.reduceToNat]; omega)) (?_))
          show G 59 _ _ (hM mt sd (mup (remM ms) 2 (ms 2 + p)) mg mk hn mh tr mx w9 t9 c9 g9)
          have a0 : mup (remM ms) 2 (ms 2 + p) 0 = ms 0 := by rw [mup_n (by decide)]; exact r0
          have a1 : mup (remM ms) 2 (ms 2 + p) 1 = ms 1 := by rw [mup_n (by decide)]; exact r1
          have a2 : mup (remM ms) 2 (ms 2 + p) 2 = ms 2 + p := mup_s
          have a3 : mup (remM ms) 2 (ms 2 + p) 3 = ms 3 := by rw [mup_n (by decide)]; exact r3
          have a8 : mup (remM ms) 2 (ms 2 + p) 8 = ms 8 := by rw [mup_n (by decide)]; exact r8
          have a4 : ∀ i, i < 4 → mup (remM ms) 2 (ms 2 + p) (4 + i) = ms (4 + i) := fun i hi => by rw [mup_n (by omega)]; exact remM_lo hQ9 (by omega)
          generalize hW1 : mup (remM ms) 2 (ms 2 + p) = W1 at *
          refine rRun hG 75 ?_
          refine And.intro rfl (And.intro rfl (And.intro (by first | omega | (dsimp only [Int.reduceToNat]; omega)) (?_)))
          refine rS hG (sp_X7_restBehind (r := W1 1) (p := p) (by omega) (by omega)) rfl rfl lk_X7_182 mf_X7_restBehind (by decide) (Nat.le_of_ble_eq_true rfl) ?_
          rintro _ _ ⟨rfl, rfl⟩
          refine rRun hG 75 ?_
          refine And.intro (by first | omega | (dsimp only [Int.reduceToNat]; omega)) (?_)
          show G 75 _ _ (hM mt sd (mup W1 1 (max 0 (W1 1 - 4 - p))) mg mk hn mh tr mx w9 t9 c9 g9)
          rw [a1]
          have b0 : mup W1 1 (max 0 (ms 1 - 4 - p)) 0 = ms 0 := by rw [mup_n (by decide)]; exact a0
          have b1 : mup W1 1 (max 0 (ms 1 - 4 - p)) 1 = max 0 (ms 1 - 4 - p) := mup_s
          have b2 : mup W1 1 (max 0 (ms 1 - 4 - p)) 2 = ms 2 + p := by rw [mup_n (by decide)]; exact a2
          have b3 : mup W1 1 (max 0 (ms 1 - 4 - p)) 3 = ms 3 := by rw [mup_n (by decide)]; exact a3
          have b8 : mup W1 1 (max 0 (ms 1 - 4 - p)) 8 = ms 8 := by rw [mup_n (by decide)]; exact a8
          have b4 : ∀ i, i < 4 → mup W1 1 (max 0 (ms 1 - 4 - p)) (4 + i) = ms (4 + i) := fun i hi => by rw [mup_n (by omega)]; exact a4 i hi
          generalize hW2 : mup W1 1 (max 0 (ms 1 - 4 - p)) = W2 at *
          refine rRun hG 105 ?_
          refine And.intro rfl (And.intro rfl (And.intro (by first | omega | (dsimp only [Int.reduceToNat]; omega)) (And.intro rfl (And.intro (by first | omega | (dsimp only [Int.reduceToNat]; omega)) (?_)))))
          refine rV hG (sp_X7_candlesBy (mt := mt) (sd := sd) (ms := W2) (mg := mg) (mk := mk) (hn := hn) (mh := mh) (tr := tr) (mx := mx) (w9 := w9) (t9 := t9) (c9 := c9) (g9 := g9) (day := W2 0) (pace := p) hT (by omega) (by omega)) rfl rfl lk_X7_185 mf_X7_candlesBy (by decide) (Nat.le_of_ble_eq_true rfl) ⟨_, _, _, rfl, rfl, rfl⟩ ?_
          rintro _ _ ⟨rfl, rfl⟩
          have hcd := cndl_in hT (day := W2 0) (p := p) (tNB mt).toNat (by omega)
          refine rRun hG 105 ?_
          refine rS hG (sp_X7_lesser (a := 999) (b := W2 3 + cndl (tBri mt) (W2 0) p (tNB mt).toNat) (by omega)) rfl rfl lk_X7_170 mf_X7_lesser (by decide) (Nat.le_of_ble_eq_true rfl) ?_
          rintro _ _ ⟨rfl, rfl⟩
          refine rRun hG 105 ?_
          refine And.intro (by first | omega | (dsimp only [Int.reduceToNat]; omega)) (?_)
          show G 105 _ _ (hM mt sd (mup W2 3 (min 999 (W2 3 + cndl (tBri mt) (W2 0) p (tNB mt).toNat))) mg mk hn mh tr mx w9 t9 c9 g9)
          rw [b3, b0]
          have k0 : mup W2 3 (min 999 (ms 3 + cndl (tBri mt) (ms 0) p (tNB mt).toNat)) 0 = ms 0 := by rw [mup_n (by decide)]; exact b0
          have k1 : mup W2 3 (min 999 (ms 3 + cndl (tBri mt) (ms 0) p (tNB mt).toNat)) 1 = max 0 (ms 1 - 4 - p) := by rw [mup_n (by decide)]; exact b1
          have k2 : mup W2 3 (min 999 (ms 3 + cndl (tBri mt) (ms 0) p (tNB mt).toNat)) 2 = ms 2 + p := by rw [mup_n (by decide)]; exact b2
          have k8 : mup W2 3 (min 999 (ms 3 + cndl (tBri mt) (ms 0) p (tNB mt).toNat)) 8 = ms 8 := by rw [mup_n (by decide)]; exact b8
          have k4 : ∀ i, i < 4 → mup W2 3 (min 999 (ms 3 + cndl (tBri mt) (ms 0) p (tNB mt).toNat)) (4 + i) = ms (4 + i) := fun i hi => by rw [mup_n (by omega)]; exact b4 i hi
          generalize hW3 : mup W2 3 (min 999 (ms 3 + cndl (tBri mt) (ms 0) p (tNB mt).toNat)) = W3 at *
          refine rRun hG 108 ?_
          have J108 : ∀ (n : Nat) (i : Nat), (i : Int) ≤ tNT mt → (tNT mt).toNat - i < n → G 108 [some (mr 0), some (mi (p)), some (mi (z)), some (mi (ms 2 + p)), some (mi ((i : Int))), none, none, none] [] (hM mt sd (hrmW (tTra mt) (ms 2 + p) W3 i) mg mk hn mh tr mx w9 t9 c9 g9) := by
            intro n
            induction n with
            | zero => intro i _ hm; exact absurd hm (Nat.not_lt_zero _)
            | succ n ih =>
              intro i hinv hm
              have e4 : (4 + (i : Int)).toNat = 4 + i := by omega
              have hV : i < 4 → (hrmW (tTra mt) (ms 2 + p) W3 i) (4 + i) = ms (4 + i) := fun q => by rw [hrmW_lo (by omega)]; exact k4 i q
              have hR : i < 4 → _ := fun q => hrm1_in hT (e := ms 2 + p) (by omega) (i := i) q
              refine rRun hG 117 ?_
              refine And.intro rfl (And.intro (by first | omega | (dsimp only [Int.reduceToNat]; omega)) (And.intro (fun c13 => ?_) (fun c13 => ?_)))
              · try dsimp only [Int.reduceToNat] at c13
                obtain rfl : i = (tNT mt).toNat := by omega
                have d0 : (hrmW (tTra mt) (ms 2 + p) W3 (tNT mt).toNat) 0 = ms 0 := by rw [hrmW_lo (by omega)]; exact k0
                have d1 : (hrmW (tTra mt) (ms 2 + p) W3 (tNT mt).toNat) 1 = max 0 (ms 1 - 4 - p) := by rw [hrmW_lo (by omega)]; exact k1
                have d2 : (hrmW (tTra mt) (ms 2 + p) W3 (tNT mt).toNat) 2 = ms 2 + p := by rw [hrmW_lo (by omega)]; exact k2
                have d8 : (hrmW (tTra mt) (ms 2 + p) W3 (tNT mt).toNat) 8 = ms 8 := by rw [hrmW_lo (by omega)]; exact k8
                clear hV hR ih
                generalize hW4 : (hrmW (tTra mt) (ms 2 + p) W3 (tNT mt).toNat) = W4 at *
                have h9q := drw_sq (day := W4 0) (z := z) (by omega) (by omega)
                refine rRun hG 197 ?_
                refine And.intro (by first | omega | (dsimp only [Int.reduceToNat]; omega)) (And.intro rfl (And.intro (by first | omega | (dsimp only [Int.reduceToNat]; omega)) (And.intro (by first | omega | (dsimp only [Int.reduceToNat]; omega)) (And.intro (by exact ⟨h9q, by decide, by decide⟩) (And.intro (by exact ⟨(by omega : 0 ≤ ((7919 * z + 6151 * W4 0 + 1) * (7919 * z + 6151 * W4 0 + 1)) % 65521 ∧ ((7919 * z + 6151 * W4 0 + 1) * (7919 * z + 6151 * W4 0 + 1)) % 65521 < 9223372036854775808), by decide, by decide⟩) (And.intro (by exact ⟨(by omega : 0 ≤ ((7919 * z + 6151 * W4 0 + 1) * (7919 * z + 6151 * W4 0 + 1)) % 65521 / 8 ∧ ((7919 * z + 6151 * W4 0 + 1) * (7919 * z + 6151 * W4 0 + 1)) % 65521 / 8 < 9223372036854775808), by decide, by decide⟩) (And.intro (by exact drw_inI (day := W4 0) (by omega) (by omega)) (?_))))))))
                refine rLess hG (L' := [some (mr 0), some (mi (p)), some (mi (z)), some (mi (ms 2 + p)), none, none, some (mi (drw (W4 0) z)), none]) ⟨rfl, rfl, rfl, rfl, rfl, True.intro⟩ ?_
                have hw9 := drw_in (day := W4 0) (z := z) (by omega) (by omega)
                have hs9 := hT.2.2.2.2.2.2.1 (W4 0).toNat (by omega)
                refine rRun hG 99999 ?_
                refine And.intro rfl (And.intro rfl (And.intro (by first | omega | (dsimp only [Int.reduceToNat]; omega)) (And.intro (by first | omega | (dsimp only [Int.reduceToNat]; omega)) (And.intro (by first | omega | (dsimp only [Int.reduceToNat]; omega)) (And.intro (fun cd => ?_) (fun cd => ?_))))))
                · try dsimp only [Int.reduceToNat] at cd
                  rw [d0] at cd
                  refine rRun hG 99999 ?_
                  refine And.intro rfl (And.intro (by decide) (And.intro (by decide) (?_)))
                  refine rIR hG rfl rfl (True.intro) ?_
                  have hWM : wndM mt p ms = W4 := by unfold wndM; rw [hW1, hW2, hW3, hW4]
                  refine Or.inr (Or.inr ⟨by omega, by omega, ?_, ?_⟩)
                  · unfold wndR; rw [hWM]; first | (rw [if_pos (by omega)]; done) | (rw [if_neg (by omega)]; done)
                  · unfold wndC; rw [hWM]; first | (rw [if_pos (by omega)]; show hM mt sd (mup (chkW W4 (tLim mt) (tAdd mt)) 0 (chkW W4 (tLim mt) (tAdd mt) 0 + 1)) mg mk hn mh tr mx w9 t9 c9 g9 = _; rw [chkW_0, d0]; done) | (rw [if_neg (by omega)]; show hM mt sd (mup W4 0 (W4 0 + 1)) mg mk hn mh tr mx w9 t9 c9 g9 = _; rw [d0]; done)
                · try dsimp only [Int.reduceToNat] at cd
                  rw [d0] at cd
                  refine rV hG (sp_X7_checks (mt := mt) (sd := sd) (ms := W4) (mg := mg) (mk := mk) (hn := hn) (mh := mh) (tr := tr) (mx := mx) (w9 := w9) (t9 := t9) (c9 := c9) (g9 := g9) (by omega) (by omega) (by omega) (by omega) (by omega)) rfl rfl lk_X7_198 mf_X7_checks (by decide) (Nat.le_of_ble_eq_true rfl) ⟨_, _, _, rfl, rfl, rfl⟩ ?_
                  rintro _ _ ⟨rfl, rfl⟩
                  refine rRun hG 99999 ?_
                  refine rRun hG 99999 ?_
                  refine And.intro rfl (And.intro (by decide) (And.intro (by decide) (?_)))
                  refine rIR hG rfl rfl (True.intro) ?_
                  have hWM : wndM mt p ms = W4 := by unfold wndM; rw [hW1, hW2, hW3, hW4]
                  refine Or.inr (Or.inr ⟨by omega, by omega, ?_, ?_⟩)
                  · unfold wndR; rw [hWM]; first | (rw [if_pos (by omega)]; done) | (rw [if_neg (by omega)]; done)
                  · unfold wndC; rw [hWM]; first | (rw [if_pos (by omega)]; show hM mt sd (mup (chkW W4 (tLim mt) (tAdd mt)) 0 (chkW W4 (tLim mt) (tAdd mt) 0 + 1)) mg mk hn mh tr mx w9 t9 c9 g9 = _; rw [chkW_0, d0]; done) | (rw [if_neg (by omega)]; show hM mt sd (mup W4 0 (W4 0 + 1)) mg mk hn mh tr mx w9 t9 c9 g9 = _; rw [d0]; done)
              · try dsimp only [Int.reduceToNat] at c13
                have hV := hV (by omega)
                have hR := hR (by omega)
                have hI := hQ5 i (by omega)
                refine rRun hG 155 ?_
                refine And.intro rfl (And.intro rfl (And.intro (by omega) (?_)))
                refine rV hG (sp_X7_harmOf (mt := mt) (sd := sd) (ms := (hrmW (tTra mt) (ms 2 + p) W3 i)) (mg := mg) (mk := mk) (hn := hn) (mh := mh) (tr := tr) (mx := mx) (w9 := w9) (t9 := t9) (c9 := c9) (g9 := g9) (i := i) (er := ms 2 + p) hT (by omega) (by omega)) rfl rfl lk_X7_167 mf_X7_harmOf (by decide) (Nat.le_of_ble_eq_true rfl) ⟨_, _, _, rfl, rfl, rfl⟩ ?_
                rintro _ _ ⟨rfl, rfl⟩
                refine rRun hG 155 ?_
                refine rS hG (sp_X7_lesser (a := 9999) (b := (hrmW (tTra mt) (ms 2 + p) W3 i) (4 + (i : Int)).toNat + hrm1 (tTra mt) (ms 2 + p) i) (by rw [e4, hV]; omega)) rfl rfl lk_X7_170 mf_X7_lesser (by decide) (Nat.le_of_ble_eq_true rfl) ?_
                rintro _ _ ⟨rfl, rfl⟩
                refine rRun hG 155 ?_
                refine And.intro (by first | omega | (dsimp only [Int.reduceToNat]; omega)) (?_)
                show G 108 _ _ (hM mt sd (mup (hrmW (tTra mt) (ms 2 + p) W3 i) (4 + (i : Int)).toNat (min 9999 ((hrmW (tTra mt) (ms 2 + p) W3 i) (4 + (i : Int)).toNat + hrm1 (tTra mt) (ms 2 + p) i))) mg mk hn mh tr mx w9 t9 c9 g9)
                rw [e4]
                refine rLess hG ?_ (ih (i + 1) (by omega) (by omega))
                exact ⟨rfl, rfl, rfl, rfl, rfl, True.intro⟩
          exact J108 _ 0 (by omega) (Nat.lt_succ_self _)
        · try dsimp only [Int.reduceToNat] at c8
          refine rIR hG rfl rfl (True.intro) ?_
          exact Or.inr (Or.inl ⟨by omega, by omega, rfl, rfl⟩)
    · try dsimp only [Int.reduceToNat] at c4
      refine rIR hG rfl rfl (True.intro) ?_
      exact Or.inl ⟨by omega, rfl, rfl⟩
end WALKS
