/-! the reference: what a turn is worth -/
section WALKS
variable {l : Launch}
def WOK (f : FN) : Prop := ∀ a, a < 1900 → -1000000 ≤ f a ∧ f a ≤ 100000000
def wbS (t : TD) (day e : Int) : Int := if max e (-e) ≤ tLim t then 0 else tSun t day.toNat
def wbF (t : TD) (f : FN) (kd day r e p : Int) : Int :=
  if kd = 0 then wbS t day (e + p) * f (19 * min 99 (max 0 (r - 4 - p) + tAdd t) + 0 + 9).toNat + (10 - wbS t day (e + p)) * f (19 * max 0 (r - 4 - p) + (e + p) + 9).toNat
  else if kd = 1 then (if tLim t < max (e + p) (-(e + p)) ∨ f (19 * max 0 (r - 4 - p) + (e + p) + 9).toNat < 0 then -1000000 else f (19 * max 0 (r - 4 - p) + (e + p) + 9).toNat + cndl (tBri t) day p (tNB t).toNat)
  else if f (19 * max 0 (r - 4 - p) + (e + p) + 9).toNat = -1000000 then -1000000 else f (19 * max 0 (r - 4 - p) + (e + p) + 9).toNat - hrmS (tTra t) (e + p) (tNT t).toNat
set_option maxRecDepth 20000 in
set_option maxHeartbeats 2000000 in
theorem sp_X7_worthBy {mt sd : TD} {ms mg mk : FN} {hn : Int} {mh : FN} {tr : Int} {mx : XD} {w9 t9 c9 g9 : FN} {kd day r e p : Int} (hT : TOK mt) (hW : WOK t9) (h1 : 0 ≤ kd ∧ kd ≤ 2) (h2 : 0 ≤ day ∧ day ≤ 13) (h3 : 0 ≤ r ∧ r ≤ 99) (h4 : -9 ≤ e ∧ e ≤ 9) (h5 : -2 ≤ p ∧ p ≤ 3) (h6 : max (e + p) (-(e + p)) ≤ 9) : SpI l 4 yX7_worthBy cX7_worthBy 10 (some .int) [mr 0, mi kd, mi day, mi r, mi e, mi p] (hM mt sd ms mg mk hn mh tr mx w9 t9 c9 g9) (fun z h => z = wbF mt t9 kd day r e p ∧ h = hM mt sd ms mg mk hn mh tr mx w9 t9 c9 g9) := by
  have hT5 := hT.2.2.2.2.1
  have hT6 := hT.2.2.2.2.2.1
  have hV := hW (19 * max 0 (r - 4 - p) + (e + p) + 9).toNat (by omega)
  refine SpI.of (cd := kdX7_worthBy) (fT := mlook flX7) (kT := mlook klX7) (kJ := mlook jlX7) mfA_X7_worthBy ok_X7_worthBy fT_X7 kT_X7 jT_X7 jdk_ok True.intro (Nat.le_of_ble_eq_true rfl) (fun G hG => ?_)
  refine rRun hG 15 ?_
  refine rS hG (sp_X7_restBehind (r := r) (p := p) (by omega) (by omega)) rfl rfl lk_X7_182 mf_X7_restBehind (by decide) (Nat.le_of_ble_eq_true rfl) ?_
  rintro _ _ ⟨rfl, rfl⟩
  refine rRun hG 15 ?_
  refine rLess hG (L' := [some _, some _, some _, some _, some _, some _, some _, some _, none, none]) ⟨rfl, rfl, rfl, rfl, rfl, rfl, rfl, rfl, True.intro⟩ ?_
  refine rRun hG 33 ?_
  refine And.intro (by first | omega | (dsimp only [Int.reduceToNat]; omega)) (And.intro (fun c2 => ?_) (fun c2 => ?_))
  · try dsimp only [Int.reduceToNat] at c2
    refine rRun hG 99999 ?_
    refine And.intro (by first | omega | (dsimp only [Int.reduceToNat]; omega)) (And.intro (fun c3 => ?_) (fun c3 => ?_))
    · try dsimp only [Int.reduceToNat] at c3
      refine rRun hG 99999 ?_
      refine And.intro rfl (?_)
      refine rS hG (sp_X7_at (r := max 0 (r - 4 - p)) (e := e + p) (by omega) (by omega)) rfl rfl lk_X7_202 mf_X7_at (by decide) (Nat.le_of_ble_eq_true rfl) ?_
      rintro _ _ ⟨rfl, rfl⟩
      refine rRun hG 99999 ?_
      refine And.intro (by first | omega | (dsimp only [Int.reduceToNat]; omega)) (And.intro (by first | omega | (dsimp only [Int.reduceToNat]; omega)) (And.intro (fun c5 => ?_) (fun c5 => ?_)))
      · try dsimp only [Int.reduceToNat] at c5
        refine rRun hG 99999 ?_
        refine rV hG (sp_X7_harmBy (mt := mt) (sd := sd) (ms := ms) (mg := mg) (mk := mk) (hn := hn) (mh := mh) (tr := tr) (mx := mx) (w9 := w9) (t9 := t9) (c9 := c9) (g9 := g9) (er := e + p) hT (by omega)) rfl rfl lk_X7_205 mf_X7_harmBy (by decide) (Nat.le_of_ble_eq_true rfl) ⟨_, _, _, rfl, rfl, rfl⟩ ?_
        rintro _ _ ⟨rfl, rfl⟩
        refine rRun hG 99999 ?_
        refine rIR hG rfl rfl (True.intro) ?_
        refine ⟨?_, rfl⟩
        unfold wbF
        rw [if_neg (by omega), if_neg (by omega)]
        first | (exfalso; omega) | (rw [if_pos (by omega)]; done) | (rw [if_neg (by omega)]; done)
      · try dsimp only [Int.reduceToNat] at c5
        refine rIR hG rfl rfl (True.intro) ?_
        refine ⟨?_, rfl⟩
        unfold wbF
        rw [if_neg (by omega), if_neg (by omega)]
        first | (exfalso; omega) | (rw [if_pos (by omega)]; done) | (rw [if_neg (by omega)]; done)
    · try dsimp only [Int.reduceToNat] at c3
      refine rS hG (sp_X7_size (v := e + p) (by omega)) rfl rfl lk_X7_164 mf_X7_size (by decide) (Nat.le_of_ble_eq_true rfl) ?_
      rintro _ _ ⟨rfl, rfl⟩
      refine rRun hG 99999 ?_
      refine And.intro rfl (And.intro (by first | omega | (dsimp only [Int.reduceToNat]; omega)) (And.intro (fun c8 => ?_) (fun c8 => ?_)))
      · try dsimp only [Int.reduceToNat] at c8
        refine rRun hG 99999 ?_
        refine And.intro rfl (?_)
        refine rS hG (sp_X7_at (r := max 0 (r - 4 - p)) (e := e + p) (by omega) (by omega)) rfl rfl lk_X7_202 mf_X7_at (by decide) (Nat.le_of_ble_eq_true rfl) ?_
        rintro _ _ ⟨rfl, rfl⟩
        refine rRun hG 99999 ?_
        refine And.intro (by first | omega | (dsimp only [Int.reduceToNat]; omega)) (And.intro (by first | exact hV | (dsimp only; omega) | omega) (And.intro (fun c10 => ?_) (fun c10 => ?_)))
        · try dsimp only [Int.reduceToNat] at c10
          refine rRun hG 99999 ?_
          refine rV hG (sp_X7_candlesBy (mt := mt) (sd := sd) (ms := ms) (mg := mg) (mk := mk) (hn := hn) (mh := mh) (tr := tr) (mx := mx) (w9 := w9) (t9 := t9) (c9 := c9) (g9 := g9) (day := day) (pace := p) hT (by omega) (by omega)) rfl rfl lk_X7_185 mf_X7_candlesBy (by decide) (Nat.le_of_ble_eq_true rfl) ⟨_, _, _, rfl, rfl, rfl⟩ ?_
          rintro _ _ ⟨rfl, rfl⟩
          refine rRun hG 99999 ?_
          refine rIR hG rfl rfl (True.intro) ?_
          refine ⟨?_, rfl⟩
          unfold wbF
          rw [if_neg (by omega), if_pos (by omega)]
          first | (exfalso; omega) | (rw [if_pos (by omega)]; done) | (rw [if_neg (by omega)]; done)
        · try dsimp only [Int.reduceToNat] at c10
          refine rIR hG rfl rfl (True.intro) ?_
          refine ⟨?_, rfl⟩
          unfold wbF
          rw [if_neg (by omega), if_pos (by omega)]
          first | (exfalso; omega) | (rw [if_pos (by omega)]; done) | (rw [if_neg (by omega)]; done)
      · try dsimp only [Int.reduceToNat] at c8
        refine rRun hG 99999 ?_
        refine And.intro (by first | exact hV | (dsimp only; omega) | omega) (And.intro (fun c12 => ?_) (fun c12 => ?_))
        · try dsimp only [Int.reduceToNat] at c12
          refine rRun hG 99999 ?_
          refine rV hG (sp_X7_candlesBy (mt := mt) (sd := sd) (ms := ms) (mg := mg) (mk := mk) (hn := hn) (mh := mh) (tr := tr) (mx := mx) (w9 := w9) (t9 := t9) (c9 := c9) (g9 := g9) (day := day) (pace := p) hT (by omega) (by omega)) rfl rfl lk_X7_185 mf_X7_candlesBy (by decide) (Nat.le_of_ble_eq_true rfl) ⟨_, _, _, rfl, rfl, rfl⟩ ?_
          rintro _ _ ⟨rfl, rfl⟩
          refine rRun hG 99999 ?_
          refine rIR hG rfl rfl (True.intro) ?_
          refine ⟨?_, rfl⟩
          unfold wbF
          rw [if_neg (by omega), if_pos (by omega)]
          first | (exfalso; omega) | (rw [if_pos (by omega)]; done) | (rw [if_neg (by omega)]; done)
        · try dsimp only [Int.reduceToNat] at c12
          refine rIR hG rfl rfl (True.intro) ?_
          refine ⟨?_, rfl⟩
          unfold wbF
          rw [if_neg (by omega), if_pos (by omega)]
          first | (exfalso; omega) | (rw [if_pos (by omega)]; done) | (rw [if_neg (by omega)]; done)
  · try dsimp only [Int.reduceToNat] at c2
    refine And.intro rfl (?_)
    refine rS hG (sp_X7_lesser (a := 99) (b := max 0 (r - 4 - p) + tAdd mt) (by omega)) rfl rfl lk_X7_170 mf_X7_lesser (by decide) (Nat.le_of_ble_eq_true rfl) ?_
    rintro _ _ ⟨rfl, rfl⟩
    refine rRun hG 33 ?_
    refine rLess hG (L' := [some _, some _, some _, some _, some _, some _, some _, some _, some _, none]) ⟨rfl, rfl, rfl, rfl, rfl, rfl, rfl, rfl, rfl, True.intro⟩ ?_
    refine rRun hG 57 ?_
    refine rS hG (sp_X7_size (v := e + p) (by omega)) rfl rfl lk_X7_164 mf_X7_size (by decide) (Nat.le_of_ble_eq_true rfl) ?_
    rintro _ _ ⟨rfl, rfl⟩
    refine rRun hG 57 ?_
    refine And.intro rfl (And.intro (by first | omega | (dsimp only [Int.reduceToNat]; omega)) (And.intro (fun c16 => ?_) (fun c16 => ?_)))
    · try dsimp only [Int.reduceToNat] at c16
      refine rRun hG 57 ?_
      refine rLess hG (L' := [some _, some _, some _, some _, some _, some _, some _, some _, some _, some _]) ⟨rfl, rfl, rfl, rfl, rfl, rfl, rfl, rfl, rfl, rfl, True.intro⟩ ?_
      refine rRun hG 99999 ?_
      refine And.intro rfl (?_)
      refine rS hG (sp_X7_at (r := min 99 (max 0 (r - 4 - p) + tAdd mt)) (e := 0) (by omega) (by omega)) rfl rfl lk_X7_202 mf_X7_at (by decide) (Nat.le_of_ble_eq_true rfl) ?_
      rintro _ _ ⟨rfl, rfl⟩
      refine rRun hG 99999 ?_
      refine And.intro (by first | omega | (dsimp only [Int.reduceToNat]; omega)) (And.intro rfl (?_))
      refine rS hG (sp_X7_at (r := max 0 (r - 4 - p)) (e := e + p) (by omega) (by omega)) rfl rfl lk_X7_202 mf_X7_at (by decide) (Nat.le_of_ble_eq_true rfl) ?_
      rintro _ _ ⟨rfl, rfl⟩
      refine rRun hG 99999 ?_
      refine And.intro (by first | omega | (dsimp only [Int.reduceToNat]; omega)) (?_)
      refine rIR hG rfl rfl (True.intro) ?_
      refine ⟨?_, rfl⟩
      unfold wbF wbS
      rw [if_pos (by omega)]
      first | (rw [if_pos (by omega)]; done) | (rw [if_neg (by omega)]; done) | (rw [if_pos (by omega)]; rfl) | (rw [if_neg (by omega)]; rfl)
    · try dsimp only [Int.reduceToNat] at c16
      refine And.intro rfl (And.intro (by first | omega | (dsimp only [Int.reduceToNat]; omega)) (?_))
      refine rRun hG 57 ?_
      refine rLess hG (L' := [some _, some _, some _, some _, some _, some _, some _, some _, some _, some _]) ⟨rfl, rfl, rfl, rfl, rfl, rfl, rfl, rfl, rfl, rfl, True.intro⟩ ?_
      refine rRun hG 99999 ?_
      refine And.intro rfl (?_)
      refine rS hG (sp_X7_at (r := min 99 (max 0 (r - 4 - p) + tAdd mt)) (e := 0) (by omega) (by omega)) rfl rfl lk_X7_202 mf_X7_at (by decide) (Nat.le_of_ble_eq_true rfl) ?_
      rintro _ _ ⟨rfl, rfl⟩
      refine rRun hG 99999 ?_
      refine And.intro (by first | omega | (dsimp only [Int.reduceToNat]; omega)) (And.intro rfl (?_))
      refine rS hG (sp_X7_at (r := max 0 (r - 4 - p)) (e := e + p) (by omega) (by omega)) rfl rfl lk_X7_202 mf_X7_at (by decide) (Nat.le_of_ble_eq_true rfl) ?_
      rintro _ _ ⟨rfl, rfl⟩
      refine rRun hG 99999 ?_
      refine And.intro (by first | omega | (dsimp only [Int.reduceToNat]; omega)) (?_)
      refine rIR hG rfl rfl (True.intro) ?_
      refine ⟨?_, rfl⟩
      unfold wbF wbS
      rw [if_pos (by omega)]
      first | (rw [if_pos (by omega)]; done) | (rw [if_neg (by omega)]; done) | (rw [if_pos (by omega)]; rfl) | (rw [if_neg (by omega)]; rfl)
end WALKS
