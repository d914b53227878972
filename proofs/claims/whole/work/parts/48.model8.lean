/-! the reference: the best turn -/
section WALKS
variable {l : Launch}
def bsG (t : TD) (f : FN) (kd day r e : Int) (p : Int) : Int := if max (e + p) (-(e + p)) ≤ 9 then wbF t f kd day r e p else -1000000
theorem wbF_in {t : TD} {f : FN} {kd day r e p : Int} (hT : TOK t) (hW : WOK f) (h2 : 0 ≤ day ∧ day ≤ 13) (h3 : 0 ≤ r ∧ r ≤ 99) (h5 : -2 ≤ p ∧ p ≤ 3) (h6 : -9 ≤ e + p ∧ e + p ≤ 9) : -1000000000 ≤ wbF t f kd day r e p ∧ wbF t f kd day r e p ≤ 2000000000 := by
  have hT5 := hT.2.2.2.2.1
  have hT6 := hT.2.2.2.2.2.1
  have hT2 := hT.2.1
  have hT3 := hT.2.2.1
  have hV := hW (19 * max 0 (r - 4 - p) + (e + p) + 9).toNat (by omega)
  have hU := hW (19 * min 99 (max 0 (r - 4 - p) + tAdd t) + 0 + 9).toNat (by omega)
  have hs : 0 ≤ wbS t day (e + p) ∧ wbS t day (e + p) ≤ 10 := by
    have := hT.2.2.2.2.2.2.1 day.toNat (by omega)
    unfold wbS; split <;> omega
  have hc := cndl_in hT (day := day) (p := p) (tNB t).toNat (by omega)
  have hh := hrmS_in hT (e := e + p) h6 (tNT t).toNat (by omega)
  unfold wbF
  generalize wbS t day (e + p) = s at *
  generalize f (19 * max 0 (r - 4 - p) + (e + p) + 9).toNat = x at *
  generalize f (19 * min 99 (max 0 (r - 4 - p) + tAdd t) + 0 + 9).toNat = y at *
  have a1 : s * y ≤ s * 100000000 := Int.mul_le_mul_of_nonneg_left hU.2 hs.1
  have a2 : s * (-1000000) ≤ s * y := Int.mul_le_mul_of_nonneg_left hU.1 hs.1
  have b1 : (10 - s) * x ≤ (10 - s) * 100000000 := Int.mul_le_mul_of_nonneg_left hV.2 (by omega)
  have b2 : (10 - s) * (-1000000) ≤ (10 - s) * x := Int.mul_le_mul_of_nonneg_left hV.1 (by omega)
  split
  · omega
  · split
    · split <;> omega
    · split <;> omega
theorem bsG_in {t : TD} {f : FN} {kd day r e : Int} (hT : TOK t) (hW : WOK f) (h2 : 0 ≤ day ∧ day ≤ 13) (h3 : 0 ≤ r ∧ r ≤ 99) {p : Int} (h5 : -2 ≤ p ∧ p ≤ 3) : -1000000000 ≤ bsG t f kd day r e p ∧ bsG t f kd day r e p ≤ 2000000000 := by
  unfold bsG
  by_cases q : max (e + p) (-(e + p)) ≤ 9
  · rw [if_pos q]; exact wbF_in hT hW h2 h3 h5 (by omega)
  · rw [if_neg q]; omega
theorem bsF_in {g : Int → Int} (hg : ∀ p, -2 ≤ p ∧ p ≤ 3 → -1000000000 ≤ g p ∧ g p ≤ 2000000000) : ∀ n, n ≤ 6 → -1000000 ≤ (foldB g (-1000000) n).1 ∧ (foldB g (-1000000) n).1 ≤ 2000000000
  | 0, _ => by show -1000000 ≤ (-1000000 : Int) ∧ (-1000000 : Int) ≤ _; omega
  | n + 1, h => by
    have ih := bsF_in hg n (by omega)
    have q := hg ((n : Int) - 2) (by omega)
    rw [foldB_s]
    split
    · show -1000000 ≤ g _ ∧ g _ ≤ _; omega
    · exact ih
set_option maxRecDepth 20000 in
set_option maxHeartbeats 1000000 in
theorem sp_X7_bestOf {mt sd : TD} {ms mg mk : FN} {hn : Int} {mh : FN} {tr : Int} {mx : XD} {w9 t9 c9 g9 : FN} {kd day r e : Int} (hT : TOK mt) (hW : WOK t9) (h1 : 0 ≤ kd ∧ kd ≤ 2) (h2 : 0 ≤ day ∧ day ≤ 13) (h3 : 0 ≤ r ∧ r ≤ 99) (h4 : -9 ≤ e ∧ e ≤ 9) : SpI l 5 yX7_bestOf cX7_bestOf 8 (some .int) [mr 0, mi kd, mi day, mi r, mi e] (hM mt sd ms mg mk hn mh tr mx w9 t9 c9 g9) (fun z h => z = (foldB (bsG mt t9 kd day r e) (-1000000) 6).1 ∧ h = hM mt sd ms mg mk hn mh tr mx w9 t9 c9 g9) := by
  refine SpI.of (cd := kdX7_bestOf) (fT := mlook flX7) (kT := mlook klX7) (kJ := mlook jlX7) mfA_X7_bestOf ok_X7_bestOf fT_X7 kT_X7 jT_X7 jdk_ok True.intro (Nat.le_of_ble_eq_true rfl) (fun G hG => ?_)
  refine rRun hG 8 ?_
  have J8 : ∀ (n : Nat) (i : Nat), i ≤ 6 → 6 - i < n → G 8 [some (mr 0), some (mi kd), some (mi day), some (mi r), some (mi e), some (mi ((foldB (bsG mt t9 kd day r e) (-1000000) i).1)), some (mi ((i : Int) - 2)), none] [] (hM mt sd ms mg mk hn mh tr mx w9 t9 c9 g9) := by
    intro n
    induction n with
    | zero => intro i _ hm; exact absurd hm (Nat.not_lt_zero _)
    | succ n ih =>
      intro i hinv hm
      have hb := bsF_in (g := bsG mt t9 kd day r e) (fun p hp => bsG_in hT hW h2 h3 hp) i hinv
      refine rRun hG 38 ?_
      refine And.intro (by first | omega | (dsimp only [Int.reduceToNat]; omega)) (And.intro (fun c1 => ?_) (fun c1 => ?_))
      · try dsimp only [Int.reduceToNat] at c1
        refine rRun hG 99999 ?_
        refine rIR hG rfl rfl (True.intro) ?_
        obtain rfl : i = 6 := by omega
        exact ⟨rfl, rfl⟩
      · try dsimp only [Int.reduceToNat] at c1
        refine rS hG (sp_X7_mayTurn (e := e) (p := (i : Int) - 2) (by omega) (by omega)) rfl rfl lk_X7_208 mf_X7_mayTurn (by decide) (Nat.le_of_ble_eq_true rfl) ?_
        rintro w1 _ ⟨hw1, rfl⟩
        have w11 : (w1 = 1 ∧ (max (e + ((i : Int) - 2)) (-(e + ((i : Int) - 2))) ≤ 9)) ∨ (w1 = 0 ∧ ¬ (max (e + ((i : Int) - 2)) (-(e + ((i : Int) - 2))) ≤ 9)) := (by rw [hw1]; by_cases q9 : (max (e + ((i : Int) - 2)) (-(e + ((i : Int) - 2))) ≤ 9) <;> simp [q9])
        clear hw1
        have hq := bsG_in (kd := kd) (e := e) hT hW h2 h3 (p := (i : Int) - 2) (by omega)
        refine rRun hG 38 ?_
        refine And.intro (by first | omega | (dsimp only [Int.reduceToNat]; omega)) (And.intro (fun c3 => ?_) (fun c3 => ?_))
        · try dsimp only [Int.reduceToNat] at c3
          have hg9 : bsG mt t9 kd day r e ((i : Int) - 2) = -1000000 := if_neg (by omega)
          refine rRun hG 99999 ?_
          refine And.intro (by first | omega | (dsimp only [Int.reduceToNat]; omega)) (And.intro (fun c4 => ?_) (fun c4 => ?_))
          · try dsimp only [Int.reduceToNat] at c4
            refine rRun hG 99999 ?_
            refine rLess hG ?_ (ih (i + 1) ?_ ?_)
            · refine ⟨rfl, rfl, rfl, rfl, rfl, congrArg mi ?_, congrArg mi (by omega), True.intro⟩
              rw [foldB_s]
              first | (exfalso; omega) | (rw [if_pos (by omega)]; exact hg9.symm) | (rw [if_pos (by omega)]; exact hg9) | (rw [if_neg (by omega)]; done)
            · omega
            · omega
          · try dsimp only [Int.reduceToNat] at c4
            refine rRun hG 99999 ?_
            refine rLess hG ?_ (ih (i + 1) ?_ ?_)
            · refine ⟨rfl, rfl, rfl, rfl, rfl, congrArg mi ?_, congrArg mi (by omega), True.intro⟩
              rw [foldB_s]
              first | (exfalso; omega) | (rw [if_pos (by omega)]; exact hg9.symm) | (rw [if_pos (by omega)]; exact hg9) | (rw [if_neg (by omega)]; done)
            · omega
            · omega
        · try dsimp only [Int.reduceToNat] at c3
          refine rV hG (sp_X7_worthBy (mt := mt) (sd := sd) (ms := ms) (mg := mg) (mk := mk) (hn := hn) (mh := mh) (tr := tr) (mx := mx) (w9 := w9) (t9 := t9) (c9 := c9) (g9 := g9) (kd := kd) (day := day) (r := r) (e := e) (p := (i : Int) - 2) hT hW h1 h2 h3 h4 (by omega) (by omega)) rfl rfl lk_X7_212 mf_X7_worthBy (by decide) (Nat.le_of_ble_eq_true rfl) ⟨_, _, _, rfl, rfl, rfl⟩ ?_
          rintro _ _ ⟨rfl, rfl⟩
          have hg9 : bsG mt t9 kd day r e ((i : Int) - 2) = wbF mt t9 kd day r e ((i : Int) - 2) := if_pos (by omega)
          refine rRun hG 38 ?_
          refine rRun hG 99999 ?_
          refine And.intro (by first | omega | (dsimp only [Int.reduceToNat]; omega)) (And.intro (fun c6 => ?_) (fun c6 => ?_))
          · try dsimp only [Int.reduceToNat] at c6
            refine rRun hG 99999 ?_
            refine rLess hG ?_ (ih (i + 1) ?_ ?_)
            · refine ⟨rfl, rfl, rfl, rfl, rfl, congrArg mi ?_, congrArg mi (by omega), True.intro⟩
              rw [foldB_s]
              first | (exfalso; omega) | (rw [if_pos (by omega)]; exact hg9.symm) | (rw [if_pos (by omega)]; exact hg9) | (rw [if_neg (by omega)]; done)
            · omega
            · omega
          · try dsimp only [Int.reduceToNat] at c6
            refine rRun hG 99999 ?_
            refine rLess hG ?_ (ih (i + 1) ?_ ?_)
            · refine ⟨rfl, rfl, rfl, rfl, rfl, congrArg mi ?_, congrArg mi (by omega), True.intro⟩
              rw [foldB_s]
              first | (exfalso; omega) | (rw [if_pos (by omega)]; exact hg9.symm) | (rw [if_pos (by omega)]; exact hg9) | (rw [if_neg (by omega)]; done)
            · omega
            · omega
  exact J8 _ 0 (by omega) (Nat.lt_succ_self _)
end WALKS
