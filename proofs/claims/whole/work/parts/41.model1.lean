/-! the reference: small methods -/
section WALKS
variable {l : Launch}
set_option maxRecDepth 20000 in
set_option maxHeartbeats 1000000 in
theorem sp_X7_in {hh : mH} {v a b : Int} (h1 : inI v ∧ inI a ∧ inI b) : SpI l 1 yX7_in cX7_in 3 (some .boolean) [mi v, mi a, mi b] (hh) (fun z h => z = (if a ≤ v ∧ v ≤ b then 1 else 0) ∧ h = hh) := by
  refine SpI.of (cd := kdX7_in) (fT := mlook flX7) (kT := mlook klX7) (kJ := mlook jlX7) mfA_X7_in ok_X7_in fT_X7 kT_X7 jT_X7 jdk_ok True.intro (Nat.le_of_ble_eq_true rfl) (fun G hG => ?_)
  refine rRun hG 99999 ?_
  refine And.intro (by first | omega | (dsimp only; omega)) (And.intro (fun c1 => ?_) (fun c1 => ?_))
  · try dsimp only at c1
    refine rRun hG 99999 ?_
    refine rIR hG rfl rfl (by first | exact Or.inl rfl | exact Or.inr rfl | (show _ ∨ _; omega)) ?_
    exact ⟨by first | (rw [if_pos (by omega)]; done) | (rw [if_neg (by omega)]; done), rfl⟩
  · try dsimp only at c1
    refine And.intro (by first | omega | (dsimp only; omega)) (And.intro (fun c2 => ?_) (fun c2 => ?_))
    · try dsimp only at c2
      refine rRun hG 99999 ?_
      refine rIR hG rfl rfl (by first | exact Or.inl rfl | exact Or.inr rfl | (show _ ∨ _; omega)) ?_
      exact ⟨by first | (rw [if_pos (by omega)]; done) | (rw [if_neg (by omega)]; done), rfl⟩
    · try dsimp only at c2
      refine rIR hG rfl rfl (by first | exact Or.inl rfl | exact Or.inr rfl | (show _ ∨ _; omega)) ?_
      exact ⟨by first | (rw [if_pos (by omega)]; done) | (rw [if_neg (by omega)]; done), rfl⟩
set_option maxRecDepth 20000 in
set_option maxHeartbeats 1000000 in
theorem sp_X7_size {hh : mH} {v : Int} (h1 : inI v) : SpI l 1 yX7_size cX7_size 1 (some .int) [mi v] (hh) (fun z h => z = max v (-v) ∧ h = hh) := by
  refine SpI.of (cd := kdX7_size) (fT := mlook flX7) (kT := mlook klX7) (kJ := mlook jlX7) mfA_X7_size ok_X7_size fT_X7 kT_X7 jT_X7 jdk_ok True.intro (Nat.le_of_ble_eq_true rfl) (fun G hG => ?_)
  refine rRun hG 99999 ?_
  refine And.intro (by first | omega | (dsimp only; omega)) (And.intro (fun c1 => ?_) (fun c1 => ?_))
  · try dsimp only at c1
    refine rRun hG 99999 ?_
    refine rIR hG rfl rfl (True.intro) ?_
    exact ⟨by omega, rfl⟩
  · try dsimp only at c1
    refine rIR hG rfl rfl (True.intro) ?_
    exact ⟨by omega, rfl⟩
set_option maxRecDepth 20000 in
set_option maxHeartbeats 1000000 in
theorem sp_X7_isPace {hh : mH} {v : Int} (h1 : inI v) : SpI l 2 yX7_isPace cX7_isPace 1 (some .boolean) [mi v] (hh) (fun z h => z = (if -2 ≤ v ∧ v ≤ 3 then 1 else 0) ∧ h = hh) := by
  refine SpI.of (cd := kdX7_isPace) (fT := mlook flX7) (kT := mlook klX7) (kJ := mlook jlX7) mfA_X7_isPace ok_X7_isPace fT_X7 kT_X7 jT_X7 jdk_ok True.intro (Nat.le_of_ble_eq_true rfl) (fun G hG => ?_)
  refine rRun hG 99999 ?_
  refine rS hG (sp_X7_in (v := v) (a := (-2)) (b := 3) (by omega)) rfl rfl lk_X7_66 mf_X7_in (by decide) (Nat.le_of_ble_eq_true rfl) ?_
  rintro w1 _ ⟨hw1, rfl⟩
  have w11 : (w1 = 1 ∧ ((-2) ≤ v ∧ v ≤ 3)) ∨ (w1 = 0 ∧ ¬ ((-2) ≤ v ∧ v ≤ 3)) := (by rw [hw1]; by_cases q9 : ((-2) ≤ v ∧ v ≤ 3) <;> simp [q9])
  clear hw1
  refine rIR hG rfl rfl (by first | exact Or.inl rfl | exact Or.inr rfl | (show _ ∨ _; omega)) ?_
  refine ⟨?_, rfl⟩
  rcases w11 with ⟨a7, b7⟩ | ⟨a7, b7⟩
  · rw [if_pos (by omega)]; exact a7
  · rw [if_neg (by omega)]; exact a7
set_option maxRecDepth 20000 in
set_option maxHeartbeats 1000000 in
theorem sp_X7_isFigure {hh : mH} {v : Int} (h1 : inI v) : SpI l 2 yX7_isFigure cX7_isFigure 1 (some .boolean) [mi v] (hh) (fun z h => z = (if 48 ≤ v ∧ v ≤ 57 then 1 else 0) ∧ h = hh) := by
  refine SpI.of (cd := kdX7_isFigure) (fT := mlook flX7) (kT := mlook klX7) (kJ := mlook jlX7) mfA_X7_isFigure ok_X7_isFigure fT_X7 kT_X7 jT_X7 jdk_ok True.intro (Nat.le_of_ble_eq_true rfl) (fun G hG => ?_)
  refine rRun hG 99999 ?_
  refine rS hG (sp_X7_in (v := v) (a := 48) (b := 57) (by omega)) rfl rfl lk_X7_66 mf_X7_in (by decide) (Nat.le_of_ble_eq_true rfl) ?_
  rintro w1 _ ⟨hw1, rfl⟩
  have w11 : (w1 = 1 ∧ (48 ≤ v ∧ v ≤ 57)) ∨ (w1 = 0 ∧ ¬ (48 ≤ v ∧ v ≤ 57)) := (by rw [hw1]; by_cases q9 : (48 ≤ v ∧ v ≤ 57) <;> simp [q9])
  clear hw1
  refine rIR hG rfl rfl (by first | exact Or.inl rfl | exact Or.inr rfl | (show _ ∨ _; omega)) ?_
  refine ⟨?_, rfl⟩
  rcases w11 with ⟨a7, b7⟩ | ⟨a7, b7⟩
  · rw [if_pos (by omega)]; exact a7
  · rw [if_neg (by omega)]; exact a7
set_option maxRecDepth 20000 in
set_option maxHeartbeats 1000000 in
theorem sp_X7_isLetter {hh : mH} {v : Int} (h1 : inI v) : SpI l 2 yX7_isLetter cX7_isLetter 1 (some .boolean) [mi v] (hh) (fun z h => z = (if 97 ≤ v ∧ v ≤ 122 then 1 else 0) ∧ h = hh) := by
  refine SpI.of (cd := kdX7_isLetter) (fT := mlook flX7) (kT := mlook klX7) (kJ := mlook jlX7) mfA_X7_isLetter ok_X7_isLetter fT_X7 kT_X7 jT_X7 jdk_ok True.intro (Nat.le_of_ble_eq_true rfl) (fun G hG => ?_)
  refine rRun hG 99999 ?_
  refine rS hG (sp_X7_in (v := v) (a := 97) (b := 122) (by omega)) rfl rfl lk_X7_66 mf_X7_in (by decide) (Nat.le_of_ble_eq_true rfl) ?_
  rintro w1 _ ⟨hw1, rfl⟩
  have w11 : (w1 = 1 ∧ (97 ≤ v ∧ v ≤ 122)) ∨ (w1 = 0 ∧ ¬ (97 ≤ v ∧ v ≤ 122)) := (by rw [hw1]; by_cases q9 : (97 ≤ v ∧ v ≤ 122) <;> simp [q9])
  clear hw1
  refine rIR hG rfl rfl (by first | exact Or.inl rfl | exact Or.inr rfl | (show _ ∨ _; omega)) ?_
  refine ⟨?_, rfl⟩
  rcases w11 with ⟨a7, b7⟩ | ⟨a7, b7⟩
  · rw [if_pos (by omega)]; exact a7
  · rw [if_neg (by omega)]; exact a7
set_option maxRecDepth 20000 in
set_option maxHeartbeats 1000000 in
theorem sp_X7_lesser {hh : mH} {a b : Int} (h1 : inI a ∧ inI b) : SpI l 1 yX7_lesser cX7_lesser 2 (some .int) [mi a, mi b] (hh) (fun z h => z = min a b ∧ h = hh) := by
  refine SpI.of (cd := kdX7_lesser) (fT := mlook flX7) (kT := mlook klX7) (kJ := mlook jlX7) mfA_X7_lesser ok_X7_lesser fT_X7 kT_X7 jT_X7 jdk_ok True.intro (Nat.le_of_ble_eq_true rfl) (fun G hG => ?_)
  refine rRun hG 99999 ?_
  refine And.intro (by first | omega | (dsimp only; omega)) (And.intro (fun c1 => ?_) (fun c1 => ?_))
  · try dsimp only at c1
    refine rRun hG 99999 ?_
    refine rIR hG rfl rfl (True.intro) ?_
    exact ⟨by omega, rfl⟩
  · try dsimp only at c1
    refine rIR hG rfl rfl (True.intro) ?_
    exact ⟨by omega, rfl⟩
set_option maxRecDepth 20000 in
set_option maxHeartbeats 1000000 in
theorem sp_X7_restBehind {hh : mH} {r p : Int} (h1 : -10000 ≤ r ∧ r ≤ 10000) (h2 : -100 ≤ p ∧ p ≤ 100) : SpI l 1 yX7_restBehind cX7_restBehind 2 (some .int) [mi r, mi p] (hh) (fun z h => z = max 0 (r - 4 - p) ∧ h = hh) := by
  refine SpI.of (cd := kdX7_restBehind) (fT := mlook flX7) (kT := mlook klX7) (kJ := mlook jlX7) mfA_X7_restBehind ok_X7_restBehind fT_X7 kT_X7 jT_X7 jdk_ok True.intro (Nat.le_of_ble_eq_true rfl) (fun G hG => ?_)
  refine rRun hG 99999 ?_
  refine And.intro (by first | omega | (dsimp only; omega)) (And.intro (fun c1 => ?_) (fun c1 => ?_))
  · try dsimp only at c1
    refine rRun hG 99999 ?_
    refine rIR hG rfl rfl (True.intro) ?_
    exact ⟨by omega, rfl⟩
  · try dsimp only at c1
    refine rIR hG rfl rfl (True.intro) ?_
    exact ⟨by omega, rfl⟩
set_option maxRecDepth 20000 in
set_option maxHeartbeats 1000000 in
theorem sp_X7_isTrade {mt sd : TD} {ms mg mk : FN} {hn : Int} {mh : FN} {tr : Int} {mx : XD} {w9 t9 c9 g9 : FN} {i : Int} (h1 : inI i) (h2 : 0 ≤ tNT mt ∧ tNT mt ≤ 100) : SpI l 2 yX7_isTrade cX7_isTrade 2 (some .boolean) [mr 0, mi i] (hM mt sd ms mg mk hn mh tr mx w9 t9 c9 g9) (fun z h => z = (if 0 ≤ i ∧ i < tNT mt then 1 else 0) ∧ h = hM mt sd ms mg mk hn mh tr mx w9 t9 c9 g9) := by
  refine SpI.of (cd := kdX7_isTrade) (fT := mlook flX7) (kT := mlook klX7) (kJ := mlook jlX7) mfA_X7_isTrade ok_X7_isTrade fT_X7 kT_X7 jT_X7 jdk_ok True.intro (Nat.le_of_ble_eq_true rfl) (fun G hG => ?_)
  refine rRun hG 99999 ?_
  refine And.intro rfl (?_)
  refine rS hG (sp_X7_in (v := i) (a := 0) (b := (tNT mt - 1)) (by omega)) rfl rfl lk_X7_66 mf_X7_in (by decide) (Nat.le_of_ble_eq_true rfl) ?_
  rintro w1 _ ⟨hw1, rfl⟩
  have w11 : (w1 = 1 ∧ (0 ≤ i ∧ i ≤ (tNT mt - 1))) ∨ (w1 = 0 ∧ ¬ (0 ≤ i ∧ i ≤ (tNT mt - 1))) := (by rw [hw1]; by_cases q9 : (0 ≤ i ∧ i ≤ (tNT mt - 1)) <;> simp [q9])
  clear hw1
  refine rIR hG rfl rfl (by first | exact Or.inl rfl | exact Or.inr rfl | (show _ ∨ _; omega)) ?_
  refine ⟨?_, rfl⟩
  rcases w11 with ⟨a7, b7⟩ | ⟨a7, b7⟩
  · rw [if_pos (by omega)]; exact a7
  · rw [if_neg (by omega)]; exact a7
set_option maxRecDepth 20000 in
set_option maxHeartbeats 1000000 in
theorem sp_X7_letterAt {mt sd : TD} {ms mg mk : FN} {hn : Int} {mh : FN} {tr : Int} {mx : XD} {w9 t9 c9 g9 : FN} {i : Int} (h1 : 0 ≤ i ∧ i ≤ 1000) (h2 : 0 ≤ xN mx ∧ xN mx ≤ 150) : SpI l 1 yX7_letterAt cX7_letterAt 2 (some .int) [mr 0, mi i] (hM mt sd ms mg mk hn mh tr mx w9 t9 c9 g9) (fun z h => z = bAt (xB mx) (xN mx) i ∧ h = hM mt sd ms mg mk hn mh tr mx w9 t9 c9 g9) := by
  refine SpI.of (cd := kdX7_letterAt) (fT := mlook flX7) (kT := mlook klX7) (kJ := mlook jlX7) mfA_X7_letterAt ok_X7_letterAt fT_X7 kT_X7 jT_X7 jdk_ok True.intro (Nat.le_of_ble_eq_true rfl) (fun G hG => ?_)
  refine rRun hG 99999 ?_
  refine And.intro rfl (And.intro (by first | omega | (dsimp only; omega)) (And.intro (fun c1 => ?_) (fun c1 => ?_)))
  · try dsimp only at c1
    refine rRun hG 99999 ?_
    refine rIR hG rfl rfl (True.intro) ?_
    refine ⟨?_, rfl⟩
    unfold bAt
    first | (rw [if_pos (by omega)]; done) | (rw [if_neg (by omega)]; done) | (rw [if_pos (by omega)]; rfl)
  · try dsimp only at c1
    refine And.intro rfl (And.intro (by first | omega | (dsimp only; omega)) (?_))
    refine rIR hG rfl rfl (True.intro) ?_
    refine ⟨?_, rfl⟩
    unfold bAt
    first | (rw [if_pos (by omega)]; done) | (rw [if_neg (by omega)]; done) | (rw [if_pos (by omega)]; rfl)
set_option maxRecDepth 20000 in
set_option maxHeartbeats 1000000 in
theorem sp_X7_type {mt sd : TD} {ms mg mk : FN} {hn : Int} {mh : FN} {tr : Int} {mx : XD} {w9 t9 c9 g9 : FN} {c : Int} (h1 : inI c) (hn9 : 0 ≤ xN mx ∧ xN mx ≤ 150) : SpI l 2 yX7_type cX7_type 2 (some .int) [mr 0, mi c] (hM mt sd ms mg mk hn mh tr mx w9 t9 c9 g9) (fun z h => ((c < 0 ∨ 255 < c) ∧ z = -1 ∧ h = hM mt sd ms mg mk hn mh tr mx w9 t9 c9 g9) ∨ ((0 ≤ c ∧ c ≤ 255 ∧ 150 ≤ xN mx) ∧ z = -3 ∧ h = hM mt sd ms mg mk hn mh tr mx w9 t9 c9 g9) ∨ ((0 ≤ c ∧ c ≤ 255 ∧ xN mx < 150) ∧ z = xN mx + 1 ∧ h = hM mt sd ms mg mk hn mh tr (xAdd mx c) w9 t9 c9 g9)) := by
  refine SpI.of (cd := kdX7_type) (fT := mlook flX7) (kT := mlook klX7) (kJ := mlook jlX7) mfA_X7_type ok_X7_type fT_X7 kT_X7 jT_X7 jdk_ok True.intro (Nat.le_of_ble_eq_true rfl) (fun G hG => ?_)
  refine rRun hG 99999 ?_
  refine rS hG (sp_X7_in (v := c) (a := 0) (b := 255) (by omega)) rfl rfl lk_X7_66 mf_X7_in (by decide) (Nat.le_of_ble_eq_true rfl) ?_
  rintro w1 _ ⟨hw1, rfl⟩
  have w11 : (w1 = 1 ∧ (0 ≤ c ∧ c ≤ 255)) ∨ (w1 = 0 ∧ ¬ (0 ≤ c ∧ c ≤ 255)) := (by rw [hw1]; by_cases q9 : (0 ≤ c ∧ c ≤ 255) <;> simp [q9])
  clear hw1
  refine rRun hG 99999 ?_
  refine And.intro (by first | omega | (dsimp only; omega)) (And.intro (fun c2 => ?_) (fun c2 => ?_))
  · try dsimp only at c2
    refine rRun hG 99999 ?_
    refine And.intro rfl (And.intro (by first | omega | (dsimp only; omega)) (And.intro (fun c3 => ?_) (fun c3 => ?_)))
    · try dsimp only at c3
      refine rRun hG 99999 ?_
      refine And.intro rfl (And.intro rfl (And.intro (by first | omega | (dsimp only; omega)) (And.intro rfl (And.intro ⟨rfl, by exact Nat.le_of_ble_eq_true rfl, by first | exact True.intro | exact Or.inl rfl | exact Or.inr rfl⟩ (And.intro rfl (?_))))))
      refine rIR hG rfl rfl (True.intro) ?_
      exact Or.inr (Or.inr ⟨by omega, rfl, rfl⟩)
    · try dsimp only at c3
      refine rIR hG rfl rfl (True.intro) ?_
      exact Or.inr (Or.inl ⟨by omega, rfl, rfl⟩)
  · try dsimp only at c2
    refine rIR hG rfl rfl (True.intro) ?_
    exact Or.inl ⟨by omega, rfl, rfl⟩
set_option maxRecDepth 20000 in
set_option maxHeartbeats 1000000 in
theorem sp_X7_clear {mt sd : TD} {ms mg mk : FN} {hn : Int} {mh : FN} {tr : Int} {mx : XD} {w9 t9 c9 g9 : FN}   : SpI l 1 yX7_clear cX7_clear 2 (some .int) [mr 0] (hM mt sd ms mg mk hn mh tr mx w9 t9 c9 g9) (fun z h => z = xN mx ∧ h = hM mt sd ms mg mk hn mh tr (xClr mx) w9 t9 c9 g9) := by
  refine SpI.of (cd := kdX7_clear) (fT := mlook flX7) (kT := mlook klX7) (kJ := mlook jlX7) mfA_X7_clear ok_X7_clear fT_X7 kT_X7 jT_X7 jdk_ok True.intro (Nat.le_of_ble_eq_true rfl) (fun G hG => ?_)
  refine rRun hG 99999 ?_
  refine And.intro rfl (And.intro ⟨rfl, by exact Nat.le_of_ble_eq_true rfl, by first | exact True.intro | exact Or.inl rfl | exact Or.inr rfl⟩ (?_))
  refine rIR hG rfl rfl (True.intro) ?_
  exact ⟨rfl, rfl⟩
set_option maxRecDepth 20000 in
set_option maxHeartbeats 1000000 in
theorem sp_X7_sun {mt sd : TD} {ms mg mk : FN} {hn : Int} {mh : FN} {tr : Int} {mx : XD} {w9 t9 c9 g9 : FN} {d : Int} (h1 : inI d) (h2 : 0 ≤ tDay mt ∧ tDay mt ≤ 14) : SpI l 2 yX7_sun cX7_sun 2 (some .int) [mr 0, mi d] (hM mt sd ms mg mk hn mh tr mx w9 t9 c9 g9) (fun z h => z = (if 0 ≤ d ∧ d < tDay mt ∧ d < 14 then tSun mt d.toNat else -1) ∧ h = hM mt sd ms mg mk hn mh tr mx w9 t9 c9 g9) := by
  refine SpI.of (cd := kdX7_sun) (fT := mlook flX7) (kT := mlook klX7) (kJ := mlook jlX7) mfA_X7_sun ok_X7_sun fT_X7 kT_X7 jT_X7 jdk_ok True.intro (Nat.le_of_ble_eq_true rfl) (fun G hG => ?_)
  refine rRun hG 99999 ?_
  refine And.intro rfl (?_)
  refine rS hG (sp_X7_in (v := d) (a := 0) (b := (tDay mt - 1)) (by omega)) rfl rfl lk_X7_66 mf_X7_in (by decide) (Nat.le_of_ble_eq_true rfl) ?_
  rintro w1 _ ⟨hw1, rfl⟩
  have w11 : (w1 = 1 ∧ (0 ≤ d ∧ d ≤ (tDay mt - 1))) ∨ (w1 = 0 ∧ ¬ (0 ≤ d ∧ d ≤ (tDay mt - 1))) := (by rw [hw1]; by_cases q9 : (0 ≤ d ∧ d ≤ (tDay mt - 1)) <;> simp [q9])
  clear hw1
  refine rRun hG 99999 ?_
  refine And.intro (by first | omega | (dsimp only; omega)) (And.intro (fun c2 => ?_) (fun c2 => ?_))
  · try dsimp only at c2
    refine rRun hG 99999 ?_
    refine rIR hG rfl rfl (True.intro) ?_
    exact ⟨by first | (rw [if_pos (by omega)]; done) | (rw [if_neg (by omega)]; done), rfl⟩
  · try dsimp only at c2
    refine And.intro rfl (And.intro (by first | omega | (dsimp only; omega)) (?_))
    refine rIR hG rfl rfl (True.intro) ?_
    exact ⟨by first | (rw [if_pos (by omega)]; done) | (rw [if_neg (by omega)]; done), rfl⟩
set_option maxRecDepth 20000 in
set_option maxHeartbeats 1000000 in
theorem sp_X7_bribe {mt sd : TD} {ms mg mk : FN} {hn : Int} {mh : FN} {tr : Int} {mx : XD} {w9 t9 c9 g9 : FN} {b w : Int} (h1 : inI b) (h2 : inI w) (h3 : 0 ≤ tNB mt ∧ tNB mt ≤ 6) : SpI l 2 yX7_bribe cX7_bribe 3 (some .int) [mr 0, mi b, mi w] (hM mt sd ms mg mk hn mh tr mx w9 t9 c9 g9) (fun z h => z = (if 0 ≤ b ∧ b < tNB mt ∧ 0 ≤ w ∧ w ≤ 3 then tBri mt (4 * b + w).toNat else -1000000) ∧ h = hM mt sd ms mg mk hn mh tr mx w9 t9 c9 g9) := by
  refine SpI.of (cd := kdX7_bribe) (fT := mlook flX7) (kT := mlook klX7) (kJ := mlook jlX7) mfA_X7_bribe ok_X7_bribe fT_X7 kT_X7 jT_X7 jdk_ok True.intro (Nat.le_of_ble_eq_true rfl) (fun G hG => ?_)
  refine rRun hG 99999 ?_
  refine And.intro rfl (?_)
  refine rS hG (sp_X7_in (v := b) (a := 0) (b := (tNB mt - 1)) (by omega)) rfl rfl lk_X7_66 mf_X7_in (by decide) (Nat.le_of_ble_eq_true rfl) ?_
  rintro w1 _ ⟨hw1, rfl⟩
  have w11 : (w1 = 1 ∧ (0 ≤ b ∧ b ≤ (tNB mt - 1))) ∨ (w1 = 0 ∧ ¬ (0 ≤ b ∧ b ≤ (tNB mt - 1))) := (by rw [hw1]; by_cases q9 : (0 ≤ b ∧ b ≤ (tNB mt - 1)) <;> simp [q9])
  clear hw1
  refine rRun hG 99999 ?_
  refine And.intro (by first | omega | (dsimp only; omega)) (And.intro (fun c2 => ?_) (fun c2 => ?_))
  · try dsimp only at c2
    refine rRun hG 99999 ?_
    refine rIR hG rfl rfl (True.intro) ?_
    exact ⟨by first | (rw [if_pos (by omega)]; done) | (rw [if_neg (by omega)]; done), rfl⟩
  · try dsimp only at c2
    refine rS hG (sp_X7_in (v := w) (a := 0) (b := 3) (by omega)) rfl rfl lk_X7_66 mf_X7_in (by decide) (Nat.le_of_ble_eq_true rfl) ?_
    rintro w2 _ ⟨hw2, rfl⟩
    have w21 : (w2 = 1 ∧ (0 ≤ w ∧ w ≤ 3)) ∨ (w2 = 0 ∧ ¬ (0 ≤ w ∧ w ≤ 3)) := (by rw [hw2]; by_cases q9 : (0 ≤ w ∧ w ≤ 3) <;> simp [q9])
    clear hw2
    refine rRun hG 99999 ?_
    refine And.intro (by first | omega | (dsimp only; omega)) (And.intro (fun c4 => ?_) (fun c4 => ?_))
    · try dsimp only at c4
      refine rRun hG 99999 ?_
      refine rIR hG rfl rfl (True.intro) ?_
      exact ⟨by first | (rw [if_pos (by omega)]; done) | (rw [if_neg (by omega)]; done), rfl⟩
    · try dsimp only at c4
      refine And.intro rfl (And.intro (by first | omega | (dsimp only; omega)) (?_))
      refine rIR hG rfl rfl (True.intro) ?_
      exact ⟨by first | (rw [if_pos (by omega)]; done) | (rw [if_neg (by omega)]; done), rfl⟩
set_option maxRecDepth 20000 in
set_option maxHeartbeats 1000000 in
theorem sp_X7_trade {mt sd : TD} {ms mg mk : FN} {hn : Int} {mh : FN} {tr : Int} {mx : XD} {w9 t9 c9 g9 : FN} {i w : Int} (h1 : inI i) (h2 : inI w) (h3 : 0 ≤ tNT mt ∧ tNT mt ≤ 4) : SpI l 3 yX7_trade cX7_trade 3 (some .int) [mr 0, mi i, mi w] (hM mt sd ms mg mk hn mh tr mx w9 t9 c9 g9) (fun z h => z = (if 0 ≤ i ∧ i < tNT mt ∧ 0 ≤ w ∧ w ≤ 2 then (if w = 2 then ms (4 + i).toNat else tTra mt (2 * i + w).toNat) else -1) ∧ h = hM mt sd ms mg mk hn mh tr mx w9 t9 c9 g9) := by
  refine SpI.of (cd := kdX7_trade) (fT := mlook flX7) (kT := mlook klX7) (kJ := mlook jlX7) mfA_X7_trade ok_X7_trade fT_X7 kT_X7 jT_X7 jdk_ok True.intro (Nat.le_of_ble_eq_true rfl) (fun G hG => ?_)
  refine rRun hG 99999 ?_
  refine rV hG (sp_X7_isTrade (mt := mt) (sd := sd) (ms := ms) (mg := mg) (mk := mk) (hn := hn) (mh := mh) (tr := tr) (mx := mx) (w9 := w9) (t9 := t9) (c9 := c9) (g9 := g9) (i := i) h1 (by omega)) rfl rfl lk_X7_154 mf_X7_isTrade (by decide) (Nat.le_of_ble_eq_true rfl) ⟨_, _, _, rfl, rfl, rfl⟩ ?_
  rintro w1 _ ⟨hw1, rfl⟩
  have w11 : (w1 = 1 ∧ (0 ≤ i ∧ i < tNT mt)) ∨ (w1 = 0 ∧ ¬ (0 ≤ i ∧ i < tNT mt)) := (by rw [hw1]; by_cases q9 : (0 ≤ i ∧ i < tNT mt) <;> simp [q9])
  clear hw1
  refine rRun hG 99999 ?_
  refine And.intro (by first | omega | (dsimp only; omega)) (And.intro (fun c2 => ?_) (fun c2 => ?_))
  · try dsimp only at c2
    refine rRun hG 99999 ?_
    refine rIR hG rfl rfl (True.intro) ?_
    exact ⟨by first | (rw [if_pos (by omega)]; done) | (rw [if_neg (by omega)]; done), rfl⟩
  · try dsimp only at c2
    refine rS hG (sp_X7_in (v := w) (a := 0) (b := 2) (by omega)) rfl rfl lk_X7_66 mf_X7_in (by decide) (Nat.le_of_ble_eq_true rfl) ?_
    rintro w2 _ ⟨hw2, rfl⟩
    have w21 : (w2 = 1 ∧ (0 ≤ w ∧ w ≤ 2)) ∨ (w2 = 0 ∧ ¬ (0 ≤ w ∧ w ≤ 2)) := (by rw [hw2]; by_cases q9 : (0 ≤ w ∧ w ≤ 2) <;> simp [q9])
    clear hw2
    refine rRun hG 99999 ?_
    refine And.intro (by first | omega | (dsimp only; omega)) (And.intro (fun c4 => ?_) (fun c4 => ?_))
    · try dsimp only at c4
      refine rRun hG 99999 ?_
      refine And.intro (by first | omega | (dsimp only; omega)) (And.intro (fun c5 => ?_) (fun c5 => ?_))
      · try dsimp only at c5
        refine rRun hG 99999 ?_
        refine And.intro rfl (And.intro (by first | omega | (dsimp only; omega)) (?_))
        refine rIR hG rfl rfl (True.intro) ?_
        refine ⟨?_, rfl⟩
        first | rw [if_pos (by omega), if_pos (by omega)] | rw [if_pos (by omega), if_neg (by omega)]
      · try dsimp only at c5
        refine And.intro rfl (And.intro (by first | omega | (dsimp only; omega)) (?_))
        refine rIR hG rfl rfl (True.intro) ?_
        refine ⟨?_, rfl⟩
        first | rw [if_pos (by omega), if_pos (by omega)] | rw [if_pos (by omega), if_neg (by omega)]
    · try dsimp only at c4
      refine rIR hG rfl rfl (True.intro) ?_
      exact ⟨by first | (rw [if_pos (by omega)]; done) | (rw [if_neg (by omega)]; done), rfl⟩
set_option maxRecDepth 20000 in
set_option maxHeartbeats 1000000 in
theorem sp_X7_isOver {mt sd : TD} {ms mg mk : FN} {hn : Int} {mh : FN} {tr : Int} {mx : XD} {w9 t9 c9 g9 : FN}  (h1 : inI (ms 0)) (h2 : inI (tDay mt)) : SpI l 1 yX7_isOver cX7_isOver 1 (some .boolean) [mr 0] (hM mt sd ms mg mk hn mh tr mx w9 t9 c9 g9) (fun z h => z = (if ms 0 = tDay mt then 1 else 0) ∧ h = hM mt sd ms mg mk hn mh tr mx w9 t9 c9 g9) := by
  refine SpI.of (cd := kdX7_isOver) (fT := mlook flX7) (kT := mlook klX7) (kJ := mlook jlX7) mfA_X7_isOver ok_X7_isOver fT_X7 kT_X7 jT_X7 jdk_ok True.intro (Nat.le_of_ble_eq_true rfl) (fun G hG => ?_)
  refine rRun hG 99999 ?_
  refine And.intro rfl (And.intro (by decide) (And.intro rfl (And.intro (by first | exact h1 | exact ⟨h1, h2⟩) (And.intro (fun c1 => ?_) (fun c1 => ?_)))))
  · try dsimp only at c1
    have c1 : ¬ ms 0 = tDay mt := c1
    refine rRun hG 99999 ?_
    refine rIR hG rfl rfl (by first | exact Or.inl rfl | exact Or.inr rfl | (show _ ∨ _; omega)) ?_
    exact ⟨by first | (rw [if_pos (by omega)]; done) | (rw [if_neg (by omega)]; done), rfl⟩
  · try dsimp only at c1
    have c1 : ms 0 = tDay mt := c1
    refine rIR hG rfl rfl (by first | exact Or.inl rfl | exact Or.inr rfl | (show _ ∨ _; omega)) ?_
    exact ⟨by first | (rw [if_pos (by omega)]; done) | (rw [if_neg (by omega)]; done), rfl⟩
set_option maxRecDepth 20000 in
set_option maxHeartbeats 1000000 in
theorem sp_X7_isFree {mt sd : TD} {ms mg mk : FN} {hn : Int} {mh : FN} {tr : Int} {mx : XD} {w9 t9 c9 g9 : FN}  (h1 : inI (ms 1)) : SpI l 1 yX7_isFree cX7_isFree 1 (some .boolean) [mr 0] (hM mt sd ms mg mk hn mh tr mx w9 t9 c9 g9) (fun z h => z = (if ms 1 = 0 then 1 else 0) ∧ h = hM mt sd ms mg mk hn mh tr mx w9 t9 c9 g9) := by
  refine SpI.of (cd := kdX7_isFree) (fT := mlook flX7) (kT := mlook klX7) (kJ := mlook jlX7) mfA_X7_isFree ok_X7_isFree fT_X7 kT_X7 jT_X7 jdk_ok True.intro (Nat.le_of_ble_eq_true rfl) (fun G hG => ?_)
  refine rRun hG 99999 ?_
  refine And.intro rfl (And.intro (by decide) (And.intro (by exact h1) (And.intro (fun c1 => ?_) (fun c1 => ?_))))
  · try dsimp only at c1
    have c1 : ¬ ms 1 = 0 := c1
    refine rRun hG 99999 ?_
    refine rIR hG rfl rfl (by first | exact Or.inl rfl | exact Or.inr rfl | (show _ ∨ _; omega)) ?_
    exact ⟨by first | (rw [if_pos (by omega)]; done) | (rw [if_neg (by omega)]; done), rfl⟩
  · try dsimp only at c1
    have c1 : ms 1 = 0 := c1
    refine rIR hG rfl rfl (by first | exact Or.inl rfl | exact Or.inr rfl | (show _ ∨ _; omega)) ?_
    exact ⟨by first | (rw [if_pos (by omega)]; done) | (rw [if_neg (by omega)]; done), rfl⟩
set_option maxRecDepth 20000 in
set_option maxHeartbeats 1000000 in
theorem sp_X7_isDone {mt sd : TD} {ms mg mk : FN} {hn : Int} {mh : FN} {tr : Int} {mx : XD} {w9 t9 c9 g9 : FN}  (h1 : inI (ms 0)) (h2 : inI (tDay mt)) (h3 : inI (ms 1)) : SpI l 2 yX7_isDone cX7_isDone 1 (some .boolean) [mr 0] (hM mt sd ms mg mk hn mh tr mx w9 t9 c9 g9) (fun z h => z = (if ms 0 = tDay mt ∨ ms 1 = 0 then 1 else 0) ∧ h = hM mt sd ms mg mk hn mh tr mx w9 t9 c9 g9) := by
  refine SpI.of (cd := kdX7_isDone) (fT := mlook flX7) (kT := mlook klX7) (kJ := mlook jlX7) mfA_X7_isDone ok_X7_isDone fT_X7 kT_X7 jT_X7 jdk_ok True.intro (Nat.le_of_ble_eq_true rfl) (fun G hG => ?_)
  refine rRun hG 99999 ?_
  refine rV hG (sp_X7_isOver (mt := mt) (sd := sd) (ms := ms) (mg := mg) (mk := mk) (hn := hn) (mh := mh) (tr := tr) (mx := mx) (w9 := w9) (t9 := t9) (c9 := c9) (g9 := g9) h1 h2) rfl rfl lk_X7_157 mf_X7_isOver (by decide) (Nat.le_of_ble_eq_true rfl) ⟨_, _, _, rfl, rfl, rfl⟩ ?_
  rintro w1 _ ⟨hw1, rfl⟩
  have w11 : (w1 = 1 ∧ (ms 0 = tDay mt)) ∨ (w1 = 0 ∧ ¬ (ms 0 = tDay mt)) := (by rw [hw1]; by_cases q9 : (ms 0 = tDay mt) <;> simp [q9])
  clear hw1
  refine rRun hG 99999 ?_
  refine And.intro (by first | omega | (dsimp only; omega)) (And.intro (fun c2 => ?_) (fun c2 => ?_))
  · try dsimp only at c2
    refine rRun hG 99999 ?_
    refine rIR hG rfl rfl (by first | exact Or.inl rfl | exact Or.inr rfl | (show _ ∨ _; omega)) ?_
    exact ⟨by first | (rw [if_pos (by omega)]; done) | (rw [if_neg (by omega)]; done), rfl⟩
  · try dsimp only at c2
    refine rV hG (sp_X7_isFree (mt := mt) (sd := sd) (ms := ms) (mg := mg) (mk := mk) (hn := hn) (mh := mh) (tr := tr) (mx := mx) (w9 := w9) (t9 := t9) (c9 := c9) (g9 := g9) h3) rfl rfl lk_X7_161 mf_X7_isFree (by decide) (Nat.le_of_ble_eq_true rfl) ⟨_, _, _, rfl, rfl, rfl⟩ ?_
    rintro w2 _ ⟨hw2, rfl⟩
    have w21 : (w2 = 1 ∧ (ms 1 = 0)) ∨ (w2 = 0 ∧ ¬ (ms 1 = 0)) := (by rw [hw2]; by_cases q9 : (ms 1 = 0) <;> simp [q9])
    clear hw2
    refine rRun hG 99999 ?_
    refine And.intro (by first | omega | (dsimp only; omega)) (And.intro (fun c4 => ?_) (fun c4 => ?_))
    · try dsimp only at c4
      refine rRun hG 99999 ?_
      refine rIR hG rfl rfl (by first | exact Or.inl rfl | exact Or.inr rfl | (show _ ∨ _; omega)) ?_
      exact ⟨by first | (rw [if_pos (by omega)]; done) | (rw [if_neg (by omega)]; done), rfl⟩
    · try dsimp only at c4
      refine rIR hG rfl rfl (by first | exact Or.inl rfl | exact Or.inr rfl | (show _ ∨ _; omega)) ?_
      exact ⟨by first | (rw [if_pos (by omega)]; done) | (rw [if_neg (by omega)]; done), rfl⟩
set_option maxRecDepth 20000 in
set_option maxHeartbeats 1000000 in
theorem sp_X7_candlesBy {mt sd : TD} {ms mg mk : FN} {hn : Int} {mh : FN} {tr : Int} {mx : XD} {w9 t9 c9 g9 : FN} {day pace : Int} (hT : TOK mt) (h1 : inI day) (h2 : inI pace) : SpI l 1 yX7_candlesBy cX7_candlesBy 7 (some .int) [mr 0, mi day, mi pace] (hM mt sd ms mg mk hn mh tr mx w9 t9 c9 g9) (fun z h => z = cndl (tBri mt) day pace (tNB mt).toNat ∧ h = hM mt sd ms mg mk hn mh tr mx w9 t9 c9 g9) := by
  have hT2 := hT.2.1
  refine SpI.of (cd := kdX7_candlesBy) (fT := mlook flX7) (kT := mlook klX7) (kJ := mlook jlX7) mfA_X7_candlesBy ok_X7_candlesBy fT_X7 kT_X7 jT_X7 jdk_ok True.intro (Nat.le_of_ble_eq_true rfl) (fun G hG => ?_)
  refine rRun hG 5 ?_
  have J5 : ∀ (n : Nat) (i : Nat), (i : Int) ≤ tNB mt → (tNB mt).toNat - i < n → G 5 [some (mr 0), some (mi day), some (mi pace), some (mi (cndl (tBri mt) day pace i)), some (mi i), none, none] [] (hM mt sd ms mg mk hn mh tr mx w9 t9 c9 g9) := by
    intro n
    induction n with
    | zero => intro i _ hm; exact absurd hm (Nat.not_lt_zero _)
    | succ n ih =>
      intro i hinv hm
      have hB : i < 6 → _ := hT.2.2.2.2.2.2.2.1 i
      have e2 : (4 * (i : Int) + 2).toNat = 4 * i + 2 := by omega
      have e1 : (4 * (i : Int) + 1).toNat = 4 * i + 1 := by omega
      have e3 : (4 * (i : Int) + 3).toNat = 4 * i + 3 := by omega
      have e0 : (4 * (i : Int)).toNat = 4 * i := by omega
      refine rRun hG 99999 ?_
      refine And.intro rfl (And.intro (by first | omega | (dsimp only; omega)) (And.intro (fun c1 => ?_) (fun c1 => ?_)))
      · try dsimp only at c1
        refine rRun hG 99999 ?_
        refine rIR hG rfl rfl (True.intro) ?_
        refine ⟨?_, rfl⟩
        rw [show (tNB mt).toNat = i by omega]
      · try dsimp only at c1
        have hB := hB (by omega)
        refine And.intro rfl (And.intro (by first | omega | (dsimp only; omega)) (And.intro rfl (And.intro (by first | omega | (dsimp only; omega)) (And.intro (by rw [e0]; omega) (And.intro (fun ca => ?_) (fun ca => ?_))))))
        · try dsimp only at ca
          rw [e0] at ca
          refine rRun hG 99999 ?_
          refine And.intro (by first | omega | (dsimp only; omega)) (And.intro (fun c2 => ?_) (fun c2 => ?_))
          · try dsimp only at c2
            refine rRun hG 99999 ?_
            refine rLess hG ?_ (ih (i + 1) ?_ ?_)
            · refine ⟨rfl, rfl, rfl, congrArg mi ?_, rfl, True.intro⟩
              rw [cndl_s]
              first | (exfalso; omega) | (rw [if_pos (by omega)]; try rw [e3]) | (rw [if_neg (by omega)])
            · omega
            · omega
          · try dsimp only at c2
            refine And.intro rfl (And.intro (by first | omega | (dsimp only; omega)) (?_))
            refine rRun hG 99999 ?_
            refine rLess hG ?_ (ih (i + 1) ?_ ?_)
            · refine ⟨rfl, rfl, rfl, congrArg mi ?_, rfl, True.intro⟩
              rw [cndl_s]
              first | (exfalso; omega) | (rw [if_pos (by omega)]; try rw [e3]) | (rw [if_neg (by omega)])
            · omega
            · omega
        · try dsimp only at ca
          rw [e0] at ca
          refine And.intro rfl (And.intro (by first | omega | (dsimp only; omega)) (And.intro (by rw [e1]; omega) (And.intro (fun cb => ?_) (fun cb => ?_))))
          · try dsimp only at cb
            rw [e1] at cb
            refine rRun hG 99999 ?_
            refine And.intro (by rw [e2]; omega) (And.intro (fun cc => ?_) (fun cc => ?_))
            · try dsimp only at cc
              rw [e2] at cc
              refine rRun hG 99999 ?_
              refine And.intro (by first | omega | (dsimp only; omega)) (And.intro (fun c3 => ?_) (fun c3 => ?_))
              · try dsimp only at c3
                refine rRun hG 99999 ?_
                refine rLess hG ?_ (ih (i + 1) ?_ ?_)
                · refine ⟨rfl, rfl, rfl, congrArg mi ?_, rfl, True.intro⟩
                  rw [cndl_s]
                  first | (exfalso; omega) | (rw [if_pos (by omega)]; try rw [e3]) | (rw [if_neg (by omega)])
                · omega
                · omega
              · try dsimp only at c3
                refine And.intro rfl (And.intro (by first | omega | (dsimp only; omega)) (?_))
                refine rRun hG 99999 ?_
                refine rLess hG ?_ (ih (i + 1) ?_ ?_)
                · refine ⟨rfl, rfl, rfl, congrArg mi ?_, rfl, True.intro⟩
                  rw [cndl_s]
                  first | (exfalso; omega) | (rw [if_pos (by omega)]; try rw [e3]) | (rw [if_neg (by omega)])
                · omega
                · omega
            · try dsimp only at cc
              rw [e2] at cc
              refine rRun hG 99999 ?_
              refine And.intro (by first | omega | (dsimp only; omega)) (And.intro (fun c4 => ?_) (fun c4 => ?_))
              · try dsimp only at c4
                refine rRun hG 99999 ?_
                refine rLess hG ?_ (ih (i + 1) ?_ ?_)
                · refine ⟨rfl, rfl, rfl, congrArg mi ?_, rfl, True.intro⟩
                  rw [cndl_s]
                  first | (exfalso; omega) | (rw [if_pos (by omega)]; try rw [e3]) | (rw [if_neg (by omega)])
                · omega
                · omega
              · try dsimp only at c4
                refine And.intro rfl (And.intro (by first | omega | (dsimp only; omega)) (?_))
                refine rRun hG 99999 ?_
                refine rLess hG ?_ (ih (i + 1) ?_ ?_)
                · refine ⟨rfl, rfl, rfl, congrArg mi ?_, rfl, True.intro⟩
                  rw [cndl_s]
                  first | (exfalso; omega) | (rw [if_pos (by omega)]; try rw [e3]) | (rw [if_neg (by omega)])
                · omega
                · omega
          · try dsimp only at cb
            rw [e1] at cb
            refine And.intro (by rw [e2]; omega) (And.intro (fun cc => ?_) (fun cc => ?_))
            · try dsimp only at cc
              rw [e2] at cc
              refine rRun hG 99999 ?_
              refine And.intro (by first | omega | (dsimp only; omega)) (And.intro (fun c5 => ?_) (fun c5 => ?_))
              · try dsimp only at c5
                refine rRun hG 99999 ?_
                refine rLess hG ?_ (ih (i + 1) ?_ ?_)
                · refine ⟨rfl, rfl, rfl, congrArg mi ?_, rfl, True.intro⟩
                  rw [cndl_s]
                  first | (exfalso; omega) | (rw [if_pos (by omega)]; try rw [e3]) | (rw [if_neg (by omega)])
                · omega
                · omega
              · try dsimp only at c5
                refine And.intro rfl (And.intro (by first | omega | (dsimp only; omega)) (?_))
                refine rRun hG 99999 ?_
                refine rLess hG ?_ (ih (i + 1) ?_ ?_)
                · refine ⟨rfl, rfl, rfl, congrArg mi ?_, rfl, True.intro⟩
                  rw [cndl_s]
                  first | (exfalso; omega) | (rw [if_pos (by omega)]; try rw [e3]) | (rw [if_neg (by omega)])
                · omega
                · omega
            · try dsimp only at cc
              rw [e2] at cc
              refine rRun hG 99999 ?_
              refine rRun hG 99999 ?_
              refine And.intro (by first | omega | (dsimp only; omega)) (And.intro (fun c6 => ?_) (fun c6 => ?_))
              · try dsimp only at c6
                refine rRun hG 99999 ?_
                refine rLess hG ?_ (ih (i + 1) ?_ ?_)
                · refine ⟨rfl, rfl, rfl, congrArg mi ?_, rfl, True.intro⟩
                  rw [cndl_s]
                  first | (exfalso; omega) | (rw [if_pos (by omega)]; try rw [e3]) | (rw [if_neg (by omega)])
                · omega
                · omega
              · try dsimp only at c6
                refine And.intro rfl (And.intro (by first | omega | (dsimp only; omega)) (?_))
                refine rRun hG 99999 ?_
                refine rLess hG ?_ (ih (i + 1) ?_ ?_)
                · refine ⟨rfl, rfl, rfl, congrArg mi ?_, rfl, True.intro⟩
                  rw [cndl_s]
                  first | (exfalso; omega) | (rw [if_pos (by omega)]; try rw [e3]) | (rw [if_neg (by omega)])
                · omega
                · omega
  exact J5 _ 0 (by omega) (Nat.lt_succ_self _)
set_option maxRecDepth 20000 in
set_option maxHeartbeats 1000000 in
theorem sp_X7_harmOf {mt sd : TD} {ms mg mk : FN} {hn : Int} {mh : FN} {tr : Int} {mx : XD} {w9 t9 c9 g9 : FN} {i : Nat} {er : Int} (hT : TOK mt) (hi : i < 4) (h1 : -1000 ≤ er ∧ er ≤ 1000) : SpI l 2 yX7_harmOf cX7_harmOf 4 (some .int) [mr 0, mi i, mi er] (hM mt sd ms mg mk hn mh tr mx w9 t9 c9 g9) (fun z h => z = hrm1 (tTra mt) er i ∧ h = hM mt sd ms mg mk hn mh tr mx w9 t9 c9 g9) := by
  have hB := hT.2.2.2.2.2.2.2.2 i hi
  refine SpI.of (cd := kdX7_harmOf) (fT := mlook flX7) (kT := mlook klX7) (kJ := mlook jlX7) mfA_X7_harmOf ok_X7_harmOf fT_X7 kT_X7 jT_X7 jdk_ok True.intro (Nat.le_of_ble_eq_true rfl) (fun G hG => ?_)
  refine rRun hG 99999 ?_
  refine And.intro rfl (And.intro (by first | omega | (dsimp only; omega)) (And.intro (by rw [show (2 * (i : Int) + 1).toNat = 2 * i + 1 by omega]; omega) (And.intro (fun ca => ?_) (fun ca => ?_))))
  · try dsimp only at ca
    rw [show (2 * (i : Int) + 1).toNat = 2 * i + 1 by omega] at ca
    refine rRun hG 99999 ?_
    refine And.intro (by first | omega | (dsimp only; omega)) (And.intro (fun c1 => ?_) (fun c1 => ?_))
    · try dsimp only at c1
      refine rRun hG 99999 ?_
      refine And.intro (by first | omega | (dsimp only; omega)) (And.intro (fun c2 => ?_) (fun c2 => ?_))
      · try dsimp only at c2
        refine rRun hG 99999 ?_
        refine rIR hG rfl rfl (True.intro) ?_
        refine ⟨?_, rfl⟩
        unfold hrm1
        first | (rw [if_pos (by omega), if_pos (by omega), show (2 * (i : Int)).toNat = 2 * i by omega, show max er (-er) = -er by omega]; done) | (rw [if_pos (by omega), if_neg (by omega)]; done) | (rw [if_neg (by omega), if_pos (by omega), show (2 * (i : Int)).toNat = 2 * i by omega, show max er (-er) = er by omega]; done) | (rw [if_neg (by omega), if_neg (by omega)]; done)
      · try dsimp only at c2
        refine And.intro rfl (And.intro (by first | omega | (dsimp only; omega)) (?_))
        refine rS hG (sp_X7_size (v := er) (by omega)) rfl rfl lk_X7_164 mf_X7_size (by decide) (Nat.le_of_ble_eq_true rfl) ?_
        rintro _ _ ⟨rfl, rfl⟩
        refine rRun hG 99999 ?_
        refine rIR hG rfl rfl (True.intro) ?_
        refine ⟨?_, rfl⟩
        unfold hrm1
        first | (rw [if_pos (by omega), if_pos (by omega), show (2 * (i : Int)).toNat = 2 * i by omega, show max er (-er) = -er by omega]; done) | (rw [if_pos (by omega), if_neg (by omega)]; done) | (rw [if_neg (by omega), if_pos (by omega), show (2 * (i : Int)).toNat = 2 * i by omega, show max er (-er) = er by omega]; done) | (rw [if_neg (by omega), if_neg (by omega)]; done)
    · try dsimp only at c1
      refine rRun hG 99999 ?_
      refine And.intro (by first | omega | (dsimp only; omega)) (And.intro (fun c4 => ?_) (fun c4 => ?_))
      · try dsimp only at c4
        refine rRun hG 99999 ?_
        refine rIR hG rfl rfl (True.intro) ?_
        refine ⟨?_, rfl⟩
        unfold hrm1
        first | (rw [if_pos (by omega), if_pos (by omega), show (2 * (i : Int)).toNat = 2 * i by omega, show max er (-er) = -er by omega]; done) | (rw [if_pos (by omega), if_neg (by omega)]; done) | (rw [if_neg (by omega), if_pos (by omega), show (2 * (i : Int)).toNat = 2 * i by omega, show max er (-er) = er by omega]; done) | (rw [if_neg (by omega), if_neg (by omega)]; done)
      · try dsimp only at c4
        refine And.intro rfl (And.intro (by first | omega | (dsimp only; omega)) (?_))
        refine rS hG (sp_X7_size (v := er) (by omega)) rfl rfl lk_X7_164 mf_X7_size (by decide) (Nat.le_of_ble_eq_true rfl) ?_
        rintro _ _ ⟨rfl, rfl⟩
        refine rRun hG 99999 ?_
        refine rIR hG rfl rfl (True.intro) ?_
        refine ⟨?_, rfl⟩
        unfold hrm1
        first | (rw [if_pos (by omega), if_pos (by omega), show (2 * (i : Int)).toNat = 2 * i by omega, show max er (-er) = -er by omega]; done) | (rw [if_pos (by omega), if_neg (by omega)]; done) | (rw [if_neg (by omega), if_pos (by omega), show (2 * (i : Int)).toNat = 2 * i by omega, show max er (-er) = er by omega]; done) | (rw [if_neg (by omega), if_neg (by omega)]; done)
  · try dsimp only at ca
    rw [show (2 * (i : Int) + 1).toNat = 2 * i + 1 by omega] at ca
    refine And.intro (by first | omega | (dsimp only; omega)) (And.intro (fun c6 => ?_) (fun c6 => ?_))
    · try dsimp only at c6
      refine rRun hG 99999 ?_
      refine rRun hG 99999 ?_
      refine And.intro (by first | omega | (dsimp only; omega)) (And.intro (fun c7 => ?_) (fun c7 => ?_))
      · try dsimp only at c7
        refine rRun hG 99999 ?_
        refine rIR hG rfl rfl (True.intro) ?_
        refine ⟨?_, rfl⟩
        unfold hrm1
        first | (rw [if_pos (by omega), if_pos (by omega), show (2 * (i : Int)).toNat = 2 * i by omega, show max er (-er) = -er by omega]; done) | (rw [if_pos (by omega), if_neg (by omega)]; done) | (rw [if_neg (by omega), if_pos (by omega), show (2 * (i : Int)).toNat = 2 * i by omega, show max er (-er) = er by omega]; done) | (rw [if_neg (by omega), if_neg (by omega)]; done)
      · try dsimp only at c7
        refine And.intro rfl (And.intro (by first | omega | (dsimp only; omega)) (?_))
        refine rS hG (sp_X7_size (v := er) (by omega)) rfl rfl lk_X7_164 mf_X7_size (by decide) (Nat.le_of_ble_eq_true rfl) ?_
        rintro _ _ ⟨rfl, rfl⟩
        refine rRun hG 99999 ?_
        refine rIR hG rfl rfl (True.intro) ?_
        refine ⟨?_, rfl⟩
        unfold hrm1
        first | (rw [if_pos (by omega), if_pos (by omega), show (2 * (i : Int)).toNat = 2 * i by omega, show max er (-er) = -er by omega]; done) | (rw [if_pos (by omega), if_neg (by omega)]; done) | (rw [if_neg (by omega), if_pos (by omega), show (2 * (i : Int)).toNat = 2 * i by omega, show max er (-er) = er by omega]; done) | (rw [if_neg (by omega), if_neg (by omega)]; done)
    · try dsimp only at c6
      refine rRun hG 99999 ?_
      refine And.intro (by first | omega | (dsimp only; omega)) (And.intro (fun c9 => ?_) (fun c9 => ?_))
      · try dsimp only at c9
        refine rRun hG 99999 ?_
        refine rIR hG rfl rfl (True.intro) ?_
        refine ⟨?_, rfl⟩
        unfold hrm1
        first | (rw [if_pos (by omega), if_pos (by omega), show (2 * (i : Int)).toNat = 2 * i by omega, show max er (-er) = -er by omega]; done) | (rw [if_pos (by omega), if_neg (by omega)]; done) | (rw [if_neg (by omega), if_pos (by omega), show (2 * (i : Int)).toNat = 2 * i by omega, show max er (-er) = er by omega]; done) | (rw [if_neg (by omega), if_neg (by omega)]; done)
      · try dsimp only at c9
        refine And.intro rfl (And.intro (by first | omega | (dsimp only; omega)) (?_))
        refine rS hG (sp_X7_size (v := er) (by omega)) rfl rfl lk_X7_164 mf_X7_size (by decide) (Nat.le_of_ble_eq_true rfl) ?_
        rintro _ _ ⟨rfl, rfl⟩
        refine rRun hG 99999 ?_
        refine rIR hG rfl rfl (True.intro) ?_
        refine ⟨?_, rfl⟩
        unfold hrm1
        first | (rw [if_pos (by omega), if_pos (by omega), show (2 * (i : Int)).toNat = 2 * i by omega, show max er (-er) = -er by omega]; done) | (rw [if_pos (by omega), if_neg (by omega)]; done) | (rw [if_neg (by omega), if_pos (by omega), show (2 * (i : Int)).toNat = 2 * i by omega, show max er (-er) = er by omega]; done) | (rw [if_neg (by omega), if_neg (by omega)]; done)
set_option maxRecDepth 20000 in
set_option maxHeartbeats 1000000 in
theorem sp_X7_harmBy {mt sd : TD} {ms mg mk : FN} {hn : Int} {mh : FN} {tr : Int} {mx : XD} {w9 t9 c9 g9 : FN} {er : Int} (hT : TOK mt) (h1 : -1000 ≤ er ∧ er ≤ 1000) : SpI l 3 yX7_harmBy cX7_harmBy 4 (some .int) [mr 0, mi er] (hM mt sd ms mg mk hn mh tr mx w9 t9 c9 g9) (fun z h => z = hrmS (tTra mt) er (tNT mt).toNat ∧ h = hM mt sd ms mg mk hn mh tr mx w9 t9 c9 g9) := by
  have hT2 := hT.2.2.1
  refine SpI.of (cd := kdX7_harmBy) (fT := mlook flX7) (kT := mlook klX7) (kJ := mlook jlX7) mfA_X7_harmBy ok_X7_harmBy fT_X7 kT_X7 jT_X7 jdk_ok True.intro (Nat.le_of_ble_eq_true rfl) (fun G hG => ?_)
  refine rRun hG 4 ?_
  have J4 : ∀ (n : Nat) (i : Nat), (i : Int) ≤ tNT mt → (tNT mt).toNat - i < n → G 4 [some (mr 0), some (mi er), some (mi (hrmS (tTra mt) er i)), some (mi i)] [] (hM mt sd ms mg mk hn mh tr mx w9 t9 c9 g9) := by
    intro n
    induction n with
    | zero => intro i _ hm; exact absurd hm (Nat.not_lt_zero _)
    | succ n ih =>
      intro i hinv hm
      refine rRun hG 99999 ?_
      refine And.intro rfl (And.intro (by first | omega | (dsimp only; omega)) (And.intro (fun c1 => ?_) (fun c1 => ?_)))
      · try dsimp only at c1
        refine rRun hG 99999 ?_
        refine rIR hG rfl rfl (True.intro) ?_
        refine ⟨?_, rfl⟩
        rw [show (tNT mt).toNat = i by omega]
      · try dsimp only at c1
        refine rV hG (sp_X7_harmOf (mt := mt) (sd := sd) (ms := ms) (mg := mg) (mk := mk) (hn := hn) (mh := mh) (tr := tr) (mx := mx) (w9 := w9) (t9 := t9) (c9 := c9) (g9 := g9) (i := i) (er := er) hT (by omega) h1) rfl rfl lk_X7_167 mf_X7_harmOf (by decide) (Nat.le_of_ble_eq_true rfl) ⟨_, _, _, rfl, rfl, rfl⟩ ?_
        rintro _ _ ⟨rfl, rfl⟩
        refine rRun hG 99999 ?_
        refine rLess hG ?_ (ih (i + 1) ?_ ?_)
        · exact ⟨rfl, rfl, rfl, rfl, True.intro⟩
        · omega
        · omega
  exact J4 _ 0 (by omega) (Nat.lt_succ_self _)
set_option maxRecDepth 20000 in
set_option maxHeartbeats 1000000 in
theorem sp_X7_trace {mt sd : TD} {ms mg mk : FN} {hn : Int} {mh : FN} {tr : Int} {mx : XD} {w9 t9 c9 g9 : FN}   : SpJ l 1 yX7_trace cX7_trace 1 (some .long) [mr 0] (hM mt sd ms mg mk hn mh tr mx w9 t9 c9 g9) (fun z h => z = tr ∧ h = hM mt sd ms mg mk hn mh tr mx w9 t9 c9 g9) := by
  refine SpJ.of (cd := kdX7_trace) (fT := mlook flX7) (kT := mlook klX7) (kJ := mlook jlX7) mfA_X7_trace ok_X7_trace fT_X7 kT_X7 jT_X7 jdk_ok True.intro (Nat.le_of_ble_eq_true rfl) (fun G hG => ?_)
  refine rRun hG 99999 ?_
  refine And.intro rfl (?_)
  refine rLR hG rfl rfl rfl ?_
  exact ⟨rfl, rfl⟩
end WALKS
