/-! Story -/
section WALKS
variable {l : Launch}
/-- what is NOW: day, rest, error, candles, found, harms -/
def MOK (m : FN) : Prop := (0 ≤ m 0 ∧ m 0 ≤ 14) ∧ (0 ≤ m 1 ∧ m 1 ≤ 99) ∧ (-9 ≤ m 2 ∧ m 2 ≤ 9) ∧ (0 ≤ m 3 ∧ m 3 ≤ 999) ∧ ∀ i, i < 4 → 0 ≤ m (5 + i) ∧ m (5 + i) ≤ 9999
theorem mup_s {f : FN} {k : Nat} {v : Int} : mup f k v k = v := if_pos rfl
theorem mup_n {f : FN} {k j : Nat} {v : Int} (h : j ≠ k) : mup f k v j = f j := if_neg h
def hsum (mo : FN) : Nat → Int
  | 0 => 0
  | i + 1 => hsum mo i + mo (5 + i)
set_option maxRecDepth 20000 in
set_option maxHeartbeats 4000000 in
theorem sp_X3_day {uo : UD} {ux : XD} {ua ub : TD} {mo : FN} {kn kp : Int} {v1 v2 : SD} {up uq : PD} {ur : HD}   : SpI l 1 yX3_day cX3_day 1 (some .int) [mr 11] (hC uo ux ua ub (mo, kn, kp) v1 v2 up uq ur) (fun z h => z = mo 0 ∧ h = hC uo ux ua ub (mo, kn, kp) v1 v2 up uq ur) := by
  refine SpI.of (cd := kdX3_day) (fT := mlook flX3) (kT := mlook klX3) (kJ := mlook jlX3) mfA_X3_day ok_X3_day fT_X3 kT_X3 jT_X3 jdk_ok True.intro (Nat.le_of_ble_eq_true rfl) (fun G hG => ?_)
  refine rRun hG 99999 ?_
  refine And.intro rfl (And.intro (by decide) (?_))
  refine rIR hG rfl rfl (True.intro) ?_
  exact ⟨rfl, rfl⟩
set_option maxRecDepth 20000 in
set_option maxHeartbeats 4000000 in
theorem sp_X3_rest {uo : UD} {ux : XD} {ua ub : TD} {mo : FN} {kn kp : Int} {v1 v2 : SD} {up uq : PD} {ur : HD}   : SpI l 1 yX3_rest cX3_rest 1 (some .int) [mr 11] (hC uo ux ua ub (mo, kn, kp) v1 v2 up uq ur) (fun z h => z = mo 1 ∧ h = hC uo ux ua ub (mo, kn, kp) v1 v2 up uq ur) := by
  refine SpI.of (cd := kdX3_rest) (fT := mlook flX3) (kT := mlook klX3) (kJ := mlook jlX3) mfA_X3_rest ok_X3_rest fT_X3 kT_X3 jT_X3 jdk_ok True.intro (Nat.le_of_ble_eq_true rfl) (fun G hG => ?_)
  refine rRun hG 99999 ?_
  refine And.intro rfl (And.intro (by decide) (?_))
  refine rIR hG rfl rfl (True.intro) ?_
  exact ⟨rfl, rfl⟩
set_option maxRecDepth 20000 in
set_option maxHeartbeats 4000000 in
theorem sp_X3_error {uo : UD} {ux : XD} {ua ub : TD} {mo : FN} {kn kp : Int} {v1 v2 : SD} {up uq : PD} {ur : HD}   : SpI l 1 yX3_error cX3_error 1 (some .int) [mr 11] (hC uo ux ua ub (mo, kn, kp) v1 v2 up uq ur) (fun z h => z = mo 2 ∧ h = hC uo ux ua ub (mo, kn, kp) v1 v2 up uq ur) := by
  refine SpI.of (cd := kdX3_error) (fT := mlook flX3) (kT := mlook klX3) (kJ := mlook jlX3) mfA_X3_error ok_X3_error fT_X3 kT_X3 jT_X3 jdk_ok True.intro (Nat.le_of_ble_eq_true rfl) (fun G hG => ?_)
  refine rRun hG 99999 ?_
  refine And.intro rfl (And.intro (by decide) (?_))
  refine rIR hG rfl rfl (True.intro) ?_
  exact ⟨rfl, rfl⟩
set_option maxRecDepth 20000 in
set_option maxHeartbeats 4000000 in
theorem sp_X3_candles {uo : UD} {ux : XD} {ua ub : TD} {mo : FN} {kn kp : Int} {v1 v2 : SD} {up uq : PD} {ur : HD}   : SpI l 1 yX3_candles cX3_candles 1 (some .int) [mr 11] (hC uo ux ua ub (mo, kn, kp) v1 v2 up uq ur) (fun z h => z = mo 3 ∧ h = hC uo ux ua ub (mo, kn, kp) v1 v2 up uq ur) := by
  refine SpI.of (cd := kdX3_candles) (fT := mlook flX3) (kT := mlook klX3) (kJ := mlook jlX3) mfA_X3_candles ok_X3_candles fT_X3 kT_X3 jT_X3 jdk_ok True.intro (Nat.le_of_ble_eq_true rfl) (fun G hG => ?_)
  refine rRun hG 99999 ?_
  refine And.intro rfl (And.intro (by decide) (?_))
  refine rIR hG rfl rfl (True.intro) ?_
  exact ⟨rfl, rfl⟩
set_option maxRecDepth 20000 in
set_option maxHeartbeats 4000000 in
theorem sp_X3_found {uo : UD} {ux : XD} {ua ub : TD} {mo : FN} {kn kp : Int} {v1 v2 : SD} {up uq : PD} {ur : HD}   : SpI l 1 yX3_found cX3_found 1 (some .int) [mr 11] (hC uo ux ua ub (mo, kn, kp) v1 v2 up uq ur) (fun z h => z = mo 4 ∧ h = hC uo ux ua ub (mo, kn, kp) v1 v2 up uq ur) := by
  refine SpI.of (cd := kdX3_found) (fT := mlook flX3) (kT := mlook klX3) (kJ := mlook jlX3) mfA_X3_found ok_X3_found fT_X3 kT_X3 jT_X3 jdk_ok True.intro (Nat.le_of_ble_eq_true rfl) (fun G hG => ?_)
  refine rRun hG 99999 ?_
  refine And.intro rfl (And.intro (by decide) (?_))
  refine rIR hG rfl rfl (True.intro) ?_
  exact ⟨rfl, rfl⟩
set_option maxRecDepth 20000 in
set_option maxHeartbeats 4000000 in
theorem sp_X3_harmOf {uo : UD} {ux : XD} {ua ub : TD} {mo : FN} {kn kp : Int} {v1 v2 : SD} {up uq : PD} {ur : HD} {i : Int} (h1 : inI i) : SpI l 1 yX3_harmOf cX3_harmOf 2 (some .int) [mr 11, mi i] (hC uo ux ua ub (mo, kn, kp) v1 v2 up uq ur) (fun z h => z = (if 0 ≤ i ∧ i < 4 then mo (5 + i).toNat else 0) ∧ h = hC uo ux ua ub (mo, kn, kp) v1 v2 up uq ur) := by
  refine SpI.of (cd := kdX3_harmOf) (fT := mlook flX3) (kT := mlook klX3) (kJ := mlook jlX3) mfA_X3_harmOf ok_X3_harmOf fT_X3 kT_X3 jT_X3 jdk_ok True.intro (Nat.le_of_ble_eq_true rfl) (fun G hG => ?_)
  refine rRun hG 99999 ?_
  refine And.intro (by first | omega | (dsimp only; omega)) (And.intro (fun c1 => ?_) (fun c1 => ?_))
  · try dsimp only at c1
    refine rRun hG 99999 ?_
    refine rIR hG rfl rfl (True.intro) ?_
    exact ⟨by first | (rw [if_pos (by omega)]; done) | (rw [if_neg (by omega)]; done), rfl⟩
  · try dsimp only at c1
    refine And.intro (by first | omega | (dsimp only; omega)) (And.intro (fun c2 => ?_) (fun c2 => ?_))
    · try dsimp only at c2
      refine rRun hG 99999 ?_
      refine rIR hG rfl rfl (True.intro) ?_
      exact ⟨by first | (rw [if_pos (by omega)]; done) | (rw [if_neg (by omega)]; done), rfl⟩
    · try dsimp only at c2
      refine And.intro rfl (And.intro (by first | omega | (dsimp only; omega)) (?_))
      refine rIR hG rfl rfl (True.intro) ?_
      exact ⟨by first | (rw [if_pos (by omega)]; done) | (rw [if_neg (by omega)]; done), rfl⟩
set_option maxRecDepth 20000 in
set_option maxHeartbeats 4000000 in
theorem sp_X3_harmOfAll {uo : UD} {ux : XD} {ua ub : TD} {mo : FN} {kn kp : Int} {v1 v2 : SD} {up uq : PD} {ur : HD}   : SpI l 2 yX3_harmOfAll cX3_harmOfAll 3 (some .int) [mr 11] (hC uo ux ua ub (mo, kn, kp) v1 v2 up uq ur) (fun z h => z = hsum mo 4 ∧ h = hC uo ux ua ub (mo, kn, kp) v1 v2 up uq ur) := by
  refine SpI.of (cd := kdX3_harmOfAll) (fT := mlook flX3) (kT := mlook klX3) (kJ := mlook jlX3) mfA_X3_harmOfAll ok_X3_harmOfAll fT_X3 kT_X3 jT_X3 jdk_ok True.intro (Nat.le_of_ble_eq_true rfl) (fun G hG => ?_)
  refine rRun hG 4 ?_
  have J4 : ∀ (n : Nat) (i : Nat), i ≤ 4 → 4 - i < n → G 4 [some (mr 11), some (mi (hsum mo i)), some (mi i)] [] (hC uo ux ua ub (mo, kn, kp) v1 v2 up uq ur) := by
    intro n
    induction n with
    | zero => intro i _ hm; exact absurd hm (Nat.not_lt_zero _)
    | succ n ih =>
      intro i hinv hm
      refine rRun hG 99999 ?_
      refine And.intro (by first | omega | (dsimp only; omega)) (And.intro (fun c1 => ?_) (fun c1 => ?_))
      · try dsimp only at c1
        refine rRun hG 99999 ?_
        refine rIR hG rfl rfl (True.intro) ?_
        refine ⟨?_, rfl⟩
        obtain rfl : i = 4 := by omega
        rfl
      · try dsimp only at c1
        refine rV hG (sp_X3_harmOf (uo := uo) (ux := ux) (ua := ua) (ub := ub) (v1 := v1) (v2 := v2) (up := up) (uq := uq) (ur := ur) (mo := mo) (kn := kn) (kp := kp) (i := (i : Int)) (by omega)) rfl rfl lk_X3_29 mf_X3_harmOf (by decide) (Nat.le_of_ble_eq_true rfl) ⟨_, _, _, rfl, rfl, rfl⟩ ?_
        rintro z _ ⟨hz, rfl⟩
        rw [if_pos (by omega), show (5 + (i : Int)).toNat = 5 + i by omega] at hz
        subst hz
        refine rRun hG 99999 ?_
        refine rLess hG ?_ (ih (i + 1) ?_ ?_)
        · exact ⟨rfl, rfl, rfl, True.intro⟩
        · omega
        · omega
  exact J4 _ 0 (by omega) (Nat.lt_succ_self _)
set_option maxRecDepth 20000 in
set_option maxHeartbeats 4000000 in
theorem sp_X3_isOver {uo : UD} {ux : XD} {ua ub : TD} {mo : FN} {kn kp : Int} {v1 v2 : SD} {up uq : PD} {ur : HD} {k : Bool} {t : TD} (ht : t = tsel k ua ub)  (h1 : inI (mo 0)) (h2 : inI (tDay t)) : SpI l 2 yX3_isOver cX3_isOver 2 (some .boolean) [mr 11, mr (tix k)] (hC uo ux ua ub (mo, kn, kp) v1 v2 up uq ur) (fun z h => z = (if tDay t ≤ mo 0 then 1 else 0) ∧ h = hC uo ux ua ub (mo, kn, kp) v1 v2 up uq ur) := by
  cases k
  · obtain rfl : t = ua := ht
    refine SpI.of (cd := kdX3_isOver) (fT := mlook flX3) (kT := mlook klX3) (kJ := mlook jlX3) mfA_X3_isOver ok_X3_isOver fT_X3 kT_X3 jT_X3 jdk_ok True.intro (Nat.le_of_ble_eq_true rfl) (fun G hG => ?_)
    refine rRun hG 99999 ?_
    refine rV hG (sp_X3_day (uo := uo) (ux := ux) (ua := t) (ub := ub) (v1 := v1) (v2 := v2) (up := up) (uq := uq) (ur := ur) (mo := mo) (kn := kn) (kp := kp)) rfl rfl lk_X3_33 mf_X3_day (by decide) (Nat.le_of_ble_eq_true rfl) ⟨_, _, _, rfl, rfl, rfl⟩ ?_
    rintro _ _ ⟨rfl, rfl⟩
    refine rRun hG 99999 ?_
    refine And.intro rfl (And.intro (by first | omega | (dsimp only; omega)) (And.intro (fun c2 => ?_) (fun c2 => ?_)))
    · try dsimp only at c2
      refine rRun hG 99999 ?_
      refine rIR hG rfl rfl (by first | exact Or.inl rfl | exact Or.inr rfl | (show _ ∨ _; omega)) ?_
      exact ⟨by first | (rw [if_pos (by omega)]; done) | (rw [if_neg (by omega)]; done), rfl⟩
    · try dsimp only at c2
      refine rIR hG rfl rfl (by first | exact Or.inl rfl | exact Or.inr rfl | (show _ ∨ _; omega)) ?_
      exact ⟨by first | (rw [if_pos (by omega)]; done) | (rw [if_neg (by omega)]; done), rfl⟩
  · obtain rfl : t = ub := ht
    refine SpI.of (cd := kdX3_isOver) (fT := mlook flX3) (kT := mlook klX3) (kJ := mlook jlX3) mfA_X3_isOver ok_X3_isOver fT_X3 kT_X3 jT_X3 jdk_ok True.intro (Nat.le_of_ble_eq_true rfl) (fun G hG => ?_)
    refine rRun hG 99999 ?_
    refine rV hG (sp_X3_day (uo := uo) (ux := ux) (ua := ua) (ub := t) (v1 := v1) (v2 := v2) (up := up) (uq := uq) (ur := ur) (mo := mo) (kn := kn) (kp := kp)) rfl rfl lk_X3_33 mf_X3_day (by decide) (Nat.le_of_ble_eq_true rfl) ⟨_, _, _, rfl, rfl, rfl⟩ ?_
    rintro _ _ ⟨rfl, rfl⟩
    refine rRun hG 99999 ?_
    refine And.intro rfl (And.intro (by first | omega | (dsimp only; omega)) (And.intro (fun c2 => ?_) (fun c2 => ?_)))
    · try dsimp only at c2
      refine rRun hG 99999 ?_
      refine rIR hG rfl rfl (by first | exact Or.inl rfl | exact Or.inr rfl | (show _ ∨ _; omega)) ?_
      exact ⟨by first | (rw [if_pos (by omega)]; done) | (rw [if_neg (by omega)]; done), rfl⟩
    · try dsimp only at c2
      refine rIR hG rfl rfl (by first | exact Or.inl rfl | exact Or.inr rfl | (show _ ∨ _; omega)) ?_
      exact ⟨by first | (rw [if_pos (by omega)]; done) | (rw [if_neg (by omega)]; done), rfl⟩
set_option maxRecDepth 20000 in
set_option maxHeartbeats 4000000 in
theorem sp_X3_isFree {uo : UD} {ux : XD} {ua ub : TD} {mo : FN} {kn kp : Int} {v1 v2 : SD} {up uq : PD} {ur : HD}  (h1 : inI (mo 1)) : SpI l 2 yX3_isFree cX3_isFree 1 (some .boolean) [mr 11] (hC uo ux ua ub (mo, kn, kp) v1 v2 up uq ur) (fun z h => z = (if mo 1 = 0 then 1 else 0) ∧ h = hC uo ux ua ub (mo, kn, kp) v1 v2 up uq ur) := by
  refine SpI.of (cd := kdX3_isFree) (fT := mlook flX3) (kT := mlook klX3) (kJ := mlook jlX3) mfA_X3_isFree ok_X3_isFree fT_X3 kT_X3 jT_X3 jdk_ok True.intro (Nat.le_of_ble_eq_true rfl) (fun G hG => ?_)
  refine rRun hG 99999 ?_
  refine rV hG (sp_X3_rest (uo := uo) (ux := ux) (ua := ua) (ub := ub) (v1 := v1) (v2 := v2) (up := up) (uq := uq) (ur := ur) (mo := mo) (kn := kn) (kp := kp)) rfl rfl lk_X3_42 mf_X3_rest (by decide) (Nat.le_of_ble_eq_true rfl) ⟨_, _, _, rfl, rfl, rfl⟩ ?_
  rintro _ _ ⟨rfl, rfl⟩
  refine rRun hG 99999 ?_
  refine And.intro (by first | omega | (dsimp only; omega)) (And.intro (fun c2 => ?_) (fun c2 => ?_))
  · try dsimp only at c2
    refine rRun hG 99999 ?_
    refine rIR hG rfl rfl (by first | exact Or.inl rfl | exact Or.inr rfl | (show _ ∨ _; omega)) ?_
    exact ⟨by first | (rw [if_pos (by omega)]; done) | (rw [if_neg (by omega)]; done), rfl⟩
  · try dsimp only at c2
    refine rIR hG rfl rfl (by first | exact Or.inl rfl | exact Or.inr rfl | (show _ ∨ _; omega)) ?_
    exact ⟨by first | (rw [if_pos (by omega)]; done) | (rw [if_neg (by omega)]; done), rfl⟩
set_option maxRecDepth 20000 in
set_option maxHeartbeats 4000000 in
theorem sp_X3_isEnded {uo : UD} {ux : XD} {ua ub : TD} {mo : FN} {kn kp : Int} {v1 v2 : SD} {up uq : PD} {ur : HD} {k : Bool} {t : TD} (ht : t = tsel k ua ub)  (h1 : inI (mo 0)) (h2 : inI (tDay t)) (h3 : inI (mo 1)) : SpI l 3 yX3_isEnded cX3_isEnded 2 (some .boolean) [mr 11, mr (tix k)] (hC uo ux ua ub (mo, kn, kp) v1 v2 up uq ur) (fun z h => z = (if tDay t ≤ mo 0 ∨ mo 1 = 0 then 1 else 0) ∧ h = hC uo ux ua ub (mo, kn, kp) v1 v2 up uq ur) := by
  cases k
  · obtain rfl : t = ua := ht
    refine SpI.of (cd := kdX3_isEnded) (fT := mlook flX3) (kT := mlook klX3) (kJ := mlook jlX3) mfA_X3_isEnded ok_X3_isEnded fT_X3 kT_X3 jT_X3 jdk_ok True.intro (Nat.le_of_ble_eq_true rfl) (fun G hG => ?_)
    refine rRun hG 99999 ?_
    refine rV hG (sp_X3_isOver (uo := uo) (ux := ux) (ua := t) (ub := ub) (v1 := v1) (v2 := v2) (up := up) (uq := uq) (ur := ur) (mo := mo) (kn := kn) (kp := kp) (k := false) (t := t) (ht := rfl) h1 h2) rfl rfl lk_X3_45 mf_X3_isOver (by decide) (Nat.le_of_ble_eq_true rfl) ⟨_, _, _, rfl, rfl, rfl⟩ ?_
    rintro z _ ⟨hz, rfl⟩
    have hz1 : (z = 1 ∧ tDay t ≤ mo 0) ∨ (z = 0 ∧ ¬ tDay t ≤ mo 0) := by
        rw [hz]; by_cases q : tDay t ≤ mo 0
        · exact Or.inl ⟨if_pos q, q⟩
        · exact Or.inr ⟨if_neg q, q⟩
    clear hz
    refine rRun hG 99999 ?_
    refine And.intro (by first | omega | (dsimp only; omega)) (And.intro (fun c2 => ?_) (fun c2 => ?_))
    · try dsimp only at c2
      refine rRun hG 99999 ?_
      refine rIR hG rfl rfl (by first | exact Or.inl rfl | exact Or.inr rfl | (show _ ∨ _; omega)) ?_
      exact ⟨by first | (rw [if_pos (by omega)]; done) | (rw [if_neg (by omega)]; done), rfl⟩
    · try dsimp only at c2
      refine rV hG (sp_X3_isFree (uo := uo) (ux := ux) (ua := t) (ub := ub) (v1 := v1) (v2 := v2) (up := up) (uq := uq) (ur := ur) (mo := mo) (kn := kn) (kp := kp) h3) rfl rfl lk_X3_49 mf_X3_isFree (by decide) (Nat.le_of_ble_eq_true rfl) ⟨_, _, _, rfl, rfl, rfl⟩ ?_
      rintro w _ ⟨hw, rfl⟩
      have hw1 : (w = 1 ∧ mo 1 = 0) ∨ (w = 0 ∧ ¬ mo 1 = 0) := by
          rw [hw]; by_cases q : mo 1 = 0
          · exact Or.inl ⟨if_pos q, q⟩
          · exact Or.inr ⟨if_neg q, q⟩
      clear hw
      refine rRun hG 99999 ?_
      refine And.intro (by first | omega | (dsimp only; omega)) (And.intro (fun c4 => ?_) (fun c4 => ?_))
      · try dsimp only at c4
        refine rRun hG 99999 ?_
        refine rIR hG rfl rfl (by first | exact Or.inl rfl | exact Or.inr rfl | (show _ ∨ _; omega)) ?_
        exact ⟨by first | (rw [if_pos (by omega)]; done) | (rw [if_neg (by omega)]; done), rfl⟩
      · try dsimp only at c4
        refine rIR hG rfl rfl (by first | exact Or.inl rfl | exact Or.inr rfl | (show _ ∨ _; omega)) ?_
        exact ⟨by first | (rw [if_pos (by omega)]; done) | (rw [if_neg (by omega)]; done), rfl⟩
  · obtain rfl : t = ub := ht
    refine SpI.of (cd := kdX3_isEnded) (fT := mlook flX3) (kT := mlook klX3) (kJ := mlook jlX3) mfA_X3_isEnded ok_X3_isEnded fT_X3 kT_X3 jT_X3 jdk_ok True.intro (Nat.le_of_ble_eq_true rfl) (fun G hG => ?_)
    refine rRun hG 99999 ?_
    refine rV hG (sp_X3_isOver (uo := uo) (ux := ux) (ua := ua) (ub := t) (v1 := v1) (v2 := v2) (up := up) (uq := uq) (ur := ur) (mo := mo) (kn := kn) (kp := kp) (k := true) (t := t) (ht := rfl) h1 h2) rfl rfl lk_X3_45 mf_X3_isOver (by decide) (Nat.le_of_ble_eq_true rfl) ⟨_, _, _, rfl, rfl, rfl⟩ ?_
    rintro z _ ⟨hz, rfl⟩
    have hz1 : (z = 1 ∧ tDay t ≤ mo 0) ∨ (z = 0 ∧ ¬ tDay t ≤ mo 0) := by
        rw [hz]; by_cases q : tDay t ≤ mo 0
        · exact Or.inl ⟨if_pos q, q⟩
        · exact Or.inr ⟨if_neg q, q⟩
    clear hz
    refine rRun hG 99999 ?_
    refine And.intro (by first | omega | (dsimp only; omega)) (And.intro (fun c2 => ?_) (fun c2 => ?_))
    · try dsimp only at c2
      refine rRun hG 99999 ?_
      refine rIR hG rfl rfl (by first | exact Or.inl rfl | exact Or.inr rfl | (show _ ∨ _; omega)) ?_
      exact ⟨by first | (rw [if_pos (by omega)]; done) | (rw [if_neg (by omega)]; done), rfl⟩
    · try dsimp only at c2
      refine rV hG (sp_X3_isFree (uo := uo) (ux := ux) (ua := ua) (ub := t) (v1 := v1) (v2 := v2) (up := up) (uq := uq) (ur := ur) (mo := mo) (kn := kn) (kp := kp) h3) rfl rfl lk_X3_49 mf_X3_isFree (by decide) (Nat.le_of_ble_eq_true rfl) ⟨_, _, _, rfl, rfl, rfl⟩ ?_
      rintro w _ ⟨hw, rfl⟩
      have hw1 : (w = 1 ∧ mo 1 = 0) ∨ (w = 0 ∧ ¬ mo 1 = 0) := by
          rw [hw]; by_cases q : mo 1 = 0
          · exact Or.inl ⟨if_pos q, q⟩
          · exact Or.inr ⟨if_neg q, q⟩
      clear hw
      refine rRun hG 99999 ?_
      refine And.intro (by first | omega | (dsimp only; omega)) (And.intro (fun c4 => ?_) (fun c4 => ?_))
      · try dsimp only at c4
        refine rRun hG 99999 ?_
        refine rIR hG rfl rfl (by first | exact Or.inl rfl | exact Or.inr rfl | (show _ ∨ _; omega)) ?_
        exact ⟨by first | (rw [if_pos (by omega)]; done) | (rw [if_neg (by omega)]; done), rfl⟩
      · try dsimp only at c4
        refine rIR hG rfl rfl (by first | exact Or.inl rfl | exact Or.inr rfl | (show _ ∨ _; omega)) ?_
        exact ⟨by first | (rw [if_pos (by omega)]; done) | (rw [if_neg (by omega)]; done), rfl⟩
set_option maxRecDepth 20000 in
set_option maxHeartbeats 4000000 in
theorem sp_X3_daysLeft {uo : UD} {ux : XD} {ua ub : TD} {mo : FN} {kn kp : Int} {v1 v2 : SD} {up uq : PD} {ur : HD} {k : Bool} {t : TD} (ht : t = tsel k ua ub)   : SpI l 2 yX3_daysLeft cX3_daysLeft 2 (some .int) [mr 11, mr (tix k)] (hC uo ux ua ub (mo, kn, kp) v1 v2 up uq ur) (fun z h => z = tDay t - mo 0 ∧ h = hC uo ux ua ub (mo, kn, kp) v1 v2 up uq ur) := by
  cases k
  · obtain rfl : t = ua := ht
    refine SpI.of (cd := kdX3_daysLeft) (fT := mlook flX3) (kT := mlook klX3) (kJ := mlook jlX3) mfA_X3_daysLeft ok_X3_daysLeft fT_X3 kT_X3 jT_X3 jdk_ok True.intro (Nat.le_of_ble_eq_true rfl) (fun G hG => ?_)
    refine rRun hG 99999 ?_
    refine And.intro rfl (?_)
    refine rV hG (sp_X3_day (uo := uo) (ux := ux) (ua := t) (ub := ub) (v1 := v1) (v2 := v2) (up := up) (uq := uq) (ur := ur) (mo := mo) (kn := kn) (kp := kp)) rfl rfl lk_X3_33 mf_X3_day (by decide) (Nat.le_of_ble_eq_true rfl) ⟨_, _, _, rfl, rfl, rfl⟩ ?_
    rintro _ _ ⟨rfl, rfl⟩
    refine rRun hG 99999 ?_
    refine rIR hG rfl rfl (True.intro) ?_
    exact ⟨rfl, rfl⟩
  · obtain rfl : t = ub := ht
    refine SpI.of (cd := kdX3_daysLeft) (fT := mlook flX3) (kT := mlook klX3) (kJ := mlook jlX3) mfA_X3_daysLeft ok_X3_daysLeft fT_X3 kT_X3 jT_X3 jdk_ok True.intro (Nat.le_of_ble_eq_true rfl) (fun G hG => ?_)
    refine rRun hG 99999 ?_
    refine And.intro rfl (?_)
    refine rV hG (sp_X3_day (uo := uo) (ux := ux) (ua := ua) (ub := t) (v1 := v1) (v2 := v2) (up := up) (uq := uq) (ur := ur) (mo := mo) (kn := kn) (kp := kp)) rfl rfl lk_X3_33 mf_X3_day (by decide) (Nat.le_of_ble_eq_true rfl) ⟨_, _, _, rfl, rfl, rfl⟩ ?_
    rintro _ _ ⟨rfl, rfl⟩
    refine rRun hG 99999 ?_
    refine rIR hG rfl rfl (True.intro) ?_
    exact ⟨rfl, rfl⟩
set_option maxRecDepth 20000 in
set_option maxHeartbeats 4000000 in
theorem sp_X3_remember {uo : UD} {ux : XD} {ua ub : TD} {mo : FN} {kn kp : Int} {v1 v2 : SD} {up uq : PD} {ur : HD}  (h1 : 0 ≤ kn ∧ kn ≤ 10) : SpV l 1 yX3_remember cX3_remember 1 none [mr 11] (hC uo ux ua ub (mo, kn, kp) v1 v2 up uq ur) (fun h => h = hC uo ux ua ub (mcpy mo mo 0 9 90, min 10 (kn + 1), kp) v1 v2 up uq ur) := by
  refine SpV.of (cd := kdX3_remember) (fT := mlook flX3) (kT := mlook klX3) (kJ := mlook jlX3) mfA_X3_remember ok_X3_remember fT_X3 kT_X3 jT_X3 jdk_ok True.intro (Nat.le_of_ble_eq_true rfl) (fun G hG => ?_)
  refine rRun hG 99999 ?_
  refine And.intro rfl (And.intro rfl (?_))
  refine rCpy hG rfl rfl lk_X3_23 (by decide) (Nat.le_of_ble_eq_true rfl) rfl rfl (by decide) ?_
  refine rRun hG 99999 ?_
  refine And.intro rfl (?_)
  refine rMin hG rfl rfl lk_X3_68 (by decide) (Nat.le_of_ble_eq_true rfl) (by first | omega | (dsimp only; omega)) ?_
  refine rRun hG 99999 ?_
  refine And.intro ⟨rfl, by exact Nat.le_of_ble_eq_true rfl, by exact True.intro⟩ (?_)
  refine rVR hG rfl rfl rfl ?_
  rfl
set_option maxRecDepth 20000 in
set_option maxHeartbeats 4000000 in
theorem sp_X3_setHarm {uo : UD} {ux : XD} {ua ub : TD} {mo : FN} {kn kp : Int} {v1 v2 : SD} {up uq : PD} {ur : HD} {i w : Int} (h1 : inI i) : SpV l 1 yX3_setHarm cX3_setHarm 3 none [mr 11, mi i, mi w] (hC uo ux ua ub (mo, kn, kp) v1 v2 up uq ur) (fun h => h = hC uo ux ua ub (if 0 ≤ i ∧ i < 4 then mup mo (5 + i).toNat w else mo, kn, kp) v1 v2 up uq ur) := by
  refine SpV.of (cd := kdX3_setHarm) (fT := mlook flX3) (kT := mlook klX3) (kJ := mlook jlX3) mfA_X3_setHarm ok_X3_setHarm fT_X3 kT_X3 jT_X3 jdk_ok True.intro (Nat.le_of_ble_eq_true rfl) (fun G hG => ?_)
  refine rRun hG 99999 ?_
  refine And.intro (by first | omega | (dsimp only; omega)) (And.intro (fun c1 => ?_) (fun c1 => ?_))
  · try dsimp only at c1
    refine rVR hG rfl rfl rfl ?_
    first | (rw [if_pos (by omega)]; rfl) | (rw [if_neg (by omega)])
  · try dsimp only at c1
    refine And.intro (by first | omega | (dsimp only; omega)) (And.intro (fun c2 => ?_) (fun c2 => ?_))
    · try dsimp only at c2
      refine rVR hG rfl rfl rfl ?_
      first | (rw [if_pos (by omega)]; rfl) | (rw [if_neg (by omega)])
    · try dsimp only at c2
      refine And.intro rfl (And.intro (by first | omega | (dsimp only; omega)) (?_))
      refine rVR hG rfl rfl rfl ?_
      first | (rw [if_pos (by omega)]; rfl) | (rw [if_neg (by omega)])
def chkR (mo : FN) (lim : Int) : Int := if max (mo 2) (-(mo 2)) ≤ lim then 1 else 2
def chkM (mo : FN) (lim add : Int) : FN := if max (mo 2) (-(mo 2)) ≤ lim then mo else mup (mup (mup mo 4 (mo 4 + 1)) 2 0) 1 (min 99 (mo 1 + add))
def drw (day z : Int) : Int := (7919 * z + 6151 * day + 1) * (7919 * z + 6151 * day + 1) % 65521 / 8 % 10
set_option maxRecDepth 20000 in
set_option maxHeartbeats 4000000 in
theorem sp_X3_check {uo : UD} {ux : XD} {ua ub : TD} {mo : FN} {kn kp : Int} {v1 v2 : SD} {up uq : PD} {ur : HD} {k : Bool} {t : TD} (ht : t = tsel k ua ub)  (h1 : -100 ≤ mo 2 ∧ mo 2 ≤ 100) (h2 : inI (tLim t)) (h3 : 0 ≤ mo 1 ∧ mo 1 ≤ 1000) (h4 : 0 ≤ tAdd t ∧ tAdd t ≤ 1000) : SpI l 2 yX3_check cX3_check 2 (some .int) [mr 11, mr (tix k)] (hC uo ux ua ub (mo, kn, kp) v1 v2 up uq ur) (fun z h => z = chkR mo (tLim t) ∧ h = hC uo ux ua ub (chkM mo (tLim t) (tAdd t), kn, kp) v1 v2 up uq ur) := by
  cases k
  · obtain rfl : t = ua := ht
    refine SpI.of (cd := kdX3_check) (fT := mlook flX3) (kT := mlook klX3) (kJ := mlook jlX3) mfA_X3_check ok_X3_check fT_X3 kT_X3 jT_X3 jdk_ok True.intro (Nat.le_of_ble_eq_true rfl) (fun G hG => ?_)
    refine rRun hG 99999 ?_
    refine rV hG (sp_X3_error (uo := uo) (ux := ux) (ua := t) (ub := ub) (v1 := v1) (v2 := v2) (up := up) (uq := uq) (ur := ur) (mo := mo) (kn := kn) (kp := kp)) rfl rfl lk_X3_74 mf_X3_error (by decide) (Nat.le_of_ble_eq_true rfl) ⟨_, _, _, rfl, rfl, rfl⟩ ?_
    rintro _ _ ⟨rfl, rfl⟩
    refine rAbs hG rfl rfl lk_X3_104 (by decide) (Nat.le_of_ble_eq_true rfl) (by first | omega | (dsimp only; omega)) ?_
    refine rRun hG 99999 ?_
    refine And.intro rfl (And.intro (by first | omega | (dsimp only; omega)) (And.intro (fun c2 => ?_) (fun c2 => ?_)))
    · try dsimp only at c2
      refine rRun hG 99999 ?_
      refine And.intro rfl (And.intro (by decide) (And.intro (by decide) (And.intro rfl (And.intro (by decide) (And.intro rfl (?_))))))
      refine rV hG (sp_X3_rest (uo := uo) (ux := ux) (ua := t) (ub := ub) (v1 := v1) (v2 := v2) (up := up) (uq := uq) (ur := ur) (mo := mup (mup mo 4 (mo 4 + 1)) 2 0) (kn := kn) (kp := kp)) rfl rfl lk_X3_42 mf_X3_rest (by decide) (Nat.le_of_ble_eq_true rfl) ⟨_, _, _, rfl, rfl, rfl⟩ ?_
      rintro z _ ⟨hz, rfl⟩
      rw [mup_n (by decide), mup_n (by decide)] at hz
      subst hz
      refine rRun hG 99999 ?_
      refine And.intro rfl (?_)
      refine rMin hG rfl rfl lk_X3_68 (by decide) (Nat.le_of_ble_eq_true rfl) (by first | omega | (dsimp only; omega)) ?_
      refine rRun hG 99999 ?_
      refine And.intro (by decide) (?_)
      refine rIR hG rfl rfl (True.intro) ?_
      refine ⟨(if_neg (by omega)).symm, ?_⟩
      rw [chkM, if_neg (by omega)]
      rfl
    · try dsimp only at c2
      refine rIR hG rfl rfl (True.intro) ?_
      refine ⟨(if_pos (by omega)).symm, ?_⟩
      rw [chkM, if_pos (by omega)]
  · obtain rfl : t = ub := ht
    refine SpI.of (cd := kdX3_check) (fT := mlook flX3) (kT := mlook klX3) (kJ := mlook jlX3) mfA_X3_check ok_X3_check fT_X3 kT_X3 jT_X3 jdk_ok True.intro (Nat.le_of_ble_eq_true rfl) (fun G hG => ?_)
    refine rRun hG 99999 ?_
    refine rV hG (sp_X3_error (uo := uo) (ux := ux) (ua := ua) (ub := t) (v1 := v1) (v2 := v2) (up := up) (uq := uq) (ur := ur) (mo := mo) (kn := kn) (kp := kp)) rfl rfl lk_X3_74 mf_X3_error (by decide) (Nat.le_of_ble_eq_true rfl) ⟨_, _, _, rfl, rfl, rfl⟩ ?_
    rintro _ _ ⟨rfl, rfl⟩
    refine rAbs hG rfl rfl lk_X3_104 (by decide) (Nat.le_of_ble_eq_true rfl) (by first | omega | (dsimp only; omega)) ?_
    refine rRun hG 99999 ?_
    refine And.intro rfl (And.intro (by first | omega | (dsimp only; omega)) (And.intro (fun c2 => ?_) (fun c2 => ?_)))
    · try dsimp only at c2
      refine rRun hG 99999 ?_
      refine And.intro rfl (And.intro (by decide) (And.intro (by decide) (And.intro rfl (And.intro (by decide) (And.intro rfl (?_))))))
      refine rV hG (sp_X3_rest (uo := uo) (ux := ux) (ua := ua) (ub := t) (v1 := v1) (v2 := v2) (up := up) (uq := uq) (ur := ur) (mo := mup (mup mo 4 (mo 4 + 1)) 2 0) (kn := kn) (kp := kp)) rfl rfl lk_X3_42 mf_X3_rest (by decide) (Nat.le_of_ble_eq_true rfl) ⟨_, _, _, rfl, rfl, rfl⟩ ?_
      rintro z _ ⟨hz, rfl⟩
      rw [mup_n (by decide), mup_n (by decide)] at hz
      subst hz
      refine rRun hG 99999 ?_
      refine And.intro rfl (?_)
      refine rMin hG rfl rfl lk_X3_68 (by decide) (Nat.le_of_ble_eq_true rfl) (by first | omega | (dsimp only; omega)) ?_
      refine rRun hG 99999 ?_
      refine And.intro (by decide) (?_)
      refine rIR hG rfl rfl (True.intro) ?_
      refine ⟨(if_neg (by omega)).symm, ?_⟩
      rw [chkM, if_neg (by omega)]
      rfl
    · try dsimp only at c2
      refine rIR hG rfl rfl (True.intro) ?_
      refine ⟨(if_pos (by omega)).symm, ?_⟩
      rw [chkM, if_pos (by omega)]
set_option maxRecDepth 20000 in
set_option maxHeartbeats 4000000 in
theorem sp_X3_watch {uo : UD} {ux : XD} {ua ub : TD} {mo : FN} {kn kp : Int} {v1 v2 : SD} {up uq : PD} {ur : HD} {k : Bool} {t : TD} (ht : t = tsel k ua ub)  (h0 : 0 ≤ kn ∧ kn ≤ 10) (h1 : -100 ≤ mo 2 ∧ mo 2 ≤ 100) (h2 : inI (tLim t)) (h3 : 0 ≤ mo 1 ∧ mo 1 ≤ 1000) (h4 : 0 ≤ tAdd t ∧ tAdd t ≤ 1000) : SpI l 3 yX3_watch cX3_watch 2 (some .int) [mr 11, mr (tix k)] (hC uo ux ua ub (mo, kn, kp) v1 v2 up uq ur) (fun z h => z = chkR (mcpy mo mo 0 9 90) (tLim t) ∧ h = hC uo ux ua ub (chkM (mcpy mo mo 0 9 90) (tLim t) (tAdd t), min 10 (kn + 1), kp) v1 v2 up uq ur) := by
  cases k
  · obtain rfl : t = ua := ht
    refine SpI.of (cd := kdX3_watch) (fT := mlook flX3) (kT := mlook klX3) (kJ := mlook jlX3) mfA_X3_watch ok_X3_watch fT_X3 kT_X3 jT_X3 jdk_ok True.intro (Nat.le_of_ble_eq_true rfl) (fun G hG => ?_)
    refine rRun hG 99999 ?_
    refine rVV hG (sp_X3_remember (uo := uo) (ux := ux) (ua := t) (ub := ub) (v1 := v1) (v2 := v2) (up := up) (uq := uq) (ur := ur) (mo := mo) (kn := kn) (kp := kp) h0) rfl rfl lk_X3_53 mf_X3_remember (by decide) (Nat.le_of_ble_eq_true rfl) ⟨_, _, _, rfl, rfl, rfl⟩ ?_
    rintro _ rfl
    refine rRun hG 99999 ?_
    refine rV hG (sp_X3_check (uo := uo) (ux := ux) (ua := t) (ub := ub) (v1 := v1) (v2 := v2) (up := up) (uq := uq) (ur := ur) (mo := mcpy mo mo 0 9 90) (kn := min 10 (kn + 1)) (kp := kp) (k := false) (t := t) (ht := rfl) h1 h2 h3 h4) rfl rfl lk_X3_90 mf_X3_check (by decide) (Nat.le_of_ble_eq_true rfl) ⟨_, _, _, rfl, rfl, rfl⟩ ?_
    rintro _ _ ⟨rfl, rfl⟩
    refine rIR hG rfl rfl (True.intro) ?_
    exact ⟨rfl, rfl⟩
  · obtain rfl : t = ub := ht
    refine SpI.of (cd := kdX3_watch) (fT := mlook flX3) (kT := mlook klX3) (kJ := mlook jlX3) mfA_X3_watch ok_X3_watch fT_X3 kT_X3 jT_X3 jdk_ok True.intro (Nat.le_of_ble_eq_true rfl) (fun G hG => ?_)
    refine rRun hG 99999 ?_
    refine rVV hG (sp_X3_remember (uo := uo) (ux := ux) (ua := ua) (ub := t) (v1 := v1) (v2 := v2) (up := up) (uq := uq) (ur := ur) (mo := mo) (kn := kn) (kp := kp) h0) rfl rfl lk_X3_53 mf_X3_remember (by decide) (Nat.le_of_ble_eq_true rfl) ⟨_, _, _, rfl, rfl, rfl⟩ ?_
    rintro _ rfl
    refine rRun hG 99999 ?_
    refine rV hG (sp_X3_check (uo := uo) (ux := ux) (ua := ua) (ub := t) (v1 := v1) (v2 := v2) (up := up) (uq := uq) (ur := ur) (mo := mcpy mo mo 0 9 90) (kn := min 10 (kn + 1)) (kp := kp) (k := true) (t := t) (ht := rfl) h1 h2 h3 h4) rfl rfl lk_X3_90 mf_X3_check (by decide) (Nat.le_of_ble_eq_true rfl) ⟨_, _, _, rfl, rfl, rfl⟩ ?_
    rintro _ _ ⟨rfl, rfl⟩
    refine rIR hG rfl rfl (True.intro) ?_
    exact ⟨rfl, rfl⟩
set_option maxRecDepth 20000 in
set_option maxHeartbeats 4000000 in
theorem sp_X3_pay {uo : UD} {ux : XD} {ua ub : TD} {mo : FN} {kn kp : Int} {v1 v2 : SD} {up uq : PD} {ur : HD} {i w : Int} (h0 : 0 ≤ kn ∧ kn ≤ 10) (h1 : 0 ≤ i ∧ i < 4) (h2 : 0 ≤ mo (5 + i).toNat ∧ mo (5 + i).toNat ≤ 9999) (h3 : 0 ≤ w ∧ w ≤ 999) : SpI l 2 yX3_pay cX3_pay 3 (some .int) [mr 11, mi i, mi w] (hC uo ux ua ub (mo, kn, kp) v1 v2 up uq ur) (fun z h => z = max 0 (mo (5 + i).toNat - w) ∧ h = hC uo ux ua ub (mup (mup (mcpy mo mo 0 9 90) 3 (mo 3 - w)) (5 + i).toNat (max 0 (mo (5 + i).toNat - w)), min 10 (kn + 1), kp) v1 v2 up uq ur) := by
  refine SpI.of (cd := kdX3_pay) (fT := mlook flX3) (kT := mlook klX3) (kJ := mlook jlX3) mfA_X3_pay ok_X3_pay fT_X3 kT_X3 jT_X3 jdk_ok True.intro (Nat.le_of_ble_eq_true rfl) (fun G hG => ?_)
  refine rRun hG 99999 ?_
  refine rVV hG (sp_X3_remember (uo := uo) (ux := ux) (ua := ua) (ub := ub) (v1 := v1) (v2 := v2) (up := up) (uq := uq) (ur := ur) (mo := mo) (kn := kn) (kp := kp) h0) rfl rfl lk_X3_53 mf_X3_remember (by decide) (Nat.le_of_ble_eq_true rfl) ⟨_, _, _, rfl, rfl, rfl⟩ ?_
  rintro _ rfl
  refine rRun hG 99999 ?_
  refine And.intro rfl (And.intro (by decide) (And.intro (by decide) (?_)))
  refine rV hG (sp_X3_harmOf (uo := uo) (ux := ux) (ua := ua) (ub := ub) (v1 := v1) (v2 := v2) (up := up) (uq := uq) (ur := ur) (mo := mup (mcpy mo mo 0 9 90) 3 (mo 3 - w)) (kn := min 10 (kn + 1)) (kp := kp) (i := i) (by omega)) rfl rfl lk_X3_29 mf_X3_harmOf (by decide) (Nat.le_of_ble_eq_true rfl) ⟨_, _, _, rfl, rfl, rfl⟩ ?_
  rintro z _ ⟨hz, rfl⟩
  rw [if_pos (by omega), mup_n (by omega)] at hz
  have e9 : mcpy mo mo 0 9 90 (5 + i).toNat = mo (5 + i).toNat := if_neg (by omega)
  rw [e9] at hz
  subst hz
  refine rRun hG 99999 ?_
  refine rMax hG rfl rfl lk_X3_56 (by decide) (Nat.le_of_ble_eq_true rfl) (by first | omega | (dsimp only; omega)) ?_
  refine rVV hG (sp_X3_setHarm (uo := uo) (ux := ux) (ua := ua) (ub := ub) (v1 := v1) (v2 := v2) (up := up) (uq := uq) (ur := ur) (mo := mup (mcpy mo mo 0 9 90) 3 (mo 3 - w)) (kn := min 10 (kn + 1)) (kp := kp) (i := i) (w := max 0 (mo (5 + i).toNat - w)) (by omega)) rfl rfl lk_X3_80 mf_X3_setHarm (by decide) (Nat.le_of_ble_eq_true rfl) ⟨_, _, _, rfl, rfl, rfl⟩ ?_
  rintro _ rfl
  rw [if_pos (by omega)]
  refine rRun hG 99999 ?_
  refine rV hG (sp_X3_harmOf (uo := uo) (ux := ux) (ua := ua) (ub := ub) (v1 := v1) (v2 := v2) (up := up) (uq := uq) (ur := ur) (mo := mup (mup (mcpy mo mo 0 9 90) 3 (mo 3 - w)) (5 + i).toNat (max 0 (mo (5 + i).toNat - w))) (kn := min 10 (kn + 1)) (kp := kp) (i := i) (by omega)) rfl rfl lk_X3_29 mf_X3_harmOf (by decide) (Nat.le_of_ble_eq_true rfl) ⟨_, _, _, rfl, rfl, rfl⟩ ?_
  rintro z _ ⟨hz, rfl⟩
  rw [if_pos (by omega), mup_s] at hz
  subst hz
  refine rIR hG rfl rfl (True.intro) ?_
  exact ⟨rfl, rfl⟩
set_option maxRecDepth 20000 in
set_option maxHeartbeats 4000000 in
theorem sp_X3_correct {uo : UD} {ux : XD} {ua ub : TD} {mo : FN} {kn kp : Int} {v1 v2 : SD} {up uq : PD} {ur : HD} {w : Int} (h0 : 0 ≤ kn ∧ kn ≤ 10) : SpI l 2 yX3_correct cX3_correct 2 (some .int) [mr 11, mi w] (hC uo ux ua ub (mo, kn, kp) v1 v2 up uq ur) (fun z h => z = mo 2 + w ∧ h = hC uo ux ua ub (mup (mcpy mo mo 0 9 90) 2 (mo 2 + w), min 10 (kn + 1), kp) v1 v2 up uq ur) := by
  refine SpI.of (cd := kdX3_correct) (fT := mlook flX3) (kT := mlook klX3) (kJ := mlook jlX3) mfA_X3_correct ok_X3_correct fT_X3 kT_X3 jT_X3 jdk_ok True.intro (Nat.le_of_ble_eq_true rfl) (fun G hG => ?_)
  refine rRun hG 99999 ?_
  refine rVV hG (sp_X3_remember (uo := uo) (ux := ux) (ua := ua) (ub := ub) (v1 := v1) (v2 := v2) (up := up) (uq := uq) (ur := ur) (mo := mo) (kn := kn) (kp := kp) h0) rfl rfl lk_X3_53 mf_X3_remember (by decide) (Nat.le_of_ble_eq_true rfl) ⟨_, _, _, rfl, rfl, rfl⟩ ?_
  rintro _ rfl
  refine rRun hG 99999 ?_
  refine And.intro rfl (And.intro (by decide) (And.intro (by decide) (?_)))
  refine rV hG (sp_X3_error (uo := uo) (ux := ux) (ua := ua) (ub := ub) (v1 := v1) (v2 := v2) (up := up) (uq := uq) (ur := ur) (mo := mup (mcpy mo mo 0 9 90) 2 (mo 2 + w)) (kn := min 10 (kn + 1)) (kp := kp)) rfl rfl lk_X3_74 mf_X3_error (by decide) (Nat.le_of_ble_eq_true rfl) ⟨_, _, _, rfl, rfl, rfl⟩ ?_
  rintro _ _ ⟨rfl, rfl⟩
  refine rIR hG rfl rfl (True.intro) ?_
  exact ⟨rfl, rfl⟩
set_option maxRecDepth 20000 in
set_option maxHeartbeats 4000000 in
theorem sp_X3_recall {uo : UD} {ux : XD} {ua ub : TD} {mo : FN} {kn kp : Int} {v1 v2 : SD} {up uq : PD} {ur : HD}  (h0 : 0 ≤ kn ∧ kn ≤ 10) : SpI l 1 yX3_recall cX3_recall 1 (some .boolean) [mr 11] (hC uo ux ua ub (mo, kn, kp) v1 v2 up uq ur) (fun z h => z = (if 0 < kn then 1 else 0) ∧ h = hC uo ux ua ub (if 0 < kn then mcpy mo mo 9 0 90 else mo, if 0 < kn then kn - 1 else kn, kp) v1 v2 up uq ur) := by
  refine SpI.of (cd := kdX3_recall) (fT := mlook flX3) (kT := mlook klX3) (kJ := mlook jlX3) mfA_X3_recall ok_X3_recall fT_X3 kT_X3 jT_X3 jdk_ok True.intro (Nat.le_of_ble_eq_true rfl) (fun G hG => ?_)
  refine rRun hG 99999 ?_
  refine And.intro rfl (And.intro (by first | omega | (dsimp only; omega)) (And.intro (fun c1 => ?_) (fun c1 => ?_)))
  · try dsimp only at c1
    refine rRun hG 99999 ?_
    refine And.intro rfl (And.intro rfl (?_))
    refine rCpy hG rfl rfl lk_X3_23 (by decide) (Nat.le_of_ble_eq_true rfl) rfl rfl (by decide) ?_
    refine rRun hG 99999 ?_
    refine And.intro rfl (And.intro ⟨rfl, by exact Nat.le_of_ble_eq_true rfl, by exact True.intro⟩ (?_))
    refine rIR hG rfl rfl (by first | exact Or.inl rfl | exact Or.inr rfl | (show _ ∨ _; omega)) ?_
    first | (rw [if_pos (by omega), if_pos (by omega), if_pos (by omega)]; exact ⟨rfl, rfl⟩) | (rw [if_neg (by omega), if_neg (by omega), if_neg (by omega)]; exact ⟨rfl, rfl⟩)
  · try dsimp only at c1
    refine rIR hG rfl rfl (by first | exact Or.inl rfl | exact Or.inr rfl | (show _ ∨ _; omega)) ?_
    first | (rw [if_pos (by omega), if_pos (by omega), if_pos (by omega)]; exact ⟨rfl, rfl⟩) | (rw [if_neg (by omega), if_neg (by omega), if_neg (by omega)]; exact ⟨rfl, rfl⟩)
theorem drw_in {day z : Int} (h1 : 0 ≤ day ∧ day ≤ 14) (h2 : 0 ≤ z ∧ z ≤ 9999) : 0 ≤ drw day z ∧ drw day z ≤ 9 := by
  unfold drw; omega
theorem drw_inI {day z : Int} (h1 : 0 ≤ day ∧ day ≤ 14) (h2 : 0 ≤ z ∧ z ≤ 9999) : inI (drw day z) := by
  have := drw_in h1 h2
  exact ⟨by omega, by omega⟩
theorem drw_sq {day z : Int} (h1 : 0 ≤ day ∧ day ≤ 14) (h2 : 0 ≤ z ∧ z ≤ 9999) : 0 ≤ (7919 * z + 6151 * day + 1) * (7919 * z + 6151 * day + 1) ∧ (7919 * z + 6151 * day + 1) * (7919 * z + 6151 * day + 1) < 9223372036854775808 := by
  have a : 0 ≤ 7919 * z + 6151 * day + 1 := by omega
  have b : 7919 * z + 6151 * day + 1 ≤ 80000000 := by omega
  have c := Int.mul_le_mul b b a (by omega)
  exact ⟨Int.mul_nonneg a a, by omega⟩
def hrmM (tr : FN) (e : Int) (m : FN) : Nat → FN
  | 0 => m
  | i + 1 => mup (hrmM tr e m i) (5 + i) (min 9999 (hrmM tr e m i (5 + i) + hrm1 tr e i))
theorem hrmM_lo {tr : FN} {e : Int} {m : FN} : ∀ {i j : Nat}, (j < 5 ∨ 5 + i ≤ j) → hrmM tr e m i j = m j
  | 0, _, _ => rfl
  | i + 1, j, h => by
    show mup (hrmM tr e m i) (5 + i) _ j = m j
    rw [mup_n (by omega)]
    exact hrmM_lo (by omega)
/-- what a turned day leaves ahead of the check -/
def trnM (br tr : FN) (nb nt : Nat) (pace : Int) (mo : FN) : FN :=
  hrmM tr (mo 2 + pace) (mup (mup (mup (mcpy mo mo 0 9 90) 2 (mo 2 + pace)) 1 (max 0 (mo 1 - 4 - pace))) 3 (min 999 (mo 3 + cndl br (mo 0) pace nb))) nt
def trnR (t : TD) (pace z : Int) (mo : FN) : Int := if drw (mo 0) z < tSun t (mo 0).toNat then chkR (trnM (tBri t) (tTra t) (tNB t).toNat (tNT t).toNat pace mo) (tLim t) else 0
def trnC (t : TD) (pace z : Int) (mo : FN) : FN := if drw (mo 0) z < tSun t (mo 0).toNat then chkM (trnM (tBri t) (tTra t) (tNB t).toNat (tNT t).toNat pace mo) (tLim t) (tAdd t) else trnM (tBri t) (tTra t) (tNB t).toNat (tNT t).toNat pace mo
set_option maxRecDepth 20000 in
set_option maxHeartbeats 4000000 in
theorem sp_X3_draw {uo : UD} {ux : XD} {ua ub : TD} {mo : FN} {kn kp : Int} {v1 v2 : SD} {up uq : PD} {ur : HD} {day z : Int} (h1 : 0 ≤ day ∧ day ≤ 14) (h2 : 0 ≤ z ∧ z ≤ 9999) : SpI l 1 yX3_draw cX3_draw 4 (some .int) [mi day, mi z] (hC uo ux ua ub (mo, kn, kp) v1 v2 up uq ur) (fun w h => w = drw day z ∧ h = hC uo ux ua ub (mo, kn, kp) v1 v2 up uq ur) := by
  have h9 := drw_sq h1 h2
  refine SpI.of (cd := kdX3_draw) (fT := mlook flX3) (kT := mlook klX3) (kJ := mlook jlX3) mfA_X3_draw ok_X3_draw fT_X3 kT_X3 jT_X3 jdk_ok True.intro (Nat.le_of_ble_eq_true rfl) (fun G hG => ?_)
  refine rRun hG 99999 ?_
  refine And.intro (by first | omega | (dsimp only; omega)) (And.intro (by first | omega | (dsimp only; omega)) (And.intro (by exact ⟨h9, by decide, by decide⟩) (And.intro (by exact ⟨(by omega : 0 ≤ (7919 * z + 6151 * day + 1) * (7919 * z + 6151 * day + 1) % 65521 ∧ (7919 * z + 6151 * day + 1) * (7919 * z + 6151 * day + 1) % 65521 < 9223372036854775808), by decide, by decide⟩) (And.intro (by exact ⟨(by omega : 0 ≤ (7919 * z + 6151 * day + 1) * (7919 * z + 6151 * day + 1) % 65521 / 8 ∧ (7919 * z + 6151 * day + 1) * (7919 * z + 6151 * day + 1) % 65521 / 8 < 9223372036854775808), by decide, by decide⟩) (And.intro (by exact drw_inI h1 h2) (?_))))))
  refine rIR hG rfl rfl (True.intro) ?_
  exact ⟨rfl, rfl⟩
end WALKS
