/-! the class itself: days turned, plans, odds, hearsay, marks, images, the sentence -/
section WALKS
variable {l : Launch}
set_option maxRecDepth 20000 in
set_option maxHeartbeats 1500000 in
theorem sp_X6_winds {k : Bool} {asked : Int} {ux : XD} {ua ub : TD} {mo : FN} {kn kp : Int} {v1 v2 : SD} {up uq : PD} {ur : HD} {t : TD} (ht : t = tsel k ua ub) {pace z : Int} (hp : inI pace) (hz : inI z) (hT : TOK t) (hMo : MOK mo) (h0 : 0 ≤ kn ∧ kn ≤ 10) (hd : mo 0 ≤ tDay t) : SpI l 6 yX6_winds cX6_winds 3 (some .int) [mr 0, mi pace, mi z] (hC (k, asked) ux ua ub (mo, kn, kp) v1 v2 up uq ur) (fun w h => (¬ (-2 ≤ pace ∧ pace ≤ 3 ∧ 0 ≤ z ∧ z ≤ 9999) ∧ w = -1 ∧ h = hC (k, asked) ux ua ub (mo, kn, kp) v1 v2 up uq ur) ∨ ((-2 ≤ pace ∧ pace ≤ 3 ∧ 0 ≤ z ∧ z ≤ 9999) ∧ (tDay t ≤ mo 0 ∨ mo 1 = 0 ∨ mo 2 + pace < -9 ∨ 9 < mo 2 + pace) ∧ w = -2 ∧ h = hC (k, asked) ux ua ub (mo, kn, kp) v1 v2 up uq ur) ∨ ((-2 ≤ pace ∧ pace ≤ 3 ∧ 0 ≤ z ∧ z ≤ 9999) ∧ ¬ (tDay t ≤ mo 0 ∨ mo 1 = 0 ∨ mo 2 + pace < -9 ∨ 9 < mo 2 + pace) ∧ w = trnR t pace z mo ∧ h = hC (k, asked) ux ua ub (mup (trnC t pace z mo) 0 (mo 0 + 1), min 10 (kn + 1), kp) v1 v2 up uq ur)) := by
  have hT1 := hT.1
  have hT3 := hT.2.2.1
  have hT5 := hT.2.2.2.2.1
  have hT6 := hT.2.2.2.2.2.1
  have hm0 := hMo.1
  have hm1 := hMo.2.1
  have hm2 := hMo.2.2.1
  have hm3 := hMo.2.2.2.1
  refine SpI.of (cd := kdX6_winds) (fT := mlook flX6) (kT := mlook klX6) (kJ := mlook jlX6) mfA_X6_winds ok_X6_winds fT_X6 kT_X6 jT_X6 jdk_ok True.intro (Nat.le_of_ble_eq_true rfl) (fun G hG => ?_)
  refine rRun hG 99999 ?_
  refine rS hG (sp_X6_isPace (e := pace) hp) rfl rfl lk_X6_111 mf_X6_isPace (by decide) (Nat.le_of_ble_eq_true rfl) ?_
  rintro w1 _ ⟨hw1, rfl⟩
  have w11 : (w1 = 1 ∧ (-2 ≤ pace ∧ pace ≤ 3)) ∨ (w1 = 0 ∧ ¬ (-2 ≤ pace ∧ pace ≤ 3)) := (by rw [hw1]; by_cases q9 : (-2 ≤ pace ∧ pace ≤ 3) <;> simp [q9])
  clear hw1
  refine rRun hG 99999 ?_
  refine And.intro (by first | omega | (dsimp only; omega)) (And.intro (fun c2 => ?_) (fun c2 => ?_))
  · try dsimp only at c2
    refine rRun hG 99999 ?_
    refine rIR hG rfl rfl (True.intro) ?_
    exact Or.inl ⟨by omega, rfl, rfl⟩
  · try dsimp only at c2
    refine And.intro (by first | omega | (dsimp only; omega)) (And.intro (fun c3 => ?_) (fun c3 => ?_))
    · try dsimp only at c3
      refine rRun hG 99999 ?_
      refine rIR hG rfl rfl (True.intro) ?_
      exact Or.inl ⟨by omega, rfl, rfl⟩
    · try dsimp only at c3
      refine And.intro (by first | omega | (dsimp only; omega)) (And.intro (fun c4 => ?_) (fun c4 => ?_))
      · try dsimp only at c4
        refine rRun hG 99999 ?_
        refine And.intro rfl (And.intro rfl (?_))
        refine rV hG (sp_X3_isEnded (uo := (k, asked)) (ux := ux) (ua := ua) (ub := ub) (mo := mo) (kn := kn) (kp := kp) (v1 := v1) (v2 := v2) (up := up) (uq := uq) (ur := ur) (k := k) (t := t) ht (by omega) (by omega) (by omega)) rfl rfl lk_X6_114 mf_X3_isEnded (by decide) (Nat.le_of_ble_eq_true rfl) ⟨_, _, _, rfl, rfl, rfl⟩ ?_
        rintro w2 _ ⟨hw2, rfl⟩
        have w21 : (w2 = 1 ∧ (tDay t ≤ mo 0 ∨ mo 1 = 0)) ∨ (w2 = 0 ∧ ¬ (tDay t ≤ mo 0 ∨ mo 1 = 0)) := (by rw [hw2]; by_cases q9 : (tDay t ≤ mo 0 ∨ mo 1 = 0) <;> simp [q9])
        clear hw2
        refine rRun hG 99999 ?_
        refine And.intro (by first | omega | (dsimp only; omega)) (And.intro (fun c6 => ?_) (fun c6 => ?_))
        · try dsimp only at c6
          refine rRun hG 99999 ?_
          refine rIR hG rfl rfl (True.intro) ?_
          exact Or.inr (Or.inl ⟨by omega, by omega, rfl, rfl⟩)
        · try dsimp only at c6
          refine And.intro rfl (?_)
          refine rV hG (sp_X3_error (uo := (k, asked)) (ux := ux) (ua := ua) (ub := ub) (mo := mo) (kn := kn) (kp := kp) (v1 := v1) (v2 := v2) (up := up) (uq := uq) (ur := ur)) rfl rfl lk_X6_118 mf_X3_error (by decide) (Nat.le_of_ble_eq_true rfl) ⟨_, _, _, rfl, rfl, rfl⟩ ?_
          rintro _ _ ⟨rfl, rfl⟩
          refine rRun hG 99999 ?_
          refine rS hG (sp_X6_isBeyond (e := mo 2 + pace) (by omega)) rfl rfl lk_X6_122 mf_X6_isBeyond (by decide) (Nat.le_of_ble_eq_true rfl) ?_
          rintro w3 _ ⟨hw3, rfl⟩
          have w31 : (w3 = 1 ∧ (mo 2 + pace < -9 ∨ 9 < mo 2 + pace)) ∨ (w3 = 0 ∧ ¬ (mo 2 + pace < -9 ∨ 9 < mo 2 + pace)) := (by rw [hw3]; by_cases q9 : (mo 2 + pace < -9 ∨ 9 < mo 2 + pace) <;> simp [q9])
          clear hw3
          refine rRun hG 99999 ?_
          refine And.intro (by first | omega | (dsimp only; omega)) (And.intro (fun c9 => ?_) (fun c9 => ?_))
          · try dsimp only at c9
            refine rRun hG 99999 ?_
            refine And.intro rfl (And.intro rfl (?_))
            refine rV hG (sp_X3_turn (uo := (k, asked)) (ux := ux) (ua := ua) (ub := ub) (mo := mo) (kn := kn) (kp := kp) (v1 := v1) (v2 := v2) (up := up) (uq := uq) (ur := ur) (k := k) (t := t) ht (pace := pace) (z := z) hT hMo h0 (by omega) (by omega) (by omega) (by omega)) rfl rfl lk_X6_125 mf_X3_turn (by decide) (Nat.le_of_ble_eq_true rfl) ⟨_, _, _, rfl, rfl, rfl⟩ ?_
            rintro _ _ ⟨rfl, rfl⟩
            refine rIR hG rfl rfl (True.intro) ?_
            exact Or.inr (Or.inr ⟨by omega, by omega, rfl, rfl⟩)
          · try dsimp only at c9
            refine rIR hG rfl rfl (True.intro) ?_
            exact Or.inr (Or.inl ⟨by omega, by omega, rfl, rfl⟩)
      · try dsimp only at c4
        refine rIR hG rfl rfl (True.intro) ?_
        exact Or.inl ⟨by omega, rfl, rfl⟩
set_option maxRecDepth 20000 in
set_option maxHeartbeats 1500000 in
theorem sp_X6_watches {k : Bool} {asked : Int} {ux : XD} {ua ub : TD} {mo : FN} {kn kp : Int} {v1 v2 : SD} {up uq : PD} {ur : HD} {t : TD} (ht : t = tsel k ua ub)  (hT : TOK t) (hMo : MOK mo) (h0 : 0 ≤ kn ∧ kn ≤ 10) (hd : mo 0 ≤ tDay t) : SpI l 5 yX6_watches cX6_watches 1 (some .int) [mr 0] (hC (k, asked) ux ua ub (mo, kn, kp) v1 v2 up uq ur) (fun w h => ((tDay t ≤ mo 0 ∨ mo 1 = 0) ∧ w = -2 ∧ h = hC (k, asked) ux ua ub (mo, kn, kp) v1 v2 up uq ur) ∨ (¬ (tDay t ≤ mo 0 ∨ mo 1 = 0) ∧ w = chkR (mcpy mo mo 0 9 90) (tLim t) ∧ h = hC (k, asked) ux ua ub (chkM (mcpy mo mo 0 9 90) (tLim t) (tAdd t), min 10 (kn + 1), kp) v1 v2 up uq ur)) := by
  have hT1 := hT.1
  have hT3 := hT.2.2.1
  have hT5 := hT.2.2.2.2.1
  have hT6 := hT.2.2.2.2.2.1
  have hm0 := hMo.1
  have hm1 := hMo.2.1
  have hm2 := hMo.2.2.1
  have hm3 := hMo.2.2.2.1
  refine SpI.of (cd := kdX6_watches) (fT := mlook flX6) (kT := mlook klX6) (kJ := mlook jlX6) mfA_X6_watches ok_X6_watches fT_X6 kT_X6 jT_X6 jdk_ok True.intro (Nat.le_of_ble_eq_true rfl) (fun G hG => ?_)
  refine rRun hG 99999 ?_
  refine And.intro rfl (And.intro rfl (?_))
  refine rV hG (sp_X3_isEnded (uo := (k, asked)) (ux := ux) (ua := ua) (ub := ub) (mo := mo) (kn := kn) (kp := kp) (v1 := v1) (v2 := v2) (up := up) (uq := uq) (ur := ur) (k := k) (t := t) ht (by omega) (by omega) (by omega)) rfl rfl lk_X6_114 mf_X3_isEnded (by decide) (Nat.le_of_ble_eq_true rfl) ⟨_, _, _, rfl, rfl, rfl⟩ ?_
  rintro w2 _ ⟨hw2, rfl⟩
  have w21 : (w2 = 1 ∧ (tDay t ≤ mo 0 ∨ mo 1 = 0)) ∨ (w2 = 0 ∧ ¬ (tDay t ≤ mo 0 ∨ mo 1 = 0)) := (by rw [hw2]; by_cases q9 : (tDay t ≤ mo 0 ∨ mo 1 = 0) <;> simp [q9])
  clear hw2
  refine rRun hG 99999 ?_
  refine And.intro (by first | omega | (dsimp only; omega)) (And.intro (fun c2 => ?_) (fun c2 => ?_))
  · try dsimp only at c2
    refine rRun hG 99999 ?_
    refine And.intro rfl (And.intro rfl (?_))
    refine rV hG (sp_X3_watch (uo := (k, asked)) (ux := ux) (ua := ua) (ub := ub) (mo := mo) (kn := kn) (kp := kp) (v1 := v1) (v2 := v2) (up := up) (uq := uq) (ur := ur) (k := k) (t := t) ht h0 (by omega) (by omega) (by omega) (by omega)) rfl rfl lk_X6_129 mf_X3_watch (by decide) (Nat.le_of_ble_eq_true rfl) ⟨_, _, _, rfl, rfl, rfl⟩ ?_
    rintro _ _ ⟨rfl, rfl⟩
    refine rIR hG rfl rfl (True.intro) ?_
    first | exact Or.inl ⟨by omega, rfl, rfl⟩ | exact Or.inr ⟨by omega, rfl, rfl⟩
  · try dsimp only at c2
    refine rIR hG rfl rfl (True.intro) ?_
    first | exact Or.inl ⟨by omega, rfl, rfl⟩ | exact Or.inr ⟨by omega, rfl, rfl⟩
set_option maxRecDepth 20000 in
set_option maxHeartbeats 1500000 in
theorem sp_X6_pays {k : Bool} {asked : Int} {ux : XD} {ua ub : TD} {mo : FN} {kn kp : Int} {v1 v2 : SD} {up uq : PD} {ur : HD} {t : TD} (ht : t = tsel k ua ub) {i n : Int} (hi : inI i) (hn : inI n) (hT : TOK t) (hMo : MOK mo) (h0 : 0 ≤ kn ∧ kn ≤ 10) (hd : mo 0 ≤ tDay t) : SpI l 4 yX6_pays cX6_pays 3 (some .int) [mr 0, mi i, mi n] (hC (k, asked) ux ua ub (mo, kn, kp) v1 v2 up uq ur) (fun w h => (¬ (0 ≤ i ∧ i < tNT t ∧ 1 ≤ n ∧ n ≤ 99) ∧ w = -1 ∧ h = hC (k, asked) ux ua ub (mo, kn, kp) v1 v2 up uq ur) ∨ ((0 ≤ i ∧ i < tNT t ∧ 1 ≤ n ∧ n ≤ 99) ∧ mo 3 < n ∧ w = -2 ∧ h = hC (k, asked) ux ua ub (mo, kn, kp) v1 v2 up uq ur) ∨ ((0 ≤ i ∧ i < tNT t ∧ 1 ≤ n ∧ n ≤ 99) ∧ n ≤ mo 3 ∧ w = max 0 (mo (5 + i).toNat - n) ∧ h = hC (k, asked) ux ua ub (mup (mup (mcpy mo mo 0 9 90) 3 (mo 3 - n)) (5 + i).toNat (max 0 (mo (5 + i).toNat - n)), min 10 (kn + 1), kp) v1 v2 up uq ur)) := by
  have hT1 := hT.1
  have hT3 := hT.2.2.1
  have hT5 := hT.2.2.2.2.1
  have hT6 := hT.2.2.2.2.2.1
  have hm0 := hMo.1
  have hm1 := hMo.2.1
  have hm2 := hMo.2.2.1
  have hm3 := hMo.2.2.2.1
  refine SpI.of (cd := kdX6_pays) (fT := mlook flX6) (kT := mlook klX6) (kJ := mlook jlX6) mfA_X6_pays ok_X6_pays fT_X6 kT_X6 jT_X6 jdk_ok True.intro (Nat.le_of_ble_eq_true rfl) (fun G hG => ?_)
  refine rRun hG 99999 ?_
  refine And.intro rfl (?_)
  refine rV hG (sp_X5_hasTrade (uo := (k, asked)) (ux := ux) (ua := ua) (ub := ub) (v0 := (mo, kn, kp)) (v1 := v1) (v2 := v2) (up := up) (uq := uq) (ur := ur) (k := k) (t := t) ht (i := i) hi (by omega)) rfl rfl lk_X6_102 mf_X5_hasTrade (by decide) (Nat.le_of_ble_eq_true rfl) (by cases k <;> exact ⟨_, _, _, rfl, rfl, rfl⟩) ?_
  rintro w1 _ ⟨hw1, rfl⟩
  have w11 : (w1 = 1 ∧ (0 ≤ i ∧ i < tNT t)) ∨ (w1 = 0 ∧ ¬ (0 ≤ i ∧ i < tNT t)) := (by rw [hw1]; by_cases q9 : (0 ≤ i ∧ i < tNT t) <;> simp [q9])
  clear hw1
  refine rRun hG 99999 ?_
  refine And.intro (by first | omega | (dsimp only; omega)) (And.intro (fun c2 => ?_) (fun c2 => ?_))
  · try dsimp only at c2
    refine rRun hG 99999 ?_
    refine rIR hG rfl rfl (True.intro) ?_
    exact Or.inl ⟨by omega, rfl, rfl⟩
  · try dsimp only at c2
    refine And.intro (by first | omega | (dsimp only; omega)) (And.intro (fun c3 => ?_) (fun c3 => ?_))
    · try dsimp only at c3
      refine rRun hG 99999 ?_
      refine rIR hG rfl rfl (True.intro) ?_
      exact Or.inl ⟨by omega, rfl, rfl⟩
    · try dsimp only at c3
      refine And.intro (by first | omega | (dsimp only; omega)) (And.intro (fun c4 => ?_) (fun c4 => ?_))
      · try dsimp only at c4
        refine rRun hG 99999 ?_
        refine And.intro rfl (?_)
        refine rV hG (sp_X3_candles (uo := (k, asked)) (ux := ux) (ua := ua) (ub := ub) (mo := mo) (kn := kn) (kp := kp) (v1 := v1) (v2 := v2) (up := up) (uq := uq) (ur := ur)) rfl rfl lk_X6_132 mf_X3_candles (by decide) (Nat.le_of_ble_eq_true rfl) ⟨_, _, _, rfl, rfl, rfl⟩ ?_
        rintro _ _ ⟨rfl, rfl⟩
        refine rRun hG 99999 ?_
        refine And.intro (by first | omega | (dsimp only; omega)) (And.intro (fun c6 => ?_) (fun c6 => ?_))
        · try dsimp only at c6
          refine rRun hG 99999 ?_
          refine And.intro rfl (?_)
          have hH := hMo.2.2.2.2 i.toNat (by omega)
          rw [show 5 + i.toNat = (5 + i).toNat by omega] at hH
          refine rV hG (sp_X3_pay (uo := (k, asked)) (ux := ux) (ua := ua) (ub := ub) (mo := mo) (kn := kn) (kp := kp) (v1 := v1) (v2 := v2) (up := up) (uq := uq) (ur := ur) (i := i) (w := n) h0 (by omega) hH (by omega)) rfl rfl lk_X6_135 mf_X3_pay (by decide) (Nat.le_of_ble_eq_true rfl) ⟨_, _, _, rfl, rfl, rfl⟩ ?_
          rintro _ _ ⟨rfl, rfl⟩
          refine rIR hG rfl rfl (True.intro) ?_
          first | exact Or.inr (Or.inl ⟨by omega, by omega, rfl, rfl⟩) | exact Or.inr (Or.inr ⟨by omega, by omega, rfl, rfl⟩)
        · try dsimp only at c6
          refine rIR hG rfl rfl (True.intro) ?_
          first | exact Or.inr (Or.inl ⟨by omega, by omega, rfl, rfl⟩) | exact Or.inr (Or.inr ⟨by omega, by omega, rfl, rfl⟩)
      · try dsimp only at c4
        refine rIR hG rfl rfl (True.intro) ?_
        exact Or.inl ⟨by omega, rfl, rfl⟩
set_option maxRecDepth 20000 in
set_option maxHeartbeats 1500000 in
theorem sp_X6_corrects {k : Bool} {asked : Int} {ux : XD} {ua ub : TD} {mo : FN} {kn kp : Int} {v1 v2 : SD} {up uq : PD} {ur : HD} {t : TD} (ht : t = tsel k ua ub) {n : Int} (hn : inI n) (hT : TOK t) (hMo : MOK mo) (h0 : 0 ≤ kn ∧ kn ≤ 10) (hd : mo 0 ≤ tDay t) : SpI l 5 yX6_corrects cX6_corrects 2 (some .int) [mr 0, mi n] (hC (k, asked) ux ua ub (mo, kn, kp) v1 v2 up uq ur) (fun w h => ((¬ (-9 ≤ n ∧ n ≤ 9 ∧ ¬ n = 0) ∨ tDay t ≤ mo 0 ∨ mo 1 = 0 ∨ mo 2 + n < -9 ∨ 9 < mo 2 + n) ∧ w = -1000000 ∧ h = hC (k, asked) ux ua ub (mo, kn, kp) v1 v2 up uq ur) ∨ (¬ (¬ (-9 ≤ n ∧ n ≤ 9 ∧ ¬ n = 0) ∨ tDay t ≤ mo 0 ∨ mo 1 = 0 ∨ mo 2 + n < -9 ∨ 9 < mo 2 + n) ∧ w = mo 2 + n ∧ h = hC (k, asked) ux ua ub (mup (mcpy mo mo 0 9 90) 2 (mo 2 + n), min 10 (kn + 1), kp) v1 v2 up uq ur)) := by
  have hT1 := hT.1
  have hT3 := hT.2.2.1
  have hT5 := hT.2.2.2.2.1
  have hT6 := hT.2.2.2.2.2.1
  have hm0 := hMo.1
  have hm1 := hMo.2.1
  have hm2 := hMo.2.2.1
  have hm3 := hMo.2.2.2.1
  refine SpI.of (cd := kdX6_corrects) (fT := mlook flX6) (kT := mlook klX6) (kJ := mlook jlX6) mfA_X6_corrects ok_X6_corrects fT_X6 kT_X6 jT_X6 jdk_ok True.intro (Nat.le_of_ble_eq_true rfl) (fun G hG => ?_)
  refine rRun hG 99999 ?_
  refine And.intro (by first | omega | (dsimp only; omega)) (And.intro (fun c1 => ?_) (fun c1 => ?_))
  · try dsimp only at c1
    refine rRun hG 99999 ?_
    refine rIR hG rfl rfl (True.intro) ?_
    exact Or.inl ⟨by omega, rfl, rfl⟩
  · try dsimp only at c1
    refine And.intro (by first | omega | (dsimp only; omega)) (And.intro (fun c2 => ?_) (fun c2 => ?_))
    · try dsimp only at c2
      refine rRun hG 99999 ?_
      refine rIR hG rfl rfl (True.intro) ?_
      exact Or.inl ⟨by omega, rfl, rfl⟩
    · try dsimp only at c2
      refine And.intro (by first | omega | (dsimp only; omega)) (And.intro (fun c3 => ?_) (fun c3 => ?_))
      · try dsimp only at c3
        refine rRun hG 99999 ?_
        refine And.intro rfl (And.intro rfl (?_))
        refine rV hG (sp_X3_isEnded (uo := (k, asked)) (ux := ux) (ua := ua) (ub := ub) (mo := mo) (kn := kn) (kp := kp) (v1 := v1) (v2 := v2) (up := up) (uq := uq) (ur := ur) (k := k) (t := t) ht (by omega) (by omega) (by omega)) rfl rfl lk_X6_114 mf_X3_isEnded (by decide) (Nat.le_of_ble_eq_true rfl) ⟨_, _, _, rfl, rfl, rfl⟩ ?_
        rintro w2 _ ⟨hw2, rfl⟩
        have w21 : (w2 = 1 ∧ (tDay t ≤ mo 0 ∨ mo 1 = 0)) ∨ (w2 = 0 ∧ ¬ (tDay t ≤ mo 0 ∨ mo 1 = 0)) := (by rw [hw2]; by_cases q9 : (tDay t ≤ mo 0 ∨ mo 1 = 0) <;> simp [q9])
        clear hw2
        refine rRun hG 99999 ?_
        refine And.intro (by first | omega | (dsimp only; omega)) (And.intro (fun c5 => ?_) (fun c5 => ?_))
        · try dsimp only at c5
          refine rRun hG 99999 ?_
          refine rIR hG rfl rfl (True.intro) ?_
          exact Or.inl ⟨by omega, rfl, rfl⟩
        · try dsimp only at c5
          refine And.intro rfl (?_)
          refine rV hG (sp_X3_error (uo := (k, asked)) (ux := ux) (ua := ua) (ub := ub) (mo := mo) (kn := kn) (kp := kp) (v1 := v1) (v2 := v2) (up := up) (uq := uq) (ur := ur)) rfl rfl lk_X6_118 mf_X3_error (by decide) (Nat.le_of_ble_eq_true rfl) ⟨_, _, _, rfl, rfl, rfl⟩ ?_
          rintro _ _ ⟨rfl, rfl⟩
          refine rRun hG 99999 ?_
          refine rS hG (sp_X6_isBeyond (e := mo 2 + n) (by omega)) rfl rfl lk_X6_122 mf_X6_isBeyond (by decide) (Nat.le_of_ble_eq_true rfl) ?_
          rintro w3 _ ⟨hw3, rfl⟩
          have w31 : (w3 = 1 ∧ (mo 2 + n < -9 ∨ 9 < mo 2 + n)) ∨ (w3 = 0 ∧ ¬ (mo 2 + n < -9 ∨ 9 < mo 2 + n)) := (by rw [hw3]; by_cases q9 : (mo 2 + n < -9 ∨ 9 < mo 2 + n) <;> simp [q9])
          clear hw3
          refine rRun hG 99999 ?_
          refine And.intro (by first | omega | (dsimp only; omega)) (And.intro (fun c8 => ?_) (fun c8 => ?_))
          · try dsimp only at c8
            refine rRun hG 99999 ?_
            refine And.intro rfl (?_)
            refine rV hG (sp_X3_correct (uo := (k, asked)) (ux := ux) (ua := ua) (ub := ub) (mo := mo) (kn := kn) (kp := kp) (v1 := v1) (v2 := v2) (up := up) (uq := uq) (ur := ur) (w := n) h0) rfl rfl lk_X6_138 mf_X3_correct (by decide) (Nat.le_of_ble_eq_true rfl) ⟨_, _, _, rfl, rfl, rfl⟩ ?_
            rintro _ _ ⟨rfl, rfl⟩
            refine rIR hG rfl rfl (True.intro) ?_
            exact Or.inr ⟨by omega, rfl, rfl⟩
          · try dsimp only at c8
            refine rIR hG rfl rfl (True.intro) ?_
            exact Or.inl ⟨by omega, rfl, rfl⟩
      · try dsimp only at c3
        refine rIR hG rfl rfl (True.intro) ?_
        exact Or.inl ⟨by omega, rfl, rfl⟩
def nowF (t : TD) (mo : FN) (w : Int) : Int := if w = 0 then mo 0 else if w = 1 then mo 1 else if w = 2 then mo 2 else if w = 3 then mo 3 else if w = 4 then hsum mo 4 else if w = 5 then mo 4 else if w = 6 then (if tDay t ≤ mo 0 then 1 else 0) else if w = 7 then (if mo 1 = 0 then 1 else 0) else -1000000
set_option maxRecDepth 20000 in
set_option maxHeartbeats 1500000 in
theorem sp_X6_now {k : Bool} {asked : Int} {ux : XD} {ua ub : TD} {mo : FN} {kn kp : Int} {v1 v2 : SD} {up uq : PD} {ur : HD} {t : TD} (ht : t = tsel k ua ub) {w : Int} (hw : inI w) (hT : TOK t) (hMo : MOK mo) (h0 : 0 ≤ kn ∧ kn ≤ 10) (hd : mo 0 ≤ tDay t) : SpI l 4 yX6_now cX6_now 2 (some .int) [mr 0, mi w] (hC (k, asked) ux ua ub (mo, kn, kp) v1 v2 up uq ur) (fun z h => z = nowF t mo w ∧ h = hC (k, asked) ux ua ub (mo, kn, kp) v1 v2 up uq ur) := by
  have hT1 := hT.1
  have hT3 := hT.2.2.1
  have hT5 := hT.2.2.2.2.1
  have hT6 := hT.2.2.2.2.2.1
  have hm0 := hMo.1
  have hm1 := hMo.2.1
  have hm2 := hMo.2.2.1
  have hm3 := hMo.2.2.2.1
  refine SpI.of (cd := kdX6_now) (fT := mlook flX6) (kT := mlook klX6) (kJ := mlook jlX6) mfA_X6_now ok_X6_now fT_X6 kT_X6 jT_X6 jdk_ok True.intro (Nat.le_of_ble_eq_true rfl) (fun G hG => ?_)
  refine rRun hG 99999 ?_
  refine And.intro (by first | omega | (dsimp only; omega)) (And.intro (fun c1 => ?_) (And.intro (fun c1 => ?_) (And.intro (fun c1 => ?_) (And.intro (fun c1 => ?_) (And.intro (fun c1 => ?_) (And.intro (fun c1 => ?_) (And.intro (fun c1 => ?_) (And.intro (fun c1 => ?_) (And.intro (fun c1 => ?_) (True.intro))))))))))
  · skip
    refine rRun hG 99999 ?_
    refine rIR hG rfl rfl (True.intro) ?_
    refine ⟨?_, rfl⟩
    unfold nowF
    rw [if_neg (by omega), if_neg (by omega), if_neg (by omega), if_neg (by omega), if_neg (by omega), if_neg (by omega), if_neg (by omega), if_neg (by omega)]
  · skip
    refine rRun hG 99999 ?_
    refine And.intro rfl (?_)
    refine rV hG (sp_X3_day (uo := (k, asked)) (ux := ux) (ua := ua) (ub := ub) (mo := mo) (kn := kn) (kp := kp) (v1 := v1) (v2 := v2) (up := up) (uq := uq) (ur := ur)) rfl rfl lk_X6_148 mf_X3_day (by decide) (Nat.le_of_ble_eq_true rfl) ⟨_, _, _, rfl, rfl, rfl⟩ ?_
    rintro _ _ ⟨rfl, rfl⟩
    refine rIR hG rfl rfl (True.intro) ?_
    refine ⟨?_, rfl⟩
    obtain rfl : w = 0 := by omega
    rfl
  · skip
    refine rRun hG 99999 ?_
    refine And.intro rfl (?_)
    refine rV hG (sp_X3_rest (uo := (k, asked)) (ux := ux) (ua := ua) (ub := ub) (mo := mo) (kn := kn) (kp := kp) (v1 := v1) (v2 := v2) (up := up) (uq := uq) (ur := ur)) rfl rfl lk_X6_151 mf_X3_rest (by decide) (Nat.le_of_ble_eq_true rfl) ⟨_, _, _, rfl, rfl, rfl⟩ ?_
    rintro _ _ ⟨rfl, rfl⟩
    refine rIR hG rfl rfl (True.intro) ?_
    refine ⟨?_, rfl⟩
    obtain rfl : w = 1 := by omega
    rfl
  · skip
    refine rRun hG 99999 ?_
    refine And.intro rfl (?_)
    refine rV hG (sp_X3_error (uo := (k, asked)) (ux := ux) (ua := ua) (ub := ub) (mo := mo) (kn := kn) (kp := kp) (v1 := v1) (v2 := v2) (up := up) (uq := uq) (ur := ur)) rfl rfl lk_X6_118 mf_X3_error (by decide) (Nat.le_of_ble_eq_true rfl) ⟨_, _, _, rfl, rfl, rfl⟩ ?_
    rintro _ _ ⟨rfl, rfl⟩
    refine rIR hG rfl rfl (True.intro) ?_
    refine ⟨?_, rfl⟩
    obtain rfl : w = 2 := by omega
    rfl
  · skip
    refine rRun hG 99999 ?_
    refine And.intro rfl (?_)
    refine rV hG (sp_X3_candles (uo := (k, asked)) (ux := ux) (ua := ua) (ub := ub) (mo := mo) (kn := kn) (kp := kp) (v1 := v1) (v2 := v2) (up := up) (uq := uq) (ur := ur)) rfl rfl lk_X6_132 mf_X3_candles (by decide) (Nat.le_of_ble_eq_true rfl) ⟨_, _, _, rfl, rfl, rfl⟩ ?_
    rintro _ _ ⟨rfl, rfl⟩
    refine rIR hG rfl rfl (True.intro) ?_
    refine ⟨?_, rfl⟩
    obtain rfl : w = 3 := by omega
    rfl
  · skip
    refine rRun hG 99999 ?_
    refine And.intro rfl (?_)
    refine rV hG (sp_X3_harmOfAll (uo := (k, asked)) (ux := ux) (ua := ua) (ub := ub) (mo := mo) (kn := kn) (kp := kp) (v1 := v1) (v2 := v2) (up := up) (uq := uq) (ur := ur)) rfl rfl lk_X6_153 mf_X3_harmOfAll (by decide) (Nat.le_of_ble_eq_true rfl) ⟨_, _, _, rfl, rfl, rfl⟩ ?_
    rintro _ _ ⟨rfl, rfl⟩
    refine rIR hG rfl rfl (True.intro) ?_
    refine ⟨?_, rfl⟩
    obtain rfl : w = 4 := by omega
    rfl
  · skip
    refine rRun hG 99999 ?_
    refine And.intro rfl (?_)
    refine rV hG (sp_X3_found (uo := (k, asked)) (ux := ux) (ua := ua) (ub := ub) (mo := mo) (kn := kn) (kp := kp) (v1 := v1) (v2 := v2) (up := up) (uq := uq) (ur := ur)) rfl rfl lk_X6_156 mf_X3_found (by decide) (Nat.le_of_ble_eq_true rfl) ⟨_, _, _, rfl, rfl, rfl⟩ ?_
    rintro _ _ ⟨rfl, rfl⟩
    refine rIR hG rfl rfl (True.intro) ?_
    refine ⟨?_, rfl⟩
    obtain rfl : w = 5 := by omega
    rfl
  · skip
    refine rRun hG 99999 ?_
    refine And.intro rfl (And.intro rfl (?_))
    refine rV hG (sp_X3_isOver (uo := (k, asked)) (ux := ux) (ua := ua) (ub := ub) (mo := mo) (kn := kn) (kp := kp) (v1 := v1) (v2 := v2) (up := up) (uq := uq) (ur := ur) (k := k) (t := t) ht (by omega) (by omega)) rfl rfl lk_X6_159 mf_X3_isOver (by decide) (Nat.le_of_ble_eq_true rfl) ⟨_, _, _, rfl, rfl, rfl⟩ ?_
    rintro w2 _ ⟨hw2, rfl⟩
    have w21 : (w2 = 1 ∧ (tDay t ≤ mo 0)) ∨ (w2 = 0 ∧ ¬ (tDay t ≤ mo 0)) := (by rw [hw2]; by_cases q9 : (tDay t ≤ mo 0) <;> simp [q9])
    clear hw2
    refine rRun hG 99999 ?_
    refine And.intro (by first | omega | (dsimp only; omega)) (And.intro (fun c9 => ?_) (fun c9 => ?_))
    · try dsimp only at c9
      refine rRun hG 99999 ?_
      refine rIR hG rfl rfl (True.intro) ?_
      refine ⟨?_, rfl⟩
      obtain rfl : w = 6 := by omega
      show _ = (if tDay t ≤ mo 0 then 1 else 0)
      first | (rw [if_pos (by omega)]; done) | (rw [if_neg (by omega)]; done)
    · try dsimp only at c9
      refine rIR hG rfl rfl (True.intro) ?_
      refine ⟨?_, rfl⟩
      obtain rfl : w = 6 := by omega
      show _ = (if tDay t ≤ mo 0 then 1 else 0)
      first | (rw [if_pos (by omega)]; done) | (rw [if_neg (by omega)]; done)
  · skip
    refine rRun hG 99999 ?_
    refine And.intro rfl (?_)
    refine rV hG (sp_X3_isFree (uo := (k, asked)) (ux := ux) (ua := ua) (ub := ub) (mo := mo) (kn := kn) (kp := kp) (v1 := v1) (v2 := v2) (up := up) (uq := uq) (ur := ur) (by omega)) rfl rfl lk_X6_162 mf_X3_isFree (by decide) (Nat.le_of_ble_eq_true rfl) ⟨_, _, _, rfl, rfl, rfl⟩ ?_
    rintro w2 _ ⟨hw2, rfl⟩
    have w21 : (w2 = 1 ∧ (mo 1 = 0)) ∨ (w2 = 0 ∧ ¬ (mo 1 = 0)) := (by rw [hw2]; by_cases q9 : (mo 1 = 0) <;> simp [q9])
    clear hw2
    refine rRun hG 99999 ?_
    refine And.intro (by first | omega | (dsimp only; omega)) (And.intro (fun c11 => ?_) (fun c11 => ?_))
    · try dsimp only at c11
      refine rRun hG 99999 ?_
      refine rIR hG rfl rfl (True.intro) ?_
      refine ⟨?_, rfl⟩
      obtain rfl : w = 7 := by omega
      show _ = (if mo 1 = 0 then 1 else 0)
      first | (rw [if_pos (by omega)]; done) | (rw [if_neg (by omega)]; done)
    · try dsimp only at c11
      refine rIR hG rfl rfl (True.intro) ?_
      refine ⟨?_, rfl⟩
      obtain rfl : w = 7 := by omega
      show _ = (if mo 1 = 0 then 1 else 0)
      first | (rw [if_pos (by omega)]; done) | (rw [if_neg (by omega)]; done)
def cntF (t : TD) (ur : HD) (kn : Int) (ux : XD) (w : Int) : Int := if w = 0 then tDay t else if w = 1 then tNB t else if w = 2 then tNT t else if w = 3 then tLim t else if w = 4 then tAdd t else if w = 5 then ur.2.2.2.2 else if w = 6 then kn else if w = 7 then xN ux else -1
set_option maxRecDepth 20000 in
set_option maxHeartbeats 1500000 in
theorem sp_X6_count {k : Bool} {asked : Int} {ux : XD} {ua ub : TD} {mo : FN} {kn kp : Int} {v1 v2 : SD} {up uq : PD} {ur : HD} {t : TD} (ht : t = tsel k ua ub) {w : Int} (hw : inI w) : SpI l 1 yX6_count cX6_count 2 (some .int) [mr 0, mi w] (hC (k, asked) ux ua ub (mo, kn, kp) v1 v2 up uq ur) (fun z h => z = cntF t ur kn ux w ∧ h = hC (k, asked) ux ua ub (mo, kn, kp) v1 v2 up uq ur) := by
  cases k
  · obtain rfl : t = ua := ht
    refine SpI.of (cd := kdX6_count) (fT := mlook flX6) (kT := mlook klX6) (kJ := mlook jlX6) mfA_X6_count ok_X6_count fT_X6 kT_X6 jT_X6 jdk_ok True.intro (Nat.le_of_ble_eq_true rfl) (fun G hG => ?_)
    refine rRun hG 99999 ?_
    refine And.intro (by first | omega | (dsimp only; omega)) (And.intro (fun c1 => ?_) (And.intro (fun c1 => ?_) (And.intro (fun c1 => ?_) (And.intro (fun c1 => ?_) (And.intro (fun c1 => ?_) (And.intro (fun c1 => ?_) (And.intro (fun c1 => ?_) (And.intro (fun c1 => ?_) (And.intro (fun c1 => ?_) (True.intro))))))))))
    · skip
      refine rRun hG 99999 ?_
      refine rIR hG rfl rfl (True.intro) ?_
      refine ⟨?_, rfl⟩
      unfold cntF
      rw [if_neg (by omega), if_neg (by omega), if_neg (by omega), if_neg (by omega), if_neg (by omega), if_neg (by omega), if_neg (by omega), if_neg (by omega)]
    · skip
      refine rRun hG 99999 ?_
      refine And.intro rfl (And.intro rfl (?_))
      refine rIR hG rfl rfl (True.intro) ?_
      refine ⟨?_, rfl⟩
      obtain rfl : w = 0 := by omega
      rfl
    · skip
      refine rRun hG 99999 ?_
      refine And.intro rfl (And.intro rfl (?_))
      refine rIR hG rfl rfl (True.intro) ?_
      refine ⟨?_, rfl⟩
      obtain rfl : w = 1 := by omega
      rfl
    · skip
      refine rRun hG 99999 ?_
      refine And.intro rfl (And.intro rfl (?_))
      refine rIR hG rfl rfl (True.intro) ?_
      refine ⟨?_, rfl⟩
      obtain rfl : w = 2 := by omega
      rfl
    · skip
      refine rRun hG 99999 ?_
      refine And.intro rfl (And.intro rfl (?_))
      refine rIR hG rfl rfl (True.intro) ?_
      refine ⟨?_, rfl⟩
      obtain rfl : w = 3 := by omega
      rfl
    · skip
      refine rRun hG 99999 ?_
      refine And.intro rfl (And.intro rfl (?_))
      refine rIR hG rfl rfl (True.intro) ?_
      refine ⟨?_, rfl⟩
      obtain rfl : w = 4 := by omega
      rfl
    · skip
      refine rRun hG 99999 ?_
      refine And.intro rfl (And.intro rfl (?_))
      refine rIR hG rfl rfl (True.intro) ?_
      refine ⟨?_, rfl⟩
      obtain rfl : w = 5 := by omega
      rfl
    · skip
      refine rRun hG 99999 ?_
      refine And.intro rfl (And.intro rfl (?_))
      refine rIR hG rfl rfl (True.intro) ?_
      refine ⟨?_, rfl⟩
      obtain rfl : w = 6 := by omega
      rfl
    · skip
      refine rRun hG 99999 ?_
      refine And.intro rfl (And.intro rfl (?_))
      refine rIR hG rfl rfl (True.intro) ?_
      refine ⟨?_, rfl⟩
      obtain rfl : w = 7 := by omega
      rfl
  · obtain rfl : t = ub := ht
    refine SpI.of (cd := kdX6_count) (fT := mlook flX6) (kT := mlook klX6) (kJ := mlook jlX6) mfA_X6_count ok_X6_count fT_X6 kT_X6 jT_X6 jdk_ok True.intro (Nat.le_of_ble_eq_true rfl) (fun G hG => ?_)
    refine rRun hG 99999 ?_
    refine And.intro (by first | omega | (dsimp only; omega)) (And.intro (fun c1 => ?_) (And.intro (fun c1 => ?_) (And.intro (fun c1 => ?_) (And.intro (fun c1 => ?_) (And.intro (fun c1 => ?_) (And.intro (fun c1 => ?_) (And.intro (fun c1 => ?_) (And.intro (fun c1 => ?_) (And.intro (fun c1 => ?_) (True.intro))))))))))
    · skip
      refine rRun hG 99999 ?_
      refine rIR hG rfl rfl (True.intro) ?_
      refine ⟨?_, rfl⟩
      unfold cntF
      rw [if_neg (by omega), if_neg (by omega), if_neg (by omega), if_neg (by omega), if_neg (by omega), if_neg (by omega), if_neg (by omega), if_neg (by omega)]
    · skip
      refine rRun hG 99999 ?_
      refine And.intro rfl (And.intro rfl (?_))
      refine rIR hG rfl rfl (True.intro) ?_
      refine ⟨?_, rfl⟩
      obtain rfl : w = 0 := by omega
      rfl
    · skip
      refine rRun hG 99999 ?_
      refine And.intro rfl (And.intro rfl (?_))
      refine rIR hG rfl rfl (True.intro) ?_
      refine ⟨?_, rfl⟩
      obtain rfl : w = 1 := by omega
      rfl
    · skip
      refine rRun hG 99999 ?_
      refine And.intro rfl (And.intro rfl (?_))
      refine rIR hG rfl rfl (True.intro) ?_
      refine ⟨?_, rfl⟩
      obtain rfl : w = 2 := by omega
      rfl
    · skip
      refine rRun hG 99999 ?_
      refine And.intro rfl (And.intro rfl (?_))
      refine rIR hG rfl rfl (True.intro) ?_
      refine ⟨?_, rfl⟩
      obtain rfl : w = 3 := by omega
      rfl
    · skip
      refine rRun hG 99999 ?_
      refine And.intro rfl (And.intro rfl (?_))
      refine rIR hG rfl rfl (True.intro) ?_
      refine ⟨?_, rfl⟩
      obtain rfl : w = 4 := by omega
      rfl
    · skip
      refine rRun hG 99999 ?_
      refine And.intro rfl (And.intro rfl (?_))
      refine rIR hG rfl rfl (True.intro) ?_
      refine ⟨?_, rfl⟩
      obtain rfl : w = 5 := by omega
      rfl
    · skip
      refine rRun hG 99999 ?_
      refine And.intro rfl (And.intro rfl (?_))
      refine rIR hG rfl rfl (True.intro) ?_
      refine ⟨?_, rfl⟩
      obtain rfl : w = 6 := by omega
      rfl
    · skip
      refine rRun hG 99999 ?_
      refine And.intro rfl (And.intro rfl (?_))
      refine rIR hG rfl rfl (True.intro) ?_
      refine ⟨?_, rfl⟩
      obtain rfl : w = 7 := by omega
      rfl
theorem pgV_in {tk : Int} {t : TD} {V : Int → Int} {day p e M : Int} (hT : TOK t) (hM : 0 ≤ M) (hV : ∀ e, -1000000 ≤ V e ∧ V e ≤ M) : -1000400 ≤ pgV tk t V day p e ∧ pgV tk t V day p e ≤ M + 120 := by
  have h1 := hV e
  have hT2 := hT.2.1
  have hT3 := hT.2.2.1
  have hc := cndl_in hT (day := day) (p := p) (tNB t).toNat (by omega)
  unfold pgV
  by_cases q : (if tk = 0 then 9 else tLim t) < max e (-e) ∨ 9 < max e (-e) ∨ V e ≤ -1000000
  · rw [if_pos q]; omega
  · rw [if_neg q]
    have q2 : ¬ 9 < max e (-e) := fun z => q (Or.inr (Or.inl z))
    have hs := hrmS_in hT (e := e) (by omega) (tNT t).toNat (by omega)
    split <;> omega
theorem planM_in {tk : Int} {t : TD} {mo : FN} {dn : Int} (hT : TOK t) (hd : dn ≤ 14) : -1000000 ≤ planM tk t mo dn ∧ planM tk t mo dn ≤ 10000 := by
  unfold planM
  split
  · omega
  · split
    · unfold puf; split <;> omega
    · have hV := PV_in (tk := tk) (mo := mo) (n := dn) hT (dn.toNat - 1)
      have hf := foldB_in (g := fun p => pgV tk t (PV tk t mo dn (dn.toNat - 1)) (mo 0) p (mo 2 + p)) (b0 := -1000000) (M := 120 * ((dn.toNat - 1 : Nat) : Int) + 120) (by omega) (fun p => (pgV_in hT (by omega) hV).2) 6
      omega
set_option maxRecDepth 20000 in
set_option maxHeartbeats 1500000 in
theorem sp_X6_safe {k : Bool} {asked : Int} {ux : XD} {ua ub : TD} {mo : FN} {kn kp : Int} {v1 v2 : SD} {kP : Bool} {hr lt : FN} {tk ms pa : Int} {uq : PD} {ur : HD} {t : TD} (ht : t = tsel k ua ub) {w : Int} (hw : inI w) (hT : TOK t) (hMo : MOK mo) (h0 : 0 ≤ kn ∧ kn ≤ 10) (hd : mo 0 ≤ tDay t) : SpI l 8 yX6_safe cX6_safe 2 (some .int) [mr 0, mi w] (hC (k, asked) ux ua ub (mo, kn, kp) v1 v2 (kP, hr, lt, tk, ms, pa) uq ur) (fun z h => (¬ (0 ≤ w ∧ w ≤ 1) ∧ z = -1000000 ∧ h = hC (k, asked) ux ua ub (mo, kn, kp) v1 v2 (kP, hr, lt, tk, ms, pa) uq ur) ∨ ((0 ≤ w ∧ w ≤ 1) ∧ z = (if w = 1 then planP 1 t mo (tDay t - mo 0) else if planM 1 t mo (tDay t - mo 0) ≤ -1000000 then -9 else planM 1 t mo (tDay t - mo 0)) ∧ ∃ (k9 : Bool) (h9 l9 : FN), h = hC (k, asked) ux ua ub (mo, kn, kp) v1 v2 (k9, h9, l9, 1, planM 1 t mo (tDay t - mo 0), planP 1 t mo (tDay t - mo 0)) uq ur)) := by
  have hT1 := hT.1
  have hT3 := hT.2.2.1
  have hT5 := hT.2.2.2.2.1
  have hT6 := hT.2.2.2.2.2.1
  have hm0 := hMo.1
  have hm1 := hMo.2.1
  have hm2 := hMo.2.2.1
  have hm3 := hMo.2.2.2.1
  refine SpI.of (cd := kdX6_safe) (fT := mlook flX6) (kT := mlook klX6) (kJ := mlook jlX6) mfA_X6_safe ok_X6_safe fT_X6 kT_X6 jT_X6 jdk_ok True.intro (Nat.le_of_ble_eq_true rfl) (fun G hG => ?_)
  refine rRun hG 99999 ?_
  refine And.intro (by first | omega | (dsimp only; omega)) (And.intro (fun c1 => ?_) (fun c1 => ?_))
  · try dsimp only at c1
    refine rRun hG 99999 ?_
    refine rIR hG rfl rfl (True.intro) ?_
    exact Or.inl ⟨by omega, rfl, rfl⟩
  · try dsimp only at c1
    refine And.intro (by first | omega | (dsimp only; omega)) (And.intro (fun c2 => ?_) (fun c2 => ?_))
    · try dsimp only at c2
      refine rRun hG 99999 ?_
      refine And.intro rfl (And.intro rfl (And.intro rfl (?_)))
      refine rVV hG (sp_X2_forCandles (uo := (k, asked)) (ux := ux) (ua := ua) (ub := ub) (mo := mo) (kn := kn) (kp := kp) (v1 := v1) (v2 := v2) (kP := kP) (hr := hr) (lt := lt) (tk := tk) (ms := ms) (pa := pa) (uq := uq) (ur := ur) (k := k) (t := t) ht hT (by omega) hm0 hm1 hm2) rfl rfl lk_X6_181 mf_X2_forCandles (by decide) (Nat.le_of_ble_eq_true rfl) ⟨_, _, _, rfl, rfl, rfl⟩ ?_
      rintro _ ⟨k9, h9, l9, rfl⟩
      have hMI := planM_in (tk := 1) (mo := mo) (dn := (tDay t - mo 0)) hT (by omega)
      refine rRun hG 99999 ?_
      refine And.intro (by first | omega | (dsimp only; omega)) (And.intro (fun c4 => ?_) (fun c4 => ?_))
      · try dsimp only at c4
        refine rRun hG 99999 ?_
        refine And.intro rfl (And.intro rfl (And.intro (by first | omega | (dsimp only; omega)) (And.intro (fun c5 => ?_) (fun c5 => ?_))))
        · try dsimp only at c5
          refine rRun hG 99999 ?_
          refine And.intro rfl (And.intro rfl (?_))
          refine rIR hG rfl rfl (True.intro) ?_
          refine Or.inr ⟨by omega, ?_, k9, h9, l9, rfl⟩
          first | rw [if_neg (by omega), if_pos (by omega)] | (rw [if_neg (by omega), if_neg (by omega)]; rfl) | rw [if_neg (by omega), if_neg (by omega)]
        · try dsimp only at c5
          refine rIR hG rfl rfl (True.intro) ?_
          refine Or.inr ⟨by omega, ?_, k9, h9, l9, rfl⟩
          first | rw [if_neg (by omega), if_pos (by omega)] | (rw [if_neg (by omega), if_neg (by omega)]; rfl) | rw [if_neg (by omega), if_neg (by omega)]
      · try dsimp only at c4
        refine And.intro rfl (And.intro rfl (?_))
        refine rIR hG rfl rfl (True.intro) ?_
        exact Or.inr ⟨by omega, (if_pos (by omega)).symm, k9, h9, l9, rfl⟩
    · try dsimp only at c2
      refine rIR hG rfl rfl (True.intro) ?_
      exact Or.inl ⟨by omega, rfl, rfl⟩
set_option maxRecDepth 20000 in
set_option maxHeartbeats 1500000 in
theorem sp_X6_least {k : Bool} {asked : Int} {ux : XD} {ua ub : TD} {mo : FN} {kn kp : Int} {v1 v2 : SD} {kP : Bool} {hr lt : FN} {tk ms pa : Int} {uq : PD} {ur : HD} {t : TD} (ht : t = tsel k ua ub) {n w : Int} (hn : inI n) (hw : inI w) (hT : TOK t) (hMo : MOK mo) (h0 : 0 ≤ kn ∧ kn ≤ 10) (hd : mo 0 ≤ tDay t) : SpI l 8 yX6_least cX6_least 3 (some .int) [mr 0, mi n, mi w] (hC (k, asked) ux ua ub (mo, kn, kp) v1 v2 (kP, hr, lt, tk, ms, pa) uq ur) (fun z h => (¬ (0 ≤ n ∧ n ≤ 14 ∧ 0 ≤ w ∧ w ≤ 1) ∧ z = -1000000 ∧ h = hC (k, asked) ux ua ub (mo, kn, kp) v1 v2 (kP, hr, lt, tk, ms, pa) uq ur) ∨ ((0 ≤ n ∧ n ≤ 14 ∧ 0 ≤ w ∧ w ≤ 1) ∧ z = (if w = 1 then planP 0 t mo (min n (tDay t - mo 0)) else if planM 0 t mo (min n (tDay t - mo 0)) ≤ -1000000 then -9 else -planM 0 t mo (min n (tDay t - mo 0))) ∧ ∃ (k9 : Bool) (h9 l9 : FN), h = hC (k, asked) ux ua ub (mo, kn, kp) v1 v2 (k9, h9, l9, 0, planM 0 t mo (min n (tDay t - mo 0)), planP 0 t mo (min n (tDay t - mo 0))) uq ur)) := by
  have hT1 := hT.1
  have hT3 := hT.2.2.1
  have hT5 := hT.2.2.2.2.1
  have hT6 := hT.2.2.2.2.2.1
  have hm0 := hMo.1
  have hm1 := hMo.2.1
  have hm2 := hMo.2.2.1
  have hm3 := hMo.2.2.2.1
  refine SpI.of (cd := kdX6_least) (fT := mlook flX6) (kT := mlook klX6) (kJ := mlook jlX6) mfA_X6_least ok_X6_least fT_X6 kT_X6 jT_X6 jdk_ok True.intro (Nat.le_of_ble_eq_true rfl) (fun G hG => ?_)
  refine rRun hG 99999 ?_
  refine And.intro (by first | omega | (dsimp only; omega)) (And.intro (fun c1 => ?_) (fun c1 => ?_))
  · try dsimp only at c1
    refine rRun hG 99999 ?_
    refine rIR hG rfl rfl (True.intro) ?_
    exact Or.inl ⟨by omega, rfl, rfl⟩
  · try dsimp only at c1
    refine And.intro (by first | omega | (dsimp only; omega)) (And.intro (fun c2 => ?_) (fun c2 => ?_))
    · try dsimp only at c2
      refine rRun hG 99999 ?_
      refine rIR hG rfl rfl (True.intro) ?_
      exact Or.inl ⟨by omega, rfl, rfl⟩
    · try dsimp only at c2
      refine And.intro (by first | omega | (dsimp only; omega)) (And.intro (fun c3 => ?_) (fun c3 => ?_))
      · try dsimp only at c3
        refine rRun hG 99999 ?_
        refine rIR hG rfl rfl (True.intro) ?_
        exact Or.inl ⟨by omega, rfl, rfl⟩
      · try dsimp only at c3
        refine And.intro (by first | omega | (dsimp only; omega)) (And.intro (fun c4 => ?_) (fun c4 => ?_))
        · try dsimp only at c4
          refine rRun hG 99999 ?_
          refine And.intro rfl (And.intro rfl (And.intro rfl (?_)))
          refine rVV hG (sp_X2_forFreedom (uo := (k, asked)) (ux := ux) (ua := ua) (ub := ub) (mo := mo) (kn := kn) (kp := kp) (v1 := v1) (v2 := v2) (kP := kP) (hr := hr) (lt := lt) (tk := tk) (ms := ms) (pa := pa) (uq := uq) (ur := ur) (k := k) (t := t) ht (n9 := n) hT (by omega) hm0 hm1 hm2 (by omega)) rfl rfl lk_X6_189 mf_X2_forFreedom (by decide) (Nat.le_of_ble_eq_true rfl) ⟨_, _, _, rfl, rfl, rfl⟩ ?_
          rintro _ ⟨k9, h9, l9, rfl⟩
          have hMI := planM_in (tk := 0) (mo := mo) (dn := (min n (tDay t - mo 0))) hT (by omega)
          refine rRun hG 99999 ?_
          refine And.intro (by first | omega | (dsimp only; omega)) (And.intro (fun c6 => ?_) (fun c6 => ?_))
          · try dsimp only at c6
            refine rRun hG 99999 ?_
            refine And.intro rfl (And.intro rfl (And.intro (by first | omega | (dsimp only; omega)) (And.intro (fun c7 => ?_) (fun c7 => ?_))))
            · try dsimp only at c7
              refine rRun hG 99999 ?_
              refine And.intro rfl (And.intro rfl (?_))
              refine rIR hG rfl rfl (True.intro) ?_
              refine Or.inr ⟨by omega, ?_, k9, h9, l9, rfl⟩
              first | rw [if_neg (by omega), if_pos (by omega)] | (rw [if_neg (by omega), if_neg (by omega)]; rfl) | rw [if_neg (by omega), if_neg (by omega)]
            · try dsimp only at c7
              refine rIR hG rfl rfl (True.intro) ?_
              refine Or.inr ⟨by omega, ?_, k9, h9, l9, rfl⟩
              first | rw [if_neg (by omega), if_pos (by omega)] | (rw [if_neg (by omega), if_neg (by omega)]; rfl) | rw [if_neg (by omega), if_neg (by omega)]
          · try dsimp only at c6
            refine And.intro rfl (And.intro rfl (?_))
            refine rIR hG rfl rfl (True.intro) ?_
            exact Or.inr ⟨by omega, (if_pos (by omega)).symm, k9, h9, l9, rfl⟩
        · try dsimp only at c4
          refine rIR hG rfl rfl (True.intro) ?_
          exact Or.inl ⟨by omega, rfl, rfl⟩
set_option maxRecDepth 20000 in
set_option maxHeartbeats 1500000 in
theorem sp_X6_chance {k : Bool} {asked : Int} {ux : XD} {ua ub : TD} {mo : FN} {kn kp : Int} {v1 v2 : SD} {up : PD} {kO : Bool} {hr lt : FN} {un lw pa : Int} {ur : HD} {t : TD} (ht : t = tsel k ua ub) {n w : Int} (hn : inI n) (hw : inI w) (hT : TOK t) (hMo : MOK mo) (h0 : 0 ≤ kn ∧ kn ≤ 10) (hd : mo 0 ≤ tDay t) : SpI l 8 yX6_chance cX6_chance 3 (some .int) [mr 0, mi n, mi w] (hC (k, asked) ux ua ub (mo, kn, kp) v1 v2 up (kO, hr, lt, un, lw, pa) ur) (fun z h => (¬ (0 ≤ n ∧ n ≤ 8 ∧ 0 ≤ w ∧ w ≤ 2) ∧ z = -1000000 ∧ h = hC (k, asked) ux ua ub (mo, kn, kp) v1 v2 up (kO, hr, lt, un, lw, pa) ur) ∨ ((0 ≤ n ∧ n ≤ 8 ∧ 0 ≤ w ∧ w ≤ 2) ∧ z = (if w = 2 then wghP t mo (min n (tDay t - mo 0)) else if w = 0 then (wghR t mo (min n (tDay t - mo 0))).1 else (wghR t mo (min n (tDay t - mo 0))).2) ∧ ∃ (k9 : Bool) (h9 l9 : FN), h = hC (k, asked) ux ua ub (mo, kn, kp) v1 v2 up (k9, h9, l9, (wghR t mo (min n (tDay t - mo 0))).1, (wghR t mo (min n (tDay t - mo 0))).2, wghP t mo (min n (tDay t - mo 0))) ur)) := by
  have hT1 := hT.1
  have hT3 := hT.2.2.1
  have hT5 := hT.2.2.2.2.1
  have hT6 := hT.2.2.2.2.2.1
  have hm0 := hMo.1
  have hm1 := hMo.2.1
  have hm2 := hMo.2.2.1
  have hm3 := hMo.2.2.2.1
  refine SpI.of (cd := kdX6_chance) (fT := mlook flX6) (kT := mlook klX6) (kJ := mlook jlX6) mfA_X6_chance ok_X6_chance fT_X6 kT_X6 jT_X6 jdk_ok True.intro (Nat.le_of_ble_eq_true rfl) (fun G hG => ?_)
  refine rRun hG 99999 ?_
  refine And.intro (by first | omega | (dsimp only; omega)) (And.intro (fun c1 => ?_) (fun c1 => ?_))
  · try dsimp only at c1
    refine rRun hG 99999 ?_
    refine rIR hG rfl rfl (True.intro) ?_
    exact Or.inl ⟨by omega, rfl, rfl⟩
  · try dsimp only at c1
    refine And.intro (by first | omega | (dsimp only; omega)) (And.intro (fun c2 => ?_) (fun c2 => ?_))
    · try dsimp only at c2
      refine rRun hG 99999 ?_
      refine rIR hG rfl rfl (True.intro) ?_
      exact Or.inl ⟨by omega, rfl, rfl⟩
    · try dsimp only at c2
      refine And.intro (by first | omega | (dsimp only; omega)) (And.intro (fun c3 => ?_) (fun c3 => ?_))
      · try dsimp only at c3
        refine rRun hG 99999 ?_
        refine rIR hG rfl rfl (True.intro) ?_
        exact Or.inl ⟨by omega, rfl, rfl⟩
      · try dsimp only at c3
        refine And.intro (by first | omega | (dsimp only; omega)) (And.intro (fun c4 => ?_) (fun c4 => ?_))
        · try dsimp only at c4
          refine rRun hG 99999 ?_
          refine And.intro rfl (And.intro rfl (And.intro rfl (?_)))
          refine rVV hG (sp_X1_weigh (uo := (k, asked)) (ux := ux) (ua := ua) (ub := ub) (mo := mo) (kn := kn) (kp := kp) (v1 := v1) (v2 := v2) (up := up) (kO := kO) (hr := hr) (lt := lt) (un := un) (lw := lw) (pa := pa) (ur := ur) (k := k) (t := t) ht (n9 := n) hT (by omega) (by omega) hm0 hm1 hm2) rfl rfl lk_X6_168 mf_X1_weigh (by decide) (Nat.le_of_ble_eq_true rfl) ⟨_, _, _, rfl, rfl, rfl⟩ ?_
          rintro _ ⟨k9, h9, l9, rfl⟩
          refine rRun hG 99999 ?_
          refine And.intro (by first | omega | (dsimp only; omega)) (And.intro (fun c6 => ?_) (fun c6 => ?_))
          · try dsimp only at c6
            refine rRun hG 99999 ?_
            refine And.intro (by first | omega | (dsimp only; omega)) (And.intro (fun c7 => ?_) (fun c7 => ?_))
            · try dsimp only at c7
              refine rRun hG 99999 ?_
              refine And.intro rfl (And.intro rfl (?_))
              refine rIR hG rfl rfl (True.intro) ?_
              refine Or.inr ⟨by omega, ?_, k9, h9, l9, rfl⟩
              first | (rw [if_neg (by omega), if_pos (by omega)]; done) | (rw [if_neg (by omega), if_pos (by omega)]; rfl) | (rw [if_neg (by omega), if_neg (by omega)]; done) | (rw [if_neg (by omega), if_neg (by omega)]; rfl)
            · try dsimp only at c7
              refine And.intro rfl (And.intro rfl (?_))
              refine rIR hG rfl rfl (True.intro) ?_
              refine Or.inr ⟨by omega, ?_, k9, h9, l9, rfl⟩
              first | (rw [if_neg (by omega), if_pos (by omega)]; done) | (rw [if_neg (by omega), if_pos (by omega)]; rfl) | (rw [if_neg (by omega), if_neg (by omega)]; done) | (rw [if_neg (by omega), if_neg (by omega)]; rfl)
          · try dsimp only at c6
            refine And.intro rfl (And.intro rfl (?_))
            refine rIR hG rfl rfl (True.intro) ?_
            exact Or.inr ⟨by omega, (if_pos (by omega)).symm, k9, h9, l9, rfl⟩
        · try dsimp only at c4
          refine rIR hG rfl rfl (True.intro) ?_
          exact Or.inl ⟨by omega, rfl, rfl⟩
end WALKS
