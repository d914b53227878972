/-! Story: a turned day -/
section WALKS
variable {l : Launch}
set_option maxRecDepth 20000 in
set_option maxHeartbeats 8000000 in
theorem sp_X3_turn {uo : UD} {ux : XD} {ua ub : TD} {mo : FN} {kn kp : Int} {v1 v2 : SD} {up uq : PD} {ur : HD} {k : Bool} {t : TD} (ht : t = tsel k ua ub) {pace z : Int} (hT : TOK t) (hMo : MOK mo) (h0 : 0 ≤ kn ∧ kn ≤ 10) (h1 : -2 ≤ pace ∧ pace ≤ 3) (h2 : 0 ≤ z ∧ z ≤ 9999) (h3 : mo 0 < tDay t) (h4 : -9 ≤ mo 2 + pace ∧ mo 2 + pace ≤ 9) : SpI l 5 yX3_turn cX3_turn 6 (some .int) [mr 11, mr (tix k), mi pace, mi z] (hC uo ux ua ub (mo, kn, kp) v1 v2 up uq ur) (fun w h => w = trnR t pace z mo ∧ h = hC uo ux ua ub (mup (trnC t pace z mo) 0 (mo 0 + 1), min 10 (kn + 1), kp) v1 v2 up uq ur) := by
  have hT1 := hT.1
  have hT2 := hT.2.1
  have hT3 := hT.2.2.1
  have hT5 := hT.2.2.2.2.1
  have hT6 := hT.2.2.2.2.2.1
  have hm0 := hMo.1
  have hm1 := hMo.2.1
  have hm2 := hMo.2.2.1
  have hm3 := hMo.2.2.2.1
  have hcd := cndl_in hT (day := mo 0) (p := pace) (tNB t).toNat (by omega)
  cases k
  · obtain rfl : t = ua := ht
    refine SpI.of (cd := kdX3_turn) (fT := mlook flX3) (kT := mlook klX3) (kJ := mlook jlX3) mfA_X3_turn ok_X3_turn fT_X3 kT_X3 jT_X3 jdk_ok True.intro (Nat.le_of_ble_eq_true rfl) (fun G hG => ?_)
    refine rRun hG 65 ?_
    refine rVV hG (sp_X3_remember (uo := uo) (ux := ux) (ua := t) (ub := ub) (v1 := v1) (v2 := v2) (up := up) (uq := uq) (ur := ur) (mo := mo) (kn := kn) (kp := kp) h0) rfl rfl lk_X3_53 mf_X3_remember (by decide) (Nat.le_of_ble_eq_true rfl) ⟨_, _, _, rfl, rfl, rfl⟩ ?_
    rintro _ rfl
    refine rRun hG 65 ?_
    refine rV hG (sp_X3_day (uo := uo) (ux := ux) (ua := t) (ub := ub) (v1 := v1) (v2 := v2) (up := up) (uq := uq) (ur := ur) (mo := mcpy mo mo 0 9 90) (kn := min 10 (kn + 1)) (kp := kp)) rfl rfl lk_X3_33 mf_X3_day (by decide) (Nat.le_of_ble_eq_true rfl) ⟨_, _, _, rfl, rfl, rfl⟩ ?_
    rintro w _ ⟨hw, rfl⟩
    obtain rfl : w = mo 0 := hw
    refine rRun hG 65 ?_
    refine And.intro rfl (And.intro (by decide) (And.intro (by decide) (And.intro rfl (?_))))
    refine rV hG (sp_X3_rest (uo := uo) (ux := ux) (ua := t) (ub := ub) (v1 := v1) (v2 := v2) (up := up) (uq := uq) (ur := ur) (mo := (mup (mcpy mo mo 0 9 90) 2 (mo 2 + pace))) (kn := min 10 (kn + 1)) (kp := kp)) rfl rfl lk_X3_42 mf_X3_rest (by decide) (Nat.le_of_ble_eq_true rfl) ⟨_, _, _, rfl, rfl, rfl⟩ ?_
    rintro w _ ⟨hw, rfl⟩
    obtain rfl : w = mo 1 := hw
    refine rRun hG 65 ?_
    refine rMax hG rfl rfl lk_X3_56 (by decide) (Nat.le_of_ble_eq_true rfl) (by omega) ?_
    refine rRun hG 65 ?_
    refine And.intro (by decide) (And.intro rfl (?_))
    refine rV hG (sp_X3_candles (uo := uo) (ux := ux) (ua := t) (ub := ub) (v1 := v1) (v2 := v2) (up := up) (uq := uq) (ur := ur) (mo := (mup (mup (mcpy mo mo 0 9 90) 2 (mo 2 + pace)) 1 (max 0 (mo 1 - 4 - pace)))) (kn := min 10 (kn + 1)) (kp := kp)) rfl rfl lk_X3_62 mf_X3_candles (by decide) (Nat.le_of_ble_eq_true rfl) ⟨_, _, _, rfl, rfl, rfl⟩ ?_
    rintro w _ ⟨hw, rfl⟩
    obtain rfl : w = mo 3 := hw
    refine rRun hG 65 ?_
    refine rV hG (sp_X5_candlesFor (uo := uo) (ux := ux) (ua := t) (ub := ub) (v1 := v1) (v2 := v2) (up := up) (uq := uq) (ur := ur) (v0 := ((mup (mup (mcpy mo mo 0 9 90) 2 (mo 2 + pace)) 1 (max 0 (mo 1 - 4 - pace))), min 10 (kn + 1), kp)) (k := false) (t := t) (ht := rfl) (day := mo 0) (pace := pace) hT (by omega) (by omega)) rfl rfl lk_X3_65 mf_X5_candlesFor (by decide) (Nat.le_of_ble_eq_true rfl) ⟨_, _, _, rfl, rfl, rfl⟩ ?_
    rintro _ _ ⟨rfl, rfl⟩
    refine rRun hG 65 ?_
    refine rMin hG rfl rfl lk_X3_68 (by decide) (Nat.le_of_ble_eq_true rfl) (by omega) ?_
    refine rRun hG 65 ?_
    refine And.intro (by decide) (?_)
    have J65 : ∀ (n : Nat) (i : Nat), (i : Int) ≤ tNT t → (tNT t).toNat - i < n → G 65 [some (mr 11), some (mr 3), some (mi pace), some (mi z), some (mi (mo 0)), some (mi i)] [] (hC uo ux t ub ((hrmM (tTra t) (mo 2 + pace) (mup (mup (mup (mcpy mo mo 0 9 90) 2 (mo 2 + pace)) 1 (max 0 (mo 1 - 4 - pace))) 3 (min 999 (mo 3 + cndl (tBri t) (mo 0) pace (tNB t).toNat))) i), min 10 (kn + 1), kp) v1 v2 up uq ur) := by
      intro n
      induction n with
      | zero => intro i _ hm; exact absurd hm (Nat.not_lt_zero _)
      | succ n ih =>
        intro i hinv hm
        have hI : i < 4 → (hrmM (tTra t) (mo 2 + pace) (mup (mup (mup (mcpy mo mo 0 9 90) 2 (mo 2 + pace)) 1 (max 0 (mo 1 - 4 - pace))) 3 (min 999 (mo 3 + cndl (tBri t) (mo 0) pace (tNB t).toNat))) i) (5 + i) = mo (5 + i) := fun _ => by rw [hrmM_lo (by omega), mup_n (by omega), mup_n (by omega), mup_n (by omega)]; exact if_neg (by omega)
        have hE : (hrmM (tTra t) (mo 2 + pace) (mup (mup (mup (mcpy mo mo 0 9 90) 2 (mo 2 + pace)) 1 (max 0 (mo 1 - 4 - pace))) 3 (min 999 (mo 3 + cndl (tBri t) (mo 0) pace (tNB t).toNat))) i) 2 = mo 2 + pace := by rw [hrmM_lo (by omega), mup_n (by omega), mup_n (by omega), mup_s]
        have hD : (hrmM (tTra t) (mo 2 + pace) (mup (mup (mup (mcpy mo mo 0 9 90) 2 (mo 2 + pace)) 1 (max 0 (mo 1 - 4 - pace))) 3 (min 999 (mo 3 + cndl (tBri t) (mo 0) pace (tNB t).toNat))) i) 0 = mo 0 := by rw [hrmM_lo (by omega), mup_n (by omega), mup_n (by omega), mup_n (by omega)]; rfl
        refine rRun hG 99999 ?_
        refine And.intro rfl (And.intro (by first | omega | (dsimp only; omega)) (And.intro (fun cl => ?_) (fun cl => ?_)))
        · try dsimp only at cl
          refine rRun hG 99999 ?_
          obtain rfl : i = (tNT t).toNat := by omega
          refine rS hG (sp_X3_draw (uo := uo) (ux := ux) (ua := t) (ub := ub) (v1 := v1) (v2 := v2) (up := up) (uq := uq) (ur := ur) (mo := (trnM (tBri t) (tTra t) (tNB t).toNat (tNT t).toNat pace mo)) (kn := min 10 (kn + 1)) (kp := kp) (day := mo 0) (z := z) (by omega) (by omega)) rfl rfl lk_X3_84 mf_X3_draw (by decide) (Nat.le_of_ble_eq_true rfl) ?_
          rintro w _ ⟨hw, rfl⟩
          obtain rfl : w = drw (mo 0) z := hw
          have hw9 := drw_in (day := mo 0) (z := z) (by omega) (by omega)
          refine rRun hG 99999 ?_
          refine rV hG (sp_X5_sunOf (uo := uo) (ux := ux) (ua := t) (ub := ub) (v1 := v1) (v2 := v2) (up := up) (uq := uq) (ur := ur) (v0 := ((trnM (tBri t) (tTra t) (tNB t).toNat (tNT t).toNat pace mo), min 10 (kn + 1), kp)) (k := false) (t := t) (ht := rfl) (i := mo 0) (by omega) (by omega)) rfl rfl lk_X3_87 mf_X5_sunOf (by decide) (Nat.le_of_ble_eq_true rfl) ⟨_, _, _, rfl, rfl, rfl⟩ ?_
          rintro w _ ⟨hw, rfl⟩
          rw [if_pos (by omega)] at hw
          subst hw
          have hs9 := hT.2.2.2.2.2.2.1 (mo 0).toNat (by omega)
          refine rRun hG 99999 ?_
          refine And.intro (by first | omega | (dsimp only; omega)) (And.intro (fun cd => ?_) (fun cd => ?_))
          · try dsimp only at cd
            refine rRun hG 99999 ?_
            refine And.intro rfl (And.intro (by decide) (?_))
            refine rIR hG rfl rfl (True.intro) ?_
            refine ⟨?_, ?_⟩
            · unfold trnR; first | (rw [if_pos (by omega)]; done) | (rw [if_neg (by omega)]; done)
            · unfold trnC; first | (rw [if_pos (by omega)]; done) | (rw [if_pos (by omega)]; rfl) | (rw [if_neg (by omega)]; rfl)
          · try dsimp only at cd
            refine rV hG (sp_X3_check (uo := uo) (ux := ux) (ua := t) (ub := ub) (v1 := v1) (v2 := v2) (up := up) (uq := uq) (ur := ur) (mo := (trnM (tBri t) (tTra t) (tNB t).toNat (tNT t).toNat pace mo)) (kn := min 10 (kn + 1)) (kp := kp) (k := false) (t := t) (ht := rfl) (by rw [show (trnM (tBri t) (tTra t) (tNB t).toNat (tNT t).toNat pace mo) 2 = mo 2 + pace from hE]; omega) (by omega) (by rw [show (trnM (tBri t) (tTra t) (tNB t).toNat (tNT t).toNat pace mo) 1 = max 0 (mo 1 - 4 - pace) by (unfold trnM; rw [hrmM_lo (by omega), mup_n (by omega), mup_s])]; omega) (by omega)) rfl rfl lk_X3_90 mf_X3_check (by decide) (Nat.le_of_ble_eq_true rfl) ⟨_, _, _, rfl, rfl, rfl⟩ ?_
            rintro _ _ ⟨rfl, rfl⟩
            refine rRun hG 99999 ?_
            refine rRun hG 99999 ?_
            refine And.intro rfl (And.intro (by decide) (?_))
            refine rIR hG rfl rfl (True.intro) ?_
            refine ⟨?_, ?_⟩
            · unfold trnR; first | (rw [if_pos (by omega)]; done) | (rw [if_neg (by omega)]; done)
            · unfold trnC; first | (rw [if_pos (by omega)]; done) | (rw [if_pos (by omega)]; rfl) | (rw [if_neg (by omega)]; rfl)
        · try dsimp only at cl
          refine rV hG (sp_X3_harmOf (uo := uo) (ux := ux) (ua := t) (ub := ub) (v1 := v1) (v2 := v2) (up := up) (uq := uq) (ur := ur) (mo := (hrmM (tTra t) (mo 2 + pace) (mup (mup (mup (mcpy mo mo 0 9 90) 2 (mo 2 + pace)) 1 (max 0 (mo 1 - 4 - pace))) 3 (min 999 (mo 3 + cndl (tBri t) (mo 0) pace (tNB t).toNat))) i)) (kn := min 10 (kn + 1)) (kp := kp) (i := (i : Int)) (by omega)) rfl rfl lk_X3_29 mf_X3_harmOf (by decide) (Nat.le_of_ble_eq_true rfl) ⟨_, _, _, rfl, rfl, rfl⟩ ?_
          rintro w _ ⟨hw, rfl⟩
          rw [if_pos (by omega), show (5 + (i : Int)).toNat = 5 + i by omega] at hw
          subst hw
          have hH := hMo.2.2.2.2 i (by omega)
          have hJ := hI (by omega)
          have hR := hrm1_in hT (e := mo 2 + pace) (by omega) (i := i) (by omega)
          refine rRun hG 99999 ?_
          refine rV hG (sp_X3_error (uo := uo) (ux := ux) (ua := t) (ub := ub) (v1 := v1) (v2 := v2) (up := up) (uq := uq) (ur := ur) (mo := (hrmM (tTra t) (mo 2 + pace) (mup (mup (mup (mcpy mo mo 0 9 90) 2 (mo 2 + pace)) 1 (max 0 (mo 1 - 4 - pace))) 3 (min 999 (mo 3 + cndl (tBri t) (mo 0) pace (tNB t).toNat))) i)) (kn := min 10 (kn + 1)) (kp := kp)) rfl rfl lk_X3_74 mf_X3_error (by decide) (Nat.le_of_ble_eq_true rfl) ⟨_, _, _, rfl, rfl, rfl⟩ ?_
          rintro w _ ⟨hw, rfl⟩
          rw [hE] at hw
          subst hw
          refine rV hG (sp_X5_harmTo (uo := uo) (ux := ux) (ua := t) (ub := ub) (v1 := v1) (v2 := v2) (up := up) (uq := uq) (ur := ur) (v0 := ((hrmM (tTra t) (mo 2 + pace) (mup (mup (mup (mcpy mo mo 0 9 90) 2 (mo 2 + pace)) 1 (max 0 (mo 1 - 4 - pace))) 3 (min 999 (mo 3 + cndl (tBri t) (mo 0) pace (tNB t).toNat))) i), min 10 (kn + 1), kp)) (k := false) (t := t) (ht := rfl) (i := i) (er := mo 2 + pace) hT (by omega) (by omega)) rfl rfl lk_X3_77 mf_X5_harmTo (by decide) (Nat.le_of_ble_eq_true rfl) ⟨_, _, _, rfl, rfl, rfl⟩ ?_
          rintro _ _ ⟨rfl, rfl⟩
          refine rRun hG 99999 ?_
          refine rMin hG rfl rfl lk_X3_68 (by decide) (Nat.le_of_ble_eq_true rfl) (by omega) ?_
          refine rVV hG (sp_X3_setHarm (uo := uo) (ux := ux) (ua := t) (ub := ub) (v1 := v1) (v2 := v2) (up := up) (uq := uq) (ur := ur) (mo := (hrmM (tTra t) (mo 2 + pace) (mup (mup (mup (mcpy mo mo 0 9 90) 2 (mo 2 + pace)) 1 (max 0 (mo 1 - 4 - pace))) 3 (min 999 (mo 3 + cndl (tBri t) (mo 0) pace (tNB t).toNat))) i)) (kn := min 10 (kn + 1)) (kp := kp) (i := (i : Int)) (w := min 9999 ((hrmM (tTra t) (mo 2 + pace) (mup (mup (mup (mcpy mo mo 0 9 90) 2 (mo 2 + pace)) 1 (max 0 (mo 1 - 4 - pace))) 3 (min 999 (mo 3 + cndl (tBri t) (mo 0) pace (tNB t).toNat))) i) (5 + i) + hrm1 (tTra t) (mo 2 + pace) i)) (by omega)) rfl rfl lk_X3_80 mf_X3_setHarm (by decide) (Nat.le_of_ble_eq_true rfl) ⟨_, _, _, rfl, rfl, rfl⟩ ?_
          rintro _ rfl
          rw [if_pos (by omega), show (5 + (i : Int)).toNat = 5 + i by omega]
          refine rRun hG 99999 ?_
          exact ih (i + 1) (by omega) (by omega)
    exact J65 _ 0 (by omega) (Nat.lt_succ_self _)
  · obtain rfl : t = ub := ht
    refine SpI.of (cd := kdX3_turn) (fT := mlook flX3) (kT := mlook klX3) (kJ := mlook jlX3) mfA_X3_turn ok_X3_turn fT_X3 kT_X3 jT_X3 jdk_ok True.intro (Nat.le_of_ble_eq_true rfl) (fun G hG => ?_)
    refine rRun hG 65 ?_
    refine rVV hG (sp_X3_remember (uo := uo) (ux := ux) (ua := ua) (ub := t) (v1 := v1) (v2 := v2) (up := up) (uq := uq) (ur := ur) (mo := mo) (kn := kn) (kp := kp) h0) rfl rfl lk_X3_53 mf_X3_remember (by decide) (Nat.le_of_ble_eq_true rfl) ⟨_, _, _, rfl, rfl, rfl⟩ ?_
    rintro _ rfl
    refine rRun hG 65 ?_
    refine rV hG (sp_X3_day (uo := uo) (ux := ux) (ua := ua) (ub := t) (v1 := v1) (v2 := v2) (up := up) (uq := uq) (ur := ur) (mo := mcpy mo mo 0 9 90) (kn := min 10 (kn + 1)) (kp := kp)) rfl rfl lk_X3_33 mf_X3_day (by decide) (Nat.le_of_ble_eq_true rfl) ⟨_, _, _, rfl, rfl, rfl⟩ ?_
    rintro w _ ⟨hw, rfl⟩
    obtain rfl : w = mo 0 := hw
    refine rRun hG 65 ?_
    refine And.intro rfl (And.intro (by decide) (And.intro (by decide) (And.intro rfl (?_))))
    refine rV hG (sp_X3_rest (uo := uo) (ux := ux) (ua := ua) (ub := t) (v1 := v1) (v2 := v2) (up := up) (uq := uq) (ur := ur) (mo := (mup (mcpy mo mo 0 9 90) 2 (mo 2 + pace))) (kn := min 10 (kn + 1)) (kp := kp)) rfl rfl lk_X3_42 mf_X3_rest (by decide) (Nat.le_of_ble_eq_true rfl) ⟨_, _, _, rfl, rfl, rfl⟩ ?_
    rintro w _ ⟨hw, rfl⟩
    obtain rfl : w = mo 1 := hw
    refine rRun hG 65 ?_
    refine rMax hG rfl rfl lk_X3_56 (by decide) (Nat.le_of_ble_eq_true rfl) (by omega) ?_
    refine rRun hG 65 ?_
    refine And.intro (by decide) (And.intro rfl (?_))
    refine rV hG (sp_X3_candles (uo := uo) (ux := ux) (ua := ua) (ub := t) (v1 := v1) (v2 := v2) (up := up) (uq := uq) (ur := ur) (mo := (mup (mup (mcpy mo mo 0 9 90) 2 (mo 2 + pace)) 1 (max 0 (mo 1 - 4 - pace)))) (kn := min 10 (kn + 1)) (kp := kp)) rfl rfl lk_X3_62 mf_X3_candles (by decide) (Nat.le_of_ble_eq_true rfl) ⟨_, _, _, rfl, rfl, rfl⟩ ?_
    rintro w _ ⟨hw, rfl⟩
    obtain rfl : w = mo 3 := hw
    refine rRun hG 65 ?_
    refine rV hG (sp_X5_candlesFor (uo := uo) (ux := ux) (ua := ua) (ub := t) (v1 := v1) (v2 := v2) (up := up) (uq := uq) (ur := ur) (v0 := ((mup (mup (mcpy mo mo 0 9 90) 2 (mo 2 + pace)) 1 (max 0 (mo 1 - 4 - pace))), min 10 (kn + 1), kp)) (k := true) (t := t) (ht := rfl) (day := mo 0) (pace := pace) hT (by omega) (by omega)) rfl rfl lk_X3_65 mf_X5_candlesFor (by decide) (Nat.le_of_ble_eq_true rfl) ⟨_, _, _, rfl, rfl, rfl⟩ ?_
    rintro _ _ ⟨rfl, rfl⟩
    refine rRun hG 65 ?_
    refine rMin hG rfl rfl lk_X3_68 (by decide) (Nat.le_of_ble_eq_true rfl) (by omega) ?_
    refine rRun hG 65 ?_
    refine And.intro (by decide) (?_)
    have J65 : ∀ (n : Nat) (i : Nat), (i : Int) ≤ tNT t → (tNT t).toNat - i < n → G 65 [some (mr 11), some (mr 7), some (mi pace), some (mi z), some (mi (mo 0)), some (mi i)] [] (hC uo ux ua t ((hrmM (tTra t) (mo 2 + pace) (mup (mup (mup (mcpy mo mo 0 9 90) 2 (mo 2 + pace)) 1 (max 0 (mo 1 - 4 - pace))) 3 (min 999 (mo 3 + cndl (tBri t) (mo 0) pace (tNB t).toNat))) i), min 10 (kn + 1), kp) v1 v2 up uq ur) := by
      intro n
      induction n with
      | zero => intro i _ hm; exact absurd hm (Nat.not_lt_zero _)
      | succ n ih =>
        intro i hinv hm
        have hI : i < 4 → (hrmM (tTra t) (mo 2 + pace) (mup (mup (mup (mcpy mo mo 0 9 90) 2 (mo 2 + pace)) 1 (max 0 (mo 1 - 4 - pace))) 3 (min 999 (mo 3 + cndl (tBri t) (mo 0) pace (tNB t).toNat))) i) (5 + i) = mo (5 + i) := fun _ => by rw [hrmM_lo (by omega), mup_n (by omega), mup_n (by omega), mup_n (by omega)]; exact if_neg (by omega)
        have hE : (hrmM (tTra t) (mo 2 + pace) (mup (mup (mup (mcpy mo mo 0 9 90) 2 (mo 2 + pace)) 1 (max 0 (mo 1 - 4 - pace))) 3 (min 999 (mo 3 + cndl (tBri t) (mo 0) pace (tNB t).toNat))) i) 2 = mo 2 + pace := by rw [hrmM_lo (by omega), mup_n (by omega), mup_n (by omega), mup_s]
        have hD : (hrmM (tTra t) (mo 2 + pace) (mup (mup (mup (mcpy mo mo 0 9 90) 2 (mo 2 + pace)) 1 (max 0 (mo 1 - 4 - pace))) 3 (min 999 (mo 3 + cndl (tBri t) (mo 0) pace (tNB t).toNat))) i) 0 = mo 0 := by rw [hrmM_lo (by omega), mup_n (by omega), mup_n (by omega), mup_n (by omega)]; rfl
        refine rRun hG 99999 ?_
        refine And.intro rfl (And.intro (by first | omega | (dsimp only; omega)) (And.intro (fun cl => ?_) (fun cl => ?_)))
        · try dsimp only at cl
          refine rRun hG 99999 ?_
          obtain rfl : i = (tNT t).toNat := by omega
          refine rS hG (sp_X3_draw (uo := uo) (ux := ux) (ua := ua) (ub := t) (v1 := v1) (v2 := v2) (up := up) (uq := uq) (ur := ur) (mo := (trnM (tBri t) (tTra t) (tNB t).toNat (tNT t).toNat pace mo)) (kn := min 10 (kn + 1)) (kp := kp) (day := mo 0) (z := z) (by omega) (by omega)) rfl rfl lk_X3_84 mf_X3_draw (by decide) (Nat.le_of_ble_eq_true rfl) ?_
          rintro w _ ⟨hw, rfl⟩
          obtain rfl : w = drw (mo 0) z := hw
          have hw9 := drw_in (day := mo 0) (z := z) (by omega) (by omega)
          refine rRun hG 99999 ?_
          refine rV hG (sp_X5_sunOf (uo := uo) (ux := ux) (ua := ua) (ub := t) (v1 := v1) (v2 := v2) (up := up) (uq := uq) (ur := ur) (v0 := ((trnM (tBri t) (tTra t) (tNB t).toNat (tNT t).toNat pace mo), min 10 (kn + 1), kp)) (k := true) (t := t) (ht := rfl) (i := mo 0) (by omega) (by omega)) rfl rfl lk_X3_87 mf_X5_sunOf (by decide) (Nat.le_of_ble_eq_true rfl) ⟨_, _, _, rfl, rfl, rfl⟩ ?_
          rintro w _ ⟨hw, rfl⟩
          rw [if_pos (by omega)] at hw
          subst hw
          have hs9 := hT.2.2.2.2.2.2.1 (mo 0).toNat (by omega)
          refine rRun hG 99999 ?_
          refine And.intro (by first | omega | (dsimp only; omega)) (And.intro (fun cd => ?_) (fun cd => ?_))
          · try dsimp only at cd
            refine rRun hG 99999 ?_
            refine And.intro rfl (And.intro (by decide) (?_))
            refine rIR hG rfl rfl (True.intro) ?_
            refine ⟨?_, ?_⟩
            · unfold trnR; first | (rw [if_pos (by omega)]; done) | (rw [if_neg (by omega)]; done)
            · unfold trnC; first | (rw [if_pos (by omega)]; done) | (rw [if_pos (by omega)]; rfl) | (rw [if_neg (by omega)]; rfl)
          · try dsimp only at cd
            refine rV hG (sp_X3_check (uo := uo) (ux := ux) (ua := ua) (ub := t) (v1 := v1) (v2 := v2) (up := up) (uq := uq) (ur := ur) (mo := (trnM (tBri t) (tTra t) (tNB t).toNat (tNT t).toNat pace mo)) (kn := min 10 (kn + 1)) (kp := kp) (k := true) (t := t) (ht := rfl) (by rw [show (trnM (tBri t) (tTra t) (tNB t).toNat (tNT t).toNat pace mo) 2 = mo 2 + pace from hE]; omega) (by omega) (by rw [show (trnM (tBri t) (tTra t) (tNB t).toNat (tNT t).toNat pace mo) 1 = max 0 (mo 1 - 4 - pace) by (unfold trnM; rw [hrmM_lo (by omega), mup_n (by omega), mup_s])]; omega) (by omega)) rfl rfl lk_X3_90 mf_X3_check (by decide) (Nat.le_of_ble_eq_true rfl) ⟨_, _, _, rfl, rfl, rfl⟩ ?_
            rintro _ _ ⟨rfl, rfl⟩
            refine rRun hG 99999 ?_
            refine rRun hG 99999 ?_
            refine And.intro rfl (And.intro (by decide) (?_))
            refine rIR hG rfl rfl (True.intro) ?_
            refine ⟨?_, ?_⟩
            · unfold trnR; first | (rw [if_pos (by omega)]; done) | (rw [if_neg (by omega)]; done)
            · unfold trnC; first | (rw [if_pos (by omega)]; done) | (rw [if_pos (by omega)]; rfl) | (rw [if_neg (by omega)]; rfl)
        · try dsimp only at cl
          refine rV hG (sp_X3_harmOf (uo := uo) (ux := ux) (ua := ua) (ub := t) (v1 := v1) (v2 := v2) (up := up) (uq := uq) (ur := ur) (mo := (hrmM (tTra t) (mo 2 + pace) (mup (mup (mup (mcpy mo mo 0 9 90) 2 (mo 2 + pace)) 1 (max 0 (mo 1 - 4 - pace))) 3 (min 999 (mo 3 + cndl (tBri t) (mo 0) pace (tNB t).toNat))) i)) (kn := min 10 (kn + 1)) (kp := kp) (i := (i : Int)) (by omega)) rfl rfl lk_X3_29 mf_X3_harmOf (by decide) (Nat.le_of_ble_eq_true rfl) ⟨_, _, _, rfl, rfl, rfl⟩ ?_
          rintro w _ ⟨hw, rfl⟩
          rw [if_pos (by omega), show (5 + (i : Int)).toNat = 5 + i by omega] at hw
          subst hw
          have hH := hMo.2.2.2.2 i (by omega)
          have hJ := hI (by omega)
          have hR := hrm1_in hT (e := mo 2 + pace) (by omega) (i := i) (by omega)
          refine rRun hG 99999 ?_
          refine rV hG (sp_X3_error (uo := uo) (ux := ux) (ua := ua) (ub := t) (v1 := v1) (v2 := v2) (up := up) (uq := uq) (ur := ur) (mo := (hrmM (tTra t) (mo 2 + pace) (mup (mup (mup (mcpy mo mo 0 9 90) 2 (mo 2 + pace)) 1 (max 0 (mo 1 - 4 - pace))) 3 (min 999 (mo 3 + cndl (tBri t) (mo 0) pace (tNB t).toNat))) i)) (kn := min 10 (kn + 1)) (kp := kp)) rfl rfl lk_X3_74 mf_X3_error (by decide) (Nat.le_of_ble_eq_true rfl) ⟨_, _, _, rfl, rfl, rfl⟩ ?_
          rintro w _ ⟨hw, rfl⟩
          rw [hE] at hw
          subst hw
          refine rV hG (sp_X5_harmTo (uo := uo) (ux := ux) (ua := ua) (ub := t) (v1 := v1) (v2 := v2) (up := up) (uq := uq) (ur := ur) (v0 := ((hrmM (tTra t) (mo 2 + pace) (mup (mup (mup (mcpy mo mo 0 9 90) 2 (mo 2 + pace)) 1 (max 0 (mo 1 - 4 - pace))) 3 (min 999 (mo 3 + cndl (tBri t) (mo 0) pace (tNB t).toNat))) i), min 10 (kn + 1), kp)) (k := true) (t := t) (ht := rfl) (i := i) (er := mo 2 + pace) hT (by omega) (by omega)) rfl rfl lk_X3_77 mf_X5_harmTo (by decide) (Nat.le_of_ble_eq_true rfl) ⟨_, _, _, rfl, rfl, rfl⟩ ?_
          rintro _ _ ⟨rfl, rfl⟩
          refine rRun hG 99999 ?_
          refine rMin hG rfl rfl lk_X3_68 (by decide) (Nat.le_of_ble_eq_true rfl) (by omega) ?_
          refine rVV hG (sp_X3_setHarm (uo := uo) (ux := ux) (ua := ua) (ub := t) (v1 := v1) (v2 := v2) (up := up) (uq := uq) (ur := ur) (mo := (hrmM (tTra t) (mo 2 + pace) (mup (mup (mup (mcpy mo mo 0 9 90) 2 (mo 2 + pace)) 1 (max 0 (mo 1 - 4 - pace))) 3 (min 999 (mo 3 + cndl (tBri t) (mo 0) pace (tNB t).toNat))) i)) (kn := min 10 (kn + 1)) (kp := kp) (i := (i : Int)) (w := min 9999 ((hrmM (tTra t) (mo 2 + pace) (mup (mup (mup (mcpy mo mo 0 9 90) 2 (mo 2 + pace)) 1 (max 0 (mo 1 - 4 - pace))) 3 (min 999 (mo 3 + cndl (tBri t) (mo 0) pace (tNB t).toNat))) i) (5 + i) + hrm1 (tTra t) (mo 2 + pace) i)) (by omega)) rfl rfl lk_X3_80 mf_X3_setHarm (by decide) (Nat.le_of_ble_eq_true rfl) ⟨_, _, _, rfl, rfl, rfl⟩ ?_
          rintro _ rfl
          rw [if_pos (by omega), show (5 + (i : Int)).toNat = 5 + i by omega]
          refine rRun hG 99999 ?_
          exact ih (i + 1) (by omega) (by omega)
    exact J65 _ 0 (by omega) (Nat.lt_succ_self _)
end WALKS
