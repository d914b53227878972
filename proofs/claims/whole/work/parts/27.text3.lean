/-! Text: the items -/
section WALKS
variable {l : Launch}
theorem xB_g {x : XD} {r l a : Int} : xB (xFlg x r l a) = xB x := rfl
theorem tsel_2 {k : Bool} {ua ub t t' : TD} : t' = tsel k (cond k ua t') (cond k t' ub) := by cases k <;> rfl
set_option maxRecDepth 20000 in
set_option maxHeartbeats 2000000 in
theorem sp_X4_readDay {uo : UD} {ux : XD} {ua ub : TD} {v0 v1 v2 : SD} {up uq : PD} {ur : HD} {k : Bool} {t : TD} (ht : t = tsel k ua ub)  (hX : XOK ux) (hD : 0 ≤ tDay t ∧ tDay t ≤ 14) (hN : 0 ≤ tNB t ∧ tNB t ≤ 6) (hM : 0 ≤ tNT t ∧ tNT t ≤ 4) : SpV l 6 yX4_readDay cX4_readDay 3 none [mr 1, mr (tix k)] (hC uo ux ua ub v0 v1 v2 up uq ur) (fun h => h = hC uo (rdDayX ux t) (cond k ua (rdDayT ux t)) (cond k (rdDayT ux t) ub) v0 v1 v2 up uq ur) := by
  have hx6 := hX.2.2.2.2.2.1
  cases k
  · obtain rfl : t = ua := ht
    refine SpV.of (cd := kdX4_readDay) (fT := mlook flX4) (kT := mlook klX4) (kJ := mlook jlX4) mfA_X4_readDay ok_X4_readDay fT_X4 kT_X4 jT_X4 jdk_ok True.intro (Nat.le_of_ble_eq_true rfl) (fun G hG => ?_)
    have J : G 15 [some (mr 1), some (mr 3), none] [mi (b2i (14 ≤ tDay t)), mr 1] (hC uo ux t ub v0 v1 v2 up uq ur) := by
      refine rVV hG (sp_X4_refuseIf (uo := uo) (ux := ux) (ua := t) (ub := ub) (v0 := v0) (v1 := v1) (v2 := v2) (up := up) (uq := uq) (ur := ur) (c := b2i (14 ≤ tDay t)) (by unfold b2i; split <;> omega)) rfl rfl lk_X4_77 mf_X4_refuseIf (by decide) (Nat.le_of_ble_eq_true rfl) ⟨_, _, _, rfl, rfl, rfl⟩ ?_
      rintro _ rfl
      refine rRun hG 99999 ?_
      refine rV hG (sp_X4_number (uo := uo) (ux := (rfs (b2i (14 ≤ tDay t)) ux)) (ua := t) (ub := ub) (v0 := v0) (v1 := v1) (v2 := v2) (up := up) (uq := uq) (ur := ur) (lo := 0) (hi := 10) (XOK_rfs hX) (by omega) (by omega)) rfl rfl lk_X4_81 mf_X4_number (by decide) (Nat.le_of_ble_eq_true rfl) ⟨_, _, _, rfl, rfl, rfl⟩ ?_
      rintro _ _ ⟨rfl, rfl⟩
      refine rRun hG 99999 ?_
      refine rV hG (sp_X4_stops (uo := uo) (ux := (numX 0 10 (rfs (b2i (14 ≤ tDay t)) ux))) (ua := t) (ub := ub) (v0 := v0) (v1 := v1) (v2 := v2) (up := up) (uq := uq) (ur := ur) (XOK_num (XOK_rfs hX))) rfl rfl lk_X4_85 mf_X4_stops (by decide) (Nat.le_of_ble_eq_true rfl) ⟨_, _, _, rfl, rfl, rfl⟩ ?_
      rintro w9 _ ⟨hw, rfl⟩
      have hw1 : (w9 = 1 ∧ xF (stpX (numX 0 10 (rfs (b2i (14 ≤ tDay t)) ux))) = -1) ∨ (w9 = 0 ∧ ¬ xF (stpX (numX 0 10 (rfs (b2i (14 ≤ tDay t)) ux))) = -1) := (by rw [hw]; by_cases q9 : xF (stpX (numX 0 10 (rfs (b2i (14 ≤ tDay t)) ux))) = -1 <;> simp [q9])
      clear hw
      refine rRun hG 99999 ?_
      refine And.intro (by first | omega | (simp only [xB_s, xN_s, xP_s, xS_s, xK_s, xV_s, xF_s, xR_s, xL_s, xA_s]; omega)) (And.intro (fun cs => ?_) (fun cs => ?_))
      · try simp only [xB_s, xN_s, xP_s, xS_s, xK_s, xV_s, xF_s, xR_s, xL_s, xA_s] at cs
        refine rVR hG rfl rfl rfl ?_
        have hq : (w9 = 1 ∧ xF (rdDayX ux t) = -1) ∨ (w9 = 0 ∧ ¬ xF (rdDayX ux t) = -1) := hw1
        unfold rdDayT
        first | (rw [if_pos (by omega : xF (rdDayX ux t) = -1)]; done) | (rw [if_pos (by omega : xF (rdDayX ux t) = -1)]; rfl) | (rw [if_neg (by omega : ¬ xF (rdDayX ux t) = -1)]; done) | (rw [if_neg (by omega : ¬ xF (rdDayX ux t) = -1)]; rfl)
      · try simp only [xB_s, xN_s, xP_s, xS_s, xK_s, xV_s, xF_s, xR_s, xL_s, xA_s] at cs
        refine rVV hG (sp_X5_addDay (uo := uo) (ux := (rdDayX ux t)) (ua := t) (ub := ub) (v0 := v0) (v1 := v1) (v2 := v2) (up := up) (uq := uq) (ur := ur) (k := false) (t := t) (ht := rfl) (s := numR 0 (rfs (b2i (14 ≤ tDay t)) ux)) (by omega)) rfl rfl lk_X4_89 mf_X5_addDay (by decide) (Nat.le_of_ble_eq_true rfl) ⟨_, _, _, rfl, rfl, rfl⟩ ?_
        rintro _ rfl
        refine rVR hG rfl rfl rfl ?_
        have hq : (w9 = 1 ∧ xF (rdDayX ux t) = -1) ∨ (w9 = 0 ∧ ¬ xF (rdDayX ux t) = -1) := hw1
        unfold rdDayT
        first | (rw [if_pos (by omega : xF (rdDayX ux t) = -1)]; done) | (rw [if_pos (by omega : xF (rdDayX ux t) = -1)]; rfl) | (rw [if_neg (by omega : ¬ xF (rdDayX ux t) = -1)]; done) | (rw [if_neg (by omega : ¬ xF (rdDayX ux t) = -1)]; rfl)
    refine rRun hG 15 ?_
    refine And.intro rfl (And.intro (by first | omega | (simp only [xB_s, xN_s, xP_s, xS_s, xK_s, xV_s, xF_s, xR_s, xL_s, xA_s]; omega)) (And.intro (fun c1 => ?_) (fun c1 => ?_)))
    · try simp only [xB_s, xN_s, xP_s, xS_s, xK_s, xV_s, xF_s, xR_s, xL_s, xA_s] at c1
      refine rRun hG 15 ?_
      first | (rw [show b2i (14 ≤ tDay t) = 1 from if_pos (by omega)] at J; exact J) | (rw [show b2i (14 ≤ tDay t) = 0 from if_neg (by omega)] at J; exact J)
    · try simp only [xB_s, xN_s, xP_s, xS_s, xK_s, xV_s, xF_s, xR_s, xL_s, xA_s] at c1
      first | (rw [show b2i (14 ≤ tDay t) = 1 from if_pos (by omega)] at J; exact J) | (rw [show b2i (14 ≤ tDay t) = 0 from if_neg (by omega)] at J; exact J)
  · obtain rfl : t = ub := ht
    refine SpV.of (cd := kdX4_readDay) (fT := mlook flX4) (kT := mlook klX4) (kJ := mlook jlX4) mfA_X4_readDay ok_X4_readDay fT_X4 kT_X4 jT_X4 jdk_ok True.intro (Nat.le_of_ble_eq_true rfl) (fun G hG => ?_)
    have J : G 15 [some (mr 1), some (mr 7), none] [mi (b2i (14 ≤ tDay t)), mr 1] (hC uo ux ua t v0 v1 v2 up uq ur) := by
      refine rVV hG (sp_X4_refuseIf (uo := uo) (ux := ux) (ua := ua) (ub := t) (v0 := v0) (v1 := v1) (v2 := v2) (up := up) (uq := uq) (ur := ur) (c := b2i (14 ≤ tDay t)) (by unfold b2i; split <;> omega)) rfl rfl lk_X4_77 mf_X4_refuseIf (by decide) (Nat.le_of_ble_eq_true rfl) ⟨_, _, _, rfl, rfl, rfl⟩ ?_
      rintro _ rfl
      refine rRun hG 99999 ?_
      refine rV hG (sp_X4_number (uo := uo) (ux := (rfs (b2i (14 ≤ tDay t)) ux)) (ua := ua) (ub := t) (v0 := v0) (v1 := v1) (v2 := v2) (up := up) (uq := uq) (ur := ur) (lo := 0) (hi := 10) (XOK_rfs hX) (by omega) (by omega)) rfl rfl lk_X4_81 mf_X4_number (by decide) (Nat.le_of_ble_eq_true rfl) ⟨_, _, _, rfl, rfl, rfl⟩ ?_
      rintro _ _ ⟨rfl, rfl⟩
      refine rRun hG 99999 ?_
      refine rV hG (sp_X4_stops (uo := uo) (ux := (numX 0 10 (rfs (b2i (14 ≤ tDay t)) ux))) (ua := ua) (ub := t) (v0 := v0) (v1 := v1) (v2 := v2) (up := up) (uq := uq) (ur := ur) (XOK_num (XOK_rfs hX))) rfl rfl lk_X4_85 mf_X4_stops (by decide) (Nat.le_of_ble_eq_true rfl) ⟨_, _, _, rfl, rfl, rfl⟩ ?_
      rintro w9 _ ⟨hw, rfl⟩
      have hw1 : (w9 = 1 ∧ xF (stpX (numX 0 10 (rfs (b2i (14 ≤ tDay t)) ux))) = -1) ∨ (w9 = 0 ∧ ¬ xF (stpX (numX 0 10 (rfs (b2i (14 ≤ tDay t)) ux))) = -1) := (by rw [hw]; by_cases q9 : xF (stpX (numX 0 10 (rfs (b2i (14 ≤ tDay t)) ux))) = -1 <;> simp [q9])
      clear hw
      refine rRun hG 99999 ?_
      refine And.intro (by first | omega | (simp only [xB_s, xN_s, xP_s, xS_s, xK_s, xV_s, xF_s, xR_s, xL_s, xA_s]; omega)) (And.intro (fun cs => ?_) (fun cs => ?_))
      · try simp only [xB_s, xN_s, xP_s, xS_s, xK_s, xV_s, xF_s, xR_s, xL_s, xA_s] at cs
        refine rVR hG rfl rfl rfl ?_
        have hq : (w9 = 1 ∧ xF (rdDayX ux t) = -1) ∨ (w9 = 0 ∧ ¬ xF (rdDayX ux t) = -1) := hw1
        unfold rdDayT
        first | (rw [if_pos (by omega : xF (rdDayX ux t) = -1)]; done) | (rw [if_pos (by omega : xF (rdDayX ux t) = -1)]; rfl) | (rw [if_neg (by omega : ¬ xF (rdDayX ux t) = -1)]; done) | (rw [if_neg (by omega : ¬ xF (rdDayX ux t) = -1)]; rfl)
      · try simp only [xB_s, xN_s, xP_s, xS_s, xK_s, xV_s, xF_s, xR_s, xL_s, xA_s] at cs
        refine rVV hG (sp_X5_addDay (uo := uo) (ux := (rdDayX ux t)) (ua := ua) (ub := t) (v0 := v0) (v1 := v1) (v2 := v2) (up := up) (uq := uq) (ur := ur) (k := true) (t := t) (ht := rfl) (s := numR 0 (rfs (b2i (14 ≤ tDay t)) ux)) (by omega)) rfl rfl lk_X4_89 mf_X5_addDay (by decide) (Nat.le_of_ble_eq_true rfl) ⟨_, _, _, rfl, rfl, rfl⟩ ?_
        rintro _ rfl
        refine rVR hG rfl rfl rfl ?_
        have hq : (w9 = 1 ∧ xF (rdDayX ux t) = -1) ∨ (w9 = 0 ∧ ¬ xF (rdDayX ux t) = -1) := hw1
        unfold rdDayT
        first | (rw [if_pos (by omega : xF (rdDayX ux t) = -1)]; done) | (rw [if_pos (by omega : xF (rdDayX ux t) = -1)]; rfl) | (rw [if_neg (by omega : ¬ xF (rdDayX ux t) = -1)]; done) | (rw [if_neg (by omega : ¬ xF (rdDayX ux t) = -1)]; rfl)
    refine rRun hG 15 ?_
    refine And.intro rfl (And.intro (by first | omega | (simp only [xB_s, xN_s, xP_s, xS_s, xK_s, xV_s, xF_s, xR_s, xL_s, xA_s]; omega)) (And.intro (fun c1 => ?_) (fun c1 => ?_)))
    · try simp only [xB_s, xN_s, xP_s, xS_s, xK_s, xV_s, xF_s, xR_s, xL_s, xA_s] at c1
      refine rRun hG 15 ?_
      first | (rw [show b2i (14 ≤ tDay t) = 1 from if_pos (by omega)] at J; exact J) | (rw [show b2i (14 ≤ tDay t) = 0 from if_neg (by omega)] at J; exact J)
    · try simp only [xB_s, xN_s, xP_s, xS_s, xK_s, xV_s, xF_s, xR_s, xL_s, xA_s] at c1
      first | (rw [show b2i (14 ≤ tDay t) = 1 from if_pos (by omega)] at J; exact J) | (rw [show b2i (14 ≤ tDay t) = 0 from if_neg (by omega)] at J; exact J)
set_option maxRecDepth 20000 in
set_option maxHeartbeats 2000000 in
theorem sp_X4_readBribe {uo : UD} {ux : XD} {ua ub : TD} {v0 v1 v2 : SD} {up uq : PD} {ur : HD} {k : Bool} {t : TD} (ht : t = tsel k ua ub)  (hX : XOK ux) (hD : 0 ≤ tDay t ∧ tDay t ≤ 14) (hN : 0 ≤ tNB t ∧ tNB t ≤ 6) (hM : 0 ≤ tNT t ∧ tNT t ≤ 4) : SpV l 6 yX4_readBribe cX4_readBribe 6 none [mr 1, mr (tix k)] (hC uo ux ua ub v0 v1 v2 up uq ur) (fun h => h = hC uo (rdBriX ux t) (cond k ua (rdBriT ux t)) (cond k (rdBriT ux t) ub) v0 v1 v2 up uq ur) := by
  have hx6 := hX.2.2.2.2.2.1
  cases k
  · obtain rfl : t = ua := ht
    refine SpV.of (cd := kdX4_readBribe) (fT := mlook flX4) (kT := mlook klX4) (kJ := mlook jlX4) mfA_X4_readBribe ok_X4_readBribe fT_X4 kT_X4 jT_X4 jdk_ok True.intro (Nat.le_of_ble_eq_true rfl) (fun G hG => ?_)
    have J : G 15 [some (mr 1), some (mr 3), none, none, none, none] [mi (b2i (6 ≤ tNB t)), mr 1] (hC uo ux t ub v0 v1 v2 up uq ur) := by
      refine rVV hG (sp_X4_refuseIf (uo := uo) (ux := ux) (ua := t) (ub := ub) (v0 := v0) (v1 := v1) (v2 := v2) (up := up) (uq := uq) (ur := ur) (c := b2i (6 ≤ tNB t)) (by unfold b2i; split <;> omega)) rfl rfl lk_X4_77 mf_X4_refuseIf (by decide) (Nat.le_of_ble_eq_true rfl) ⟨_, _, _, rfl, rfl, rfl⟩ ?_
      rintro _ rfl
      refine rRun hG 99999 ?_
      refine rV hG (sp_X4_number (uo := uo) (ux := (rdB1 ux t)) (ua := t) (ub := ub) (v0 := v0) (v1 := v1) (v2 := v2) (up := up) (uq := uq) (ur := ur) (lo := 0) (hi := 13) (XOK_rfs hX) (by omega) (by omega)) rfl rfl lk_X4_81 mf_X4_number (by decide) (Nat.le_of_ble_eq_true rfl) ⟨_, _, _, rfl, rfl, rfl⟩ ?_
      rintro _ _ ⟨rfl, rfl⟩
      refine rRun hG 99999 ?_
      refine rV hG (sp_X4_number (uo := uo) (ux := (rdB2 ux t)) (ua := t) (ub := ub) (v0 := v0) (v1 := v1) (v2 := v2) (up := up) (uq := uq) (ur := ur) (lo := 0) (hi := 1) (XOK_num (XOK_rfs hX)) (by omega) (by omega)) rfl rfl lk_X4_81 mf_X4_number (by decide) (Nat.le_of_ble_eq_true rfl) ⟨_, _, _, rfl, rfl, rfl⟩ ?_
      rintro _ _ ⟨rfl, rfl⟩
      refine rRun hG 99999 ?_
      refine rV hG (sp_X4_number (uo := uo) (ux := (rdB3 ux t)) (ua := t) (ub := ub) (v0 := v0) (v1 := v1) (v2 := v2) (up := up) (uq := uq) (ur := ur) (lo := 0) (hi := 5) (XOK_num (XOK_num (XOK_rfs hX))) (by omega) (by omega)) rfl rfl lk_X4_81 mf_X4_number (by decide) (Nat.le_of_ble_eq_true rfl) ⟨_, _, _, rfl, rfl, rfl⟩ ?_
      rintro _ _ ⟨rfl, rfl⟩
      refine rRun hG 99999 ?_
      refine rV hG (sp_X4_number (uo := uo) (ux := (rdB4 ux t)) (ua := t) (ub := ub) (v0 := v0) (v1 := v1) (v2 := v2) (up := up) (uq := uq) (ur := ur) (lo := 1) (hi := 20) (XOK_num (XOK_num (XOK_num (XOK_rfs hX)))) (by omega) (by omega)) rfl rfl lk_X4_81 mf_X4_number (by decide) (Nat.le_of_ble_eq_true rfl) ⟨_, _, _, rfl, rfl, rfl⟩ ?_
      rintro _ _ ⟨rfl, rfl⟩
      refine rRun hG 99999 ?_
      refine rV hG (sp_X4_stops (uo := uo) (ux := (rdB5 ux t)) (ua := t) (ub := ub) (v0 := v0) (v1 := v1) (v2 := v2) (up := up) (uq := uq) (ur := ur) (XOK_num (XOK_num (XOK_num (XOK_num (XOK_rfs hX)))))) rfl rfl lk_X4_85 mf_X4_stops (by decide) (Nat.le_of_ble_eq_true rfl) ⟨_, _, _, rfl, rfl, rfl⟩ ?_
      rintro w9 _ ⟨hw, rfl⟩
      have hw1 : (w9 = 1 ∧ xF (stpX (rdB5 ux t)) = -1) ∨ (w9 = 0 ∧ ¬ xF (stpX (rdB5 ux t)) = -1) := (by rw [hw]; by_cases q9 : xF (stpX (rdB5 ux t)) = -1 <;> simp [q9])
      clear hw
      refine rRun hG 99999 ?_
      refine And.intro (by first | omega | (simp only [xB_s, xN_s, xP_s, xS_s, xK_s, xV_s, xF_s, xR_s, xL_s, xA_s]; omega)) (And.intro (fun cs => ?_) (fun cs => ?_))
      · try simp only [xB_s, xN_s, xP_s, xS_s, xK_s, xV_s, xF_s, xR_s, xL_s, xA_s] at cs
        refine rVR hG rfl rfl rfl ?_
        have hq : (w9 = 1 ∧ xF (rdBriX ux t) = -1) ∨ (w9 = 0 ∧ ¬ xF (rdBriX ux t) = -1) := hw1
        unfold rdBriT
        first | (rw [if_pos (by omega : xF (rdBriX ux t) = -1)]; done) | (rw [if_pos (by omega : xF (rdBriX ux t) = -1)]; rfl) | (rw [if_neg (by omega : ¬ xF (rdBriX ux t) = -1)]; done) | (rw [if_neg (by omega : ¬ xF (rdBriX ux t) = -1)]; rfl)
      · try simp only [xB_s, xN_s, xP_s, xS_s, xK_s, xV_s, xF_s, xR_s, xL_s, xA_s] at cs
        refine rVV hG (sp_X5_addBribe (uo := uo) (ux := (rdBriX ux t)) (ua := t) (ub := ub) (v0 := v0) (v1 := v1) (v2 := v2) (up := up) (uq := uq) (ur := ur) (k := false) (t := t) (ht := rfl) (d := numR 0 (rdB1 ux t)) (s := numR 0 (rdB2 ux t)) (p := numR 0 (rdB3 ux t) - 2) (c := numR 1 (rdB4 ux t)) (by omega)) rfl rfl lk_X4_96 mf_X5_addBribe (by decide) (Nat.le_of_ble_eq_true rfl) ⟨_, _, _, rfl, rfl, rfl⟩ ?_
        rintro _ rfl
        refine rVR hG rfl rfl rfl ?_
        have hq : (w9 = 1 ∧ xF (rdBriX ux t) = -1) ∨ (w9 = 0 ∧ ¬ xF (rdBriX ux t) = -1) := hw1
        unfold rdBriT
        first | (rw [if_pos (by omega : xF (rdBriX ux t) = -1)]; done) | (rw [if_pos (by omega : xF (rdBriX ux t) = -1)]; rfl) | (rw [if_neg (by omega : ¬ xF (rdBriX ux t) = -1)]; done) | (rw [if_neg (by omega : ¬ xF (rdBriX ux t) = -1)]; rfl)
    refine rRun hG 15 ?_
    refine And.intro rfl (And.intro (by first | omega | (simp only [xB_s, xN_s, xP_s, xS_s, xK_s, xV_s, xF_s, xR_s, xL_s, xA_s]; omega)) (And.intro (fun c1 => ?_) (fun c1 => ?_)))
    · try simp only [xB_s, xN_s, xP_s, xS_s, xK_s, xV_s, xF_s, xR_s, xL_s, xA_s] at c1
      refine rRun hG 15 ?_
      first | (rw [show b2i (6 ≤ tNB t) = 1 from if_pos (by omega)] at J; exact J) | (rw [show b2i (6 ≤ tNB t) = 0 from if_neg (by omega)] at J; exact J)
    · try simp only [xB_s, xN_s, xP_s, xS_s, xK_s, xV_s, xF_s, xR_s, xL_s, xA_s] at c1
      first | (rw [show b2i (6 ≤ tNB t) = 1 from if_pos (by omega)] at J; exact J) | (rw [show b2i (6 ≤ tNB t) = 0 from if_neg (by omega)] at J; exact J)
  · obtain rfl : t = ub := ht
    refine SpV.of (cd := kdX4_readBribe) (fT := mlook flX4) (kT := mlook klX4) (kJ := mlook jlX4) mfA_X4_readBribe ok_X4_readBribe fT_X4 kT_X4 jT_X4 jdk_ok True.intro (Nat.le_of_ble_eq_true rfl) (fun G hG => ?_)
    have J : G 15 [some (mr 1), some (mr 7), none, none, none, none] [mi (b2i (6 ≤ tNB t)), mr 1] (hC uo ux ua t v0 v1 v2 up uq ur) := by
      refine rVV hG (sp_X4_refuseIf (uo := uo) (ux := ux) (ua := ua) (ub := t) (v0 := v0) (v1 := v1) (v2 := v2) (up := up) (uq := uq) (ur := ur) (c := b2i (6 ≤ tNB t)) (by unfold b2i; split <;> omega)) rfl rfl lk_X4_77 mf_X4_refuseIf (by decide) (Nat.le_of_ble_eq_true rfl) ⟨_, _, _, rfl, rfl, rfl⟩ ?_
      rintro _ rfl
      refine rRun hG 99999 ?_
      refine rV hG (sp_X4_number (uo := uo) (ux := (rdB1 ux t)) (ua := ua) (ub := t) (v0 := v0) (v1 := v1) (v2 := v2) (up := up) (uq := uq) (ur := ur) (lo := 0) (hi := 13) (XOK_rfs hX) (by omega) (by omega)) rfl rfl lk_X4_81 mf_X4_number (by decide) (Nat.le_of_ble_eq_true rfl) ⟨_, _, _, rfl, rfl, rfl⟩ ?_
      rintro _ _ ⟨rfl, rfl⟩
      refine rRun hG 99999 ?_
      refine rV hG (sp_X4_number (uo := uo) (ux := (rdB2 ux t)) (ua := ua) (ub := t) (v0 := v0) (v1 := v1) (v2 := v2) (up := up) (uq := uq) (ur := ur) (lo := 0) (hi := 1) (XOK_num (XOK_rfs hX)) (by omega) (by omega)) rfl rfl lk_X4_81 mf_X4_number (by decide) (Nat.le_of_ble_eq_true rfl) ⟨_, _, _, rfl, rfl, rfl⟩ ?_
      rintro _ _ ⟨rfl, rfl⟩
      refine rRun hG 99999 ?_
      refine rV hG (sp_X4_number (uo := uo) (ux := (rdB3 ux t)) (ua := ua) (ub := t) (v0 := v0) (v1 := v1) (v2 := v2) (up := up) (uq := uq) (ur := ur) (lo := 0) (hi := 5) (XOK_num (XOK_num (XOK_rfs hX))) (by omega) (by omega)) rfl rfl lk_X4_81 mf_X4_number (by decide) (Nat.le_of_ble_eq_true rfl) ⟨_, _, _, rfl, rfl, rfl⟩ ?_
      rintro _ _ ⟨rfl, rfl⟩
      refine rRun hG 99999 ?_
      refine rV hG (sp_X4_number (uo := uo) (ux := (rdB4 ux t)) (ua := ua) (ub := t) (v0 := v0) (v1 := v1) (v2 := v2) (up := up) (uq := uq) (ur := ur) (lo := 1) (hi := 20) (XOK_num (XOK_num (XOK_num (XOK_rfs hX)))) (by omega) (by omega)) rfl rfl lk_X4_81 mf_X4_number (by decide) (Nat.le_of_ble_eq_true rfl) ⟨_, _, _, rfl, rfl, rfl⟩ ?_
      rintro _ _ ⟨rfl, rfl⟩
      refine rRun hG 99999 ?_
      refine rV hG (sp_X4_stops (uo := uo) (ux := (rdB5 ux t)) (ua := ua) (ub := t) (v0 := v0) (v1 := v1) (v2 := v2) (up := up) (uq := uq) (ur := ur) (XOK_num (XOK_num (XOK_num (XOK_num (XOK_rfs hX)))))) rfl rfl lk_X4_85 mf_X4_stops (by decide) (Nat.le_of_ble_eq_true rfl) ⟨_, _, _, rfl, rfl, rfl⟩ ?_
      rintro w9 _ ⟨hw, rfl⟩
      have hw1 : (w9 = 1 ∧ xF (stpX (rdB5 ux t)) = -1) ∨ (w9 = 0 ∧ ¬ xF (stpX (rdB5 ux t)) = -1) := (by rw [hw]; by_cases q9 : xF (stpX (rdB5 ux t)) = -1 <;> simp [q9])
      clear hw
      refine rRun hG 99999 ?_
      refine And.intro (by first | omega | (simp only [xB_s, xN_s, xP_s, xS_s, xK_s, xV_s, xF_s, xR_s, xL_s, xA_s]; omega)) (And.intro (fun cs => ?_) (fun cs => ?_))
      · try simp only [xB_s, xN_s, xP_s, xS_s, xK_s, xV_s, xF_s, xR_s, xL_s, xA_s] at cs
        refine rVR hG rfl rfl rfl ?_
        have hq : (w9 = 1 ∧ xF (rdBriX ux t) = -1) ∨ (w9 = 0 ∧ ¬ xF (rdBriX ux t) = -1) := hw1
        unfold rdBriT
        first | (rw [if_pos (by omega : xF (rdBriX ux t) = -1)]; done) | (rw [if_pos (by omega : xF (rdBriX ux t) = -1)]; rfl) | (rw [if_neg (by omega : ¬ xF (rdBriX ux t) = -1)]; done) | (rw [if_neg (by omega : ¬ xF (rdBriX ux t) = -1)]; rfl)
      · try simp only [xB_s, xN_s, xP_s, xS_s, xK_s, xV_s, xF_s, xR_s, xL_s, xA_s] at cs
        refine rVV hG (sp_X5_addBribe (uo := uo) (ux := (rdBriX ux t)) (ua := ua) (ub := t) (v0 := v0) (v1 := v1) (v2 := v2) (up := up) (uq := uq) (ur := ur) (k := true) (t := t) (ht := rfl) (d := numR 0 (rdB1 ux t)) (s := numR 0 (rdB2 ux t)) (p := numR 0 (rdB3 ux t) - 2) (c := numR 1 (rdB4 ux t)) (by omega)) rfl rfl lk_X4_96 mf_X5_addBribe (by decide) (Nat.le_of_ble_eq_true rfl) ⟨_, _, _, rfl, rfl, rfl⟩ ?_
        rintro _ rfl
        refine rVR hG rfl rfl rfl ?_
        have hq : (w9 = 1 ∧ xF (rdBriX ux t) = -1) ∨ (w9 = 0 ∧ ¬ xF (rdBriX ux t) = -1) := hw1
        unfold rdBriT
        first | (rw [if_pos (by omega : xF (rdBriX ux t) = -1)]; done) | (rw [if_pos (by omega : xF (rdBriX ux t) = -1)]; rfl) | (rw [if_neg (by omega : ¬ xF (rdBriX ux t) = -1)]; done) | (rw [if_neg (by omega : ¬ xF (rdBriX ux t) = -1)]; rfl)
    refine rRun hG 15 ?_
    refine And.intro rfl (And.intro (by first | omega | (simp only [xB_s, xN_s, xP_s, xS_s, xK_s, xV_s, xF_s, xR_s, xL_s, xA_s]; omega)) (And.intro (fun c1 => ?_) (fun c1 => ?_)))
    · try simp only [xB_s, xN_s, xP_s, xS_s, xK_s, xV_s, xF_s, xR_s, xL_s, xA_s] at c1
      refine rRun hG 15 ?_
      first | (rw [show b2i (6 ≤ tNB t) = 1 from if_pos (by omega)] at J; exact J) | (rw [show b2i (6 ≤ tNB t) = 0 from if_neg (by omega)] at J; exact J)
    · try simp only [xB_s, xN_s, xP_s, xS_s, xK_s, xV_s, xF_s, xR_s, xL_s, xA_s] at c1
      first | (rw [show b2i (6 ≤ tNB t) = 1 from if_pos (by omega)] at J; exact J) | (rw [show b2i (6 ≤ tNB t) = 0 from if_neg (by omega)] at J; exact J)
set_option maxRecDepth 20000 in
set_option maxHeartbeats 2000000 in
theorem sp_X4_readTrade {uo : UD} {ux : XD} {ua ub : TD} {v0 v1 v2 : SD} {up uq : PD} {ur : HD} {k : Bool} {t : TD} (ht : t = tsel k ua ub)  (hX : XOK ux) (hD : 0 ≤ tDay t ∧ tDay t ≤ 14) (hN : 0 ≤ tNB t ∧ tNB t ≤ 6) (hM : 0 ≤ tNT t ∧ tNT t ≤ 4) : SpV l 6 yX4_readTrade cX4_readTrade 4 none [mr 1, mr (tix k)] (hC uo ux ua ub v0 v1 v2 up uq ur) (fun h => h = hC uo (rdTraX ux t) (cond k ua (rdTraT ux t)) (cond k (rdTraT ux t) ub) v0 v1 v2 up uq ur) := by
  have hx6 := hX.2.2.2.2.2.1
  cases k
  · obtain rfl : t = ua := ht
    refine SpV.of (cd := kdX4_readTrade) (fT := mlook flX4) (kT := mlook klX4) (kJ := mlook jlX4) mfA_X4_readTrade ok_X4_readTrade fT_X4 kT_X4 jT_X4 jdk_ok True.intro (Nat.le_of_ble_eq_true rfl) (fun G hG => ?_)
    have J : G 14 [some (mr 1), some (mr 3), none, none] [mi (b2i (4 ≤ tNT t)), mr 1] (hC uo ux t ub v0 v1 v2 up uq ur) := by
      refine rVV hG (sp_X4_refuseIf (uo := uo) (ux := ux) (ua := t) (ub := ub) (v0 := v0) (v1 := v1) (v2 := v2) (up := up) (uq := uq) (ur := ur) (c := b2i (4 ≤ tNT t)) (by unfold b2i; split <;> omega)) rfl rfl lk_X4_77 mf_X4_refuseIf (by decide) (Nat.le_of_ble_eq_true rfl) ⟨_, _, _, rfl, rfl, rfl⟩ ?_
      rintro _ rfl
      refine rRun hG 99999 ?_
      refine rV hG (sp_X4_number (uo := uo) (ux := (rdT1 ux t)) (ua := t) (ub := ub) (v0 := v0) (v1 := v1) (v2 := v2) (up := up) (uq := uq) (ur := ur) (lo := 1) (hi := 9) (XOK_rfs hX) (by omega) (by omega)) rfl rfl lk_X4_81 mf_X4_number (by decide) (Nat.le_of_ble_eq_true rfl) ⟨_, _, _, rfl, rfl, rfl⟩ ?_
      rintro _ _ ⟨rfl, rfl⟩
      refine rRun hG 99999 ?_
      refine rV hG (sp_X4_number (uo := uo) (ux := (rdT2 ux t)) (ua := t) (ub := ub) (v0 := v0) (v1 := v1) (v2 := v2) (up := up) (uq := uq) (ur := ur) (lo := 0) (hi := 1) (XOK_num (XOK_rfs hX)) (by omega) (by omega)) rfl rfl lk_X4_81 mf_X4_number (by decide) (Nat.le_of_ble_eq_true rfl) ⟨_, _, _, rfl, rfl, rfl⟩ ?_
      rintro _ _ ⟨rfl, rfl⟩
      refine rRun hG 99999 ?_
      refine rV hG (sp_X4_stops (uo := uo) (ux := (rdT3 ux t)) (ua := t) (ub := ub) (v0 := v0) (v1 := v1) (v2 := v2) (up := up) (uq := uq) (ur := ur) (XOK_num (XOK_num (XOK_rfs hX)))) rfl rfl lk_X4_85 mf_X4_stops (by decide) (Nat.le_of_ble_eq_true rfl) ⟨_, _, _, rfl, rfl, rfl⟩ ?_
      rintro w9 _ ⟨hw, rfl⟩
      have hw1 : (w9 = 1 ∧ xF (stpX (rdT3 ux t)) = -1) ∨ (w9 = 0 ∧ ¬ xF (stpX (rdT3 ux t)) = -1) := (by rw [hw]; by_cases q9 : xF (stpX (rdT3 ux t)) = -1 <;> simp [q9])
      clear hw
      refine rRun hG 99999 ?_
      refine And.intro (by first | omega | (simp only [xB_s, xN_s, xP_s, xS_s, xK_s, xV_s, xF_s, xR_s, xL_s, xA_s]; omega)) (And.intro (fun cs => ?_) (fun cs => ?_))
      · try simp only [xB_s, xN_s, xP_s, xS_s, xK_s, xV_s, xF_s, xR_s, xL_s, xA_s] at cs
        refine rVR hG rfl rfl rfl ?_
        have hq : (w9 = 1 ∧ xF (rdTraX ux t) = -1) ∨ (w9 = 0 ∧ ¬ xF (rdTraX ux t) = -1) := hw1
        unfold rdTraT
        first | (rw [if_pos (by omega : xF (rdTraX ux t) = -1)]; done) | (rw [if_pos (by omega : xF (rdTraX ux t) = -1)]; rfl) | (rw [if_neg (by omega : ¬ xF (rdTraX ux t) = -1)]; done) | (rw [if_neg (by omega : ¬ xF (rdTraX ux t) = -1)]; rfl)
      · try simp only [xB_s, xN_s, xP_s, xS_s, xK_s, xV_s, xF_s, xR_s, xL_s, xA_s] at cs
        refine rVV hG (sp_X5_addTrade (uo := uo) (ux := (rdTraX ux t)) (ua := t) (ub := ub) (v0 := v0) (v1 := v1) (v2 := v2) (up := up) (uq := uq) (ur := ur) (k := false) (t := t) (ht := rfl) (w := numR 1 (rdT1 ux t)) (s := numR 0 (rdT2 ux t)) (by omega)) rfl rfl lk_X4_103 mf_X5_addTrade (by decide) (Nat.le_of_ble_eq_true rfl) ⟨_, _, _, rfl, rfl, rfl⟩ ?_
        rintro _ rfl
        refine rVR hG rfl rfl rfl ?_
        have hq : (w9 = 1 ∧ xF (rdTraX ux t) = -1) ∨ (w9 = 0 ∧ ¬ xF (rdTraX ux t) = -1) := hw1
        unfold rdTraT
        first | (rw [if_pos (by omega : xF (rdTraX ux t) = -1)]; done) | (rw [if_pos (by omega : xF (rdTraX ux t) = -1)]; rfl) | (rw [if_neg (by omega : ¬ xF (rdTraX ux t) = -1)]; done) | (rw [if_neg (by omega : ¬ xF (rdTraX ux t) = -1)]; rfl)
    refine rRun hG 14 ?_
    refine And.intro rfl (And.intro (by first | omega | (simp only [xB_s, xN_s, xP_s, xS_s, xK_s, xV_s, xF_s, xR_s, xL_s, xA_s]; omega)) (And.intro (fun c1 => ?_) (fun c1 => ?_)))
    · try simp only [xB_s, xN_s, xP_s, xS_s, xK_s, xV_s, xF_s, xR_s, xL_s, xA_s] at c1
      refine rRun hG 14 ?_
      first | (rw [show b2i (4 ≤ tNT t) = 1 from if_pos (by omega)] at J; exact J) | (rw [show b2i (4 ≤ tNT t) = 0 from if_neg (by omega)] at J; exact J)
    · try simp only [xB_s, xN_s, xP_s, xS_s, xK_s, xV_s, xF_s, xR_s, xL_s, xA_s] at c1
      first | (rw [show b2i (4 ≤ tNT t) = 1 from if_pos (by omega)] at J; exact J) | (rw [show b2i (4 ≤ tNT t) = 0 from if_neg (by omega)] at J; exact J)
  · obtain rfl : t = ub := ht
    refine SpV.of (cd := kdX4_readTrade) (fT := mlook flX4) (kT := mlook klX4) (kJ := mlook jlX4) mfA_X4_readTrade ok_X4_readTrade fT_X4 kT_X4 jT_X4 jdk_ok True.intro (Nat.le_of_ble_eq_true rfl) (fun G hG => ?_)
    have J : G 14 [some (mr 1), some (mr 7), none, none] [mi (b2i (4 ≤ tNT t)), mr 1] (hC uo ux ua t v0 v1 v2 up uq ur) := by
      refine rVV hG (sp_X4_refuseIf (uo := uo) (ux := ux) (ua := ua) (ub := t) (v0 := v0) (v1 := v1) (v2 := v2) (up := up) (uq := uq) (ur := ur) (c := b2i (4 ≤ tNT t)) (by unfold b2i; split <;> omega)) rfl rfl lk_X4_77 mf_X4_refuseIf (by decide) (Nat.le_of_ble_eq_true rfl) ⟨_, _, _, rfl, rfl, rfl⟩ ?_
      rintro _ rfl
      refine rRun hG 99999 ?_
      refine rV hG (sp_X4_number (uo := uo) (ux := (rdT1 ux t)) (ua := ua) (ub := t) (v0 := v0) (v1 := v1) (v2 := v2) (up := up) (uq := uq) (ur := ur) (lo := 1) (hi := 9) (XOK_rfs hX) (by omega) (by omega)) rfl rfl lk_X4_81 mf_X4_number (by decide) (Nat.le_of_ble_eq_true rfl) ⟨_, _, _, rfl, rfl, rfl⟩ ?_
      rintro _ _ ⟨rfl, rfl⟩
      refine rRun hG 99999 ?_
      refine rV hG (sp_X4_number (uo := uo) (ux := (rdT2 ux t)) (ua := ua) (ub := t) (v0 := v0) (v1 := v1) (v2 := v2) (up := up) (uq := uq) (ur := ur) (lo := 0) (hi := 1) (XOK_num (XOK_rfs hX)) (by omega) (by omega)) rfl rfl lk_X4_81 mf_X4_number (by decide) (Nat.le_of_ble_eq_true rfl) ⟨_, _, _, rfl, rfl, rfl⟩ ?_
      rintro _ _ ⟨rfl, rfl⟩
      refine rRun hG 99999 ?_
      refine rV hG (sp_X4_stops (uo := uo) (ux := (rdT3 ux t)) (ua := ua) (ub := t) (v0 := v0) (v1 := v1) (v2 := v2) (up := up) (uq := uq) (ur := ur) (XOK_num (XOK_num (XOK_rfs hX)))) rfl rfl lk_X4_85 mf_X4_stops (by decide) (Nat.le_of_ble_eq_true rfl) ⟨_, _, _, rfl, rfl, rfl⟩ ?_
      rintro w9 _ ⟨hw, rfl⟩
      have hw1 : (w9 = 1 ∧ xF (stpX (rdT3 ux t)) = -1) ∨ (w9 = 0 ∧ ¬ xF (stpX (rdT3 ux t)) = -1) := (by rw [hw]; by_cases q9 : xF (stpX (rdT3 ux t)) = -1 <;> simp [q9])
      clear hw
      refine rRun hG 99999 ?_
      refine And.intro (by first | omega | (simp only [xB_s, xN_s, xP_s, xS_s, xK_s, xV_s, xF_s, xR_s, xL_s, xA_s]; omega)) (And.intro (fun cs => ?_) (fun cs => ?_))
      · try simp only [xB_s, xN_s, xP_s, xS_s, xK_s, xV_s, xF_s, xR_s, xL_s, xA_s] at cs
        refine rVR hG rfl rfl rfl ?_
        have hq : (w9 = 1 ∧ xF (rdTraX ux t) = -1) ∨ (w9 = 0 ∧ ¬ xF (rdTraX ux t) = -1) := hw1
        unfold rdTraT
        first | (rw [if_pos (by omega : xF (rdTraX ux t) = -1)]; done) | (rw [if_pos (by omega : xF (rdTraX ux t) = -1)]; rfl) | (rw [if_neg (by omega : ¬ xF (rdTraX ux t) = -1)]; done) | (rw [if_neg (by omega : ¬ xF (rdTraX ux t) = -1)]; rfl)
      · try simp only [xB_s, xN_s, xP_s, xS_s, xK_s, xV_s, xF_s, xR_s, xL_s, xA_s] at cs
        refine rVV hG (sp_X5_addTrade (uo := uo) (ux := (rdTraX ux t)) (ua := ua) (ub := t) (v0 := v0) (v1 := v1) (v2 := v2) (up := up) (uq := uq) (ur := ur) (k := true) (t := t) (ht := rfl) (w := numR 1 (rdT1 ux t)) (s := numR 0 (rdT2 ux t)) (by omega)) rfl rfl lk_X4_103 mf_X5_addTrade (by decide) (Nat.le_of_ble_eq_true rfl) ⟨_, _, _, rfl, rfl, rfl⟩ ?_
        rintro _ rfl
        refine rVR hG rfl rfl rfl ?_
        have hq : (w9 = 1 ∧ xF (rdTraX ux t) = -1) ∨ (w9 = 0 ∧ ¬ xF (rdTraX ux t) = -1) := hw1
        unfold rdTraT
        first | (rw [if_pos (by omega : xF (rdTraX ux t) = -1)]; done) | (rw [if_pos (by omega : xF (rdTraX ux t) = -1)]; rfl) | (rw [if_neg (by omega : ¬ xF (rdTraX ux t) = -1)]; done) | (rw [if_neg (by omega : ¬ xF (rdTraX ux t) = -1)]; rfl)
    refine rRun hG 14 ?_
    refine And.intro rfl (And.intro (by first | omega | (simp only [xB_s, xN_s, xP_s, xS_s, xK_s, xV_s, xF_s, xR_s, xL_s, xA_s]; omega)) (And.intro (fun c1 => ?_) (fun c1 => ?_)))
    · try simp only [xB_s, xN_s, xP_s, xS_s, xK_s, xV_s, xF_s, xR_s, xL_s, xA_s] at c1
      refine rRun hG 14 ?_
      first | (rw [show b2i (4 ≤ tNT t) = 1 from if_pos (by omega)] at J; exact J) | (rw [show b2i (4 ≤ tNT t) = 0 from if_neg (by omega)] at J; exact J)
    · try simp only [xB_s, xN_s, xP_s, xS_s, xK_s, xV_s, xF_s, xR_s, xL_s, xA_s] at c1
      first | (rw [show b2i (4 ≤ tNT t) = 1 from if_pos (by omega)] at J; exact J) | (rw [show b2i (4 ≤ tNT t) = 0 from if_neg (by omega)] at J; exact J)
set_option maxRecDepth 20000 in
set_option maxHeartbeats 2000000 in
theorem sp_X4_readRest {uo : UD} {ux : XD} {ua ub : TD} {v0 v1 v2 : SD} {up uq : PD} {ur : HD} {k : Bool} {t : TD} (ht : t = tsel k ua ub)  (hX : XOK ux) (hf : inI (xR ux) ∧ inI (xL ux) ∧ inI (xA ux)) : SpV l 6 yX4_readRest cX4_readRest 3 none [mr 1, mr (tix k)] (hC uo ux ua ub v0 v1 v2 up uq ur) (fun h => h = hC uo (rdRstX ux) (cond k ua (rdRstT ux t)) (cond k (rdRstT ux t) ub) v0 v1 v2 up uq ur) := by
  cases k
  · obtain rfl : t = ua := ht
    refine SpV.of (cd := kdX4_readRest) (fT := mlook flX4) (kT := mlook klX4) (kJ := mlook jlX4) mfA_X4_readRest ok_X4_readRest fT_X4 kT_X4 jT_X4 jdk_ok True.intro (Nat.le_of_ble_eq_true rfl) (fun G hG => ?_)
    refine rRun hG 99999 ?_
    refine And.intro rfl (?_)
    refine rVV hG (sp_X4_refuseIf (uo := uo) (ux := ux) (ua := t) (ub := ub) (v0 := v0) (v1 := v1) (v2 := v2) (up := up) (uq := uq) (ur := ur) (c := xR ux) (by omega)) rfl rfl lk_X4_77 mf_X4_refuseIf (by decide) (Nat.le_of_ble_eq_true rfl) ⟨_, _, _, rfl, rfl, rfl⟩ ?_
    rintro _ rfl
    refine rRun hG 99999 ?_
    refine rV hG (sp_X4_number (uo := uo) (ux := (rfs (xR ux) ux)) (ua := t) (ub := ub) (v0 := v0) (v1 := v1) (v2 := v2) (up := up) (uq := uq) (ur := ur) (lo := 1) (hi := 60) (XOK_rfs hX) (by omega) (by omega)) rfl rfl lk_X4_81 mf_X4_number (by decide) (Nat.le_of_ble_eq_true rfl) ⟨_, _, _, rfl, rfl, rfl⟩ ?_
    rintro _ _ ⟨rfl, rfl⟩
    refine rRun hG 99999 ?_
    refine rV hG (sp_X4_stops (uo := uo) (ux := (numX 1 60 (rfs (xR ux) ux))) (ua := t) (ub := ub) (v0 := v0) (v1 := v1) (v2 := v2) (up := up) (uq := uq) (ur := ur) (XOK_num (XOK_rfs hX))) rfl rfl lk_X4_85 mf_X4_stops (by decide) (Nat.le_of_ble_eq_true rfl) ⟨_, _, _, rfl, rfl, rfl⟩ ?_
    rintro w9 _ ⟨hw, rfl⟩
    have hw1 : (w9 = 1 ∧ xF (stpX (numX 1 60 (rfs (xR ux) ux))) = -1) ∨ (w9 = 0 ∧ ¬ xF (stpX (numX 1 60 (rfs (xR ux) ux))) = -1) := (by rw [hw]; by_cases q9 : xF (stpX (numX 1 60 (rfs (xR ux) ux))) = -1 <;> simp [q9])
    clear hw
    refine rRun hG 99999 ?_
    refine And.intro (by first | omega | (simp only [xB_s, xN_s, xP_s, xS_s, xK_s, xV_s, xF_s, xR_s, xL_s, xA_s]; omega)) (And.intro (fun cs => ?_) (fun cs => ?_))
    · try simp only [xB_s, xN_s, xP_s, xS_s, xK_s, xV_s, xF_s, xR_s, xL_s, xA_s] at cs
      refine rVR hG rfl rfl rfl ?_
      have hq : (w9 = 1 ∧ xF (rdR1 ux) = -1) ∨ (w9 = 0 ∧ ¬ xF (rdR1 ux) = -1) := hw1
      unfold rdRstT rdRstX
      first | (rw [if_pos (by omega : xF (rdR1 ux) = -1), if_pos (by omega : xF (rdR1 ux) = -1)]; done) | (rw [if_pos (by omega : xF (rdR1 ux) = -1), if_pos (by omega : xF (rdR1 ux) = -1)]; rfl) | (rw [if_neg (by omega : ¬ xF (rdR1 ux) = -1), if_neg (by omega : ¬ xF (rdR1 ux) = -1)]; done) | (rw [if_neg (by omega : ¬ xF (rdR1 ux) = -1), if_neg (by omega : ¬ xF (rdR1 ux) = -1)]; rfl)
    · try simp only [xB_s, xN_s, xP_s, xS_s, xK_s, xV_s, xF_s, xR_s, xL_s, xA_s] at cs
      refine And.intro ⟨rfl, by exact Nat.le_of_ble_eq_true rfl, by exact True.intro⟩ (And.intro ⟨rfl, by exact Nat.le_of_ble_eq_true rfl, by exact Or.inr rfl⟩ (?_))
      refine rVR hG rfl rfl rfl ?_
      have hq : (w9 = 1 ∧ xF (rdR1 ux) = -1) ∨ (w9 = 0 ∧ ¬ xF (rdR1 ux) = -1) := hw1
      unfold rdRstT rdRstX
      first | (rw [if_pos (by omega : xF (rdR1 ux) = -1), if_pos (by omega : xF (rdR1 ux) = -1)]; done) | (rw [if_pos (by omega : xF (rdR1 ux) = -1), if_pos (by omega : xF (rdR1 ux) = -1)]; rfl) | (rw [if_neg (by omega : ¬ xF (rdR1 ux) = -1), if_neg (by omega : ¬ xF (rdR1 ux) = -1)]; done) | (rw [if_neg (by omega : ¬ xF (rdR1 ux) = -1), if_neg (by omega : ¬ xF (rdR1 ux) = -1)]; rfl)
  · obtain rfl : t = ub := ht
    refine SpV.of (cd := kdX4_readRest) (fT := mlook flX4) (kT := mlook klX4) (kJ := mlook jlX4) mfA_X4_readRest ok_X4_readRest fT_X4 kT_X4 jT_X4 jdk_ok True.intro (Nat.le_of_ble_eq_true rfl) (fun G hG => ?_)
    refine rRun hG 99999 ?_
    refine And.intro rfl (?_)
    refine rVV hG (sp_X4_refuseIf (uo := uo) (ux := ux) (ua := ua) (ub := t) (v0 := v0) (v1 := v1) (v2 := v2) (up := up) (uq := uq) (ur := ur) (c := xR ux) (by omega)) rfl rfl lk_X4_77 mf_X4_refuseIf (by decide) (Nat.le_of_ble_eq_true rfl) ⟨_, _, _, rfl, rfl, rfl⟩ ?_
    rintro _ rfl
    refine rRun hG 99999 ?_
    refine rV hG (sp_X4_number (uo := uo) (ux := (rfs (xR ux) ux)) (ua := ua) (ub := t) (v0 := v0) (v1 := v1) (v2 := v2) (up := up) (uq := uq) (ur := ur) (lo := 1) (hi := 60) (XOK_rfs hX) (by omega) (by omega)) rfl rfl lk_X4_81 mf_X4_number (by decide) (Nat.le_of_ble_eq_true rfl) ⟨_, _, _, rfl, rfl, rfl⟩ ?_
    rintro _ _ ⟨rfl, rfl⟩
    refine rRun hG 99999 ?_
    refine rV hG (sp_X4_stops (uo := uo) (ux := (numX 1 60 (rfs (xR ux) ux))) (ua := ua) (ub := t) (v0 := v0) (v1 := v1) (v2 := v2) (up := up) (uq := uq) (ur := ur) (XOK_num (XOK_rfs hX))) rfl rfl lk_X4_85 mf_X4_stops (by decide) (Nat.le_of_ble_eq_true rfl) ⟨_, _, _, rfl, rfl, rfl⟩ ?_
    rintro w9 _ ⟨hw, rfl⟩
    have hw1 : (w9 = 1 ∧ xF (stpX (numX 1 60 (rfs (xR ux) ux))) = -1) ∨ (w9 = 0 ∧ ¬ xF (stpX (numX 1 60 (rfs (xR ux) ux))) = -1) := (by rw [hw]; by_cases q9 : xF (stpX (numX 1 60 (rfs (xR ux) ux))) = -1 <;> simp [q9])
    clear hw
    refine rRun hG 99999 ?_
    refine And.intro (by first | omega | (simp only [xB_s, xN_s, xP_s, xS_s, xK_s, xV_s, xF_s, xR_s, xL_s, xA_s]; omega)) (And.intro (fun cs => ?_) (fun cs => ?_))
    · try simp only [xB_s, xN_s, xP_s, xS_s, xK_s, xV_s, xF_s, xR_s, xL_s, xA_s] at cs
      refine rVR hG rfl rfl rfl ?_
      have hq : (w9 = 1 ∧ xF (rdR1 ux) = -1) ∨ (w9 = 0 ∧ ¬ xF (rdR1 ux) = -1) := hw1
      unfold rdRstT rdRstX
      first | (rw [if_pos (by omega : xF (rdR1 ux) = -1), if_pos (by omega : xF (rdR1 ux) = -1)]; done) | (rw [if_pos (by omega : xF (rdR1 ux) = -1), if_pos (by omega : xF (rdR1 ux) = -1)]; rfl) | (rw [if_neg (by omega : ¬ xF (rdR1 ux) = -1), if_neg (by omega : ¬ xF (rdR1 ux) = -1)]; done) | (rw [if_neg (by omega : ¬ xF (rdR1 ux) = -1), if_neg (by omega : ¬ xF (rdR1 ux) = -1)]; rfl)
    · try simp only [xB_s, xN_s, xP_s, xS_s, xK_s, xV_s, xF_s, xR_s, xL_s, xA_s] at cs
      refine And.intro ⟨rfl, by exact Nat.le_of_ble_eq_true rfl, by exact True.intro⟩ (And.intro ⟨rfl, by exact Nat.le_of_ble_eq_true rfl, by exact Or.inr rfl⟩ (?_))
      refine rVR hG rfl rfl rfl ?_
      have hq : (w9 = 1 ∧ xF (rdR1 ux) = -1) ∨ (w9 = 0 ∧ ¬ xF (rdR1 ux) = -1) := hw1
      unfold rdRstT rdRstX
      first | (rw [if_pos (by omega : xF (rdR1 ux) = -1), if_pos (by omega : xF (rdR1 ux) = -1)]; done) | (rw [if_pos (by omega : xF (rdR1 ux) = -1), if_pos (by omega : xF (rdR1 ux) = -1)]; rfl) | (rw [if_neg (by omega : ¬ xF (rdR1 ux) = -1), if_neg (by omega : ¬ xF (rdR1 ux) = -1)]; done) | (rw [if_neg (by omega : ¬ xF (rdR1 ux) = -1), if_neg (by omega : ¬ xF (rdR1 ux) = -1)]; rfl)
set_option maxRecDepth 20000 in
set_option maxHeartbeats 2000000 in
theorem sp_X4_readLimit {uo : UD} {ux : XD} {ua ub : TD} {v0 v1 v2 : SD} {up uq : PD} {ur : HD} {k : Bool} {t : TD} (ht : t = tsel k ua ub)  (hX : XOK ux) (hf : inI (xR ux) ∧ inI (xL ux) ∧ inI (xA ux)) : SpV l 6 yX4_readLimit cX4_readLimit 3 none [mr 1, mr (tix k)] (hC uo ux ua ub v0 v1 v2 up uq ur) (fun h => h = hC uo (rdLimX ux) (cond k ua (rdLimT ux t)) (cond k (rdLimT ux t) ub) v0 v1 v2 up uq ur) := by
  cases k
  · obtain rfl : t = ua := ht
    refine SpV.of (cd := kdX4_readLimit) (fT := mlook flX4) (kT := mlook klX4) (kJ := mlook jlX4) mfA_X4_readLimit ok_X4_readLimit fT_X4 kT_X4 jT_X4 jdk_ok True.intro (Nat.le_of_ble_eq_true rfl) (fun G hG => ?_)
    refine rRun hG 99999 ?_
    refine And.intro rfl (?_)
    refine rVV hG (sp_X4_refuseIf (uo := uo) (ux := ux) (ua := t) (ub := ub) (v0 := v0) (v1 := v1) (v2 := v2) (up := up) (uq := uq) (ur := ur) (c := xL ux) (by omega)) rfl rfl lk_X4_77 mf_X4_refuseIf (by decide) (Nat.le_of_ble_eq_true rfl) ⟨_, _, _, rfl, rfl, rfl⟩ ?_
    rintro _ rfl
    refine rRun hG 99999 ?_
    refine rV hG (sp_X4_number (uo := uo) (ux := (rfs (xL ux) ux)) (ua := t) (ub := ub) (v0 := v0) (v1 := v1) (v2 := v2) (up := up) (uq := uq) (ur := ur) (lo := 0) (hi := 6) (XOK_rfs hX) (by omega) (by omega)) rfl rfl lk_X4_81 mf_X4_number (by decide) (Nat.le_of_ble_eq_true rfl) ⟨_, _, _, rfl, rfl, rfl⟩ ?_
    rintro _ _ ⟨rfl, rfl⟩
    refine rRun hG 99999 ?_
    refine rV hG (sp_X4_stops (uo := uo) (ux := (numX 0 6 (rfs (xL ux) ux))) (ua := t) (ub := ub) (v0 := v0) (v1 := v1) (v2 := v2) (up := up) (uq := uq) (ur := ur) (XOK_num (XOK_rfs hX))) rfl rfl lk_X4_85 mf_X4_stops (by decide) (Nat.le_of_ble_eq_true rfl) ⟨_, _, _, rfl, rfl, rfl⟩ ?_
    rintro w9 _ ⟨hw, rfl⟩
    have hw1 : (w9 = 1 ∧ xF (stpX (numX 0 6 (rfs (xL ux) ux))) = -1) ∨ (w9 = 0 ∧ ¬ xF (stpX (numX 0 6 (rfs (xL ux) ux))) = -1) := (by rw [hw]; by_cases q9 : xF (stpX (numX 0 6 (rfs (xL ux) ux))) = -1 <;> simp [q9])
    clear hw
    refine rRun hG 99999 ?_
    refine And.intro (by first | omega | (simp only [xB_s, xN_s, xP_s, xS_s, xK_s, xV_s, xF_s, xR_s, xL_s, xA_s]; omega)) (And.intro (fun cs => ?_) (fun cs => ?_))
    · try simp only [xB_s, xN_s, xP_s, xS_s, xK_s, xV_s, xF_s, xR_s, xL_s, xA_s] at cs
      refine rVR hG rfl rfl rfl ?_
      have hq : (w9 = 1 ∧ xF (rdL1 ux) = -1) ∨ (w9 = 0 ∧ ¬ xF (rdL1 ux) = -1) := hw1
      unfold rdLimT rdLimX
      first | (rw [if_pos (by omega : xF (rdL1 ux) = -1), if_pos (by omega : xF (rdL1 ux) = -1)]; done) | (rw [if_pos (by omega : xF (rdL1 ux) = -1), if_pos (by omega : xF (rdL1 ux) = -1)]; rfl) | (rw [if_neg (by omega : ¬ xF (rdL1 ux) = -1), if_neg (by omega : ¬ xF (rdL1 ux) = -1)]; done) | (rw [if_neg (by omega : ¬ xF (rdL1 ux) = -1), if_neg (by omega : ¬ xF (rdL1 ux) = -1)]; rfl)
    · try simp only [xB_s, xN_s, xP_s, xS_s, xK_s, xV_s, xF_s, xR_s, xL_s, xA_s] at cs
      refine And.intro ⟨rfl, by exact Nat.le_of_ble_eq_true rfl, by exact True.intro⟩ (And.intro ⟨rfl, by exact Nat.le_of_ble_eq_true rfl, by exact Or.inr rfl⟩ (?_))
      refine rVR hG rfl rfl rfl ?_
      have hq : (w9 = 1 ∧ xF (rdL1 ux) = -1) ∨ (w9 = 0 ∧ ¬ xF (rdL1 ux) = -1) := hw1
      unfold rdLimT rdLimX
      first | (rw [if_pos (by omega : xF (rdL1 ux) = -1), if_pos (by omega : xF (rdL1 ux) = -1)]; done) | (rw [if_pos (by omega : xF (rdL1 ux) = -1), if_pos (by omega : xF (rdL1 ux) = -1)]; rfl) | (rw [if_neg (by omega : ¬ xF (rdL1 ux) = -1), if_neg (by omega : ¬ xF (rdL1 ux) = -1)]; done) | (rw [if_neg (by omega : ¬ xF (rdL1 ux) = -1), if_neg (by omega : ¬ xF (rdL1 ux) = -1)]; rfl)
  · obtain rfl : t = ub := ht
    refine SpV.of (cd := kdX4_readLimit) (fT := mlook flX4) (kT := mlook klX4) (kJ := mlook jlX4) mfA_X4_readLimit ok_X4_readLimit fT_X4 kT_X4 jT_X4 jdk_ok True.intro (Nat.le_of_ble_eq_true rfl) (fun G hG => ?_)
    refine rRun hG 99999 ?_
    refine And.intro rfl (?_)
    refine rVV hG (sp_X4_refuseIf (uo := uo) (ux := ux) (ua := ua) (ub := t) (v0 := v0) (v1 := v1) (v2 := v2) (up := up) (uq := uq) (ur := ur) (c := xL ux) (by omega)) rfl rfl lk_X4_77 mf_X4_refuseIf (by decide) (Nat.le_of_ble_eq_true rfl) ⟨_, _, _, rfl, rfl, rfl⟩ ?_
    rintro _ rfl
    refine rRun hG 99999 ?_
    refine rV hG (sp_X4_number (uo := uo) (ux := (rfs (xL ux) ux)) (ua := ua) (ub := t) (v0 := v0) (v1 := v1) (v2 := v2) (up := up) (uq := uq) (ur := ur) (lo := 0) (hi := 6) (XOK_rfs hX) (by omega) (by omega)) rfl rfl lk_X4_81 mf_X4_number (by decide) (Nat.le_of_ble_eq_true rfl) ⟨_, _, _, rfl, rfl, rfl⟩ ?_
    rintro _ _ ⟨rfl, rfl⟩
    refine rRun hG 99999 ?_
    refine rV hG (sp_X4_stops (uo := uo) (ux := (numX 0 6 (rfs (xL ux) ux))) (ua := ua) (ub := t) (v0 := v0) (v1 := v1) (v2 := v2) (up := up) (uq := uq) (ur := ur) (XOK_num (XOK_rfs hX))) rfl rfl lk_X4_85 mf_X4_stops (by decide) (Nat.le_of_ble_eq_true rfl) ⟨_, _, _, rfl, rfl, rfl⟩ ?_
    rintro w9 _ ⟨hw, rfl⟩
    have hw1 : (w9 = 1 ∧ xF (stpX (numX 0 6 (rfs (xL ux) ux))) = -1) ∨ (w9 = 0 ∧ ¬ xF (stpX (numX 0 6 (rfs (xL ux) ux))) = -1) := (by rw [hw]; by_cases q9 : xF (stpX (numX 0 6 (rfs (xL ux) ux))) = -1 <;> simp [q9])
    clear hw
    refine rRun hG 99999 ?_
    refine And.intro (by first | omega | (simp only [xB_s, xN_s, xP_s, xS_s, xK_s, xV_s, xF_s, xR_s, xL_s, xA_s]; omega)) (And.intro (fun cs => ?_) (fun cs => ?_))
    · try simp only [xB_s, xN_s, xP_s, xS_s, xK_s, xV_s, xF_s, xR_s, xL_s, xA_s] at cs
      refine rVR hG rfl rfl rfl ?_
      have hq : (w9 = 1 ∧ xF (rdL1 ux) = -1) ∨ (w9 = 0 ∧ ¬ xF (rdL1 ux) = -1) := hw1
      unfold rdLimT rdLimX
      first | (rw [if_pos (by omega : xF (rdL1 ux) = -1), if_pos (by omega : xF (rdL1 ux) = -1)]; done) | (rw [if_pos (by omega : xF (rdL1 ux) = -1), if_pos (by omega : xF (rdL1 ux) = -1)]; rfl) | (rw [if_neg (by omega : ¬ xF (rdL1 ux) = -1), if_neg (by omega : ¬ xF (rdL1 ux) = -1)]; done) | (rw [if_neg (by omega : ¬ xF (rdL1 ux) = -1), if_neg (by omega : ¬ xF (rdL1 ux) = -1)]; rfl)
    · try simp only [xB_s, xN_s, xP_s, xS_s, xK_s, xV_s, xF_s, xR_s, xL_s, xA_s] at cs
      refine And.intro ⟨rfl, by exact Nat.le_of_ble_eq_true rfl, by exact True.intro⟩ (And.intro ⟨rfl, by exact Nat.le_of_ble_eq_true rfl, by exact Or.inr rfl⟩ (?_))
      refine rVR hG rfl rfl rfl ?_
      have hq : (w9 = 1 ∧ xF (rdL1 ux) = -1) ∨ (w9 = 0 ∧ ¬ xF (rdL1 ux) = -1) := hw1
      unfold rdLimT rdLimX
      first | (rw [if_pos (by omega : xF (rdL1 ux) = -1), if_pos (by omega : xF (rdL1 ux) = -1)]; done) | (rw [if_pos (by omega : xF (rdL1 ux) = -1), if_pos (by omega : xF (rdL1 ux) = -1)]; rfl) | (rw [if_neg (by omega : ¬ xF (rdL1 ux) = -1), if_neg (by omega : ¬ xF (rdL1 ux) = -1)]; done) | (rw [if_neg (by omega : ¬ xF (rdL1 ux) = -1), if_neg (by omega : ¬ xF (rdL1 ux) = -1)]; rfl)
set_option maxRecDepth 20000 in
set_option maxHeartbeats 2000000 in
theorem sp_X4_readAdded {uo : UD} {ux : XD} {ua ub : TD} {v0 v1 v2 : SD} {up uq : PD} {ur : HD} {k : Bool} {t : TD} (ht : t = tsel k ua ub)  (hX : XOK ux) (hf : inI (xR ux) ∧ inI (xL ux) ∧ inI (xA ux)) : SpV l 6 yX4_readAdded cX4_readAdded 3 none [mr 1, mr (tix k)] (hC uo ux ua ub v0 v1 v2 up uq ur) (fun h => h = hC uo (rdAddX ux) (cond k ua (rdAddT ux t)) (cond k (rdAddT ux t) ub) v0 v1 v2 up uq ur) := by
  cases k
  · obtain rfl : t = ua := ht
    refine SpV.of (cd := kdX4_readAdded) (fT := mlook flX4) (kT := mlook klX4) (kJ := mlook jlX4) mfA_X4_readAdded ok_X4_readAdded fT_X4 kT_X4 jT_X4 jdk_ok True.intro (Nat.le_of_ble_eq_true rfl) (fun G hG => ?_)
    refine rRun hG 99999 ?_
    refine And.intro rfl (?_)
    refine rVV hG (sp_X4_refuseIf (uo := uo) (ux := ux) (ua := t) (ub := ub) (v0 := v0) (v1 := v1) (v2 := v2) (up := up) (uq := uq) (ur := ur) (c := xA ux) (by omega)) rfl rfl lk_X4_77 mf_X4_refuseIf (by decide) (Nat.le_of_ble_eq_true rfl) ⟨_, _, _, rfl, rfl, rfl⟩ ?_
    rintro _ rfl
    refine rRun hG 99999 ?_
    refine rV hG (sp_X4_number (uo := uo) (ux := (rfs (xA ux) ux)) (ua := t) (ub := ub) (v0 := v0) (v1 := v1) (v2 := v2) (up := up) (uq := uq) (ur := ur) (lo := 0) (hi := 9) (XOK_rfs hX) (by omega) (by omega)) rfl rfl lk_X4_81 mf_X4_number (by decide) (Nat.le_of_ble_eq_true rfl) ⟨_, _, _, rfl, rfl, rfl⟩ ?_
    rintro _ _ ⟨rfl, rfl⟩
    refine rRun hG 99999 ?_
    refine rV hG (sp_X4_stops (uo := uo) (ux := (numX 0 9 (rfs (xA ux) ux))) (ua := t) (ub := ub) (v0 := v0) (v1 := v1) (v2 := v2) (up := up) (uq := uq) (ur := ur) (XOK_num (XOK_rfs hX))) rfl rfl lk_X4_85 mf_X4_stops (by decide) (Nat.le_of_ble_eq_true rfl) ⟨_, _, _, rfl, rfl, rfl⟩ ?_
    rintro w9 _ ⟨hw, rfl⟩
    have hw1 : (w9 = 1 ∧ xF (stpX (numX 0 9 (rfs (xA ux) ux))) = -1) ∨ (w9 = 0 ∧ ¬ xF (stpX (numX 0 9 (rfs (xA ux) ux))) = -1) := (by rw [hw]; by_cases q9 : xF (stpX (numX 0 9 (rfs (xA ux) ux))) = -1 <;> simp [q9])
    clear hw
    refine rRun hG 99999 ?_
    refine And.intro (by first | omega | (simp only [xB_s, xN_s, xP_s, xS_s, xK_s, xV_s, xF_s, xR_s, xL_s, xA_s]; omega)) (And.intro (fun cs => ?_) (fun cs => ?_))
    · try simp only [xB_s, xN_s, xP_s, xS_s, xK_s, xV_s, xF_s, xR_s, xL_s, xA_s] at cs
      refine rVR hG rfl rfl rfl ?_
      have hq : (w9 = 1 ∧ xF (rdA1 ux) = -1) ∨ (w9 = 0 ∧ ¬ xF (rdA1 ux) = -1) := hw1
      unfold rdAddT rdAddX
      first | (rw [if_pos (by omega : xF (rdA1 ux) = -1), if_pos (by omega : xF (rdA1 ux) = -1)]; done) | (rw [if_pos (by omega : xF (rdA1 ux) = -1), if_pos (by omega : xF (rdA1 ux) = -1)]; rfl) | (rw [if_neg (by omega : ¬ xF (rdA1 ux) = -1), if_neg (by omega : ¬ xF (rdA1 ux) = -1)]; done) | (rw [if_neg (by omega : ¬ xF (rdA1 ux) = -1), if_neg (by omega : ¬ xF (rdA1 ux) = -1)]; rfl)
    · try simp only [xB_s, xN_s, xP_s, xS_s, xK_s, xV_s, xF_s, xR_s, xL_s, xA_s] at cs
      refine And.intro ⟨rfl, by exact Nat.le_of_ble_eq_true rfl, by exact True.intro⟩ (And.intro ⟨rfl, by exact Nat.le_of_ble_eq_true rfl, by exact Or.inr rfl⟩ (?_))
      refine rVR hG rfl rfl rfl ?_
      have hq : (w9 = 1 ∧ xF (rdA1 ux) = -1) ∨ (w9 = 0 ∧ ¬ xF (rdA1 ux) = -1) := hw1
      unfold rdAddT rdAddX
      first | (rw [if_pos (by omega : xF (rdA1 ux) = -1), if_pos (by omega : xF (rdA1 ux) = -1)]; done) | (rw [if_pos (by omega : xF (rdA1 ux) = -1), if_pos (by omega : xF (rdA1 ux) = -1)]; rfl) | (rw [if_neg (by omega : ¬ xF (rdA1 ux) = -1), if_neg (by omega : ¬ xF (rdA1 ux) = -1)]; done) | (rw [if_neg (by omega : ¬ xF (rdA1 ux) = -1), if_neg (by omega : ¬ xF (rdA1 ux) = -1)]; rfl)
  · obtain rfl : t = ub := ht
    refine SpV.of (cd := kdX4_readAdded) (fT := mlook flX4) (kT := mlook klX4) (kJ := mlook jlX4) mfA_X4_readAdded ok_X4_readAdded fT_X4 kT_X4 jT_X4 jdk_ok True.intro (Nat.le_of_ble_eq_true rfl) (fun G hG => ?_)
    refine rRun hG 99999 ?_
    refine And.intro rfl (?_)
    refine rVV hG (sp_X4_refuseIf (uo := uo) (ux := ux) (ua := ua) (ub := t) (v0 := v0) (v1 := v1) (v2 := v2) (up := up) (uq := uq) (ur := ur) (c := xA ux) (by omega)) rfl rfl lk_X4_77 mf_X4_refuseIf (by decide) (Nat.le_of_ble_eq_true rfl) ⟨_, _, _, rfl, rfl, rfl⟩ ?_
    rintro _ rfl
    refine rRun hG 99999 ?_
    refine rV hG (sp_X4_number (uo := uo) (ux := (rfs (xA ux) ux)) (ua := ua) (ub := t) (v0 := v0) (v1 := v1) (v2 := v2) (up := up) (uq := uq) (ur := ur) (lo := 0) (hi := 9) (XOK_rfs hX) (by omega) (by omega)) rfl rfl lk_X4_81 mf_X4_number (by decide) (Nat.le_of_ble_eq_true rfl) ⟨_, _, _, rfl, rfl, rfl⟩ ?_
    rintro _ _ ⟨rfl, rfl⟩
    refine rRun hG 99999 ?_
    refine rV hG (sp_X4_stops (uo := uo) (ux := (numX 0 9 (rfs (xA ux) ux))) (ua := ua) (ub := t) (v0 := v0) (v1 := v1) (v2 := v2) (up := up) (uq := uq) (ur := ur) (XOK_num (XOK_rfs hX))) rfl rfl lk_X4_85 mf_X4_stops (by decide) (Nat.le_of_ble_eq_true rfl) ⟨_, _, _, rfl, rfl, rfl⟩ ?_
    rintro w9 _ ⟨hw, rfl⟩
    have hw1 : (w9 = 1 ∧ xF (stpX (numX 0 9 (rfs (xA ux) ux))) = -1) ∨ (w9 = 0 ∧ ¬ xF (stpX (numX 0 9 (rfs (xA ux) ux))) = -1) := (by rw [hw]; by_cases q9 : xF (stpX (numX 0 9 (rfs (xA ux) ux))) = -1 <;> simp [q9])
    clear hw
    refine rRun hG 99999 ?_
    refine And.intro (by first | omega | (simp only [xB_s, xN_s, xP_s, xS_s, xK_s, xV_s, xF_s, xR_s, xL_s, xA_s]; omega)) (And.intro (fun cs => ?_) (fun cs => ?_))
    · try simp only [xB_s, xN_s, xP_s, xS_s, xK_s, xV_s, xF_s, xR_s, xL_s, xA_s] at cs
      refine rVR hG rfl rfl rfl ?_
      have hq : (w9 = 1 ∧ xF (rdA1 ux) = -1) ∨ (w9 = 0 ∧ ¬ xF (rdA1 ux) = -1) := hw1
      unfold rdAddT rdAddX
      first | (rw [if_pos (by omega : xF (rdA1 ux) = -1), if_pos (by omega : xF (rdA1 ux) = -1)]; done) | (rw [if_pos (by omega : xF (rdA1 ux) = -1), if_pos (by omega : xF (rdA1 ux) = -1)]; rfl) | (rw [if_neg (by omega : ¬ xF (rdA1 ux) = -1), if_neg (by omega : ¬ xF (rdA1 ux) = -1)]; done) | (rw [if_neg (by omega : ¬ xF (rdA1 ux) = -1), if_neg (by omega : ¬ xF (rdA1 ux) = -1)]; rfl)
    · try simp only [xB_s, xN_s, xP_s, xS_s, xK_s, xV_s, xF_s, xR_s, xL_s, xA_s] at cs
      refine And.intro ⟨rfl, by exact Nat.le_of_ble_eq_true rfl, by exact True.intro⟩ (And.intro ⟨rfl, by exact Nat.le_of_ble_eq_true rfl, by exact Or.inr rfl⟩ (?_))
      refine rVR hG rfl rfl rfl ?_
      have hq : (w9 = 1 ∧ xF (rdA1 ux) = -1) ∨ (w9 = 0 ∧ ¬ xF (rdA1 ux) = -1) := hw1
      unfold rdAddT rdAddX
      first | (rw [if_pos (by omega : xF (rdA1 ux) = -1), if_pos (by omega : xF (rdA1 ux) = -1)]; done) | (rw [if_pos (by omega : xF (rdA1 ux) = -1), if_pos (by omega : xF (rdA1 ux) = -1)]; rfl) | (rw [if_neg (by omega : ¬ xF (rdA1 ux) = -1), if_neg (by omega : ¬ xF (rdA1 ux) = -1)]; done) | (rw [if_neg (by omega : ¬ xF (rdA1 ux) = -1), if_neg (by omega : ¬ xF (rdA1 ux) = -1)]; rfl)
end WALKS
