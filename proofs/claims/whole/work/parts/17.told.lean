/-! Told: what it answers -/
section WALKS
variable {l : Launch}
set_option maxRecDepth 20000 in
set_option maxHeartbeats 2000000 in
theorem sp_X5_hasTrade {uo : UD} {ux : XD} {ua ub : TD} {v0 v1 v2 : SD} {up uq : PD} {ur : HD} {k : Bool} {t : TD} (ht : t = tsel k ua ub) {i : Int} (h1 : inI i) (h2 : inI (tNT t)) : SpI l 1 yX5_hasTrade cX5_hasTrade 2 (some .boolean) [mr (tix k), mi i] (hC uo ux ua ub v0 v1 v2 up uq ur) (fun z h => z = (if 0 ≤ i ∧ i < tNT t then 1 else 0) ∧ h = hC uo ux ua ub v0 v1 v2 up uq ur) := by
  cases k
  · obtain rfl : t = ua := ht
    refine SpI.of (cd := kdX5_hasTrade) (fT := mlook flX5) (kT := mlook klX5) (kJ := mlook jlX5) mfA_X5_hasTrade ok_X5_hasTrade fT_X5 kT_X5 jT_X5 jdk_ok True.intro (Nat.le_of_ble_eq_true rfl) (fun G hG => ?_)
    refine rRun hG 99999 ?_
    refine And.intro (by omega) (And.intro (fun c1 => ?_) (fun c1 => ?_))
    · skip
      refine rRun hG 99999 ?_
      refine rIR hG rfl rfl (by first | exact Or.inl rfl | exact Or.inr rfl | (show _ ∨ _; omega)) ?_
      exact ⟨by first | (rw [if_pos (by omega)]; done) | (rw [if_neg (by omega)]; done), rfl⟩
    · skip
      refine And.intro rfl (And.intro (by omega) (And.intro (fun c2 => ?_) (fun c2 => ?_)))
      · skip
        refine rRun hG 99999 ?_
        refine rIR hG rfl rfl (by first | exact Or.inl rfl | exact Or.inr rfl | (show _ ∨ _; omega)) ?_
        exact ⟨by first | (rw [if_pos (by omega)]; done) | (rw [if_neg (by omega)]; done), rfl⟩
      · skip
        refine rIR hG rfl rfl (by first | exact Or.inl rfl | exact Or.inr rfl | (show _ ∨ _; omega)) ?_
        exact ⟨by first | (rw [if_pos (by omega)]; done) | (rw [if_neg (by omega)]; done), rfl⟩
  · obtain rfl : t = ub := ht
    refine SpI.of (cd := kdX5_hasTrade) (fT := mlook flX5) (kT := mlook klX5) (kJ := mlook jlX5) mfA_X5_hasTrade ok_X5_hasTrade fT_X5 kT_X5 jT_X5 jdk_ok True.intro (Nat.le_of_ble_eq_true rfl) (fun G hG => ?_)
    refine rRun hG 99999 ?_
    refine And.intro (by omega) (And.intro (fun c3 => ?_) (fun c3 => ?_))
    · skip
      refine rRun hG 99999 ?_
      refine rIR hG rfl rfl (by first | exact Or.inl rfl | exact Or.inr rfl | (show _ ∨ _; omega)) ?_
      exact ⟨by first | (rw [if_pos (by omega)]; done) | (rw [if_neg (by omega)]; done), rfl⟩
    · skip
      refine And.intro rfl (And.intro (by omega) (And.intro (fun c4 => ?_) (fun c4 => ?_)))
      · skip
        refine rRun hG 99999 ?_
        refine rIR hG rfl rfl (by first | exact Or.inl rfl | exact Or.inr rfl | (show _ ∨ _; omega)) ?_
        exact ⟨by first | (rw [if_pos (by omega)]; done) | (rw [if_neg (by omega)]; done), rfl⟩
      · skip
        refine rIR hG rfl rfl (by first | exact Or.inl rfl | exact Or.inr rfl | (show _ ∨ _; omega)) ?_
        exact ⟨by first | (rw [if_pos (by omega)]; done) | (rw [if_neg (by omega)]; done), rfl⟩
set_option maxRecDepth 20000 in
set_option maxHeartbeats 2000000 in
theorem sp_X5_sunOf {uo : UD} {ux : XD} {ua ub : TD} {v0 v1 v2 : SD} {up uq : PD} {ur : HD} {k : Bool} {t : TD} (ht : t = tsel k ua ub) {i : Int} (h1 : inI i) (h2 : inI (tDay t)) : SpI l 1 yX5_sunOf cX5_sunOf 2 (some .int) [mr (tix k), mi i] (hC uo ux ua ub v0 v1 v2 up uq ur) (fun z h => z = (if 0 ≤ i ∧ i < tDay t ∧ i < 14 then tSun t i.toNat else -1) ∧ h = hC uo ux ua ub v0 v1 v2 up uq ur) := by
  cases k
  · obtain rfl : t = ua := ht
    refine SpI.of (cd := kdX5_sunOf) (fT := mlook flX5) (kT := mlook klX5) (kJ := mlook jlX5) mfA_X5_sunOf ok_X5_sunOf fT_X5 kT_X5 jT_X5 jdk_ok True.intro (Nat.le_of_ble_eq_true rfl) (fun G hG => ?_)
    refine rRun hG 99999 ?_
    refine And.intro (by omega) (And.intro (fun c1 => ?_) (fun c1 => ?_))
    · skip
      refine rRun hG 99999 ?_
      refine rIR hG rfl rfl (True.intro) ?_
      exact ⟨by first | (rw [if_pos (by omega)]; done) | (rw [if_neg (by omega)]; done), rfl⟩
    · skip
      refine And.intro rfl (And.intro (by omega) (And.intro (fun c2 => ?_) (fun c2 => ?_)))
      · skip
        refine rRun hG 99999 ?_
        refine rIR hG rfl rfl (True.intro) ?_
        exact ⟨by first | (rw [if_pos (by omega)]; done) | (rw [if_neg (by omega)]; done), rfl⟩
      · skip
        refine And.intro rfl (And.intro (by decide) (And.intro (by omega) (And.intro (fun c3 => ?_) (fun c3 => ?_))))
        · skip
          refine rRun hG 99999 ?_
          refine rIR hG rfl rfl (True.intro) ?_
          exact ⟨by first | (rw [if_pos (by omega)]; done) | (rw [if_neg (by omega)]; done), rfl⟩
        · skip
          refine And.intro rfl (And.intro (by omega) (?_))
          refine rIR hG rfl rfl (True.intro) ?_
          exact ⟨by first | (rw [if_pos (by omega)]; done) | (rw [if_neg (by omega)]; done), rfl⟩
  · obtain rfl : t = ub := ht
    refine SpI.of (cd := kdX5_sunOf) (fT := mlook flX5) (kT := mlook klX5) (kJ := mlook jlX5) mfA_X5_sunOf ok_X5_sunOf fT_X5 kT_X5 jT_X5 jdk_ok True.intro (Nat.le_of_ble_eq_true rfl) (fun G hG => ?_)
    refine rRun hG 99999 ?_
    refine And.intro (by omega) (And.intro (fun c4 => ?_) (fun c4 => ?_))
    · skip
      refine rRun hG 99999 ?_
      refine rIR hG rfl rfl (True.intro) ?_
      exact ⟨by first | (rw [if_pos (by omega)]; done) | (rw [if_neg (by omega)]; done), rfl⟩
    · skip
      refine And.intro rfl (And.intro (by omega) (And.intro (fun c5 => ?_) (fun c5 => ?_)))
      · skip
        refine rRun hG 99999 ?_
        refine rIR hG rfl rfl (True.intro) ?_
        exact ⟨by first | (rw [if_pos (by omega)]; done) | (rw [if_neg (by omega)]; done), rfl⟩
      · skip
        refine And.intro rfl (And.intro (by decide) (And.intro (by omega) (And.intro (fun c6 => ?_) (fun c6 => ?_))))
        · skip
          refine rRun hG 99999 ?_
          refine rIR hG rfl rfl (True.intro) ?_
          exact ⟨by first | (rw [if_pos (by omega)]; done) | (rw [if_neg (by omega)]; done), rfl⟩
        · skip
          refine And.intro rfl (And.intro (by omega) (?_))
          refine rIR hG rfl rfl (True.intro) ?_
          exact ⟨by first | (rw [if_pos (by omega)]; done) | (rw [if_neg (by omega)]; done), rfl⟩
set_option maxRecDepth 20000 in
set_option maxHeartbeats 2000000 in
theorem sp_X5_ofBribe {uo : UD} {ux : XD} {ua ub : TD} {v0 v1 v2 : SD} {up uq : PD} {ur : HD} {k : Bool} {t : TD} (ht : t = tsel k ua ub) {b w : Int} (h1 : inI (4 * b + w)) : SpI l 1 yX5_ofBribe cX5_ofBribe 4 (some .int) [mr (tix k), mi b, mi w] (hC uo ux ua ub v0 v1 v2 up uq ur) (fun z h => z = (if 0 ≤ 4 * b + w ∧ 4 * b + w < 24 then tBri t (4 * b + w).toNat else -1000000) ∧ h = hC uo ux ua ub v0 v1 v2 up uq ur) := by
  cases k
  · obtain rfl : t = ua := ht
    refine SpI.of (cd := kdX5_ofBribe) (fT := mlook flX5) (kT := mlook klX5) (kJ := mlook jlX5) mfA_X5_ofBribe ok_X5_ofBribe fT_X5 kT_X5 jT_X5 jdk_ok True.intro (Nat.le_of_ble_eq_true rfl) (fun G hG => ?_)
    refine rRun hG 99999 ?_
    refine And.intro (by omega) (And.intro (fun c1 => ?_) (fun c1 => ?_))
    · skip
      refine rRun hG 99999 ?_
      refine rIR hG rfl rfl (True.intro) ?_
      exact ⟨by first | (rw [if_pos (by omega)]; done) | (rw [if_neg (by omega)]; done), rfl⟩
    · skip
      refine And.intro rfl (And.intro (by decide) (And.intro (by omega) (And.intro (fun c2 => ?_) (fun c2 => ?_))))
      · skip
        refine rRun hG 99999 ?_
        refine rIR hG rfl rfl (True.intro) ?_
        exact ⟨by first | (rw [if_pos (by omega)]; done) | (rw [if_neg (by omega)]; done), rfl⟩
      · skip
        refine And.intro rfl (And.intro (by omega) (?_))
        refine rIR hG rfl rfl (True.intro) ?_
        exact ⟨by first | (rw [if_pos (by omega)]; done) | (rw [if_neg (by omega)]; done), rfl⟩
  · obtain rfl : t = ub := ht
    refine SpI.of (cd := kdX5_ofBribe) (fT := mlook flX5) (kT := mlook klX5) (kJ := mlook jlX5) mfA_X5_ofBribe ok_X5_ofBribe fT_X5 kT_X5 jT_X5 jdk_ok True.intro (Nat.le_of_ble_eq_true rfl) (fun G hG => ?_)
    refine rRun hG 99999 ?_
    refine And.intro (by omega) (And.intro (fun c3 => ?_) (fun c3 => ?_))
    · skip
      refine rRun hG 99999 ?_
      refine rIR hG rfl rfl (True.intro) ?_
      exact ⟨by first | (rw [if_pos (by omega)]; done) | (rw [if_neg (by omega)]; done), rfl⟩
    · skip
      refine And.intro rfl (And.intro (by decide) (And.intro (by omega) (And.intro (fun c4 => ?_) (fun c4 => ?_))))
      · skip
        refine rRun hG 99999 ?_
        refine rIR hG rfl rfl (True.intro) ?_
        exact ⟨by first | (rw [if_pos (by omega)]; done) | (rw [if_neg (by omega)]; done), rfl⟩
      · skip
        refine And.intro rfl (And.intro (by omega) (?_))
        refine rIR hG rfl rfl (True.intro) ?_
        exact ⟨by first | (rw [if_pos (by omega)]; done) | (rw [if_neg (by omega)]; done), rfl⟩
set_option maxRecDepth 20000 in
set_option maxHeartbeats 2000000 in
theorem sp_X5_ofTrade {uo : UD} {ux : XD} {ua ub : TD} {v0 v1 v2 : SD} {up uq : PD} {ur : HD} {k : Bool} {t : TD} (ht : t = tsel k ua ub) {b w : Int} (h1 : inI (2 * b + w)) : SpI l 1 yX5_ofTrade cX5_ofTrade 4 (some .int) [mr (tix k), mi b, mi w] (hC uo ux ua ub v0 v1 v2 up uq ur) (fun z h => z = (if 0 ≤ 2 * b + w ∧ 2 * b + w < 8 then tTra t (2 * b + w).toNat else -1) ∧ h = hC uo ux ua ub v0 v1 v2 up uq ur) := by
  cases k
  · obtain rfl : t = ua := ht
    refine SpI.of (cd := kdX5_ofTrade) (fT := mlook flX5) (kT := mlook klX5) (kJ := mlook jlX5) mfA_X5_ofTrade ok_X5_ofTrade fT_X5 kT_X5 jT_X5 jdk_ok True.intro (Nat.le_of_ble_eq_true rfl) (fun G hG => ?_)
    refine rRun hG 99999 ?_
    refine And.intro (by omega) (And.intro (fun c1 => ?_) (fun c1 => ?_))
    · skip
      refine rRun hG 99999 ?_
      refine rIR hG rfl rfl (True.intro) ?_
      exact ⟨by first | (rw [if_pos (by omega)]; done) | (rw [if_neg (by omega)]; done), rfl⟩
    · skip
      refine And.intro rfl (And.intro (by decide) (And.intro (by omega) (And.intro (fun c2 => ?_) (fun c2 => ?_))))
      · skip
        refine rRun hG 99999 ?_
        refine rIR hG rfl rfl (True.intro) ?_
        exact ⟨by first | (rw [if_pos (by omega)]; done) | (rw [if_neg (by omega)]; done), rfl⟩
      · skip
        refine And.intro rfl (And.intro (by omega) (?_))
        refine rIR hG rfl rfl (True.intro) ?_
        exact ⟨by first | (rw [if_pos (by omega)]; done) | (rw [if_neg (by omega)]; done), rfl⟩
  · obtain rfl : t = ub := ht
    refine SpI.of (cd := kdX5_ofTrade) (fT := mlook flX5) (kT := mlook klX5) (kJ := mlook jlX5) mfA_X5_ofTrade ok_X5_ofTrade fT_X5 kT_X5 jT_X5 jdk_ok True.intro (Nat.le_of_ble_eq_true rfl) (fun G hG => ?_)
    refine rRun hG 99999 ?_
    refine And.intro (by omega) (And.intro (fun c3 => ?_) (fun c3 => ?_))
    · skip
      refine rRun hG 99999 ?_
      refine rIR hG rfl rfl (True.intro) ?_
      exact ⟨by first | (rw [if_pos (by omega)]; done) | (rw [if_neg (by omega)]; done), rfl⟩
    · skip
      refine And.intro rfl (And.intro (by decide) (And.intro (by omega) (And.intro (fun c4 => ?_) (fun c4 => ?_))))
      · skip
        refine rRun hG 99999 ?_
        refine rIR hG rfl rfl (True.intro) ?_
        exact ⟨by first | (rw [if_pos (by omega)]; done) | (rw [if_neg (by omega)]; done), rfl⟩
      · skip
        refine And.intro rfl (And.intro (by omega) (?_))
        refine rIR hG rfl rfl (True.intro) ?_
        exact ⟨by first | (rw [if_pos (by omega)]; done) | (rw [if_neg (by omega)]; done), rfl⟩
def TOK (t : TD) : Prop := (0 ≤ tDay t ∧ tDay t ≤ 14) ∧ (0 ≤ tNB t ∧ tNB t ≤ 6) ∧ (0 ≤ tNT t ∧ tNT t ≤ 4) ∧ (0 ≤ tRst t ∧ tRst t ≤ 60) ∧ (0 ≤ tLim t ∧ tLim t ≤ 6) ∧ (0 ≤ tAdd t ∧ tAdd t ≤ 9) ∧ (∀ i, i < 14 → 0 ≤ tSun t i ∧ tSun t i ≤ 10) ∧ (∀ i, i < 6 → (0 ≤ tBri t (4 * i) ∧ tBri t (4 * i) ≤ 13) ∧ (0 ≤ tBri t (4 * i + 1) ∧ tBri t (4 * i + 1) ≤ 1) ∧ (-2 ≤ tBri t (4 * i + 2) ∧ tBri t (4 * i + 2) ≤ 3) ∧ 0 ≤ tBri t (4 * i + 3) ∧ tBri t (4 * i + 3) ≤ 20) ∧ (∀ i, i < 4 → (0 ≤ tTra t (2 * i) ∧ tTra t (2 * i) ≤ 9) ∧ 0 ≤ tTra t (2 * i + 1) ∧ tTra t (2 * i + 1) ≤ 1)
/-- what bribes of a day bring by a pace -/
def cndl (br : FN) (day pace : Int) : Nat → Int
  | 0 => 0
  | b + 1 => cndl br day pace b + (if br (4 * b) = day ∧ ((br (4 * b + 1) = 0 ∧ pace ≤ br (4 * b + 2)) ∨ (¬ br (4 * b + 1) = 0 ∧ br (4 * b + 2) ≤ pace)) then br (4 * b + 3) else 0)
theorem cndl_s {br : FN} {day pace : Int} {b : Nat} : cndl br day pace (b + 1) = cndl br day pace b + (if br (4 * b) = day ∧ ((br (4 * b + 1) = 0 ∧ pace ≤ br (4 * b + 2)) ∨ (¬ br (4 * b + 1) = 0 ∧ br (4 * b + 2) ≤ pace)) then br (4 * b + 3) else 0) := rfl
def hrm1 (tr : FN) (e : Int) (t : Nat) : Int := if tr (2 * t + 1) = 0 then (if e < 0 then tr (2 * t) * (-e) else 0) else (if 0 < e then tr (2 * t) * e else 0)
def hrmS (tr : FN) (e : Int) : Nat → Int
  | 0 => 0
  | t + 1 => hrmS tr e t + hrm1 tr e t
set_option maxRecDepth 20000 in
set_option maxHeartbeats 4000000 in
theorem sp_X5_candlesFor {uo : UD} {ux : XD} {ua ub : TD} {v0 v1 v2 : SD} {up uq : PD} {ur : HD} {k : Bool} {t : TD} (ht : t = tsel k ua ub) {day pace : Int} (hT : TOK t) (h1 : inI day) (h2 : inI pace) : SpI l 2 yX5_candlesFor cX5_candlesFor 7 (some .int) [mr (tix k), mi day, mi pace] (hC uo ux ua ub v0 v1 v2 up uq ur) (fun z h => z = cndl (tBri t) day pace (tNB t).toNat ∧ h = hC uo ux ua ub v0 v1 v2 up uq ur) := by
  have hT2 := hT.2.1
  cases k
  · obtain rfl : t = ua := ht
    refine SpI.of (cd := kdX5_candlesFor) (fT := mlook flX5) (kT := mlook klX5) (kJ := mlook jlX5) mfA_X5_candlesFor ok_X5_candlesFor fT_X5 kT_X5 jT_X5 jdk_ok True.intro (Nat.le_of_ble_eq_true rfl) (fun G hG => ?_)
    refine rRun hG 5 ?_
    have J5 : ∀ (n : Nat) (i : Nat), (i : Int) ≤ tNB t → (tNB t).toNat - i < n → G 5 [some (mr 3), some (mi day), some (mi pace), some (mi (cndl (tBri t) day pace i)), some (mi i), none, none] [] (hC uo ux t ub v0 v1 v2 up uq ur) := by
      intro n
      induction n with
      | zero => intro i _ hm; exact absurd hm (Nat.not_lt_zero _)
      | succ n ih =>
        intro i hinv hm
        have hB : i < 6 → _ := hT.2.2.2.2.2.2.2.1 i
        refine rRun hG 99999 ?_
        refine And.intro rfl (And.intro (by omega) (And.intro (fun c1 => ?_) (fun c1 => ?_)))
        · skip
          refine rRun hG 99999 ?_
          refine rIR hG rfl rfl (True.intro) ?_
          refine ⟨?_, rfl⟩
          rw [show (tNB t).toNat = i by omega]
        · skip
          have hB := hB (by omega)
          refine rV hG (sp_X5_ofBribe (t := t) (ht := rfl) (k := false) (b := (i : Int)) (w := 2) (by omega)) rfl rfl lk_X5_44 mf_X5_ofBribe (by decide) (Nat.le_of_ble_eq_true rfl) ⟨_, _, _, rfl, rfl, rfl⟩ ?_
          rintro z _ ⟨hz, rfl⟩
          rw [if_pos (by omega), show (4 * (i : Int) + 2).toNat = 4 * i + 2 by omega] at hz
          subst hz
          refine rRun hG 99999 ?_
          refine rV hG (sp_X5_ofBribe (t := t) (ht := rfl) (k := false) (b := (i : Int)) (w := 1) (by omega)) rfl rfl lk_X5_44 mf_X5_ofBribe (by decide) (Nat.le_of_ble_eq_true rfl) ⟨_, _, _, rfl, rfl, rfl⟩ ?_
          rintro z _ ⟨hz, rfl⟩
          rw [if_pos (by omega), show (4 * (i : Int) + 1).toNat = 4 * i + 1 by omega] at hz
          subst hz
          refine rRun hG 99999 ?_
          refine And.intro (by omega) (And.intro (fun c4 => ?_) (fun c4 => ?_))
          · skip
            refine rRun hG 99999 ?_
            refine And.intro (by omega) (And.intro (fun c5 => ?_) (fun c5 => ?_))
            · skip
              refine rRun hG 99999 ?_
              refine rV hG (sp_X5_ofBribe (t := t) (ht := rfl) (k := false) (b := (i : Int)) (w := 0) (by omega)) rfl rfl lk_X5_44 mf_X5_ofBribe (by decide) (Nat.le_of_ble_eq_true rfl) ⟨_, _, _, rfl, rfl, rfl⟩ ?_
              rintro z _ ⟨hz, rfl⟩
              rw [if_pos (by omega), show (4 * (i : Int) + 0).toNat = 4 * i by omega] at hz
              subst hz
              refine rRun hG 99999 ?_
              refine And.intro (by omega) (And.intro (fun c7 => ?_) (fun c7 => ?_))
              · skip
                refine rRun hG 99999 ?_
                refine rLess hG ?_ (ih (i + 1) ?_ ?_)
                · refine ⟨rfl, rfl, rfl, congrArg mi ?_, rfl, True.intro⟩
                  rw [cndl_s]
                  first | (rw [if_pos (by omega)]; done) | (rw [if_neg (by omega), Int.add_zero]; done)
                · omega
                · omega
              · skip
                refine And.intro (by omega) (And.intro (fun c8 => ?_) (fun c8 => ?_))
                · skip
                  refine rRun hG 99999 ?_
                  refine rLess hG ?_ (ih (i + 1) ?_ ?_)
                  · refine ⟨rfl, rfl, rfl, congrArg mi ?_, rfl, True.intro⟩
                    rw [cndl_s]
                    first | (rw [if_pos (by omega)]; done) | (rw [if_neg (by omega), Int.add_zero]; done)
                  · omega
                  · omega
                · skip
                  refine rV hG (sp_X5_ofBribe (t := t) (ht := rfl) (k := false) (b := (i : Int)) (w := 3) (by omega)) rfl rfl lk_X5_44 mf_X5_ofBribe (by decide) (Nat.le_of_ble_eq_true rfl) ⟨_, _, _, rfl, rfl, rfl⟩ ?_
                  rintro z _ ⟨hz, rfl⟩
                  rw [if_pos (by omega), show (4 * (i : Int) + 3).toNat = 4 * i + 3 by omega] at hz
                  subst hz
                  refine rRun hG 99999 ?_
                  refine rLess hG ?_ (ih (i + 1) ?_ ?_)
                  · refine ⟨rfl, rfl, rfl, congrArg mi ?_, rfl, True.intro⟩
                    rw [cndl_s]
                    first | (rw [if_pos (by omega)]; done) | (rw [if_neg (by omega), Int.add_zero]; done)
                  · omega
                  · omega
            · skip
              refine rRun hG 99999 ?_
              refine rV hG (sp_X5_ofBribe (t := t) (ht := rfl) (k := false) (b := (i : Int)) (w := 0) (by omega)) rfl rfl lk_X5_44 mf_X5_ofBribe (by decide) (Nat.le_of_ble_eq_true rfl) ⟨_, _, _, rfl, rfl, rfl⟩ ?_
              rintro z _ ⟨hz, rfl⟩
              rw [if_pos (by omega), show (4 * (i : Int) + 0).toNat = 4 * i by omega] at hz
              subst hz
              refine rRun hG 99999 ?_
              refine And.intro (by omega) (And.intro (fun c11 => ?_) (fun c11 => ?_))
              · skip
                refine rRun hG 99999 ?_
                refine rLess hG ?_ (ih (i + 1) ?_ ?_)
                · refine ⟨rfl, rfl, rfl, congrArg mi ?_, rfl, True.intro⟩
                  rw [cndl_s]
                  first | (rw [if_pos (by omega)]; done) | (rw [if_neg (by omega), Int.add_zero]; done)
                · omega
                · omega
              · skip
                refine And.intro (by omega) (And.intro (fun c12 => ?_) (fun c12 => ?_))
                · skip
                  refine rRun hG 99999 ?_
                  refine rLess hG ?_ (ih (i + 1) ?_ ?_)
                  · refine ⟨rfl, rfl, rfl, congrArg mi ?_, rfl, True.intro⟩
                    rw [cndl_s]
                    first | (rw [if_pos (by omega)]; done) | (rw [if_neg (by omega), Int.add_zero]; done)
                  · omega
                  · omega
                · skip
                  refine rV hG (sp_X5_ofBribe (t := t) (ht := rfl) (k := false) (b := (i : Int)) (w := 3) (by omega)) rfl rfl lk_X5_44 mf_X5_ofBribe (by decide) (Nat.le_of_ble_eq_true rfl) ⟨_, _, _, rfl, rfl, rfl⟩ ?_
                  rintro z _ ⟨hz, rfl⟩
                  rw [if_pos (by omega), show (4 * (i : Int) + 3).toNat = 4 * i + 3 by omega] at hz
                  subst hz
                  refine rRun hG 99999 ?_
                  refine rLess hG ?_ (ih (i + 1) ?_ ?_)
                  · refine ⟨rfl, rfl, rfl, congrArg mi ?_, rfl, True.intro⟩
                    rw [cndl_s]
                    first | (rw [if_pos (by omega)]; done) | (rw [if_neg (by omega), Int.add_zero]; done)
                  · omega
                  · omega
          · skip
            refine And.intro (by omega) (And.intro (fun c14 => ?_) (fun c14 => ?_))
            · skip
              refine rRun hG 99999 ?_
              refine rRun hG 99999 ?_
              refine rV hG (sp_X5_ofBribe (t := t) (ht := rfl) (k := false) (b := (i : Int)) (w := 0) (by omega)) rfl rfl lk_X5_44 mf_X5_ofBribe (by decide) (Nat.le_of_ble_eq_true rfl) ⟨_, _, _, rfl, rfl, rfl⟩ ?_
              rintro z _ ⟨hz, rfl⟩
              rw [if_pos (by omega), show (4 * (i : Int) + 0).toNat = 4 * i by omega] at hz
              subst hz
              refine rRun hG 99999 ?_
              refine And.intro (by omega) (And.intro (fun c16 => ?_) (fun c16 => ?_))
              · skip
                refine rRun hG 99999 ?_
                refine rLess hG ?_ (ih (i + 1) ?_ ?_)
                · refine ⟨rfl, rfl, rfl, congrArg mi ?_, rfl, True.intro⟩
                  rw [cndl_s]
                  first | (rw [if_pos (by omega)]; done) | (rw [if_neg (by omega), Int.add_zero]; done)
                · omega
                · omega
              · skip
                refine And.intro (by omega) (And.intro (fun c17 => ?_) (fun c17 => ?_))
                · skip
                  refine rRun hG 99999 ?_
                  refine rLess hG ?_ (ih (i + 1) ?_ ?_)
                  · refine ⟨rfl, rfl, rfl, congrArg mi ?_, rfl, True.intro⟩
                    rw [cndl_s]
                    first | (rw [if_pos (by omega)]; done) | (rw [if_neg (by omega), Int.add_zero]; done)
                  · omega
                  · omega
                · skip
                  refine rV hG (sp_X5_ofBribe (t := t) (ht := rfl) (k := false) (b := (i : Int)) (w := 3) (by omega)) rfl rfl lk_X5_44 mf_X5_ofBribe (by decide) (Nat.le_of_ble_eq_true rfl) ⟨_, _, _, rfl, rfl, rfl⟩ ?_
                  rintro z _ ⟨hz, rfl⟩
                  rw [if_pos (by omega), show (4 * (i : Int) + 3).toNat = 4 * i + 3 by omega] at hz
                  subst hz
                  refine rRun hG 99999 ?_
                  refine rLess hG ?_ (ih (i + 1) ?_ ?_)
                  · refine ⟨rfl, rfl, rfl, congrArg mi ?_, rfl, True.intro⟩
                    rw [cndl_s]
                    first | (rw [if_pos (by omega)]; done) | (rw [if_neg (by omega), Int.add_zero]; done)
                  · omega
                  · omega
            · skip
              refine rRun hG 99999 ?_
              refine rV hG (sp_X5_ofBribe (t := t) (ht := rfl) (k := false) (b := (i : Int)) (w := 0) (by omega)) rfl rfl lk_X5_44 mf_X5_ofBribe (by decide) (Nat.le_of_ble_eq_true rfl) ⟨_, _, _, rfl, rfl, rfl⟩ ?_
              rintro z _ ⟨hz, rfl⟩
              rw [if_pos (by omega), show (4 * (i : Int) + 0).toNat = 4 * i by omega] at hz
              subst hz
              refine rRun hG 99999 ?_
              refine And.intro (by omega) (And.intro (fun c20 => ?_) (fun c20 => ?_))
              · skip
                refine rRun hG 99999 ?_
                refine rLess hG ?_ (ih (i + 1) ?_ ?_)
                · refine ⟨rfl, rfl, rfl, congrArg mi ?_, rfl, True.intro⟩
                  rw [cndl_s]
                  first | (rw [if_pos (by omega)]; done) | (rw [if_neg (by omega), Int.add_zero]; done)
                · omega
                · omega
              · skip
                refine And.intro (by omega) (And.intro (fun c21 => ?_) (fun c21 => ?_))
                · skip
                  refine rRun hG 99999 ?_
                  refine rLess hG ?_ (ih (i + 1) ?_ ?_)
                  · refine ⟨rfl, rfl, rfl, congrArg mi ?_, rfl, True.intro⟩
                    rw [cndl_s]
                    first | (rw [if_pos (by omega)]; done) | (rw [if_neg (by omega), Int.add_zero]; done)
                  · omega
                  · omega
                · skip
                  refine rV hG (sp_X5_ofBribe (t := t) (ht := rfl) (k := false) (b := (i : Int)) (w := 3) (by omega)) rfl rfl lk_X5_44 mf_X5_ofBribe (by decide) (Nat.le_of_ble_eq_true rfl) ⟨_, _, _, rfl, rfl, rfl⟩ ?_
                  rintro z _ ⟨hz, rfl⟩
                  rw [if_pos (by omega), show (4 * (i : Int) + 3).toNat = 4 * i + 3 by omega] at hz
                  subst hz
                  refine rRun hG 99999 ?_
                  refine rLess hG ?_ (ih (i + 1) ?_ ?_)
                  · refine ⟨rfl, rfl, rfl, congrArg mi ?_, rfl, True.intro⟩
                    rw [cndl_s]
                    first | (rw [if_pos (by omega)]; done) | (rw [if_neg (by omega), Int.add_zero]; done)
                  · omega
                  · omega
    exact J5 _ 0 (by omega) (Nat.lt_succ_self _)
  · obtain rfl : t = ub := ht
    refine SpI.of (cd := kdX5_candlesFor) (fT := mlook flX5) (kT := mlook klX5) (kJ := mlook jlX5) mfA_X5_candlesFor ok_X5_candlesFor fT_X5 kT_X5 jT_X5 jdk_ok True.intro (Nat.le_of_ble_eq_true rfl) (fun G hG => ?_)
    refine rRun hG 5 ?_
    have J5 : ∀ (n : Nat) (i : Nat), (i : Int) ≤ tNB t → (tNB t).toNat - i < n → G 5 [some (mr 7), some (mi day), some (mi pace), some (mi (cndl (tBri t) day pace i)), some (mi i), none, none] [] (hC uo ux ua t v0 v1 v2 up uq ur) := by
      intro n
      induction n with
      | zero => intro i _ hm; exact absurd hm (Nat.not_lt_zero _)
      | succ n ih =>
        intro i hinv hm
        have hB : i < 6 → _ := hT.2.2.2.2.2.2.2.1 i
        refine rRun hG 99999 ?_
        refine And.intro rfl (And.intro (by omega) (And.intro (fun c1 => ?_) (fun c1 => ?_)))
        · skip
          refine rRun hG 99999 ?_
          refine rIR hG rfl rfl (True.intro) ?_
          refine ⟨?_, rfl⟩
          rw [show (tNB t).toNat = i by omega]
        · skip
          have hB := hB (by omega)
          refine rV hG (sp_X5_ofBribe (t := t) (ht := rfl) (k := true) (b := (i : Int)) (w := 2) (by omega)) rfl rfl lk_X5_44 mf_X5_ofBribe (by decide) (Nat.le_of_ble_eq_true rfl) ⟨_, _, _, rfl, rfl, rfl⟩ ?_
          rintro z _ ⟨hz, rfl⟩
          rw [if_pos (by omega), show (4 * (i : Int) + 2).toNat = 4 * i + 2 by omega] at hz
          subst hz
          refine rRun hG 99999 ?_
          refine rV hG (sp_X5_ofBribe (t := t) (ht := rfl) (k := true) (b := (i : Int)) (w := 1) (by omega)) rfl rfl lk_X5_44 mf_X5_ofBribe (by decide) (Nat.le_of_ble_eq_true rfl) ⟨_, _, _, rfl, rfl, rfl⟩ ?_
          rintro z _ ⟨hz, rfl⟩
          rw [if_pos (by omega), show (4 * (i : Int) + 1).toNat = 4 * i + 1 by omega] at hz
          subst hz
          refine rRun hG 99999 ?_
          refine And.intro (by omega) (And.intro (fun c4 => ?_) (fun c4 => ?_))
          · skip
            refine rRun hG 99999 ?_
            refine And.intro (by omega) (And.intro (fun c5 => ?_) (fun c5 => ?_))
            · skip
              refine rRun hG 99999 ?_
              refine rV hG (sp_X5_ofBribe (t := t) (ht := rfl) (k := true) (b := (i : Int)) (w := 0) (by omega)) rfl rfl lk_X5_44 mf_X5_ofBribe (by decide) (Nat.le_of_ble_eq_true rfl) ⟨_, _, _, rfl, rfl, rfl⟩ ?_
              rintro z _ ⟨hz, rfl⟩
              rw [if_pos (by omega), show (4 * (i : Int) + 0).toNat = 4 * i by omega] at hz
              subst hz
              refine rRun hG 99999 ?_
              refine And.intro (by omega) (And.intro (fun c7 => ?_) (fun c7 => ?_))
              · skip
                refine rRun hG 99999 ?_
                refine rLess hG ?_ (ih (i + 1) ?_ ?_)
                · refine ⟨rfl, rfl, rfl, congrArg mi ?_, rfl, True.intro⟩
                  rw [cndl_s]
                  first | (rw [if_pos (by omega)]; done) | (rw [if_neg (by omega), Int.add_zero]; done)
                · omega
                · omega
              · skip
                refine And.intro (by omega) (And.intro (fun c8 => ?_) (fun c8 => ?_))
                · skip
                  refine rRun hG 99999 ?_
                  refine rLess hG ?_ (ih (i + 1) ?_ ?_)
                  · refine ⟨rfl, rfl, rfl, congrArg mi ?_, rfl, True.intro⟩
                    rw [cndl_s]
                    first | (rw [if_pos (by omega)]; done) | (rw [if_neg (by omega), Int.add_zero]; done)
                  · omega
                  · omega
                · skip
                  refine rV hG (sp_X5_ofBribe (t := t) (ht := rfl) (k := true) (b := (i : Int)) (w := 3) (by omega)) rfl rfl lk_X5_44 mf_X5_ofBribe (by decide) (Nat.le_of_ble_eq_true rfl) ⟨_, _, _, rfl, rfl, rfl⟩ ?_
                  rintro z _ ⟨hz, rfl⟩
                  rw [if_pos (by omega), show (4 * (i : Int) + 3).toNat = 4 * i + 3 by omega] at hz
                  subst hz
                  refine rRun hG 99999 ?_
                  refine rLess hG ?_ (ih (i + 1) ?_ ?_)
                  · refine ⟨rfl, rfl, rfl, congrArg mi ?_, rfl, True.intro⟩
                    rw [cndl_s]
                    first | (rw [if_pos (by omega)]; done) | (rw [if_neg (by omega), Int.add_zero]; done)
                  · omega
                  · omega
            · skip
              refine rRun hG 99999 ?_
              refine rV hG (sp_X5_ofBribe (t := t) (ht := rfl) (k := true) (b := (i : Int)) (w := 0) (by omega)) rfl rfl lk_X5_44 mf_X5_ofBribe (by decide) (Nat.le_of_ble_eq_true rfl) ⟨_, _, _, rfl, rfl, rfl⟩ ?_
              rintro z _ ⟨hz, rfl⟩
              rw [if_pos (by omega), show (4 * (i : Int) + 0).toNat = 4 * i by omega] at hz
              subst hz
              refine rRun hG 99999 ?_
              refine And.intro (by omega) (And.intro (fun c11 => ?_) (fun c11 => ?_))
              · skip
                refine rRun hG 99999 ?_
                refine rLess hG ?_ (ih (i + 1) ?_ ?_)
                · refine ⟨rfl, rfl, rfl, congrArg mi ?_, rfl, True.intro⟩
                  rw [cndl_s]
                  first | (rw [if_pos (by omega)]; done) | (rw [if_neg (by omega), Int.add_zero]; done)
                · omega
                · omega
              · skip
                refine And.intro (by omega) (And.intro (fun c12 => ?_) (fun c12 => ?_))
                · skip
                  refine rRun hG 99999 ?_
                  refine rLess hG ?_ (ih (i + 1) ?_ ?_)
                  · refine ⟨rfl, rfl, rfl, congrArg mi ?_, rfl, True.intro⟩
                    rw [cndl_s]
                    first | (rw [if_pos (by omega)]; done) | (rw [if_neg (by omega), Int.add_zero]; done)
                  · omega
                  · omega
                · skip
                  refine rV hG (sp_X5_ofBribe (t := t) (ht := rfl) (k := true) (b := (i : Int)) (w := 3) (by omega)) rfl rfl lk_X5_44 mf_X5_ofBribe (by decide) (Nat.le_of_ble_eq_true rfl) ⟨_, _, _, rfl, rfl, rfl⟩ ?_
                  rintro z _ ⟨hz, rfl⟩
                  rw [if_pos (by omega), show (4 * (i : Int) + 3).toNat = 4 * i + 3 by omega] at hz
                  subst hz
                  refine rRun hG 99999 ?_
                  refine rLess hG ?_ (ih (i + 1) ?_ ?_)
                  · refine ⟨rfl, rfl, rfl, congrArg mi ?_, rfl, True.intro⟩
                    rw [cndl_s]
                    first | (rw [if_pos (by omega)]; done) | (rw [if_neg (by omega), Int.add_zero]; done)
                  · omega
                  · omega
          · skip
            refine And.intro (by omega) (And.intro (fun c14 => ?_) (fun c14 => ?_))
            · skip
              refine rRun hG 99999 ?_
              refine rRun hG 99999 ?_
              refine rV hG (sp_X5_ofBribe (t := t) (ht := rfl) (k := true) (b := (i : Int)) (w := 0) (by omega)) rfl rfl lk_X5_44 mf_X5_ofBribe (by decide) (Nat.le_of_ble_eq_true rfl) ⟨_, _, _, rfl, rfl, rfl⟩ ?_
              rintro z _ ⟨hz, rfl⟩
              rw [if_pos (by omega), show (4 * (i : Int) + 0).toNat = 4 * i by omega] at hz
              subst hz
              refine rRun hG 99999 ?_
              refine And.intro (by omega) (And.intro (fun c16 => ?_) (fun c16 => ?_))
              · skip
                refine rRun hG 99999 ?_
                refine rLess hG ?_ (ih (i + 1) ?_ ?_)
                · refine ⟨rfl, rfl, rfl, congrArg mi ?_, rfl, True.intro⟩
                  rw [cndl_s]
                  first | (rw [if_pos (by omega)]; done) | (rw [if_neg (by omega), Int.add_zero]; done)
                · omega
                · omega
              · skip
                refine And.intro (by omega) (And.intro (fun c17 => ?_) (fun c17 => ?_))
                · skip
                  refine rRun hG 99999 ?_
                  refine rLess hG ?_ (ih (i + 1) ?_ ?_)
                  · refine ⟨rfl, rfl, rfl, congrArg mi ?_, rfl, True.intro⟩
                    rw [cndl_s]
                    first | (rw [if_pos (by omega)]; done) | (rw [if_neg (by omega), Int.add_zero]; done)
                  · omega
                  · omega
                · skip
                  refine rV hG (sp_X5_ofBribe (t := t) (ht := rfl) (k := true) (b := (i : Int)) (w := 3) (by omega)) rfl rfl lk_X5_44 mf_X5_ofBribe (by decide) (Nat.le_of_ble_eq_true rfl) ⟨_, _, _, rfl, rfl, rfl⟩ ?_
                  rintro z _ ⟨hz, rfl⟩
                  rw [if_pos (by omega), show (4 * (i : Int) + 3).toNat = 4 * i + 3 by omega] at hz
                  subst hz
                  refine rRun hG 99999 ?_
                  refine rLess hG ?_ (ih (i + 1) ?_ ?_)
                  · refine ⟨rfl, rfl, rfl, congrArg mi ?_, rfl, True.intro⟩
                    rw [cndl_s]
                    first | (rw [if_pos (by omega)]; done) | (rw [if_neg (by omega), Int.add_zero]; done)
                  · omega
                  · omega
            · skip
              refine rRun hG 99999 ?_
              refine rV hG (sp_X5_ofBribe (t := t) (ht := rfl) (k := true) (b := (i : Int)) (w := 0) (by omega)) rfl rfl lk_X5_44 mf_X5_ofBribe (by decide) (Nat.le_of_ble_eq_true rfl) ⟨_, _, _, rfl, rfl, rfl⟩ ?_
              rintro z _ ⟨hz, rfl⟩
              rw [if_pos (by omega), show (4 * (i : Int) + 0).toNat = 4 * i by omega] at hz
              subst hz
              refine rRun hG 99999 ?_
              refine And.intro (by omega) (And.intro (fun c20 => ?_) (fun c20 => ?_))
              · skip
                refine rRun hG 99999 ?_
                refine rLess hG ?_ (ih (i + 1) ?_ ?_)
                · refine ⟨rfl, rfl, rfl, congrArg mi ?_, rfl, True.intro⟩
                  rw [cndl_s]
                  first | (rw [if_pos (by omega)]; done) | (rw [if_neg (by omega), Int.add_zero]; done)
                · omega
                · omega
              · skip
                refine And.intro (by omega) (And.intro (fun c21 => ?_) (fun c21 => ?_))
                · skip
                  refine rRun hG 99999 ?_
                  refine rLess hG ?_ (ih (i + 1) ?_ ?_)
                  · refine ⟨rfl, rfl, rfl, congrArg mi ?_, rfl, True.intro⟩
                    rw [cndl_s]
                    first | (rw [if_pos (by omega)]; done) | (rw [if_neg (by omega), Int.add_zero]; done)
                  · omega
                  · omega
                · skip
                  refine rV hG (sp_X5_ofBribe (t := t) (ht := rfl) (k := true) (b := (i : Int)) (w := 3) (by omega)) rfl rfl lk_X5_44 mf_X5_ofBribe (by decide) (Nat.le_of_ble_eq_true rfl) ⟨_, _, _, rfl, rfl, rfl⟩ ?_
                  rintro z _ ⟨hz, rfl⟩
                  rw [if_pos (by omega), show (4 * (i : Int) + 3).toNat = 4 * i + 3 by omega] at hz
                  subst hz
                  refine rRun hG 99999 ?_
                  refine rLess hG ?_ (ih (i + 1) ?_ ?_)
                  · refine ⟨rfl, rfl, rfl, congrArg mi ?_, rfl, True.intro⟩
                    rw [cndl_s]
                    first | (rw [if_pos (by omega)]; done) | (rw [if_neg (by omega), Int.add_zero]; done)
                  · omega
                  · omega
    exact J5 _ 0 (by omega) (Nat.lt_succ_self _)
set_option maxRecDepth 20000 in
set_option maxHeartbeats 4000000 in
theorem sp_X5_harmTo {uo : UD} {ux : XD} {ua ub : TD} {v0 v1 v2 : SD} {up uq : PD} {ur : HD} {k : Bool} {t : TD} (ht : t = tsel k ua ub) {i : Nat} {er : Int} (hT : TOK t) (hi : i < 4) (h1 : -1000 ≤ er ∧ er ≤ 1000) : SpI l 2 yX5_harmTo cX5_harmTo 4 (some .int) [mr (tix k), mi i, mi er] (hC uo ux ua ub v0 v1 v2 up uq ur) (fun z h => z = hrm1 (tTra t) er i ∧ h = hC uo ux ua ub v0 v1 v2 up uq ur) := by
  have hB := hT.2.2.2.2.2.2.2.2 i hi
  cases k
  · obtain rfl : t = ua := ht
    refine SpI.of (cd := kdX5_harmTo) (fT := mlook flX5) (kT := mlook klX5) (kJ := mlook jlX5) mfA_X5_harmTo ok_X5_harmTo fT_X5 kT_X5 jT_X5 jdk_ok True.intro (Nat.le_of_ble_eq_true rfl) (fun G hG => ?_)
    refine rRun hG 99999 ?_
    refine rV hG (sp_X5_ofTrade (t := t) (ht := rfl) (k := false) (b := (i : Int)) (w := 1) (by omega)) rfl rfl lk_X5_48 mf_X5_ofTrade (by decide) (Nat.le_of_ble_eq_true rfl) ⟨_, _, _, rfl, rfl, rfl⟩ ?_
    rintro z _ ⟨hz, rfl⟩
    rw [if_pos (by omega), show (2 * (i : Int) + 1).toNat = 2 * i + 1 by omega] at hz
    subst hz
    refine rRun hG 99999 ?_
    refine And.intro (by omega) (And.intro (fun c2 => ?_) (fun c2 => ?_))
    · skip
      refine rRun hG 99999 ?_
      refine And.intro (by omega) (And.intro (fun c3 => ?_) (fun c3 => ?_))
      · skip
        refine rRun hG 99999 ?_
        refine rIR hG rfl rfl (True.intro) ?_
        refine ⟨?_, rfl⟩
        unfold hrm1
        first | (rw [if_pos (by omega), if_pos (by omega)]; done) | (rw [if_pos (by omega), if_neg (by omega)]; done) | (rw [if_neg (by omega), if_pos (by omega)]; done) | (rw [if_neg (by omega), if_neg (by omega)]; done)
      · skip
        refine rV hG (sp_X5_ofTrade (t := t) (ht := rfl) (k := false) (b := (i : Int)) (w := 0) (by omega)) rfl rfl lk_X5_48 mf_X5_ofTrade (by decide) (Nat.le_of_ble_eq_true rfl) ⟨_, _, _, rfl, rfl, rfl⟩ ?_
        rintro z _ ⟨hz, rfl⟩
        rw [if_pos (by omega), show (2 * (i : Int) + 0).toNat = 2 * i by omega] at hz
        subst hz
        refine rRun hG 99999 ?_
        refine rIR hG rfl rfl (True.intro) ?_
        refine ⟨?_, rfl⟩
        unfold hrm1
        first | (rw [if_pos (by omega), if_pos (by omega)]; done) | (rw [if_pos (by omega), if_neg (by omega)]; done) | (rw [if_neg (by omega), if_pos (by omega)]; done) | (rw [if_neg (by omega), if_neg (by omega)]; done)
    · skip
      refine rRun hG 99999 ?_
      refine And.intro (by omega) (And.intro (fun c5 => ?_) (fun c5 => ?_))
      · skip
        refine rRun hG 99999 ?_
        refine rIR hG rfl rfl (True.intro) ?_
        refine ⟨?_, rfl⟩
        unfold hrm1
        first | (rw [if_pos (by omega), if_pos (by omega)]; done) | (rw [if_pos (by omega), if_neg (by omega)]; done) | (rw [if_neg (by omega), if_pos (by omega)]; done) | (rw [if_neg (by omega), if_neg (by omega)]; done)
      · skip
        refine rV hG (sp_X5_ofTrade (t := t) (ht := rfl) (k := false) (b := (i : Int)) (w := 0) (by omega)) rfl rfl lk_X5_48 mf_X5_ofTrade (by decide) (Nat.le_of_ble_eq_true rfl) ⟨_, _, _, rfl, rfl, rfl⟩ ?_
        rintro z _ ⟨hz, rfl⟩
        rw [if_pos (by omega), show (2 * (i : Int) + 0).toNat = 2 * i by omega] at hz
        subst hz
        refine rRun hG 99999 ?_
        refine rIR hG rfl rfl (True.intro) ?_
        refine ⟨?_, rfl⟩
        unfold hrm1
        first | (rw [if_pos (by omega), if_pos (by omega)]; done) | (rw [if_pos (by omega), if_neg (by omega)]; done) | (rw [if_neg (by omega), if_pos (by omega)]; done) | (rw [if_neg (by omega), if_neg (by omega)]; done)
  · obtain rfl : t = ub := ht
    refine SpI.of (cd := kdX5_harmTo) (fT := mlook flX5) (kT := mlook klX5) (kJ := mlook jlX5) mfA_X5_harmTo ok_X5_harmTo fT_X5 kT_X5 jT_X5 jdk_ok True.intro (Nat.le_of_ble_eq_true rfl) (fun G hG => ?_)
    refine rRun hG 99999 ?_
    refine rV hG (sp_X5_ofTrade (t := t) (ht := rfl) (k := true) (b := (i : Int)) (w := 1) (by omega)) rfl rfl lk_X5_48 mf_X5_ofTrade (by decide) (Nat.le_of_ble_eq_true rfl) ⟨_, _, _, rfl, rfl, rfl⟩ ?_
    rintro z _ ⟨hz, rfl⟩
    rw [if_pos (by omega), show (2 * (i : Int) + 1).toNat = 2 * i + 1 by omega] at hz
    subst hz
    refine rRun hG 99999 ?_
    refine And.intro (by omega) (And.intro (fun c2 => ?_) (fun c2 => ?_))
    · skip
      refine rRun hG 99999 ?_
      refine And.intro (by omega) (And.intro (fun c3 => ?_) (fun c3 => ?_))
      · skip
        refine rRun hG 99999 ?_
        refine rIR hG rfl rfl (True.intro) ?_
        refine ⟨?_, rfl⟩
        unfold hrm1
        first | (rw [if_pos (by omega), if_pos (by omega)]; done) | (rw [if_pos (by omega), if_neg (by omega)]; done) | (rw [if_neg (by omega), if_pos (by omega)]; done) | (rw [if_neg (by omega), if_neg (by omega)]; done)
      · skip
        refine rV hG (sp_X5_ofTrade (t := t) (ht := rfl) (k := true) (b := (i : Int)) (w := 0) (by omega)) rfl rfl lk_X5_48 mf_X5_ofTrade (by decide) (Nat.le_of_ble_eq_true rfl) ⟨_, _, _, rfl, rfl, rfl⟩ ?_
        rintro z _ ⟨hz, rfl⟩
        rw [if_pos (by omega), show (2 * (i : Int) + 0).toNat = 2 * i by omega] at hz
        subst hz
        refine rRun hG 99999 ?_
        refine rIR hG rfl rfl (True.intro) ?_
        refine ⟨?_, rfl⟩
        unfold hrm1
        first | (rw [if_pos (by omega), if_pos (by omega)]; done) | (rw [if_pos (by omega), if_neg (by omega)]; done) | (rw [if_neg (by omega), if_pos (by omega)]; done) | (rw [if_neg (by omega), if_neg (by omega)]; done)
    · skip
      refine rRun hG 99999 ?_
      refine And.intro (by omega) (And.intro (fun c5 => ?_) (fun c5 => ?_))
      · skip
        refine rRun hG 99999 ?_
        refine rIR hG rfl rfl (True.intro) ?_
        refine ⟨?_, rfl⟩
        unfold hrm1
        first | (rw [if_pos (by omega), if_pos (by omega)]; done) | (rw [if_pos (by omega), if_neg (by omega)]; done) | (rw [if_neg (by omega), if_pos (by omega)]; done) | (rw [if_neg (by omega), if_neg (by omega)]; done)
      · skip
        refine rV hG (sp_X5_ofTrade (t := t) (ht := rfl) (k := true) (b := (i : Int)) (w := 0) (by omega)) rfl rfl lk_X5_48 mf_X5_ofTrade (by decide) (Nat.le_of_ble_eq_true rfl) ⟨_, _, _, rfl, rfl, rfl⟩ ?_
        rintro z _ ⟨hz, rfl⟩
        rw [if_pos (by omega), show (2 * (i : Int) + 0).toNat = 2 * i by omega] at hz
        subst hz
        refine rRun hG 99999 ?_
        refine rIR hG rfl rfl (True.intro) ?_
        refine ⟨?_, rfl⟩
        unfold hrm1
        first | (rw [if_pos (by omega), if_pos (by omega)]; done) | (rw [if_pos (by omega), if_neg (by omega)]; done) | (rw [if_neg (by omega), if_pos (by omega)]; done) | (rw [if_neg (by omega), if_neg (by omega)]; done)
set_option maxRecDepth 20000 in
set_option maxHeartbeats 4000000 in
theorem sp_X5_harmToAll {uo : UD} {ux : XD} {ua ub : TD} {v0 v1 v2 : SD} {up uq : PD} {ur : HD} {k : Bool} {t : TD} (ht : t = tsel k ua ub) {er : Int} (hT : TOK t) (h1 : -1000 ≤ er ∧ er ≤ 1000) : SpI l 3 yX5_harmToAll cX5_harmToAll 4 (some .int) [mr (tix k), mi er] (hC uo ux ua ub v0 v1 v2 up uq ur) (fun z h => z = hrmS (tTra t) er (tNT t).toNat ∧ h = hC uo ux ua ub v0 v1 v2 up uq ur) := by
  have hT2 := hT.2.2.1
  cases k
  · obtain rfl : t = ua := ht
    refine SpI.of (cd := kdX5_harmToAll) (fT := mlook flX5) (kT := mlook klX5) (kJ := mlook jlX5) mfA_X5_harmToAll ok_X5_harmToAll fT_X5 kT_X5 jT_X5 jdk_ok True.intro (Nat.le_of_ble_eq_true rfl) (fun G hG => ?_)
    refine rRun hG 4 ?_
    have J4 : ∀ (n : Nat) (i : Nat), (i : Int) ≤ tNT t → (tNT t).toNat - i < n → G 4 [some (mr 3), some (mi er), some (mi (hrmS (tTra t) er i)), some (mi i)] [] (hC uo ux t ub v0 v1 v2 up uq ur) := by
      intro n
      induction n with
      | zero => intro i _ hm; exact absurd hm (Nat.not_lt_zero _)
      | succ n ih =>
        intro i hinv hm
        refine rRun hG 99999 ?_
        refine And.intro rfl (And.intro (by omega) (And.intro (fun c1 => ?_) (fun c1 => ?_)))
        · skip
          refine rRun hG 99999 ?_
          refine rIR hG rfl rfl (True.intro) ?_
          refine ⟨?_, rfl⟩
          rw [show (tNT t).toNat = i by omega]
        · skip
          refine rV hG (sp_X5_harmTo (t := t) (ht := rfl) (k := false) (i := i) (er := er) hT (by omega) h1) rfl rfl lk_X5_51 mf_X5_harmTo (by decide) (Nat.le_of_ble_eq_true rfl) ⟨_, _, _, rfl, rfl, rfl⟩ ?_
          rintro _ _ ⟨rfl, rfl⟩
          refine rRun hG 99999 ?_
          refine rLess hG ?_ (ih (i + 1) ?_ ?_)
          · exact ⟨rfl, rfl, rfl, rfl, True.intro⟩
          · omega
          · omega
    exact J4 _ 0 (by omega) (Nat.lt_succ_self _)
  · obtain rfl : t = ub := ht
    refine SpI.of (cd := kdX5_harmToAll) (fT := mlook flX5) (kT := mlook klX5) (kJ := mlook jlX5) mfA_X5_harmToAll ok_X5_harmToAll fT_X5 kT_X5 jT_X5 jdk_ok True.intro (Nat.le_of_ble_eq_true rfl) (fun G hG => ?_)
    refine rRun hG 4 ?_
    have J4 : ∀ (n : Nat) (i : Nat), (i : Int) ≤ tNT t → (tNT t).toNat - i < n → G 4 [some (mr 7), some (mi er), some (mi (hrmS (tTra t) er i)), some (mi i)] [] (hC uo ux ua t v0 v1 v2 up uq ur) := by
      intro n
      induction n with
      | zero => intro i _ hm; exact absurd hm (Nat.not_lt_zero _)
      | succ n ih =>
        intro i hinv hm
        refine rRun hG 99999 ?_
        refine And.intro rfl (And.intro (by omega) (And.intro (fun c1 => ?_) (fun c1 => ?_)))
        · skip
          refine rRun hG 99999 ?_
          refine rIR hG rfl rfl (True.intro) ?_
          refine ⟨?_, rfl⟩
          rw [show (tNT t).toNat = i by omega]
        · skip
          refine rV hG (sp_X5_harmTo (t := t) (ht := rfl) (k := true) (i := i) (er := er) hT (by omega) h1) rfl rfl lk_X5_51 mf_X5_harmTo (by decide) (Nat.le_of_ble_eq_true rfl) ⟨_, _, _, rfl, rfl, rfl⟩ ?_
          rintro _ _ ⟨rfl, rfl⟩
          refine rRun hG 99999 ?_
          refine rLess hG ?_ (ih (i + 1) ?_ ?_)
          · exact ⟨rfl, rfl, rfl, rfl, True.intro⟩
          · omega
          · omega
    exact J4 _ 0 (by omega) (Nat.lt_succ_self _)
end WALKS
