/-! Story: a turned day, how soon, how caught -/
section WALKS
variable {l : Launch}
set_option maxRecDepth 20000 in
set_option maxHeartbeats 4000000 in
theorem sp_X6_isBeyond {hh : mH} {e : Int} (h1 : inI e) : SpI l 1 yX6_isBeyond cX6_isBeyond 1 (some .boolean) [mi e] (hh) (fun z h => z = (if e < -9 ∨ 9 < e then 1 else 0) ∧ h = hh) := by
  refine SpI.of (cd := kdX6_isBeyond) (fT := mlook flX6) (kT := mlook klX6) (kJ := mlook jlX6) mfA_X6_isBeyond ok_X6_isBeyond fT_X6 kT_X6 jT_X6 jdk_ok True.intro (Nat.le_of_ble_eq_true rfl) (fun G hG => ?_)
  refine rRun hG 99999 ?_
  refine And.intro (by first | omega | (dsimp only; omega)) (And.intro (fun c1 => ?_) (fun c1 => ?_))
  · try dsimp only at c1
    refine rRun hG 99999 ?_
    refine rIR hG rfl rfl (by first | exact Or.inl rfl | exact Or.inr rfl | (show _ ∨ _; omega)) ?_
    exact ⟨by first | (rw [if_pos (by omega)]; done) | (rw [if_neg (by omega)]; done), rfl⟩
  · try dsimp only at c1
    refine And.intro (by first | omega | (dsimp only; omega)) (And.intro (fun c2 => ?_) (fun c2 => ?_))
    · try dsimp only at c2
      refine rRun hG 99999 ?_
      refine rIR hG rfl rfl (by first | exact Or.inl rfl | exact Or.inr rfl | (show _ ∨ _; omega)) ?_
      exact ⟨by first | (rw [if_pos (by omega)]; done) | (rw [if_neg (by omega)]; done), rfl⟩
    · try dsimp only at c2
      refine rIR hG rfl rfl (by first | exact Or.inl rfl | exact Or.inr rfl | (show _ ∨ _; omega)) ?_
      exact ⟨by first | (rw [if_pos (by omega)]; done) | (rw [if_neg (by omega)]; done), rfl⟩
set_option maxRecDepth 20000 in
set_option maxHeartbeats 4000000 in
theorem sp_X6_isPace {hh : mH} {e : Int} (h1 : inI e) : SpI l 1 yX6_isPace cX6_isPace 1 (some .boolean) [mi e] (hh) (fun z h => z = (if -2 ≤ e ∧ e ≤ 3 then 1 else 0) ∧ h = hh) := by
  refine SpI.of (cd := kdX6_isPace) (fT := mlook flX6) (kT := mlook klX6) (kJ := mlook jlX6) mfA_X6_isPace ok_X6_isPace fT_X6 kT_X6 jT_X6 jdk_ok True.intro (Nat.le_of_ble_eq_true rfl) (fun G hG => ?_)
  refine rRun hG 99999 ?_
  refine And.intro (by first | omega | (dsimp only; omega)) (And.intro (fun c1 => ?_) (fun c1 => ?_))
  · try dsimp only at c1
    refine rRun hG 99999 ?_
    refine rIR hG rfl rfl (by first | exact Or.inl rfl | exact Or.inr rfl | (show _ ∨ _; omega)) ?_
    exact ⟨by first | (rw [if_pos (by omega)]; done) | (rw [if_neg (by omega)]; done), rfl⟩
  · try dsimp only at c1
    refine And.intro (by first | omega | (dsimp only; omega)) (And.intro (fun c2 => ?_) (fun c2 => ?_))
    · try dsimp only at c2
      refine rRun hG 99999 ?_
      refine rIR hG rfl rfl (by first | exact Or.inl rfl | exact Or.inr rfl | (show _ ∨ _; omega)) ?_
      exact ⟨by first | (rw [if_pos (by omega)]; done) | (rw [if_neg (by omega)]; done), rfl⟩
    · try dsimp only at c2
      refine rIR hG rfl rfl (by first | exact Or.inl rfl | exact Or.inr rfl | (show _ ∨ _; omega)) ?_
      exact ⟨by first | (rw [if_pos (by omega)]; done) | (rw [if_neg (by omega)]; done), rfl⟩
def soonR (rest err : Int) : Nat → Nat → Int
  | 0, _ => -9
  | n + 1, k => if rest ≤ 4 * (k : Int) + min (3 * (k : Int)) (9 - err) then (k : Int) else soonR rest err n (k + 1)
theorem soonR_s {rest err : Int} {n k : Nat} : soonR rest err (n + 1) k = if rest ≤ 4 * (k : Int) + min (3 * (k : Int)) (9 - err) then (k : Int) else soonR rest err n (k + 1) := rfl
def catR (lim pace : Int) : Nat → Nat → Int → Int → Int
  | 0, _, _, _ => -9
  | n + 1, k, e, r => if e < -9 ∨ 9 < e then -9 else if lim < max e (-e) then (k : Int) else if r ≤ 0 then -9 else catR lim pace n (k + 1) (e + pace) (r - (4 + pace))
theorem catR_s {lim pace : Int} {n k : Nat} {e r : Int} : catR lim pace (n + 1) k e r = if e < -9 ∨ 9 < e then -9 else if lim < max e (-e) then (k : Int) else if r ≤ 0 then -9 else catR lim pace n (k + 1) (e + pace) (r - (4 + pace)) := rfl
set_option maxRecDepth 20000 in
set_option maxHeartbeats 4000000 in
theorem sp_X3_soonestFree {uo : UD} {ux : XD} {ua ub : TD} {mo : FN} {kn kp : Int} {v1 v2 : SD} {up uq : PD} {ur : HD} {k : Bool} {t : TD} (ht : t = tsel k ua ub)  (h0 : 0 ≤ tDay t ∧ tDay t ≤ 14) (h1 : 0 ≤ mo 0 ∧ mo 0 ≤ tDay t) (h2 : -100 ≤ mo 2 ∧ mo 2 ≤ 100) (h3 : 0 ≤ mo 1 ∧ mo 1 ≤ 1000) : SpI l 4 yX3_soonestFree cX3_soonestFree 4 (some .int) [mr 11, mr (tix k)] (hC uo ux ua ub (mo, kn, kp) v1 v2 up uq ur) (fun z h => z = soonR (mo 1) (mo 2) ((tDay t - mo 0).toNat + 1) 0 ∧ h = hC uo ux ua ub (mo, kn, kp) v1 v2 up uq ur) := by
  cases k
  · obtain rfl : t = ua := ht
    refine SpI.of (cd := kdX3_soonestFree) (fT := mlook flX3) (kT := mlook klX3) (kJ := mlook jlX3) mfA_X3_soonestFree ok_X3_soonestFree fT_X3 kT_X3 jT_X3 jdk_ok True.intro (Nat.le_of_ble_eq_true rfl) (fun G hG => ?_)
    refine rRun hG 2 ?_
    have J2 : ∀ (n : Nat) (k1 : Nat), ((k1 : Int) ≤ tDay t - mo 0 + 1 ∧ soonR (mo 1) (mo 2) ((tDay t - mo 0).toNat + 1 - k1) k1 = soonR (mo 1) (mo 2) ((tDay t - mo 0).toNat + 1) 0) → ((tDay t - mo 0).toNat + 1) - k1 < n → G 2 [some (mr 11), some (mr 3), some (mi k1), none] [] (hC uo ux t ub (mo, kn, kp) v1 v2 up uq ur) := by
      intro n
      induction n with
      | zero => intro k1 _ hm; exact absurd hm (Nat.not_lt_zero _)
      | succ n ih =>
        intro k1 hinv hm
        refine rRun hG 99999 ?_
        refine rV hG (sp_X3_daysLeft (uo := uo) (ux := ux) (ua := t) (ub := ub) (v1 := v1) (v2 := v2) (up := up) (uq := uq) (ur := ur) (mo := mo) (kn := kn) (kp := kp) (t := t) (k := false) (ht := rfl)) rfl rfl lk_X3_94 mf_X3_daysLeft (by decide) (Nat.le_of_ble_eq_true rfl) ⟨_, _, _, rfl, rfl, rfl⟩ ?_
        rintro _ _ ⟨rfl, rfl⟩
        refine rRun hG 99999 ?_
        refine And.intro (by first | omega | (dsimp only; omega)) (And.intro (fun c2 => ?_) (fun c2 => ?_))
        · try dsimp only at c2
          refine rRun hG 99999 ?_
          refine rIR hG rfl rfl (True.intro) ?_
          refine ⟨?_, rfl⟩
          rw [← hinv.2]
          rw [show (tDay t - mo 0).toNat + 1 - k1 = 0 by omega]
          rfl
        · try dsimp only at c2
          refine rV hG (sp_X3_error (uo := uo) (ux := ux) (ua := t) (ub := ub) (v1 := v1) (v2 := v2) (up := up) (uq := uq) (ur := ur) (mo := mo) (kn := kn) (kp := kp)) rfl rfl lk_X3_74 mf_X3_error (by decide) (Nat.le_of_ble_eq_true rfl) ⟨_, _, _, rfl, rfl, rfl⟩ ?_
          rintro _ _ ⟨rfl, rfl⟩
          refine rRun hG 99999 ?_
          refine rMin hG rfl rfl lk_X3_68 (by decide) (Nat.le_of_ble_eq_true rfl) (by first | omega | (dsimp only; omega)) ?_
          refine rRun hG 99999 ?_
          refine rV hG (sp_X3_rest (uo := uo) (ux := ux) (ua := t) (ub := ub) (v1 := v1) (v2 := v2) (up := up) (uq := uq) (ur := ur) (mo := mo) (kn := kn) (kp := kp)) rfl rfl lk_X3_42 mf_X3_rest (by decide) (Nat.le_of_ble_eq_true rfl) ⟨_, _, _, rfl, rfl, rfl⟩ ?_
          rintro _ _ ⟨rfl, rfl⟩
          refine rRun hG 99999 ?_
          refine And.intro (by first | omega | (dsimp only; omega)) (And.intro (fun c5 => ?_) (fun c5 => ?_))
          · try dsimp only at c5
            refine rRun hG 99999 ?_
            refine rLess hG ?_ (ih (k1 + 1) ⟨?_, ?_⟩ ?_)
            · exact ⟨rfl, rfl, rfl, True.intro⟩
            · omega
            · rw [← hinv.2]
              rw [show (tDay t - mo 0).toNat + 1 - k1 = ((tDay t - mo 0).toNat + 1 - (k1 + 1)) + 1 by omega, soonR_s, if_neg (by omega)]
            · omega
          · try dsimp only at c5
            refine rIR hG rfl rfl (True.intro) ?_
            refine ⟨?_, rfl⟩
            rw [← hinv.2]
            rw [show (tDay t - mo 0).toNat + 1 - k1 = ((tDay t - mo 0).toNat - k1) + 1 by omega, soonR_s, if_pos (by omega)]
    exact rLess hG (L' := [some (mr 11), some (mr 3), some (mi ((0 : Nat) : Int)), none]) ⟨rfl, rfl, rfl, True.intro⟩ (J2 _ 0 ⟨by omega, rfl⟩ (Nat.lt_succ_self _))
  · obtain rfl : t = ub := ht
    refine SpI.of (cd := kdX3_soonestFree) (fT := mlook flX3) (kT := mlook klX3) (kJ := mlook jlX3) mfA_X3_soonestFree ok_X3_soonestFree fT_X3 kT_X3 jT_X3 jdk_ok True.intro (Nat.le_of_ble_eq_true rfl) (fun G hG => ?_)
    refine rRun hG 2 ?_
    have J2 : ∀ (n : Nat) (k1 : Nat), ((k1 : Int) ≤ tDay t - mo 0 + 1 ∧ soonR (mo 1) (mo 2) ((tDay t - mo 0).toNat + 1 - k1) k1 = soonR (mo 1) (mo 2) ((tDay t - mo 0).toNat + 1) 0) → ((tDay t - mo 0).toNat + 1) - k1 < n → G 2 [some (mr 11), some (mr 7), some (mi k1), none] [] (hC uo ux ua t (mo, kn, kp) v1 v2 up uq ur) := by
      intro n
      induction n with
      | zero => intro k1 _ hm; exact absurd hm (Nat.not_lt_zero _)
      | succ n ih =>
        intro k1 hinv hm
        refine rRun hG 99999 ?_
        refine rV hG (sp_X3_daysLeft (uo := uo) (ux := ux) (ua := ua) (ub := t) (v1 := v1) (v2 := v2) (up := up) (uq := uq) (ur := ur) (mo := mo) (kn := kn) (kp := kp) (t := t) (k := true) (ht := rfl)) rfl rfl lk_X3_94 mf_X3_daysLeft (by decide) (Nat.le_of_ble_eq_true rfl) ⟨_, _, _, rfl, rfl, rfl⟩ ?_
        rintro _ _ ⟨rfl, rfl⟩
        refine rRun hG 99999 ?_
        refine And.intro (by first | omega | (dsimp only; omega)) (And.intro (fun c2 => ?_) (fun c2 => ?_))
        · try dsimp only at c2
          refine rRun hG 99999 ?_
          refine rIR hG rfl rfl (True.intro) ?_
          refine ⟨?_, rfl⟩
          rw [← hinv.2]
          rw [show (tDay t - mo 0).toNat + 1 - k1 = 0 by omega]
          rfl
        · try dsimp only at c2
          refine rV hG (sp_X3_error (uo := uo) (ux := ux) (ua := ua) (ub := t) (v1 := v1) (v2 := v2) (up := up) (uq := uq) (ur := ur) (mo := mo) (kn := kn) (kp := kp)) rfl rfl lk_X3_74 mf_X3_error (by decide) (Nat.le_of_ble_eq_true rfl) ⟨_, _, _, rfl, rfl, rfl⟩ ?_
          rintro _ _ ⟨rfl, rfl⟩
          refine rRun hG 99999 ?_
          refine rMin hG rfl rfl lk_X3_68 (by decide) (Nat.le_of_ble_eq_true rfl) (by first | omega | (dsimp only; omega)) ?_
          refine rRun hG 99999 ?_
          refine rV hG (sp_X3_rest (uo := uo) (ux := ux) (ua := ua) (ub := t) (v1 := v1) (v2 := v2) (up := up) (uq := uq) (ur := ur) (mo := mo) (kn := kn) (kp := kp)) rfl rfl lk_X3_42 mf_X3_rest (by decide) (Nat.le_of_ble_eq_true rfl) ⟨_, _, _, rfl, rfl, rfl⟩ ?_
          rintro _ _ ⟨rfl, rfl⟩
          refine rRun hG 99999 ?_
          refine And.intro (by first | omega | (dsimp only; omega)) (And.intro (fun c5 => ?_) (fun c5 => ?_))
          · try dsimp only at c5
            refine rRun hG 99999 ?_
            refine rLess hG ?_ (ih (k1 + 1) ⟨?_, ?_⟩ ?_)
            · exact ⟨rfl, rfl, rfl, True.intro⟩
            · omega
            · rw [← hinv.2]
              rw [show (tDay t - mo 0).toNat + 1 - k1 = ((tDay t - mo 0).toNat + 1 - (k1 + 1)) + 1 by omega, soonR_s, if_neg (by omega)]
            · omega
          · try dsimp only at c5
            refine rIR hG rfl rfl (True.intro) ?_
            refine ⟨?_, rfl⟩
            rw [← hinv.2]
            rw [show (tDay t - mo 0).toNat + 1 - k1 = ((tDay t - mo 0).toNat - k1) + 1 by omega, soonR_s, if_pos (by omega)]
    exact rLess hG (L' := [some (mr 11), some (mr 7), some (mi ((0 : Nat) : Int)), none]) ⟨rfl, rfl, rfl, True.intro⟩ (J2 _ 0 ⟨by omega, rfl⟩ (Nat.lt_succ_self _))
set_option maxRecDepth 20000 in
set_option maxHeartbeats 4000000 in
theorem sp_X3_caughtBehind {uo : UD} {ux : XD} {ua ub : TD} {mo : FN} {kn kp : Int} {v1 v2 : SD} {up uq : PD} {ur : HD} {k : Bool} {t : TD} (ht : t = tsel k ua ub) {pace : Int} (h0 : 0 ≤ tDay t ∧ tDay t ≤ 14) (h1 : 0 ≤ mo 0 ∧ mo 0 ≤ tDay t) (h2 : -100 ≤ mo 2 ∧ mo 2 ≤ 100) (h3 : 0 ≤ mo 1 ∧ mo 1 ≤ 1000) (h4 : -2 ≤ pace ∧ pace ≤ 3) (h5 : 0 ≤ tLim t ∧ tLim t ≤ 6) : SpI l 4 yX3_caughtBehind cX3_caughtBehind 6 (some .int) [mr 11, mr (tix k), mi pace] (hC uo ux ua ub (mo, kn, kp) v1 v2 up uq ur) (fun z h => z = (if tDay t ≤ mo 0 ∨ mo 1 = 0 then -9 else catR (tLim t) pace ((tDay t - mo 0).toNat + 1) 0 (mo 2) (mo 1)) ∧ h = hC uo ux ua ub (mo, kn, kp) v1 v2 up uq ur) := by
  cases k
  · obtain rfl : t = ua := ht
    refine SpI.of (cd := kdX3_caughtBehind) (fT := mlook flX3) (kT := mlook klX3) (kJ := mlook jlX3) mfA_X3_caughtBehind ok_X3_caughtBehind fT_X3 kT_X3 jT_X3 jdk_ok True.intro (Nat.le_of_ble_eq_true rfl) (fun G hG => ?_)
    refine rRun hG 25 ?_
    refine rV hG (sp_X3_isEnded (uo := uo) (ux := ux) (ua := t) (ub := ub) (v1 := v1) (v2 := v2) (up := up) (uq := uq) (ur := ur) (mo := mo) (kn := kn) (kp := kp) (t := t) (k := false) (ht := rfl) (by omega) (by omega) (by omega)) rfl rfl lk_X3_97 mf_X3_isEnded (by decide) (Nat.le_of_ble_eq_true rfl) ⟨_, _, _, rfl, rfl, rfl⟩ ?_
    rintro w _ ⟨hw, rfl⟩
    have w1 : (w = 1 ∧ (tDay t ≤ mo 0 ∨ mo 1 = 0)) ∨ (w = 0 ∧ ¬ (tDay t ≤ mo 0 ∨ mo 1 = 0)) := (by rw [hw]; by_cases q9 : (tDay t ≤ mo 0 ∨ mo 1 = 0) <;> simp [q9])
    clear hw
    refine rRun hG 25 ?_
    refine And.intro (by first | omega | (dsimp only; omega)) (And.intro (fun c2 => ?_) (fun c2 => ?_))
    · try dsimp only at c2
      refine rRun hG 25 ?_
      refine rV hG (sp_X3_error (uo := uo) (ux := ux) (ua := t) (ub := ub) (v1 := v1) (v2 := v2) (up := up) (uq := uq) (ur := ur) (mo := mo) (kn := kn) (kp := kp)) rfl rfl lk_X3_74 mf_X3_error (by decide) (Nat.le_of_ble_eq_true rfl) ⟨_, _, _, rfl, rfl, rfl⟩ ?_
      rintro _ _ ⟨rfl, rfl⟩
      refine rRun hG 25 ?_
      refine rV hG (sp_X3_rest (uo := uo) (ux := ux) (ua := t) (ub := ub) (v1 := v1) (v2 := v2) (up := up) (uq := uq) (ur := ur) (mo := mo) (kn := kn) (kp := kp)) rfl rfl lk_X3_42 mf_X3_rest (by decide) (Nat.le_of_ble_eq_true rfl) ⟨_, _, _, rfl, rfl, rfl⟩ ?_
      rintro _ _ ⟨rfl, rfl⟩
      refine rRun hG 25 ?_
      have J25 : ∀ (n : Nat) (k1 : Nat) (er rs : Int), ((k1 : Int) ≤ tDay t - mo 0 + 1 ∧ (-1000 + 50 * (14 - k1) ≤ er + 1000 ∧ er ≤ 1000 + 50 * k1) ∧ (-10000 - 50 * k1 ≤ rs ∧ rs ≤ 10000 + 50 * k1) ∧ catR (tLim t) pace ((tDay t - mo 0).toNat + 1 - k1) k1 er rs = catR (tLim t) pace ((tDay t - mo 0).toNat + 1) 0 (mo 2) (mo 1)) → ((tDay t - mo 0).toNat + 1) - k1 < n → G 25 [some (mr 11), some (mr 3), some (mi pace), some (mi er), some (mi rs), some (mi k1)] [] (hC uo ux t ub (mo, kn, kp) v1 v2 up uq ur) := by
        intro n
        induction n with
        | zero => intro k1 er rs _ hm; exact absurd hm (Nat.not_lt_zero _)
        | succ n ih =>
          intro k1 er rs hinv hm
          refine rRun hG 99999 ?_
          refine rV hG (sp_X3_daysLeft (uo := uo) (ux := ux) (ua := t) (ub := ub) (v1 := v1) (v2 := v2) (up := up) (uq := uq) (ur := ur) (mo := mo) (kn := kn) (kp := kp) (t := t) (k := false) (ht := rfl)) rfl rfl lk_X3_94 mf_X3_daysLeft (by decide) (Nat.le_of_ble_eq_true rfl) ⟨_, _, _, rfl, rfl, rfl⟩ ?_
          rintro _ _ ⟨rfl, rfl⟩
          refine rRun hG 99999 ?_
          refine And.intro (by first | omega | (dsimp only; omega)) (And.intro (fun c6 => ?_) (fun c6 => ?_))
          · try dsimp only at c6
            refine rRun hG 99999 ?_
            refine rIR hG rfl rfl (True.intro) ?_
            refine ⟨?_, rfl⟩
            rw [if_neg (by omega), ← hinv.2.2.2]
            rw [show (tDay t - mo 0).toNat + 1 - k1 = 0 by omega]
            rfl
          · try dsimp only at c6
            refine rSN hG (sp_X6_isBeyond (e := er) (by omega)) rfl rfl lkN_X3_100 mf_X6_isBeyond (by decide) (Nat.le_of_ble_eq_true rfl) ?_
            rintro v _ ⟨hv, rfl⟩
            have v1 : (v = 1 ∧ (er < -9 ∨ 9 < er)) ∨ (v = 0 ∧ ¬ (er < -9 ∨ 9 < er)) := (by rw [hv]; by_cases q9 : (er < -9 ∨ 9 < er) <;> simp [q9])
            clear hv
            refine rRun hG 99999 ?_
            refine And.intro (by first | omega | (dsimp only; omega)) (And.intro (fun c8 => ?_) (fun c8 => ?_))
            · try dsimp only at c8
              refine rRun hG 99999 ?_
              refine rAbs hG rfl rfl lk_X3_104 (by decide) (Nat.le_of_ble_eq_true rfl) (by first | omega | (dsimp only; omega)) ?_
              refine rRun hG 99999 ?_
              refine And.intro rfl (And.intro (by first | omega | (dsimp only; omega)) (And.intro (fun c9 => ?_) (fun c9 => ?_)))
              · try dsimp only at c9
                refine rRun hG 99999 ?_
                refine And.intro (by first | omega | (dsimp only; omega)) (And.intro (fun c10 => ?_) (fun c10 => ?_))
                · try dsimp only at c10
                  refine rRun hG 99999 ?_
                  refine rLess hG ?_ (ih (k1 + 1) (er + pace) (rs - (4 + pace)) ⟨?_, ?_, ?_, ?_⟩ ?_)
                  · exact ⟨rfl, rfl, rfl, rfl, rfl, rfl, True.intro⟩
                  · omega
                  · omega
                  · omega
                  · rw [← hinv.2.2.2]
                    rw [show (tDay t - mo 0).toNat + 1 - k1 = ((tDay t - mo 0).toNat + 1 - (k1 + 1)) + 1 by omega, catR_s, if_neg (by omega), if_neg (by omega), if_neg (by omega)]
                  · omega
                · try dsimp only at c10
                  refine rIR hG rfl rfl (True.intro) ?_
                  refine ⟨?_, rfl⟩
                  rw [if_neg (by omega), ← hinv.2.2.2]
                  rw [show (tDay t - mo 0).toNat + 1 - k1 = ((tDay t - mo 0).toNat - k1) + 1 by omega, catR_s, if_neg (by omega), if_neg (by omega), if_pos (by omega)]
              · try dsimp only at c9
                refine rIR hG rfl rfl (True.intro) ?_
                refine ⟨?_, rfl⟩
                rw [if_neg (by omega), ← hinv.2.2.2]
                rw [show (tDay t - mo 0).toNat + 1 - k1 = ((tDay t - mo 0).toNat - k1) + 1 by omega, catR_s, if_neg (by omega), if_pos (by omega)]
            · try dsimp only at c8
              refine rIR hG rfl rfl (True.intro) ?_
              refine ⟨?_, rfl⟩
              rw [if_neg (by omega), ← hinv.2.2.2]
              rw [show (tDay t - mo 0).toNat + 1 - k1 = ((tDay t - mo 0).toNat - k1) + 1 by omega, catR_s, if_pos (by omega)]
      exact J25 _ 0 _ _ ⟨by omega, by omega, by omega, rfl⟩ (Nat.lt_succ_self _)
    · try dsimp only at c2
      refine rIR hG rfl rfl (True.intro) ?_
      exact ⟨(if_pos (by omega)).symm, rfl⟩
  · obtain rfl : t = ub := ht
    refine SpI.of (cd := kdX3_caughtBehind) (fT := mlook flX3) (kT := mlook klX3) (kJ := mlook jlX3) mfA_X3_caughtBehind ok_X3_caughtBehind fT_X3 kT_X3 jT_X3 jdk_ok True.intro (Nat.le_of_ble_eq_true rfl) (fun G hG => ?_)
    refine rRun hG 25 ?_
    refine rV hG (sp_X3_isEnded (uo := uo) (ux := ux) (ua := ua) (ub := t) (v1 := v1) (v2 := v2) (up := up) (uq := uq) (ur := ur) (mo := mo) (kn := kn) (kp := kp) (t := t) (k := true) (ht := rfl) (by omega) (by omega) (by omega)) rfl rfl lk_X3_97 mf_X3_isEnded (by decide) (Nat.le_of_ble_eq_true rfl) ⟨_, _, _, rfl, rfl, rfl⟩ ?_
    rintro w _ ⟨hw, rfl⟩
    have w1 : (w = 1 ∧ (tDay t ≤ mo 0 ∨ mo 1 = 0)) ∨ (w = 0 ∧ ¬ (tDay t ≤ mo 0 ∨ mo 1 = 0)) := (by rw [hw]; by_cases q9 : (tDay t ≤ mo 0 ∨ mo 1 = 0) <;> simp [q9])
    clear hw
    refine rRun hG 25 ?_
    refine And.intro (by first | omega | (dsimp only; omega)) (And.intro (fun c2 => ?_) (fun c2 => ?_))
    · try dsimp only at c2
      refine rRun hG 25 ?_
      refine rV hG (sp_X3_error (uo := uo) (ux := ux) (ua := ua) (ub := t) (v1 := v1) (v2 := v2) (up := up) (uq := uq) (ur := ur) (mo := mo) (kn := kn) (kp := kp)) rfl rfl lk_X3_74 mf_X3_error (by decide) (Nat.le_of_ble_eq_true rfl) ⟨_, _, _, rfl, rfl, rfl⟩ ?_
      rintro _ _ ⟨rfl, rfl⟩
      refine rRun hG 25 ?_
      refine rV hG (sp_X3_rest (uo := uo) (ux := ux) (ua := ua) (ub := t) (v1 := v1) (v2 := v2) (up := up) (uq := uq) (ur := ur) (mo := mo) (kn := kn) (kp := kp)) rfl rfl lk_X3_42 mf_X3_rest (by decide) (Nat.le_of_ble_eq_true rfl) ⟨_, _, _, rfl, rfl, rfl⟩ ?_
      rintro _ _ ⟨rfl, rfl⟩
      refine rRun hG 25 ?_
      have J25 : ∀ (n : Nat) (k1 : Nat) (er rs : Int), ((k1 : Int) ≤ tDay t - mo 0 + 1 ∧ (-1000 + 50 * (14 - k1) ≤ er + 1000 ∧ er ≤ 1000 + 50 * k1) ∧ (-10000 - 50 * k1 ≤ rs ∧ rs ≤ 10000 + 50 * k1) ∧ catR (tLim t) pace ((tDay t - mo 0).toNat + 1 - k1) k1 er rs = catR (tLim t) pace ((tDay t - mo 0).toNat + 1) 0 (mo 2) (mo 1)) → ((tDay t - mo 0).toNat + 1) - k1 < n → G 25 [some (mr 11), some (mr 7), some (mi pace), some (mi er), some (mi rs), some (mi k1)] [] (hC uo ux ua t (mo, kn, kp) v1 v2 up uq ur) := by
        intro n
        induction n with
        | zero => intro k1 er rs _ hm; exact absurd hm (Nat.not_lt_zero _)
        | succ n ih =>
          intro k1 er rs hinv hm
          refine rRun hG 99999 ?_
          refine rV hG (sp_X3_daysLeft (uo := uo) (ux := ux) (ua := ua) (ub := t) (v1 := v1) (v2 := v2) (up := up) (uq := uq) (ur := ur) (mo := mo) (kn := kn) (kp := kp) (t := t) (k := true) (ht := rfl)) rfl rfl lk_X3_94 mf_X3_daysLeft (by decide) (Nat.le_of_ble_eq_true rfl) ⟨_, _, _, rfl, rfl, rfl⟩ ?_
          rintro _ _ ⟨rfl, rfl⟩
          refine rRun hG 99999 ?_
          refine And.intro (by first | omega | (dsimp only; omega)) (And.intro (fun c6 => ?_) (fun c6 => ?_))
          · try dsimp only at c6
            refine rRun hG 99999 ?_
            refine rIR hG rfl rfl (True.intro) ?_
            refine ⟨?_, rfl⟩
            rw [if_neg (by omega), ← hinv.2.2.2]
            rw [show (tDay t - mo 0).toNat + 1 - k1 = 0 by omega]
            rfl
          · try dsimp only at c6
            refine rSN hG (sp_X6_isBeyond (e := er) (by omega)) rfl rfl lkN_X3_100 mf_X6_isBeyond (by decide) (Nat.le_of_ble_eq_true rfl) ?_
            rintro v _ ⟨hv, rfl⟩
            have v1 : (v = 1 ∧ (er < -9 ∨ 9 < er)) ∨ (v = 0 ∧ ¬ (er < -9 ∨ 9 < er)) := (by rw [hv]; by_cases q9 : (er < -9 ∨ 9 < er) <;> simp [q9])
            clear hv
            refine rRun hG 99999 ?_
            refine And.intro (by first | omega | (dsimp only; omega)) (And.intro (fun c8 => ?_) (fun c8 => ?_))
            · try dsimp only at c8
              refine rRun hG 99999 ?_
              refine rAbs hG rfl rfl lk_X3_104 (by decide) (Nat.le_of_ble_eq_true rfl) (by first | omega | (dsimp only; omega)) ?_
              refine rRun hG 99999 ?_
              refine And.intro rfl (And.intro (by first | omega | (dsimp only; omega)) (And.intro (fun c9 => ?_) (fun c9 => ?_)))
              · try dsimp only at c9
                refine rRun hG 99999 ?_
                refine And.intro (by first | omega | (dsimp only; omega)) (And.intro (fun c10 => ?_) (fun c10 => ?_))
                · try dsimp only at c10
                  refine rRun hG 99999 ?_
                  refine rLess hG ?_ (ih (k1 + 1) (er + pace) (rs - (4 + pace)) ⟨?_, ?_, ?_, ?_⟩ ?_)
                  · exact ⟨rfl, rfl, rfl, rfl, rfl, rfl, True.intro⟩
                  · omega
                  · omega
                  · omega
                  · rw [← hinv.2.2.2]
                    rw [show (tDay t - mo 0).toNat + 1 - k1 = ((tDay t - mo 0).toNat + 1 - (k1 + 1)) + 1 by omega, catR_s, if_neg (by omega), if_neg (by omega), if_neg (by omega)]
                  · omega
                · try dsimp only at c10
                  refine rIR hG rfl rfl (True.intro) ?_
                  refine ⟨?_, rfl⟩
                  rw [if_neg (by omega), ← hinv.2.2.2]
                  rw [show (tDay t - mo 0).toNat + 1 - k1 = ((tDay t - mo 0).toNat - k1) + 1 by omega, catR_s, if_neg (by omega), if_neg (by omega), if_pos (by omega)]
              · try dsimp only at c9
                refine rIR hG rfl rfl (True.intro) ?_
                refine ⟨?_, rfl⟩
                rw [if_neg (by omega), ← hinv.2.2.2]
                rw [show (tDay t - mo 0).toNat + 1 - k1 = ((tDay t - mo 0).toNat - k1) + 1 by omega, catR_s, if_neg (by omega), if_pos (by omega)]
            · try dsimp only at c8
              refine rIR hG rfl rfl (True.intro) ?_
              refine ⟨?_, rfl⟩
              rw [if_neg (by omega), ← hinv.2.2.2]
              rw [show (tDay t - mo 0).toNat + 1 - k1 = ((tDay t - mo 0).toNat - k1) + 1 by omega, catR_s, if_pos (by omega)]
      exact J25 _ 0 _ _ ⟨by omega, by omega, by omega, rfl⟩ (Nat.lt_succ_self _)
    · try dsimp only at c2
      refine rIR hG rfl rfl (True.intro) ?_
      exact ⟨(if_pos (by omega)).symm, rfl⟩
end WALKS
