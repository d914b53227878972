/-! the class itself: hearsay, marks, images, the sentence -/
section WALKS
variable {l : Launch}
set_option maxRecDepth 20000 in
set_option maxHeartbeats 1500000 in
theorem sp_X6_hears {k : Bool} {asked : Int} {ux : XD} {ua ub : TD} {v0 : SD} {v1 v2 : SD} {up uq : PD} {kH : Bool} {al hr lt : FN} {hd : Int} {d e w : Int} {A : Nat → Nat → Bool} (h1 : inI d) (h2 : inI e) (h3 : inI w) (hA : alIs al A) (h4 : 0 ≤ hd ∧ hd ≤ 6) : SpI l 4 yX6_hears cX6_hears 4 (some .int) [mr 0, mi d, mi e, mi w] (hC (k, asked) ux ua ub v0 v1 v2 up uq (kH, al, hr, lt, hd)) (fun z h => (¬ (0 ≤ d ∧ d ≤ 13 ∧ -9 ≤ e ∧ e ≤ 9 ∧ 0 ≤ w ∧ w ≤ 3) ∧ z = -1 ∧ h = hC (k, asked) ux ua ub v0 v1 v2 up uq (kH, al, hr, lt, hd)) ∨ ((0 ≤ d ∧ d ≤ 13 ∧ -9 ≤ e ∧ e ≤ 9 ∧ 0 ≤ w ∧ w ≤ 3) ∧ 6 ≤ hd ∧ z = -3 ∧ h = hC (k, asked) ux ua ub v0 v1 v2 up uq (kH, al, hr, lt, hd)) ∨ ((0 ≤ d ∧ d ≤ 13 ∧ -9 ≤ e ∧ e ≤ 9 ∧ 0 ≤ w ∧ w ≤ 3) ∧ hd < 6 ∧ z = hd + 1 ∧ h = hC (k, asked) ux ua ub v0 v1 v2 up uq (kH, mup al d.toNat (zand (al d.toNat) (st19 (wthP (e - w) (e + w)))), hr, lt, hd + 1))) := by
  refine SpI.of (cd := kdX6_hears) (fT := mlook flX6) (kT := mlook klX6) (kJ := mlook jlX6) mfA_X6_hears ok_X6_hears fT_X6 kT_X6 jT_X6 jdk_ok True.intro (Nat.le_of_ble_eq_true rfl) (fun G hG => ?_)
  refine rRun hG 99999 ?_
  refine And.intro (by first | omega | (dsimp only; omega)) (And.intro (fun c1 => ?_) (fun c1 => ?_))
  · try dsimp only at c1
    refine rRun hG 99999 ?_
    refine rIR hG rfl rfl (True.intro) ?_
    exact Or.inl ⟨by omega, rfl, rfl⟩
  · try dsimp only at c1
    refine And.intro (by first | omega | (dsimp only; omega)) (And.intro (fun c2 => ?_) (fun c2 => ?_))
    · try dsimp only at c2
      refine rRun hG 99999 ?_
      refine rIR hG rfl rfl (True.intro) ?_
      exact Or.inl ⟨by omega, rfl, rfl⟩
    · try dsimp only at c2
      refine rS hG (sp_X6_isBeyond (e := e) h2) rfl rfl lk_X6_122 mf_X6_isBeyond (by decide) (Nat.le_of_ble_eq_true rfl) ?_
      rintro w3 _ ⟨hw3, rfl⟩
      have w31 : (w3 = 1 ∧ (e < -9 ∨ 9 < e)) ∨ (w3 = 0 ∧ ¬ (e < -9 ∨ 9 < e)) := (by rw [hw3]; by_cases q9 : (e < -9 ∨ 9 < e) <;> simp [q9])
      clear hw3
      refine rRun hG 99999 ?_
      refine And.intro (by first | omega | (dsimp only; omega)) (And.intro (fun c4 => ?_) (fun c4 => ?_))
      · try dsimp only at c4
        refine rRun hG 99999 ?_
        refine rIR hG rfl rfl (True.intro) ?_
        exact Or.inl ⟨by omega, rfl, rfl⟩
      · try dsimp only at c4
        refine And.intro (by first | omega | (dsimp only; omega)) (And.intro (fun c5 => ?_) (fun c5 => ?_))
        · try dsimp only at c5
          refine rRun hG 99999 ?_
          refine rIR hG rfl rfl (True.intro) ?_
          exact Or.inl ⟨by omega, rfl, rfl⟩
        · try dsimp only at c5
          refine And.intro (by first | omega | (dsimp only; omega)) (And.intro (fun c6 => ?_) (fun c6 => ?_))
          · try dsimp only at c6
            refine rRun hG 99999 ?_
            refine And.intro rfl (?_)
            obtain ⟨d9, rfl⟩ : ∃ d9 : Nat, d = (d9 : Int) := ⟨d.toNat, by omega⟩
            refine rV hG (sp_X0_add (uo := (k, asked)) (ux := ux) (ua := ua) (ub := ub) (v0 := v0) (v1 := v1) (v2 := v2) (up := up) (uq := uq) (kH := kH) (al := al) (hr := hr) (lt := lt) (hd := hd) (d := d9) (e := e) (w := w) (by omega) (by omega) (by omega) (by omega) (alIs_in hA (by omega)).1) rfl rfl lk_X6_196 mf_X0_add (by decide) (Nat.le_of_ble_eq_true rfl) ⟨_, _, _, rfl, rfl, rfl⟩ ?_
            rintro w4 _ hq
            have hw4 : (w4 = 0 ∧ 6 ≤ hd) ∨ (w4 = 1 ∧ hd < 6) := by rcases hq with q | q <;> omega
            refine rRun hG 99999 ?_
            refine And.intro (by first | omega | (dsimp only; omega)) (And.intro (fun c8 => ?_) (fun c8 => ?_))
            · try dsimp only at c8
              rcases hq with ⟨q1, q2, rfl⟩ | ⟨q1, q2, rfl⟩
              all_goals try (exfalso; omega)
              refine rRun hG 99999 ?_
              refine rIR hG rfl rfl (True.intro) ?_
              first | exact Or.inr (Or.inl ⟨by omega, by omega, rfl, rfl⟩) | exact Or.inr (Or.inr ⟨by omega, by omega, rfl, rfl⟩)
            · try dsimp only at c8
              rcases hq with ⟨q1, q2, rfl⟩ | ⟨q1, q2, rfl⟩
              · exfalso; omega
              refine And.intro rfl (And.intro rfl (?_))
              refine rIR hG rfl rfl (True.intro) ?_
              first | exact Or.inr (Or.inl ⟨by omega, by omega, rfl, rfl⟩) | exact Or.inr (Or.inr ⟨by omega, by omega, rfl, rfl⟩)
          · try dsimp only at c6
            refine rIR hG rfl rfl (True.intro) ?_
            exact Or.inl ⟨by omega, rfl, rfl⟩
set_option maxRecDepth 20000 in
set_option maxHeartbeats 1500000 in
theorem sp_X6_forget {k : Bool} {asked : Int} {ux : XD} {ua ub : TD} {v0 : SD} {v1 v2 : SD} {up uq : PD} {kH : Bool} {al hr lt : FN} {hd : Int}   : SpI l 2 yX6_forget cX6_forget 2 (some .int) [mr 0] (hC (k, asked) ux ua ub v0 v1 v2 up uq (kH, al, hr, lt, hd)) (fun z h => z = hd ∧ h = hC (k, asked) ux ua ub v0 v1 v2 up uq (kH, drpA al 14, hr, lt, 0)) := by
  refine SpI.of (cd := kdX6_forget) (fT := mlook flX6) (kT := mlook klX6) (kJ := mlook jlX6) mfA_X6_forget ok_X6_forget fT_X6 kT_X6 jT_X6 jdk_ok True.intro (Nat.le_of_ble_eq_true rfl) (fun G hG => ?_)
  refine rRun hG 99999 ?_
  refine And.intro rfl (And.intro rfl (And.intro rfl (?_)))
  refine rVV hG (sp_X0_drop (uo := (k, asked)) (ux := ux) (ua := ua) (ub := ub) (v0 := v0) (v1 := v1) (v2 := v2) (up := up) (uq := uq) (kH := kH) (al := al) (hr := hr) (lt := lt) (hd := hd)) rfl rfl lk_X6_87 mf_X0_drop (by decide) (Nat.le_of_ble_eq_true rfl) ⟨_, _, _, rfl, rfl, rfl⟩ ?_
  rintro _ rfl
  refine rRun hG 99999 ?_
  refine rIR hG rfl rfl (True.intro) ?_
  exact ⟨rfl, rfl⟩
set_option maxRecDepth 20000 in
set_option maxHeartbeats 1500000 in
theorem sp_X6_could {k : Bool} {asked : Int} {ux : XD} {ua ub : TD} {v0 : SD} {v1 v2 : SD} {up uq : PD} {kH : Bool} {al hr lt : FN} {hd : Int} {d : Int} {A : Nat → Nat → Bool} (h1 : inI d) (hA : alIs al A) : SpI l 4 yX6_could cX6_could 2 (some .int) [mr 0, mi d] (hC (k, asked) ux ua ub v0 v1 v2 up uq (kH, al, hr, lt, hd)) (fun z h => z = (if 0 ≤ d ∧ d < 14 then st19 (cldP A d.toNat) else -1) ∧ h = hC (k, asked) ux ua ub v0 v1 v2 up uq (kH, al, hr, lt, hd)) := by
  refine SpI.of (cd := kdX6_could) (fT := mlook flX6) (kT := mlook klX6) (kJ := mlook jlX6) mfA_X6_could ok_X6_could fT_X6 kT_X6 jT_X6 jdk_ok True.intro (Nat.le_of_ble_eq_true rfl) (fun G hG => ?_)
  refine rRun hG 99999 ?_
  refine And.intro (by first | omega | (dsimp only; omega)) (And.intro (fun c1 => ?_) (fun c1 => ?_))
  · try dsimp only at c1
    refine rRun hG 99999 ?_
    refine rIR hG rfl rfl (True.intro) ?_
    first | exact ⟨(if_neg (by omega)).symm, rfl⟩ | exact ⟨(if_pos (by omega)).symm, rfl⟩
  · try dsimp only at c1
    refine And.intro (by first | omega | (dsimp only; omega)) (And.intro (fun c2 => ?_) (fun c2 => ?_))
    · try dsimp only at c2
      refine rRun hG 99999 ?_
      refine And.intro rfl (?_)
      obtain ⟨d9, rfl⟩ : ∃ d9 : Nat, d = (d9 : Int) := ⟨d.toNat, by omega⟩
      refine rV hG (sp_X0_errorsBehind (uo := (k, asked)) (ux := ux) (ua := ua) (ub := ub) (v0 := v0) (v1 := v1) (v2 := v2) (up := up) (uq := uq) (kH := kH) (al := al) (hr := hr) (lt := lt) (hd := hd) (d := d9) (A := A) hA (by omega)) rfl rfl lk_X6_202 mf_X0_errorsBehind (by decide) (Nat.le_of_ble_eq_true rfl) ⟨_, _, _, rfl, rfl, rfl⟩ ?_
      rintro _ _ ⟨rfl, rfl⟩
      refine rIR hG rfl rfl (True.intro) ?_
      first | exact ⟨(if_neg (by omega)).symm, rfl⟩ | exact ⟨(if_pos (by omega)).symm, rfl⟩
    · try dsimp only at c2
      refine rIR hG rfl rfl (True.intro) ?_
      first | exact ⟨(if_neg (by omega)).symm, rfl⟩ | exact ⟨(if_pos (by omega)).symm, rfl⟩
set_option maxRecDepth 20000 in
set_option maxHeartbeats 1500000 in
theorem sp_X6_ways {k : Bool} {asked : Int} {ux : XD} {ua ub : TD} {v0 : SD} {v1 v2 : SD} {up uq : PD} {kH : Bool} {al hr lt : FN} {hd : Int} {A : Nat → Nat → Bool} (hA : alIs al A) : SpI l 5 yX6_ways cX6_ways 1 (some .int) [mr 0] (hC (k, asked) ux ua ub v0 v1 v2 up uq (kH, al, hr, lt, hd)) (fun z h => z = hsmV A (HV A 13) 0 0 6 % 1000003 ∧ ∃ (k9 : Bool) (h9 l9 : FN), h = hC (k, asked) ux ua ub v0 v1 v2 up uq (k9, al, h9, l9, hd)) := by
  refine SpI.of (cd := kdX6_ways) (fT := mlook flX6) (kT := mlook klX6) (kJ := mlook jlX6) mfA_X6_ways ok_X6_ways fT_X6 kT_X6 jT_X6 jdk_ok True.intro (Nat.le_of_ble_eq_true rfl) (fun G hG => ?_)
  refine rRun hG 99999 ?_
  refine And.intro rfl (?_)
  refine rV hG (sp_X0_rows (uo := (k, asked)) (ux := ux) (ua := ua) (ub := ub) (v0 := v0) (v1 := v1) (v2 := v2) (up := up) (uq := uq) (kH := kH) (al := al) (hr := hr) (lt := lt) (hd := hd) (A := A) hA) rfl rfl lk_X6_205 mf_X0_rows (by decide) (Nat.le_of_ble_eq_true rfl) ⟨_, _, _, rfl, rfl, rfl⟩ ?_
  rintro _ _ ⟨rfl, k9, h9, l9, rfl⟩
  refine rIR hG rfl rfl (True.intro) ?_
  exact ⟨rfl, k9, h9, l9, rfl⟩
set_option maxRecDepth 20000 in
set_option maxHeartbeats 1500000 in
theorem sp_X6_ask {k : Bool} {asked : Int} {ux : XD} {ua ub : TD} {v0 : SD} {v1 v2 : SD} {up uq : PD} {kH : Bool} {al hr lt : FN} {hd : Int} {A : Nat → Nat → Bool} (hA : alIs al A) : SpI l 4 yX6_ask cX6_ask 1 (some .int) [mr 0] (hC (k, asked) ux ua ub v0 v1 v2 up uq (kH, al, hr, lt, hd)) (fun z h => z = (wdF A 14).2 ∧ h = hC (k, asked) ux ua ub v0 v1 v2 up uq (kH, al, hr, lt, hd)) := by
  refine SpI.of (cd := kdX6_ask) (fT := mlook flX6) (kT := mlook klX6) (kJ := mlook jlX6) mfA_X6_ask ok_X6_ask fT_X6 kT_X6 jT_X6 jdk_ok True.intro (Nat.le_of_ble_eq_true rfl) (fun G hG => ?_)
  refine rRun hG 99999 ?_
  refine And.intro rfl (?_)
  refine rV hG (sp_X0_widestDay (uo := (k, asked)) (ux := ux) (ua := ua) (ub := ub) (v0 := v0) (v1 := v1) (v2 := v2) (up := up) (uq := uq) (kH := kH) (al := al) (hr := hr) (lt := lt) (hd := hd) (A := A) hA) rfl rfl lk_X6_208 mf_X0_widestDay (by decide) (Nat.le_of_ble_eq_true rfl) ⟨_, _, _, rfl, rfl, rfl⟩ ?_
  rintro _ _ ⟨rfl, rfl⟩
  refine rIR hG rfl rfl (True.intro) ?_
  exact ⟨rfl, rfl⟩
set_option maxRecDepth 20000 in
set_option maxHeartbeats 1500000 in
theorem sp_X6_asTrade {k : Bool} {asked : Int} {ux : XD} {ua ub : TD} {mo : FN} {kn kp : Int} {v1 v2 : SD} {up uq : PD} {ur : HD} {t : TD} (ht : t = tsel k ua ub) {i : Int} (hi : 0 ≤ i ∧ i < 4) : SpI l 2 yX6_asTrade cX6_asTrade 2 (some .int) [mr 0, mi i] (hC (k, asked) ux ua ub (mo, kn, kp) v1 v2 up uq ur) (fun z h => z = tTra t (2 * i).toNat ∧ h = hC (k, asked + 1) ux ua ub (mo, kn, kp) v1 v2 up uq ur) := by
  refine SpI.of (cd := kdX6_asTrade) (fT := mlook flX6) (kT := mlook klX6) (kJ := mlook jlX6) mfA_X6_asTrade ok_X6_asTrade fT_X6 kT_X6 jT_X6 jdk_ok True.intro (Nat.le_of_ble_eq_true rfl) (fun G hG => ?_)
  refine rRun hG 99999 ?_
  refine And.intro rfl (And.intro ⟨rfl, by exact Nat.le_of_ble_eq_true rfl, by first | exact True.intro | exact Or.inl rfl | exact Or.inr rfl⟩ (And.intro rfl (?_)))
  refine rV hG (sp_X5_ofTrade (uo := (k, asked + 1)) (ux := ux) (ua := ua) (ub := ub) (v0 := (mo, kn, kp)) (v1 := v1) (v2 := v2) (up := up) (uq := uq) (ur := ur) (k := k) (t := t) ht (b := i) (w := 0) (by omega)) rfl rfl lk_X6_108 mf_X5_ofTrade (by decide) (Nat.le_of_ble_eq_true rfl) (by cases k <;> exact ⟨_, _, _, rfl, rfl, rfl⟩) ?_
  rintro z _ ⟨hz, rfl⟩
  rw [if_pos (by omega), Int.add_zero] at hz
  subst hz
  refine rIR hG rfl rfl (True.intro) ?_
  exact ⟨rfl, rfl⟩
set_option maxRecDepth 20000 in
set_option maxHeartbeats 1500000 in
theorem sp_X6_asBaker {k : Bool} {asked : Int} {ux : XD} {ua ub : TD} {mo : FN} {kn kp : Int} {v1 v2 : SD} {up uq : PD} {ur : HD} {t : TD} (ht : t = tsel k ua ub) {i : Int} (hi : 0 ≤ i ∧ i < 4) : SpI l 3 yX6_asBaker cX6_asBaker 2 (some .int) [mr 0, mi i] (hC (k, asked) ux ua ub (mo, kn, kp) v1 v2 up uq ur) (fun z h => z = tTra t (2 * i).toNat + mo (5 + i).toNat ∧ h = hC (k, asked + 11) ux ua ub (mo, kn, kp) v1 v2 up uq ur) := by
  refine SpI.of (cd := kdX6_asBaker) (fT := mlook flX6) (kT := mlook klX6) (kJ := mlook jlX6) mfA_X6_asBaker ok_X6_asBaker fT_X6 kT_X6 jT_X6 jdk_ok True.intro (Nat.le_of_ble_eq_true rfl) (fun G hG => ?_)
  refine rRun hG 99999 ?_
  refine And.intro rfl (And.intro ⟨rfl, by exact Nat.le_of_ble_eq_true rfl, by first | exact True.intro | exact Or.inl rfl | exact Or.inr rfl⟩ (?_))
  refine rV hG (sp_X6_asTrade (k := k) (asked := asked + 10) (ux := ux) (ua := ua) (ub := ub) (mo := mo) (kn := kn) (kp := kp) (v1 := v1) (v2 := v2) (up := up) (uq := uq) (ur := ur) (t := t) ht (i := i) hi) rfl rfl lk_X6_211 mf_X6_asTrade (by decide) (Nat.le_of_ble_eq_true rfl) ⟨_, _, _, rfl, rfl, rfl⟩ ?_
  rintro _ _ ⟨rfl, rfl⟩
  refine rRun hG 99999 ?_
  refine And.intro rfl (?_)
  refine rV hG (sp_X3_harmOf (uo := (k, asked + 10 + 1)) (ux := ux) (ua := ua) (ub := ub) (mo := mo) (kn := kn) (kp := kp) (v1 := v1) (v2 := v2) (up := up) (uq := uq) (ur := ur) (i := i) (by omega)) rfl rfl lk_X6_105 mf_X3_harmOf (by decide) (Nat.le_of_ble_eq_true rfl) ⟨_, _, _, rfl, rfl, rfl⟩ ?_
  rintro z _ ⟨hz, rfl⟩
  rw [if_pos (by omega)] at hz
  subst hz
  refine rRun hG 99999 ?_
  refine rIR hG rfl rfl (True.intro) ?_
  refine ⟨rfl, ?_⟩
  rw [show asked + 11 = _ from (by omega : asked + 11 = asked + 10 + 1)]
set_option maxRecDepth 20000 in
set_option maxHeartbeats 1500000 in
theorem sp_X6_asCourt {k : Bool} {asked : Int} {ux : XD} {ua ub : TD} {mo : FN} {kn kp : Int} {v1 v2 : SD} {up uq : PD} {ur : HD} {t : TD} (ht : t = tsel k ua ub) {i : Int} (hi : 0 ≤ i ∧ i < 4) : SpI l 3 yX6_asCourt cX6_asCourt 2 (some .int) [mr 0, mi i] (hC (k, asked) ux ua ub (mo, kn, kp) v1 v2 up uq ur) (fun z h => z = tTra t (2 * i).toNat - mo 2 ∧ h = hC (k, asked + 101) ux ua ub (mo, kn, kp) v1 v2 up uq ur) := by
  refine SpI.of (cd := kdX6_asCourt) (fT := mlook flX6) (kT := mlook klX6) (kJ := mlook jlX6) mfA_X6_asCourt ok_X6_asCourt fT_X6 kT_X6 jT_X6 jdk_ok True.intro (Nat.le_of_ble_eq_true rfl) (fun G hG => ?_)
  refine rRun hG 99999 ?_
  refine And.intro rfl (And.intro ⟨rfl, by exact Nat.le_of_ble_eq_true rfl, by first | exact True.intro | exact Or.inl rfl | exact Or.inr rfl⟩ (?_))
  refine rV hG (sp_X6_asTrade (k := k) (asked := asked + 100) (ux := ux) (ua := ua) (ub := ub) (mo := mo) (kn := kn) (kp := kp) (v1 := v1) (v2 := v2) (up := up) (uq := uq) (ur := ur) (t := t) ht (i := i) hi) rfl rfl lk_X6_211 mf_X6_asTrade (by decide) (Nat.le_of_ble_eq_true rfl) ⟨_, _, _, rfl, rfl, rfl⟩ ?_
  rintro _ _ ⟨rfl, rfl⟩
  refine rRun hG 99999 ?_
  refine And.intro rfl (?_)
  refine rV hG (sp_X3_error (uo := (k, asked + 100 + 1)) (ux := ux) (ua := ua) (ub := ub) (mo := mo) (kn := kn) (kp := kp) (v1 := v1) (v2 := v2) (up := up) (uq := uq) (ur := ur)) rfl rfl lk_X6_118 mf_X3_error (by decide) (Nat.le_of_ble_eq_true rfl) ⟨_, _, _, rfl, rfl, rfl⟩ ?_
  rintro _ _ ⟨rfl, rfl⟩
  refine rRun hG 99999 ?_
  refine rIR hG rfl rfl (True.intro) ?_
  refine ⟨rfl, ?_⟩
  rw [show asked + 101 = _ from (by omega : asked + 101 = asked + 100 + 1)]
set_option maxRecDepth 20000 in
set_option maxHeartbeats 1500000 in
theorem sp_X6_asSweetheart {k : Bool} {asked : Int} {ux : XD} {ua ub : TD} {mo : FN} {kn kp : Int} {v1 v2 : SD} {up uq : PD} {ur : HD} {t : TD} (ht : t = tsel k ua ub) {i : Int} (hi : 0 ≤ i ∧ i < 4) : SpI l 4 yX6_asSweetheart cX6_asSweetheart 2 (some .int) [mr 0, mi i] (hC (k, asked) ux ua ub (mo, kn, kp) v1 v2 up uq ur) (fun z h => z = (tTra t (2 * i).toNat + mo (5 + i).toNat) * 2 ∧ h = hC (k, asked + 1011) ux ua ub (mo, kn, kp) v1 v2 up uq ur) := by
  refine SpI.of (cd := kdX6_asSweetheart) (fT := mlook flX6) (kT := mlook klX6) (kJ := mlook jlX6) mfA_X6_asSweetheart ok_X6_asSweetheart fT_X6 kT_X6 jT_X6 jdk_ok True.intro (Nat.le_of_ble_eq_true rfl) (fun G hG => ?_)
  refine rRun hG 99999 ?_
  refine And.intro rfl (And.intro ⟨rfl, by exact Nat.le_of_ble_eq_true rfl, by first | exact True.intro | exact Or.inl rfl | exact Or.inr rfl⟩ (?_))
  refine rV hG (sp_X6_asBaker (k := k) (asked := asked + 1000) (ux := ux) (ua := ua) (ub := ub) (mo := mo) (kn := kn) (kp := kp) (v1 := v1) (v2 := v2) (up := up) (uq := uq) (ur := ur) (t := t) ht (i := i) hi) rfl rfl lk_X6_214 mf_X6_asBaker (by decide) (Nat.le_of_ble_eq_true rfl) ⟨_, _, _, rfl, rfl, rfl⟩ ?_
  rintro _ _ ⟨rfl, rfl⟩
  refine rRun hG 99999 ?_
  refine rIR hG rfl rfl (True.intro) ?_
  refine ⟨rfl, ?_⟩
  rw [show asked + 1011 = _ from (by omega : asked + 1011 = asked + 1000 + 11)]
set_option maxRecDepth 20000 in
set_option maxHeartbeats 1500000 in
theorem sp_X6_asWife {k : Bool} {asked : Int} {ux : XD} {ua ub : TD} {mo : FN} {kn kp : Int} {v1 v2 : SD} {up uq : PD} {ur : HD} {t : TD} (ht : t = tsel k ua ub) {i : Int} (hi : 0 ≤ i ∧ i < 4) : SpI l 4 yX6_asWife cX6_asWife 2 (some .int) [mr 0, mi i] (hC (k, asked) ux ua ub (mo, kn, kp) v1 v2 up uq ur) (fun z h => z = tTra t (2 * i).toNat - mo 2 + i ∧ h = hC (k, asked + 10101) ux ua ub (mo, kn, kp) v1 v2 up uq ur) := by
  refine SpI.of (cd := kdX6_asWife) (fT := mlook flX6) (kT := mlook klX6) (kJ := mlook jlX6) mfA_X6_asWife ok_X6_asWife fT_X6 kT_X6 jT_X6 jdk_ok True.intro (Nat.le_of_ble_eq_true rfl) (fun G hG => ?_)
  refine rRun hG 99999 ?_
  refine And.intro rfl (And.intro ⟨rfl, by exact Nat.le_of_ble_eq_true rfl, by first | exact True.intro | exact Or.inl rfl | exact Or.inr rfl⟩ (?_))
  refine rV hG (sp_X6_asCourt (k := k) (asked := asked + 10000) (ux := ux) (ua := ua) (ub := ub) (mo := mo) (kn := kn) (kp := kp) (v1 := v1) (v2 := v2) (up := up) (uq := uq) (ur := ur) (t := t) ht (i := i) hi) rfl rfl lk_X6_217 mf_X6_asCourt (by decide) (Nat.le_of_ble_eq_true rfl) ⟨_, _, _, rfl, rfl, rfl⟩ ?_
  rintro _ _ ⟨rfl, rfl⟩
  refine rRun hG 99999 ?_
  refine rIR hG rfl rfl (True.intro) ?_
  refine ⟨rfl, ?_⟩
  rw [show asked + 10101 = _ from (by omega : asked + 10101 = asked + 10000 + 101)]
set_option maxRecDepth 20000 in
set_option maxHeartbeats 1500000 in
theorem sp_X6_asHen {k : Bool} {asked : Int} {ux : XD} {ua ub : TD} {mo : FN} {kn kp : Int} {v1 v2 : SD} {up uq : PD} {ur : HD} {t : TD} (ht : t = tsel k ua ub) {i : Int} (hi : 0 ≤ i ∧ i < 4) : SpI l 3 yX6_asHen cX6_asHen 2 (some .int) [mr 0, mi i] (hC (k, asked) ux ua ub (mo, kn, kp) v1 v2 up uq ur) (fun z h => z = tTra t (2 * i).toNat + mo 3 ∧ h = hC (k, asked + 100001) ux ua ub (mo, kn, kp) v1 v2 up uq ur) := by
  refine SpI.of (cd := kdX6_asHen) (fT := mlook flX6) (kT := mlook klX6) (kJ := mlook jlX6) mfA_X6_asHen ok_X6_asHen fT_X6 kT_X6 jT_X6 jdk_ok True.intro (Nat.le_of_ble_eq_true rfl) (fun G hG => ?_)
  refine rRun hG 99999 ?_
  refine And.intro rfl (And.intro ⟨rfl, by exact Nat.le_of_ble_eq_true rfl, by first | exact True.intro | exact Or.inl rfl | exact Or.inr rfl⟩ (?_))
  refine rV hG (sp_X6_asTrade (k := k) (asked := asked + 100000) (ux := ux) (ua := ua) (ub := ub) (mo := mo) (kn := kn) (kp := kp) (v1 := v1) (v2 := v2) (up := up) (uq := uq) (ur := ur) (t := t) ht (i := i) hi) rfl rfl lk_X6_211 mf_X6_asTrade (by decide) (Nat.le_of_ble_eq_true rfl) ⟨_, _, _, rfl, rfl, rfl⟩ ?_
  rintro _ _ ⟨rfl, rfl⟩
  refine rRun hG 99999 ?_
  refine And.intro rfl (?_)
  refine rV hG (sp_X3_candles (uo := (k, asked + 100000 + 1)) (ux := ux) (ua := ua) (ub := ub) (mo := mo) (kn := kn) (kp := kp) (v1 := v1) (v2 := v2) (up := up) (uq := uq) (ur := ur)) rfl rfl lk_X6_132 mf_X3_candles (by decide) (Nat.le_of_ble_eq_true rfl) ⟨_, _, _, rfl, rfl, rfl⟩ ?_
  rintro _ _ ⟨rfl, rfl⟩
  refine rRun hG 99999 ?_
  refine rIR hG rfl rfl (True.intro) ?_
  refine ⟨rfl, ?_⟩
  rw [show asked + 100001 = _ from (by omega : asked + 100001 = asked + 100000 + 1)]
def mrkF (t : TD) (mo : FN) (kd i : Int) : Int := if kd = 0 then tTra t (2 * i).toNat else if kd = 1 then tTra t (2 * i).toNat + mo (5 + i).toNat else if kd = 2 then tTra t (2 * i).toNat - mo 2 else if kd = 3 then (tTra t (2 * i).toNat + mo (5 + i).toNat) * 2 else if kd = 4 then tTra t (2 * i).toNat - mo 2 + i else if kd = 5 then tTra t (2 * i).toNat + mo 3 else -1000000
def mrkT (kd : Int) : Int := if kd = 0 then 1 else if kd = 1 then 11 else if kd = 2 then 101 else if kd = 3 then 1011 else if kd = 4 then 10101 else if kd = 5 then 100001 else 0
set_option maxRecDepth 20000 in
set_option maxHeartbeats 1500000 in
theorem sp_X6_mark {k : Bool} {asked : Int} {ux : XD} {ua ub : TD} {mo : FN} {kn kp : Int} {v1 v2 : SD} {up uq : PD} {ur : HD} {t : TD} (ht : t = tsel k ua ub) {kd i : Int} (h1 : inI kd) (h2 : inI i) (h3 : 0 ≤ tNT t ∧ tNT t ≤ 4) : SpI l 5 yX6_mark cX6_mark 3 (some .int) [mr 0, mi kd, mi i] (hC (k, asked) ux ua ub (mo, kn, kp) v1 v2 up uq ur) (fun z h => (¬ (0 ≤ i ∧ i < tNT t) ∧ z = -1000000 ∧ h = hC (k, asked) ux ua ub (mo, kn, kp) v1 v2 up uq ur) ∨ ((0 ≤ i ∧ i < tNT t) ∧ z = mrkF t mo kd i ∧ h = hC (k, asked + mrkT kd) ux ua ub (mo, kn, kp) v1 v2 up uq ur)) := by
  refine SpI.of (cd := kdX6_mark) (fT := mlook flX6) (kT := mlook klX6) (kJ := mlook jlX6) mfA_X6_mark ok_X6_mark fT_X6 kT_X6 jT_X6 jdk_ok True.intro (Nat.le_of_ble_eq_true rfl) (fun G hG => ?_)
  refine rRun hG 99999 ?_
  refine And.intro rfl (?_)
  refine rV hG (sp_X5_hasTrade (uo := (k, asked)) (ux := ux) (ua := ua) (ub := ub) (v0 := (mo, kn, kp)) (v1 := v1) (v2 := v2) (up := up) (uq := uq) (ur := ur) (k := k) (t := t) ht (i := i) h2 (by omega)) rfl rfl lk_X6_102 mf_X5_hasTrade (by decide) (Nat.le_of_ble_eq_true rfl) (by cases k <;> exact ⟨_, _, _, rfl, rfl, rfl⟩) ?_
  rintro w1 _ ⟨hw1, rfl⟩
  have w11 : (w1 = 1 ∧ (0 ≤ i ∧ i < tNT t)) ∨ (w1 = 0 ∧ ¬ (0 ≤ i ∧ i < tNT t)) := (by rw [hw1]; by_cases q9 : (0 ≤ i ∧ i < tNT t) <;> simp [q9])
  clear hw1
  refine rRun hG 99999 ?_
  refine And.intro (by first | omega | (dsimp only; omega)) (And.intro (fun c2 => ?_) (fun c2 => ?_))
  · try dsimp only at c2
    refine rRun hG 99999 ?_
    refine And.intro (by first | omega | (dsimp only; omega)) (And.intro (fun c3 => ?_) (And.intro (fun c3 => ?_) (And.intro (fun c3 => ?_) (And.intro (fun c3 => ?_) (And.intro (fun c3 => ?_) (And.intro (fun c3 => ?_) (And.intro (fun c3 => ?_) (True.intro))))))))
    · skip
      refine rRun hG 99999 ?_
      refine rIR hG rfl rfl (True.intro) ?_
      refine Or.inr ⟨by omega, ?_, ?_⟩
      · unfold mrkF; rw [if_neg (by omega), if_neg (by omega), if_neg (by omega), if_neg (by omega), if_neg (by omega), if_neg (by omega)]
      · have e : mrkT kd = 0 := by unfold mrkT; rw [if_neg (by omega), if_neg (by omega), if_neg (by omega), if_neg (by omega), if_neg (by omega), if_neg (by omega)]
        rw [e, Int.add_zero]
    · skip
      refine rRun hG 99999 ?_
      refine rV hG (sp_X6_asTrade (k := k) (asked := asked) (ux := ux) (ua := ua) (ub := ub) (mo := mo) (kn := kn) (kp := kp) (v1 := v1) (v2 := v2) (up := up) (uq := uq) (ur := ur) (t := t) ht (i := i) (by omega)) rfl rfl lk_X6_211 mf_X6_asTrade (by decide) (Nat.le_of_ble_eq_true rfl) ⟨_, _, _, rfl, rfl, rfl⟩ ?_
      rintro _ _ ⟨rfl, rfl⟩
      refine rIR hG rfl rfl (True.intro) ?_
      obtain rfl : kd = 0 := by omega
      exact Or.inr ⟨by omega, rfl, rfl⟩
    · skip
      refine rRun hG 99999 ?_
      refine rV hG (sp_X6_asBaker (k := k) (asked := asked) (ux := ux) (ua := ua) (ub := ub) (mo := mo) (kn := kn) (kp := kp) (v1 := v1) (v2 := v2) (up := up) (uq := uq) (ur := ur) (t := t) ht (i := i) (by omega)) rfl rfl lk_X6_214 mf_X6_asBaker (by decide) (Nat.le_of_ble_eq_true rfl) ⟨_, _, _, rfl, rfl, rfl⟩ ?_
      rintro _ _ ⟨rfl, rfl⟩
      refine rIR hG rfl rfl (True.intro) ?_
      obtain rfl : kd = 1 := by omega
      exact Or.inr ⟨by omega, rfl, rfl⟩
    · skip
      refine rRun hG 99999 ?_
      refine rV hG (sp_X6_asCourt (k := k) (asked := asked) (ux := ux) (ua := ua) (ub := ub) (mo := mo) (kn := kn) (kp := kp) (v1 := v1) (v2 := v2) (up := up) (uq := uq) (ur := ur) (t := t) ht (i := i) (by omega)) rfl rfl lk_X6_217 mf_X6_asCourt (by decide) (Nat.le_of_ble_eq_true rfl) ⟨_, _, _, rfl, rfl, rfl⟩ ?_
      rintro _ _ ⟨rfl, rfl⟩
      refine rIR hG rfl rfl (True.intro) ?_
      obtain rfl : kd = 2 := by omega
      exact Or.inr ⟨by omega, rfl, rfl⟩
    · skip
      refine rRun hG 99999 ?_
      refine rV hG (sp_X6_asSweetheart (k := k) (asked := asked) (ux := ux) (ua := ua) (ub := ub) (mo := mo) (kn := kn) (kp := kp) (v1 := v1) (v2 := v2) (up := up) (uq := uq) (ur := ur) (t := t) ht (i := i) (by omega)) rfl rfl lk_X6_220 mf_X6_asSweetheart (by decide) (Nat.le_of_ble_eq_true rfl) ⟨_, _, _, rfl, rfl, rfl⟩ ?_
      rintro _ _ ⟨rfl, rfl⟩
      refine rIR hG rfl rfl (True.intro) ?_
      obtain rfl : kd = 3 := by omega
      exact Or.inr ⟨by omega, rfl, rfl⟩
    · skip
      refine rRun hG 99999 ?_
      refine rV hG (sp_X6_asWife (k := k) (asked := asked) (ux := ux) (ua := ua) (ub := ub) (mo := mo) (kn := kn) (kp := kp) (v1 := v1) (v2 := v2) (up := up) (uq := uq) (ur := ur) (t := t) ht (i := i) (by omega)) rfl rfl lk_X6_223 mf_X6_asWife (by decide) (Nat.le_of_ble_eq_true rfl) ⟨_, _, _, rfl, rfl, rfl⟩ ?_
      rintro _ _ ⟨rfl, rfl⟩
      refine rIR hG rfl rfl (True.intro) ?_
      obtain rfl : kd = 4 := by omega
      exact Or.inr ⟨by omega, rfl, rfl⟩
    · skip
      refine rRun hG 99999 ?_
      refine rV hG (sp_X6_asHen (k := k) (asked := asked) (ux := ux) (ua := ua) (ub := ub) (mo := mo) (kn := kn) (kp := kp) (v1 := v1) (v2 := v2) (up := up) (uq := uq) (ur := ur) (t := t) ht (i := i) (by omega)) rfl rfl lk_X6_226 mf_X6_asHen (by decide) (Nat.le_of_ble_eq_true rfl) ⟨_, _, _, rfl, rfl, rfl⟩ ?_
      rintro _ _ ⟨rfl, rfl⟩
      refine rIR hG rfl rfl (True.intro) ?_
      obtain rfl : kd = 5 := by omega
      exact Or.inr ⟨by omega, rfl, rfl⟩
  · try dsimp only at c2
    refine rIR hG rfl rfl (True.intro) ?_
    exact Or.inl ⟨by omega, rfl, rfl⟩
set_option maxRecDepth 20000 in
set_option maxHeartbeats 1500000 in
theorem sp_X6_keep {k : Bool} {asked : Int} {ux : XD} {ua ub : TD} {v0 v1 v2 : SD} {up uq : PD} {ur : HD} {w : Int} (h1 : inI w) : SpI l 3 yX6_keep cX6_keep 3 (some .int) [mr 0, mi w] (hC (k, asked) ux ua ub v0 v1 v2 up uq ur) (fun z h => (¬ (0 ≤ w ∧ w ≤ 1) ∧ z = -1 ∧ h = hC (k, asked) ux ua ub v0 v1 v2 up uq ur) ∨ (w = 0 ∧ z = v0.1 0 ∧ h = hC (k, asked) ux ua ub v0 (mcpy v0.1 v1.1 0 0 99, v0.2.1, 1) v2 up uq ur) ∨ (w = 1 ∧ z = v0.1 0 ∧ h = hC (k, asked) ux ua ub v0 v1 (mcpy v0.1 v2.1 0 0 99, v0.2.1, 1) up uq ur)) := by
  refine SpI.of (cd := kdX6_keep) (fT := mlook flX6) (kT := mlook klX6) (kJ := mlook jlX6) mfA_X6_keep ok_X6_keep fT_X6 kT_X6 jT_X6 jdk_ok True.intro (Nat.le_of_ble_eq_true rfl) (fun G hG => ?_)
  refine rRun hG 26 ?_
  refine And.intro (by first | omega | (dsimp only; omega)) (And.intro (fun c1 => ?_) (fun c1 => ?_))
  · try dsimp only at c1
    refine rRun hG 26 ?_
    refine rIR hG rfl rfl (True.intro) ?_
    exact Or.inl ⟨by omega, rfl, rfl⟩
  · try dsimp only at c1
    refine And.intro (by first | omega | (dsimp only; omega)) (And.intro (fun c2 => ?_) (fun c2 => ?_))
    · try dsimp only at c2
      refine rRun hG 26 ?_
      refine And.intro (by first | omega | (dsimp only; omega)) (And.intro (fun c3 => ?_) (fun c3 => ?_))
      · try dsimp only at c3
        refine rRun hG 26 ?_
        refine And.intro rfl (?_)
        refine rRun hG 99999 ?_
        refine And.intro rfl (?_)
        refine rVV hG (sp_X3_copy_b (uo := (k, asked)) (ux := ux) (ua := ua) (ub := ub) (v0 := v0) (v1 := v1) (v2 := v2) (up := up) (uq := uq) (ur := ur)) rfl rfl lk_X6_229 mf_X3_copy (by decide) (Nat.le_of_ble_eq_true rfl) ⟨_, _, _, rfl, rfl, rfl⟩ ?_
        rintro _ rfl
        refine rRun hG 99999 ?_
        refine And.intro ⟨rfl, by exact Nat.le_of_ble_eq_true rfl, by first | exact True.intro | exact Or.inl rfl | exact Or.inr rfl⟩ (And.intro rfl (?_))
        refine rV hG (sp_X3_day (uo := (k, asked)) (ux := ux) (ua := ua) (ub := ub) (mo := v0.1) (kn := v0.2.1) (kp := v0.2.2) (v1 := v1) (v2 := (mcpy v0.1 v2.1 0 0 99, v0.2.1, 1)) (up := up) (uq := uq) (ur := ur)) rfl rfl lk_X6_148 mf_X3_day (by decide) (Nat.le_of_ble_eq_true rfl) ⟨_, _, _, rfl, rfl, rfl⟩ ?_
        rintro _ _ ⟨rfl, rfl⟩
        refine rIR hG rfl rfl (True.intro) ?_
        first | exact Or.inr (Or.inl ⟨by omega, rfl, rfl⟩) | exact Or.inr (Or.inr ⟨by omega, rfl, rfl⟩)
      · try dsimp only at c3
        refine And.intro rfl (?_)
        refine rRun hG 99999 ?_
        refine And.intro rfl (?_)
        refine rVV hG (sp_X3_copy_a (uo := (k, asked)) (ux := ux) (ua := ua) (ub := ub) (v0 := v0) (v1 := v1) (v2 := v2) (up := up) (uq := uq) (ur := ur)) rfl rfl lk_X6_229 mf_X3_copy (by decide) (Nat.le_of_ble_eq_true rfl) ⟨_, _, _, rfl, rfl, rfl⟩ ?_
        rintro _ rfl
        refine rRun hG 99999 ?_
        refine And.intro ⟨rfl, by exact Nat.le_of_ble_eq_true rfl, by first | exact True.intro | exact Or.inl rfl | exact Or.inr rfl⟩ (And.intro rfl (?_))
        refine rV hG (sp_X3_day (uo := (k, asked)) (ux := ux) (ua := ua) (ub := ub) (mo := v0.1) (kn := v0.2.1) (kp := v0.2.2) (v1 := (mcpy v0.1 v1.1 0 0 99, v0.2.1, 1)) (v2 := v2) (up := up) (uq := uq) (ur := ur)) rfl rfl lk_X6_148 mf_X3_day (by decide) (Nat.le_of_ble_eq_true rfl) ⟨_, _, _, rfl, rfl, rfl⟩ ?_
        rintro _ _ ⟨rfl, rfl⟩
        refine rIR hG rfl rfl (True.intro) ?_
        first | exact Or.inr (Or.inl ⟨by omega, rfl, rfl⟩) | exact Or.inr (Or.inr ⟨by omega, rfl, rfl⟩)
    · try dsimp only at c2
      refine rIR hG rfl rfl (True.intro) ?_
      exact Or.inl ⟨by omega, rfl, rfl⟩
set_option maxRecDepth 20000 in
set_option maxHeartbeats 1500000 in
theorem sp_X6_back {k : Bool} {asked : Int} {ux : XD} {ua ub : TD} {v0 v1 v2 : SD} {up uq : PD} {ur : HD} {w : Int} (h1 : inI w) (h2 : inI v1.2.2) (h3 : inI v2.2.2) : SpI l 3 yX6_back cX6_back 3 (some .int) [mr 0, mi w] (hC (k, asked) ux ua ub v0 v1 v2 up uq ur) (fun z h => (¬ (0 ≤ w ∧ w ≤ 1) ∧ z = -1 ∧ h = hC (k, asked) ux ua ub v0 v1 v2 up uq ur) ∨ (((w = 0 ∧ v1.2.2 = 0) ∨ (w = 1 ∧ v2.2.2 = 0)) ∧ z = -2 ∧ h = hC (k, asked) ux ua ub v0 v1 v2 up uq ur) ∨ (w = 0 ∧ ¬ v1.2.2 = 0 ∧ z = v1.1 0 ∧ h = hC (k, asked) ux ua ub (mcpy v1.1 v0.1 0 0 99, v1.2.1, v0.2.2) v1 v2 up uq ur) ∨ (w = 1 ∧ ¬ v2.2.2 = 0 ∧ z = v2.1 0 ∧ h = hC (k, asked) ux ua ub (mcpy v2.1 v0.1 0 0 99, v2.2.1, v0.2.2) v1 v2 up uq ur)) := by
  refine SpI.of (cd := kdX6_back) (fT := mlook flX6) (kT := mlook klX6) (kJ := mlook jlX6) mfA_X6_back ok_X6_back fT_X6 kT_X6 jT_X6 jdk_ok True.intro (Nat.le_of_ble_eq_true rfl) (fun G hG => ?_)
  refine rRun hG 26 ?_
  refine And.intro (by first | omega | (dsimp only; omega)) (And.intro (fun c1 => ?_) (fun c1 => ?_))
  · try dsimp only at c1
    refine rRun hG 26 ?_
    refine rIR hG rfl rfl (True.intro) ?_
    exact Or.inl ⟨by omega, rfl, rfl⟩
  · try dsimp only at c1
    refine And.intro (by first | omega | (dsimp only; omega)) (And.intro (fun c2 => ?_) (fun c2 => ?_))
    · try dsimp only at c2
      refine rRun hG 26 ?_
      refine And.intro (by first | omega | (dsimp only; omega)) (And.intro (fun c3 => ?_) (fun c3 => ?_))
      · try dsimp only at c3
        refine rRun hG 26 ?_
        refine And.intro rfl (?_)
        refine rRun hG 99999 ?_
        refine And.intro rfl (And.intro (by first | omega | (dsimp only; omega)) (And.intro (fun c1 => ?_) (fun c1 => ?_)))
        · try dsimp only at c1
          refine rRun hG 99999 ?_
          refine And.intro rfl (?_)
          refine rVV hG (sp_X3_copy_d (uo := (k, asked)) (ux := ux) (ua := ua) (ub := ub) (v0 := v0) (v1 := v1) (v2 := v2) (up := up) (uq := uq) (ur := ur)) rfl rfl lk_X6_229 mf_X3_copy (by decide) (Nat.le_of_ble_eq_true rfl) ⟨_, _, _, rfl, rfl, rfl⟩ ?_
          rintro _ rfl
          refine rRun hG 99999 ?_
          refine And.intro rfl (?_)
          refine rV hG (sp_X3_day (uo := (k, asked)) (ux := ux) (ua := ua) (ub := ub) (mo := (mcpy v2.1 v0.1 0 0 99, v2.2.1, v0.2.2).1) (kn := (mcpy v2.1 v0.1 0 0 99, v2.2.1, v0.2.2).2.1) (kp := (mcpy v2.1 v0.1 0 0 99, v2.2.1, v0.2.2).2.2) (v1 := v1) (v2 := v2) (up := up) (uq := uq) (ur := ur)) rfl rfl lk_X6_148 mf_X3_day (by decide) (Nat.le_of_ble_eq_true rfl) ⟨_, _, _, rfl, rfl, rfl⟩ ?_
          rintro _ _ ⟨rfl, rfl⟩
          refine rIR hG rfl rfl (True.intro) ?_
          first | exact Or.inr (Or.inr (Or.inl ⟨by omega, by omega, rfl, rfl⟩)) | exact Or.inr (Or.inr (Or.inr ⟨by omega, by omega, rfl, rfl⟩))
        · try dsimp only at c1
          refine rIR hG rfl rfl (True.intro) ?_
          exact Or.inr (Or.inl ⟨Or.inr ⟨by omega, by omega⟩, rfl, rfl⟩)
      · try dsimp only at c3
        refine And.intro rfl (?_)
        refine rRun hG 99999 ?_
        refine And.intro rfl (And.intro (by first | omega | (dsimp only; omega)) (And.intro (fun c1 => ?_) (fun c1 => ?_)))
        · try dsimp only at c1
          refine rRun hG 99999 ?_
          refine And.intro rfl (?_)
          refine rVV hG (sp_X3_copy_c (uo := (k, asked)) (ux := ux) (ua := ua) (ub := ub) (v0 := v0) (v1 := v1) (v2 := v2) (up := up) (uq := uq) (ur := ur)) rfl rfl lk_X6_229 mf_X3_copy (by decide) (Nat.le_of_ble_eq_true rfl) ⟨_, _, _, rfl, rfl, rfl⟩ ?_
          rintro _ rfl
          refine rRun hG 99999 ?_
          refine And.intro rfl (?_)
          refine rV hG (sp_X3_day (uo := (k, asked)) (ux := ux) (ua := ua) (ub := ub) (mo := (mcpy v1.1 v0.1 0 0 99, v1.2.1, v0.2.2).1) (kn := (mcpy v1.1 v0.1 0 0 99, v1.2.1, v0.2.2).2.1) (kp := (mcpy v1.1 v0.1 0 0 99, v1.2.1, v0.2.2).2.2) (v1 := v1) (v2 := v2) (up := up) (uq := uq) (ur := ur)) rfl rfl lk_X6_148 mf_X3_day (by decide) (Nat.le_of_ble_eq_true rfl) ⟨_, _, _, rfl, rfl, rfl⟩ ?_
          rintro _ _ ⟨rfl, rfl⟩
          refine rIR hG rfl rfl (True.intro) ?_
          first | exact Or.inr (Or.inr (Or.inl ⟨by omega, by omega, rfl, rfl⟩)) | exact Or.inr (Or.inr (Or.inr ⟨by omega, by omega, rfl, rfl⟩))
        · try dsimp only at c1
          refine rIR hG rfl rfl (True.intro) ?_
          exact Or.inr (Or.inl ⟨Or.inl ⟨by omega, by omega⟩, rfl, rfl⟩)
    · try dsimp only at c2
      refine rIR hG rfl rfl (True.intro) ?_
      exact Or.inl ⟨by omega, rfl, rfl⟩
end WALKS
