/-! Story: copy, begin; the class itself: what is told, what is done -/
section WALKS
variable {l : Launch}
set_option maxRecDepth 20000 in
set_option maxHeartbeats 1500000 in
theorem sp_X3_copy_a {uo : UD} {ux : XD} {ua ub : TD} {v0 v1 v2 : SD} {up uq : PD} {ur : HD}   : SpV l 1 yX3_copy cX3_copy 2 none [mr 13, mr 11] (hC uo ux ua ub v0 v1 v2 up uq ur) (fun h => h = hC uo ux ua ub v0 (mcpy v0.1 v1.1 0 0 99, v0.2.1, v1.2.2) v2 up uq ur) := by
  refine SpV.of (cd := kdX3_copy) (fT := mlook flX3) (kT := mlook klX3) (kJ := mlook jlX3) mfA_X3_copy ok_X3_copy fT_X3 kT_X3 jT_X3 jdk_ok True.intro (Nat.le_of_ble_eq_true rfl) (fun G hG => ?_)
  refine rRun hG 99999 ?_
  refine And.intro rfl (And.intro rfl (And.intro rfl (And.intro (by decide) (?_))))
  refine rCpy hG rfl rfl lk_X3_23 (by decide) (Nat.le_of_ble_eq_true rfl) rfl rfl (by exact ⟨⟨by decide, by decide, by decide⟩, by decide, by decide, by decide, by decide⟩) ?_
  refine rRun hG 99999 ?_
  refine And.intro rfl (And.intro ⟨rfl, by exact Nat.le_of_ble_eq_true rfl, by first | exact True.intro | exact Or.inl rfl | exact Or.inr rfl⟩ (?_))
  refine rVR hG rfl rfl rfl ?_
  rfl
set_option maxRecDepth 20000 in
set_option maxHeartbeats 1500000 in
theorem sp_X3_copy_b {uo : UD} {ux : XD} {ua ub : TD} {v0 v1 v2 : SD} {up uq : PD} {ur : HD}   : SpV l 1 yX3_copy cX3_copy 2 none [mr 15, mr 11] (hC uo ux ua ub v0 v1 v2 up uq ur) (fun h => h = hC uo ux ua ub v0 v1 (mcpy v0.1 v2.1 0 0 99, v0.2.1, v2.2.2) up uq ur) := by
  refine SpV.of (cd := kdX3_copy) (fT := mlook flX3) (kT := mlook klX3) (kJ := mlook jlX3) mfA_X3_copy ok_X3_copy fT_X3 kT_X3 jT_X3 jdk_ok True.intro (Nat.le_of_ble_eq_true rfl) (fun G hG => ?_)
  refine rRun hG 99999 ?_
  refine And.intro rfl (And.intro rfl (And.intro rfl (And.intro (by decide) (?_))))
  refine rCpy hG rfl rfl lk_X3_23 (by decide) (Nat.le_of_ble_eq_true rfl) rfl rfl (by exact ⟨⟨by decide, by decide, by decide⟩, by decide, by decide, by decide, by decide⟩) ?_
  refine rRun hG 99999 ?_
  refine And.intro rfl (And.intro ⟨rfl, by exact Nat.le_of_ble_eq_true rfl, by first | exact True.intro | exact Or.inl rfl | exact Or.inr rfl⟩ (?_))
  refine rVR hG rfl rfl rfl ?_
  rfl
set_option maxRecDepth 20000 in
set_option maxHeartbeats 1500000 in
theorem sp_X3_copy_c {uo : UD} {ux : XD} {ua ub : TD} {v0 v1 v2 : SD} {up uq : PD} {ur : HD}   : SpV l 1 yX3_copy cX3_copy 2 none [mr 11, mr 13] (hC uo ux ua ub v0 v1 v2 up uq ur) (fun h => h = hC uo ux ua ub (mcpy v1.1 v0.1 0 0 99, v1.2.1, v0.2.2) v1 v2 up uq ur) := by
  refine SpV.of (cd := kdX3_copy) (fT := mlook flX3) (kT := mlook klX3) (kJ := mlook jlX3) mfA_X3_copy ok_X3_copy fT_X3 kT_X3 jT_X3 jdk_ok True.intro (Nat.le_of_ble_eq_true rfl) (fun G hG => ?_)
  refine rRun hG 99999 ?_
  refine And.intro rfl (And.intro rfl (And.intro rfl (And.intro (by decide) (?_))))
  refine rCpy hG rfl rfl lk_X3_23 (by decide) (Nat.le_of_ble_eq_true rfl) rfl rfl (by exact ⟨⟨by decide, by decide, by decide⟩, by decide, by decide, by decide, by decide⟩) ?_
  refine rRun hG 99999 ?_
  refine And.intro rfl (And.intro ⟨rfl, by exact Nat.le_of_ble_eq_true rfl, by first | exact True.intro | exact Or.inl rfl | exact Or.inr rfl⟩ (?_))
  refine rVR hG rfl rfl rfl ?_
  rfl
set_option maxRecDepth 20000 in
set_option maxHeartbeats 1500000 in
theorem sp_X3_copy_d {uo : UD} {ux : XD} {ua ub : TD} {v0 v1 v2 : SD} {up uq : PD} {ur : HD}   : SpV l 1 yX3_copy cX3_copy 2 none [mr 11, mr 15] (hC uo ux ua ub v0 v1 v2 up uq ur) (fun h => h = hC uo ux ua ub (mcpy v2.1 v0.1 0 0 99, v2.2.1, v0.2.2) v1 v2 up uq ur) := by
  refine SpV.of (cd := kdX3_copy) (fT := mlook flX3) (kT := mlook klX3) (kJ := mlook jlX3) mfA_X3_copy ok_X3_copy fT_X3 kT_X3 jT_X3 jdk_ok True.intro (Nat.le_of_ble_eq_true rfl) (fun G hG => ?_)
  refine rRun hG 99999 ?_
  refine And.intro rfl (And.intro rfl (And.intro rfl (And.intro (by decide) (?_))))
  refine rCpy hG rfl rfl lk_X3_23 (by decide) (Nat.le_of_ble_eq_true rfl) rfl rfl (by exact ⟨⟨by decide, by decide, by decide⟩, by decide, by decide, by decide, by decide⟩) ?_
  refine rRun hG 99999 ?_
  refine And.intro rfl (And.intro ⟨rfl, by exact Nat.le_of_ble_eq_true rfl, by first | exact True.intro | exact Or.inl rfl | exact Or.inr rfl⟩ (?_))
  refine rVR hG rfl rfl rfl ?_
  rfl
def begM (mo : FN) : Nat → FN
  | 0 => mo
  | i + 1 => mup (begM mo i) i 0
theorem begM_in {mo : FN} : ∀ {i j : Nat}, j < i → begM mo i j = 0
  | i + 1, j, h => by
    show mup (begM mo i) i 0 j = 0
    by_cases q : j = i
    · subst q; exact mup_s
    · rw [mup_n q]; exact begM_in (by omega)
set_option maxRecDepth 20000 in
set_option maxHeartbeats 1500000 in
theorem sp_X3_begin {uo : UD} {ux : XD} {ua ub : TD} {mo : FN} {kn kp : Int} {v1 v2 : SD} {up uq : PD} {ur : HD} {r : Int}  : SpV l 1 yX3_begin cX3_begin 3 none [mr 11, mi r] (hC uo ux ua ub (mo, kn, kp) v1 v2 up uq ur) (fun h => h = hC uo ux ua ub (mup (begM mo 9) 1 r, 0, kp) v1 v2 up uq ur) := by
  refine SpV.of (cd := kdX3_begin) (fT := mlook flX3) (kT := mlook klX3) (kJ := mlook jlX3) mfA_X3_begin ok_X3_begin fT_X3 kT_X3 jT_X3 jdk_ok True.intro (Nat.le_of_ble_eq_true rfl) (fun G hG => ?_)
  refine rRun hG 2 ?_
  have J2 : ∀ (n : Nat) (i : Nat), i ≤ 9 → 9 - i < n → G 2 [some (mr 11), some (mi r), some (mi (i : Int))] [] (hC uo ux ua ub (begM mo i, kn, kp) v1 v2 up uq ur) := by
    intro n
    induction n with
    | zero => intro i _ hm; exact absurd hm (Nat.not_lt_zero _)
    | succ n ih =>
      intro i hinv hm
      refine rRun hG 30 ?_
      refine And.intro (by first | omega | (dsimp only; omega)) (And.intro (fun c1 => ?_) (fun c1 => ?_))
      · try dsimp only at c1
        obtain rfl : i = 9 := by omega
        refine rRun hG 99999 ?_
        refine And.intro rfl (And.intro (by decide) (And.intro ⟨rfl, by exact Nat.le_of_ble_eq_true rfl, by first | exact True.intro | exact Or.inl rfl | exact Or.inr rfl⟩ (?_)))
        refine rVR hG rfl rfl rfl ?_
        rfl
      · try dsimp only at c1
        refine And.intro rfl (And.intro (by decide) (And.intro (by first | omega | (dsimp only; omega)) (And.intro (fun c2 => ?_) (fun c2 => ?_))))
        · try dsimp only at c2
          exfalso; omega
        · try dsimp only at c2
          refine And.intro rfl (And.intro (by first | omega | (dsimp only; omega)) (?_))
          exact ih (i + 1) (by omega) (by omega)
  exact J2 _ 0 (by omega) (Nat.lt_succ_self _)
def xAdd (x : XD) (c : Int) : XD := (mup (xB x) (xN x).toNat c, xN x + 1, xP x, xS x, xK x, xV x, xF x, xR x, xL x, xA x)
def xClr (x : XD) : XD := (xB x, 0, xP x, xS x, xK x, xV x, xF x, xR x, xL x, xA x)
set_option maxRecDepth 20000 in
set_option maxHeartbeats 1500000 in
theorem sp_X6_type {k : Bool} {asked : Int} {ux : XD} {ua ub : TD} {mo : FN} {kn kp : Int} {v1 v2 : SD} {up uq : PD} {ur : HD} {c : Int} (h1 : inI c) (hn : 0 ≤ xN ux ∧ xN ux ≤ 150) : SpI l 2 yX6_type cX6_type 2 (some .int) [mr 0, mi c] (hC (k, asked) ux ua ub (mo, kn, kp) v1 v2 up uq ur) (fun z h => ((c < 0 ∨ 255 < c) ∧ z = -1 ∧ h = hC (k, asked) ux ua ub (mo, kn, kp) v1 v2 up uq ur) ∨ ((0 ≤ c ∧ c ≤ 255 ∧ 150 ≤ xN ux) ∧ z = -3 ∧ h = hC (k, asked) ux ua ub (mo, kn, kp) v1 v2 up uq ur) ∨ ((0 ≤ c ∧ c ≤ 255 ∧ xN ux < 150) ∧ z = xN ux + 1 ∧ h = hC (k, asked) (xAdd ux c) ua ub (mo, kn, kp) v1 v2 up uq ur)) := by
  refine SpI.of (cd := kdX6_type) (fT := mlook flX6) (kT := mlook klX6) (kJ := mlook jlX6) mfA_X6_type ok_X6_type fT_X6 kT_X6 jT_X6 jdk_ok True.intro (Nat.le_of_ble_eq_true rfl) (fun G hG => ?_)
  refine rRun hG 99999 ?_
  refine And.intro (by first | omega | (dsimp only; omega)) (And.intro (fun c1 => ?_) (fun c1 => ?_))
  · try dsimp only at c1
    refine rRun hG 99999 ?_
    refine rIR hG rfl rfl (True.intro) ?_
    exact Or.inl ⟨by omega, rfl, rfl⟩
  · try dsimp only at c1
    refine And.intro (by first | omega | (dsimp only; omega)) (And.intro (fun c2 => ?_) (fun c2 => ?_))
    · try dsimp only at c2
      refine rRun hG 99999 ?_
      refine And.intro rfl (?_)
      refine rV hG (sp_X4_add (uo := (k, asked)) (ux := ux) (ua := ua) (ub := ub) (v0 := (mo, kn, kp)) (v1 := v1) (v2 := v2) (up := up) (uq := uq) (ur := ur) (c := c) hn) rfl rfl lk_X6_72 mf_X4_add (by decide) (Nat.le_of_ble_eq_true rfl) ⟨_, _, _, rfl, rfl, rfl⟩ ?_
      rintro w _ hw
      have hw1 : (w = 0 ∧ 150 ≤ xN ux) ∨ (w = 1 ∧ xN ux < 150) := by rcases hw with q | q <;> omega
      refine rRun hG 99999 ?_
      refine And.intro (by first | omega | (dsimp only; omega)) (And.intro (fun cw => ?_) (fun cw => ?_))
      · try dsimp only at cw
        rcases hw with ⟨q1, q2, rfl⟩ | ⟨q1, q2, rfl⟩
        all_goals try (exfalso; omega)
        refine rRun hG 99999 ?_
        refine rIR hG rfl rfl (True.intro) ?_
        first | exact Or.inr (Or.inl ⟨by omega, rfl, rfl⟩) | exact Or.inr (Or.inr ⟨by omega, rfl, rfl⟩)
      · try dsimp only at cw
        rcases hw with ⟨q1, q2, rfl⟩ | ⟨q1, q2, rfl⟩
        · exfalso; omega
        refine And.intro rfl (And.intro rfl (?_))
        refine rIR hG rfl rfl (True.intro) ?_
        first | exact Or.inr (Or.inl ⟨by omega, rfl, rfl⟩) | exact Or.inr (Or.inr ⟨by omega, rfl, rfl⟩)
    · try dsimp only at c2
      refine rIR hG rfl rfl (True.intro) ?_
      exact Or.inl ⟨by omega, rfl, rfl⟩
set_option maxRecDepth 20000 in
set_option maxHeartbeats 1500000 in
theorem sp_X6_clear {k : Bool} {asked : Int} {ux : XD} {ua ub : TD} {mo : FN} {kn kp : Int} {v1 v2 : SD} {up uq : PD} {ur : HD}   : SpI l 1 yX6_clear cX6_clear 2 (some .int) [mr 0] (hC (k, asked) ux ua ub (mo, kn, kp) v1 v2 up uq ur) (fun z h => z = xN ux ∧ h = hC (k, asked) (xClr ux) ua ub (mo, kn, kp) v1 v2 up uq ur) := by
  refine SpI.of (cd := kdX6_clear) (fT := mlook flX6) (kT := mlook klX6) (kJ := mlook jlX6) mfA_X6_clear ok_X6_clear fT_X6 kT_X6 jT_X6 jdk_ok True.intro (Nat.le_of_ble_eq_true rfl) (fun G hG => ?_)
  refine rRun hG 99999 ?_
  refine And.intro rfl (And.intro rfl (And.intro rfl (And.intro ⟨rfl, by exact Nat.le_of_ble_eq_true rfl, by first | exact True.intro | exact Or.inl rfl | exact Or.inr rfl⟩ (?_))))
  refine rIR hG rfl rfl (True.intro) ?_
  exact ⟨rfl, rfl⟩
set_option maxRecDepth 20000 in
set_option maxHeartbeats 1500000 in
theorem sp_X6_sun {k : Bool} {asked : Int} {ux : XD} {ua ub : TD} {mo : FN} {kn kp : Int} {v1 v2 : SD} {up uq : PD} {ur : HD} {t : TD} (ht : t = tsel k ua ub) {d : Int} (h1 : inI d) (h2 : inI (tDay t)) : SpI l 2 yX6_sun cX6_sun 2 (some .int) [mr 0, mi d] (hC (k, asked) ux ua ub (mo, kn, kp) v1 v2 up uq ur) (fun z h => z = (if 0 ≤ d ∧ d < tDay t ∧ d < 14 then tSun t d.toNat else -1) ∧ h = hC (k, asked) ux ua ub (mo, kn, kp) v1 v2 up uq ur) := by
  refine SpI.of (cd := kdX6_sun) (fT := mlook flX6) (kT := mlook klX6) (kJ := mlook jlX6) mfA_X6_sun ok_X6_sun fT_X6 kT_X6 jT_X6 jdk_ok True.intro (Nat.le_of_ble_eq_true rfl) (fun G hG => ?_)
  refine rRun hG 99999 ?_
  refine And.intro rfl (?_)
  refine rV hG (sp_X5_sunOf (uo := (k, asked)) (ux := ux) (ua := ua) (ub := ub) (v0 := (mo, kn, kp)) (v1 := v1) (v2 := v2) (up := up) (uq := uq) (ur := ur) (k := k) (t := t) ht (i := d) h1 h2) rfl rfl lk_X6_90 mf_X5_sunOf (by decide) (Nat.le_of_ble_eq_true rfl) (by cases k <;> exact ⟨_, _, _, rfl, rfl, rfl⟩) ?_
  rintro _ _ ⟨rfl, rfl⟩
  refine rIR hG rfl rfl (True.intro) ?_
  exact ⟨rfl, rfl⟩
set_option maxRecDepth 20000 in
set_option maxHeartbeats 1500000 in
theorem sp_X6_bribe {k : Bool} {asked : Int} {ux : XD} {ua ub : TD} {mo : FN} {kn kp : Int} {v1 v2 : SD} {up uq : PD} {ur : HD} {t : TD} (ht : t = tsel k ua ub) {b w : Int} (h1 : inI b) (h2 : inI w) (h3 : 0 ≤ tNB t ∧ tNB t ≤ 6) : SpI l 2 yX6_bribe cX6_bribe 3 (some .int) [mr 0, mi b, mi w] (hC (k, asked) ux ua ub (mo, kn, kp) v1 v2 up uq ur) (fun z h => z = (if 0 ≤ b ∧ b < tNB t ∧ 0 ≤ w ∧ w ≤ 3 then tBri t (4 * b + w).toNat else -1000000) ∧ h = hC (k, asked) ux ua ub (mo, kn, kp) v1 v2 up uq ur) := by
  cases k
  · obtain rfl : t = ua := ht
    refine SpI.of (cd := kdX6_bribe) (fT := mlook flX6) (kT := mlook klX6) (kJ := mlook jlX6) mfA_X6_bribe ok_X6_bribe fT_X6 kT_X6 jT_X6 jdk_ok True.intro (Nat.le_of_ble_eq_true rfl) (fun G hG => ?_)
    refine rRun hG 99999 ?_
    refine And.intro (by first | omega | (dsimp only; omega)) (And.intro (fun c1 => ?_) (fun c1 => ?_))
    · try dsimp only at c1
      refine rRun hG 99999 ?_
      refine rIR hG rfl rfl (True.intro) ?_
      exact ⟨by first | (rw [if_pos (by omega)]; done) | (rw [if_neg (by omega)]; done), rfl⟩
    · try dsimp only at c1
      refine And.intro rfl (And.intro rfl (And.intro (by first | omega | (dsimp only; omega)) (And.intro (fun c2 => ?_) (fun c2 => ?_))))
      · try dsimp only at c2
        refine rRun hG 99999 ?_
        refine rIR hG rfl rfl (True.intro) ?_
        exact ⟨by first | (rw [if_pos (by omega)]; done) | (rw [if_neg (by omega)]; done), rfl⟩
      · try dsimp only at c2
        refine And.intro (by first | omega | (dsimp only; omega)) (And.intro (fun c3 => ?_) (fun c3 => ?_))
        · try dsimp only at c3
          refine rRun hG 99999 ?_
          refine rIR hG rfl rfl (True.intro) ?_
          exact ⟨by first | (rw [if_pos (by omega)]; done) | (rw [if_neg (by omega)]; done), rfl⟩
        · try dsimp only at c3
          refine And.intro (by first | omega | (dsimp only; omega)) (And.intro (fun c4 => ?_) (fun c4 => ?_))
          · try dsimp only at c4
            refine rRun hG 99999 ?_
            refine And.intro rfl (?_)
            refine rV hG (sp_X5_ofBribe (uo := (false, asked)) (ux := ux) (ua := t) (ub := ub) (v0 := (mo, kn, kp)) (v1 := v1) (v2 := v2) (up := up) (uq := uq) (ur := ur) (k := false) (t := t) (ht := rfl) (b := b) (w := w) (by omega)) rfl rfl lk_X6_98 mf_X5_ofBribe (by decide) (Nat.le_of_ble_eq_true rfl) ⟨_, _, _, rfl, rfl, rfl⟩ ?_
            rintro z _ ⟨hz, rfl⟩
            refine rIR hG rfl rfl (True.intro) ?_
            refine ⟨?_, rfl⟩
            rw [hz, if_pos (by omega), if_pos (by omega)]
          · try dsimp only at c4
            refine rIR hG rfl rfl (True.intro) ?_
            exact ⟨by first | (rw [if_pos (by omega)]; done) | (rw [if_neg (by omega)]; done), rfl⟩
  · obtain rfl : t = ub := ht
    refine SpI.of (cd := kdX6_bribe) (fT := mlook flX6) (kT := mlook klX6) (kJ := mlook jlX6) mfA_X6_bribe ok_X6_bribe fT_X6 kT_X6 jT_X6 jdk_ok True.intro (Nat.le_of_ble_eq_true rfl) (fun G hG => ?_)
    refine rRun hG 99999 ?_
    refine And.intro (by first | omega | (dsimp only; omega)) (And.intro (fun c1 => ?_) (fun c1 => ?_))
    · try dsimp only at c1
      refine rRun hG 99999 ?_
      refine rIR hG rfl rfl (True.intro) ?_
      exact ⟨by first | (rw [if_pos (by omega)]; done) | (rw [if_neg (by omega)]; done), rfl⟩
    · try dsimp only at c1
      refine And.intro rfl (And.intro rfl (And.intro (by first | omega | (dsimp only; omega)) (And.intro (fun c2 => ?_) (fun c2 => ?_))))
      · try dsimp only at c2
        refine rRun hG 99999 ?_
        refine rIR hG rfl rfl (True.intro) ?_
        exact ⟨by first | (rw [if_pos (by omega)]; done) | (rw [if_neg (by omega)]; done), rfl⟩
      · try dsimp only at c2
        refine And.intro (by first | omega | (dsimp only; omega)) (And.intro (fun c3 => ?_) (fun c3 => ?_))
        · try dsimp only at c3
          refine rRun hG 99999 ?_
          refine rIR hG rfl rfl (True.intro) ?_
          exact ⟨by first | (rw [if_pos (by omega)]; done) | (rw [if_neg (by omega)]; done), rfl⟩
        · try dsimp only at c3
          refine And.intro (by first | omega | (dsimp only; omega)) (And.intro (fun c4 => ?_) (fun c4 => ?_))
          · try dsimp only at c4
            refine rRun hG 99999 ?_
            refine And.intro rfl (?_)
            refine rV hG (sp_X5_ofBribe (uo := (true, asked)) (ux := ux) (ua := ua) (ub := t) (v0 := (mo, kn, kp)) (v1 := v1) (v2 := v2) (up := up) (uq := uq) (ur := ur) (k := true) (t := t) (ht := rfl) (b := b) (w := w) (by omega)) rfl rfl lk_X6_98 mf_X5_ofBribe (by decide) (Nat.le_of_ble_eq_true rfl) ⟨_, _, _, rfl, rfl, rfl⟩ ?_
            rintro z _ ⟨hz, rfl⟩
            refine rIR hG rfl rfl (True.intro) ?_
            refine ⟨?_, rfl⟩
            rw [hz, if_pos (by omega), if_pos (by omega)]
          · try dsimp only at c4
            refine rIR hG rfl rfl (True.intro) ?_
            exact ⟨by first | (rw [if_pos (by omega)]; done) | (rw [if_neg (by omega)]; done), rfl⟩
set_option maxRecDepth 20000 in
set_option maxHeartbeats 1500000 in
theorem sp_X6_trade {k : Bool} {asked : Int} {ux : XD} {ua ub : TD} {mo : FN} {kn kp : Int} {v1 v2 : SD} {up uq : PD} {ur : HD} {t : TD} (ht : t = tsel k ua ub) {i w : Int} (h1 : inI i) (h2 : inI w) (h3 : 0 ≤ tNT t ∧ tNT t ≤ 4) : SpI l 2 yX6_trade cX6_trade 3 (some .int) [mr 0, mi i, mi w] (hC (k, asked) ux ua ub (mo, kn, kp) v1 v2 up uq ur) (fun z h => z = (if 0 ≤ i ∧ i < tNT t ∧ 0 ≤ w ∧ w ≤ 2 then (if w = 2 then mo (5 + i).toNat else tTra t (2 * i + w).toNat) else -1) ∧ h = hC (k, asked) ux ua ub (mo, kn, kp) v1 v2 up uq ur) := by
  refine SpI.of (cd := kdX6_trade) (fT := mlook flX6) (kT := mlook klX6) (kJ := mlook jlX6) mfA_X6_trade ok_X6_trade fT_X6 kT_X6 jT_X6 jdk_ok True.intro (Nat.le_of_ble_eq_true rfl) (fun G hG => ?_)
  refine rRun hG 99999 ?_
  refine And.intro rfl (?_)
  refine rV hG (sp_X5_hasTrade (uo := (k, asked)) (ux := ux) (ua := ua) (ub := ub) (v0 := (mo, kn, kp)) (v1 := v1) (v2 := v2) (up := up) (uq := uq) (ur := ur) (k := k) (t := t) ht (i := i) h1 (by omega)) rfl rfl lk_X6_102 mf_X5_hasTrade (by decide) (Nat.le_of_ble_eq_true rfl) (by cases k <;> exact ⟨_, _, _, rfl, rfl, rfl⟩) ?_
  rintro w9 _ ⟨hw, rfl⟩
  have w91 : (w9 = 1 ∧ (0 ≤ i ∧ i < tNT t)) ∨ (w9 = 0 ∧ ¬ (0 ≤ i ∧ i < tNT t)) := (by rw [hw]; by_cases q9 : (0 ≤ i ∧ i < tNT t) <;> simp [q9])
  clear hw
  refine rRun hG 99999 ?_
  refine And.intro (by first | omega | (dsimp only; omega)) (And.intro (fun c2 => ?_) (fun c2 => ?_))
  · try dsimp only at c2
    refine rRun hG 99999 ?_
    refine rIR hG rfl rfl (True.intro) ?_
    refine ⟨?_, rfl⟩
    rw [if_neg (by omega)]
  · try dsimp only at c2
    refine And.intro (by first | omega | (dsimp only; omega)) (And.intro (fun c3 => ?_) (fun c3 => ?_))
    · try dsimp only at c3
      refine rRun hG 99999 ?_
      refine rIR hG rfl rfl (True.intro) ?_
      refine ⟨?_, rfl⟩
      rw [if_neg (by omega)]
    · try dsimp only at c3
      refine And.intro (by first | omega | (dsimp only; omega)) (And.intro (fun c4 => ?_) (fun c4 => ?_))
      · try dsimp only at c4
        refine rRun hG 99999 ?_
        refine And.intro (by first | omega | (dsimp only; omega)) (And.intro (fun c5 => ?_) (fun c5 => ?_))
        · try dsimp only at c5
          refine rRun hG 99999 ?_
          refine And.intro rfl (?_)
          refine rV hG (sp_X5_ofTrade (uo := (k, asked)) (ux := ux) (ua := ua) (ub := ub) (v0 := (mo, kn, kp)) (v1 := v1) (v2 := v2) (up := up) (uq := uq) (ur := ur) (k := k) (t := t) ht (b := i) (w := w) (by omega)) rfl rfl lk_X6_108 mf_X5_ofTrade (by decide) (Nat.le_of_ble_eq_true rfl) (by cases k <;> exact ⟨_, _, _, rfl, rfl, rfl⟩) ?_
          rintro z _ ⟨hz, rfl⟩
          refine rIR hG rfl rfl (True.intro) ?_
          refine ⟨?_, rfl⟩
          rw [hz]
          first | rw [if_pos (by omega), if_pos (by omega), if_pos (by omega)] | rw [if_pos (by omega), if_pos (by omega), if_neg (by omega)]
        · try dsimp only at c5
          refine And.intro rfl (?_)
          refine rV hG (sp_X3_harmOf (uo := (k, asked)) (ux := ux) (ua := ua) (ub := ub) (mo := mo) (kn := kn) (kp := kp) (v1 := v1) (v2 := v2) (up := up) (uq := uq) (ur := ur) (i := i) h1) rfl rfl lk_X6_105 mf_X3_harmOf (by decide) (Nat.le_of_ble_eq_true rfl) ⟨_, _, _, rfl, rfl, rfl⟩ ?_
          rintro z _ ⟨hz, rfl⟩
          refine rRun hG 99999 ?_
          refine rIR hG rfl rfl (True.intro) ?_
          refine ⟨?_, rfl⟩
          rw [hz]
          first | rw [if_pos (by omega), if_pos (by omega), if_pos (by omega)] | rw [if_pos (by omega), if_pos (by omega), if_neg (by omega)]
      · try dsimp only at c4
        refine rIR hG rfl rfl (True.intro) ?_
        refine ⟨?_, rfl⟩
        rw [if_neg (by omega)]
set_option maxRecDepth 20000 in
set_option maxHeartbeats 1500000 in
theorem sp_X6_undo {k : Bool} {asked : Int} {ux : XD} {ua ub : TD} {mo : FN} {kn kp : Int} {v1 v2 : SD} {up uq : PD} {ur : HD}  (h0 : 0 ≤ kn ∧ kn ≤ 10) : SpI l 2 yX6_undo cX6_undo 1 (some .int) [mr 0] (hC (k, asked) ux ua ub (mo, kn, kp) v1 v2 up uq ur) (fun z h => z = (if 0 < kn then kn - 1 else -2) ∧ h = hC (k, asked) ux ua ub (if 0 < kn then mcpy mo mo 9 0 90 else mo, if 0 < kn then kn - 1 else kn, kp) v1 v2 up uq ur) := by
  refine SpI.of (cd := kdX6_undo) (fT := mlook flX6) (kT := mlook klX6) (kJ := mlook jlX6) mfA_X6_undo ok_X6_undo fT_X6 kT_X6 jT_X6 jdk_ok True.intro (Nat.le_of_ble_eq_true rfl) (fun G hG => ?_)
  refine rRun hG 99999 ?_
  refine And.intro rfl (?_)
  refine rV hG (sp_X3_recall (uo := (k, asked)) (ux := ux) (ua := ua) (ub := ub) (mo := mo) (kn := kn) (kp := kp) (v1 := v1) (v2 := v2) (up := up) (uq := uq) (ur := ur) h0) rfl rfl lk_X6_141 mf_X3_recall (by decide) (Nat.le_of_ble_eq_true rfl) ⟨_, _, _, rfl, rfl, rfl⟩ ?_
  rintro w _ ⟨hw, rfl⟩
  have w1 : (w = 1 ∧ (0 < kn)) ∨ (w = 0 ∧ ¬ (0 < kn)) := (by rw [hw]; by_cases q9 : (0 < kn) <;> simp [q9])
  clear hw
  refine rRun hG 99999 ?_
  refine And.intro (by first | omega | (dsimp only; omega)) (And.intro (fun c2 => ?_) (fun c2 => ?_))
  · try dsimp only at c2
    refine rRun hG 99999 ?_
    refine rIR hG rfl rfl (True.intro) ?_
    refine ⟨?_, rfl⟩
    first | rw [if_neg (by omega)] | (dsimp only; rw [if_pos (by omega), if_pos (by omega)]) | (show (if 0 < kn then kn - 1 else kn) = _; rw [if_pos (by omega), if_pos (by omega)])
  · try dsimp only at c2
    refine And.intro rfl (And.intro rfl (?_))
    refine rIR hG rfl rfl (True.intro) ?_
    refine ⟨?_, rfl⟩
    first | rw [if_neg (by omega)] | (dsimp only; rw [if_pos (by omega), if_pos (by omega)]) | (show (if 0 < kn then kn - 1 else kn) = _; rw [if_pos (by omega), if_pos (by omega)])
set_option maxRecDepth 20000 in
set_option maxHeartbeats 1500000 in
theorem sp_X6_soonest {k : Bool} {asked : Int} {ux : XD} {ua ub : TD} {mo : FN} {kn kp : Int} {v1 v2 : SD} {up uq : PD} {ur : HD} {t : TD} (ht : t = tsel k ua ub)  (h0 : 0 ≤ tDay t ∧ tDay t ≤ 14) (h1 : 0 ≤ mo 0 ∧ mo 0 ≤ tDay t) (h2 : -100 ≤ mo 2 ∧ mo 2 ≤ 100) (h3 : 0 ≤ mo 1 ∧ mo 1 ≤ 1000) : SpI l 5 yX6_soonest cX6_soonest 1 (some .int) [mr 0] (hC (k, asked) ux ua ub (mo, kn, kp) v1 v2 up uq ur) (fun z h => z = soonR (mo 1) (mo 2) ((tDay t - mo 0).toNat + 1) 0 ∧ h = hC (k, asked) ux ua ub (mo, kn, kp) v1 v2 up uq ur) := by
  refine SpI.of (cd := kdX6_soonest) (fT := mlook flX6) (kT := mlook klX6) (kJ := mlook jlX6) mfA_X6_soonest ok_X6_soonest fT_X6 kT_X6 jT_X6 jdk_ok True.intro (Nat.le_of_ble_eq_true rfl) (fun G hG => ?_)
  refine rRun hG 99999 ?_
  refine And.intro rfl (And.intro rfl (?_))
  refine rV hG (sp_X3_soonestFree (uo := (k, asked)) (ux := ux) (ua := ua) (ub := ub) (mo := mo) (kn := kn) (kp := kp) (v1 := v1) (v2 := v2) (up := up) (uq := uq) (ur := ur) (k := k) (t := t) ht h0 h1 h2 h3) rfl rfl lk_X6_165 mf_X3_soonestFree (by decide) (Nat.le_of_ble_eq_true rfl) ⟨_, _, _, rfl, rfl, rfl⟩ ?_
  rintro _ _ ⟨rfl, rfl⟩
  refine rIR hG rfl rfl (True.intro) ?_
  exact ⟨rfl, rfl⟩
set_option maxRecDepth 20000 in
set_option maxHeartbeats 1500000 in
theorem sp_X6_catches {k : Bool} {asked : Int} {ux : XD} {ua ub : TD} {mo : FN} {kn kp : Int} {v1 v2 : SD} {up uq : PD} {ur : HD} {t : TD} (ht : t = tsel k ua ub) {pace : Int} (hp : inI pace) (h0 : 0 ≤ tDay t ∧ tDay t ≤ 14) (h1 : 0 ≤ mo 0 ∧ mo 0 ≤ tDay t) (h2 : -100 ≤ mo 2 ∧ mo 2 ≤ 100) (h3 : 0 ≤ mo 1 ∧ mo 1 ≤ 1000) (h5 : 0 ≤ tLim t ∧ tLim t ≤ 6) : SpI l 5 yX6_catches cX6_catches 2 (some .int) [mr 0, mi pace] (hC (k, asked) ux ua ub (mo, kn, kp) v1 v2 up uq ur) (fun z h => z = (if -2 ≤ pace ∧ pace ≤ 3 then (if tDay t ≤ mo 0 ∨ mo 1 = 0 then -9 else catR (tLim t) pace ((tDay t - mo 0).toNat + 1) 0 (mo 2) (mo 1)) else -1) ∧ h = hC (k, asked) ux ua ub (mo, kn, kp) v1 v2 up uq ur) := by
  refine SpI.of (cd := kdX6_catches) (fT := mlook flX6) (kT := mlook klX6) (kJ := mlook jlX6) mfA_X6_catches ok_X6_catches fT_X6 kT_X6 jT_X6 jdk_ok True.intro (Nat.le_of_ble_eq_true rfl) (fun G hG => ?_)
  refine rRun hG 99999 ?_
  refine rS hG (sp_X6_isPace (e := pace) hp) rfl rfl lk_X6_111 mf_X6_isPace (by decide) (Nat.le_of_ble_eq_true rfl) ?_
  rintro w _ ⟨hw, rfl⟩
  have w1 : (w = 1 ∧ (-2 ≤ pace ∧ pace ≤ 3)) ∨ (w = 0 ∧ ¬ (-2 ≤ pace ∧ pace ≤ 3)) := (by rw [hw]; by_cases q9 : (-2 ≤ pace ∧ pace ≤ 3) <;> simp [q9])
  clear hw
  refine rRun hG 99999 ?_
  refine And.intro (by first | omega | (dsimp only; omega)) (And.intro (fun c2 => ?_) (fun c2 => ?_))
  · try dsimp only at c2
    refine rRun hG 99999 ?_
    refine rIR hG rfl rfl (True.intro) ?_
    refine ⟨?_, rfl⟩
    first | rw [if_pos (by omega : -2 ≤ pace ∧ pace ≤ 3)] | rw [if_neg (by omega : ¬ (-2 ≤ pace ∧ pace ≤ 3))]
  · try dsimp only at c2
    refine And.intro rfl (And.intro rfl (?_))
    refine rV hG (sp_X3_caughtBehind (uo := (k, asked)) (ux := ux) (ua := ua) (ub := ub) (mo := mo) (kn := kn) (kp := kp) (v1 := v1) (v2 := v2) (up := up) (uq := uq) (ur := ur) (k := k) (t := t) ht (pace := pace) h0 h1 h2 h3 (by omega) h5) rfl rfl lk_X6_192 mf_X3_caughtBehind (by decide) (Nat.le_of_ble_eq_true rfl) ⟨_, _, _, rfl, rfl, rfl⟩ ?_
    rintro _ _ ⟨rfl, rfl⟩
    refine rRun hG 99999 ?_
    refine rIR hG rfl rfl (True.intro) ?_
    refine ⟨?_, rfl⟩
    first | rw [if_pos (by omega : -2 ≤ pace ∧ pace ≤ 3)] | rw [if_neg (by omega : ¬ (-2 ≤ pace ∧ pace ≤ 3))]
set_option maxRecDepth 20000 in
set_option maxHeartbeats 1500000 in
theorem sp_X6_trace {k : Bool} {asked : Int} {ux : XD} {ua ub : TD} {mo : FN} {kn kp : Int} {v1 v2 : SD} {up uq : PD} {ur : HD}   : SpJ l 1 yX6_trace cX6_trace 1 (some .long) [mr 0] (hC (k, asked) ux ua ub (mo, kn, kp) v1 v2 up uq ur) (fun z h => z = asked ∧ h = hC (k, asked) ux ua ub (mo, kn, kp) v1 v2 up uq ur) := by
  refine SpJ.of (cd := kdX6_trace) (fT := mlook flX6) (kT := mlook klX6) (kJ := mlook jlX6) mfA_X6_trace ok_X6_trace fT_X6 kT_X6 jT_X6 jdk_ok True.intro (Nat.le_of_ble_eq_true rfl) (fun G hG => ?_)
  refine rRun hG 99999 ?_
  refine And.intro rfl (?_)
  refine rLR hG rfl rfl rfl ?_
  exact ⟨rfl, rfl⟩
end WALKS
