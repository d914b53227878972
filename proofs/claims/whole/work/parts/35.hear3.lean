/-! Hearsay: rows, the widest day; Integer.bitCount -/
section WALKS
variable {l : Launch}
def hvl (V : Int → Int) (e : Int) : Int := if 0 ≤ e + 9 ∧ e + 9 < 19 then V e else 0
def haddV (A : Nat → Nat → Bool) (V : Int → Int) (d : Nat) (e : Int) (i : Nat) : Int := if (0 ≤ e + ((i : Int) - 2) + 9 ∧ e + ((i : Int) - 2) + 9 < 19) ∧ A d (e + ((i : Int) - 2) + 9).toNat = true then hvl V (e + ((i : Int) - 2)) else 0
def hsmV (A : Nat → Nat → Bool) (V : Int → Int) (d : Nat) (e : Int) : Nat → Int
  | 0 => 0
  | i + 1 => hsmV A V d e i + haddV A V d e i
def HV (A : Nat → Nat → Bool) : Nat → Int → Int
  | 0, _ => 1
  | j + 1, e => hsmV A (HV A j) (13 - j) e 6 % 1000003
theorem hlat_V {f : FN} {V : Int → Int} (h : rowIs f V) {e : Int} : hlat f e = hvl V e := by
  unfold hlat hvl
  by_cases q : 0 ≤ e + 9 ∧ e + 9 < 19
  · rw [if_pos q, if_pos q, h _ (by omega)]
    congr 1; omega
  · rw [if_neg q, if_neg q]
theorem hsm_V {A : Nat → Nat → Bool} {f : FN} {V : Int → Int} (h : rowIs f V) {d : Nat} {e : Int} : ∀ i, hsm A f d e i = hsmV A V d e i
  | 0 => rfl
  | i + 1 => by
    show hsm A f d e i + hadd A f d e i = hsmV A V d e i + haddV A V d e i
    rw [hsm_V h i]
    unfold hadd haddV
    rw [hlat_V h]
theorem HV_in {A : Nat → Nat → Bool} : ∀ (j : Nat) (e : Int), 0 ≤ HV A j e ∧ HV A j e ≤ 1000002
  | 0, e => by show (0 : Int) ≤ 1 ∧ (1 : Int) ≤ 1000002; decide
  | j + 1, e => by
    show 0 ≤ hsmV A (HV A j) (13 - j) e 6 % 1000003 ∧ hsmV A (HV A j) (13 - j) e 6 % 1000003 ≤ 1000002
    omega
theorem HV_lat {A : Nat → Nat → Bool} {f : FN} {j : Nat} (h : rowIs f (HV A j)) (e : Int) : 0 ≤ hlat f e ∧ hlat f e ≤ 1000002 := by
  rw [hlat_V h]
  unfold hvl
  split
  · exact HV_in j e
  · omega
set_option maxRecDepth 20000 in
set_option maxHeartbeats 1500000 in
theorem sp_X0_rows {uo : UD} {ux : XD} {ua ub : TD} {v0 v1 v2 : SD} {up uq : PD} {kH : Bool} {al hr lt : FN} {hd : Int} {A : Nat → Nat → Bool} (hA : alIs al A) : SpI l 4 yX0_rows cX0_rows 3 (some .int) [mr 23] (hC uo ux ua ub v0 v1 v2 up uq (kH, al, hr, lt, hd)) (fun z h => z = hsmV A (HV A 13) 0 0 6 % 1000003 ∧ ∃ (k9 : Bool) (h9 l9 : FN), h = hC uo ux ua ub v0 v1 v2 up uq (k9, al, h9, l9, hd)) := by
  cases kH
  · skip
    refine SpI.of (cd := kdX0_rows) (fT := mlook flX0) (kT := mlook klX0) (kJ := mlook jlX0) mfA_X0_rows ok_X0_rows fT_X0 kT_X0 jT_X0 jdk_ok True.intro (Nat.le_of_ble_eq_true rfl) (fun G hG => ?_)
    have J67 : ∀ (k9 : Bool) (h9 l9 : FN), rowIs l9 (HV A 13) → G 67 [some (mr 23), none, none] [] (hC uo ux ua ub v0 v1 v2 up uq (k9, al, h9, l9, hd)) := by
      intro k9 h9 l9 hrow
      refine rRun hG 99999 ?_
      refine rV hG (sp_X0_rowsFrom (uo := uo) (ux := ux) (ua := ua) (ub := ub) (v0 := v0) (v1 := v1) (v2 := v2) (up := up) (uq := uq) (kH := k9) (al := al) (hr := h9) (lt := l9) (hd := hd) (d := 0) (e := 0) (A := A) hA (by omega) (by omega) (HV_lat hrow)) rfl rfl lk_X0_51 mf_X0_rowsFrom (by decide) (Nat.le_of_ble_eq_true rfl) ⟨_, _, _, rfl, rfl, rfl⟩ ?_
      rintro _ _ ⟨rfl, rfl⟩
      refine rIR hG rfl rfl (True.intro) ?_
      rw [hsm_V hrow]
      exact ⟨rfl, k9, h9, l9, rfl⟩
    have J34 : ∀ (j : Nat) (k9 : Bool) (l9 : FN), j ≤ 12 → rowIs l9 (HV A j) → (∀ (h8 : FN), rowIs h8 (HV A (j + 1)) → G 57 [some (mr 23), some (mi ((13 - j : Nat) : Int)), none] [] (hC uo ux ua ub v0 v1 v2 up uq (k9, al, h8, l9, hd))) → ∀ (n i : Nat) (h8 : FN), (∀ a : Nat, a < i → h8 a = HV A (j + 1) ((a : Int) - 9)) → i ≤ 19 → 19 - i < n → G 34 [some (mr 23), some (mi ((13 - j : Nat) : Int)), some (mi ((i : Int) - 9))] [] (hC uo ux ua ub v0 v1 v2 up uq (k9, al, h8, l9, hd)) := by
      intro j k9 l9 hj hrow hcont n
      induction n with
      | zero => intro i h8 _ _ hm; exact absurd hm (Nat.not_lt_zero _)
      | succ n ih =>
        intro i h8 hr8 hi hm
        refine rRun hG 57 ?_
        refine And.intro (by first | omega | (dsimp only; omega)) (And.intro (fun c1 => ?_) (fun c1 => ?_))
        · try dsimp only at c1
          obtain rfl : i = 19 := by omega
          refine rLess hG ?_ (hcont h8 (fun a ha => hr8 a ha))
          exact ⟨rfl, rfl, True.intro⟩
        · try dsimp only at c1
          have hdd : (13 - (j : Int)) = ((13 - j : Nat) : Int) := by omega
          refine rV hG (sp_X0_rowsFrom (uo := uo) (ux := ux) (ua := ua) (ub := ub) (v0 := v0) (v1 := v1) (v2 := v2) (up := up) (uq := uq) (kH := k9) (al := al) (hr := h8) (lt := l9) (hd := hd) (d := 13 - j) (e := ((i : Int) - 9)) (A := A) hA (by omega) (by omega) (HV_lat hrow)) rfl rfl lk_X0_51 mf_X0_rowsFrom (by decide) (Nat.le_of_ble_eq_true rfl) ⟨_, _, _, rfl, rfl, rfl⟩ ?_
          rintro _ _ ⟨rfl, rfl⟩
          refine rVV hG (sp_X0_put (uo := uo) (ux := ux) (ua := ua) (ub := ub) (v0 := v0) (v1 := v1) (v2 := v2) (up := up) (uq := uq) (kH := k9) (al := al) (hr := h8) (lt := l9) (hd := hd) (e := ((i : Int) - 9)) (w := (hsm A l9 (13 - j) ((i : Int) - 9) 6 % 1000003)) (by omega)) rfl rfl lk_X0_54 mf_X0_put (by decide) (Nat.le_of_ble_eq_true rfl) ⟨_, _, _, rfl, rfl, rfl⟩ ?_
          rintro _ rfl
          rw [if_pos (by omega), show (((i : Int) - 9) + 9).toNat = i by omega]
          refine rRun hG 57 ?_
          refine rLess hG ?_ (ih (i + 1) (mup h8 i (hsm A l9 (13 - j) ((i : Int) - 9) 6 % 1000003)) ?_ (by omega) (by omega))
          · exact ⟨rfl, rfl, congrArg mi (by omega), True.intro⟩
          · intro a ha
            by_cases q : a = i
            · subst q
              rw [mup_s, hsm_V hrow]; rfl
            · rw [mup_n q]; exact hr8 a (by omega)
    have J27 : ∀ (n j : Nat) (k9 : Bool) (h9 l9 : FN), rowIs l9 (HV A j) → j ≤ 13 → 13 - j < n → G 27 [some (mr 23), some (mi ((13 - j : Nat) : Int)), none] [] (hC uo ux ua ub v0 v1 v2 up uq (k9, al, h9, l9, hd)) := by
      intro n
      induction n with
      | zero => intro j k9 h9 l9 _ _ hm; exact absurd hm (Nat.not_lt_zero _)
      | succ n ih =>
        intro j k9 h9 l9 hrow hj hm
        have J57 : j ≤ 12 → ∀ (h8 : FN), rowIs h8 (HV A (j + 1)) → G 57 [some (mr 23), some (mi ((13 - j : Nat) : Int)), none] [] (hC uo ux ua ub v0 v1 v2 up uq (k9, al, h8, l9, hd)) := by
          intro hj2 h8 hr8
          refine rRun hG 99999 ?_
          refine rVV hG (sp_X0_swapRows (uo := uo) (ux := ux) (ua := ua) (ub := ub) (v0 := v0) (v1 := v1) (v2 := v2) (up := up) (uq := uq) (kH := k9) (al := al) (hr := h8) (lt := l9) (hd := hd)) rfl rfl lk_X0_58 mf_X0_swapRows (by decide) (Nat.le_of_ble_eq_true rfl) ⟨_, _, _, rfl, rfl, rfl⟩ ?_
          rintro _ rfl
          refine rRun hG 99999 ?_
          refine rLess hG ?_ (ih (j + 1) (!k9) l9 h8 hr8 (by omega) (by omega))
          exact ⟨rfl, congrArg mi (by omega), True.intro⟩
        refine rRun hG 34 ?_
        refine And.intro (by first | omega | (dsimp only; omega)) (And.intro (fun c1 => ?_) (fun c1 => ?_))
        · try dsimp only at c1
          obtain rfl : j = 13 := by omega
          refine rLess hG ?_ (J67 k9 h9 l9 hrow)
          exact ⟨rfl, True.intro⟩
        · try dsimp only at c1
          refine rLess hG (L' := [some (mr 23), some (mi ((13 - j : Nat) : Int)), some (mi (((0 : Nat) : Int) - 9))]) ⟨rfl, rfl, rfl, True.intro⟩ (J34 j k9 l9 (by omega) hrow (J57 (by omega)) 20 0 h9 (fun a ha => absurd ha (Nat.not_lt_zero _)) (by omega) (by omega))
    have J2 : ∀ (n i : Nat) (l8 : FN), (∀ a : Nat, a < i → l8 a = 1) → i ≤ 19 → 19 - i < n → G 2 [some (mr 23), some (mi (i : Int)), none] [] (hC uo ux ua ub v0 v1 v2 up uq (false, al, hr, l8, hd)) := by
      intro n
      induction n with
      | zero => intro i l8 _ _ hm; exact absurd hm (Nat.not_lt_zero _)
      | succ n ih =>
        intro i l8 hr8 hi hm
        refine rRun hG 27 ?_
        refine And.intro rfl (And.intro (by decide) (And.intro (by first | omega | (dsimp only; omega)) (And.intro (fun c1 => ?_) (fun c1 => ?_))))
        · try dsimp only at c1
          refine rRun hG 27 ?_
          obtain rfl : i = 19 := by omega
          exact rLess hG (L' := [some (mr 23), some (mi ((13 - 0 : Nat) : Int)), none]) ⟨rfl, rfl, True.intro⟩ (J27 _ 0 false hr l8 (fun a ha => hr8 a ha) (by omega) (Nat.lt_succ_self _))
        · try dsimp only at c1
          refine And.intro rfl (And.intro (by first | omega | (dsimp only; omega)) (?_))
          refine ih (i + 1) (mup l8 i 1) ?_ (by omega) (by omega)
          intro a ha
          by_cases q : a = i
          · subst q; exact mup_s
          · rw [mup_n q]; exact hr8 a (by omega)
    refine rRun hG 2 ?_
    exact J2 20 0 lt (fun a ha => absurd ha (Nat.not_lt_zero _)) (by omega) (by omega)
  · skip
    refine SpI.of (cd := kdX0_rows) (fT := mlook flX0) (kT := mlook klX0) (kJ := mlook jlX0) mfA_X0_rows ok_X0_rows fT_X0 kT_X0 jT_X0 jdk_ok True.intro (Nat.le_of_ble_eq_true rfl) (fun G hG => ?_)
    have J67 : ∀ (k9 : Bool) (h9 l9 : FN), rowIs l9 (HV A 13) → G 67 [some (mr 23), none, none] [] (hC uo ux ua ub v0 v1 v2 up uq (k9, al, h9, l9, hd)) := by
      intro k9 h9 l9 hrow
      refine rRun hG 99999 ?_
      refine rV hG (sp_X0_rowsFrom (uo := uo) (ux := ux) (ua := ua) (ub := ub) (v0 := v0) (v1 := v1) (v2 := v2) (up := up) (uq := uq) (kH := k9) (al := al) (hr := h9) (lt := l9) (hd := hd) (d := 0) (e := 0) (A := A) hA (by omega) (by omega) (HV_lat hrow)) rfl rfl lk_X0_51 mf_X0_rowsFrom (by decide) (Nat.le_of_ble_eq_true rfl) ⟨_, _, _, rfl, rfl, rfl⟩ ?_
      rintro _ _ ⟨rfl, rfl⟩
      refine rIR hG rfl rfl (True.intro) ?_
      rw [hsm_V hrow]
      exact ⟨rfl, k9, h9, l9, rfl⟩
    have J34 : ∀ (j : Nat) (k9 : Bool) (l9 : FN), j ≤ 12 → rowIs l9 (HV A j) → (∀ (h8 : FN), rowIs h8 (HV A (j + 1)) → G 57 [some (mr 23), some (mi ((13 - j : Nat) : Int)), none] [] (hC uo ux ua ub v0 v1 v2 up uq (k9, al, h8, l9, hd))) → ∀ (n i : Nat) (h8 : FN), (∀ a : Nat, a < i → h8 a = HV A (j + 1) ((a : Int) - 9)) → i ≤ 19 → 19 - i < n → G 34 [some (mr 23), some (mi ((13 - j : Nat) : Int)), some (mi ((i : Int) - 9))] [] (hC uo ux ua ub v0 v1 v2 up uq (k9, al, h8, l9, hd)) := by
      intro j k9 l9 hj hrow hcont n
      induction n with
      | zero => intro i h8 _ _ hm; exact absurd hm (Nat.not_lt_zero _)
      | succ n ih =>
        intro i h8 hr8 hi hm
        refine rRun hG 57 ?_
        refine And.intro (by first | omega | (dsimp only; omega)) (And.intro (fun c1 => ?_) (fun c1 => ?_))
        · try dsimp only at c1
          obtain rfl : i = 19 := by omega
          refine rLess hG ?_ (hcont h8 (fun a ha => hr8 a ha))
          exact ⟨rfl, rfl, True.intro⟩
        · try dsimp only at c1
          have hdd : (13 - (j : Int)) = ((13 - j : Nat) : Int) := by omega
          refine rV hG (sp_X0_rowsFrom (uo := uo) (ux := ux) (ua := ua) (ub := ub) (v0 := v0) (v1 := v1) (v2 := v2) (up := up) (uq := uq) (kH := k9) (al := al) (hr := h8) (lt := l9) (hd := hd) (d := 13 - j) (e := ((i : Int) - 9)) (A := A) hA (by omega) (by omega) (HV_lat hrow)) rfl rfl lk_X0_51 mf_X0_rowsFrom (by decide) (Nat.le_of_ble_eq_true rfl) ⟨_, _, _, rfl, rfl, rfl⟩ ?_
          rintro _ _ ⟨rfl, rfl⟩
          refine rVV hG (sp_X0_put (uo := uo) (ux := ux) (ua := ua) (ub := ub) (v0 := v0) (v1 := v1) (v2 := v2) (up := up) (uq := uq) (kH := k9) (al := al) (hr := h8) (lt := l9) (hd := hd) (e := ((i : Int) - 9)) (w := (hsm A l9 (13 - j) ((i : Int) - 9) 6 % 1000003)) (by omega)) rfl rfl lk_X0_54 mf_X0_put (by decide) (Nat.le_of_ble_eq_true rfl) ⟨_, _, _, rfl, rfl, rfl⟩ ?_
          rintro _ rfl
          rw [if_pos (by omega), show (((i : Int) - 9) + 9).toNat = i by omega]
          refine rRun hG 57 ?_
          refine rLess hG ?_ (ih (i + 1) (mup h8 i (hsm A l9 (13 - j) ((i : Int) - 9) 6 % 1000003)) ?_ (by omega) (by omega))
          · exact ⟨rfl, rfl, congrArg mi (by omega), True.intro⟩
          · intro a ha
            by_cases q : a = i
            · subst q
              rw [mup_s, hsm_V hrow]; rfl
            · rw [mup_n q]; exact hr8 a (by omega)
    have J27 : ∀ (n j : Nat) (k9 : Bool) (h9 l9 : FN), rowIs l9 (HV A j) → j ≤ 13 → 13 - j < n → G 27 [some (mr 23), some (mi ((13 - j : Nat) : Int)), none] [] (hC uo ux ua ub v0 v1 v2 up uq (k9, al, h9, l9, hd)) := by
      intro n
      induction n with
      | zero => intro j k9 h9 l9 _ _ hm; exact absurd hm (Nat.not_lt_zero _)
      | succ n ih =>
        intro j k9 h9 l9 hrow hj hm
        have J57 : j ≤ 12 → ∀ (h8 : FN), rowIs h8 (HV A (j + 1)) → G 57 [some (mr 23), some (mi ((13 - j : Nat) : Int)), none] [] (hC uo ux ua ub v0 v1 v2 up uq (k9, al, h8, l9, hd)) := by
          intro hj2 h8 hr8
          refine rRun hG 99999 ?_
          refine rVV hG (sp_X0_swapRows (uo := uo) (ux := ux) (ua := ua) (ub := ub) (v0 := v0) (v1 := v1) (v2 := v2) (up := up) (uq := uq) (kH := k9) (al := al) (hr := h8) (lt := l9) (hd := hd)) rfl rfl lk_X0_58 mf_X0_swapRows (by decide) (Nat.le_of_ble_eq_true rfl) ⟨_, _, _, rfl, rfl, rfl⟩ ?_
          rintro _ rfl
          refine rRun hG 99999 ?_
          refine rLess hG ?_ (ih (j + 1) (!k9) l9 h8 hr8 (by omega) (by omega))
          exact ⟨rfl, congrArg mi (by omega), True.intro⟩
        refine rRun hG 34 ?_
        refine And.intro (by first | omega | (dsimp only; omega)) (And.intro (fun c1 => ?_) (fun c1 => ?_))
        · try dsimp only at c1
          obtain rfl : j = 13 := by omega
          refine rLess hG ?_ (J67 k9 h9 l9 hrow)
          exact ⟨rfl, True.intro⟩
        · try dsimp only at c1
          refine rLess hG (L' := [some (mr 23), some (mi ((13 - j : Nat) : Int)), some (mi (((0 : Nat) : Int) - 9))]) ⟨rfl, rfl, rfl, True.intro⟩ (J34 j k9 l9 (by omega) hrow (J57 (by omega)) 20 0 h9 (fun a ha => absurd ha (Nat.not_lt_zero _)) (by omega) (by omega))
    have J2 : ∀ (n i : Nat) (l8 : FN), (∀ a : Nat, a < i → l8 a = 1) → i ≤ 19 → 19 - i < n → G 2 [some (mr 23), some (mi (i : Int)), none] [] (hC uo ux ua ub v0 v1 v2 up uq (true, al, hr, l8, hd)) := by
      intro n
      induction n with
      | zero => intro i l8 _ _ hm; exact absurd hm (Nat.not_lt_zero _)
      | succ n ih =>
        intro i l8 hr8 hi hm
        refine rRun hG 27 ?_
        refine And.intro rfl (And.intro (by decide) (And.intro (by first | omega | (dsimp only; omega)) (And.intro (fun c1 => ?_) (fun c1 => ?_))))
        · try dsimp only at c1
          refine rRun hG 27 ?_
          obtain rfl : i = 19 := by omega
          exact rLess hG (L' := [some (mr 23), some (mi ((13 - 0 : Nat) : Int)), none]) ⟨rfl, rfl, True.intro⟩ (J27 _ 0 true hr l8 (fun a ha => hr8 a ha) (by omega) (Nat.lt_succ_self _))
        · try dsimp only at c1
          refine And.intro rfl (And.intro (by first | omega | (dsimp only; omega)) (?_))
          refine ih (i + 1) (mup l8 i 1) ?_ (by omega) (by omega)
          intro a ha
          by_cases q : a = i
          · subst q; exact mup_s
          · rw [mup_n q]; exact hr8 a (by omega)
    refine rRun hG 2 ?_
    exact J2 20 0 lt (fun a ha => absurd ha (Nat.not_lt_zero _)) (by omega) (by omega)
def nb1 (s : Nat) : Nat := s - (s / 2 ^ 1 &&& 1431655765)
def nb2 (x : Nat) : Nat := (x &&& 858993459) + (x / 2 ^ 2 &&& 858993459)
def nb3 (x : Nat) : Nat := (x + x / 2 ^ 4) &&& 252645135
def nb4 (x : Nat) : Nat := x + x / 2 ^ 8
def nb5 (x : Nat) : Nat := x + x / 2 ^ 16
def nbc (s : Nat) : Nat := nb5 (nb4 (nb3 (nb2 (nb1 s)))) &&& 63
theorem nb1_le {s : Nat} : nb1 s ≤ s := Nat.sub_le _ _
theorem nb2_le {x : Nat} : nb2 x ≤ 2 * x := by
  have h1 := Nat.and_le_left (n := x) (m := 858993459)
  have h2 := Nat.and_le_left (n := x / 2 ^ 2) (m := 858993459)
  unfold nb2; omega
theorem nb3_le {x : Nat} : nb3 x ≤ 2 * x := by
  have h1 := Nat.and_le_left (n := x + x / 2 ^ 4) (m := 252645135)
  unfold nb3; omega
theorem nb4_le {x : Nat} : nb4 x ≤ 2 * x := by unfold nb4; omega
theorem nb5_le {x : Nat} : nb5 x ≤ 2 * x := by unfold nb5; omega
theorem nb1_c {s : Nat} : (s : Int) - zand ((s : Int) / (2 : Int) ^ (1 : Int).toNat) 1431655765 = ((nb1 s : Nat) : Int) := by
  have h1 := Nat.and_le_left (n := s / 2 ^ 1) (m := 1431655765)
  show (s : Int) - (((s / 2 ^ 1 &&& 1431655765 : Nat)) : Int) = ((nb1 s : Nat) : Int)
  unfold nb1
  omega
set_option maxRecDepth 20000 in
set_option maxHeartbeats 1000000 in
theorem sp_J6_bitCount_0f7a4 {hh : mH} {s : Nat} (h1 : s < 524288) : SpI l 1 yJ6_bitCount_0f7a4 cJ6_bitCount_0f7a4 1 (some .int) [mi (s : Int)] (hh) (fun z h => z = ((nbc s : Nat) : Int) ∧ h = hh) := by
  have b1 := nb1_le (s := s)
  have b2 := nb2_le (x := nb1 s)
  have b3 := nb3_le (x := nb2 (nb1 s))
  have b4 := nb4_le (x := nb3 (nb2 (nb1 s)))
  have b5 := nb5_le (x := nb4 (nb3 (nb2 (nb1 s))))
  refine SpI.of (cd := kdJ6_bitCount_0f7a4) (fT := mlook flJ6) (kT := mlook klJ6) (kJ := mlook jlJ6) mfA_J6_bitCount_0f7a4 ok_J6_bitCount_0f7a4 fT_J6 kT_J6 jT_J6 jdk_ok True.intro (Nat.le_of_ble_eq_true rfl) (fun G hG => ?_)
  refine rRun hG 10 ?_
  refine And.intro (by exact ⟨⟨nn_n, by omega⟩, by decide⟩) (And.intro (by first | exact ⟨nn_n, by decide⟩ | exact ⟨nn_d, by decide⟩ | exact ⟨by omega, by decide⟩) (?_))
  refine rLess hG (L' := [some (mi (((nb1 s) : Nat) : Int))]) ⟨congrArg mi ?_, True.intro⟩ ?_
  · exact nb1_c.symm
  refine rRun hG 24 ?_
  refine And.intro (by first | exact ⟨nn_n, by decide⟩ | exact ⟨nn_d, by decide⟩ | exact ⟨by omega, by decide⟩) (And.intro (by exact ⟨⟨nn_n, by omega⟩, by decide⟩) (And.intro (by first | exact ⟨nn_n, by decide⟩ | exact ⟨nn_d, by decide⟩ | exact ⟨by omega, by decide⟩) (?_)))
  refine rLess hG (L' := [some (mi (((nb2 (nb1 s)) : Nat) : Int))]) ⟨congrArg mi ?_, True.intro⟩ ?_
  · rfl
  refine rRun hG 34 ?_
  refine And.intro (by exact ⟨⟨nn_n, by omega⟩, by decide⟩) (And.intro (by exact ⟨Int.add_nonneg nn_n nn_d, by decide⟩) (?_))
  refine rLess hG (L' := [some (mi (((nb3 (nb2 (nb1 s))) : Nat) : Int))]) ⟨congrArg mi ?_, True.intro⟩ ?_
  · rfl
  refine rRun hG 41 ?_
  refine And.intro (by exact ⟨⟨nn_n, by omega⟩, by decide⟩) (?_)
  refine rLess hG (L' := [some (mi (((nb4 (nb3 (nb2 (nb1 s)))) : Nat) : Int))]) ⟨congrArg mi ?_, True.intro⟩ ?_
  · rfl
  refine rRun hG 48 ?_
  refine And.intro (by exact ⟨⟨nn_n, by omega⟩, by decide⟩) (?_)
  refine rLess hG (L' := [some (mi (((nb5 (nb4 (nb3 (nb2 (nb1 s))))) : Nat) : Int))]) ⟨congrArg mi ?_, True.intro⟩ ?_
  · rfl
  refine rRun hG 99999 ?_
  refine And.intro (by first | exact ⟨nn_n, by decide⟩ | exact ⟨nn_d, by decide⟩ | exact ⟨by omega, by decide⟩) (?_)
  refine rIR hG rfl rfl (True.intro) ?_
  exact ⟨rfl, rfl⟩
def cldP (A : Nat → Nat → Bool) (d i : Nat) : Bool := fwA A (d + 1) i && bwA A (13 - d) i
def wdF (A : Nat → Nat → Bool) : Nat → Int × Int
  | 0 => (0, -9)
  | d + 1 => if (wdF A d).1 < ((nbc (bs (cldP A d) 19) : Nat) : Int) then (((nbc (bs (cldP A d) 19) : Nat) : Int), (d : Int)) else wdF A d
theorem wdF_s {A : Nat → Nat → Bool} {d : Nat} : wdF A (d + 1) = if (wdF A d).1 < ((nbc (bs (cldP A d) 19) : Nat) : Int) then (((nbc (bs (cldP A d) 19) : Nat) : Int), (d : Int)) else wdF A d := rfl
theorem nbc_in {s : Nat} : nbc s ≤ 63 := Nat.and_le_right
theorem wdF_in {A : Nat → Nat → Bool} : ∀ d, 0 ≤ (wdF A d).1 ∧ (wdF A d).1 ≤ 63
  | 0 => by show (0 : Int) ≤ 0 ∧ (0 : Int) ≤ 63; decide
  | d + 1 => by
    have ih := wdF_in (A := A) d
    have h := nbc_in (s := bs (cldP A d) 19)
    rw [wdF_s]
    split
    · exact ⟨by show (0 : Int) ≤ _; omega, by show _ ≤ (63 : Int); omega⟩
    · exact ih
set_option maxRecDepth 20000 in
set_option maxHeartbeats 1000000 in
theorem sp_X0_widestDay {uo : UD} {ux : XD} {ua ub : TD} {v0 v1 v2 : SD} {up uq : PD} {kH : Bool} {al hr lt : FN} {hd : Int} {A : Nat → Nat → Bool} (hA : alIs al A) : SpI l 3 yX0_widestDay cX0_widestDay 5 (some .int) [mr 23] (hC uo ux ua ub v0 v1 v2 up uq (kH, al, hr, lt, hd)) (fun z h => z = (wdF A 14).2 ∧ h = hC uo ux ua ub v0 v1 v2 up uq (kH, al, hr, lt, hd)) := by
  refine SpI.of (cd := kdX0_widestDay) (fT := mlook flX0) (kT := mlook klX0) (kJ := mlook jlX0) mfA_X0_widestDay ok_X0_widestDay fT_X0 kT_X0 jT_X0 jdk_ok True.intro (Nat.le_of_ble_eq_true rfl) (fun G hG => ?_)
  have J7 : ∀ (n d : Nat), d ≤ 14 → 14 - d < n → G 7 [some (mr 23), some (mi (wdF A d).1), some (mi (wdF A d).2), some (mi (d : Int)), none] [] (hC uo ux ua ub v0 v1 v2 up uq (kH, al, hr, lt, hd)) := by
    intro n
    induction n with
    | zero => intro d _ hm; exact absurd hm (Nat.not_lt_zero _)
    | succ n ih =>
      intro d hd2 hm
      have hwi := wdF_in (A := A) d
      have hni := nbc_in (s := bs (cldP A d) 19)
      refine rRun hG 99999 ?_
      refine And.intro (by first | omega | (dsimp only; omega)) (And.intro (fun c1 => ?_) (fun c1 => ?_))
      · try dsimp only at c1
        refine rRun hG 99999 ?_
        refine rIR hG rfl rfl (True.intro) ?_
        obtain rfl : d = 14 := by omega
        exact ⟨rfl, rfl⟩
      · try dsimp only at c1
        refine rV hG (sp_X0_errorsBehind (uo := uo) (ux := ux) (ua := ua) (ub := ub) (v0 := v0) (v1 := v1) (v2 := v2) (up := up) (uq := uq) (kH := kH) (al := al) (hr := hr) (lt := lt) (hd := hd) (d := d) (A := A) hA (by omega)) rfl rfl lk_X0_43 mf_X0_errorsBehind (by decide) (Nat.le_of_ble_eq_true rfl) ⟨_, _, _, rfl, rfl, rfl⟩ ?_
        rintro w _ ⟨hw, rfl⟩
        have hw9 : w = ((bs (cldP A d) 19 : Nat) : Int) := hw
        clear hw
        subst hw9
        refine rS hG (sp_J6_bitCount_0f7a4 (s := bs (cldP A d) 19) (by have := bs_lt (P := cldP A d) 19; omega)) rfl rfl lk_X0_46 mf_J6_bitCount_0f7a4 (by decide) (Nat.le_of_ble_eq_true rfl) ?_
        rintro _ _ ⟨rfl, rfl⟩
        refine rRun hG 99999 ?_
        refine And.intro (by first | omega | (dsimp only; omega)) (And.intro (fun cc => ?_) (fun cc => ?_))
        · try dsimp only at cc
          refine rRun hG 99999 ?_
          have e9 := ih (d + 1) (by omega) (by omega)
          rw [wdF_s] at e9
          first | rw [if_pos (Int.not_le.mp cc)] at e9 | rw [if_neg (Int.not_lt.mpr cc)] at e9
          refine rLess hG ?_ e9
          exact ⟨rfl, rfl, rfl, rfl, True.intro⟩
        · try dsimp only at cc
          have e9 := ih (d + 1) (by omega) (by omega)
          rw [wdF_s] at e9
          first | rw [if_pos (Int.not_le.mp cc)] at e9 | rw [if_neg (Int.not_lt.mpr cc)] at e9
          refine rLess hG ?_ e9
          exact ⟨rfl, rfl, rfl, rfl, True.intro⟩
  refine rRun hG 7 ?_
  exact J7 15 0 (by omega) (by omega)
end WALKS
