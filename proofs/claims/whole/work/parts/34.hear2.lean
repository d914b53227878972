/-! Hearsay: what is heard, what it can have been, how many ways -/
section WALKS
variable {l : Launch}
def alIs (al : FN) (A : Nat → Nat → Bool) : Prop := ∀ d, d < 14 → al d = st19 (A d)
theorem alIs_in {al : FN} {A : Nat → Nat → Bool} (h : alIs al A) {d : Nat} (hd : d < 14) : 0 ≤ al d ∧ al d < 524288 := by
  rw [h d hd]; exact st19_in
def albF (al : FN) (d : Int) : Int := if 0 ≤ d ∧ d < 14 then al d.toNat else 0
def hlat (f : FN) (e : Int) : Int := if 0 ≤ e + 9 ∧ e + 9 < 19 then f (e + 9).toNat else 0
def drpA (al : FN) : Nat → FN
  | 0 => al
  | i + 1 => mup (drpA al i) i 524287
theorem drpA_in {al : FN} : ∀ {i j : Nat}, j < i → drpA al i j = 524287
  | i + 1, j, h => by
    show mup (drpA al i) i 524287 j = 524287
    by_cases q : j = i
    · subst q; exact mup_s
    · rw [mup_n q]; exact drpA_in (by omega)
theorem st_all : st19 (fun _ => true) = 524287 := by decide +kernel
theorem st_512 : st19 (fun i => i == 9) = 512 := by decide +kernel
set_option maxRecDepth 20000 in
set_option maxHeartbeats 1000000 in
theorem sp_X0_allowedBehind {uo : UD} {ux : XD} {ua ub : TD} {v0 v1 v2 : SD} {up uq : PD} {kH : Bool} {al hr lt : FN} {hd : Int} {d : Int} (h1 : inI d) : SpI l 1 yX0_allowedBehind cX0_allowedBehind 2 (some .int) [mr 23, mi d] (hC uo ux ua ub v0 v1 v2 up uq (kH, al, hr, lt, hd)) (fun z h => z = albF al d ∧ h = hC uo ux ua ub v0 v1 v2 up uq (kH, al, hr, lt, hd)) := by
  refine SpI.of (cd := kdX0_allowedBehind) (fT := mlook flX0) (kT := mlook klX0) (kJ := mlook jlX0) mfA_X0_allowedBehind ok_X0_allowedBehind fT_X0 kT_X0 jT_X0 jdk_ok True.intro (Nat.le_of_ble_eq_true rfl) (fun G hG => ?_)
  refine rRun hG 99999 ?_
  refine And.intro (by first | omega | (dsimp only; omega)) (And.intro (fun c1 => ?_) (fun c1 => ?_))
  · try dsimp only at c1
    refine rRun hG 99999 ?_
    refine rIR hG rfl rfl (True.intro) ?_
    refine ⟨?_, rfl⟩
    unfold albF
    first | (rw [if_pos (by omega)]; done) | (rw [if_neg (by omega)]; done) | (rw [if_pos (by omega)]; rfl)
  · try dsimp only at c1
    refine And.intro rfl (And.intro (by decide) (And.intro (by first | omega | (dsimp only; omega)) (And.intro (fun c2 => ?_) (fun c2 => ?_))))
    · try dsimp only at c2
      refine rRun hG 99999 ?_
      refine rIR hG rfl rfl (True.intro) ?_
      refine ⟨?_, rfl⟩
      unfold albF
      first | (rw [if_pos (by omega)]; done) | (rw [if_neg (by omega)]; done) | (rw [if_pos (by omega)]; rfl)
    · try dsimp only at c2
      refine And.intro rfl (And.intro (by first | omega | (dsimp only; omega)) (?_))
      refine rIR hG rfl rfl (True.intro) ?_
      refine ⟨?_, rfl⟩
      unfold albF
      first | (rw [if_pos (by omega)]; done) | (rw [if_neg (by omega)]; done) | (rw [if_pos (by omega)]; rfl)
set_option maxRecDepth 20000 in
set_option maxHeartbeats 1000000 in
theorem sp_X0_drop {uo : UD} {ux : XD} {ua ub : TD} {v0 v1 v2 : SD} {up uq : PD} {kH : Bool} {al hr lt : FN} {hd : Int}   : SpV l 1 yX0_drop cX0_drop 2 none [mr 23] (hC uo ux ua ub v0 v1 v2 up uq (kH, al, hr, lt, hd)) (fun h => h = hC uo ux ua ub v0 v1 v2 up uq (kH, drpA al 14, hr, lt, 0)) := by
  refine SpV.of (cd := kdX0_drop) (fT := mlook flX0) (kT := mlook klX0) (kJ := mlook jlX0) mfA_X0_drop ok_X0_drop fT_X0 kT_X0 jT_X0 jdk_ok True.intro (Nat.le_of_ble_eq_true rfl) (fun G hG => ?_)
  refine rRun hG 7 ?_
  refine And.intro ⟨rfl, by exact Nat.le_of_ble_eq_true rfl, by first | exact True.intro | exact Or.inl rfl | exact Or.inr rfl⟩ (?_)
  have J7 : ∀ (n : Nat) (i : Nat), i ≤ 14 → 14 - i < n → G 7 [some (mr 23), some (mi (i : Int))] [] (hC uo ux ua ub v0 v1 v2 up uq (kH, drpA al i, hr, lt, 0)) := by
    intro n
    induction n with
    | zero => intro i _ hm; exact absurd hm (Nat.not_lt_zero _)
    | succ n ih =>
      intro i hinv hm
      refine rRun hG 99999 ?_
      refine And.intro rfl (And.intro (by decide) (And.intro (by first | omega | (dsimp only; omega)) (And.intro (fun c1 => ?_) (fun c1 => ?_))))
      · try dsimp only at c1
        refine rVR hG rfl rfl rfl ?_
        obtain rfl : i = 14 := by omega
        rfl
      · try dsimp only at c1
        refine And.intro rfl (And.intro (by first | omega | (dsimp only; omega)) (?_))
        exact ih (i + 1) (by omega) (by omega)
  exact J7 _ 0 (by omega) (Nat.lt_succ_self _)
set_option maxRecDepth 20000 in
set_option maxHeartbeats 1000000 in
theorem sp_X0_add {uo : UD} {ux : XD} {ua ub : TD} {v0 v1 v2 : SD} {up uq : PD} {kH : Bool} {al hr lt : FN} {hd : Int} {d : Nat} {e w : Int} (h1 : d < 14) (h2 : inI hd) (h3 : -100 ≤ e ∧ e ≤ 100) (h4 : 0 ≤ w ∧ w ≤ 100) (h5 : 0 ≤ al d) : SpI l 2 yX0_add cX0_add 4 (some .boolean) [mr 23, mi (d : Int), mi e, mi w] (hC uo ux ua ub v0 v1 v2 up uq (kH, al, hr, lt, hd)) (fun z h => (z = 0 ∧ 6 ≤ hd ∧ h = hC uo ux ua ub v0 v1 v2 up uq (kH, al, hr, lt, hd)) ∨ (z = 1 ∧ hd < 6 ∧ h = hC uo ux ua ub v0 v1 v2 up uq (kH, mup al d (zand (al d) (st19 (wthP (e - w) (e + w)))), hr, lt, hd + 1))) := by
  refine SpI.of (cd := kdX0_add) (fT := mlook flX0) (kT := mlook klX0) (kJ := mlook jlX0) mfA_X0_add ok_X0_add fT_X0 kT_X0 jT_X0 jdk_ok True.intro (Nat.le_of_ble_eq_true rfl) (fun G hG => ?_)
  refine rRun hG 99999 ?_
  refine And.intro rfl (And.intro (by first | omega | (dsimp only; omega)) (And.intro (fun c1 => ?_) (fun c1 => ?_)))
  · try dsimp only at c1
    refine rRun hG 99999 ?_
    refine rIR hG rfl rfl (by first | exact Or.inl rfl | exact Or.inr rfl | (show _ ∨ _; omega)) ?_
    exact Or.inl ⟨rfl, by omega, rfl⟩
  · try dsimp only at c1
    refine And.intro (by first | omega | (dsimp only; omega)) (And.intro (fun c2 => ?_) (fun c2 => ?_))
    · try dsimp only at c2
      refine rRun hG 99999 ?_
      refine rIR hG rfl rfl (by first | exact Or.inl rfl | exact Or.inr rfl | (show _ ∨ _; omega)) ?_
      exact Or.inl ⟨rfl, by omega, rfl⟩
    · try dsimp only at c2
      refine And.intro rfl (And.intro (by decide) (And.intro (by first | omega | (dsimp only; omega)) (And.intro (fun c3 => ?_) (fun c3 => ?_))))
      · try dsimp only at c3
        refine rRun hG 99999 ?_
        refine And.intro rfl (And.intro (by first | omega | (dsimp only; omega)) (?_))
        refine rS hG (sp_X0_within (lo := e - w) (hi := e + w) (by omega) (by omega)) rfl rfl lk_X0_29 mf_X0_within (by decide) (Nat.le_of_ble_eq_true rfl) ?_
        rintro _ _ ⟨rfl, rfl⟩
        refine rRun hG 99999 ?_
        refine And.intro (by exact ⟨h5, st19_in.1⟩) (And.intro (by first | omega | (dsimp only; omega)) (And.intro rfl (And.intro ⟨rfl, by exact Nat.le_of_ble_eq_true rfl, by first | exact True.intro | exact Or.inl rfl | exact Or.inr rfl⟩ (?_))))
        refine rIR hG rfl rfl (by first | exact Or.inl rfl | exact Or.inr rfl | (show _ ∨ _; omega)) ?_
        exact Or.inr ⟨rfl, by omega, rfl⟩
      · try dsimp only at c3
        refine rIR hG rfl rfl (by first | exact Or.inl rfl | exact Or.inr rfl | (show _ ∨ _; omega)) ?_
        exact Or.inl ⟨rfl, by omega, rfl⟩
set_option maxRecDepth 20000 in
set_option maxHeartbeats 1000000 in
theorem sp_X0_laterAt {uo : UD} {ux : XD} {ua ub : TD} {v0 v1 v2 : SD} {up uq : PD} {kH : Bool} {al hr lt : FN} {hd : Int} {e : Int} (h1 : -1000 ≤ e ∧ e ≤ 1000) : SpI l 1 yX0_laterAt cX0_laterAt 3 (some .int) [mr 23, mi e] (hC uo ux ua ub v0 v1 v2 up uq (kH, al, hr, lt, hd)) (fun z h => z = hlat lt e ∧ h = hC uo ux ua ub v0 v1 v2 up uq (kH, al, hr, lt, hd)) := by
  cases kH
  · skip
    refine SpI.of (cd := kdX0_laterAt) (fT := mlook flX0) (kT := mlook klX0) (kJ := mlook jlX0) mfA_X0_laterAt ok_X0_laterAt fT_X0 kT_X0 jT_X0 jdk_ok True.intro (Nat.le_of_ble_eq_true rfl) (fun G hG => ?_)
    refine rRun hG 99999 ?_
    refine And.intro (by first | omega | (dsimp only; omega)) (And.intro (fun c1 => ?_) (fun c1 => ?_))
    · try dsimp only at c1
      refine rRun hG 99999 ?_
      refine rIR hG rfl rfl (True.intro) ?_
      refine ⟨?_, rfl⟩
      unfold hlat
      first | (rw [if_pos (by omega)]; done) | (rw [if_pos (by omega)]; rfl) | (rw [if_neg (by omega)])
    · try dsimp only at c1
      refine And.intro rfl (And.intro (by decide) (And.intro (by first | omega | (dsimp only; omega)) (And.intro (fun c2 => ?_) (fun c2 => ?_))))
      · try dsimp only at c2
        refine rRun hG 99999 ?_
        refine rIR hG rfl rfl (True.intro) ?_
        refine ⟨?_, rfl⟩
        unfold hlat
        first | (rw [if_pos (by omega)]; done) | (rw [if_pos (by omega)]; rfl) | (rw [if_neg (by omega)])
      · try dsimp only at c2
        refine And.intro rfl (And.intro (by first | omega | (dsimp only; omega)) (?_))
        refine rIR hG rfl rfl (True.intro) ?_
        refine ⟨?_, rfl⟩
        unfold hlat
        first | (rw [if_pos (by omega)]; done) | (rw [if_pos (by omega)]; rfl) | (rw [if_neg (by omega)])
  · skip
    refine SpI.of (cd := kdX0_laterAt) (fT := mlook flX0) (kT := mlook klX0) (kJ := mlook jlX0) mfA_X0_laterAt ok_X0_laterAt fT_X0 kT_X0 jT_X0 jdk_ok True.intro (Nat.le_of_ble_eq_true rfl) (fun G hG => ?_)
    refine rRun hG 99999 ?_
    refine And.intro (by first | omega | (dsimp only; omega)) (And.intro (fun c1 => ?_) (fun c1 => ?_))
    · try dsimp only at c1
      refine rRun hG 99999 ?_
      refine rIR hG rfl rfl (True.intro) ?_
      refine ⟨?_, rfl⟩
      unfold hlat
      first | (rw [if_pos (by omega)]; done) | (rw [if_pos (by omega)]; rfl) | (rw [if_neg (by omega)])
    · try dsimp only at c1
      refine And.intro rfl (And.intro (by decide) (And.intro (by first | omega | (dsimp only; omega)) (And.intro (fun c2 => ?_) (fun c2 => ?_))))
      · try dsimp only at c2
        refine rRun hG 99999 ?_
        refine rIR hG rfl rfl (True.intro) ?_
        refine ⟨?_, rfl⟩
        unfold hlat
        first | (rw [if_pos (by omega)]; done) | (rw [if_pos (by omega)]; rfl) | (rw [if_neg (by omega)])
      · try dsimp only at c2
        refine And.intro rfl (And.intro (by first | omega | (dsimp only; omega)) (?_))
        refine rIR hG rfl rfl (True.intro) ?_
        refine ⟨?_, rfl⟩
        unfold hlat
        first | (rw [if_pos (by omega)]; done) | (rw [if_pos (by omega)]; rfl) | (rw [if_neg (by omega)])
set_option maxRecDepth 20000 in
set_option maxHeartbeats 1000000 in
theorem sp_X0_put {uo : UD} {ux : XD} {ua ub : TD} {v0 v1 v2 : SD} {up uq : PD} {kH : Bool} {al hr lt : FN} {hd : Int} {e w : Int} (h1 : -1000 ≤ e ∧ e ≤ 1000) : SpV l 1 yX0_put cX0_put 4 none [mr 23, mi e, mi w] (hC uo ux ua ub v0 v1 v2 up uq (kH, al, hr, lt, hd)) (fun h => h = hC uo ux ua ub v0 v1 v2 up uq (kH, al, if 0 ≤ e + 9 ∧ e + 9 < 19 then mup hr (e + 9).toNat w else hr, lt, hd)) := by
  cases kH
  · skip
    refine SpV.of (cd := kdX0_put) (fT := mlook flX0) (kT := mlook klX0) (kJ := mlook jlX0) mfA_X0_put ok_X0_put fT_X0 kT_X0 jT_X0 jdk_ok True.intro (Nat.le_of_ble_eq_true rfl) (fun G hG => ?_)
    refine rRun hG 99999 ?_
    refine And.intro (by first | omega | (dsimp only; omega)) (And.intro (fun c1 => ?_) (fun c1 => ?_))
    · try dsimp only at c1
      refine rVR hG rfl rfl rfl ?_
      first | (rw [if_pos (by omega)]; rfl) | (rw [if_neg (by omega)])
    · try dsimp only at c1
      refine And.intro rfl (And.intro (by decide) (And.intro (by first | omega | (dsimp only; omega)) (And.intro (fun c2 => ?_) (fun c2 => ?_))))
      · try dsimp only at c2
        refine rVR hG rfl rfl rfl ?_
        first | (rw [if_pos (by omega)]; rfl) | (rw [if_neg (by omega)])
      · try dsimp only at c2
        refine And.intro rfl (And.intro (by first | omega | (dsimp only; omega)) (?_))
        refine rVR hG rfl rfl rfl ?_
        first | (rw [if_pos (by omega)]; rfl) | (rw [if_neg (by omega)])
  · skip
    refine SpV.of (cd := kdX0_put) (fT := mlook flX0) (kT := mlook klX0) (kJ := mlook jlX0) mfA_X0_put ok_X0_put fT_X0 kT_X0 jT_X0 jdk_ok True.intro (Nat.le_of_ble_eq_true rfl) (fun G hG => ?_)
    refine rRun hG 99999 ?_
    refine And.intro (by first | omega | (dsimp only; omega)) (And.intro (fun c1 => ?_) (fun c1 => ?_))
    · try dsimp only at c1
      refine rVR hG rfl rfl rfl ?_
      first | (rw [if_pos (by omega)]; rfl) | (rw [if_neg (by omega)])
    · try dsimp only at c1
      refine And.intro rfl (And.intro (by decide) (And.intro (by first | omega | (dsimp only; omega)) (And.intro (fun c2 => ?_) (fun c2 => ?_))))
      · try dsimp only at c2
        refine rVR hG rfl rfl rfl ?_
        first | (rw [if_pos (by omega)]; rfl) | (rw [if_neg (by omega)])
      · try dsimp only at c2
        refine And.intro rfl (And.intro (by first | omega | (dsimp only; omega)) (?_))
        refine rVR hG rfl rfl rfl ?_
        first | (rw [if_pos (by omega)]; rfl) | (rw [if_neg (by omega)])
set_option maxRecDepth 20000 in
set_option maxHeartbeats 1000000 in
theorem sp_X0_swapRows {uo : UD} {ux : XD} {ua ub : TD} {v0 v1 v2 : SD} {up uq : PD} {kH : Bool} {al hr lt : FN} {hd : Int}   : SpV l 1 yX0_swapRows cX0_swapRows 2 none [mr 23] (hC uo ux ua ub v0 v1 v2 up uq (kH, al, hr, lt, hd)) (fun h => h = hC uo ux ua ub v0 v1 v2 up uq (!kH, al, lt, hr, hd)) := by
  cases kH
  · skip
    refine SpV.of (cd := kdX0_swapRows) (fT := mlook flX0) (kT := mlook klX0) (kJ := mlook jlX0) mfA_X0_swapRows ok_X0_swapRows fT_X0 kT_X0 jT_X0 jdk_ok True.intro (Nat.le_of_ble_eq_true rfl) (fun G hG => ?_)
    refine rRun hG 99999 ?_
    refine And.intro rfl (And.intro rfl (And.intro ⟨rfl, by exact Nat.le_of_ble_eq_true rfl, by first | exact True.intro | exact Or.inl rfl | exact Or.inr rfl⟩ (And.intro ⟨rfl, by exact Nat.le_of_ble_eq_true rfl, by first | exact True.intro | exact Or.inl rfl | exact Or.inr rfl⟩ (?_))))
    refine rVR hG rfl rfl rfl ?_
    rfl
  · skip
    refine SpV.of (cd := kdX0_swapRows) (fT := mlook flX0) (kT := mlook klX0) (kJ := mlook jlX0) mfA_X0_swapRows ok_X0_swapRows fT_X0 kT_X0 jT_X0 jdk_ok True.intro (Nat.le_of_ble_eq_true rfl) (fun G hG => ?_)
    refine rRun hG 99999 ?_
    refine And.intro rfl (And.intro rfl (And.intro ⟨rfl, by exact Nat.le_of_ble_eq_true rfl, by first | exact True.intro | exact Or.inl rfl | exact Or.inr rfl⟩ (And.intro ⟨rfl, by exact Nat.le_of_ble_eq_true rfl, by first | exact True.intro | exact Or.inl rfl | exact Or.inr rfl⟩ (?_))))
    refine rVR hG rfl rfl rfl ?_
    rfl
def fwA (A : Nat → Nat → Bool) : Nat → Nat → Bool
  | 0, i => i == 9
  | d + 1, i => onP (fwA A d) i && A d i
def bwA (A : Nat → Nat → Bool) : Nat → Nat → Bool
  | 0, _ => true
  | j + 1, i => bkP (fun a => bwA A j a && A (13 - j) a) i
theorem albF_A {al : FN} {A : Nat → Nat → Bool} (h : alIs al A) {d : Nat} (hd : d < 14) : albF al (d : Int) = st19 (A d) := by
  unfold albF
  rw [if_pos (by omega)]
  exact h d hd
set_option maxRecDepth 20000 in
set_option maxHeartbeats 1000000 in
theorem sp_X0_errorsBehind {uo : UD} {ux : XD} {ua ub : TD} {v0 v1 v2 : SD} {up uq : PD} {kH : Bool} {al hr lt : FN} {hd : Int} {d : Nat} {A : Nat → Nat → Bool} (hA : alIs al A) (hdl : d < 14) : SpI l 2 yX0_errorsBehind cX0_errorsBehind 5 (some .int) [mr 23, mi (d : Int)] (hC uo ux ua ub v0 v1 v2 up uq (kH, al, hr, lt, hd)) (fun z h => z = st19 (fun i => fwA A (d + 1) i && bwA A (13 - d) i) ∧ h = hC uo ux ua ub v0 v1 v2 up uq (kH, al, hr, lt, hd)) := by
  refine SpI.of (cd := kdX0_errorsBehind) (fT := mlook flX0) (kT := mlook klX0) (kJ := mlook jlX0) mfA_X0_errorsBehind ok_X0_errorsBehind fT_X0 kT_X0 jT_X0 jdk_ok True.intro (Nat.le_of_ble_eq_true rfl) (fun G hG => ?_)
  have J41 : ∀ (n j : Nat), j ≤ 13 - d → 13 - d - j < n → G 41 [some (mr 23), some (mi (d : Int)), some (mi (st19 (fwA A (d + 1)))), some (mi (st19 (bwA A j))), some (mi (13 - (j : Int)))] [] (hC uo ux ua ub v0 v1 v2 up uq (kH, al, hr, lt, hd)) := by
    intro n
    induction n with
    | zero => intro j _ hm; exact absurd hm (Nat.not_lt_zero _)
    | succ n ih =>
      intro j hj hm
      have hs := st19_in (P := fun a => bwA A j a && A (13 - j) a)
      refine rRun hG 99999 ?_
      refine And.intro (by first | omega | (dsimp only; omega)) (And.intro (fun c1 => ?_) (fun c1 => ?_))
      · try dsimp only at c1
        refine rRun hG 99999 ?_
        refine And.intro (by exact ⟨st19_in.1, st19_in.1⟩) (?_)
        refine rIR hG rfl rfl (True.intro) ?_
        obtain rfl : j = 13 - d := by omega
        exact ⟨st_and, rfl⟩
      · try dsimp only at c1
        refine And.intro (by first | omega | (dsimp only; omega)) (And.intro (fun c2 => ?_) (fun c2 => ?_))
        · try dsimp only at c2
          refine rRun hG 99999 ?_
          refine And.intro (by exact ⟨st19_in.1, st19_in.1⟩) (?_)
          refine rIR hG rfl rfl (True.intro) ?_
          obtain rfl : j = 13 - d := by omega
          exact ⟨st_and, rfl⟩
        · try dsimp only at c2
          refine rV hG (sp_X0_allowedBehind (uo := uo) (ux := ux) (ua := ua) (ub := ub) (v0 := v0) (v1 := v1) (v2 := v2) (up := up) (uq := uq) (kH := kH) (al := al) (hr := hr) (lt := lt) (hd := hd) (d := 13 - (j : Int)) (by omega)) rfl rfl lk_X0_37 mf_X0_allowedBehind (by decide) (Nat.le_of_ble_eq_true rfl) ⟨_, _, _, rfl, rfl, rfl⟩ ?_
          rintro w _ ⟨hw, rfl⟩
          rw [show (13 - (j : Int)) = ((13 - j : Nat) : Int) by omega, albF_A hA (by omega)] at hw
          subst hw
          refine rRun hG 99999 ?_
          refine And.intro (by exact ⟨st19_in.1, st19_in.1⟩) (?_)
          rw [st_and]
          refine rS hG (sp_X0_aDayBack (s := bs (fun a => bwA A j a && A (13 - j) a) 19) (by have := bs_lt (P := fun a => bwA A j a && A (13 - j) a) 19; omega)) rfl rfl lk_X0_40 mf_X0_aDayBack (by decide) (Nat.le_of_ble_eq_true rfl) ?_
          rintro w _ ⟨hw, rfl⟩
          rw [st_bk] at hw
          have hw9 : w = st19 (bwA A (j + 1)) := hw
          clear hw
          subst hw9
          refine rRun hG 99999 ?_
          exact rLess hG (L' := [some _, some _, some _, some _, some (mi (13 - ((j + 1 : Nat) : Int)))]) ⟨rfl, rfl, rfl, rfl, congrArg mi (by omega), True.intro⟩ (ih (j + 1) (by omega) (by omega))
  have J6 : ∀ (n i : Nat), i ≤ d + 1 → d + 1 - i < n → G 6 [some (mr 23), some (mi (d : Int)), some (mi (st19 (fwA A i))), some (mi (i : Int)), none] [] (hC uo ux ua ub v0 v1 v2 up uq (kH, al, hr, lt, hd)) := by
    intro n
    induction n with
    | zero => intro i _ hm; exact absurd hm (Nat.not_lt_zero _)
    | succ n ih =>
      intro i hi hm
      refine rRun hG 41 ?_
      refine And.intro (by first | omega | (dsimp only; omega)) (And.intro (fun c1 => ?_) (fun c1 => ?_))
      · try dsimp only at c1
        refine rRun hG 41 ?_
        obtain rfl : i = d + 1 := by omega
        exact rLess hG (L' := [some _, some _, some _, some (mi (st19 (bwA A 0))), some (mi (13 - ((0 : Nat) : Int)))]) ⟨rfl, rfl, rfl, congrArg mi st_all, rfl, True.intro⟩ (J41 _ 0 (by omega) (Nat.lt_succ_self _))
      · try dsimp only at c1
        refine And.intro (by first | omega | (dsimp only; omega)) (And.intro (fun c2 => ?_) (fun c2 => ?_))
        · try dsimp only at c2
          refine rRun hG 41 ?_
          obtain rfl : i = d + 1 := by omega
          exact rLess hG (L' := [some _, some _, some _, some (mi (st19 (bwA A 0))), some (mi (13 - ((0 : Nat) : Int)))]) ⟨rfl, rfl, rfl, congrArg mi st_all, rfl, True.intro⟩ (J41 _ 0 (by omega) (Nat.lt_succ_self _))
        · try dsimp only at c2
          refine rS hG (sp_X0_aDayOn (s := bs (fwA A i) 19) (by have := bs_lt (P := fwA A i) 19; omega)) rfl rfl lk_X0_33 mf_X0_aDayOn (by decide) (Nat.le_of_ble_eq_true rfl) ?_
          rintro w _ ⟨hw, rfl⟩
          rw [st_on] at hw
          subst hw
          refine rRun hG 41 ?_
          refine rV hG (sp_X0_allowedBehind (uo := uo) (ux := ux) (ua := ua) (ub := ub) (v0 := v0) (v1 := v1) (v2 := v2) (up := up) (uq := uq) (kH := kH) (al := al) (hr := hr) (lt := lt) (hd := hd) (d := (i : Int)) (by omega)) rfl rfl lk_X0_37 mf_X0_allowedBehind (by decide) (Nat.le_of_ble_eq_true rfl) ⟨_, _, _, rfl, rfl, rfl⟩ ?_
          rintro w _ ⟨hw, rfl⟩
          rw [albF_A hA (by omega)] at hw
          subst hw
          refine rRun hG 41 ?_
          refine And.intro (by exact ⟨st19_in.1, st19_in.1⟩) (?_)
          exact rLess hG (L' := [some _, some _, some (mi (st19 (fwA A (i + 1)))), some _, none]) ⟨rfl, rfl, congrArg mi st_and.symm, rfl, True.intro⟩ (ih (i + 1) (by omega) (by omega))
  refine rRun hG 6 ?_
  exact rLess hG (L' := [some _, some _, some (mi (st19 (fwA A 0))), some (mi ((0 : Nat) : Int)), none]) ⟨rfl, rfl, congrArg mi st_512, rfl, True.intro⟩ (J6 _ 0 (by omega) (Nat.lt_succ_self _))
def hadd (A : Nat → Nat → Bool) (f : FN) (d : Nat) (e : Int) (i : Nat) : Int := if (0 ≤ e + ((i : Int) - 2) + 9 ∧ e + ((i : Int) - 2) + 9 < 19) ∧ A d (e + ((i : Int) - 2) + 9).toNat = true then hlat f (e + ((i : Int) - 2)) else 0
def hsm (A : Nat → Nat → Bool) (f : FN) (d : Nat) (e : Int) : Nat → Int
  | 0 => 0
  | i + 1 => hsm A f d e i + hadd A f d e i
theorem hsm_s {A : Nat → Nat → Bool} {f : FN} {d : Nat} {e : Int} {i : Nat} : hsm A f d e (i + 1) = hsm A f d e i + hadd A f d e i := rfl
theorem hsm_in {A : Nat → Nat → Bool} {f : FN} {d : Nat} {e : Int} (h : ∀ e, 0 ≤ hlat f e ∧ hlat f e ≤ 1000002) : ∀ i : Nat, 0 ≤ hsm A f d e i ∧ hsm A f d e i ≤ 1000002 * (i : Int)
  | 0 => ⟨Int.le_refl _, Int.le_refl _⟩
  | i + 1 => by
    have ih := hsm_in (A := A) (d := d) (e := e) h i
    have h1 := h (e + ((i : Int) - 2))
    rw [hsm_s]
    unfold hadd
    split <;> omega
theorem st_none {P : Nat → Bool} : st19 P = 0 ↔ ∀ i, i < 19 → P i = false := by
  constructor
  · intro h i hi
    have h1 : bs P 19 = 0 := by unfold st19 at h; omega
    have h2 := bs_bit (P := P) (n := 19) (i := i)
    rw [h1, Nat.zero_testBit] at h2
    simpa [hi] using h2.symm
  · intro h
    have : bs P 19 = bs (fun _ => false) 19 := bs_ext h
    unfold st19
    rw [this]; decide +kernel
theorem wth_hit {x : Int} {Q : Nat → Bool} : st19 (fun i => wthP x x i && Q i) = 0 ↔ ¬ ((0 ≤ x + 9 ∧ x + 9 < 19) ∧ Q (x + 9).toNat = true) := by
  rw [st_none]
  constructor
  · rintro h ⟨h1, h2⟩
    have h3 := h (x + 9).toNat (by omega)
    rw [h2, Bool.and_true] at h3
    have h4 : wthP x x (x + 9).toNat = true := decide_eq_true (by omega)
    rw [h4] at h3; cases h3
  · intro h i hi
    by_cases q : wthP x x i = true
    · have q2 := of_decide_eq_true q
      have e : (x + 9).toNat = i := by omega
      rw [q, Bool.true_and]
      cases hq : Q i
      · rfl
      · exact absurd ⟨by omega, by rw [e]; exact hq⟩ h
    · have : wthP x x i = false := by simpa using q
      rw [this, Bool.false_and]
set_option maxRecDepth 20000 in
set_option maxHeartbeats 1000000 in
theorem sp_X0_rowsFrom {uo : UD} {ux : XD} {ua ub : TD} {v0 v1 v2 : SD} {up uq : PD} {kH : Bool} {al hr lt : FN} {hd : Int} {d : Nat} {e : Int} {A : Nat → Nat → Bool} (hA : alIs al A) (hdl : d < 14) (h1 : -100 ≤ e ∧ e ≤ 100) (hl : ∀ e, 0 ≤ hlat lt e ∧ hlat lt e ≤ 1000002) : SpI l 3 yX0_rowsFrom cX0_rowsFrom 6 (some .int) [mr 23, mi (d : Int), mi e] (hC uo ux ua ub v0 v1 v2 up uq (kH, al, hr, lt, hd)) (fun z h => z = hsm A lt d e 6 % 1000003 ∧ h = hC uo ux ua ub v0 v1 v2 up uq (kH, al, hr, lt, hd)) := by
  refine SpI.of (cd := kdX0_rowsFrom) (fT := mlook flX0) (kT := mlook klX0) (kJ := mlook jlX0) mfA_X0_rowsFrom ok_X0_rowsFrom fT_X0 kT_X0 jT_X0 jdk_ok True.intro (Nat.le_of_ble_eq_true rfl) (fun G hG => ?_)
  have J6 : ∀ (n i : Nat), i ≤ 6 → 6 - i < n → G 6 [some (mr 23), some (mi (d : Int)), some (mi e), some (mi (hsm A lt d e i)), some (mi ((i : Int) - 2)), none] [] (hC uo ux ua ub v0 v1 v2 up uq (kH, al, hr, lt, hd)) := by
    intro n
    induction n with
    | zero => intro i _ hm; exact absurd hm (Nat.not_lt_zero _)
    | succ n ih =>
      intro i hi hm
      have hsi := hsm_in (A := A) (d := d) (e := e) hl i
      have hli := hl (e + ((i : Int) - 2))
      refine rRun hG 99999 ?_
      refine And.intro (by first | omega | (dsimp only; omega)) (And.intro (fun c1 => ?_) (fun c1 => ?_))
      · try dsimp only at c1
        refine rRun hG 99999 ?_
        refine And.intro (by omega) (?_)
        refine rIR hG rfl rfl (True.intro) ?_
        obtain rfl : i = 6 := by omega
        exact ⟨rfl, rfl⟩
      · try dsimp only at c1
        refine rS hG (sp_X0_within (lo := (e + ((i : Int) - 2))) (hi := (e + ((i : Int) - 2))) (by omega) (by omega)) rfl rfl lk_X0_29 mf_X0_within (by decide) (Nat.le_of_ble_eq_true rfl) ?_
        rintro _ _ ⟨rfl, rfl⟩
        refine rRun hG 99999 ?_
        refine rV hG (sp_X0_allowedBehind (uo := uo) (ux := ux) (ua := ua) (ub := ub) (v0 := v0) (v1 := v1) (v2 := v2) (up := up) (uq := uq) (kH := kH) (al := al) (hr := hr) (lt := lt) (hd := hd) (d := (d : Int)) (by omega)) rfl rfl lk_X0_37 mf_X0_allowedBehind (by decide) (Nat.le_of_ble_eq_true rfl) ⟨_, _, _, rfl, rfl, rfl⟩ ?_
        rintro w _ ⟨hw, rfl⟩
        rw [albF_A hA hdl] at hw
        subst hw
        refine rRun hG 99999 ?_
        refine And.intro (by exact ⟨st19_in.1, st19_in.1⟩) (And.intro (by rw [st_and]; have := st19_in (P := fun a => wthP (e + ((i : Int) - 2)) (e + ((i : Int) - 2)) a && A d a); omega) (And.intro (fun cz => ?_) (fun cz => ?_)))
        · try dsimp only at cz
          refine rRun hG 99999 ?_
          rw [st_and] at cz
          have e9 := ih (i + 1) (by omega) (by omega)
          rw [hsm_s, show hadd A lt d e i = _ from if_neg (wth_hit.mp cz)] at e9
          refine rLess hG ?_ e9
          exact ⟨rfl, rfl, rfl, congrArg mi (by omega), congrArg mi (by omega), True.intro⟩
        · try dsimp only at cz
          refine rV hG (sp_X0_laterAt (uo := uo) (ux := ux) (ua := ua) (ub := ub) (v0 := v0) (v1 := v1) (v2 := v2) (up := up) (uq := uq) (kH := kH) (al := al) (hr := hr) (lt := lt) (hd := hd) (e := (e + ((i : Int) - 2))) (by omega)) rfl rfl lk_X0_61 mf_X0_laterAt (by decide) (Nat.le_of_ble_eq_true rfl) ⟨_, _, _, rfl, rfl, rfl⟩ ?_
          rintro _ _ ⟨rfl, rfl⟩
          refine rRun hG 99999 ?_
          rw [st_and] at cz
          have e9 := ih (i + 1) (by omega) (by omega)
          rw [hsm_s, show hadd A lt d e i = _ from if_pos (Classical.not_not.mp (fun q => cz (wth_hit.mpr q)))] at e9
          refine rLess hG ?_ e9
          exact ⟨rfl, rfl, rfl, rfl, congrArg mi (by omega), True.intro⟩
  refine rRun hG 6 ?_
  exact rLess hG (L' := [some (mr 23), some (mi (d : Int)), some (mi e), some (mi (hsm A lt d e 0)), some (mi (((0 : Nat) : Int) - 2)), none]) ⟨rfl, rfl, rfl, rfl, rfl, True.intro⟩ (J6 _ 0 (by omega) (Nat.lt_succ_self _))
end WALKS
