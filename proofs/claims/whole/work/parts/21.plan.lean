/-! Plan -/
section WALKS
variable {l : Launch}
def plat (f : FN) (e : Int) : Int := if 0 ≤ e + 9 ∧ e + 9 < 19 then f (e + 9).toNat else -1000000
def pgain (tk : Int) (t : TD) (lt : FN) (day p e : Int) : Int :=
  if (if tk = 0 then 9 else tLim t) < max e (-e) ∨ plat lt e ≤ -1000000 then -1000000
  else (if tk = 0 then -hrmS (tTra t) e (tNT t).toNat else cndl (tBri t) day p (tNB t).toNat) + plat lt e
theorem pgain_no {tk : Int} {t : TD} {lt : FN} {day p e : Int} (h : (tk = 0 ∧ 9 < max e (-e)) ∨ (¬ tk = 0 ∧ tLim t < max e (-e)) ∨ plat lt e ≤ -1000000) : pgain tk t lt day p e = -1000000 := by
  unfold pgain
  rw [if_pos]
  rcases h with h | h | h
  · left; rw [if_pos h.1]; exact h.2
  · left; rw [if_neg h.1]; exact h.2
  · right; exact h
theorem pgain_h {tk : Int} {t : TD} {lt : FN} {day p e : Int} (h : tk = 0) (h1 : ¬ 9 < max e (-e)) (h2 : ¬ plat lt e ≤ -1000000) : pgain tk t lt day p e = -hrmS (tTra t) e (tNT t).toNat + plat lt e := by
  unfold pgain
  rw [if_neg (by rw [if_pos h]; omega), if_pos h]
theorem pgain_c {tk : Int} {t : TD} {lt : FN} {day p e : Int} (h : ¬ tk = 0) (h1 : ¬ tLim t < max e (-e)) (h2 : ¬ plat lt e ≤ -1000000) : pgain tk t lt day p e = cndl (tBri t) day p (tNB t).toNat + plat lt e := by
  unfold pgain
  rw [if_neg (by rw [if_neg h]; omega), if_neg h]
def foldB (g : Int → Int) (b0 : Int) : Nat → Int × Int
  | 0 => (b0, -9)
  | n + 1 => if (foldB g b0 n).1 < g ((n : Int) - 2) then (g ((n : Int) - 2), (n : Int) - 2) else foldB g b0 n
theorem foldB_s {g : Int → Int} {b0 : Int} {n : Nat} : foldB g b0 (n + 1) = if (foldB g b0 n).1 < g ((n : Int) - 2) then (g ((n : Int) - 2), (n : Int) - 2) else foldB g b0 n := rfl
theorem foldB_in {g : Int → Int} {b0 M : Int} (h0 : b0 ≤ M) (h : ∀ p, g p ≤ M) : ∀ n, b0 ≤ (foldB g b0 n).1 ∧ (foldB g b0 n).1 ≤ M
  | 0 => ⟨Int.le_refl _, h0⟩
  | n + 1 => by
    have ih := foldB_in h0 h n
    have hp := h ((n : Int) - 2)
    rw [foldB_s]
    split
    · exact ⟨by omega, hp⟩
    · exact ih
theorem cndl_in {t : TD} (hT : TOK t) {day p : Int} : ∀ n, n ≤ 6 → 0 ≤ cndl (tBri t) day p n ∧ cndl (tBri t) day p n ≤ 20 * n
  | 0, _ => ⟨Int.le_refl _, Int.le_refl _⟩
  | n + 1, h => by
    have ih := cndl_in hT (day := day) (p := p) n (by omega)
    have hB := hT.2.2.2.2.2.2.2.1 n (by omega)
    rw [cndl_s]
    split <;> omega
theorem hrm1_in {t : TD} (hT : TOK t) {e : Int} (he : -9 ≤ e ∧ e ≤ 9) {i : Nat} (hi : i < 4) : 0 ≤ hrm1 (tTra t) e i ∧ hrm1 (tTra t) e i ≤ 81 := by
  have hB := hT.2.2.2.2.2.2.2.2 i hi
  have mul : ∀ a b : Int, 0 ≤ a → a ≤ 9 → 0 ≤ b → b ≤ 9 → 0 ≤ a * b ∧ a * b ≤ 81 := fun a b h1 h2 h3 h4 => ⟨Int.mul_nonneg h1 h3, by have := Int.mul_le_mul h2 h4 h3 (by omega : (0 : Int) ≤ 9); omega⟩
  unfold hrm1
  split
  · split
    · exact mul _ _ (by omega) (by omega) (by omega) (by omega)
    · omega
  · split
    · exact mul _ _ (by omega) (by omega) (by omega) (by omega)
    · omega
theorem hrmS_in {t : TD} (hT : TOK t) {e : Int} (he : -9 ≤ e ∧ e ≤ 9) : ∀ n, n ≤ 4 → 0 ≤ hrmS (tTra t) e n ∧ hrmS (tTra t) e n ≤ 81 * n
  | 0, _ => ⟨Int.le_refl _, Int.le_refl _⟩
  | n + 1, h => by
    have ih := hrmS_in hT he n (by omega)
    have h1 := hrm1_in hT he (i := n) (by omega)
    show 0 ≤ hrmS (tTra t) e n + hrm1 (tTra t) e n ∧ hrmS (tTra t) e n + hrm1 (tTra t) e n ≤ 81 * ((n + 1 : Nat) : Int)
    omega
set_option maxRecDepth 20000 in
set_option maxHeartbeats 4000000 in
theorem sp_X2_laterAt {uo : UD} {ux : XD} {ua ub : TD} {mo : FN} {kn kp : Int} {v1 v2 : SD} {kP : Bool} {hr lt : FN} {tk ms pa : Int} {uq : PD} {ur : HD} {e : Int} (h1 : -1000 ≤ e ∧ e ≤ 1000) : SpI l 1 yX2_laterAt cX2_laterAt 3 (some .int) [mr 17, mi e] (hC uo ux ua ub (mo, kn, kp) v1 v2 (kP, hr, lt, tk, ms, pa) uq ur) (fun z h => z = plat lt e ∧ h = hC uo ux ua ub (mo, kn, kp) v1 v2 (kP, hr, lt, tk, ms, pa) uq ur) := by
  cases kP
  · skip
    refine SpI.of (cd := kdX2_laterAt) (fT := mlook flX2) (kT := mlook klX2) (kJ := mlook jlX2) mfA_X2_laterAt ok_X2_laterAt fT_X2 kT_X2 jT_X2 jdk_ok True.intro (Nat.le_of_ble_eq_true rfl) (fun G hG => ?_)
    refine rRun hG 99999 ?_
    refine And.intro (by first | omega | (dsimp only; omega)) (And.intro (fun c1 => ?_) (fun c1 => ?_))
    · try dsimp only at c1
      refine rRun hG 99999 ?_
      refine rIR hG rfl rfl (True.intro) ?_
      refine ⟨?_, rfl⟩
      unfold plat
      first | (rw [if_pos (by omega)]; rfl) | (rw [if_neg (by omega)])
    · try dsimp only at c1
      refine And.intro rfl (And.intro (by decide) (And.intro (by first | omega | (dsimp only; omega)) (And.intro (fun c2 => ?_) (fun c2 => ?_))))
      · try dsimp only at c2
        refine rRun hG 99999 ?_
        refine rIR hG rfl rfl (True.intro) ?_
        refine ⟨?_, rfl⟩
        unfold plat
        first | (rw [if_pos (by omega)]; rfl) | (rw [if_neg (by omega)])
      · try dsimp only at c2
        refine And.intro rfl (And.intro (by first | omega | (dsimp only; omega)) (?_))
        refine rIR hG rfl rfl (True.intro) ?_
        refine ⟨?_, rfl⟩
        unfold plat
        first | (rw [if_pos (by omega)]; rfl) | (rw [if_neg (by omega)])
  · skip
    refine SpI.of (cd := kdX2_laterAt) (fT := mlook flX2) (kT := mlook klX2) (kJ := mlook jlX2) mfA_X2_laterAt ok_X2_laterAt fT_X2 kT_X2 jT_X2 jdk_ok True.intro (Nat.le_of_ble_eq_true rfl) (fun G hG => ?_)
    refine rRun hG 99999 ?_
    refine And.intro (by first | omega | (dsimp only; omega)) (And.intro (fun c1 => ?_) (fun c1 => ?_))
    · try dsimp only at c1
      refine rRun hG 99999 ?_
      refine rIR hG rfl rfl (True.intro) ?_
      refine ⟨?_, rfl⟩
      unfold plat
      first | (rw [if_pos (by omega)]; rfl) | (rw [if_neg (by omega)])
    · try dsimp only at c1
      refine And.intro rfl (And.intro (by decide) (And.intro (by first | omega | (dsimp only; omega)) (And.intro (fun c2 => ?_) (fun c2 => ?_))))
      · try dsimp only at c2
        refine rRun hG 99999 ?_
        refine rIR hG rfl rfl (True.intro) ?_
        refine ⟨?_, rfl⟩
        unfold plat
        first | (rw [if_pos (by omega)]; rfl) | (rw [if_neg (by omega)])
      · try dsimp only at c2
        refine And.intro rfl (And.intro (by first | omega | (dsimp only; omega)) (?_))
        refine rIR hG rfl rfl (True.intro) ?_
        refine ⟨?_, rfl⟩
        unfold plat
        first | (rw [if_pos (by omega)]; rfl) | (rw [if_neg (by omega)])
set_option maxRecDepth 20000 in
set_option maxHeartbeats 4000000 in
theorem sp_X2_put {uo : UD} {ux : XD} {ua ub : TD} {mo : FN} {kn kp : Int} {v1 v2 : SD} {kP : Bool} {hr lt : FN} {tk ms pa : Int} {uq : PD} {ur : HD} {e w : Int} (h1 : -1000 ≤ e ∧ e ≤ 1000) : SpV l 1 yX2_put cX2_put 4 none [mr 17, mi e, mi w] (hC uo ux ua ub (mo, kn, kp) v1 v2 (kP, hr, lt, tk, ms, pa) uq ur) (fun h => h = hC uo ux ua ub (mo, kn, kp) v1 v2 (kP, if 0 ≤ e + 9 ∧ e + 9 < 19 then mup hr (e + 9).toNat w else hr, lt, tk, ms, pa) uq ur) := by
  cases kP
  · skip
    refine SpV.of (cd := kdX2_put) (fT := mlook flX2) (kT := mlook klX2) (kJ := mlook jlX2) mfA_X2_put ok_X2_put fT_X2 kT_X2 jT_X2 jdk_ok True.intro (Nat.le_of_ble_eq_true rfl) (fun G hG => ?_)
    refine rRun hG 99999 ?_
    refine And.intro (by first | omega | (dsimp only; omega)) (And.intro (fun c1 => ?_) (fun c1 => ?_))
    · try dsimp only at c1
      refine rVR hG rfl rfl rfl ?_
      first | (rw [if_pos (by omega)]; rfl) | (rw [if_neg (by omega)])
    · try dsimp only at c1
      refine And.intro rfl (And.intro (by decide) (And.intro (by first | omega | (dsimp only; omega)) (And.intro (fun c2 => ?_) (fun c2 => ?_))))
      · try dsimp only at c2
        refine rVR hG rfl rfl rfl ?_
        first | (rw [if_pos (by omega)]; rfl) | (rw [if_neg (by omega)])
      · try dsimp only at c2
        refine And.intro rfl (And.intro (by first | omega | (dsimp only; omega)) (?_))
        refine rVR hG rfl rfl rfl ?_
        first | (rw [if_pos (by omega)]; rfl) | (rw [if_neg (by omega)])
  · skip
    refine SpV.of (cd := kdX2_put) (fT := mlook flX2) (kT := mlook klX2) (kJ := mlook jlX2) mfA_X2_put ok_X2_put fT_X2 kT_X2 jT_X2 jdk_ok True.intro (Nat.le_of_ble_eq_true rfl) (fun G hG => ?_)
    refine rRun hG 99999 ?_
    refine And.intro (by first | omega | (dsimp only; omega)) (And.intro (fun c1 => ?_) (fun c1 => ?_))
    · try dsimp only at c1
      refine rVR hG rfl rfl rfl ?_
      first | (rw [if_pos (by omega)]; rfl) | (rw [if_neg (by omega)])
    · try dsimp only at c1
      refine And.intro rfl (And.intro (by decide) (And.intro (by first | omega | (dsimp only; omega)) (And.intro (fun c2 => ?_) (fun c2 => ?_))))
      · try dsimp only at c2
        refine rVR hG rfl rfl rfl ?_
        first | (rw [if_pos (by omega)]; rfl) | (rw [if_neg (by omega)])
      · try dsimp only at c2
        refine And.intro rfl (And.intro (by first | omega | (dsimp only; omega)) (?_))
        refine rVR hG rfl rfl rfl ?_
        first | (rw [if_pos (by omega)]; rfl) | (rw [if_neg (by omega)])
set_option maxRecDepth 20000 in
set_option maxHeartbeats 4000000 in
theorem sp_X2_swapRows {uo : UD} {ux : XD} {ua ub : TD} {mo : FN} {kn kp : Int} {v1 v2 : SD} {kP : Bool} {hr lt : FN} {tk ms pa : Int} {uq : PD} {ur : HD}   : SpV l 1 yX2_swapRows cX2_swapRows 2 none [mr 17] (hC uo ux ua ub (mo, kn, kp) v1 v2 (kP, hr, lt, tk, ms, pa) uq ur) (fun h => h = hC uo ux ua ub (mo, kn, kp) v1 v2 (!kP, lt, hr, tk, ms, pa) uq ur) := by
  cases kP
  · skip
    refine SpV.of (cd := kdX2_swapRows) (fT := mlook flX2) (kT := mlook klX2) (kJ := mlook jlX2) mfA_X2_swapRows ok_X2_swapRows fT_X2 kT_X2 jT_X2 jdk_ok True.intro (Nat.le_of_ble_eq_true rfl) (fun G hG => ?_)
    refine rRun hG 99999 ?_
    refine And.intro rfl (And.intro rfl (And.intro ⟨rfl, by exact Nat.le_of_ble_eq_true rfl, by exact True.intro⟩ (And.intro ⟨rfl, by exact Nat.le_of_ble_eq_true rfl, by exact True.intro⟩ (?_))))
    refine rVR hG rfl rfl rfl ?_
    rfl
  · skip
    refine SpV.of (cd := kdX2_swapRows) (fT := mlook flX2) (kT := mlook klX2) (kJ := mlook jlX2) mfA_X2_swapRows ok_X2_swapRows fT_X2 kT_X2 jT_X2 jdk_ok True.intro (Nat.le_of_ble_eq_true rfl) (fun G hG => ?_)
    refine rRun hG 99999 ?_
    refine And.intro rfl (And.intro rfl (And.intro ⟨rfl, by exact Nat.le_of_ble_eq_true rfl, by exact True.intro⟩ (And.intro ⟨rfl, by exact Nat.le_of_ble_eq_true rfl, by exact True.intro⟩ (?_))))
    refine rVR hG rfl rfl rfl ?_
    rfl
set_option maxRecDepth 20000 in
set_option maxHeartbeats 4000000 in
theorem sp_X2_restBehind {uo : UD} {ux : XD} {ua ub : TD} {mo : FN} {kn kp : Int} {v1 v2 : SD} {kP : Bool} {hr lt : FN} {tk ms pa : Int} {uq : PD} {ur : HD} {kd e : Int}  : SpI l 2 yX2_restBehind cX2_restBehind 3 (some .int) [mr 11, mi kd, mi e] (hC uo ux ua ub (mo, kn, kp) v1 v2 (kP, hr, lt, tk, ms, pa) uq ur) (fun z h => z = mo 1 - 4 * kd - (e - mo 2) ∧ h = hC uo ux ua ub (mo, kn, kp) v1 v2 (kP, hr, lt, tk, ms, pa) uq ur) := by
  refine SpI.of (cd := kdX2_restBehind) (fT := mlook flX2) (kT := mlook klX2) (kJ := mlook jlX2) mfA_X2_restBehind ok_X2_restBehind fT_X2 kT_X2 jT_X2 jdk_ok True.intro (Nat.le_of_ble_eq_true rfl) (fun G hG => ?_)
  refine rRun hG 99999 ?_
  refine rV hG (sp_X3_rest (uo := uo) (ux := ux) (ua := ua) (ub := ub) (mo := mo) (kn := kn) (kp := kp) (v1 := v1) (v2 := v2) (up := (kP, hr, lt, tk, ms, pa)) (uq := uq) (ur := ur)) rfl rfl lk_X2_72 mf_X3_rest (by decide) (Nat.le_of_ble_eq_true rfl) ⟨_, _, _, rfl, rfl, rfl⟩ ?_
  rintro _ _ ⟨rfl, rfl⟩
  refine rRun hG 99999 ?_
  refine rV hG (sp_X3_error (uo := uo) (ux := ux) (ua := ua) (ub := ub) (mo := mo) (kn := kn) (kp := kp) (v1 := v1) (v2 := v2) (up := (kP, hr, lt, tk, ms, pa)) (uq := uq) (ur := ur)) rfl rfl lk_X2_69 mf_X3_error (by decide) (Nat.le_of_ble_eq_true rfl) ⟨_, _, _, rfl, rfl, rfl⟩ ?_
  rintro _ _ ⟨rfl, rfl⟩
  refine rRun hG 99999 ?_
  refine rIR hG rfl rfl (True.intro) ?_
  exact ⟨rfl, rfl⟩
set_option maxRecDepth 20000 in
set_option maxHeartbeats 4000000 in
theorem sp_X2_gain {uo : UD} {ux : XD} {ua ub : TD} {mo : FN} {kn kp : Int} {v1 v2 : SD} {kP : Bool} {hr lt : FN} {tk ms pa : Int} {uq : PD} {ur : HD} {k : Bool} {t : TD} (ht : t = tsel k ua ub) {day pp e : Int} (hT : TOK t) (h1 : 0 ≤ day ∧ day ≤ 100) (h2 : -100 ≤ pp ∧ pp ≤ 100) (h3 : -100 ≤ e ∧ e ≤ 100) (h4 : tk = 0 ∨ tk = 1) (h5 : -1000000 ≤ plat lt e ∧ plat lt e ≤ 100000) : SpI l 4 yX2_gain cX2_gain 7 (some .int) [mr 17, mr (tix k), mi day, mi pp, mi e] (hC uo ux ua ub (mo, kn, kp) v1 v2 (kP, hr, lt, tk, ms, pa) uq ur) (fun z h => z = pgain tk t lt day pp e ∧ h = hC uo ux ua ub (mo, kn, kp) v1 v2 (kP, hr, lt, tk, ms, pa) uq ur) := by
  have hT2 := hT.2.2.2.2.1
  cases kP
  · skip
    cases k
    · obtain rfl : t = ua := ht
      refine SpI.of (cd := kdX2_gain) (fT := mlook flX2) (kT := mlook klX2) (kJ := mlook jlX2) mfA_X2_gain ok_X2_gain fT_X2 kT_X2 jT_X2 jdk_ok True.intro (Nat.le_of_ble_eq_true rfl) (fun G hG => ?_)
      refine rRun hG 99999 ?_
      refine And.intro rfl (And.intro (by first | omega | (dsimp only; omega)) (And.intro (fun c1 => ?_) (fun c1 => ?_)))
      · try dsimp only at c1
        refine rRun hG 99999 ?_
        refine rAbs hG rfl rfl lk_X2_84 (by decide) (Nat.le_of_ble_eq_true rfl) (by first | omega | (dsimp only; omega)) ?_
        refine rRun hG 99999 ?_
        refine And.intro (by first | omega | (dsimp only; omega)) (And.intro (fun c2 => ?_) (fun c2 => ?_))
        · try dsimp only at c2
          refine rRun hG 99999 ?_
          refine rIR hG rfl rfl (True.intro) ?_
          exact ⟨(pgain_no (by omega)).symm, rfl⟩
        · try dsimp only at c2
          refine rV hG (sp_X2_laterAt (uo := uo) (ux := ux) (ua := t) (ub := ub) (mo := mo) (kn := kn) (kp := kp) (v1 := v1) (v2 := v2) (uq := uq) (ur := ur) (kP := false) (hr := hr) (lt := lt) (tk := tk) (ms := ms) (pa := pa) (e := e) (by omega)) rfl rfl lk_X2_88 mf_X2_laterAt (by decide) (Nat.le_of_ble_eq_true rfl) ⟨_, _, _, rfl, rfl, rfl⟩ ?_
          rintro _ _ ⟨rfl, rfl⟩
          refine rRun hG 99999 ?_
          refine And.intro (by first | omega | (dsimp only; omega)) (And.intro (fun c4 => ?_) (fun c4 => ?_))
          · try dsimp only at c4
            refine rRun hG 99999 ?_
            refine And.intro rfl (And.intro (by first | omega | (dsimp only; omega)) (And.intro (fun c5 => ?_) (fun c5 => ?_)))
            · try dsimp only at c5
              refine rRun hG 99999 ?_
              refine rV hG (sp_X5_harmToAll (uo := uo) (ux := ux) (ua := t) (ub := ub) (v0 := (mo, kn, kp)) (v1 := v1) (v2 := v2) (up := (false, hr, lt, tk, ms, pa)) (uq := uq) (ur := ur) (k := false) (t := t) (ht := rfl) (er := e) hT (by omega)) rfl rfl lk_X2_94 mf_X5_harmToAll (by decide) (Nat.le_of_ble_eq_true rfl) ⟨_, _, _, rfl, rfl, rfl⟩ ?_
              rintro _ _ ⟨rfl, rfl⟩
              refine rRun hG 99999 ?_
              refine rV hG (sp_X2_laterAt (uo := uo) (ux := ux) (ua := t) (ub := ub) (mo := mo) (kn := kn) (kp := kp) (v1 := v1) (v2 := v2) (uq := uq) (ur := ur) (kP := false) (hr := hr) (lt := lt) (tk := tk) (ms := ms) (pa := pa) (e := e) (by omega)) rfl rfl lk_X2_88 mf_X2_laterAt (by decide) (Nat.le_of_ble_eq_true rfl) ⟨_, _, _, rfl, rfl, rfl⟩ ?_
              rintro _ _ ⟨rfl, rfl⟩
              refine rRun hG 99999 ?_
              refine rIR hG rfl rfl (True.intro) ?_
              first | exact ⟨(pgain_h (by omega) (by omega) (by omega)).symm, rfl⟩ | exact ⟨(pgain_c (by omega) (by omega) (by omega)).symm, rfl⟩
            · try dsimp only at c5
              refine rV hG (sp_X5_candlesFor (uo := uo) (ux := ux) (ua := t) (ub := ub) (v0 := (mo, kn, kp)) (v1 := v1) (v2 := v2) (up := (false, hr, lt, tk, ms, pa)) (uq := uq) (ur := ur) (k := false) (t := t) (ht := rfl) (day := day) (pace := pp) hT (by omega) (by omega)) rfl rfl lk_X2_91 mf_X5_candlesFor (by decide) (Nat.le_of_ble_eq_true rfl) ⟨_, _, _, rfl, rfl, rfl⟩ ?_
              rintro _ _ ⟨rfl, rfl⟩
              refine rRun hG 99999 ?_
              refine rRun hG 99999 ?_
              refine rV hG (sp_X2_laterAt (uo := uo) (ux := ux) (ua := t) (ub := ub) (mo := mo) (kn := kn) (kp := kp) (v1 := v1) (v2 := v2) (uq := uq) (ur := ur) (kP := false) (hr := hr) (lt := lt) (tk := tk) (ms := ms) (pa := pa) (e := e) (by omega)) rfl rfl lk_X2_88 mf_X2_laterAt (by decide) (Nat.le_of_ble_eq_true rfl) ⟨_, _, _, rfl, rfl, rfl⟩ ?_
              rintro _ _ ⟨rfl, rfl⟩
              refine rRun hG 99999 ?_
              refine rIR hG rfl rfl (True.intro) ?_
              first | exact ⟨(pgain_h (by omega) (by omega) (by omega)).symm, rfl⟩ | exact ⟨(pgain_c (by omega) (by omega) (by omega)).symm, rfl⟩
          · try dsimp only at c4
            refine rIR hG rfl rfl (True.intro) ?_
            exact ⟨(pgain_no (by omega)).symm, rfl⟩
      · try dsimp only at c1
        refine And.intro rfl (?_)
        refine rRun hG 99999 ?_
        refine rAbs hG rfl rfl lk_X2_84 (by decide) (Nat.le_of_ble_eq_true rfl) (by first | omega | (dsimp only; omega)) ?_
        refine rRun hG 99999 ?_
        refine And.intro (by first | omega | (dsimp only; omega)) (And.intro (fun c10 => ?_) (fun c10 => ?_))
        · try dsimp only at c10
          refine rRun hG 99999 ?_
          refine rIR hG rfl rfl (True.intro) ?_
          exact ⟨(pgain_no (by omega)).symm, rfl⟩
        · try dsimp only at c10
          refine rV hG (sp_X2_laterAt (uo := uo) (ux := ux) (ua := t) (ub := ub) (mo := mo) (kn := kn) (kp := kp) (v1 := v1) (v2 := v2) (uq := uq) (ur := ur) (kP := false) (hr := hr) (lt := lt) (tk := tk) (ms := ms) (pa := pa) (e := e) (by omega)) rfl rfl lk_X2_88 mf_X2_laterAt (by decide) (Nat.le_of_ble_eq_true rfl) ⟨_, _, _, rfl, rfl, rfl⟩ ?_
          rintro _ _ ⟨rfl, rfl⟩
          refine rRun hG 99999 ?_
          refine And.intro (by first | omega | (dsimp only; omega)) (And.intro (fun c12 => ?_) (fun c12 => ?_))
          · try dsimp only at c12
            refine rRun hG 99999 ?_
            refine And.intro rfl (And.intro (by first | omega | (dsimp only; omega)) (And.intro (fun c13 => ?_) (fun c13 => ?_)))
            · try dsimp only at c13
              refine rRun hG 99999 ?_
              refine rV hG (sp_X5_harmToAll (uo := uo) (ux := ux) (ua := t) (ub := ub) (v0 := (mo, kn, kp)) (v1 := v1) (v2 := v2) (up := (false, hr, lt, tk, ms, pa)) (uq := uq) (ur := ur) (k := false) (t := t) (ht := rfl) (er := e) hT (by omega)) rfl rfl lk_X2_94 mf_X5_harmToAll (by decide) (Nat.le_of_ble_eq_true rfl) ⟨_, _, _, rfl, rfl, rfl⟩ ?_
              rintro _ _ ⟨rfl, rfl⟩
              refine rRun hG 99999 ?_
              refine rV hG (sp_X2_laterAt (uo := uo) (ux := ux) (ua := t) (ub := ub) (mo := mo) (kn := kn) (kp := kp) (v1 := v1) (v2 := v2) (uq := uq) (ur := ur) (kP := false) (hr := hr) (lt := lt) (tk := tk) (ms := ms) (pa := pa) (e := e) (by omega)) rfl rfl lk_X2_88 mf_X2_laterAt (by decide) (Nat.le_of_ble_eq_true rfl) ⟨_, _, _, rfl, rfl, rfl⟩ ?_
              rintro _ _ ⟨rfl, rfl⟩
              refine rRun hG 99999 ?_
              refine rIR hG rfl rfl (True.intro) ?_
              first | exact ⟨(pgain_h (by omega) (by omega) (by omega)).symm, rfl⟩ | exact ⟨(pgain_c (by omega) (by omega) (by omega)).symm, rfl⟩
            · try dsimp only at c13
              refine rV hG (sp_X5_candlesFor (uo := uo) (ux := ux) (ua := t) (ub := ub) (v0 := (mo, kn, kp)) (v1 := v1) (v2 := v2) (up := (false, hr, lt, tk, ms, pa)) (uq := uq) (ur := ur) (k := false) (t := t) (ht := rfl) (day := day) (pace := pp) hT (by omega) (by omega)) rfl rfl lk_X2_91 mf_X5_candlesFor (by decide) (Nat.le_of_ble_eq_true rfl) ⟨_, _, _, rfl, rfl, rfl⟩ ?_
              rintro _ _ ⟨rfl, rfl⟩
              refine rRun hG 99999 ?_
              refine rRun hG 99999 ?_
              refine rV hG (sp_X2_laterAt (uo := uo) (ux := ux) (ua := t) (ub := ub) (mo := mo) (kn := kn) (kp := kp) (v1 := v1) (v2 := v2) (uq := uq) (ur := ur) (kP := false) (hr := hr) (lt := lt) (tk := tk) (ms := ms) (pa := pa) (e := e) (by omega)) rfl rfl lk_X2_88 mf_X2_laterAt (by decide) (Nat.le_of_ble_eq_true rfl) ⟨_, _, _, rfl, rfl, rfl⟩ ?_
              rintro _ _ ⟨rfl, rfl⟩
              refine rRun hG 99999 ?_
              refine rIR hG rfl rfl (True.intro) ?_
              first | exact ⟨(pgain_h (by omega) (by omega) (by omega)).symm, rfl⟩ | exact ⟨(pgain_c (by omega) (by omega) (by omega)).symm, rfl⟩
          · try dsimp only at c12
            refine rIR hG rfl rfl (True.intro) ?_
            exact ⟨(pgain_no (by omega)).symm, rfl⟩
    · obtain rfl : t = ub := ht
      refine SpI.of (cd := kdX2_gain) (fT := mlook flX2) (kT := mlook klX2) (kJ := mlook jlX2) mfA_X2_gain ok_X2_gain fT_X2 kT_X2 jT_X2 jdk_ok True.intro (Nat.le_of_ble_eq_true rfl) (fun G hG => ?_)
      refine rRun hG 99999 ?_
      refine And.intro rfl (And.intro (by first | omega | (dsimp only; omega)) (And.intro (fun c1 => ?_) (fun c1 => ?_)))
      · try dsimp only at c1
        refine rRun hG 99999 ?_
        refine rAbs hG rfl rfl lk_X2_84 (by decide) (Nat.le_of_ble_eq_true rfl) (by first | omega | (dsimp only; omega)) ?_
        refine rRun hG 99999 ?_
        refine And.intro (by first | omega | (dsimp only; omega)) (And.intro (fun c2 => ?_) (fun c2 => ?_))
        · try dsimp only at c2
          refine rRun hG 99999 ?_
          refine rIR hG rfl rfl (True.intro) ?_
          exact ⟨(pgain_no (by omega)).symm, rfl⟩
        · try dsimp only at c2
          refine rV hG (sp_X2_laterAt (uo := uo) (ux := ux) (ua := ua) (ub := t) (mo := mo) (kn := kn) (kp := kp) (v1 := v1) (v2 := v2) (uq := uq) (ur := ur) (kP := false) (hr := hr) (lt := lt) (tk := tk) (ms := ms) (pa := pa) (e := e) (by omega)) rfl rfl lk_X2_88 mf_X2_laterAt (by decide) (Nat.le_of_ble_eq_true rfl) ⟨_, _, _, rfl, rfl, rfl⟩ ?_
          rintro _ _ ⟨rfl, rfl⟩
          refine rRun hG 99999 ?_
          refine And.intro (by first | omega | (dsimp only; omega)) (And.intro (fun c4 => ?_) (fun c4 => ?_))
          · try dsimp only at c4
            refine rRun hG 99999 ?_
            refine And.intro rfl (And.intro (by first | omega | (dsimp only; omega)) (And.intro (fun c5 => ?_) (fun c5 => ?_)))
            · try dsimp only at c5
              refine rRun hG 99999 ?_
              refine rV hG (sp_X5_harmToAll (uo := uo) (ux := ux) (ua := ua) (ub := t) (v0 := (mo, kn, kp)) (v1 := v1) (v2 := v2) (up := (false, hr, lt, tk, ms, pa)) (uq := uq) (ur := ur) (k := true) (t := t) (ht := rfl) (er := e) hT (by omega)) rfl rfl lk_X2_94 mf_X5_harmToAll (by decide) (Nat.le_of_ble_eq_true rfl) ⟨_, _, _, rfl, rfl, rfl⟩ ?_
              rintro _ _ ⟨rfl, rfl⟩
              refine rRun hG 99999 ?_
              refine rV hG (sp_X2_laterAt (uo := uo) (ux := ux) (ua := ua) (ub := t) (mo := mo) (kn := kn) (kp := kp) (v1 := v1) (v2 := v2) (uq := uq) (ur := ur) (kP := false) (hr := hr) (lt := lt) (tk := tk) (ms := ms) (pa := pa) (e := e) (by omega)) rfl rfl lk_X2_88 mf_X2_laterAt (by decide) (Nat.le_of_ble_eq_true rfl) ⟨_, _, _, rfl, rfl, rfl⟩ ?_
              rintro _ _ ⟨rfl, rfl⟩
              refine rRun hG 99999 ?_
              refine rIR hG rfl rfl (True.intro) ?_
              first | exact ⟨(pgain_h (by omega) (by omega) (by omega)).symm, rfl⟩ | exact ⟨(pgain_c (by omega) (by omega) (by omega)).symm, rfl⟩
            · try dsimp only at c5
              refine rV hG (sp_X5_candlesFor (uo := uo) (ux := ux) (ua := ua) (ub := t) (v0 := (mo, kn, kp)) (v1 := v1) (v2 := v2) (up := (false, hr, lt, tk, ms, pa)) (uq := uq) (ur := ur) (k := true) (t := t) (ht := rfl) (day := day) (pace := pp) hT (by omega) (by omega)) rfl rfl lk_X2_91 mf_X5_candlesFor (by decide) (Nat.le_of_ble_eq_true rfl) ⟨_, _, _, rfl, rfl, rfl⟩ ?_
              rintro _ _ ⟨rfl, rfl⟩
              refine rRun hG 99999 ?_
              refine rRun hG 99999 ?_
              refine rV hG (sp_X2_laterAt (uo := uo) (ux := ux) (ua := ua) (ub := t) (mo := mo) (kn := kn) (kp := kp) (v1 := v1) (v2 := v2) (uq := uq) (ur := ur) (kP := false) (hr := hr) (lt := lt) (tk := tk) (ms := ms) (pa := pa) (e := e) (by omega)) rfl rfl lk_X2_88 mf_X2_laterAt (by decide) (Nat.le_of_ble_eq_true rfl) ⟨_, _, _, rfl, rfl, rfl⟩ ?_
              rintro _ _ ⟨rfl, rfl⟩
              refine rRun hG 99999 ?_
              refine rIR hG rfl rfl (True.intro) ?_
              first | exact ⟨(pgain_h (by omega) (by omega) (by omega)).symm, rfl⟩ | exact ⟨(pgain_c (by omega) (by omega) (by omega)).symm, rfl⟩
          · try dsimp only at c4
            refine rIR hG rfl rfl (True.intro) ?_
            exact ⟨(pgain_no (by omega)).symm, rfl⟩
      · try dsimp only at c1
        refine And.intro rfl (?_)
        refine rRun hG 99999 ?_
        refine rAbs hG rfl rfl lk_X2_84 (by decide) (Nat.le_of_ble_eq_true rfl) (by first | omega | (dsimp only; omega)) ?_
        refine rRun hG 99999 ?_
        refine And.intro (by first | omega | (dsimp only; omega)) (And.intro (fun c10 => ?_) (fun c10 => ?_))
        · try dsimp only at c10
          refine rRun hG 99999 ?_
          refine rIR hG rfl rfl (True.intro) ?_
          exact ⟨(pgain_no (by omega)).symm, rfl⟩
        · try dsimp only at c10
          refine rV hG (sp_X2_laterAt (uo := uo) (ux := ux) (ua := ua) (ub := t) (mo := mo) (kn := kn) (kp := kp) (v1 := v1) (v2 := v2) (uq := uq) (ur := ur) (kP := false) (hr := hr) (lt := lt) (tk := tk) (ms := ms) (pa := pa) (e := e) (by omega)) rfl rfl lk_X2_88 mf_X2_laterAt (by decide) (Nat.le_of_ble_eq_true rfl) ⟨_, _, _, rfl, rfl, rfl⟩ ?_
          rintro _ _ ⟨rfl, rfl⟩
          refine rRun hG 99999 ?_
          refine And.intro (by first | omega | (dsimp only; omega)) (And.intro (fun c12 => ?_) (fun c12 => ?_))
          · try dsimp only at c12
            refine rRun hG 99999 ?_
            refine And.intro rfl (And.intro (by first | omega | (dsimp only; omega)) (And.intro (fun c13 => ?_) (fun c13 => ?_)))
            · try dsimp only at c13
              refine rRun hG 99999 ?_
              refine rV hG (sp_X5_harmToAll (uo := uo) (ux := ux) (ua := ua) (ub := t) (v0 := (mo, kn, kp)) (v1 := v1) (v2 := v2) (up := (false, hr, lt, tk, ms, pa)) (uq := uq) (ur := ur) (k := true) (t := t) (ht := rfl) (er := e) hT (by omega)) rfl rfl lk_X2_94 mf_X5_harmToAll (by decide) (Nat.le_of_ble_eq_true rfl) ⟨_, _, _, rfl, rfl, rfl⟩ ?_
              rintro _ _ ⟨rfl, rfl⟩
              refine rRun hG 99999 ?_
              refine rV hG (sp_X2_laterAt (uo := uo) (ux := ux) (ua := ua) (ub := t) (mo := mo) (kn := kn) (kp := kp) (v1 := v1) (v2 := v2) (uq := uq) (ur := ur) (kP := false) (hr := hr) (lt := lt) (tk := tk) (ms := ms) (pa := pa) (e := e) (by omega)) rfl rfl lk_X2_88 mf_X2_laterAt (by decide) (Nat.le_of_ble_eq_true rfl) ⟨_, _, _, rfl, rfl, rfl⟩ ?_
              rintro _ _ ⟨rfl, rfl⟩
              refine rRun hG 99999 ?_
              refine rIR hG rfl rfl (True.intro) ?_
              first | exact ⟨(pgain_h (by omega) (by omega) (by omega)).symm, rfl⟩ | exact ⟨(pgain_c (by omega) (by omega) (by omega)).symm, rfl⟩
            · try dsimp only at c13
              refine rV hG (sp_X5_candlesFor (uo := uo) (ux := ux) (ua := ua) (ub := t) (v0 := (mo, kn, kp)) (v1 := v1) (v2 := v2) (up := (false, hr, lt, tk, ms, pa)) (uq := uq) (ur := ur) (k := true) (t := t) (ht := rfl) (day := day) (pace := pp) hT (by omega) (by omega)) rfl rfl lk_X2_91 mf_X5_candlesFor (by decide) (Nat.le_of_ble_eq_true rfl) ⟨_, _, _, rfl, rfl, rfl⟩ ?_
              rintro _ _ ⟨rfl, rfl⟩
              refine rRun hG 99999 ?_
              refine rRun hG 99999 ?_
              refine rV hG (sp_X2_laterAt (uo := uo) (ux := ux) (ua := ua) (ub := t) (mo := mo) (kn := kn) (kp := kp) (v1 := v1) (v2 := v2) (uq := uq) (ur := ur) (kP := false) (hr := hr) (lt := lt) (tk := tk) (ms := ms) (pa := pa) (e := e) (by omega)) rfl rfl lk_X2_88 mf_X2_laterAt (by decide) (Nat.le_of_ble_eq_true rfl) ⟨_, _, _, rfl, rfl, rfl⟩ ?_
              rintro _ _ ⟨rfl, rfl⟩
              refine rRun hG 99999 ?_
              refine rIR hG rfl rfl (True.intro) ?_
              first | exact ⟨(pgain_h (by omega) (by omega) (by omega)).symm, rfl⟩ | exact ⟨(pgain_c (by omega) (by omega) (by omega)).symm, rfl⟩
          · try dsimp only at c12
            refine rIR hG rfl rfl (True.intro) ?_
            exact ⟨(pgain_no (by omega)).symm, rfl⟩
  · skip
    cases k
    · obtain rfl : t = ua := ht
      refine SpI.of (cd := kdX2_gain) (fT := mlook flX2) (kT := mlook klX2) (kJ := mlook jlX2) mfA_X2_gain ok_X2_gain fT_X2 kT_X2 jT_X2 jdk_ok True.intro (Nat.le_of_ble_eq_true rfl) (fun G hG => ?_)
      refine rRun hG 99999 ?_
      refine And.intro rfl (And.intro (by first | omega | (dsimp only; omega)) (And.intro (fun c1 => ?_) (fun c1 => ?_)))
      · try dsimp only at c1
        refine rRun hG 99999 ?_
        refine rAbs hG rfl rfl lk_X2_84 (by decide) (Nat.le_of_ble_eq_true rfl) (by first | omega | (dsimp only; omega)) ?_
        refine rRun hG 99999 ?_
        refine And.intro (by first | omega | (dsimp only; omega)) (And.intro (fun c2 => ?_) (fun c2 => ?_))
        · try dsimp only at c2
          refine rRun hG 99999 ?_
          refine rIR hG rfl rfl (True.intro) ?_
          exact ⟨(pgain_no (by omega)).symm, rfl⟩
        · try dsimp only at c2
          refine rV hG (sp_X2_laterAt (uo := uo) (ux := ux) (ua := t) (ub := ub) (mo := mo) (kn := kn) (kp := kp) (v1 := v1) (v2 := v2) (uq := uq) (ur := ur) (kP := true) (hr := hr) (lt := lt) (tk := tk) (ms := ms) (pa := pa) (e := e) (by omega)) rfl rfl lk_X2_88 mf_X2_laterAt (by decide) (Nat.le_of_ble_eq_true rfl) ⟨_, _, _, rfl, rfl, rfl⟩ ?_
          rintro _ _ ⟨rfl, rfl⟩
          refine rRun hG 99999 ?_
          refine And.intro (by first | omega | (dsimp only; omega)) (And.intro (fun c4 => ?_) (fun c4 => ?_))
          · try dsimp only at c4
            refine rRun hG 99999 ?_
            refine And.intro rfl (And.intro (by first | omega | (dsimp only; omega)) (And.intro (fun c5 => ?_) (fun c5 => ?_)))
            · try dsimp only at c5
              refine rRun hG 99999 ?_
              refine rV hG (sp_X5_harmToAll (uo := uo) (ux := ux) (ua := t) (ub := ub) (v0 := (mo, kn, kp)) (v1 := v1) (v2 := v2) (up := (true, hr, lt, tk, ms, pa)) (uq := uq) (ur := ur) (k := false) (t := t) (ht := rfl) (er := e) hT (by omega)) rfl rfl lk_X2_94 mf_X5_harmToAll (by decide) (Nat.le_of_ble_eq_true rfl) ⟨_, _, _, rfl, rfl, rfl⟩ ?_
              rintro _ _ ⟨rfl, rfl⟩
              refine rRun hG 99999 ?_
              refine rV hG (sp_X2_laterAt (uo := uo) (ux := ux) (ua := t) (ub := ub) (mo := mo) (kn := kn) (kp := kp) (v1 := v1) (v2 := v2) (uq := uq) (ur := ur) (kP := true) (hr := hr) (lt := lt) (tk := tk) (ms := ms) (pa := pa) (e := e) (by omega)) rfl rfl lk_X2_88 mf_X2_laterAt (by decide) (Nat.le_of_ble_eq_true rfl) ⟨_, _, _, rfl, rfl, rfl⟩ ?_
              rintro _ _ ⟨rfl, rfl⟩
              refine rRun hG 99999 ?_
              refine rIR hG rfl rfl (True.intro) ?_
              first | exact ⟨(pgain_h (by omega) (by omega) (by omega)).symm, rfl⟩ | exact ⟨(pgain_c (by omega) (by omega) (by omega)).symm, rfl⟩
            · try dsimp only at c5
              refine rV hG (sp_X5_candlesFor (uo := uo) (ux := ux) (ua := t) (ub := ub) (v0 := (mo, kn, kp)) (v1 := v1) (v2 := v2) (up := (true, hr, lt, tk, ms, pa)) (uq := uq) (ur := ur) (k := false) (t := t) (ht := rfl) (day := day) (pace := pp) hT (by omega) (by omega)) rfl rfl lk_X2_91 mf_X5_candlesFor (by decide) (Nat.le_of_ble_eq_true rfl) ⟨_, _, _, rfl, rfl, rfl⟩ ?_
              rintro _ _ ⟨rfl, rfl⟩
              refine rRun hG 99999 ?_
              refine rRun hG 99999 ?_
              refine rV hG (sp_X2_laterAt (uo := uo) (ux := ux) (ua := t) (ub := ub) (mo := mo) (kn := kn) (kp := kp) (v1 := v1) (v2 := v2) (uq := uq) (ur := ur) (kP := true) (hr := hr) (lt := lt) (tk := tk) (ms := ms) (pa := pa) (e := e) (by omega)) rfl rfl lk_X2_88 mf_X2_laterAt (by decide) (Nat.le_of_ble_eq_true rfl) ⟨_, _, _, rfl, rfl, rfl⟩ ?_
              rintro _ _ ⟨rfl, rfl⟩
              refine rRun hG 99999 ?_
              refine rIR hG rfl rfl (True.intro) ?_
              first | exact ⟨(pgain_h (by omega) (by omega) (by omega)).symm, rfl⟩ | exact ⟨(pgain_c (by omega) (by omega) (by omega)).symm, rfl⟩
          · try dsimp only at c4
            refine rIR hG rfl rfl (True.intro) ?_
            exact ⟨(pgain_no (by omega)).symm, rfl⟩
      · try dsimp only at c1
        refine And.intro rfl (?_)
        refine rRun hG 99999 ?_
        refine rAbs hG rfl rfl lk_X2_84 (by decide) (Nat.le_of_ble_eq_true rfl) (by first | omega | (dsimp only; omega)) ?_
        refine rRun hG 99999 ?_
        refine And.intro (by first | omega | (dsimp only; omega)) (And.intro (fun c10 => ?_) (fun c10 => ?_))
        · try dsimp only at c10
          refine rRun hG 99999 ?_
          refine rIR hG rfl rfl (True.intro) ?_
          exact ⟨(pgain_no (by omega)).symm, rfl⟩
        · try dsimp only at c10
          refine rV hG (sp_X2_laterAt (uo := uo) (ux := ux) (ua := t) (ub := ub) (mo := mo) (kn := kn) (kp := kp) (v1 := v1) (v2 := v2) (uq := uq) (ur := ur) (kP := true) (hr := hr) (lt := lt) (tk := tk) (ms := ms) (pa := pa) (e := e) (by omega)) rfl rfl lk_X2_88 mf_X2_laterAt (by decide) (Nat.le_of_ble_eq_true rfl) ⟨_, _, _, rfl, rfl, rfl⟩ ?_
          rintro _ _ ⟨rfl, rfl⟩
          refine rRun hG 99999 ?_
          refine And.intro (by first | omega | (dsimp only; omega)) (And.intro (fun c12 => ?_) (fun c12 => ?_))
          · try dsimp only at c12
            refine rRun hG 99999 ?_
            refine And.intro rfl (And.intro (by first | omega | (dsimp only; omega)) (And.intro (fun c13 => ?_) (fun c13 => ?_)))
            · try dsimp only at c13
              refine rRun hG 99999 ?_
              refine rV hG (sp_X5_harmToAll (uo := uo) (ux := ux) (ua := t) (ub := ub) (v0 := (mo, kn, kp)) (v1 := v1) (v2 := v2) (up := (true, hr, lt, tk, ms, pa)) (uq := uq) (ur := ur) (k := false) (t := t) (ht := rfl) (er := e) hT (by omega)) rfl rfl lk_X2_94 mf_X5_harmToAll (by decide) (Nat.le_of_ble_eq_true rfl) ⟨_, _, _, rfl, rfl, rfl⟩ ?_
              rintro _ _ ⟨rfl, rfl⟩
              refine rRun hG 99999 ?_
              refine rV hG (sp_X2_laterAt (uo := uo) (ux := ux) (ua := t) (ub := ub) (mo := mo) (kn := kn) (kp := kp) (v1 := v1) (v2 := v2) (uq := uq) (ur := ur) (kP := true) (hr := hr) (lt := lt) (tk := tk) (ms := ms) (pa := pa) (e := e) (by omega)) rfl rfl lk_X2_88 mf_X2_laterAt (by decide) (Nat.le_of_ble_eq_true rfl) ⟨_, _, _, rfl, rfl, rfl⟩ ?_
              rintro _ _ ⟨rfl, rfl⟩
              refine rRun hG 99999 ?_
              refine rIR hG rfl rfl (True.intro) ?_
              first | exact ⟨(pgain_h (by omega) (by omega) (by omega)).symm, rfl⟩ | exact ⟨(pgain_c (by omega) (by omega) (by omega)).symm, rfl⟩
            · try dsimp only at c13
              refine rV hG (sp_X5_candlesFor (uo := uo) (ux := ux) (ua := t) (ub := ub) (v0 := (mo, kn, kp)) (v1 := v1) (v2 := v2) (up := (true, hr, lt, tk, ms, pa)) (uq := uq) (ur := ur) (k := false) (t := t) (ht := rfl) (day := day) (pace := pp) hT (by omega) (by omega)) rfl rfl lk_X2_91 mf_X5_candlesFor (by decide) (Nat.le_of_ble_eq_true rfl) ⟨_, _, _, rfl, rfl, rfl⟩ ?_
              rintro _ _ ⟨rfl, rfl⟩
              refine rRun hG 99999 ?_
              refine rRun hG 99999 ?_
              refine rV hG (sp_X2_laterAt (uo := uo) (ux := ux) (ua := t) (ub := ub) (mo := mo) (kn := kn) (kp := kp) (v1 := v1) (v2 := v2) (uq := uq) (ur := ur) (kP := true) (hr := hr) (lt := lt) (tk := tk) (ms := ms) (pa := pa) (e := e) (by omega)) rfl rfl lk_X2_88 mf_X2_laterAt (by decide) (Nat.le_of_ble_eq_true rfl) ⟨_, _, _, rfl, rfl, rfl⟩ ?_
              rintro _ _ ⟨rfl, rfl⟩
              refine rRun hG 99999 ?_
              refine rIR hG rfl rfl (True.intro) ?_
              first | exact ⟨(pgain_h (by omega) (by omega) (by omega)).symm, rfl⟩ | exact ⟨(pgain_c (by omega) (by omega) (by omega)).symm, rfl⟩
          · try dsimp only at c12
            refine rIR hG rfl rfl (True.intro) ?_
            exact ⟨(pgain_no (by omega)).symm, rfl⟩
    · obtain rfl : t = ub := ht
      refine SpI.of (cd := kdX2_gain) (fT := mlook flX2) (kT := mlook klX2) (kJ := mlook jlX2) mfA_X2_gain ok_X2_gain fT_X2 kT_X2 jT_X2 jdk_ok True.intro (Nat.le_of_ble_eq_true rfl) (fun G hG => ?_)
      refine rRun hG 99999 ?_
      refine And.intro rfl (And.intro (by first | omega | (dsimp only; omega)) (And.intro (fun c1 => ?_) (fun c1 => ?_)))
      · try dsimp only at c1
        refine rRun hG 99999 ?_
        refine rAbs hG rfl rfl lk_X2_84 (by decide) (Nat.le_of_ble_eq_true rfl) (by first | omega | (dsimp only; omega)) ?_
        refine rRun hG 99999 ?_
        refine And.intro (by first | omega | (dsimp only; omega)) (And.intro (fun c2 => ?_) (fun c2 => ?_))
        · try dsimp only at c2
          refine rRun hG 99999 ?_
          refine rIR hG rfl rfl (True.intro) ?_
          exact ⟨(pgain_no (by omega)).symm, rfl⟩
        · try dsimp only at c2
          refine rV hG (sp_X2_laterAt (uo := uo) (ux := ux) (ua := ua) (ub := t) (mo := mo) (kn := kn) (kp := kp) (v1 := v1) (v2 := v2) (uq := uq) (ur := ur) (kP := true) (hr := hr) (lt := lt) (tk := tk) (ms := ms) (pa := pa) (e := e) (by omega)) rfl rfl lk_X2_88 mf_X2_laterAt (by decide) (Nat.le_of_ble_eq_true rfl) ⟨_, _, _, rfl, rfl, rfl⟩ ?_
          rintro _ _ ⟨rfl, rfl⟩
          refine rRun hG 99999 ?_
          refine And.intro (by first | omega | (dsimp only; omega)) (And.intro (fun c4 => ?_) (fun c4 => ?_))
          · try dsimp only at c4
            refine rRun hG 99999 ?_
            refine And.intro rfl (And.intro (by first | omega | (dsimp only; omega)) (And.intro (fun c5 => ?_) (fun c5 => ?_)))
            · try dsimp only at c5
              refine rRun hG 99999 ?_
              refine rV hG (sp_X5_harmToAll (uo := uo) (ux := ux) (ua := ua) (ub := t) (v0 := (mo, kn, kp)) (v1 := v1) (v2 := v2) (up := (true, hr, lt, tk, ms, pa)) (uq := uq) (ur := ur) (k := true) (t := t) (ht := rfl) (er := e) hT (by omega)) rfl rfl lk_X2_94 mf_X5_harmToAll (by decide) (Nat.le_of_ble_eq_true rfl) ⟨_, _, _, rfl, rfl, rfl⟩ ?_
              rintro _ _ ⟨rfl, rfl⟩
              refine rRun hG 99999 ?_
              refine rV hG (sp_X2_laterAt (uo := uo) (ux := ux) (ua := ua) (ub := t) (mo := mo) (kn := kn) (kp := kp) (v1 := v1) (v2 := v2) (uq := uq) (ur := ur) (kP := true) (hr := hr) (lt := lt) (tk := tk) (ms := ms) (pa := pa) (e := e) (by omega)) rfl rfl lk_X2_88 mf_X2_laterAt (by decide) (Nat.le_of_ble_eq_true rfl) ⟨_, _, _, rfl, rfl, rfl⟩ ?_
              rintro _ _ ⟨rfl, rfl⟩
              refine rRun hG 99999 ?_
              refine rIR hG rfl rfl (True.intro) ?_
              first | exact ⟨(pgain_h (by omega) (by omega) (by omega)).symm, rfl⟩ | exact ⟨(pgain_c (by omega) (by omega) (by omega)).symm, rfl⟩
            · try dsimp only at c5
              refine rV hG (sp_X5_candlesFor (uo := uo) (ux := ux) (ua := ua) (ub := t) (v0 := (mo, kn, kp)) (v1 := v1) (v2 := v2) (up := (true, hr, lt, tk, ms, pa)) (uq := uq) (ur := ur) (k := true) (t := t) (ht := rfl) (day := day) (pace := pp) hT (by omega) (by omega)) rfl rfl lk_X2_91 mf_X5_candlesFor (by decide) (Nat.le_of_ble_eq_true rfl) ⟨_, _, _, rfl, rfl, rfl⟩ ?_
              rintro _ _ ⟨rfl, rfl⟩
              refine rRun hG 99999 ?_
              refine rRun hG 99999 ?_
              refine rV hG (sp_X2_laterAt (uo := uo) (ux := ux) (ua := ua) (ub := t) (mo := mo) (kn := kn) (kp := kp) (v1 := v1) (v2 := v2) (uq := uq) (ur := ur) (kP := true) (hr := hr) (lt := lt) (tk := tk) (ms := ms) (pa := pa) (e := e) (by omega)) rfl rfl lk_X2_88 mf_X2_laterAt (by decide) (Nat.le_of_ble_eq_true rfl) ⟨_, _, _, rfl, rfl, rfl⟩ ?_
              rintro _ _ ⟨rfl, rfl⟩
              refine rRun hG 99999 ?_
              refine rIR hG rfl rfl (True.intro) ?_
              first | exact ⟨(pgain_h (by omega) (by omega) (by omega)).symm, rfl⟩ | exact ⟨(pgain_c (by omega) (by omega) (by omega)).symm, rfl⟩
          · try dsimp only at c4
            refine rIR hG rfl rfl (True.intro) ?_
            exact ⟨(pgain_no (by omega)).symm, rfl⟩
      · try dsimp only at c1
        refine And.intro rfl (?_)
        refine rRun hG 99999 ?_
        refine rAbs hG rfl rfl lk_X2_84 (by decide) (Nat.le_of_ble_eq_true rfl) (by first | omega | (dsimp only; omega)) ?_
        refine rRun hG 99999 ?_
        refine And.intro (by first | omega | (dsimp only; omega)) (And.intro (fun c10 => ?_) (fun c10 => ?_))
        · try dsimp only at c10
          refine rRun hG 99999 ?_
          refine rIR hG rfl rfl (True.intro) ?_
          exact ⟨(pgain_no (by omega)).symm, rfl⟩
        · try dsimp only at c10
          refine rV hG (sp_X2_laterAt (uo := uo) (ux := ux) (ua := ua) (ub := t) (mo := mo) (kn := kn) (kp := kp) (v1 := v1) (v2 := v2) (uq := uq) (ur := ur) (kP := true) (hr := hr) (lt := lt) (tk := tk) (ms := ms) (pa := pa) (e := e) (by omega)) rfl rfl lk_X2_88 mf_X2_laterAt (by decide) (Nat.le_of_ble_eq_true rfl) ⟨_, _, _, rfl, rfl, rfl⟩ ?_
          rintro _ _ ⟨rfl, rfl⟩
          refine rRun hG 99999 ?_
          refine And.intro (by first | omega | (dsimp only; omega)) (And.intro (fun c12 => ?_) (fun c12 => ?_))
          · try dsimp only at c12
            refine rRun hG 99999 ?_
            refine And.intro rfl (And.intro (by first | omega | (dsimp only; omega)) (And.intro (fun c13 => ?_) (fun c13 => ?_)))
            · try dsimp only at c13
              refine rRun hG 99999 ?_
              refine rV hG (sp_X5_harmToAll (uo := uo) (ux := ux) (ua := ua) (ub := t) (v0 := (mo, kn, kp)) (v1 := v1) (v2 := v2) (up := (true, hr, lt, tk, ms, pa)) (uq := uq) (ur := ur) (k := true) (t := t) (ht := rfl) (er := e) hT (by omega)) rfl rfl lk_X2_94 mf_X5_harmToAll (by decide) (Nat.le_of_ble_eq_true rfl) ⟨_, _, _, rfl, rfl, rfl⟩ ?_
              rintro _ _ ⟨rfl, rfl⟩
              refine rRun hG 99999 ?_
              refine rV hG (sp_X2_laterAt (uo := uo) (ux := ux) (ua := ua) (ub := t) (mo := mo) (kn := kn) (kp := kp) (v1 := v1) (v2 := v2) (uq := uq) (ur := ur) (kP := true) (hr := hr) (lt := lt) (tk := tk) (ms := ms) (pa := pa) (e := e) (by omega)) rfl rfl lk_X2_88 mf_X2_laterAt (by decide) (Nat.le_of_ble_eq_true rfl) ⟨_, _, _, rfl, rfl, rfl⟩ ?_
              rintro _ _ ⟨rfl, rfl⟩
              refine rRun hG 99999 ?_
              refine rIR hG rfl rfl (True.intro) ?_
              first | exact ⟨(pgain_h (by omega) (by omega) (by omega)).symm, rfl⟩ | exact ⟨(pgain_c (by omega) (by omega) (by omega)).symm, rfl⟩
            · try dsimp only at c13
              refine rV hG (sp_X5_candlesFor (uo := uo) (ux := ux) (ua := ua) (ub := t) (v0 := (mo, kn, kp)) (v1 := v1) (v2 := v2) (up := (true, hr, lt, tk, ms, pa)) (uq := uq) (ur := ur) (k := true) (t := t) (ht := rfl) (day := day) (pace := pp) hT (by omega) (by omega)) rfl rfl lk_X2_91 mf_X5_candlesFor (by decide) (Nat.le_of_ble_eq_true rfl) ⟨_, _, _, rfl, rfl, rfl⟩ ?_
              rintro _ _ ⟨rfl, rfl⟩
              refine rRun hG 99999 ?_
              refine rRun hG 99999 ?_
              refine rV hG (sp_X2_laterAt (uo := uo) (ux := ux) (ua := ua) (ub := t) (mo := mo) (kn := kn) (kp := kp) (v1 := v1) (v2 := v2) (uq := uq) (ur := ur) (kP := true) (hr := hr) (lt := lt) (tk := tk) (ms := ms) (pa := pa) (e := e) (by omega)) rfl rfl lk_X2_88 mf_X2_laterAt (by decide) (Nat.le_of_ble_eq_true rfl) ⟨_, _, _, rfl, rfl, rfl⟩ ?_
              rintro _ _ ⟨rfl, rfl⟩
              refine rRun hG 99999 ?_
              refine rIR hG rfl rfl (True.intro) ?_
              first | exact ⟨(pgain_h (by omega) (by omega) (by omega)).symm, rfl⟩ | exact ⟨(pgain_c (by omega) (by omega) (by omega)).symm, rfl⟩
          · try dsimp only at c12
            refine rIR hG rfl rfl (True.intro) ?_
            exact ⟨(pgain_no (by omega)).symm, rfl⟩
theorem pgain_in {tk : Int} {t : TD} {lt : FN} {day p e : Int} (hT : TOK t) (hl : ∀ e, -1000000 ≤ plat lt e ∧ plat lt e ≤ 100000) : -1100000 ≤ pgain tk t lt day p e ∧ pgain tk t lt day p e ≤ 200000 := by
  have h1 := hl e
  have hT2 := hT.2.1
  have hT3 := hT.2.2.1
  have hc := cndl_in hT (day := day) (p := p) (tNB t).toNat (by omega)
  unfold pgain
  by_cases q : (if tk = 0 then 9 else tLim t) < max e (-e) ∨ plat lt e ≤ -1000000
  · rw [if_pos q]; omega
  · rw [if_neg q]
    have he : -9 ≤ e ∧ e ≤ 9 := by
      by_cases w : 0 ≤ e + 9 ∧ e + 9 < 19
      · omega
      · have : plat lt e = -1000000 := if_neg w
        omega
    have hs := hrmS_in hT he (tNT t).toNat (by omega)
    split <;> omega
set_option maxRecDepth 20000 in
set_option maxHeartbeats 4000000 in
theorem sp_X2_best {uo : UD} {ux : XD} {ua ub : TD} {mo : FN} {kn kp : Int} {v1 v2 : SD} {kP : Bool} {hr lt : FN} {tk ms pa : Int} {uq : PD} {ur : HD} {k : Bool} {t : TD} (ht : t = tsel k ua ub) {day e : Int} (hT : TOK t) (h1 : 0 ≤ day ∧ day ≤ 100) (h3 : -9 ≤ e ∧ e ≤ 9) (h4 : tk = 0 ∨ tk = 1) (hl : ∀ e, -1000000 ≤ plat lt e ∧ plat lt e ≤ 100000) : SpI l 5 yX2_best cX2_best 7 (some .int) [mr 17, mr (tix k), mi day, mi e] (hC uo ux ua ub (mo, kn, kp) v1 v2 (kP, hr, lt, tk, ms, pa) uq ur) (fun z h => z = (foldB (fun q => pgain tk t lt day q (e + q)) (-1000000) 6).1 ∧ h = hC uo ux ua ub (mo, kn, kp) v1 v2 (kP, hr, lt, tk, ms, (foldB (fun q => pgain tk t lt day q (e + q)) (-1000000) 6).2) uq ur) := by
  cases kP
  · skip
    cases k
    · obtain rfl : t = ua := ht
      refine SpI.of (cd := kdX2_best) (fT := mlook flX2) (kT := mlook klX2) (kJ := mlook jlX2) mfA_X2_best ok_X2_best fT_X2 kT_X2 jT_X2 jdk_ok True.intro (Nat.le_of_ble_eq_true rfl) (fun G hG => ?_)
      refine rRun hG 14 ?_
      refine And.intro ⟨rfl, by exact Nat.le_of_ble_eq_true rfl, by exact True.intro⟩ (?_)
      have J14 : ∀ (n : Nat) (i : Nat), i ≤ 6 → 6 - i < n → G 14 [some (mr 17), some (mr 3), some (mi day), some (mi e), some (mi (foldB (fun q => pgain tk t lt day q (e + q)) (-1000000) i).1), some (mi ((i : Int) - 2)), none] [] (hC uo ux t ub (mo, kn, kp) v1 v2 (false, hr, lt, tk, ms, (foldB (fun q => pgain tk t lt day q (e + q)) (-1000000) i).2) uq ur) := by
        intro n
        induction n with
        | zero => intro i _ hm; exact absurd hm (Nat.not_lt_zero _)
        | succ n ih =>
          intro i hinv hm
          have hb1 := foldB_in (g := fun q => pgain tk t lt day q (e + q)) (b0 := -1000000) (M := 200000) (by omega) (fun q => (pgain_in hT hl).2) i
          refine rRun hG 99999 ?_
          refine And.intro (by first | omega | (dsimp only; omega)) (And.intro (fun c1 => ?_) (fun c1 => ?_))
          · try dsimp only at c1
            refine rRun hG 99999 ?_
            refine rIR hG rfl rfl (True.intro) ?_
            obtain rfl : i = 6 := by omega
            exact ⟨rfl, rfl⟩
          · try dsimp only at c1
            refine rV hG (sp_X2_gain (uo := uo) (ux := ux) (ua := t) (ub := ub) (mo := mo) (kn := kn) (kp := kp) (v1 := v1) (v2 := v2) (uq := uq) (ur := ur) (kP := false) (hr := hr) (lt := lt) (tk := tk) (ms := ms) (pa := (foldB (fun q => pgain tk t lt day q (e + q)) (-1000000) i).2) (k := false) (t := t) (ht := rfl) (day := day) (pp := (i : Int) - 2) (e := e + ((i : Int) - 2)) hT h1 (by omega) (by omega) h4 (hl _)) rfl rfl lk_X2_75 mf_X2_gain (by decide) (Nat.le_of_ble_eq_true rfl) ⟨_, _, _, rfl, rfl, rfl⟩ ?_
            rintro _ _ ⟨rfl, rfl⟩
            have hb2 := pgain_in (day := day) (p := (i : Int) - 2) (e := e + ((i : Int) - 2)) (tk := tk) hT hl
            refine rRun hG 99999 ?_
            refine And.intro (by first | omega | (dsimp only; omega)) (And.intro (fun cc => ?_) (fun cc => ?_))
            · try dsimp only at cc
              refine rRun hG 99999 ?_
              have e9 := ih (i + 1) (by omega) (by omega)
              rw [foldB_s] at e9
              first | rw [if_pos (Int.not_le.mp cc)] at e9 | rw [if_neg (Int.not_lt.mpr cc)] at e9
              refine rLess hG ?_ e9
              exact ⟨rfl, rfl, rfl, rfl, rfl, congrArg mi (by omega), True.intro⟩
            · try dsimp only at cc
              refine And.intro ⟨rfl, by exact Nat.le_of_ble_eq_true rfl, by exact True.intro⟩ (?_)
              have e9 := ih (i + 1) (by omega) (by omega)
              rw [foldB_s] at e9
              first | rw [if_pos (Int.not_le.mp cc)] at e9 | rw [if_neg (Int.not_lt.mpr cc)] at e9
              refine rLess hG ?_ e9
              exact ⟨rfl, rfl, rfl, rfl, rfl, congrArg mi (by omega), True.intro⟩
      exact rLess hG (L' := [some (mr 17), some (mr 3), some (mi day), some (mi e), some (mi (foldB (fun q => pgain tk t lt day q (e + q)) (-1000000) 0).1), some (mi (((0 : Nat) : Int) - 2)), none]) ⟨rfl, rfl, rfl, rfl, rfl, rfl, True.intro⟩ (J14 _ 0 (by omega) (Nat.lt_succ_self _))
    · obtain rfl : t = ub := ht
      refine SpI.of (cd := kdX2_best) (fT := mlook flX2) (kT := mlook klX2) (kJ := mlook jlX2) mfA_X2_best ok_X2_best fT_X2 kT_X2 jT_X2 jdk_ok True.intro (Nat.le_of_ble_eq_true rfl) (fun G hG => ?_)
      refine rRun hG 14 ?_
      refine And.intro ⟨rfl, by exact Nat.le_of_ble_eq_true rfl, by exact True.intro⟩ (?_)
      have J14 : ∀ (n : Nat) (i : Nat), i ≤ 6 → 6 - i < n → G 14 [some (mr 17), some (mr 7), some (mi day), some (mi e), some (mi (foldB (fun q => pgain tk t lt day q (e + q)) (-1000000) i).1), some (mi ((i : Int) - 2)), none] [] (hC uo ux ua t (mo, kn, kp) v1 v2 (false, hr, lt, tk, ms, (foldB (fun q => pgain tk t lt day q (e + q)) (-1000000) i).2) uq ur) := by
        intro n
        induction n with
        | zero => intro i _ hm; exact absurd hm (Nat.not_lt_zero _)
        | succ n ih =>
          intro i hinv hm
          have hb1 := foldB_in (g := fun q => pgain tk t lt day q (e + q)) (b0 := -1000000) (M := 200000) (by omega) (fun q => (pgain_in hT hl).2) i
          refine rRun hG 99999 ?_
          refine And.intro (by first | omega | (dsimp only; omega)) (And.intro (fun c1 => ?_) (fun c1 => ?_))
          · try dsimp only at c1
            refine rRun hG 99999 ?_
            refine rIR hG rfl rfl (True.intro) ?_
            obtain rfl : i = 6 := by omega
            exact ⟨rfl, rfl⟩
          · try dsimp only at c1
            refine rV hG (sp_X2_gain (uo := uo) (ux := ux) (ua := ua) (ub := t) (mo := mo) (kn := kn) (kp := kp) (v1 := v1) (v2 := v2) (uq := uq) (ur := ur) (kP := false) (hr := hr) (lt := lt) (tk := tk) (ms := ms) (pa := (foldB (fun q => pgain tk t lt day q (e + q)) (-1000000) i).2) (k := true) (t := t) (ht := rfl) (day := day) (pp := (i : Int) - 2) (e := e + ((i : Int) - 2)) hT h1 (by omega) (by omega) h4 (hl _)) rfl rfl lk_X2_75 mf_X2_gain (by decide) (Nat.le_of_ble_eq_true rfl) ⟨_, _, _, rfl, rfl, rfl⟩ ?_
            rintro _ _ ⟨rfl, rfl⟩
            have hb2 := pgain_in (day := day) (p := (i : Int) - 2) (e := e + ((i : Int) - 2)) (tk := tk) hT hl
            refine rRun hG 99999 ?_
            refine And.intro (by first | omega | (dsimp only; omega)) (And.intro (fun cc => ?_) (fun cc => ?_))
            · try dsimp only at cc
              refine rRun hG 99999 ?_
              have e9 := ih (i + 1) (by omega) (by omega)
              rw [foldB_s] at e9
              first | rw [if_pos (Int.not_le.mp cc)] at e9 | rw [if_neg (Int.not_lt.mpr cc)] at e9
              refine rLess hG ?_ e9
              exact ⟨rfl, rfl, rfl, rfl, rfl, congrArg mi (by omega), True.intro⟩
            · try dsimp only at cc
              refine And.intro ⟨rfl, by exact Nat.le_of_ble_eq_true rfl, by exact True.intro⟩ (?_)
              have e9 := ih (i + 1) (by omega) (by omega)
              rw [foldB_s] at e9
              first | rw [if_pos (Int.not_le.mp cc)] at e9 | rw [if_neg (Int.not_lt.mpr cc)] at e9
              refine rLess hG ?_ e9
              exact ⟨rfl, rfl, rfl, rfl, rfl, congrArg mi (by omega), True.intro⟩
      exact rLess hG (L' := [some (mr 17), some (mr 7), some (mi day), some (mi e), some (mi (foldB (fun q => pgain tk t lt day q (e + q)) (-1000000) 0).1), some (mi (((0 : Nat) : Int) - 2)), none]) ⟨rfl, rfl, rfl, rfl, rfl, rfl, True.intro⟩ (J14 _ 0 (by omega) (Nat.lt_succ_self _))
  · skip
    cases k
    · obtain rfl : t = ua := ht
      refine SpI.of (cd := kdX2_best) (fT := mlook flX2) (kT := mlook klX2) (kJ := mlook jlX2) mfA_X2_best ok_X2_best fT_X2 kT_X2 jT_X2 jdk_ok True.intro (Nat.le_of_ble_eq_true rfl) (fun G hG => ?_)
      refine rRun hG 14 ?_
      refine And.intro ⟨rfl, by exact Nat.le_of_ble_eq_true rfl, by exact True.intro⟩ (?_)
      have J14 : ∀ (n : Nat) (i : Nat), i ≤ 6 → 6 - i < n → G 14 [some (mr 17), some (mr 3), some (mi day), some (mi e), some (mi (foldB (fun q => pgain tk t lt day q (e + q)) (-1000000) i).1), some (mi ((i : Int) - 2)), none] [] (hC uo ux t ub (mo, kn, kp) v1 v2 (true, hr, lt, tk, ms, (foldB (fun q => pgain tk t lt day q (e + q)) (-1000000) i).2) uq ur) := by
        intro n
        induction n with
        | zero => intro i _ hm; exact absurd hm (Nat.not_lt_zero _)
        | succ n ih =>
          intro i hinv hm
          have hb1 := foldB_in (g := fun q => pgain tk t lt day q (e + q)) (b0 := -1000000) (M := 200000) (by omega) (fun q => (pgain_in hT hl).2) i
          refine rRun hG 99999 ?_
          refine And.intro (by first | omega | (dsimp only; omega)) (And.intro (fun c1 => ?_) (fun c1 => ?_))
          · try dsimp only at c1
            refine rRun hG 99999 ?_
            refine rIR hG rfl rfl (True.intro) ?_
            obtain rfl : i = 6 := by omega
            exact ⟨rfl, rfl⟩
          · try dsimp only at c1
            refine rV hG (sp_X2_gain (uo := uo) (ux := ux) (ua := t) (ub := ub) (mo := mo) (kn := kn) (kp := kp) (v1 := v1) (v2 := v2) (uq := uq) (ur := ur) (kP := true) (hr := hr) (lt := lt) (tk := tk) (ms := ms) (pa := (foldB (fun q => pgain tk t lt day q (e + q)) (-1000000) i).2) (k := false) (t := t) (ht := rfl) (day := day) (pp := (i : Int) - 2) (e := e + ((i : Int) - 2)) hT h1 (by omega) (by omega) h4 (hl _)) rfl rfl lk_X2_75 mf_X2_gain (by decide) (Nat.le_of_ble_eq_true rfl) ⟨_, _, _, rfl, rfl, rfl⟩ ?_
            rintro _ _ ⟨rfl, rfl⟩
            have hb2 := pgain_in (day := day) (p := (i : Int) - 2) (e := e + ((i : Int) - 2)) (tk := tk) hT hl
            refine rRun hG 99999 ?_
            refine And.intro (by first | omega | (dsimp only; omega)) (And.intro (fun cc => ?_) (fun cc => ?_))
            · try dsimp only at cc
              refine rRun hG 99999 ?_
              have e9 := ih (i + 1) (by omega) (by omega)
              rw [foldB_s] at e9
              first | rw [if_pos (Int.not_le.mp cc)] at e9 | rw [if_neg (Int.not_lt.mpr cc)] at e9
              refine rLess hG ?_ e9
              exact ⟨rfl, rfl, rfl, rfl, rfl, congrArg mi (by omega), True.intro⟩
            · try dsimp only at cc
              refine And.intro ⟨rfl, by exact Nat.le_of_ble_eq_true rfl, by exact True.intro⟩ (?_)
              have e9 := ih (i + 1) (by omega) (by omega)
              rw [foldB_s] at e9
              first | rw [if_pos (Int.not_le.mp cc)] at e9 | rw [if_neg (Int.not_lt.mpr cc)] at e9
              refine rLess hG ?_ e9
              exact ⟨rfl, rfl, rfl, rfl, rfl, congrArg mi (by omega), True.intro⟩
      exact rLess hG (L' := [some (mr 17), some (mr 3), some (mi day), some (mi e), some (mi (foldB (fun q => pgain tk t lt day q (e + q)) (-1000000) 0).1), some (mi (((0 : Nat) : Int) - 2)), none]) ⟨rfl, rfl, rfl, rfl, rfl, rfl, True.intro⟩ (J14 _ 0 (by omega) (Nat.lt_succ_self _))
    · obtain rfl : t = ub := ht
      refine SpI.of (cd := kdX2_best) (fT := mlook flX2) (kT := mlook klX2) (kJ := mlook jlX2) mfA_X2_best ok_X2_best fT_X2 kT_X2 jT_X2 jdk_ok True.intro (Nat.le_of_ble_eq_true rfl) (fun G hG => ?_)
      refine rRun hG 14 ?_
      refine And.intro ⟨rfl, by exact Nat.le_of_ble_eq_true rfl, by exact True.intro⟩ (?_)
      have J14 : ∀ (n : Nat) (i : Nat), i ≤ 6 → 6 - i < n → G 14 [some (mr 17), some (mr 7), some (mi day), some (mi e), some (mi (foldB (fun q => pgain tk t lt day q (e + q)) (-1000000) i).1), some (mi ((i : Int) - 2)), none] [] (hC uo ux ua t (mo, kn, kp) v1 v2 (true, hr, lt, tk, ms, (foldB (fun q => pgain tk t lt day q (e + q)) (-1000000) i).2) uq ur) := by
        intro n
        induction n with
        | zero => intro i _ hm; exact absurd hm (Nat.not_lt_zero _)
        | succ n ih =>
          intro i hinv hm
          have hb1 := foldB_in (g := fun q => pgain tk t lt day q (e + q)) (b0 := -1000000) (M := 200000) (by omega) (fun q => (pgain_in hT hl).2) i
          refine rRun hG 99999 ?_
          refine And.intro (by first | omega | (dsimp only; omega)) (And.intro (fun c1 => ?_) (fun c1 => ?_))
          · try dsimp only at c1
            refine rRun hG 99999 ?_
            refine rIR hG rfl rfl (True.intro) ?_
            obtain rfl : i = 6 := by omega
            exact ⟨rfl, rfl⟩
          · try dsimp only at c1
            refine rV hG (sp_X2_gain (uo := uo) (ux := ux) (ua := ua) (ub := t) (mo := mo) (kn := kn) (kp := kp) (v1 := v1) (v2 := v2) (uq := uq) (ur := ur) (kP := true) (hr := hr) (lt := lt) (tk := tk) (ms := ms) (pa := (foldB (fun q => pgain tk t lt day q (e + q)) (-1000000) i).2) (k := true) (t := t) (ht := rfl) (day := day) (pp := (i : Int) - 2) (e := e + ((i : Int) - 2)) hT h1 (by omega) (by omega) h4 (hl _)) rfl rfl lk_X2_75 mf_X2_gain (by decide) (Nat.le_of_ble_eq_true rfl) ⟨_, _, _, rfl, rfl, rfl⟩ ?_
            rintro _ _ ⟨rfl, rfl⟩
            have hb2 := pgain_in (day := day) (p := (i : Int) - 2) (e := e + ((i : Int) - 2)) (tk := tk) hT hl
            refine rRun hG 99999 ?_
            refine And.intro (by first | omega | (dsimp only; omega)) (And.intro (fun cc => ?_) (fun cc => ?_))
            · try dsimp only at cc
              refine rRun hG 99999 ?_
              have e9 := ih (i + 1) (by omega) (by omega)
              rw [foldB_s] at e9
              first | rw [if_pos (Int.not_le.mp cc)] at e9 | rw [if_neg (Int.not_lt.mpr cc)] at e9
              refine rLess hG ?_ e9
              exact ⟨rfl, rfl, rfl, rfl, rfl, congrArg mi (by omega), True.intro⟩
            · try dsimp only at cc
              refine And.intro ⟨rfl, by exact Nat.le_of_ble_eq_true rfl, by exact True.intro⟩ (?_)
              have e9 := ih (i + 1) (by omega) (by omega)
              rw [foldB_s] at e9
              first | rw [if_pos (Int.not_le.mp cc)] at e9 | rw [if_neg (Int.not_lt.mpr cc)] at e9
              refine rLess hG ?_ e9
              exact ⟨rfl, rfl, rfl, rfl, rfl, congrArg mi (by omega), True.intro⟩
      exact rLess hG (L' := [some (mr 17), some (mr 7), some (mi day), some (mi e), some (mi (foldB (fun q => pgain tk t lt day q (e + q)) (-1000000) 0).1), some (mi (((0 : Nat) : Int) - 2)), none]) ⟨rfl, rfl, rfl, rfl, rfl, rfl, True.intro⟩ (J14 _ 0 (by omega) (Nat.lt_succ_self _))
end WALKS
