/-! Odds -/
section WALKS
variable {l : Launch}
def olat (f : FN) (e r : Int) : Int := if 0 ≤ r ∧ r < 50 ∧ 0 ≤ (e + 9) * 50 + r ∧ (e + 9) * 50 + r < 950 then f ((e + 9) * 50 + r).toNat else 0
def otrn (t : TD) (lt : FN) (day e r : Int) : Int :=
  if e < -9 ∨ 9 < e then -1
  else if max e (-e) ≤ tLim t then 10 * olat lt e (max 0 r)
  else (if 0 ≤ day ∧ day < tDay t ∧ day < 14 then tSun t day.toNat else -1) * olat lt 0 (min 99 (max 0 r + tAdd t)) + (10 - (if 0 ≤ day ∧ day < tDay t ∧ day < 14 then tSun t day.toNat else -1)) * olat lt e (max 0 r)
theorem otrn_c {t : TD} {lt : FN} {day e r : Int} (h1 : ¬ (e < -9 ∨ 9 < e)) (h2 : ¬ max e (-e) ≤ tLim t) : otrn t lt day e r = (if 0 ≤ day ∧ day < tDay t ∧ day < 14 then tSun t day.toNat else -1) * olat lt 0 (min 99 (max 0 r + tAdd t)) + (10 - (if 0 ≤ day ∧ day < tDay t ∧ day < 14 then tSun t day.toNat else -1)) * olat lt e (max 0 r) := by
  unfold otrn; rw [if_neg h1, if_neg h2]
theorem otrn_b {t : TD} {lt : FN} {day e r : Int} (h1 : ¬ (e < -9 ∨ 9 < e)) (h2 : max e (-e) ≤ tLim t) : otrn t lt day e r = 10 * olat lt e (max 0 r) := by
  unfold otrn; rw [if_neg h1, if_pos h2]
set_option maxRecDepth 20000 in
set_option maxHeartbeats 800000 in
theorem sp_X1_laterAt {uo : UD} {ux : XD} {ua ub : TD} {v0 v1 v2 : SD} {up : PD} {kO : Bool} {hr lt : FN} {un lw pa : Int} {ur : HD} {e w : Int} (h1 : -1000 ≤ e ∧ e ≤ 1000) (h2 : -10000 ≤ w ∧ w ≤ 10000) : SpI l 1 yX1_laterAt cX1_laterAt 4 (some .int) [mr 20, mi e, mi w] (hC uo ux ua ub v0 v1 v2 up (kO, hr, lt, un, lw, pa) ur) (fun z h => z = olat lt e w ∧ h = hC uo ux ua ub v0 v1 v2 up (kO, hr, lt, un, lw, pa) ur) := by
  cases kO
  · skip
    refine SpI.of (cd := kdX1_laterAt) (fT := mlook flX1) (kT := mlook klX1) (kJ := mlook jlX1) mfA_X1_laterAt ok_X1_laterAt fT_X1 kT_X1 jT_X1 jdk_ok True.intro (Nat.le_of_ble_eq_true rfl) (fun G hG => ?_)
    refine rRun hG 99999 ?_
    refine And.intro (by first | omega | (dsimp only; omega)) (And.intro (fun c1 => ?_) (fun c1 => ?_))
    · try dsimp only at c1
      refine rRun hG 99999 ?_
      refine rIR hG rfl rfl (True.intro) ?_
      refine ⟨?_, rfl⟩
      unfold olat
      first | (rw [if_pos (by omega)]; rfl) | (rw [if_neg (by omega)])
    · try dsimp only at c1
      refine And.intro (by first | omega | (dsimp only; omega)) (And.intro (fun c2 => ?_) (fun c2 => ?_))
      · try dsimp only at c2
        refine rRun hG 99999 ?_
        refine And.intro (by first | omega | (dsimp only; omega)) (And.intro (fun c3 => ?_) (fun c3 => ?_))
        · try dsimp only at c3
          refine rRun hG 99999 ?_
          refine rIR hG rfl rfl (True.intro) ?_
          refine ⟨?_, rfl⟩
          unfold olat
          first | (rw [if_pos (by omega)]; rfl) | (rw [if_neg (by omega)])
        · try dsimp only at c3
          refine And.intro rfl (And.intro (by decide) (And.intro (by first | omega | (dsimp only; omega)) (And.intro (fun c4 => ?_) (fun c4 => ?_))))
          · try dsimp only at c4
            refine rRun hG 99999 ?_
            refine rIR hG rfl rfl (True.intro) ?_
            refine ⟨?_, rfl⟩
            unfold olat
            first | (rw [if_pos (by omega)]; rfl) | (rw [if_neg (by omega)])
          · try dsimp only at c4
            refine And.intro rfl (And.intro (by first | omega | (dsimp only; omega)) (?_))
            refine rIR hG rfl rfl (True.intro) ?_
            refine ⟨?_, rfl⟩
            unfold olat
            first | (rw [if_pos (by omega)]; rfl) | (rw [if_neg (by omega)])
      · try dsimp only at c2
        refine rIR hG rfl rfl (True.intro) ?_
        refine ⟨?_, rfl⟩
        unfold olat
        first | (rw [if_pos (by omega)]; rfl) | (rw [if_neg (by omega)])
  · skip
    refine SpI.of (cd := kdX1_laterAt) (fT := mlook flX1) (kT := mlook klX1) (kJ := mlook jlX1) mfA_X1_laterAt ok_X1_laterAt fT_X1 kT_X1 jT_X1 jdk_ok True.intro (Nat.le_of_ble_eq_true rfl) (fun G hG => ?_)
    refine rRun hG 99999 ?_
    refine And.intro (by first | omega | (dsimp only; omega)) (And.intro (fun c1 => ?_) (fun c1 => ?_))
    · try dsimp only at c1
      refine rRun hG 99999 ?_
      refine rIR hG rfl rfl (True.intro) ?_
      refine ⟨?_, rfl⟩
      unfold olat
      first | (rw [if_pos (by omega)]; rfl) | (rw [if_neg (by omega)])
    · try dsimp only at c1
      refine And.intro (by first | omega | (dsimp only; omega)) (And.intro (fun c2 => ?_) (fun c2 => ?_))
      · try dsimp only at c2
        refine rRun hG 99999 ?_
        refine And.intro (by first | omega | (dsimp only; omega)) (And.intro (fun c3 => ?_) (fun c3 => ?_))
        · try dsimp only at c3
          refine rRun hG 99999 ?_
          refine rIR hG rfl rfl (True.intro) ?_
          refine ⟨?_, rfl⟩
          unfold olat
          first | (rw [if_pos (by omega)]; rfl) | (rw [if_neg (by omega)])
        · try dsimp only at c3
          refine And.intro rfl (And.intro (by decide) (And.intro (by first | omega | (dsimp only; omega)) (And.intro (fun c4 => ?_) (fun c4 => ?_))))
          · try dsimp only at c4
            refine rRun hG 99999 ?_
            refine rIR hG rfl rfl (True.intro) ?_
            refine ⟨?_, rfl⟩
            unfold olat
            first | (rw [if_pos (by omega)]; rfl) | (rw [if_neg (by omega)])
          · try dsimp only at c4
            refine And.intro rfl (And.intro (by first | omega | (dsimp only; omega)) (?_))
            refine rIR hG rfl rfl (True.intro) ?_
            refine ⟨?_, rfl⟩
            unfold olat
            first | (rw [if_pos (by omega)]; rfl) | (rw [if_neg (by omega)])
      · try dsimp only at c2
        refine rIR hG rfl rfl (True.intro) ?_
        refine ⟨?_, rfl⟩
        unfold olat
        first | (rw [if_pos (by omega)]; rfl) | (rw [if_neg (by omega)])
set_option maxRecDepth 20000 in
set_option maxHeartbeats 800000 in
theorem sp_X1_put {uo : UD} {ux : XD} {ua ub : TD} {v0 v1 v2 : SD} {up : PD} {kO : Bool} {hr lt : FN} {un lw pa : Int} {ur : HD} {e w v : Int} (h1 : -1000 ≤ e ∧ e ≤ 1000) (h2 : -10000 ≤ w ∧ w ≤ 10000) : SpV l 1 yX1_put cX1_put 5 none [mr 20, mi e, mi w, mi v] (hC uo ux ua ub v0 v1 v2 up (kO, hr, lt, un, lw, pa) ur) (fun h => h = hC uo ux ua ub v0 v1 v2 up (kO, if 0 ≤ (e + 9) * 50 + w ∧ (e + 9) * 50 + w < 950 then mup hr ((e + 9) * 50 + w).toNat v else hr, lt, un, lw, pa) ur) := by
  cases kO
  · skip
    refine SpV.of (cd := kdX1_put) (fT := mlook flX1) (kT := mlook klX1) (kJ := mlook jlX1) mfA_X1_put ok_X1_put fT_X1 kT_X1 jT_X1 jdk_ok True.intro (Nat.le_of_ble_eq_true rfl) (fun G hG => ?_)
    refine rRun hG 99999 ?_
    refine And.intro (by first | omega | (dsimp only; omega)) (And.intro (fun c1 => ?_) (fun c1 => ?_))
    · try dsimp only at c1
      refine rVR hG rfl rfl rfl ?_
      first | (rw [if_pos (by omega)]; rfl) | (rw [if_neg (by omega)])
    · try dsimp only at c1
      refine And.intro rfl (And.intro (by decide) (And.intro (by first | omega | (dsimp only; omega)) (And.intro (fun c2 => ?_) (fun c2 => ?_))))
      · try dsimp only at c2
        refine rVR hG rfl rfl rfl ?_
        first | (rw [if_pos (by omega)]; rfl) | (rw [if_neg (by omega)])
      · try dsimp only at c2
        refine And.intro rfl (And.intro (by first | omega | (dsimp only; omega)) (?_))
        refine rVR hG rfl rfl rfl ?_
        first | (rw [if_pos (by omega)]; rfl) | (rw [if_neg (by omega)])
  · skip
    refine SpV.of (cd := kdX1_put) (fT := mlook flX1) (kT := mlook klX1) (kJ := mlook jlX1) mfA_X1_put ok_X1_put fT_X1 kT_X1 jT_X1 jdk_ok True.intro (Nat.le_of_ble_eq_true rfl) (fun G hG => ?_)
    refine rRun hG 99999 ?_
    refine And.intro (by first | omega | (dsimp only; omega)) (And.intro (fun c1 => ?_) (fun c1 => ?_))
    · try dsimp only at c1
      refine rVR hG rfl rfl rfl ?_
      first | (rw [if_pos (by omega)]; rfl) | (rw [if_neg (by omega)])
    · try dsimp only at c1
      refine And.intro rfl (And.intro (by decide) (And.intro (by first | omega | (dsimp only; omega)) (And.intro (fun c2 => ?_) (fun c2 => ?_))))
      · try dsimp only at c2
        refine rVR hG rfl rfl rfl ?_
        first | (rw [if_pos (by omega)]; rfl) | (rw [if_neg (by omega)])
      · try dsimp only at c2
        refine And.intro rfl (And.intro (by first | omega | (dsimp only; omega)) (?_))
        refine rVR hG rfl rfl rfl ?_
        first | (rw [if_pos (by omega)]; rfl) | (rw [if_neg (by omega)])
set_option maxRecDepth 20000 in
set_option maxHeartbeats 800000 in
theorem sp_X1_swapRows {uo : UD} {ux : XD} {ua ub : TD} {v0 v1 v2 : SD} {up : PD} {kO : Bool} {hr lt : FN} {un lw pa : Int} {ur : HD}   : SpV l 1 yX1_swapRows cX1_swapRows 2 none [mr 20] (hC uo ux ua ub v0 v1 v2 up (kO, hr, lt, un, lw, pa) ur) (fun h => h = hC uo ux ua ub v0 v1 v2 up (!kO, lt, hr, un, lw, pa) ur) := by
  cases kO
  · skip
    refine SpV.of (cd := kdX1_swapRows) (fT := mlook flX1) (kT := mlook klX1) (kJ := mlook jlX1) mfA_X1_swapRows ok_X1_swapRows fT_X1 kT_X1 jT_X1 jdk_ok True.intro (Nat.le_of_ble_eq_true rfl) (fun G hG => ?_)
    refine rRun hG 99999 ?_
    refine And.intro rfl (And.intro rfl (And.intro ⟨rfl, by exact Nat.le_of_ble_eq_true rfl, by first | exact True.intro | exact Or.inl rfl | exact Or.inr rfl⟩ (And.intro ⟨rfl, by exact Nat.le_of_ble_eq_true rfl, by first | exact True.intro | exact Or.inl rfl | exact Or.inr rfl⟩ (?_))))
    refine rVR hG rfl rfl rfl ?_
    rfl
  · skip
    refine SpV.of (cd := kdX1_swapRows) (fT := mlook flX1) (kT := mlook klX1) (kJ := mlook jlX1) mfA_X1_swapRows ok_X1_swapRows fT_X1 kT_X1 jT_X1 jdk_ok True.intro (Nat.le_of_ble_eq_true rfl) (fun G hG => ?_)
    refine rRun hG 99999 ?_
    refine And.intro rfl (And.intro rfl (And.intro ⟨rfl, by exact Nat.le_of_ble_eq_true rfl, by first | exact True.intro | exact Or.inl rfl | exact Or.inr rfl⟩ (And.intro ⟨rfl, by exact Nat.le_of_ble_eq_true rfl, by first | exact True.intro | exact Or.inl rfl | exact Or.inr rfl⟩ (?_))))
    refine rVR hG rfl rfl rfl ?_
    rfl
set_option maxRecDepth 20000 in
set_option maxHeartbeats 800000 in
theorem sp_X1_turned {uo : UD} {ux : XD} {ua ub : TD} {v0 v1 v2 : SD} {up : PD} {kO : Bool} {hr lt : FN} {un lw pa : Int} {ur : HD} {k : Bool} {t : TD} (ht : t = tsel k ua ub) {day e r : Int} (hT : TOK t) (h1 : 0 ≤ day ∧ day ≤ 100) (h2 : -100 ≤ e ∧ e ≤ 100) (h3 : -1000 ≤ r ∧ r ≤ 1000) : SpI l 3 yX1_turned cX1_turned 9 (some .int) [mr 20, mr (tix k), mi day, mi e, mi r] (hC uo ux ua ub v0 v1 v2 up (kO, hr, lt, un, lw, pa) ur) (fun z h => z = otrn t lt day e r ∧ h = hC uo ux ua ub v0 v1 v2 up (kO, hr, lt, un, lw, pa) ur) := by
  have hT1 := hT.1
  have hT5 := hT.2.2.2.2.1
  have hT6 := hT.2.2.2.2.2.1
  cases k
  · obtain rfl : t = ua := ht
    refine SpI.of (cd := kdX1_turned) (fT := mlook flX1) (kT := mlook klX1) (kJ := mlook jlX1) mfA_X1_turned ok_X1_turned fT_X1 kT_X1 jT_X1 jdk_ok True.intro (Nat.le_of_ble_eq_true rfl) (fun G hG => ?_)
    refine rRun hG 99999 ?_
    refine rSN hG (sp_X6_isBeyond (e := e) (by omega)) rfl rfl lkN_X1_75 mf_X6_isBeyond (by decide) (Nat.le_of_ble_eq_true rfl) ?_
    rintro w _ ⟨hw, rfl⟩
    have w1 : (w = 1 ∧ (e < -9 ∨ 9 < e)) ∨ (w = 0 ∧ ¬ (e < -9 ∨ 9 < e)) := (by rw [hw]; by_cases q9 : (e < -9 ∨ 9 < e) <;> simp [q9])
    clear hw
    refine rRun hG 99999 ?_
    refine And.intro (by first | omega | (dsimp only; omega)) (And.intro (fun c2 => ?_) (fun c2 => ?_))
    · try dsimp only at c2
      refine rRun hG 99999 ?_
      refine rMax hG rfl rfl lk_X1_79 (by decide) (Nat.le_of_ble_eq_true rfl) (by first | omega | (dsimp only; omega)) ?_
      refine rRun hG 99999 ?_
      refine rV hG (sp_X1_laterAt (uo := uo) (ux := ux) (ua := t) (ub := ub) (v0 := v0) (v1 := v1) (v2 := v2) (up := up) (ur := ur) (kO := kO) (hr := hr) (lt := lt) (un := un) (lw := lw) (pa := pa) (e := e) (w := max 0 r) (by omega) (by omega)) rfl rfl lk_X1_82 mf_X1_laterAt (by decide) (Nat.le_of_ble_eq_true rfl) ⟨_, _, _, rfl, rfl, rfl⟩ ?_
      rintro _ _ ⟨rfl, rfl⟩
      refine rRun hG 99999 ?_
      refine rLess hG (L' := [some _, some _, some _, some _, some _, some _, some _, none, none]) ⟨rfl, rfl, rfl, rfl, rfl, rfl, rfl, True.intro⟩ ?_
      refine rAbs hG rfl rfl lk_X1_85 (by decide) (Nat.le_of_ble_eq_true rfl) (by first | omega | (dsimp only; omega)) ?_
      refine rRun hG 99999 ?_
      refine And.intro rfl (And.intro (by first | omega | (dsimp only; omega)) (And.intro (fun c4 => ?_) (fun c4 => ?_)))
      · try dsimp only at c4
        refine rRun hG 99999 ?_
        refine rV hG (sp_X5_sunOf (uo := uo) (ux := ux) (ua := t) (ub := ub) (v0 := v0) (v1 := v1) (v2 := v2) (up := up) (uq := (kO, hr, lt, un, lw, pa)) (ur := ur) (k := false) (t := t) (ht := rfl) (i := day) (by omega) (by omega)) rfl rfl lk_X1_94 mf_X5_sunOf (by decide) (Nat.le_of_ble_eq_true rfl) ⟨_, _, _, rfl, rfl, rfl⟩ ?_
        rintro _ _ ⟨rfl, rfl⟩
        refine rRun hG 99999 ?_
        refine And.intro rfl (?_)
        refine rLess hG (L' := [some _, some _, some _, some _, some _, some _, some _, some _, none]) ⟨rfl, rfl, rfl, rfl, rfl, rfl, rfl, rfl, True.intro⟩ ?_
        refine rMin hG rfl rfl lk_X1_34 (by decide) (Nat.le_of_ble_eq_true rfl) (by first | omega | (dsimp only; omega)) ?_
        refine rV hG (sp_X1_laterAt (uo := uo) (ux := ux) (ua := t) (ub := ub) (v0 := v0) (v1 := v1) (v2 := v2) (up := up) (ur := ur) (kO := kO) (hr := hr) (lt := lt) (un := un) (lw := lw) (pa := pa) (e := 0) (w := min 99 (max 0 r + tAdd t)) (by omega) (by omega)) rfl rfl lk_X1_82 mf_X1_laterAt (by decide) (Nat.le_of_ble_eq_true rfl) ⟨_, _, _, rfl, rfl, rfl⟩ ?_
        rintro _ _ ⟨rfl, rfl⟩
        refine rRun hG 99999 ?_
        refine rIR hG rfl rfl (True.intro) ?_
        exact ⟨(otrn_c (by omega) (by omega)).symm, rfl⟩
      · try dsimp only at c4
        refine rIR hG rfl rfl (True.intro) ?_
        exact ⟨(otrn_b (by omega) (by omega)).symm, rfl⟩
    · try dsimp only at c2
      refine rIR hG rfl rfl (True.intro) ?_
      exact ⟨(if_pos (by omega)).symm, rfl⟩
  · obtain rfl : t = ub := ht
    refine SpI.of (cd := kdX1_turned) (fT := mlook flX1) (kT := mlook klX1) (kJ := mlook jlX1) mfA_X1_turned ok_X1_turned fT_X1 kT_X1 jT_X1 jdk_ok True.intro (Nat.le_of_ble_eq_true rfl) (fun G hG => ?_)
    refine rRun hG 99999 ?_
    refine rSN hG (sp_X6_isBeyond (e := e) (by omega)) rfl rfl lkN_X1_75 mf_X6_isBeyond (by decide) (Nat.le_of_ble_eq_true rfl) ?_
    rintro w _ ⟨hw, rfl⟩
    have w1 : (w = 1 ∧ (e < -9 ∨ 9 < e)) ∨ (w = 0 ∧ ¬ (e < -9 ∨ 9 < e)) := (by rw [hw]; by_cases q9 : (e < -9 ∨ 9 < e) <;> simp [q9])
    clear hw
    refine rRun hG 99999 ?_
    refine And.intro (by first | omega | (dsimp only; omega)) (And.intro (fun c2 => ?_) (fun c2 => ?_))
    · try dsimp only at c2
      refine rRun hG 99999 ?_
      refine rMax hG rfl rfl lk_X1_79 (by decide) (Nat.le_of_ble_eq_true rfl) (by first | omega | (dsimp only; omega)) ?_
      refine rRun hG 99999 ?_
      refine rV hG (sp_X1_laterAt (uo := uo) (ux := ux) (ua := ua) (ub := t) (v0 := v0) (v1 := v1) (v2 := v2) (up := up) (ur := ur) (kO := kO) (hr := hr) (lt := lt) (un := un) (lw := lw) (pa := pa) (e := e) (w := max 0 r) (by omega) (by omega)) rfl rfl lk_X1_82 mf_X1_laterAt (by decide) (Nat.le_of_ble_eq_true rfl) ⟨_, _, _, rfl, rfl, rfl⟩ ?_
      rintro _ _ ⟨rfl, rfl⟩
      refine rRun hG 99999 ?_
      refine rLess hG (L' := [some _, some _, some _, some _, some _, some _, some _, none, none]) ⟨rfl, rfl, rfl, rfl, rfl, rfl, rfl, True.intro⟩ ?_
      refine rAbs hG rfl rfl lk_X1_85 (by decide) (Nat.le_of_ble_eq_true rfl) (by first | omega | (dsimp only; omega)) ?_
      refine rRun hG 99999 ?_
      refine And.intro rfl (And.intro (by first | omega | (dsimp only; omega)) (And.intro (fun c4 => ?_) (fun c4 => ?_)))
      · try dsimp only at c4
        refine rRun hG 99999 ?_
        refine rV hG (sp_X5_sunOf (uo := uo) (ux := ux) (ua := ua) (ub := t) (v0 := v0) (v1 := v1) (v2 := v2) (up := up) (uq := (kO, hr, lt, un, lw, pa)) (ur := ur) (k := true) (t := t) (ht := rfl) (i := day) (by omega) (by omega)) rfl rfl lk_X1_94 mf_X5_sunOf (by decide) (Nat.le_of_ble_eq_true rfl) ⟨_, _, _, rfl, rfl, rfl⟩ ?_
        rintro _ _ ⟨rfl, rfl⟩
        refine rRun hG 99999 ?_
        refine And.intro rfl (?_)
        refine rLess hG (L' := [some _, some _, some _, some _, some _, some _, some _, some _, none]) ⟨rfl, rfl, rfl, rfl, rfl, rfl, rfl, rfl, True.intro⟩ ?_
        refine rMin hG rfl rfl lk_X1_34 (by decide) (Nat.le_of_ble_eq_true rfl) (by first | omega | (dsimp only; omega)) ?_
        refine rV hG (sp_X1_laterAt (uo := uo) (ux := ux) (ua := ua) (ub := t) (v0 := v0) (v1 := v1) (v2 := v2) (up := up) (ur := ur) (kO := kO) (hr := hr) (lt := lt) (un := un) (lw := lw) (pa := pa) (e := 0) (w := min 99 (max 0 r + tAdd t)) (by omega) (by omega)) rfl rfl lk_X1_82 mf_X1_laterAt (by decide) (Nat.le_of_ble_eq_true rfl) ⟨_, _, _, rfl, rfl, rfl⟩ ?_
        rintro _ _ ⟨rfl, rfl⟩
        refine rRun hG 99999 ?_
        refine rIR hG rfl rfl (True.intro) ?_
        exact ⟨(otrn_c (by omega) (by omega)).symm, rfl⟩
      · try dsimp only at c4
        refine rIR hG rfl rfl (True.intro) ?_
        exact ⟨(otrn_b (by omega) (by omega)).symm, rfl⟩
    · try dsimp only at c2
      refine rIR hG rfl rfl (True.intro) ?_
      exact ⟨(if_pos (by omega)).symm, rfl⟩
/-- the pace of the best that was found, or the one ahead of it -/
def obp (pa : Int) (r : Int × Int) : Int := if r.2 = -9 then pa else r.2
set_option maxRecDepth 20000 in
set_option maxHeartbeats 800000 in
theorem sp_X1_best {uo : UD} {ux : XD} {ua ub : TD} {v0 v1 v2 : SD} {up : PD} {kO : Bool} {hr lt : FN} {un lw pa : Int} {ur : HD} {k : Bool} {t : TD} (ht : t = tsel k ua ub) {day e w : Int} (hT : TOK t) (h1 : 0 ≤ day ∧ day ≤ 100) (h2 : -9 ≤ e ∧ e ≤ 9) (h3 : 0 ≤ w ∧ w ≤ 100) (hg : ∀ e r, -1 ≤ otrn t lt day e r ∧ otrn t lt day e r ≤ 2000000000) : SpI l 4 yX1_best cX1_best 8 (some .int) [mr 20, mr (tix k), mi day, mi e, mi w] (hC uo ux ua ub v0 v1 v2 up (kO, hr, lt, un, lw, pa) ur) (fun z h => z = (foldB (fun q => otrn t lt day (e + q) (w - 4 - q)) (-1) 6).1 ∧ h = hC uo ux ua ub v0 v1 v2 up (kO, hr, lt, un, lw, obp pa (foldB (fun q => otrn t lt day (e + q) (w - 4 - q)) (-1) 6)) ur) := by
  refine SpI.of (cd := kdX1_best) (fT := mlook flX1) (kT := mlook klX1) (kJ := mlook jlX1) mfA_X1_best ok_X1_best fT_X1 kT_X1 jT_X1 jdk_ok True.intro (Nat.le_of_ble_eq_true rfl) (fun G hG => ?_)
  refine rRun hG 7 ?_
  have J7 : ∀ (n : Nat) (i : Nat), i ≤ 6 → 6 - i < n → G 7 [some (mr 20), some (mr (tix k)), some (mi day), some (mi e), some (mi w), some (mi (foldB (fun q => otrn t lt day (e + q) (w - 4 - q)) (-1) i).1), some (mi ((i : Int) - 2)), none] [] (hC uo ux ua ub v0 v1 v2 up (kO, hr, lt, un, lw, obp pa (foldB (fun q => otrn t lt day (e + q) (w - 4 - q)) (-1) i)) ur) := by
    intro n
    induction n with
    | zero => intro i _ hm; exact absurd hm (Nat.not_lt_zero _)
    | succ n ih =>
      intro i hinv hm
      have hb1 := foldB_in (g := fun q => otrn t lt day (e + q) (w - 4 - q)) (b0 := -1) (M := 2000000000) (by omega) (fun q => (hg _ _).2) i
      refine rRun hG 99999 ?_
      refine And.intro (by first | omega | (dsimp only; omega)) (And.intro (fun c1 => ?_) (fun c1 => ?_))
      · try dsimp only at c1
        refine rRun hG 99999 ?_
        refine rIR hG rfl rfl (True.intro) ?_
        obtain rfl : i = 6 := by omega
        exact ⟨rfl, rfl⟩
      · try dsimp only at c1
        refine rV hG (sp_X1_turned (uo := uo) (ux := ux) (ua := ua) (ub := ub) (v0 := v0) (v1 := v1) (v2 := v2) (up := up) (ur := ur) (kO := kO) (hr := hr) (lt := lt) (un := un) (lw := lw) (pa := obp pa (foldB (fun q => otrn t lt day (e + q) (w - 4 - q)) (-1) i)) (k := k) (t := t) ht (day := day) (e := e + ((i : Int) - 2)) (r := w - 4 - ((i : Int) - 2)) hT h1 (by omega) (by omega)) rfl rfl lk_X1_72 mf_X1_turned (by decide) (Nat.le_of_ble_eq_true rfl) ⟨_, _, _, rfl, rfl, rfl⟩ ?_
        rintro _ _ ⟨rfl, rfl⟩
        have hb2 := hg (e + ((i : Int) - 2)) (w - 4 - ((i : Int) - 2))
        refine rRun hG 99999 ?_
        refine And.intro (by first | omega | (dsimp only; omega)) (And.intro (fun cc => ?_) (fun cc => ?_))
        · try dsimp only at cc
          refine rRun hG 99999 ?_
          have e9 := ih (i + 1) (by omega) (by omega)
          rw [foldB_s] at e9
          first | (rw [if_pos (Int.not_le.mp cc)] at e9; rw [show obp pa (_, ((i : Int) - 2)) = (i : Int) - 2 from if_neg (by show ¬ ((i : Int) - 2 = -9); omega)] at e9) | rw [if_neg (Int.not_lt.mpr cc)] at e9
          refine rLess hG ?_ e9
          exact ⟨rfl, rfl, rfl, rfl, rfl, rfl, congrArg mi (by omega), True.intro⟩
        · try dsimp only at cc
          refine And.intro ⟨rfl, by exact Nat.le_of_ble_eq_true rfl, by first | exact True.intro | exact Or.inl rfl | exact Or.inr rfl⟩ (?_)
          have e9 := ih (i + 1) (by omega) (by omega)
          rw [foldB_s] at e9
          first | (rw [if_pos (Int.not_le.mp cc)] at e9; rw [show obp pa (_, ((i : Int) - 2)) = (i : Int) - 2 from if_neg (by show ¬ ((i : Int) - 2 = -9); omega)] at e9) | rw [if_neg (Int.not_lt.mpr cc)] at e9
          refine rLess hG ?_ e9
          exact ⟨rfl, rfl, rfl, rfl, rfl, rfl, congrArg mi (by omega), True.intro⟩
  exact rLess hG (L' := [some (mr 20), some (mr (tix k)), some (mi day), some (mi e), some (mi w), some (mi (foldB (fun q => otrn t lt day (e + q) (w - 4 - q)) (-1) 0).1), some (mi (((0 : Nat) : Int) - 2)), none]) ⟨rfl, rfl, rfl, rfl, rfl, rfl, rfl, True.intro⟩ (J7 _ 0 (by omega) (Nat.lt_succ_self _))
end WALKS
