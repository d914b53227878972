/-! Plan: for candles, for freedom -/
section WALKS
variable {l : Launch}
/-- what a plan answers: the most, the pace; tk 1: candles, 0: harm -/
def planM (tk : Int) (t : TD) (mo : FN) (dn : Int) : Int := if mo 1 = 0 then 0 else if dn ≤ 0 then puf tk else (foldB (fun p => pgV tk t (PV tk t mo dn (dn.toNat - 1)) (mo 0) p (mo 2 + p)) (-1000000) 6).1
def planP (tk : Int) (t : TD) (mo : FN) (dn : Int) : Int := if mo 1 = 0 ∨ dn ≤ 0 then -9 else (foldB (fun p => pgV tk t (PV tk t mo dn (dn.toNat - 1)) (mo 0) p (mo 2 + p)) (-1000000) 6).2
set_option maxRecDepth 20000 in
set_option maxHeartbeats 8000000 in
theorem sp_X2_forCandles {uo : UD} {ux : XD} {ua ub : TD} {mo : FN} {kn kp : Int} {v1 v2 : SD} {kP : Bool} {hr lt : FN} {tk ms pa : Int} {uq : PD} {ur : HD} {k : Bool} {t : TD} (ht : t = tsel k ua ub)  (hT : TOK t) (hd : -14 ≤ tDay t - mo 0 ∧ tDay t - mo 0 ≤ 14) (hm0 : 0 ≤ mo 0 ∧ mo 0 ≤ 14) (hm1 : 0 ≤ mo 1 ∧ mo 1 ≤ 99) (hm2 : -9 ≤ mo 2 ∧ mo 2 ≤ 9) : SpV l 7 yX2_forCandles cX2_forCandles 3 none [mr 17, mr (tix k), mr 11] (hC uo ux ua ub (mo, kn, kp) v1 v2 (kP, hr, lt, tk, ms, pa) uq ur) (fun h => ∃ (k9 : Bool) (h9 l9 : FN), h = hC uo ux ua ub (mo, kn, kp) v1 v2 (k9, h9, l9, 1, planM 1 t mo ((tDay t - mo 0)), planP 1 t mo ((tDay t - mo 0))) uq ur) := by
  refine SpV.of (cd := kdX2_forCandles) (fT := mlook flX2) (kT := mlook klX2) (kJ := mlook jlX2) mfA_X2_forCandles ok_X2_forCandles fT_X2 kT_X2 jT_X2 jdk_ok True.intro (Nat.le_of_ble_eq_true rfl) (fun G hG => ?_)
  refine rRun hG 99999 ?_
  refine And.intro ⟨rfl, by exact Nat.le_of_ble_eq_true rfl, by exact Or.inr rfl⟩ (?_)
  refine rV hG (sp_X3_daysLeft (uo := uo) (ux := ux) (ua := ua) (ub := ub) (mo := mo) (kn := kn) (kp := kp) (v1 := v1) (v2 := v2) (up := (kP, hr, lt, 1, ms, pa)) (uq := uq) (ur := ur) (k := k) (t := t) ht) rfl rfl lk_X2_29 mf_X3_daysLeft (by decide) (Nat.le_of_ble_eq_true rfl) ⟨_, _, _, rfl, rfl, rfl⟩ ?_
  rintro _ _ ⟨rfl, rfl⟩
  refine rVV hG (sp_X2_make (uo := uo) (ux := ux) (ua := ua) (ub := ub) (mo := mo) (kn := kn) (kp := kp) (v1 := v1) (v2 := v2) (uq := uq) (ur := ur) (kP := kP) (hr := hr) (lt := lt) (tk := 1) (ms := ms) (pa := pa) (k := k) (t := t) ht (dn := (tDay t - mo 0)) hT (by omega) (by omega) (by omega) hm0 hm1 hm2) rfl rfl lk_X2_35 mf_X2_make (by decide) (Nat.le_of_ble_eq_true rfl) ⟨_, _, _, rfl, rfl, rfl⟩ ?_
  rintro _ hq
  refine rVR hG rfl rfl rfl ?_
  rcases hq with ⟨hc, rfl⟩ | ⟨hc, k9, h9, l9, rfl⟩
  · refine ⟨kP, hr, lt, ?_⟩
    have e1 : planM 1 t mo ((tDay t - mo 0)) = (if mo 1 = 0 then 0 else puf 1) := by
      unfold planM
      by_cases q : mo 1 = 0
      · rw [if_pos q, if_pos q]
      · rw [if_neg q, if_neg q, if_pos (by omega)]
    have e2 : planP 1 t mo ((tDay t - mo 0)) = -9 := if_pos (by omega)
    rw [e1, e2]
  · refine ⟨k9, h9, l9, ?_⟩
    have e1 : planM 1 t mo ((tDay t - mo 0)) = (foldB (fun p => pgV 1 t (PV 1 t mo ((tDay t - mo 0)) (((tDay t - mo 0)).toNat - 1)) (mo 0) p (mo 2 + p)) (-1000000) 6).1 := by
      unfold planM
      rw [if_neg (by omega), if_neg (by omega)]
    have e2 : planP 1 t mo ((tDay t - mo 0)) = (foldB (fun p => pgV 1 t (PV 1 t mo ((tDay t - mo 0)) (((tDay t - mo 0)).toNat - 1)) (mo 0) p (mo 2 + p)) (-1000000) 6).2 := if_neg (by omega)
    rw [e1, e2]
set_option maxRecDepth 20000 in
set_option maxHeartbeats 8000000 in
theorem sp_X2_forFreedom {uo : UD} {ux : XD} {ua ub : TD} {mo : FN} {kn kp : Int} {v1 v2 : SD} {kP : Bool} {hr lt : FN} {tk ms pa : Int} {uq : PD} {ur : HD} {k : Bool} {t : TD} (ht : t = tsel k ua ub) {n9 : Int} (hT : TOK t) (hd : -14 ≤ tDay t - mo 0 ∧ tDay t - mo 0 ≤ 14) (hm0 : 0 ≤ mo 0 ∧ mo 0 ≤ 14) (hm1 : 0 ≤ mo 1 ∧ mo 1 ≤ 99) (hm2 : -9 ≤ mo 2 ∧ mo 2 ≤ 9) (hn : 0 ≤ n9 ∧ n9 ≤ 14) : SpV l 7 yX2_forFreedom cX2_forFreedom 4 none [mr 17, mr (tix k), mr 11, mi n9] (hC uo ux ua ub (mo, kn, kp) v1 v2 (kP, hr, lt, tk, ms, pa) uq ur) (fun h => ∃ (k9 : Bool) (h9 l9 : FN), h = hC uo ux ua ub (mo, kn, kp) v1 v2 (k9, h9, l9, 0, planM 0 t mo (min n9 (tDay t - mo 0)), planP 0 t mo (min n9 (tDay t - mo 0))) uq ur) := by
  refine SpV.of (cd := kdX2_forFreedom) (fT := mlook flX2) (kT := mlook klX2) (kJ := mlook jlX2) mfA_X2_forFreedom ok_X2_forFreedom fT_X2 kT_X2 jT_X2 jdk_ok True.intro (Nat.le_of_ble_eq_true rfl) (fun G hG => ?_)
  refine rRun hG 99999 ?_
  refine And.intro ⟨rfl, by exact Nat.le_of_ble_eq_true rfl, by exact Or.inl rfl⟩ (?_)
  refine rV hG (sp_X3_daysLeft (uo := uo) (ux := ux) (ua := ua) (ub := ub) (mo := mo) (kn := kn) (kp := kp) (v1 := v1) (v2 := v2) (up := (kP, hr, lt, 0, ms, pa)) (uq := uq) (ur := ur) (k := k) (t := t) ht) rfl rfl lk_X2_29 mf_X3_daysLeft (by decide) (Nat.le_of_ble_eq_true rfl) ⟨_, _, _, rfl, rfl, rfl⟩ ?_
  rintro _ _ ⟨rfl, rfl⟩
  refine rMin hG rfl rfl lk_X2_39 (by decide) (Nat.le_of_ble_eq_true rfl) (by first | omega | (dsimp only; omega)) ?_
  refine rVV hG (sp_X2_make (uo := uo) (ux := ux) (ua := ua) (ub := ub) (mo := mo) (kn := kn) (kp := kp) (v1 := v1) (v2 := v2) (uq := uq) (ur := ur) (kP := kP) (hr := hr) (lt := lt) (tk := 0) (ms := ms) (pa := pa) (k := k) (t := t) ht (dn := min n9 (tDay t - mo 0)) hT (by omega) (by omega) (by omega) hm0 hm1 hm2) rfl rfl lk_X2_35 mf_X2_make (by decide) (Nat.le_of_ble_eq_true rfl) ⟨_, _, _, rfl, rfl, rfl⟩ ?_
  rintro _ hq
  refine rVR hG rfl rfl rfl ?_
  rcases hq with ⟨hc, rfl⟩ | ⟨hc, k9, h9, l9, rfl⟩
  · refine ⟨kP, hr, lt, ?_⟩
    have e1 : planM 0 t mo (min n9 (tDay t - mo 0)) = (if mo 1 = 0 then 0 else puf 0) := by
      unfold planM
      by_cases q : mo 1 = 0
      · rw [if_pos q, if_pos q]
      · rw [if_neg q, if_neg q, if_pos (by omega)]
    have e2 : planP 0 t mo (min n9 (tDay t - mo 0)) = -9 := if_pos (by omega)
    rw [e1, e2]
  · refine ⟨k9, h9, l9, ?_⟩
    have e1 : planM 0 t mo (min n9 (tDay t - mo 0)) = (foldB (fun p => pgV 0 t (PV 0 t mo (min n9 (tDay t - mo 0)) ((min n9 (tDay t - mo 0)).toNat - 1)) (mo 0) p (mo 2 + p)) (-1000000) 6).1 := by
      unfold planM
      rw [if_neg (by omega), if_neg (by omega)]
    have e2 : planP 0 t mo (min n9 (tDay t - mo 0)) = (foldB (fun p => pgV 0 t (PV 0 t mo (min n9 (tDay t - mo 0)) ((min n9 (tDay t - mo 0)).toNat - 1)) (mo 0) p (mo 2 + p)) (-1000000) 6).2 := if_neg (by omega)
    rw [e1, e2]
end WALKS
