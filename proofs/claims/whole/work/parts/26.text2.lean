/-! Text: items; Told is told -/
section WALKS
variable {l : Launch}
def tWipe (t : TD) : TD := (tSun t, tBri t, tTra t, 0, 0, 0, 20, 2, 3)
def tAddDay (t : TD) (s : Int) : TD := if 0 ≤ tDay t ∧ tDay t < 14 then (mup (tSun t) (tDay t).toNat s, tBri t, tTra t, tDay t + 1, tNB t, tNT t, tRst t, tLim t, tAdd t) else t
def tAddBri (t : TD) (d s p c : Int) : TD := if 0 ≤ 4 * tNB t ∧ 4 * tNB t + 3 < 24 then (tSun t, mup (mup (mup (mup (tBri t) (4 * tNB t).toNat d) (4 * tNB t + 1).toNat s) (4 * tNB t + 2).toNat p) (4 * tNB t + 3).toNat c, tTra t, tDay t, tNB t + 1, tNT t, tRst t, tLim t, tAdd t) else t
def tAddTra (t : TD) (w s : Int) : TD := if 0 ≤ 2 * tNT t ∧ 2 * tNT t + 1 < 8 then (tSun t, tBri t, mup (mup (tTra t) (2 * tNT t).toNat w) (2 * tNT t + 1).toNat s, tDay t, tNB t, tNT t + 1, tRst t, tLim t, tAdd t) else t
def tSetRst (t : TD) (v : Int) : TD := (tSun t, tBri t, tTra t, tDay t, tNB t, tNT t, v, tLim t, tAdd t)
def tSetLim (t : TD) (v : Int) : TD := (tSun t, tBri t, tTra t, tDay t, tNB t, tNT t, tRst t, v, tAdd t)
def tSetAdd (t : TD) (v : Int) : TD := (tSun t, tBri t, tTra t, tDay t, tNB t, tNT t, tRst t, tLim t, v)
theorem tsel_put {k : Bool} {ua ub t : TD} : t = tsel k (cond k ua t) (cond k t ub) := by cases k <;> rfl
theorem cput_a {k : Bool} {ua t t' : TD} : cond k (cond k ua t) t' = cond k ua t' := by cases k <;> rfl
theorem cput_b {k : Bool} {ub t t' : TD} : cond k t' (cond k t ub) = cond k t' ub := by cases k <;> rfl
theorem cput_0 {k : Bool} {ua ub t : TD} (h : t = tsel k ua ub) : cond k ua t = ua ∧ cond k t ub = ub := by cases k <;> exact ⟨by first | rfl | exact h, by first | rfl | exact h⟩
set_option maxRecDepth 20000 in
set_option maxHeartbeats 2000000 in
theorem sp_X5_wipe {uo : UD} {ux : XD} {ua ub : TD} {v0 v1 v2 : SD} {up uq : PD} {ur : HD} {k : Bool} {t : TD} (ht : t = tsel k ua ub)   : SpV l 1 yX5_wipe cX5_wipe 1 none [mr (tix k)] (hC uo ux ua ub v0 v1 v2 up uq ur) (fun h => h = hC uo ux (cond k ua (tWipe t)) (cond k (tWipe t) ub) v0 v1 v2 up uq ur) := by
  cases k
  · obtain rfl : t = ua := ht
    refine SpV.of (cd := kdX5_wipe) (fT := mlook flX5) (kT := mlook klX5) (kJ := mlook jlX5) mfA_X5_wipe ok_X5_wipe fT_X5 kT_X5 jT_X5 jdk_ok True.intro (Nat.le_of_ble_eq_true rfl) (fun G hG => ?_)
    refine rRun hG 99999 ?_
    refine And.intro ⟨rfl, by exact Nat.le_of_ble_eq_true rfl, by exact True.intro⟩ (And.intro ⟨rfl, by exact Nat.le_of_ble_eq_true rfl, by exact True.intro⟩ (And.intro ⟨rfl, by exact Nat.le_of_ble_eq_true rfl, by exact True.intro⟩ (And.intro ⟨rfl, by exact Nat.le_of_ble_eq_true rfl, by exact True.intro⟩ (And.intro ⟨rfl, by exact Nat.le_of_ble_eq_true rfl, by exact True.intro⟩ (And.intro ⟨rfl, by exact Nat.le_of_ble_eq_true rfl, by exact True.intro⟩ (?_))))))
    refine rVR hG rfl rfl rfl ?_
    rfl
  · obtain rfl : t = ub := ht
    refine SpV.of (cd := kdX5_wipe) (fT := mlook flX5) (kT := mlook klX5) (kJ := mlook jlX5) mfA_X5_wipe ok_X5_wipe fT_X5 kT_X5 jT_X5 jdk_ok True.intro (Nat.le_of_ble_eq_true rfl) (fun G hG => ?_)
    refine rRun hG 99999 ?_
    refine And.intro ⟨rfl, by exact Nat.le_of_ble_eq_true rfl, by exact True.intro⟩ (And.intro ⟨rfl, by exact Nat.le_of_ble_eq_true rfl, by exact True.intro⟩ (And.intro ⟨rfl, by exact Nat.le_of_ble_eq_true rfl, by exact True.intro⟩ (And.intro ⟨rfl, by exact Nat.le_of_ble_eq_true rfl, by exact True.intro⟩ (And.intro ⟨rfl, by exact Nat.le_of_ble_eq_true rfl, by exact True.intro⟩ (And.intro ⟨rfl, by exact Nat.le_of_ble_eq_true rfl, by exact True.intro⟩ (?_))))))
    refine rVR hG rfl rfl rfl ?_
    rfl
set_option maxRecDepth 20000 in
set_option maxHeartbeats 2000000 in
theorem sp_X5_addDay {uo : UD} {ux : XD} {ua ub : TD} {v0 v1 v2 : SD} {up uq : PD} {ur : HD} {k : Bool} {t : TD} (ht : t = tsel k ua ub) {s : Int} (h1 : inI (tDay t)) : SpV l 1 yX5_addDay cX5_addDay 2 none [mr (tix k), mi s] (hC uo ux ua ub v0 v1 v2 up uq ur) (fun h => h = hC uo ux (cond k ua (tAddDay t s)) (cond k (tAddDay t s) ub) v0 v1 v2 up uq ur) := by
  cases k
  · obtain rfl : t = ua := ht
    refine SpV.of (cd := kdX5_addDay) (fT := mlook flX5) (kT := mlook klX5) (kJ := mlook jlX5) mfA_X5_addDay ok_X5_addDay fT_X5 kT_X5 jT_X5 jdk_ok True.intro (Nat.le_of_ble_eq_true rfl) (fun G hG => ?_)
    refine rRun hG 99999 ?_
    refine And.intro rfl (And.intro (by first | omega | (simp only [xB_s, xN_s, xP_s, xS_s, xK_s, xV_s, xF_s, xR_s, xL_s, xA_s]; omega)) (And.intro (fun c1 => ?_) (fun c1 => ?_)))
    · try simp only [xB_s, xN_s, xP_s, xS_s, xK_s, xV_s, xF_s, xR_s, xL_s, xA_s] at c1
      refine rVR hG rfl rfl rfl ?_
      unfold tAddDay
      first | (rw [if_pos (by omega)]; rfl) | (rw [if_neg (by omega)]; rfl)
    · try simp only [xB_s, xN_s, xP_s, xS_s, xK_s, xV_s, xF_s, xR_s, xL_s, xA_s] at c1
      refine And.intro rfl (And.intro rfl (And.intro (by decide) (And.intro (by first | omega | (simp only [xB_s, xN_s, xP_s, xS_s, xK_s, xV_s, xF_s, xR_s, xL_s, xA_s]; omega)) (And.intro (fun c2 => ?_) (fun c2 => ?_)))))
      · try simp only [xB_s, xN_s, xP_s, xS_s, xK_s, xV_s, xF_s, xR_s, xL_s, xA_s] at c2
        refine rVR hG rfl rfl rfl ?_
        unfold tAddDay
        first | (rw [if_pos (by omega)]; rfl) | (rw [if_neg (by omega)]; rfl)
      · try simp only [xB_s, xN_s, xP_s, xS_s, xK_s, xV_s, xF_s, xR_s, xL_s, xA_s] at c2
        refine And.intro rfl (And.intro rfl (And.intro (by first | omega | (simp only [xB_s, xN_s, xP_s, xS_s, xK_s, xV_s, xF_s, xR_s, xL_s, xA_s]; omega)) (And.intro rfl (And.intro ⟨rfl, by exact Nat.le_of_ble_eq_true rfl, by exact True.intro⟩ (?_)))))
        refine rVR hG rfl rfl rfl ?_
        unfold tAddDay
        first | (rw [if_pos (by omega)]; rfl) | (rw [if_neg (by omega)]; rfl)
  · obtain rfl : t = ub := ht
    refine SpV.of (cd := kdX5_addDay) (fT := mlook flX5) (kT := mlook klX5) (kJ := mlook jlX5) mfA_X5_addDay ok_X5_addDay fT_X5 kT_X5 jT_X5 jdk_ok True.intro (Nat.le_of_ble_eq_true rfl) (fun G hG => ?_)
    refine rRun hG 99999 ?_
    refine And.intro rfl (And.intro (by first | omega | (simp only [xB_s, xN_s, xP_s, xS_s, xK_s, xV_s, xF_s, xR_s, xL_s, xA_s]; omega)) (And.intro (fun c1 => ?_) (fun c1 => ?_)))
    · try simp only [xB_s, xN_s, xP_s, xS_s, xK_s, xV_s, xF_s, xR_s, xL_s, xA_s] at c1
      refine rVR hG rfl rfl rfl ?_
      unfold tAddDay
      first | (rw [if_pos (by omega)]; rfl) | (rw [if_neg (by omega)]; rfl)
    · try simp only [xB_s, xN_s, xP_s, xS_s, xK_s, xV_s, xF_s, xR_s, xL_s, xA_s] at c1
      refine And.intro rfl (And.intro rfl (And.intro (by decide) (And.intro (by first | omega | (simp only [xB_s, xN_s, xP_s, xS_s, xK_s, xV_s, xF_s, xR_s, xL_s, xA_s]; omega)) (And.intro (fun c2 => ?_) (fun c2 => ?_)))))
      · try simp only [xB_s, xN_s, xP_s, xS_s, xK_s, xV_s, xF_s, xR_s, xL_s, xA_s] at c2
        refine rVR hG rfl rfl rfl ?_
        unfold tAddDay
        first | (rw [if_pos (by omega)]; rfl) | (rw [if_neg (by omega)]; rfl)
      · try simp only [xB_s, xN_s, xP_s, xS_s, xK_s, xV_s, xF_s, xR_s, xL_s, xA_s] at c2
        refine And.intro rfl (And.intro rfl (And.intro (by first | omega | (simp only [xB_s, xN_s, xP_s, xS_s, xK_s, xV_s, xF_s, xR_s, xL_s, xA_s]; omega)) (And.intro rfl (And.intro ⟨rfl, by exact Nat.le_of_ble_eq_true rfl, by exact True.intro⟩ (?_)))))
        refine rVR hG rfl rfl rfl ?_
        unfold tAddDay
        first | (rw [if_pos (by omega)]; rfl) | (rw [if_neg (by omega)]; rfl)
set_option maxRecDepth 20000 in
set_option maxHeartbeats 2000000 in
theorem sp_X5_addBribe {uo : UD} {ux : XD} {ua ub : TD} {v0 v1 v2 : SD} {up uq : PD} {ur : HD} {k : Bool} {t : TD} (ht : t = tsel k ua ub) {d s p c : Int} (h1 : 0 ≤ tNB t ∧ tNB t ≤ 100) : SpV l 1 yX5_addBribe cX5_addBribe 6 none [mr (tix k), mi d, mi s, mi p, mi c] (hC uo ux ua ub v0 v1 v2 up uq ur) (fun h => h = hC uo ux (cond k ua (tAddBri t d s p c)) (cond k (tAddBri t d s p c) ub) v0 v1 v2 up uq ur) := by
  cases k
  · obtain rfl : t = ua := ht
    refine SpV.of (cd := kdX5_addBribe) (fT := mlook flX5) (kT := mlook klX5) (kJ := mlook jlX5) mfA_X5_addBribe ok_X5_addBribe fT_X5 kT_X5 jT_X5 jdk_ok True.intro (Nat.le_of_ble_eq_true rfl) (fun G hG => ?_)
    refine rRun hG 99999 ?_
    refine And.intro rfl (And.intro (by first | omega | (simp only [xB_s, xN_s, xP_s, xS_s, xK_s, xV_s, xF_s, xR_s, xL_s, xA_s]; omega)) (And.intro (fun c1 => ?_) (fun c1 => ?_)))
    · try simp only [xB_s, xN_s, xP_s, xS_s, xK_s, xV_s, xF_s, xR_s, xL_s, xA_s] at c1
      refine rVR hG rfl rfl rfl ?_
      unfold tAddBri
      first | (rw [if_pos (by omega)]; rfl) | (rw [if_neg (by omega)]; rfl)
    · try simp only [xB_s, xN_s, xP_s, xS_s, xK_s, xV_s, xF_s, xR_s, xL_s, xA_s] at c1
      refine And.intro rfl (And.intro (by decide) (And.intro (by first | omega | (simp only [xB_s, xN_s, xP_s, xS_s, xK_s, xV_s, xF_s, xR_s, xL_s, xA_s]; omega)) (And.intro (fun c2 => ?_) (fun c2 => ?_))))
      · try simp only [xB_s, xN_s, xP_s, xS_s, xK_s, xV_s, xF_s, xR_s, xL_s, xA_s] at c2
        refine rVR hG rfl rfl rfl ?_
        unfold tAddBri
        first | (rw [if_pos (by omega)]; rfl) | (rw [if_neg (by omega)]; rfl)
      · try simp only [xB_s, xN_s, xP_s, xS_s, xK_s, xV_s, xF_s, xR_s, xL_s, xA_s] at c2
        refine And.intro rfl (And.intro (by first | omega | (simp only [xB_s, xN_s, xP_s, xS_s, xK_s, xV_s, xF_s, xR_s, xL_s, xA_s]; omega)) (And.intro rfl (And.intro (by first | omega | (simp only [xB_s, xN_s, xP_s, xS_s, xK_s, xV_s, xF_s, xR_s, xL_s, xA_s]; omega)) (And.intro rfl (And.intro (by first | omega | (simp only [xB_s, xN_s, xP_s, xS_s, xK_s, xV_s, xF_s, xR_s, xL_s, xA_s]; omega)) (And.intro rfl (And.intro (by first | omega | (simp only [xB_s, xN_s, xP_s, xS_s, xK_s, xV_s, xF_s, xR_s, xL_s, xA_s]; omega)) (And.intro rfl (And.intro ⟨rfl, by exact Nat.le_of_ble_eq_true rfl, by exact True.intro⟩ (?_))))))))))
        refine rVR hG rfl rfl rfl ?_
        unfold tAddBri
        first | (rw [if_pos (by omega)]; rfl) | (rw [if_neg (by omega)]; rfl)
  · obtain rfl : t = ub := ht
    refine SpV.of (cd := kdX5_addBribe) (fT := mlook flX5) (kT := mlook klX5) (kJ := mlook jlX5) mfA_X5_addBribe ok_X5_addBribe fT_X5 kT_X5 jT_X5 jdk_ok True.intro (Nat.le_of_ble_eq_true rfl) (fun G hG => ?_)
    refine rRun hG 99999 ?_
    refine And.intro rfl (And.intro (by first | omega | (simp only [xB_s, xN_s, xP_s, xS_s, xK_s, xV_s, xF_s, xR_s, xL_s, xA_s]; omega)) (And.intro (fun c1 => ?_) (fun c1 => ?_)))
    · try simp only [xB_s, xN_s, xP_s, xS_s, xK_s, xV_s, xF_s, xR_s, xL_s, xA_s] at c1
      refine rVR hG rfl rfl rfl ?_
      unfold tAddBri
      first | (rw [if_pos (by omega)]; rfl) | (rw [if_neg (by omega)]; rfl)
    · try simp only [xB_s, xN_s, xP_s, xS_s, xK_s, xV_s, xF_s, xR_s, xL_s, xA_s] at c1
      refine And.intro rfl (And.intro (by decide) (And.intro (by first | omega | (simp only [xB_s, xN_s, xP_s, xS_s, xK_s, xV_s, xF_s, xR_s, xL_s, xA_s]; omega)) (And.intro (fun c2 => ?_) (fun c2 => ?_))))
      · try simp only [xB_s, xN_s, xP_s, xS_s, xK_s, xV_s, xF_s, xR_s, xL_s, xA_s] at c2
        refine rVR hG rfl rfl rfl ?_
        unfold tAddBri
        first | (rw [if_pos (by omega)]; rfl) | (rw [if_neg (by omega)]; rfl)
      · try simp only [xB_s, xN_s, xP_s, xS_s, xK_s, xV_s, xF_s, xR_s, xL_s, xA_s] at c2
        refine And.intro rfl (And.intro (by first | omega | (simp only [xB_s, xN_s, xP_s, xS_s, xK_s, xV_s, xF_s, xR_s, xL_s, xA_s]; omega)) (And.intro rfl (And.intro (by first | omega | (simp only [xB_s, xN_s, xP_s, xS_s, xK_s, xV_s, xF_s, xR_s, xL_s, xA_s]; omega)) (And.intro rfl (And.intro (by first | omega | (simp only [xB_s, xN_s, xP_s, xS_s, xK_s, xV_s, xF_s, xR_s, xL_s, xA_s]; omega)) (And.intro rfl (And.intro (by first | omega | (simp only [xB_s, xN_s, xP_s, xS_s, xK_s, xV_s, xF_s, xR_s, xL_s, xA_s]; omega)) (And.intro rfl (And.intro ⟨rfl, by exact Nat.le_of_ble_eq_true rfl, by exact True.intro⟩ (?_))))))))))
        refine rVR hG rfl rfl rfl ?_
        unfold tAddBri
        first | (rw [if_pos (by omega)]; rfl) | (rw [if_neg (by omega)]; rfl)
set_option maxRecDepth 20000 in
set_option maxHeartbeats 2000000 in
theorem sp_X5_addTrade {uo : UD} {ux : XD} {ua ub : TD} {v0 v1 v2 : SD} {up uq : PD} {ur : HD} {k : Bool} {t : TD} (ht : t = tsel k ua ub) {w s : Int} (h1 : 0 ≤ tNT t ∧ tNT t ≤ 100) : SpV l 1 yX5_addTrade cX5_addTrade 4 none [mr (tix k), mi w, mi s] (hC uo ux ua ub v0 v1 v2 up uq ur) (fun h => h = hC uo ux (cond k ua (tAddTra t w s)) (cond k (tAddTra t w s) ub) v0 v1 v2 up uq ur) := by
  cases k
  · obtain rfl : t = ua := ht
    refine SpV.of (cd := kdX5_addTrade) (fT := mlook flX5) (kT := mlook klX5) (kJ := mlook jlX5) mfA_X5_addTrade ok_X5_addTrade fT_X5 kT_X5 jT_X5 jdk_ok True.intro (Nat.le_of_ble_eq_true rfl) (fun G hG => ?_)
    refine rRun hG 99999 ?_
    refine And.intro rfl (And.intro (by first | omega | (simp only [xB_s, xN_s, xP_s, xS_s, xK_s, xV_s, xF_s, xR_s, xL_s, xA_s]; omega)) (And.intro (fun c1 => ?_) (fun c1 => ?_)))
    · try simp only [xB_s, xN_s, xP_s, xS_s, xK_s, xV_s, xF_s, xR_s, xL_s, xA_s] at c1
      refine rVR hG rfl rfl rfl ?_
      unfold tAddTra
      first | (rw [if_pos (by omega)]; rfl) | (rw [if_neg (by omega)]; rfl)
    · try simp only [xB_s, xN_s, xP_s, xS_s, xK_s, xV_s, xF_s, xR_s, xL_s, xA_s] at c1
      refine And.intro rfl (And.intro (by decide) (And.intro (by first | omega | (simp only [xB_s, xN_s, xP_s, xS_s, xK_s, xV_s, xF_s, xR_s, xL_s, xA_s]; omega)) (And.intro (fun c2 => ?_) (fun c2 => ?_))))
      · try simp only [xB_s, xN_s, xP_s, xS_s, xK_s, xV_s, xF_s, xR_s, xL_s, xA_s] at c2
        refine rVR hG rfl rfl rfl ?_
        unfold tAddTra
        first | (rw [if_pos (by omega)]; rfl) | (rw [if_neg (by omega)]; rfl)
      · try simp only [xB_s, xN_s, xP_s, xS_s, xK_s, xV_s, xF_s, xR_s, xL_s, xA_s] at c2
        refine And.intro rfl (And.intro (by first | omega | (simp only [xB_s, xN_s, xP_s, xS_s, xK_s, xV_s, xF_s, xR_s, xL_s, xA_s]; omega)) (And.intro rfl (And.intro (by first | omega | (simp only [xB_s, xN_s, xP_s, xS_s, xK_s, xV_s, xF_s, xR_s, xL_s, xA_s]; omega)) (And.intro rfl (And.intro ⟨rfl, by exact Nat.le_of_ble_eq_true rfl, by exact True.intro⟩ (?_))))))
        refine rVR hG rfl rfl rfl ?_
        unfold tAddTra
        first | (rw [if_pos (by omega)]; rfl) | (rw [if_neg (by omega)]; rfl)
  · obtain rfl : t = ub := ht
    refine SpV.of (cd := kdX5_addTrade) (fT := mlook flX5) (kT := mlook klX5) (kJ := mlook jlX5) mfA_X5_addTrade ok_X5_addTrade fT_X5 kT_X5 jT_X5 jdk_ok True.intro (Nat.le_of_ble_eq_true rfl) (fun G hG => ?_)
    refine rRun hG 99999 ?_
    refine And.intro rfl (And.intro (by first | omega | (simp only [xB_s, xN_s, xP_s, xS_s, xK_s, xV_s, xF_s, xR_s, xL_s, xA_s]; omega)) (And.intro (fun c1 => ?_) (fun c1 => ?_)))
    · try simp only [xB_s, xN_s, xP_s, xS_s, xK_s, xV_s, xF_s, xR_s, xL_s, xA_s] at c1
      refine rVR hG rfl rfl rfl ?_
      unfold tAddTra
      first | (rw [if_pos (by omega)]; rfl) | (rw [if_neg (by omega)]; rfl)
    · try simp only [xB_s, xN_s, xP_s, xS_s, xK_s, xV_s, xF_s, xR_s, xL_s, xA_s] at c1
      refine And.intro rfl (And.intro (by decide) (And.intro (by first | omega | (simp only [xB_s, xN_s, xP_s, xS_s, xK_s, xV_s, xF_s, xR_s, xL_s, xA_s]; omega)) (And.intro (fun c2 => ?_) (fun c2 => ?_))))
      · try simp only [xB_s, xN_s, xP_s, xS_s, xK_s, xV_s, xF_s, xR_s, xL_s, xA_s] at c2
        refine rVR hG rfl rfl rfl ?_
        unfold tAddTra
        first | (rw [if_pos (by omega)]; rfl) | (rw [if_neg (by omega)]; rfl)
      · try simp only [xB_s, xN_s, xP_s, xS_s, xK_s, xV_s, xF_s, xR_s, xL_s, xA_s] at c2
        refine And.intro rfl (And.intro (by first | omega | (simp only [xB_s, xN_s, xP_s, xS_s, xK_s, xV_s, xF_s, xR_s, xL_s, xA_s]; omega)) (And.intro rfl (And.intro (by first | omega | (simp only [xB_s, xN_s, xP_s, xS_s, xK_s, xV_s, xF_s, xR_s, xL_s, xA_s]; omega)) (And.intro rfl (And.intro ⟨rfl, by exact Nat.le_of_ble_eq_true rfl, by exact True.intro⟩ (?_))))))
        refine rVR hG rfl rfl rfl ?_
        unfold tAddTra
        first | (rw [if_pos (by omega)]; rfl) | (rw [if_neg (by omega)]; rfl)
def xFl (x : XD) : XD := xSet x (xP x) (xS x) (xK x) (xV x) (xS x)
def rfs (c : Int) (x : XD) : XD := if c = 0 then x else xFl x
def numX (lo hi : Int) (x : XD) : XD := if xF x = -1 then (if xK (ntk x) = 2 ∧ lo ≤ xV (ntk x) ∧ xV (ntk x) ≤ hi then ntk x else xFl (ntk x)) else x
def numR (lo : Int) (x : XD) : Int := if xF x = -1 then xV (ntk x) else lo
def stpX (x : XD) : XD := if xF x = -1 then (if xK (ntk x) = 3 then ntk x else xFl (ntk x)) else x
theorem XOK_set {x : XD} (h : XOK x) {p s k v f : Int} (hp : 0 ≤ p ∧ p ≤ xN x) (hs : 0 ≤ s ∧ s ≤ 150) (hk : 0 ≤ k ∧ k ≤ 4) (hv : 0 ≤ v ∧ v ≤ 255) (hf : -1 ≤ f ∧ f ≤ 150) : XOK (xSet x p s k v f) := ⟨h.1, hp, hs, hk, hv, hf, h.2.2.2.2.2.2⟩
theorem XOK_ntk {x : XD} (h : XOK x) : XOK (ntk x) := by
  obtain ⟨h1, h2, h3, h4, h5, h6, h7⟩ := id h
  have ht := tSt_in h2
  have hc := bAt_in (x := x) h7 (n := xN x) (i := tSt x)
  unfold ntk
  split
  · exact XOK_set h (by omega) (by omega) (by omega) (by omega) (by omega)
  · rename_i q
    have hl := tC_lt q
    split
    · have hr := runT_in (P := pLt) (b := xB x) (n := xN x) (i := tSt x) (by omega)
      refine XOK_set h (by omega) (by omega) (by omega) ?_ (by omega)
      split
      · omega
      · omega
    · split
      · have hr := runT_in (P := pDg) (b := xB x) (n := xN x) (i := tSt x) (by omega)
        have hn := numE_in (b := xB x) (n := xN x) (f := (xN x - tSt x).toNat) (i := tSt x) (v := 0) (by omega)
        refine XOK_set h (by omega) (by omega) ?_ (by show 0 ≤ numE _ _ _ _ _ ∧ numE _ _ _ _ _ ≤ 255; omega) (by omega)
        split <;> omega
      · refine XOK_set h (by omega) (by omega) ?_ (by omega) (by omega)
        split <;> omega
theorem XOK_fl {x : XD} (h : XOK x) : XOK (xFl x) := by
  obtain ⟨h1, h2, h3, h4, h5, h6, h7⟩ := id h
  exact XOK_set h h2 h3 h4 h5 (by omega)
theorem XOK_rfs {x : XD} (h : XOK x) {c : Int} : XOK (rfs c x) := by
  unfold rfs
  split
  · exact h
  · exact XOK_fl h
theorem XOK_num {x : XD} (h : XOK x) {lo hi : Int} : XOK (numX lo hi x) := by
  unfold numX
  split
  · split
    · exact XOK_ntk h
    · exact XOK_fl (XOK_ntk h)
  · exact h
theorem XOK_stp {x : XD} (h : XOK x) : XOK (stpX x) := by
  unfold stpX
  split
  · split
    · exact XOK_ntk h
    · exact XOK_fl (XOK_ntk h)
  · exact h
set_option maxRecDepth 20000 in
set_option maxHeartbeats 1000000 in
theorem sp_X4_refuseIf {uo : UD} {ux : XD} {ua ub : TD} {v0 v1 v2 : SD} {up uq : PD} {ur : HD} {c : Int} (h1 : inI c) : SpV l 1 yX4_refuseIf cX4_refuseIf 2 none [mr 1, mi c] (hC uo ux ua ub v0 v1 v2 up uq ur) (fun h => h = hC uo (rfs c ux) ua ub v0 v1 v2 up uq ur) := by
  refine SpV.of (cd := kdX4_refuseIf) (fT := mlook flX4) (kT := mlook klX4) (kJ := mlook jlX4) mfA_X4_refuseIf ok_X4_refuseIf fT_X4 kT_X4 jT_X4 jdk_ok True.intro (Nat.le_of_ble_eq_true rfl) (fun G hG => ?_)
  refine rRun hG 99999 ?_
  refine And.intro (by first | omega | (simp only [xB_s, xN_s, xP_s, xS_s, xK_s, xV_s, xF_s, xR_s, xL_s, xA_s]; omega)) (And.intro (fun c1 => ?_) (fun c1 => ?_))
  · try simp only [xB_s, xN_s, xP_s, xS_s, xK_s, xV_s, xF_s, xR_s, xL_s, xA_s] at c1
    refine rVR hG rfl rfl rfl ?_
    unfold rfs
    first | rw [if_pos c1] | (rw [if_neg c1]; rfl)
  · try simp only [xB_s, xN_s, xP_s, xS_s, xK_s, xV_s, xF_s, xR_s, xL_s, xA_s] at c1
    refine And.intro rfl (And.intro ⟨rfl, by exact Nat.le_of_ble_eq_true rfl, by exact True.intro⟩ (?_))
    refine rVR hG rfl rfl rfl ?_
    unfold rfs
    first | rw [if_pos c1] | (rw [if_neg c1]; rfl)
set_option maxRecDepth 20000 in
set_option maxHeartbeats 1000000 in
theorem sp_X4_number {uo : UD} {ux : XD} {ua ub : TD} {v0 v1 v2 : SD} {up uq : PD} {ur : HD} {lo hi : Int} (hX : XOK ux) (h1 : 0 ≤ lo ∧ lo ≤ 100) (h2 : 0 ≤ hi ∧ hi ≤ 100) : SpI l 5 yX4_number cX4_number 3 (some .int) [mr 1, mi lo, mi hi] (hC uo ux ua ub v0 v1 v2 up uq ur) (fun z h => z = numR lo ux ∧ h = hC uo (numX lo hi ux) ua ub v0 v1 v2 up uq ur) := by
  have hx1 := hX.1
  have hx2 := hX.2.1
  have hx3 := hX.2.2.1
  have hx4 := hX.2.2.2.1
  have hx5 := hX.2.2.2.2.1
  have hx6 := hX.2.2.2.2.2.1
  have hy := XOK_ntk hX
  have hy4 := hy.2.2.2.1
  have hy5 := hy.2.2.2.2.1
  refine SpI.of (cd := kdX4_number) (fT := mlook flX4) (kT := mlook klX4) (kJ := mlook jlX4) mfA_X4_number ok_X4_number fT_X4 kT_X4 jT_X4 jdk_ok True.intro (Nat.le_of_ble_eq_true rfl) (fun G hG => ?_)
  refine rRun hG 99999 ?_
  refine And.intro rfl (And.intro (by first | omega | (simp only [xB_s, xN_s, xP_s, xS_s, xK_s, xV_s, xF_s, xR_s, xL_s, xA_s]; omega)) (And.intro (fun c1 => ?_) (fun c1 => ?_)))
  · try simp only [xB_s, xN_s, xP_s, xS_s, xK_s, xV_s, xF_s, xR_s, xL_s, xA_s] at c1
    refine rRun hG 99999 ?_
    refine rVV hG (sp_X4_nextToken (uo := uo) (ux := ux) (ua := ua) (ub := ub) (v0 := v0) (v1 := v1) (v2 := v2) (up := up) (uq := uq) (ur := ur) (hX).1 (hX).2.1 (hX).2.2.1 (hX).2.2.2.2.2.2) rfl rfl lk_X4_48 mf_X4_nextToken (by decide) (Nat.le_of_ble_eq_true rfl) ⟨_, _, _, rfl, rfl, rfl⟩ ?_
    rintro _ rfl
    refine rRun hG 99999 ?_
    refine And.intro rfl (And.intro (by first | omega | (simp only [xB_s, xN_s, xP_s, xS_s, xK_s, xV_s, xF_s, xR_s, xL_s, xA_s]; omega)) (And.intro (fun c3 => ?_) (fun c3 => ?_)))
    · try simp only [xB_s, xN_s, xP_s, xS_s, xK_s, xV_s, xF_s, xR_s, xL_s, xA_s] at c3
      refine rRun hG 99999 ?_
      refine rVV hG (sp_X4_refuseIf (uo := uo) (ux := (ntk ux)) (ua := ua) (ub := ub) (v0 := v0) (v1 := v1) (v2 := v2) (up := up) (uq := uq) (ur := ur) (c := 1) (by omega)) rfl rfl lk_X4_77 mf_X4_refuseIf (by decide) (Nat.le_of_ble_eq_true rfl) ⟨_, _, _, rfl, rfl, rfl⟩ ?_
      rintro _ rfl
      refine rRun hG 99999 ?_
      refine And.intro rfl (?_)
      refine rIR hG rfl rfl (True.intro) ?_
      have e0 : rfs 1 (ntk ux) = xFl (ntk ux) := if_neg (by decide)
      rw [e0]
      refine ⟨?_, ?_⟩
      · unfold numR; rw [if_pos (by omega)]; rfl
      · unfold numX; rw [if_pos (by omega), if_neg (by omega)]
    · try simp only [xB_s, xN_s, xP_s, xS_s, xK_s, xV_s, xF_s, xR_s, xL_s, xA_s] at c3
      refine And.intro rfl (And.intro (by first | omega | (simp only [xB_s, xN_s, xP_s, xS_s, xK_s, xV_s, xF_s, xR_s, xL_s, xA_s]; omega)) (And.intro (fun c5 => ?_) (fun c5 => ?_)))
      · try simp only [xB_s, xN_s, xP_s, xS_s, xK_s, xV_s, xF_s, xR_s, xL_s, xA_s] at c5
        refine rRun hG 99999 ?_
        refine rVV hG (sp_X4_refuseIf (uo := uo) (ux := (ntk ux)) (ua := ua) (ub := ub) (v0 := v0) (v1 := v1) (v2 := v2) (up := up) (uq := uq) (ur := ur) (c := 1) (by omega)) rfl rfl lk_X4_77 mf_X4_refuseIf (by decide) (Nat.le_of_ble_eq_true rfl) ⟨_, _, _, rfl, rfl, rfl⟩ ?_
        rintro _ rfl
        refine rRun hG 99999 ?_
        refine And.intro rfl (?_)
        refine rIR hG rfl rfl (True.intro) ?_
        have e0 : rfs 1 (ntk ux) = xFl (ntk ux) := if_neg (by decide)
        rw [e0]
        refine ⟨?_, ?_⟩
        · unfold numR; rw [if_pos (by omega)]; rfl
        · unfold numX; rw [if_pos (by omega), if_neg (by omega)]
      · try simp only [xB_s, xN_s, xP_s, xS_s, xK_s, xV_s, xF_s, xR_s, xL_s, xA_s] at c5
        refine And.intro rfl (And.intro (by first | omega | (simp only [xB_s, xN_s, xP_s, xS_s, xK_s, xV_s, xF_s, xR_s, xL_s, xA_s]; omega)) (And.intro (fun c7 => ?_) (fun c7 => ?_)))
        · try simp only [xB_s, xN_s, xP_s, xS_s, xK_s, xV_s, xF_s, xR_s, xL_s, xA_s] at c7
          refine rRun hG 99999 ?_
          refine rVV hG (sp_X4_refuseIf (uo := uo) (ux := (ntk ux)) (ua := ua) (ub := ub) (v0 := v0) (v1 := v1) (v2 := v2) (up := up) (uq := uq) (ur := ur) (c := 0) (by omega)) rfl rfl lk_X4_77 mf_X4_refuseIf (by decide) (Nat.le_of_ble_eq_true rfl) ⟨_, _, _, rfl, rfl, rfl⟩ ?_
          rintro _ rfl
          refine rRun hG 99999 ?_
          refine And.intro rfl (?_)
          refine rIR hG rfl rfl (True.intro) ?_
          have e0 : rfs 0 (ntk ux) = ntk ux := if_pos rfl
          rw [e0]
          refine ⟨?_, ?_⟩
          · unfold numR; rw [if_pos (by omega)]
          · unfold numX; rw [if_pos (by omega), if_pos (by omega)]
        · try simp only [xB_s, xN_s, xP_s, xS_s, xK_s, xV_s, xF_s, xR_s, xL_s, xA_s] at c7
          refine rVV hG (sp_X4_refuseIf (uo := uo) (ux := (ntk ux)) (ua := ua) (ub := ub) (v0 := v0) (v1 := v1) (v2 := v2) (up := up) (uq := uq) (ur := ur) (c := 1) (by omega)) rfl rfl lk_X4_77 mf_X4_refuseIf (by decide) (Nat.le_of_ble_eq_true rfl) ⟨_, _, _, rfl, rfl, rfl⟩ ?_
          rintro _ rfl
          refine rRun hG 99999 ?_
          refine And.intro rfl (?_)
          refine rIR hG rfl rfl (True.intro) ?_
          have e0 : rfs 1 (ntk ux) = xFl (ntk ux) := if_neg (by decide)
          rw [e0]
          refine ⟨?_, ?_⟩
          · unfold numR; rw [if_pos (by omega)]; rfl
          · unfold numX; rw [if_pos (by omega), if_neg (by omega)]
  · try simp only [xB_s, xN_s, xP_s, xS_s, xK_s, xV_s, xF_s, xR_s, xL_s, xA_s] at c1
    refine rIR hG rfl rfl (True.intro) ?_
    unfold numR numX
    rw [if_neg (by omega), if_neg (by omega)]
    exact ⟨rfl, rfl⟩
theorem ntk_F {x : XD} : xF (ntk x) = xF x := by
  unfold ntk
  split
  · rfl
  · split
    · rfl
    · split <;> rfl
set_option maxRecDepth 20000 in
set_option maxHeartbeats 1000000 in
theorem sp_X4_stops {uo : UD} {ux : XD} {ua ub : TD} {v0 v1 v2 : SD} {up uq : PD} {ur : HD}  (hX : XOK ux) : SpI l 5 yX4_stops cX4_stops 1 (some .boolean) [mr 1] (hC uo ux ua ub v0 v1 v2 up uq ur) (fun z h => z = (if xF (stpX ux) = -1 then 1 else 0) ∧ h = hC uo (stpX ux) ua ub v0 v1 v2 up uq ur) := by
  have hx1 := hX.1
  have hx2 := hX.2.1
  have hx3 := hX.2.2.1
  have hx4 := hX.2.2.2.1
  have hx5 := hX.2.2.2.2.1
  have hx6 := hX.2.2.2.2.2.1
  have hy := XOK_ntk hX
  have hy4 := hy.2.2.2.1
  have hy5 := hy.2.2.2.2.1
  refine SpI.of (cd := kdX4_stops) (fT := mlook flX4) (kT := mlook klX4) (kJ := mlook jlX4) mfA_X4_stops ok_X4_stops fT_X4 kT_X4 jT_X4 jdk_ok True.intro (Nat.le_of_ble_eq_true rfl) (fun G hG => ?_)
  have J29 : ∀ y : XD, XOK y → y = stpX ux → G 29 [some (mr 1)] [] (hC uo y ua ub v0 v1 v2 up uq ur) := by
    intro y hY he
    have hy6 := hY.2.2.2.2.2.1
    refine rRun hG 99999 ?_
    refine And.intro rfl (And.intro (by first | omega | (simp only [xB_s, xN_s, xP_s, xS_s, xK_s, xV_s, xF_s, xR_s, xL_s, xA_s]; omega)) (And.intro (fun c1 => ?_) (fun c1 => ?_)))
    · try simp only [xB_s, xN_s, xP_s, xS_s, xK_s, xV_s, xF_s, xR_s, xL_s, xA_s] at c1
      refine rRun hG 99999 ?_
      refine rIR hG rfl rfl (by first | exact Or.inl rfl | exact Or.inr rfl | (show _ ∨ _; omega)) ?_
      refine ⟨?_, by rw [← he]⟩
      rw [← he]
      first | rw [if_pos (by omega)] | rw [if_neg (by omega)]
    · try simp only [xB_s, xN_s, xP_s, xS_s, xK_s, xV_s, xF_s, xR_s, xL_s, xA_s] at c1
      refine rIR hG rfl rfl (by first | exact Or.inl rfl | exact Or.inr rfl | (show _ ∨ _; omega)) ?_
      refine ⟨?_, by rw [← he]⟩
      rw [← he]
      first | rw [if_pos (by omega)] | rw [if_neg (by omega)]
  refine rRun hG 29 ?_
  refine And.intro rfl (And.intro (by first | omega | (simp only [xB_s, xN_s, xP_s, xS_s, xK_s, xV_s, xF_s, xR_s, xL_s, xA_s]; omega)) (And.intro (fun c1 => ?_) (fun c1 => ?_)))
  · try simp only [xB_s, xN_s, xP_s, xS_s, xK_s, xV_s, xF_s, xR_s, xL_s, xA_s] at c1
    exact J29 ux hX (by unfold stpX; rw [if_neg (by omega)])
  · try simp only [xB_s, xN_s, xP_s, xS_s, xK_s, xV_s, xF_s, xR_s, xL_s, xA_s] at c1
    refine rVV hG (sp_X4_nextToken (uo := uo) (ux := ux) (ua := ua) (ub := ub) (v0 := v0) (v1 := v1) (v2 := v2) (up := up) (uq := uq) (ur := ur) (hX).1 (hX).2.1 (hX).2.2.1 (hX).2.2.2.2.2.2) rfl rfl lk_X4_48 mf_X4_nextToken (by decide) (Nat.le_of_ble_eq_true rfl) ⟨_, _, _, rfl, rfl, rfl⟩ ?_
    rintro _ rfl
    refine rRun hG 29 ?_
    refine And.intro rfl (And.intro (by first | omega | (simp only [xB_s, xN_s, xP_s, xS_s, xK_s, xV_s, xF_s, xR_s, xL_s, xA_s]; omega)) (And.intro (fun ck => ?_) (fun ck => ?_)))
    · try simp only [xB_s, xN_s, xP_s, xS_s, xK_s, xV_s, xF_s, xR_s, xL_s, xA_s] at ck
      refine rRun hG 29 ?_
      refine rVV hG (sp_X4_refuseIf (uo := uo) (ux := (ntk ux)) (ua := ua) (ub := ub) (v0 := v0) (v1 := v1) (v2 := v2) (up := up) (uq := uq) (ur := ur) (c := 0) (by omega)) rfl rfl lk_X4_77 mf_X4_refuseIf (by decide) (Nat.le_of_ble_eq_true rfl) ⟨_, _, _, rfl, rfl, rfl⟩ ?_
      rintro _ rfl
      exact J29 _ (XOK_rfs hy) (by unfold stpX; rw [if_pos (by omega), if_pos (by omega)]; rfl)
    · try simp only [xB_s, xN_s, xP_s, xS_s, xK_s, xV_s, xF_s, xR_s, xL_s, xA_s] at ck
      refine rVV hG (sp_X4_refuseIf (uo := uo) (ux := (ntk ux)) (ua := ua) (ub := ub) (v0 := v0) (v1 := v1) (v2 := v2) (up := up) (uq := uq) (ur := ur) (c := 1) (by omega)) rfl rfl lk_X4_77 mf_X4_refuseIf (by decide) (Nat.le_of_ble_eq_true rfl) ⟨_, _, _, rfl, rfl, rfl⟩ ?_
      rintro _ rfl
      exact J29 _ (XOK_rfs hy) (by unfold stpX; rw [if_pos (by omega), if_neg (by omega)]; rfl)
def b2i (c : Prop) [Decidable c] : Int := if c then 1 else 0
/-- what an item of the text does: to the text's place, to what is told -/
def rdDayX (x : XD) (t : TD) : XD := stpX (numX 0 10 (rfs (b2i (14 ≤ tDay t)) x))
def rdDayT (x : XD) (t : TD) : TD := if xF (rdDayX x t) = -1 then tAddDay t (numR 0 (rfs (b2i (14 ≤ tDay t)) x)) else t
def rdB1 (x : XD) (t : TD) : XD := rfs (b2i (6 ≤ tNB t)) x
def rdB2 (x : XD) (t : TD) : XD := numX 0 13 (rdB1 x t)
def rdB3 (x : XD) (t : TD) : XD := numX 0 1 (rdB2 x t)
def rdB4 (x : XD) (t : TD) : XD := numX 0 5 (rdB3 x t)
def rdB5 (x : XD) (t : TD) : XD := numX 1 20 (rdB4 x t)
def rdBriX (x : XD) (t : TD) : XD := stpX (rdB5 x t)
def rdBriT (x : XD) (t : TD) : TD := if xF (rdBriX x t) = -1 then tAddBri t (numR 0 (rdB1 x t)) (numR 0 (rdB2 x t)) (numR 0 (rdB3 x t) - 2) (numR 1 (rdB4 x t)) else t
def rdT1 (x : XD) (t : TD) : XD := rfs (b2i (4 ≤ tNT t)) x
def rdT2 (x : XD) (t : TD) : XD := numX 1 9 (rdT1 x t)
def rdT3 (x : XD) (t : TD) : XD := numX 0 1 (rdT2 x t)
def rdTraX (x : XD) (t : TD) : XD := stpX (rdT3 x t)
def rdTraT (x : XD) (t : TD) : TD := if xF (rdTraX x t) = -1 then tAddTra t (numR 1 (rdT1 x t)) (numR 0 (rdT2 x t)) else t
def xFlg (x : XD) (r l a : Int) : XD := (xB x, xN x, xP x, xS x, xK x, xV x, xF x, r, l, a)
def rdR1 (x : XD) : XD := stpX (numX 1 60 (rfs (xR x) x))
def rdRstX (x : XD) : XD := if xF (rdR1 x) = -1 then xFlg (rdR1 x) 1 (xL (rdR1 x)) (xA (rdR1 x)) else rdR1 x
def rdRstT (x : XD) (t : TD) : TD := if xF (rdR1 x) = -1 then tSetRst t (numR 1 (rfs (xR x) x)) else t
def rdL1 (x : XD) : XD := stpX (numX 0 6 (rfs (xL x) x))
def rdLimX (x : XD) : XD := if xF (rdL1 x) = -1 then xFlg (rdL1 x) (xR (rdL1 x)) 1 (xA (rdL1 x)) else rdL1 x
def rdLimT (x : XD) (t : TD) : TD := if xF (rdL1 x) = -1 then tSetLim t (numR 0 (rfs (xL x) x)) else t
def rdA1 (x : XD) : XD := stpX (numX 0 9 (rfs (xA x) x))
def rdAddX (x : XD) : XD := if xF (rdA1 x) = -1 then xFlg (rdA1 x) (xR (rdA1 x)) (xL (rdA1 x)) 1 else rdA1 x
def rdAddT (x : XD) (t : TD) : TD := if xF (rdA1 x) = -1 then tSetAdd t (numR 0 (rfs (xA x) x)) else t
end WALKS
