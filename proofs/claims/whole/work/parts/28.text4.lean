/-! Text: the reading of it all -/
section WALKS
variable {l : Launch}
theorem le01 : (0 : Int) ≤ 1 ∧ (1 : Int) ≤ 1 := by decide
theorem le00 : (0 : Int) ≤ 0 ∧ (0 : Int) ≤ 1 := by decide
theorem le0n {n : Int} (h : 0 ≤ n) : (0 : Int) ≤ 0 ∧ (0 : Int) ≤ n := ⟨Int.le_refl _, h⟩
def FL (x : XD) : Prop := (0 ≤ xR x ∧ xR x ≤ 1) ∧ (0 ≤ xL x ∧ xL x ≤ 1) ∧ 0 ≤ xA x ∧ xA x ≤ 1
theorem FL_of {x y : XD} (h : FL x) (h1 : xR y = xR x) (h2 : xL y = xL x) (h3 : xA y = xA x) : FL y := by
  unfold FL; rw [h1, h2, h3]; exact h
theorem ntk_R {x : XD} : xR (ntk x) = xR x ∧ xL (ntk x) = xL x ∧ xA (ntk x) = xA x := by
  unfold ntk
  split
  · exact ⟨rfl, rfl, rfl⟩
  · split
    · exact ⟨rfl, rfl, rfl⟩
    · split <;> exact ⟨rfl, rfl, rfl⟩
theorem rfs_R {x : XD} {c : Int} : xR (rfs c x) = xR x ∧ xL (rfs c x) = xL x ∧ xA (rfs c x) = xA x := by
  unfold rfs
  split <;> exact ⟨rfl, rfl, rfl⟩
theorem num_R {x : XD} {lo hi : Int} : xR (numX lo hi x) = xR x ∧ xL (numX lo hi x) = xL x ∧ xA (numX lo hi x) = xA x := by
  unfold numX
  split
  · split
    · exact ntk_R
    · exact ntk_R (x := x)
  · exact ⟨rfl, rfl, rfl⟩
theorem stp_R {x : XD} : xR (stpX x) = xR x ∧ xL (stpX x) = xL x ∧ xA (stpX x) = xA x := by
  unfold stpX
  split
  · split
    · exact ntk_R
    · exact ntk_R (x := x)
  · exact ⟨rfl, rfl, rfl⟩
theorem FL_ntk {x : XD} (h : FL x) : FL (ntk x) := FL_of h ntk_R.1 ntk_R.2.1 ntk_R.2.2
theorem FL_rfs {x : XD} (h : FL x) {c : Int} : FL (rfs c x) := FL_of h rfs_R.1 rfs_R.2.1 rfs_R.2.2
theorem FL_num {x : XD} (h : FL x) {lo hi : Int} : FL (numX lo hi x) := FL_of h num_R.1 num_R.2.1 num_R.2.2
theorem FL_stp {x : XD} (h : FL x) : FL (stpX x) := FL_of h stp_R.1 stp_R.2.1 stp_R.2.2
def TCN (t : TD) : Prop := (0 ≤ tDay t ∧ tDay t ≤ 14) ∧ (0 ≤ tNB t ∧ tNB t ≤ 6) ∧ 0 ≤ tNT t ∧ tNT t ≤ 4
theorem TCN_day {t : TD} (h : TCN t) {s : Int} : TCN (tAddDay t s) := by
  obtain ⟨h1, h2, h3⟩ := id h
  unfold tAddDay
  split
  · exact ⟨(by show 0 ≤ tDay t + 1 ∧ tDay t + 1 ≤ 14; omega), h2, h3⟩
  · exact h
theorem TCN_bri {t : TD} (h : TCN t) {d s p c : Int} : TCN (tAddBri t d s p c) := by
  obtain ⟨h1, h2, h3⟩ := id h
  unfold tAddBri
  split
  · exact ⟨h1, (by show 0 ≤ tNB t + 1 ∧ tNB t + 1 ≤ 6; omega), h3⟩
  · exact h
theorem TCN_tra {t : TD} (h : TCN t) {w s : Int} : TCN (tAddTra t w s) := by
  obtain ⟨h1, h2, h3⟩ := id h
  unfold tAddTra
  split
  · exact ⟨h1, h2, (by show 0 ≤ tNT t + 1 ∧ tNT t + 1 ≤ 4; omega)⟩
  · exact h
def ltr (x : XD) : Int := if xK x = 1 then xV x else 0
def itmX (x : XD) (t : TD) : XD := if ltr x = 100 then rdDayX x t else if ltr x = 98 then rdBriX x t else if ltr x = 104 then rdTraX x t else if ltr x = 114 then rdRstX x else if ltr x = 108 then rdLimX x else if ltr x = 97 then rdAddX x else xFl x
def itmT (x : XD) (t : TD) : TD := if ltr x = 100 then rdDayT x t else if ltr x = 98 then rdBriT x t else if ltr x = 104 then rdTraT x t else if ltr x = 114 then rdRstT x t else if ltr x = 108 then rdLimT x t else if ltr x = 97 then rdAddT x t else t
def rdL : Nat → XD → TD → Nat → XD × TD × Nat
  | 0, x, t, i => (x, t, i)
  | n + 1, x, t, i => if ¬ xK x = 0 ∧ xF x = -1 then rdL n (ntk (itmX x t)) (itmT x t) (i + 1) else (x, t, i)
theorem rdL_s {n : Nat} {x : XD} {t : TD} {i : Nat} : rdL (n + 1) x t i = if ¬ xK x = 0 ∧ xF x = -1 then rdL n (ntk (itmX x t)) (itmT x t) (i + 1) else (x, t, i) := rfl
theorem rdL_no {n : Nat} {x : XD} {t : TD} {i : Nat} (h : ¬ (¬ xK x = 0 ∧ xF x = -1)) : rdL n x t i = (x, t, i) := by
  cases n with
  | zero => rfl
  | succ n => rw [rdL_s, if_neg h]
def begX (x : XD) : XD := (xB x, xN x, 0, xS x, xK x, xV x, -1, 0, 0, 0)
def rdAll (x : XD) (t : TD) : XD × TD × Nat := rdL 150 (ntk (begX x)) (tWipe t) 0
def rdAns (x : XD) (t : TD) : Int := if xF (rdAll x t).1 = -1 then ((rdAll x t).2.2 : Int) else -10 - xF (rdAll x t).1
theorem XOK_beg {x : XD} (h : XOK x) : XOK (begX x) := ⟨h.1, ⟨Int.le_refl _, h.1.1⟩, h.2.2.1, h.2.2.2.1, h.2.2.2.2.1, by show (-1 : Int) ≤ -1 ∧ (-1 : Int) ≤ 150; omega, h.2.2.2.2.2.2⟩
theorem XOK_flg {x : XD} (h : XOK x) {r l a : Int} : XOK (xFlg x r l a) := h
theorem XOK_itm {x : XD} (h : XOK x) {t : TD} : XOK (itmX x t) := by
  unfold itmX
  split
  · exact XOK_stp (XOK_num (XOK_rfs h))
  · split
    · exact XOK_stp (XOK_num (XOK_num (XOK_num (XOK_num (XOK_rfs h)))))
    · split
      · exact XOK_stp (XOK_num (XOK_num (XOK_rfs h)))
      · split
        · unfold rdRstX rdR1; split <;> exact XOK_stp (XOK_num (XOK_rfs h))
        · split
          · unfold rdLimX rdL1; split <;> exact XOK_stp (XOK_num (XOK_rfs h))
          · split
            · unfold rdAddX rdA1; split <;> exact XOK_stp (XOK_num (XOK_rfs h))
            · exact XOK_fl h
theorem FL_itm {x : XD} (h : FL x) {t : TD} : FL (itmX x t) := by
  have h1 := fun (c lo hi : Int) => FL_stp (FL_num (FL_rfs h (c := c)) (lo := lo) (hi := hi))
  unfold itmX
  split
  · exact h1 _ _ _
  · split
    · exact FL_stp (FL_num (FL_num (FL_num (FL_num (FL_rfs h)))))
    · split
      · exact FL_stp (FL_num (FL_num (FL_rfs h)))
      · split
        · unfold rdRstX; split
          · have q := h1 (xR x) 1 60; exact ⟨le01, q.2.1, q.2.2⟩
          · exact h1 _ _ _
        · split
          · unfold rdLimX; split
            · have q := h1 (xL x) 0 6; exact ⟨q.1, le01, q.2.2⟩
            · exact h1 _ _ _
          · split
            · unfold rdAddX; split
              · have q := h1 (xA x) 0 9; exact ⟨q.1, q.2.1, le01⟩
              · exact h1 _ _ _
            · exact h
theorem TCN_itm {x : XD} {t : TD} (h : TCN t) : TCN (itmT x t) := by
  unfold itmT
  split
  · unfold rdDayT; split
    · exact TCN_day h
    · exact h
  · split
    · unfold rdBriT; split
      · exact TCN_bri h
      · exact h
    · split
      · unfold rdTraT; split
        · exact TCN_tra h
        · exact h
      · split
        · unfold rdRstT; split <;> exact h
        · split
          · unfold rdLimT; split <;> exact h
          · split
            · unfold rdAddT; split <;> exact h
            · exact h
theorem tsel_3 {k : Bool} {ua ub t' : TD} : t' = tsel k (cond k ua t') (cond k t' ub) := by cases k <;> rfl
set_option maxRecDepth 20000 in
set_option maxHeartbeats 1000000 in
theorem sp_X4_add {uo : UD} {ux : XD} {ua ub : TD} {v0 v1 v2 : SD} {up uq : PD} {ur : HD} {c : Int} (h1 : 0 ≤ xN ux ∧ xN ux ≤ 150) : SpI l 1 yX4_add cX4_add 2 (some .boolean) [mr 1, mi c] (hC uo ux ua ub v0 v1 v2 up uq ur) (fun z h => (z = 0 ∧ 150 ≤ xN ux ∧ h = hC uo ux ua ub v0 v1 v2 up uq ur) ∨ (z = 1 ∧ xN ux < 150 ∧ h = hC uo (mup (xB ux) (xN ux).toNat c, xN ux + 1, xP ux, xS ux, xK ux, xV ux, xF ux, xR ux, xL ux, xA ux) ua ub v0 v1 v2 up uq ur)) := by
  refine SpI.of (cd := kdX4_add) (fT := mlook flX4) (kT := mlook klX4) (kJ := mlook jlX4) mfA_X4_add ok_X4_add fT_X4 kT_X4 jT_X4 jdk_ok True.intro (Nat.le_of_ble_eq_true rfl) (fun G hG => ?_)
  refine rRun hG 99999 ?_
  refine And.intro rfl (And.intro (by first | omega | (simp only [xB_s, xN_s, xP_s, xS_s, xK_s, xV_s, xF_s, xR_s, xL_s, xA_s]; omega)) (And.intro (fun c1 => ?_) (fun c1 => ?_)))
  · try simp only [xB_s, xN_s, xP_s, xS_s, xK_s, xV_s, xF_s, xR_s, xL_s, xA_s] at c1
    refine rRun hG 99999 ?_
    refine rIR hG rfl rfl (by first | exact Or.inl rfl | exact Or.inr rfl | (show _ ∨ _; omega)) ?_
    first | exact Or.inl ⟨rfl, by omega, rfl⟩ | exact Or.inr ⟨rfl, by omega, rfl⟩
  · try simp only [xB_s, xN_s, xP_s, xS_s, xK_s, xV_s, xF_s, xR_s, xL_s, xA_s] at c1
    refine And.intro rfl (And.intro rfl (And.intro (by decide) (And.intro (by first | omega | (simp only [xB_s, xN_s, xP_s, xS_s, xK_s, xV_s, xF_s, xR_s, xL_s, xA_s]; omega)) (And.intro (fun c2 => ?_) (fun c2 => ?_)))))
    · try simp only [xB_s, xN_s, xP_s, xS_s, xK_s, xV_s, xF_s, xR_s, xL_s, xA_s] at c2
      refine rRun hG 99999 ?_
      refine And.intro rfl (And.intro rfl (And.intro (by first | omega | (simp only [xB_s, xN_s, xP_s, xS_s, xK_s, xV_s, xF_s, xR_s, xL_s, xA_s]; omega)) (And.intro rfl (And.intro ⟨rfl, by exact Nat.le_of_ble_eq_true rfl, by first | exact True.intro | exact Or.inl rfl | exact Or.inr rfl⟩ (?_)))))
      refine rIR hG rfl rfl (by first | exact Or.inl rfl | exact Or.inr rfl | (show _ ∨ _; omega)) ?_
      first | exact Or.inl ⟨rfl, by omega, rfl⟩ | exact Or.inr ⟨rfl, by omega, rfl⟩
    · try simp only [xB_s, xN_s, xP_s, xS_s, xK_s, xV_s, xF_s, xR_s, xL_s, xA_s] at c2
      refine rIR hG rfl rfl (by first | exact Or.inl rfl | exact Or.inr rfl | (show _ ∨ _; omega)) ?_
      first | exact Or.inl ⟨rfl, by omega, rfl⟩ | exact Or.inr ⟨rfl, by omega, rfl⟩
set_option maxRecDepth 20000 in
set_option maxHeartbeats 1000000 in
theorem sp_X4_begin {uo : UD} {ux : XD} {ua ub : TD} {v0 v1 v2 : SD} {up uq : PD} {ur : HD} {k : Bool} {t : TD} (ht : t = tsel k ua ub)  : SpV l 2 yX4_begin cX4_begin 2 none [mr 1, mr (tix k)] (hC uo ux ua ub v0 v1 v2 up uq ur) (fun h => h = hC uo (begX ux) (cond k ua (tWipe t)) (cond k (tWipe t) ub) v0 v1 v2 up uq ur) := by
  refine SpV.of (cd := kdX4_begin) (fT := mlook flX4) (kT := mlook klX4) (kJ := mlook jlX4) mfA_X4_begin ok_X4_begin fT_X4 kT_X4 jT_X4 jdk_ok True.intro (Nat.le_of_ble_eq_true rfl) (fun G hG => ?_)
  refine rRun hG 99999 ?_
  refine rVV hG (sp_X5_wipe (uo := uo) (ux := ux) (ua := ua) (ub := ub) (v0 := v0) (v1 := v1) (v2 := v2) (up := up) (uq := uq) (ur := ur) (k := k) (t := t) ht) rfl rfl lk_X4_69 mf_X5_wipe (by decide) (Nat.le_of_ble_eq_true rfl) (by cases k <;> exact ⟨_, _, _, rfl, rfl, rfl⟩) ?_
  rintro _ rfl
  refine rRun hG 99999 ?_
  refine And.intro ⟨rfl, by exact Nat.le_of_ble_eq_true rfl, by first | exact True.intro | exact Or.inl rfl | exact Or.inr rfl⟩ (And.intro ⟨rfl, by exact Nat.le_of_ble_eq_true rfl, by first | exact True.intro | exact Or.inl rfl | exact Or.inr rfl⟩ (And.intro ⟨rfl, by exact Nat.le_of_ble_eq_true rfl, by first | exact True.intro | exact Or.inl rfl | exact Or.inr rfl⟩ (And.intro ⟨rfl, by exact Nat.le_of_ble_eq_true rfl, by first | exact True.intro | exact Or.inl rfl | exact Or.inr rfl⟩ (And.intro ⟨rfl, by exact Nat.le_of_ble_eq_true rfl, by first | exact True.intro | exact Or.inl rfl | exact Or.inr rfl⟩ (?_)))))
  refine rVR hG rfl rfl rfl ?_
  rfl
set_option maxRecDepth 20000 in
set_option maxHeartbeats 4000000 in
theorem sp_X4_readInto {uo : UD} {ux : XD} {ua ub : TD} {v0 v1 v2 : SD} {up uq : PD} {ur : HD} {k : Bool} {t : TD} (ht : t = tsel k ua ub) (hX : XOK (begX ux)) : SpI l 7 yX4_readInto cX4_readInto 3 (some .int) [mr 1, mr (tix k)] (hC uo ux ua ub v0 v1 v2 up uq ur) (fun z h => z = rdAns ux t ∧ h = hC uo (rdAll ux t).1 (cond k ua (rdAll ux t).2.1) (cond k (rdAll ux t).2.1 ub) v0 v1 v2 up uq ur) := by
  refine SpI.of (cd := kdX4_readInto) (fT := mlook flX4) (kT := mlook klX4) (kJ := mlook jlX4) mfA_X4_readInto ok_X4_readInto fT_X4 kT_X4 jT_X4 jdk_ok True.intro (Nat.le_of_ble_eq_true rfl) (fun G hG => ?_)
  have J202 : ∀ (x : XD) (T : TD) (i : Nat), XOK x → (x, T, i) = rdAll ux t → G 202 [some (mr 1), some (mr (tix k)), some (mi (i : Int))] [] (hC uo x (cond k ua T) (cond k T ub) v0 v1 v2 up uq ur) := by
    intro x T i hX he
    have hx6 := hX.2.2.2.2.2.1
    have e1 : x = (rdAll ux t).1 := congrArg Prod.fst he
    have e2 : T = (rdAll ux t).2.1 := congrArg (fun q => q.2.1) he
    have e3 : i = (rdAll ux t).2.2 := congrArg (fun q => q.2.2) he
    refine rRun hG 99999 ?_
    refine And.intro rfl (And.intro (by first | omega | (simp only [xB_s, xN_s, xP_s, xS_s, xK_s, xV_s, xF_s, xR_s, xL_s, xA_s]; omega)) (And.intro (fun c1 => ?_) (fun c1 => ?_)))
    · try simp only [xB_s, xN_s, xP_s, xS_s, xK_s, xV_s, xF_s, xR_s, xL_s, xA_s] at c1
      refine rRun hG 99999 ?_
      refine And.intro rfl (?_)
      refine rIR hG rfl rfl (True.intro) ?_
      refine ⟨?_, by rw [← e1, ← e2]⟩
      unfold rdAns
      rw [← e1, ← e3]
      first | (rw [if_pos (by omega)]; done) | (rw [if_neg (by omega)]; done)
    · try simp only [xB_s, xN_s, xP_s, xS_s, xK_s, xV_s, xF_s, xR_s, xL_s, xA_s] at c1
      refine rIR hG rfl rfl (True.intro) ?_
      refine ⟨?_, by rw [← e1, ← e2]⟩
      unfold rdAns
      rw [← e1, ← e3]
      first | (rw [if_pos (by omega)]; done) | (rw [if_neg (by omega)]; done)
  have J11 : ∀ (n i : Nat) (x : XD) (T : TD), XOK x → FL x → TCN T → i + n = 150 → rdL n x T i = rdAll ux t → G 11 [some (mr 1), some (mr (tix k)), some (mi (i : Int))] [] (hC uo x (cond k ua T) (cond k T ub) v0 v1 v2 up uq ur) := by
    intro n
    induction n with
    | zero =>
      intro i x T hX hF hT hi he
      have hx1 := hX.1
      have hx4 := hX.2.2.2.1
      have hx5 := hX.2.2.2.2.1
      have hx6 := hX.2.2.2.2.2.1
      refine rRun hG 202 ?_
      refine And.intro rfl (And.intro (by first | omega | (simp only [xB_s, xN_s, xP_s, xS_s, xK_s, xV_s, xF_s, xR_s, xL_s, xA_s]; omega)) (And.intro (fun c1 => ?_) (fun c1 => ?_)))
      · try simp only [xB_s, xN_s, xP_s, xS_s, xK_s, xV_s, xF_s, xR_s, xL_s, xA_s] at c1
        exact J202 x T i hX (by rw [← he, rdL_no (by omega)])
      · try simp only [xB_s, xN_s, xP_s, xS_s, xK_s, xV_s, xF_s, xR_s, xL_s, xA_s] at c1
        refine And.intro rfl (And.intro (by first | omega | (simp only [xB_s, xN_s, xP_s, xS_s, xK_s, xV_s, xF_s, xR_s, xL_s, xA_s]; omega)) (And.intro (fun c2 => ?_) (fun c2 => ?_)))
        · try simp only [xB_s, xN_s, xP_s, xS_s, xK_s, xV_s, xF_s, xR_s, xL_s, xA_s] at c2
          exact J202 x T i hX (by rw [← he, rdL_no (by omega)])
        · try simp only [xB_s, xN_s, xP_s, xS_s, xK_s, xV_s, xF_s, xR_s, xL_s, xA_s] at c2
          refine And.intro (by first | omega | (simp only [xB_s, xN_s, xP_s, xS_s, xK_s, xV_s, xF_s, xR_s, xL_s, xA_s]; omega)) (And.intro (fun c3 => ?_) (fun c3 => ?_))
          · try simp only [xB_s, xN_s, xP_s, xS_s, xK_s, xV_s, xF_s, xR_s, xL_s, xA_s] at c3
            exact J202 x T i hX he
          · try simp only [xB_s, xN_s, xP_s, xS_s, xK_s, xV_s, xF_s, xR_s, xL_s, xA_s] at c3
            exfalso; omega
    | succ n ih =>
      intro i x T hX hF hT hi he
      have hx1 := hX.1
      have hx4 := hX.2.2.2.1
      have hx5 := hX.2.2.2.2.1
      have hx6 := hX.2.2.2.2.2.1
      have J192 : ¬ xK x = 0 ∧ xF x = -1 → ∀ (X2 : XD) (T2 : TD), X2 = itmX x T → T2 = itmT x T → G 192 [some (mr 1), some (mr (tix k)), some (mi (i : Int))] [] (hC uo X2 (cond k ua T2) (cond k T2 ub) v0 v1 v2 up uq ur) := by
        intro hc X2 T2 hX2 hT2
        subst hX2
        subst hT2
        have hY := XOK_itm hX (t := T)
        rw [rdL_s, if_pos hc] at he
        refine rRun hG 99999 ?_
        refine rVV hG (sp_X4_nextToken (uo := uo) (ux := (itmX x T)) (ua := cond k ua (itmT x T)) (ub := cond k (itmT x T) ub) (v0 := v0) (v1 := v1) (v2 := v2) (up := up) (uq := uq) (ur := ur) hY.1 hY.2.1 hY.2.2.1 hY.2.2.2.2.2.2) rfl rfl lk_X4_48 mf_X4_nextToken (by decide) (Nat.le_of_ble_eq_true rfl) ⟨_, _, _, rfl, rfl, rfl⟩ ?_
        rintro _ rfl
        refine rRun hG 99999 ?_
        exact ih (i + 1) (ntk (itmX x T)) (itmT x T) (XOK_ntk hY) (FL_ntk (FL_itm hF)) (TCN_itm hT) (by omega) he
      have hl : 0 ≤ ltr x ∧ ltr x ≤ 255 := by
        unfold ltr
        split <;> omega
      have J49 : ¬ xK x = 0 ∧ xF x = -1 → G 49 [some (mr 1), some (mr (tix k)), some (mi (i : Int))] [mi (ltr x)] (hC uo x (cond k ua T) (cond k T ub) v0 v1 v2 up uq ur) := by
        intro hc
        refine rRun hG 192 ?_
        refine And.intro (by first | omega | (simp only [xB_s, xN_s, xP_s, xS_s, xK_s, xV_s, xF_s, xR_s, xL_s, xA_s]; omega)) (And.intro (fun c1 => ?_) (And.intro (fun c1 => ?_) (And.intro (fun c1 => ?_) (And.intro (fun c1 => ?_) (And.intro (fun c1 => ?_) (And.intro (fun c1 => ?_) (And.intro (fun c1 => ?_) (And.intro (fun c1 => ?_) (And.intro (fun c1 => ?_) (And.intro (fun c1 => ?_) (And.intro (fun c1 => ?_) (And.intro (fun c1 => ?_) (And.intro (fun c1 => ?_) (And.intro (fun c1 => ?_) (And.intro (fun c1 => ?_) (And.intro (fun c1 => ?_) (And.intro (fun c1 => ?_) (And.intro (fun c1 => ?_) (And.intro (fun c1 => ?_) (True.intro))))))))))))))))))))
        · skip
          refine rRun hG 192 ?_
          refine And.intro rfl (And.intro ⟨rfl, by exact Nat.le_of_ble_eq_true rfl, by first | exact True.intro | exact Or.inl rfl | exact Or.inr rfl⟩ (?_))
          exact J192 hc (xFl x) T (by unfold itmX; rw [if_neg (by omega), if_neg (by omega), if_neg (by omega), if_neg (by omega), if_neg (by omega), if_neg (by omega)]) (by unfold itmT; rw [if_neg (by omega), if_neg (by omega), if_neg (by omega), if_neg (by omega), if_neg (by omega), if_neg (by omega)])
        · skip
          refine rRun hG 192 ?_
          refine rVV hG (sp_X4_readAdded (uo := uo) (ux := x) (ua := cond k ua T) (ub := cond k T ub) (v0 := v0) (v1 := v1) (v2 := v2) (up := up) (uq := uq) (ur := ur) (k := k) (t := T) tsel_3 hX ⟨by have := hF.1; omega, by have := hF.2.1; omega, by have := hF.2.2; omega⟩) rfl rfl lk_X4_66 mf_X4_readAdded (by decide) (Nat.le_of_ble_eq_true rfl) ⟨_, _, _, rfl, rfl, rfl⟩ ?_
          rintro _ rfl
          rw [cput_a, cput_b]
          refine rRun hG 192 ?_
          exact J192 hc _ _ (by unfold itmX; rw [show ltr x = 97 by omega]; rfl) (by unfold itmT; rw [show ltr x = 97 by omega]; rfl)
        · skip
          refine rRun hG 192 ?_
          refine rVV hG (sp_X4_readBribe (uo := uo) (ux := x) (ua := cond k ua T) (ub := cond k T ub) (v0 := v0) (v1 := v1) (v2 := v2) (up := up) (uq := uq) (ur := ur) (k := k) (t := T) tsel_3 hX hT.1 hT.2.1 hT.2.2) rfl rfl lk_X4_54 mf_X4_readBribe (by decide) (Nat.le_of_ble_eq_true rfl) ⟨_, _, _, rfl, rfl, rfl⟩ ?_
          rintro _ rfl
          rw [cput_a, cput_b]
          refine rRun hG 192 ?_
          exact J192 hc _ _ (by unfold itmX; rw [show ltr x = 98 by omega]; rfl) (by unfold itmT; rw [show ltr x = 98 by omega]; rfl)
        · skip
          refine rRun hG 192 ?_
          refine And.intro rfl (And.intro ⟨rfl, by exact Nat.le_of_ble_eq_true rfl, by first | exact True.intro | exact Or.inl rfl | exact Or.inr rfl⟩ (?_))
          exact J192 hc (xFl x) T (by unfold itmX; rw [if_neg (by omega), if_neg (by omega), if_neg (by omega), if_neg (by omega), if_neg (by omega), if_neg (by omega)]) (by unfold itmT; rw [if_neg (by omega), if_neg (by omega), if_neg (by omega), if_neg (by omega), if_neg (by omega), if_neg (by omega)])
        · skip
          refine rRun hG 192 ?_
          refine rVV hG (sp_X4_readDay (uo := uo) (ux := x) (ua := cond k ua T) (ub := cond k T ub) (v0 := v0) (v1 := v1) (v2 := v2) (up := up) (uq := uq) (ur := ur) (k := k) (t := T) tsel_3 hX hT.1 hT.2.1 hT.2.2) rfl rfl lk_X4_51 mf_X4_readDay (by decide) (Nat.le_of_ble_eq_true rfl) ⟨_, _, _, rfl, rfl, rfl⟩ ?_
          rintro _ rfl
          rw [cput_a, cput_b]
          refine rRun hG 192 ?_
          exact J192 hc _ _ (by unfold itmX; rw [show ltr x = 100 by omega]; rfl) (by unfold itmT; rw [show ltr x = 100 by omega]; rfl)
        · skip
          refine rRun hG 192 ?_
          refine And.intro rfl (And.intro ⟨rfl, by exact Nat.le_of_ble_eq_true rfl, by first | exact True.intro | exact Or.inl rfl | exact Or.inr rfl⟩ (?_))
          exact J192 hc (xFl x) T (by unfold itmX; rw [if_neg (by omega), if_neg (by omega), if_neg (by omega), if_neg (by omega), if_neg (by omega), if_neg (by omega)]) (by unfold itmT; rw [if_neg (by omega), if_neg (by omega), if_neg (by omega), if_neg (by omega), if_neg (by omega), if_neg (by omega)])
        · skip
          refine rRun hG 192 ?_
          refine And.intro rfl (And.intro ⟨rfl, by exact Nat.le_of_ble_eq_true rfl, by first | exact True.intro | exact Or.inl rfl | exact Or.inr rfl⟩ (?_))
          exact J192 hc (xFl x) T (by unfold itmX; rw [if_neg (by omega), if_neg (by omega), if_neg (by omega), if_neg (by omega), if_neg (by omega), if_neg (by omega)]) (by unfold itmT; rw [if_neg (by omega), if_neg (by omega), if_neg (by omega), if_neg (by omega), if_neg (by omega), if_neg (by omega)])
        · skip
          refine rRun hG 192 ?_
          refine And.intro rfl (And.intro ⟨rfl, by exact Nat.le_of_ble_eq_true rfl, by first | exact True.intro | exact Or.inl rfl | exact Or.inr rfl⟩ (?_))
          exact J192 hc (xFl x) T (by unfold itmX; rw [if_neg (by omega), if_neg (by omega), if_neg (by omega), if_neg (by omega), if_neg (by omega), if_neg (by omega)]) (by unfold itmT; rw [if_neg (by omega), if_neg (by omega), if_neg (by omega), if_neg (by omega), if_neg (by omega), if_neg (by omega)])
        · skip
          refine rRun hG 192 ?_
          refine rVV hG (sp_X4_readTrade (uo := uo) (ux := x) (ua := cond k ua T) (ub := cond k T ub) (v0 := v0) (v1 := v1) (v2 := v2) (up := up) (uq := uq) (ur := ur) (k := k) (t := T) tsel_3 hX hT.1 hT.2.1 hT.2.2) rfl rfl lk_X4_57 mf_X4_readTrade (by decide) (Nat.le_of_ble_eq_true rfl) ⟨_, _, _, rfl, rfl, rfl⟩ ?_
          rintro _ rfl
          rw [cput_a, cput_b]
          refine rRun hG 192 ?_
          exact J192 hc _ _ (by unfold itmX; rw [show ltr x = 104 by omega]; rfl) (by unfold itmT; rw [show ltr x = 104 by omega]; rfl)
        · skip
          refine rRun hG 192 ?_
          refine And.intro rfl (And.intro ⟨rfl, by exact Nat.le_of_ble_eq_true rfl, by first | exact True.intro | exact Or.inl rfl | exact Or.inr rfl⟩ (?_))
          exact J192 hc (xFl x) T (by unfold itmX; rw [if_neg (by omega), if_neg (by omega), if_neg (by omega), if_neg (by omega), if_neg (by omega), if_neg (by omega)]) (by unfold itmT; rw [if_neg (by omega), if_neg (by omega), if_neg (by omega), if_neg (by omega), if_neg (by omega), if_neg (by omega)])
        · skip
          refine rRun hG 192 ?_
          refine And.intro rfl (And.intro ⟨rfl, by exact Nat.le_of_ble_eq_true rfl, by first | exact True.intro | exact Or.inl rfl | exact Or.inr rfl⟩ (?_))
          exact J192 hc (xFl x) T (by unfold itmX; rw [if_neg (by omega), if_neg (by omega), if_neg (by omega), if_neg (by omega), if_neg (by omega), if_neg (by omega)]) (by unfold itmT; rw [if_neg (by omega), if_neg (by omega), if_neg (by omega), if_neg (by omega), if_neg (by omega), if_neg (by omega)])
        · skip
          refine rRun hG 192 ?_
          refine And.intro rfl (And.intro ⟨rfl, by exact Nat.le_of_ble_eq_true rfl, by first | exact True.intro | exact Or.inl rfl | exact Or.inr rfl⟩ (?_))
          exact J192 hc (xFl x) T (by unfold itmX; rw [if_neg (by omega), if_neg (by omega), if_neg (by omega), if_neg (by omega), if_neg (by omega), if_neg (by omega)]) (by unfold itmT; rw [if_neg (by omega), if_neg (by omega), if_neg (by omega), if_neg (by omega), if_neg (by omega), if_neg (by omega)])
        · skip
          refine rRun hG 192 ?_
          refine rVV hG (sp_X4_readLimit (uo := uo) (ux := x) (ua := cond k ua T) (ub := cond k T ub) (v0 := v0) (v1 := v1) (v2 := v2) (up := up) (uq := uq) (ur := ur) (k := k) (t := T) tsel_3 hX ⟨by have := hF.1; omega, by have := hF.2.1; omega, by have := hF.2.2; omega⟩) rfl rfl lk_X4_63 mf_X4_readLimit (by decide) (Nat.le_of_ble_eq_true rfl) ⟨_, _, _, rfl, rfl, rfl⟩ ?_
          rintro _ rfl
          rw [cput_a, cput_b]
          refine rRun hG 192 ?_
          exact J192 hc _ _ (by unfold itmX; rw [show ltr x = 108 by omega]; rfl) (by unfold itmT; rw [show ltr x = 108 by omega]; rfl)
        · skip
          refine rRun hG 192 ?_
          refine And.intro rfl (And.intro ⟨rfl, by exact Nat.le_of_ble_eq_true rfl, by first | exact True.intro | exact Or.inl rfl | exact Or.inr rfl⟩ (?_))
          exact J192 hc (xFl x) T (by unfold itmX; rw [if_neg (by omega), if_neg (by omega), if_neg (by omega), if_neg (by omega), if_neg (by omega), if_neg (by omega)]) (by unfold itmT; rw [if_neg (by omega), if_neg (by omega), if_neg (by omega), if_neg (by omega), if_neg (by omega), if_neg (by omega)])
        · skip
          refine rRun hG 192 ?_
          refine And.intro rfl (And.intro ⟨rfl, by exact Nat.le_of_ble_eq_true rfl, by first | exact True.intro | exact Or.inl rfl | exact Or.inr rfl⟩ (?_))
          exact J192 hc (xFl x) T (by unfold itmX; rw [if_neg (by omega), if_neg (by omega), if_neg (by omega), if_neg (by omega), if_neg (by omega), if_neg (by omega)]) (by unfold itmT; rw [if_neg (by omega), if_neg (by omega), if_neg (by omega), if_neg (by omega), if_neg (by omega), if_neg (by omega)])
        · skip
          refine rRun hG 192 ?_
          refine And.intro rfl (And.intro ⟨rfl, by exact Nat.le_of_ble_eq_true rfl, by first | exact True.intro | exact Or.inl rfl | exact Or.inr rfl⟩ (?_))
          exact J192 hc (xFl x) T (by unfold itmX; rw [if_neg (by omega), if_neg (by omega), if_neg (by omega), if_neg (by omega), if_neg (by omega), if_neg (by omega)]) (by unfold itmT; rw [if_neg (by omega), if_neg (by omega), if_neg (by omega), if_neg (by omega), if_neg (by omega), if_neg (by omega)])
        · skip
          refine rRun hG 192 ?_
          refine And.intro rfl (And.intro ⟨rfl, by exact Nat.le_of_ble_eq_true rfl, by first | exact True.intro | exact Or.inl rfl | exact Or.inr rfl⟩ (?_))
          exact J192 hc (xFl x) T (by unfold itmX; rw [if_neg (by omega), if_neg (by omega), if_neg (by omega), if_neg (by omega), if_neg (by omega), if_neg (by omega)]) (by unfold itmT; rw [if_neg (by omega), if_neg (by omega), if_neg (by omega), if_neg (by omega), if_neg (by omega), if_neg (by omega)])
        · skip
          refine rRun hG 192 ?_
          refine And.intro rfl (And.intro ⟨rfl, by exact Nat.le_of_ble_eq_true rfl, by first | exact True.intro | exact Or.inl rfl | exact Or.inr rfl⟩ (?_))
          exact J192 hc (xFl x) T (by unfold itmX; rw [if_neg (by omega), if_neg (by omega), if_neg (by omega), if_neg (by omega), if_neg (by omega), if_neg (by omega)]) (by unfold itmT; rw [if_neg (by omega), if_neg (by omega), if_neg (by omega), if_neg (by omega), if_neg (by omega), if_neg (by omega)])
        · skip
          refine rRun hG 192 ?_
          refine rVV hG (sp_X4_readRest (uo := uo) (ux := x) (ua := cond k ua T) (ub := cond k T ub) (v0 := v0) (v1 := v1) (v2 := v2) (up := up) (uq := uq) (ur := ur) (k := k) (t := T) tsel_3 hX ⟨by have := hF.1; omega, by have := hF.2.1; omega, by have := hF.2.2; omega⟩) rfl rfl lk_X4_60 mf_X4_readRest (by decide) (Nat.le_of_ble_eq_true rfl) ⟨_, _, _, rfl, rfl, rfl⟩ ?_
          rintro _ rfl
          rw [cput_a, cput_b]
          refine rRun hG 192 ?_
          exact J192 hc _ _ (by unfold itmX; rw [show ltr x = 114 by omega]; rfl) (by unfold itmT; rw [show ltr x = 114 by omega]; rfl)
      refine rRun hG 49 ?_
      refine And.intro rfl (And.intro (by first | omega | (simp only [xB_s, xN_s, xP_s, xS_s, xK_s, xV_s, xF_s, xR_s, xL_s, xA_s]; omega)) (And.intro (fun c1 => ?_) (fun c1 => ?_)))
      · try simp only [xB_s, xN_s, xP_s, xS_s, xK_s, xV_s, xF_s, xR_s, xL_s, xA_s] at c1
        exact J202 x T i hX (by rw [← he, rdL_no (by omega)])
      · try simp only [xB_s, xN_s, xP_s, xS_s, xK_s, xV_s, xF_s, xR_s, xL_s, xA_s] at c1
        refine And.intro rfl (And.intro (by first | omega | (simp only [xB_s, xN_s, xP_s, xS_s, xK_s, xV_s, xF_s, xR_s, xL_s, xA_s]; omega)) (And.intro (fun c2 => ?_) (fun c2 => ?_)))
        · try simp only [xB_s, xN_s, xP_s, xS_s, xK_s, xV_s, xF_s, xR_s, xL_s, xA_s] at c2
          exact J202 x T i hX (by rw [← he, rdL_no (by omega)])
        · try simp only [xB_s, xN_s, xP_s, xS_s, xK_s, xV_s, xF_s, xR_s, xL_s, xA_s] at c2
          refine And.intro (by first | omega | (simp only [xB_s, xN_s, xP_s, xS_s, xK_s, xV_s, xF_s, xR_s, xL_s, xA_s]; omega)) (And.intro (fun c3 => ?_) (fun c3 => ?_))
          · try simp only [xB_s, xN_s, xP_s, xS_s, xK_s, xV_s, xF_s, xR_s, xL_s, xA_s] at c3
            exfalso; omega
          · try simp only [xB_s, xN_s, xP_s, xS_s, xK_s, xV_s, xF_s, xR_s, xL_s, xA_s] at c3
            refine And.intro rfl (And.intro (by first | omega | (simp only [xB_s, xN_s, xP_s, xS_s, xK_s, xV_s, xF_s, xR_s, xL_s, xA_s]; omega)) (And.intro (fun c4 => ?_) (fun c4 => ?_)))
            · try simp only [xB_s, xN_s, xP_s, xS_s, xK_s, xV_s, xF_s, xR_s, xL_s, xA_s] at c4
              refine rRun hG 49 ?_
              first | (rw [show ltr x = xV x from if_pos (by omega)] at J49; exact J49 ⟨by omega, by omega⟩) | (rw [show ltr x = 0 from if_neg (by omega)] at J49; exact J49 ⟨by omega, by omega⟩)
            · try simp only [xB_s, xN_s, xP_s, xS_s, xK_s, xV_s, xF_s, xR_s, xL_s, xA_s] at c4
              refine And.intro rfl (?_)
              first | (rw [show ltr x = xV x from if_pos (by omega)] at J49; exact J49 ⟨by omega, by omega⟩) | (rw [show ltr x = 0 from if_neg (by omega)] at J49; exact J49 ⟨by omega, by omega⟩)
  refine rRun hG 11 ?_
  refine rVV hG (sp_X4_begin (uo := uo) (ux := ux) (ua := ua) (ub := ub) (v0 := v0) (v1 := v1) (v2 := v2) (up := up) (uq := uq) (ur := ur) (k := k) (t := t) ht) rfl rfl lk_X4_44 mf_X4_begin (by decide) (Nat.le_of_ble_eq_true rfl) ⟨_, _, _, rfl, rfl, rfl⟩ ?_
  rintro _ rfl
  refine rRun hG 11 ?_
  have hY := hX
  refine rVV hG (sp_X4_nextToken (uo := uo) (ux := (begX ux)) (ua := cond k ua (tWipe t)) (ub := cond k (tWipe t) ub) (v0 := v0) (v1 := v1) (v2 := v2) (up := up) (uq := uq) (ur := ur) hY.1 hY.2.1 hY.2.2.1 hY.2.2.2.2.2.2) rfl rfl lk_X4_48 mf_X4_nextToken (by decide) (Nat.le_of_ble_eq_true rfl) ⟨_, _, _, rfl, rfl, rfl⟩ ?_
  rintro _ rfl
  exact J11 150 0 (ntk (begX ux)) (tWipe t) (XOK_ntk hY) (FL_ntk ⟨le00, le00, le00⟩) ⟨le0n (by decide), le0n (by decide), le0n (by decide)⟩ rfl rfl
end WALKS
