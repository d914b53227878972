/-! the two readers of the text: tokens -/
def TXT (x y : XD) : Prop := xN y = xN x ∧ ∀ a : Nat, (a : Int) < xN x → xB y a = xB x a
def TKE (x y : XD) : Prop := TXT x y ∧ xP y = xP x ∧ xS y = xS x ∧ xK y = xK x ∧ (xK x = 1 ∨ xK x = 2 → xV y = xV x)
theorem bAt_cg {x y : XD} (h : TXT x y) (i : Int) : bAt (xB y) (xN y) i = bAt (xB x) (xN x) i := by
  unfold bAt
  rw [h.1]
  by_cases q : 0 ≤ i ∧ i < xN x ∧ i < 150
  · rw [if_pos q, if_pos q, h.2 i.toNat (by omega)]
  · rw [if_neg q, if_neg q]
theorem runE_cg {P : Int → Bool} {b b' : FN} {n n' : Int} (hn : n' = n) (h : ∀ i, bAt b' n' i = bAt b n i) : ∀ (f : Nat) (i : Int), runE P b' n' f i = runE P b n f i
  | 0, _ => rfl
  | f + 1, i => by rw [runE_s, runE_s, h i, runE_cg hn h f (i + 1), hn]
theorem runT_cg {P : Int → Bool} {x y : XD} (h : TXT x y) (i : Int) : runT P (xB y) (xN y) i = runT P (xB x) (xN x) i := by
  unfold runT
  rw [runE_cg h.1 (bAt_cg h), h.1]
theorem num_rel {b b' : FN} {n n' : Int} (hn : n' = n) (h : ∀ i, bAt b' n' i = bAt b n i) : ∀ (f : Nat) (i v v' : Int), 0 ≤ v → ((v' = v ∧ v ≤ 99) ∨ (99 < v ∧ 99 < v')) → ((nmE b' n' f i v' = numE b n f i v ∧ numE b n f i v ≤ 99) ∨ (99 < numE b n f i v ∧ 99 < nmE b' n' f i v'))
  | 0, _, _, _, _, hv => hv
  | f + 1, i, v, v', h0, hv => by
    show ((if i < n' ∧ pDg (bAt b' n' i) = true then nmE b' n' f (i + 1) (if 99 < v' then v' else 10 * v' + bAt b' n' i - 48) else v') = (if i < n ∧ pDg (bAt b n i) = true then numE b n f (i + 1) (min 100 (10 * v + bAt b n i - 48)) else v) ∧ (if i < n ∧ pDg (bAt b n i) = true then numE b n f (i + 1) (min 100 (10 * v + bAt b n i - 48)) else v) ≤ 99) ∨ (99 < (if i < n ∧ pDg (bAt b n i) = true then numE b n f (i + 1) (min 100 (10 * v + bAt b n i - 48)) else v) ∧ 99 < (if i < n' ∧ pDg (bAt b' n' i) = true then nmE b' n' f (i + 1) (if 99 < v' then v' else 10 * v' + bAt b' n' i - 48) else v'))
    subst hn
    rw [h i]
    by_cases q : i < n' ∧ pDg (bAt b n' i) = true
    · rw [if_pos q, if_pos q]
      have hd := of_decide_eq_true q.2
      refine num_rel rfl h f (i + 1) _ _ (by omega) ?_
      by_cases z : 99 < v'
      · rw [if_pos z]; omega
      · rw [if_neg z]; omega
    · rw [if_neg q, if_neg q]; exact hv
theorem tk_eq {x y : XD} (h : TXT x y) (hp : xP y = xP x) : TKE (ntk x) (nxM y) := by
  have hi : tSt x = tSt y := by unfold tSt; rw [hp, runT_cg h]
  have hc : tC y = tC x := by unfold tC; rw [← hi, bAt_cg h]
  by_cases q1 : tC x < 0
  · rw [ntk_E rfl rfl q1, nxM_E hc hi q1]
    exact ⟨h, rfl, rfl, rfl, fun q => by rcases q with q | q <;> exact absurd q (show ¬ (0 : Int) = _ by decide)⟩
  · by_cases q2 : 97 ≤ tC x ∧ tC x ≤ 122
    · rw [ntk_L rfl rfl q2, nxM_L hc hi q2, runT_cg h]
      exact ⟨h, rfl, rfl, rfl, fun _ => rfl⟩
    · by_cases q3 : 48 ≤ tC x ∧ tC x ≤ 57
      · rw [ntk_D rfl rfl q3, nxM_D hc hi q3, runT_cg h]
        have hr := num_rel h.1 (bAt_cg h) (xN x - tSt x).toNat (tSt x) 0 0 (Int.le_refl _) (Or.inl ⟨rfl, by decide⟩)
        have e1 : nmT (xB y) (xN y) (tSt x) 0 = nmE (xB y) (xN y) (xN x - tSt x).toNat (tSt x) 0 := by unfold nmT; rw [h.1]
        have e2 : numT (xB x) (xN x) (tSt x) 0 = numE (xB x) (xN x) (xN x - tSt x).toNat (tSt x) 0 := rfl
        rw [← e1, ← e2] at hr
        generalize nmT (xB y) (xN y) (tSt x) 0 = A at *
        generalize numT (xB x) (xN x) (tSt x) 0 = B at *
        refine ⟨h, rfl, rfl, ?_, fun q => ?_⟩
        · show (if 99 < A ∨ (tC x = 48 ∧ 1 < runT pDg (xB x) (xN x) (tSt x) - tSt x) then (4 : Int) else 2) = (if 99 < B ∨ (tC x = 48 ∧ 1 < runT pDg (xB x) (xN x) (tSt x) - tSt x) then (4 : Int) else 2)
          by_cases z : 99 < B ∨ (tC x = 48 ∧ 1 < runT pDg (xB x) (xN x) (tSt x) - tSt x)
          · rw [if_pos z, if_pos (by omega)]
          · rw [if_neg z, if_neg (by omega)]
        · have q : (if 99 < B ∨ (tC x = 48 ∧ 1 < runT pDg (xB x) (xN x) (tSt x) - tSt x) then (4 : Int) else 2) = 1 ∨ (if 99 < B ∨ (tC x = 48 ∧ 1 < runT pDg (xB x) (xN x) (tSt x) - tSt x) then (4 : Int) else 2) = 2 := q
          show A = B
          by_cases z : 99 < B ∨ (tC x = 48 ∧ 1 < runT pDg (xB x) (xN x) (tSt x) - tSt x)
          · rw [if_pos z] at q; omega
          · omega
      · by_cases q4 : tC x = 59
        · rw [ntk_S rfl rfl q4, nxM_S hc hi q4]
          exact ⟨h, rfl, rfl, rfl, fun q => by rcases q with q | q <;> exact absurd q (show ¬ (3 : Int) = _ by decide)⟩
        · rw [ntk_O rfl rfl (by omega) q2 q3 q4, nxM_O hc hi (by omega) q2 q3 q4]
          exact ⟨h, rfl, rfl, rfl, fun q => by rcases q with q | q <;> exact absurd q (show ¬ (4 : Int) = _ by decide)⟩
/-- the reference is one token ahead -/
def AH (x y : XD) : Prop := TXT x y ∧ XOK x ∧ XOM y ∧ ((xF x = -1 ∧ xF y = 0 ∧ TKE (ntk x) y) ∨ (0 ≤ xF x ∧ xF y = 1 ∧ xS y = xF x))
theorem ntk_N {x : XD} : xN (ntk x) = xN x ∧ xB (ntk x) = xB x := by
  unfold ntk
  repeat' split
  all_goals exact ⟨rfl, rfl⟩
theorem AH_0 {x y : XD} (hX : XOK x) (hY : XOM y) (h : TKE x y) (hx : xF x = -1) (hy : xF y = 0) : AH x (nxM y) := by
  have e := nx_N (x := y)
  exact ⟨⟨by rw [e.1]; exact h.1.1, by rw [e.2.2.2]; exact h.1.2⟩, hX, XOM_nx hY, Or.inl ⟨hx, by rw [e.2.1]; exact hy, tk_eq h.1 h.2.1⟩⟩
theorem XOM_fs1 {y : XD} (h : XOM y) : XOM (xFs y 1) := XOM_fs h (by decide)
theorem AH_num {x y : XD} {lo hi : Int} (h : AH x y) : AH (numX lo hi x) (tkX lo hi y) ∧ (xF (numX lo hi x) = -1 → numR lo x = tkR lo hi y ∧ lo ≤ numR lo x ∧ numR lo x ≤ hi) := by
  obtain ⟨hT, hX, hY, h⟩ := h
  have hN := ntk_N (x := x)
  have hXn := XOK_ntk hX
  have hXX := XOK_num hX (lo := lo) (hi := hi)
  have hYY := XOM_tk hY (lo := lo) (hi := hi)
  rcases h with ⟨f1, f2, hk⟩ | ⟨f1, f2, f3⟩
  · obtain ⟨k1, k2, k3, k4, k5⟩ := hk
    have hF := ntk_F (x := x)
    by_cases q : xK (ntk x) = 2 ∧ lo ≤ xV (ntk x) ∧ xV (ntk x) ≤ hi
    · have q2 : xF y = 0 ∧ xK y = 2 ∧ lo ≤ xV y ∧ xV y ≤ hi := by
        have := k5 (Or.inr q.1); omega
      have e1 : numX lo hi x = ntk x := by unfold numX; rw [if_pos f1, if_pos q]
      have e2 : tkX lo hi y = nxM y := by
        show (if _ then nxM (xFs y 0) else _) = _
        rw [if_pos q2, fs_0 f2]
      have e3 : numR lo x = xV (ntk x) := if_pos f1
      have e4 : tkR lo hi y = xV y := if_pos q2
      rw [e1] at hXX ⊢
      rw [e2] at hYY ⊢
      rw [e3, e4]
      have en := nx_N (x := y)
      refine ⟨⟨⟨by rw [en.1]; exact k1.1, by rw [en.2.2.2]; exact k1.2⟩, hXX, hYY, Or.inl ⟨by omega, by rw [en.2.1]; exact f2, tk_eq k1 k2⟩⟩, fun _ => ⟨(k5 (Or.inr q.1)).symm, q.2⟩⟩
    · have q2 : ¬ (xF y = 0 ∧ xK y = 2 ∧ lo ≤ xV y ∧ xV y ≤ hi) := fun w => by
        have := k5 (Or.inr (by omega)); omega
      have e1 : numX lo hi x = xFl (ntk x) := by unfold numX; rw [if_pos f1, if_neg q]
      have e2 : tkX lo hi y = xFs y 1 := if_neg q2
      rw [e1] at hXX ⊢
      rw [e2] at hYY ⊢
      have hs := hXn.2.2.1
      exact ⟨⟨k1, hXX, hYY, Or.inr ⟨hs.1, rfl, k3⟩⟩, fun w => by have w : xS (ntk x) = -1 := w; omega⟩
  · have e1 : numX lo hi x = x := if_neg (by omega)
    have e2 : tkX lo hi y = xFs y 1 := if_neg (by omega)
    rw [e1]
    rw [e2] at hYY ⊢
    exact ⟨⟨hT, hX, hYY, Or.inr ⟨f1, rfl, f3⟩⟩, fun w => by omega⟩
/-- an item's end -/
theorem AH_stp {x y : XD} (h : AH x y) : (xF (stpX x) = -1 ∧ xF (itmF y) = 0 ∧ TKE (ntk (stpX x)) (itmF y)) ∨ (0 ≤ xF (stpX x) ∧ xF (itmF y) = 1 ∧ xS (itmF y) = xF (stpX x) ∧ TXT (stpX x) (itmF y)) := by
  obtain ⟨hT, hX, hY, h⟩ := h
  have hXn := XOK_ntk hX
  rcases h with ⟨f1, f2, hk⟩ | ⟨f1, f2, f3⟩
  · obtain ⟨k1, k2, k3, k4, k5⟩ := hk
    have hF := ntk_F (x := x)
    by_cases q : xK (ntk x) = 3
    · left
      have e1 : stpX x = ntk x := by unfold stpX; rw [if_pos f1, if_pos q]
      have e2 : itmF y = nxM y := by unfold itmF; rw [if_pos ⟨f2, by omega⟩, fs_0 f2]
      rw [e1, e2]
      exact ⟨by omega, by rw [nx_N.2.1]; exact f2, tk_eq k1 k2⟩
    · right
      have e1 : stpX x = xFl (ntk x) := by unfold stpX; rw [if_pos f1, if_neg q]
      have e2 : itmF y = xFs y 1 := if_neg (by omega)
      rw [e1, e2]
      exact ⟨hXn.2.2.1.1, rfl, k3, k1⟩
  · right
    have e1 : stpX x = x := if_neg (by omega)
    have e2 : itmF y = xFs y 1 := if_neg (by omega)
    rw [e1, e2]
    exact ⟨f1, rfl, f3, hT⟩
