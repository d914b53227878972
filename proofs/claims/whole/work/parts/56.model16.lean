/-! the reference: tokens -/
section WALKS
variable {l : Launch}
def nmE (b : FN) (n : Int) : Nat → Int → Int → Int
  | 0, _, v => v
  | f + 1, i, v => if i < n ∧ pDg (bAt b n i) = true then nmE b n f (i + 1) (if 99 < v then v else 10 * v + bAt b n i - 48) else v
def nmT (b : FN) (n i v : Int) : Int := nmE b n (n - i).toNat i v
theorem nmT_go {b : FN} {n i v : Int} (h : i < n) (hp : pDg (bAt b n i) = true) : nmT b n i v = nmT b n (i + 1) (if 99 < v then v else 10 * v + bAt b n i - 48) := by
  unfold nmT
  rw [show (n - i).toNat = (n - (i + 1)).toNat + 1 by omega]
  exact if_pos ⟨h, hp⟩
theorem nmT_no {b : FN} {n i v : Int} (h : ¬ (i < n ∧ pDg (bAt b n i) = true)) : nmT b n i v = v := by
  unfold nmT
  cases q : (n - i).toNat with
  | zero => rfl
  | succ f => exact if_neg h
theorem nmE_in {b : FN} {n : Int} : ∀ {f : Nat} {i v : Int}, 0 ≤ v ∧ v ≤ 999 → 0 ≤ nmE b n f i v ∧ nmE b n f i v ≤ 999
  | 0, i, v, h => h
  | f + 1, i, v, h => by
    show 0 ≤ (if i < n ∧ pDg (bAt b n i) = true then _ else _) ∧ (if i < n ∧ pDg (bAt b n i) = true then _ else _) ≤ 999
    by_cases q : i < n ∧ pDg (bAt b n i) = true
    · rw [if_pos q]
      have := of_decide_eq_true q.2
      refine nmE_in ?_
      split <;> omega
    · rw [if_neg q]; exact h
/-- the reference's next token -/
def nxM (x : XD) : XD :=
  if tC x < 0 then xSet x (tSt x) (tSt x) 0 0 (xF x)
  else if 48 ≤ tC x ∧ tC x ≤ 57 then xSet x (runT pDg (xB x) (xN x) (tSt x)) (tSt x) (if 99 < nmT (xB x) (xN x) (tSt x) 0 ∨ (tC x = 48 ∧ 1 < runT pDg (xB x) (xN x) (tSt x) - tSt x) then 4 else 2) (nmT (xB x) (xN x) (tSt x) 0) (xF x)
  else if 97 ≤ tC x ∧ tC x ≤ 122 then xSet x (runT pLt (xB x) (xN x) (tSt x)) (tSt x) 1 (if runT pLt (xB x) (xN x) (tSt x) - tSt x = 1 then tC x else 0) (xF x)
  else xSet x (tSt x + 1) (tSt x) (if tC x = 59 then 3 else 4) 0 (xF x)
theorem nxM_E {x : XD} {w i : Int} (hc : tC x = w) (hi : i = tSt x) (h : w < 0) : nxM x = xSet x i i 0 0 (xF x) := by
  subst hc hi; unfold nxM; rw [if_pos h]
theorem nxM_D {x : XD} {w i : Int} (hc : tC x = w) (hi : i = tSt x) (h : 48 ≤ w ∧ w ≤ 57) : nxM x = xSet x (runT pDg (xB x) (xN x) i) i (if 99 < nmT (xB x) (xN x) i 0 ∨ (w = 48 ∧ 1 < runT pDg (xB x) (xN x) i - i) then 4 else 2) (nmT (xB x) (xN x) i 0) (xF x) := by
  subst hc hi; unfold nxM; rw [if_neg (by omega), if_pos h]
theorem nxM_L {x : XD} {w i : Int} (hc : tC x = w) (hi : i = tSt x) (h : 97 ≤ w ∧ w ≤ 122) : nxM x = xSet x (runT pLt (xB x) (xN x) i) i 1 (if runT pLt (xB x) (xN x) i - i = 1 then w else 0) (xF x) := by
  subst hc hi; unfold nxM; rw [if_neg (by omega), if_neg (by omega), if_pos h]
theorem nxM_S {x : XD} {w i : Int} (hc : tC x = w) (hi : i = tSt x) (h : w = 59) : nxM x = xSet x (i + 1) i 3 0 (xF x) := by
  subst hc hi; unfold nxM; rw [if_neg (by omega), if_neg (by omega), if_neg (by omega), if_pos h]
theorem nxM_O {x : XD} {w i : Int} (hc : tC x = w) (hi : i = tSt x) (h : 0 ≤ w) (h1 : ¬ (97 ≤ w ∧ w ≤ 122)) (h2 : ¬ (48 ≤ w ∧ w ≤ 57)) (h3 : ¬ w = 59) : nxM x = xSet x (i + 1) i 4 0 (xF x) := by
  subst hc hi; unfold nxM; rw [if_neg (by omega), if_neg (by omega), if_neg (by omega), if_neg h3]
def XOM (x : XD) : Prop := (0 ≤ xN x ∧ xN x ≤ 150) ∧ (0 ≤ xP x ∧ xP x ≤ xN x) ∧ (0 ≤ xS x ∧ xS x ≤ 150) ∧ (0 ≤ xK x ∧ xK x ≤ 4) ∧ (0 ≤ xV x ∧ xV x ≤ 999) ∧ (0 ≤ xF x ∧ xF x ≤ 1) ∧ ∀ i, i < 150 → 0 ≤ xB x i ∧ xB x i ≤ 255
theorem XOM_set {x : XD} (h : XOM x) {p s k v f : Int} (hp : 0 ≤ p ∧ p ≤ xN x) (hs : 0 ≤ s ∧ s ≤ 150) (hk : 0 ≤ k ∧ k ≤ 4) (hv : 0 ≤ v ∧ v ≤ 999) (hf : 0 ≤ f ∧ f ≤ 1) : XOM (xSet x p s k v f) := ⟨h.1, hp, hs, hk, hv, hf, h.2.2.2.2.2.2⟩
theorem XOM_nx {x : XD} (h : XOM x) : XOM (nxM x) := by
  obtain ⟨h1, h2, h3, h4, h5, h6, h7⟩ := id h
  have hs := tSt_in h2
  have hb := bAt_in (x := x) h7 (n := xN x) (i := tSt x)
  have hC : tC x = bAt (xB x) (xN x) (tSt x) := rfl
  unfold nxM
  split
  · exact XOM_set h (by omega) (by omega) (by decide) (by decide) h6
  · rename_i q
    have hl := tC_lt q
    split
    · have hr := runT_in (P := pDg) (b := xB x) (n := xN x) (i := tSt x) (by omega)
      have hn := nmE_in (b := xB x) (n := xN x) (f := (xN x - tSt x).toNat) (i := tSt x) (v := 0) (by decide)
      exact XOM_set h (by omega) (by omega) (by split <;> decide) hn h6
    · split
      · have hr := runT_in (P := pLt) (b := xB x) (n := xN x) (i := tSt x) (by omega)
        exact XOM_set h (by omega) (by omega) (by decide) (by split <;> omega) h6
      · exact XOM_set h (by omega) (by omega) (by split <;> decide) (by decide) h6
set_option maxRecDepth 20000 in
set_option maxHeartbeats 2000000 in
theorem sp_X7_next {mt sd : TD} {ms mg mk : FN} {hn : Int} {mh : FN} {tr : Int} {mx : XD} {w9 t9 c9 g9 : FN}  (hX : XOM mx) : SpV l 3 yX7_next cX7_next 2 none [mr 0] (hM mt sd ms mg mk hn mh tr mx w9 t9 c9 g9) (fun h => h = hM mt sd ms mg mk hn mh tr (nxM mx) w9 t9 c9 g9) := by
  refine SpV.of (cd := kdX7_next) (fT := mlook flX7) (kT := mlook klX7) (kJ := mlook jlX7) mfA_X7_next ok_X7_next fT_X7 kT_X7 jT_X7 jdk_ok True.intro (Nat.le_of_ble_eq_true rfl) (fun G hG => ?_)
  obtain ⟨hnn, hp, hs0, hk0, hv0, hf0, hx⟩ := id hX
  have hb9 := fun i => bAt_in (x := mx) hx (n := xN mx) (i := i)
  have J180 : ∀ (w st : Int), tC mx = w → st = tSt mx → 97 ≤ w ∧ w ≤ 122 → 0 ≤ st → ∀ (m : Nat) (i : Int), st ≤ i ∧ i ≤ xN mx → runT pLt (xB mx) (xN mx) i = runT pLt (xB mx) (xN mx) st → (xN mx - i).toNat < m → G 180 [some (mr 0), some (mi w)] [] (hM mt sd ms mg mk hn mh tr (xSet mx i st (xK mx) 0 (xF mx)) w9 t9 c9 g9) := by
    intro w st hC9 hi9 hw9 hst m
    induction m with
    | zero => intro i _ _ hm; exact absurd hm (Nat.not_lt_zero _)
    | succ m ih =>
      intro i hi hr hm
      have hb8 := hb9 i
      refine rRun hG 207 ?_
      refine And.intro rfl (?_)
      refine rV hG (sp_X7_letterAt (mt := mt) (sd := sd) (ms := ms) (mg := mg) (mk := mk) (hn := hn) (mh := mh) (tr := tr) (mx := (xSet mx i st (xK mx) 0 (xF mx))) (w9 := w9) (t9 := t9) (c9 := c9) (g9 := g9) (i := i) (by omega) hnn) rfl rfl lk_X7_76 mf_X7_letterAt (by decide) (Nat.le_of_ble_eq_true rfl) ⟨_, _, _, rfl, rfl, rfl⟩ ?_
      rintro w0 _ ⟨hw0, rfl⟩
      have hw0q : w0 = bAt (xB mx) (xN mx) i := hw0
      clear hw0
      subst hw0q
      have hlt9 : ¬ bAt (xB mx) (xN mx) i < 0 → i < xN mx := bAt_lt
      refine rS hG (sp_X7_isLetter (v := bAt (xB mx) (xN mx) i) (by omega)) rfl rfl lk_X7_93 mf_X7_isLetter (by decide) (Nat.le_of_ble_eq_true rfl) ?_
      rintro w1 _ ⟨hv1, rfl⟩
      have w11 : (w1 = 1 ∧ (97 ≤ bAt (xB mx) (xN mx) i ∧ bAt (xB mx) (xN mx) i ≤ 122)) ∨ (w1 = 0 ∧ ¬ (97 ≤ bAt (xB mx) (xN mx) i ∧ bAt (xB mx) (xN mx) i ≤ 122)) := (by rw [hv1]; by_cases q9 : (97 ≤ bAt (xB mx) (xN mx) i ∧ bAt (xB mx) (xN mx) i ≤ 122) <;> simp [q9])
      clear hv1
      refine rRun hG 207 ?_
      refine And.intro (by first | omega | (simp only [xB_s, xN_s, xP_s, xS_s, xK_s, xV_s, xF_s, xR_s, xL_s, xA_s, Int.reduceToNat]; omega)) (And.intro (fun c3 => ?_) (fun c3 => ?_))
      · try simp only [xB_s, xN_s, xP_s, xS_s, xK_s, xV_s, xF_s, xR_s, xL_s, xA_s, Int.reduceToNat] at c3
        have he9 : i = runT pLt (xB mx) (xN mx) st := by
          rw [← hr]
          refine (runT_no ?_).symm
          rintro ⟨q1, q2⟩
          have q3 := of_decide_eq_true q2
          omega
        refine rRun hG 99999 ?_
        refine And.intro ⟨rfl, by exact Nat.le_of_ble_eq_true rfl, by first | exact True.intro | exact Or.inl rfl | exact Or.inr rfl⟩ (And.intro rfl (And.intro rfl (And.intro (by first | omega | (simp only [xB_s, xN_s, xP_s, xS_s, xK_s, xV_s, xF_s, xR_s, xL_s, xA_s, Int.reduceToNat]; omega)) (And.intro (fun c4 => ?_) (fun c4 => ?_)))))
        · try simp only [xB_s, xN_s, xP_s, xS_s, xK_s, xV_s, xF_s, xR_s, xL_s, xA_s, Int.reduceToNat] at c4
          refine rRun hG 99999 ?_
          refine And.intro ⟨rfl, by exact Nat.le_of_ble_eq_true rfl, by first | exact True.intro | exact Or.inl rfl | exact Or.inr rfl⟩ (?_)
          refine rVR hG rfl rfl rfl ?_
          rw [nxM_L hC9 hi9 hw9, ← he9]
          first | (rw [if_pos (by omega)]; rfl) | (rw [if_neg (by omega)]; rfl)
        · try simp only [xB_s, xN_s, xP_s, xS_s, xK_s, xV_s, xF_s, xR_s, xL_s, xA_s, Int.reduceToNat] at c4
          refine rRun hG 99999 ?_
          refine And.intro ⟨rfl, by exact Nat.le_of_ble_eq_true rfl, by first | exact True.intro | exact Or.inl rfl | exact Or.inr rfl⟩ (?_)
          refine rVR hG rfl rfl rfl ?_
          rw [nxM_L hC9 hi9 hw9, ← he9]
          first | (rw [if_pos (by omega)]; rfl) | (rw [if_neg (by omega)]; rfl)
      · try simp only [xB_s, xN_s, xP_s, xS_s, xK_s, xV_s, xF_s, xR_s, xL_s, xA_s, Int.reduceToNat] at c3
        refine And.intro rfl (And.intro ⟨rfl, by exact Nat.le_of_ble_eq_true rfl, by first | exact True.intro | exact Or.inl rfl | exact Or.inr rfl⟩ (?_))
        refine ih (i + 1) (by omega) ?_ (by omega)
        rw [← hr]
        exact (runT_go (bAt_lt (b := xB mx) (by omega)) (by unfold pLt; exact decide_eq_true (by omega))).symm
  have J67 : ∀ (w st : Int), tC mx = w → st = tSt mx → 48 ≤ w ∧ w ≤ 57 → 0 ≤ st → ∀ (m : Nat) (i v : Int), st ≤ i ∧ i ≤ xN mx → 0 ≤ v ∧ v ≤ 999 → runT pDg (xB mx) (xN mx) i = runT pDg (xB mx) (xN mx) st → nmT (xB mx) (xN mx) i v = nmT (xB mx) (xN mx) st 0 → (xN mx - i).toNat < m → G 67 [some (mr 0), some (mi w)] [] (hM mt sd ms mg mk hn mh tr (xSet mx i st (xK mx) v (xF mx)) w9 t9 c9 g9) := by
    intro w st hC9 hi9 hw9 hst m
    induction m with
    | zero => intro i v _ _ _ _ hm; exact absurd hm (Nat.not_lt_zero _)
    | succ m ih =>
      intro i v hi hv hr hnm hm
      have hb8 := hb9 i
      have J117 : (i < xN mx ∧ pDg (bAt (xB mx) (xN mx) i) = true) → ∀ u : Int, u = (if 99 < v then v else 10 * v + bAt (xB mx) (xN mx) i - 48) → G 117 [some (mr 0), some (mi w)] [mi u, mr 0] (hM mt sd ms mg mk hn mh tr (xSet mx i st (xK mx) v (xF mx)) w9 t9 c9 g9) := by
        intro hgo u hu
        have hd8 := of_decide_eq_true hgo.2
        have hu9 : 0 ≤ u ∧ u ≤ 999 := by rw [hu]; split <;> omega
        refine rRun hG 99999 ?_
        refine And.intro ⟨rfl, by exact Nat.le_of_ble_eq_true rfl, by first | exact True.intro | exact Or.inl rfl | exact Or.inr rfl⟩ (And.intro rfl (And.intro ⟨rfl, by exact Nat.le_of_ble_eq_true rfl, by first | exact True.intro | exact Or.inl rfl | exact Or.inr rfl⟩ (?_)))
        refine ih (i + 1) u (by omega) hu9 ?_ ?_ (by omega)
        · rw [← hr]; exact (runT_go hgo.1 hgo.2).symm
        · rw [← hnm, hu]; exact (nmT_go hgo.1 hgo.2).symm
      refine rRun hG 117 ?_
      refine And.intro rfl (?_)
      refine rV hG (sp_X7_letterAt (mt := mt) (sd := sd) (ms := ms) (mg := mg) (mk := mk) (hn := hn) (mh := mh) (tr := tr) (mx := (xSet mx i st (xK mx) v (xF mx))) (w9 := w9) (t9 := t9) (c9 := c9) (g9 := g9) (i := i) (by omega) hnn) rfl rfl lk_X7_76 mf_X7_letterAt (by decide) (Nat.le_of_ble_eq_true rfl) ⟨_, _, _, rfl, rfl, rfl⟩ ?_
      rintro w0 _ ⟨hw0, rfl⟩
      have hw0q : w0 = bAt (xB mx) (xN mx) i := hw0
      clear hw0
      subst hw0q
      have hlt9 : ¬ bAt (xB mx) (xN mx) i < 0 → i < xN mx := bAt_lt
      refine rS hG (sp_X7_isFigure (v := bAt (xB mx) (xN mx) i) (by omega)) rfl rfl lk_X7_89 mf_X7_isFigure (by decide) (Nat.le_of_ble_eq_true rfl) ?_
      rintro w1 _ ⟨hv1, rfl⟩
      have w11 : (w1 = 1 ∧ (48 ≤ bAt (xB mx) (xN mx) i ∧ bAt (xB mx) (xN mx) i ≤ 57)) ∨ (w1 = 0 ∧ ¬ (48 ≤ bAt (xB mx) (xN mx) i ∧ bAt (xB mx) (xN mx) i ≤ 57)) := (by rw [hv1]; by_cases q9 : (48 ≤ bAt (xB mx) (xN mx) i ∧ bAt (xB mx) (xN mx) i ≤ 57) <;> simp [q9])
      clear hv1
      refine rRun hG 117 ?_
      refine And.intro (by first | omega | (simp only [xB_s, xN_s, xP_s, xS_s, xK_s, xV_s, xF_s, xR_s, xL_s, xA_s, Int.reduceToNat]; omega)) (And.intro (fun c3 => ?_) (fun c3 => ?_))
      · try simp only [xB_s, xN_s, xP_s, xS_s, xK_s, xV_s, xF_s, xR_s, xL_s, xA_s, Int.reduceToNat] at c3
        have hno : ¬ (i < xN mx ∧ pDg (bAt (xB mx) (xN mx) i) = true) := by
          rintro ⟨q1, q2⟩
          have q3 := of_decide_eq_true q2
          omega
        have he9 : i = runT pDg (xB mx) (xN mx) st := by
          rw [← hr]; exact (runT_no hno).symm
        have he8 : v = nmT (xB mx) (xN mx) st 0 := by
          rw [← hnm]; exact (nmT_no hno).symm
        refine rRun hG 99999 ?_
        refine And.intro rfl (And.intro (by first | omega | (simp only [xB_s, xN_s, xP_s, xS_s, xK_s, xV_s, xF_s, xR_s, xL_s, xA_s, Int.reduceToNat]; omega)) (And.intro (fun c4 => ?_) (fun c4 => ?_)))
        · try simp only [xB_s, xN_s, xP_s, xS_s, xK_s, xV_s, xF_s, xR_s, xL_s, xA_s, Int.reduceToNat] at c4
          refine rRun hG 99999 ?_
          refine rRun hG 99999 ?_
          refine And.intro ⟨rfl, by exact Nat.le_of_ble_eq_true rfl, by first | exact True.intro | exact Or.inl rfl | exact Or.inr rfl⟩ (?_)
          refine rVR hG rfl rfl rfl ?_
          rw [nxM_D hC9 hi9 hw9, ← he9, ← he8]
          first | (exfalso; omega) | (rw [if_pos (by omega)]; rfl) | (rw [if_neg (by omega)]; rfl)
        · try simp only [xB_s, xN_s, xP_s, xS_s, xK_s, xV_s, xF_s, xR_s, xL_s, xA_s, Int.reduceToNat] at c4
          refine And.intro (by first | omega | (simp only [xB_s, xN_s, xP_s, xS_s, xK_s, xV_s, xF_s, xR_s, xL_s, xA_s, Int.reduceToNat]; omega)) (And.intro (fun c5 => ?_) (fun c5 => ?_))
          · try simp only [xB_s, xN_s, xP_s, xS_s, xK_s, xV_s, xF_s, xR_s, xL_s, xA_s, Int.reduceToNat] at c5
            refine rRun hG 99999 ?_
            refine And.intro ⟨rfl, by exact Nat.le_of_ble_eq_true rfl, by first | exact True.intro | exact Or.inl rfl | exact Or.inr rfl⟩ (?_)
            refine rVR hG rfl rfl rfl ?_
            rw [nxM_D hC9 hi9 hw9, ← he9, ← he8]
            first | (exfalso; omega) | (rw [if_pos (by omega)]; rfl) | (rw [if_neg (by omega)]; rfl)
          · try simp only [xB_s, xN_s, xP_s, xS_s, xK_s, xV_s, xF_s, xR_s, xL_s, xA_s, Int.reduceToNat] at c5
            refine And.intro rfl (And.intro rfl (And.intro (by first | omega | (simp only [xB_s, xN_s, xP_s, xS_s, xK_s, xV_s, xF_s, xR_s, xL_s, xA_s, Int.reduceToNat]; omega)) (And.intro (fun c6 => ?_) (fun c6 => ?_))))
            · try simp only [xB_s, xN_s, xP_s, xS_s, xK_s, xV_s, xF_s, xR_s, xL_s, xA_s, Int.reduceToNat] at c6
              refine rRun hG 99999 ?_
              refine And.intro ⟨rfl, by exact Nat.le_of_ble_eq_true rfl, by first | exact True.intro | exact Or.inl rfl | exact Or.inr rfl⟩ (?_)
              refine rVR hG rfl rfl rfl ?_
              rw [nxM_D hC9 hi9 hw9, ← he9, ← he8]
              first | (exfalso; omega) | (rw [if_pos (by omega)]; rfl) | (rw [if_neg (by omega)]; rfl)
            · try simp only [xB_s, xN_s, xP_s, xS_s, xK_s, xV_s, xF_s, xR_s, xL_s, xA_s, Int.reduceToNat] at c6
              refine rRun hG 99999 ?_
              refine And.intro ⟨rfl, by exact Nat.le_of_ble_eq_true rfl, by first | exact True.intro | exact Or.inl rfl | exact Or.inr rfl⟩ (?_)
              refine rVR hG rfl rfl rfl ?_
              rw [nxM_D hC9 hi9 hw9, ← he9, ← he8]
              first | (exfalso; omega) | (rw [if_pos (by omega)]; rfl) | (rw [if_neg (by omega)]; rfl)
      · try simp only [xB_s, xN_s, xP_s, xS_s, xK_s, xV_s, xF_s, xR_s, xL_s, xA_s, Int.reduceToNat] at c3
        refine And.intro rfl (And.intro (by first | omega | (simp only [xB_s, xN_s, xP_s, xS_s, xK_s, xV_s, xF_s, xR_s, xL_s, xA_s, Int.reduceToNat]; omega)) (And.intro (fun cn => ?_) (fun cn => ?_)))
        · try simp only [xB_s, xN_s, xP_s, xS_s, xK_s, xV_s, xF_s, xR_s, xL_s, xA_s, Int.reduceToNat] at cn
          refine rRun hG 117 ?_
          refine And.intro rfl (And.intro rfl (?_))
          refine rV hG (sp_X7_letterAt (mt := mt) (sd := sd) (ms := ms) (mg := mg) (mk := mk) (hn := hn) (mh := mh) (tr := tr) (mx := (xSet mx i st (xK mx) v (xF mx))) (w9 := w9) (t9 := t9) (c9 := c9) (g9 := g9) (i := i) (by omega) hnn) rfl rfl lk_X7_76 mf_X7_letterAt (by decide) (Nat.le_of_ble_eq_true rfl) ⟨_, _, _, rfl, rfl, rfl⟩ ?_
          rintro w0 _ ⟨hw0, rfl⟩
          have hw0q : w0 = bAt (xB mx) (xN mx) i := hw0
          clear hw0
          subst hw0q
          refine rRun hG 117 ?_
          refine J117 ⟨hlt9 (by omega), by unfold pDg; exact decide_eq_true (by omega)⟩ _ ?_
          first | exact (if_pos (by omega)).symm | exact (if_neg (by omega)).symm
        · try simp only [xB_s, xN_s, xP_s, xS_s, xK_s, xV_s, xF_s, xR_s, xL_s, xA_s, Int.reduceToNat] at cn
          refine And.intro rfl (?_)
          refine J117 ⟨hlt9 (by omega), by unfold pDg; exact decide_eq_true (by omega)⟩ _ ?_
          first | exact (if_pos (by omega)).symm | exact (if_neg (by omega)).symm
  have J0 : ∀ (m : Nat) (i : Int), xP mx ≤ i ∧ i ≤ xN mx → runT pSp (xB mx) (xN mx) i = tSt mx → (xN mx - i).toNat < m → G 0 [some (mr 0), none] [] (hM mt sd ms mg mk hn mh tr (xSet mx i (xS mx) (xK mx) (xV mx) (xF mx)) w9 t9 c9 g9) := by
    intro m
    induction m with
    | zero => intro i _ _ hm; exact absurd hm (Nat.not_lt_zero _)
    | succ m ih =>
      intro i hi hr hm
      have hb8 := hb9 i
      refine rRun hG 26 ?_
      refine And.intro rfl (?_)
      refine rV hG (sp_X7_letterAt (mt := mt) (sd := sd) (ms := ms) (mg := mg) (mk := mk) (hn := hn) (mh := mh) (tr := tr) (mx := (xSet mx i (xS mx) (xK mx) (xV mx) (xF mx))) (w9 := w9) (t9 := t9) (c9 := c9) (g9 := g9) (i := i) (by omega) hnn) rfl rfl lk_X7_76 mf_X7_letterAt (by decide) (Nat.le_of_ble_eq_true rfl) ⟨_, _, _, rfl, rfl, rfl⟩ ?_
      rintro w0 _ ⟨hw0, rfl⟩
      have hw0q : w0 = bAt (xB mx) (xN mx) i := hw0
      clear hw0
      subst hw0q
      refine rRun hG 26 ?_
      refine And.intro (by first | omega | (simp only [xB_s, xN_s, xP_s, xS_s, xK_s, xV_s, xF_s, xR_s, xL_s, xA_s, Int.reduceToNat]; omega)) (And.intro (fun c2 => ?_) (fun c2 => ?_))
      · try simp only [xB_s, xN_s, xP_s, xS_s, xK_s, xV_s, xF_s, xR_s, xL_s, xA_s, Int.reduceToNat] at c2
        have hi9 : i = tSt mx := by
          rw [← hr]
          refine (runT_no ?_).symm
          rintro ⟨q1, q2⟩
          have q3 : bAt (xB mx) (xN mx) i = 32 := beq_iff_eq.mp q2
          omega
        refine rRun hG 67 ?_
        refine And.intro rfl (And.intro ⟨rfl, by exact Nat.le_of_ble_eq_true rfl, by first | exact True.intro | exact Or.inl rfl | exact Or.inr rfl⟩ (And.intro rfl (?_)))
        refine rV hG (sp_X7_letterAt (mt := mt) (sd := sd) (ms := ms) (mg := mg) (mk := mk) (hn := hn) (mh := mh) (tr := tr) (mx := (xSet mx i i (xK mx) (xV mx) (xF mx))) (w9 := w9) (t9 := t9) (c9 := c9) (g9 := g9) (i := i) (by omega) hnn) rfl rfl lk_X7_76 mf_X7_letterAt (by decide) (Nat.le_of_ble_eq_true rfl) ⟨_, _, _, rfl, rfl, rfl⟩ ?_
        rintro w _ ⟨hw9, rfl⟩
        have hw : w = bAt (xB mx) (xN mx) i := hw9
        clear hw9
        have hC9 : tC mx = w := by
          unfold tC; rw [← hi9]; exact hw.symm
        have hc9 : -1 ≤ w ∧ w ≤ 255 := by rw [hw]; exact hb8
        have hl9 : ¬ w < 0 → i < xN mx := fun q => bAt_lt (by rw [← hw]; exact q)
        refine rRun hG 67 ?_
        refine And.intro ⟨rfl, by exact Nat.le_of_ble_eq_true rfl, by first | exact True.intro | exact Or.inl rfl | exact Or.inr rfl⟩ (And.intro (by first | omega | (simp only [xB_s, xN_s, xP_s, xS_s, xK_s, xV_s, xF_s, xR_s, xL_s, xA_s, Int.reduceToNat]; omega)) (And.intro (fun cz => ?_) (fun cz => ?_)))
        · try simp only [xB_s, xN_s, xP_s, xS_s, xK_s, xV_s, xF_s, xR_s, xL_s, xA_s, Int.reduceToNat] at cz
          refine rRun hG 67 ?_
          refine rS hG (sp_X7_isFigure (v := w) (by omega)) rfl rfl lk_X7_89 mf_X7_isFigure (by decide) (Nat.le_of_ble_eq_true rfl) ?_
          rintro w1 _ ⟨hv1, rfl⟩
          have w11 : (w1 = 1 ∧ (48 ≤ w ∧ w ≤ 57)) ∨ (w1 = 0 ∧ ¬ (48 ≤ w ∧ w ≤ 57)) := (by rw [hv1]; by_cases q9 : (48 ≤ w ∧ w ≤ 57) <;> simp [q9])
          clear hv1
          refine rRun hG 67 ?_
          refine And.intro (by first | omega | (simp only [xB_s, xN_s, xP_s, xS_s, xK_s, xV_s, xF_s, xR_s, xL_s, xA_s, Int.reduceToNat]; omega)) (And.intro (fun c5 => ?_) (fun c5 => ?_))
          · try simp only [xB_s, xN_s, xP_s, xS_s, xK_s, xV_s, xF_s, xR_s, xL_s, xA_s, Int.reduceToNat] at c5
            refine rRun hG 180 ?_
            refine rS hG (sp_X7_isLetter (v := w) (by omega)) rfl rfl lk_X7_93 mf_X7_isLetter (by decide) (Nat.le_of_ble_eq_true rfl) ?_
            rintro w2 _ ⟨hv2, rfl⟩
            have w21 : (w2 = 1 ∧ (97 ≤ w ∧ w ≤ 122)) ∨ (w2 = 0 ∧ ¬ (97 ≤ w ∧ w ≤ 122)) := (by rw [hv2]; by_cases q9 : (97 ≤ w ∧ w ≤ 122) <;> simp [q9])
            clear hv2
            refine rRun hG 180 ?_
            refine And.intro (by first | omega | (simp only [xB_s, xN_s, xP_s, xS_s, xK_s, xV_s, xF_s, xR_s, xL_s, xA_s, Int.reduceToNat]; omega)) (And.intro (fun c7 => ?_) (fun c7 => ?_))
            · try simp only [xB_s, xN_s, xP_s, xS_s, xK_s, xV_s, xF_s, xR_s, xL_s, xA_s, Int.reduceToNat] at c7
              refine rRun hG 99999 ?_
              refine And.intro (by first | omega | (simp only [xB_s, xN_s, xP_s, xS_s, xK_s, xV_s, xF_s, xR_s, xL_s, xA_s, Int.reduceToNat]; omega)) (And.intro (fun c8 => ?_) (fun c8 => ?_))
              · try simp only [xB_s, xN_s, xP_s, xS_s, xK_s, xV_s, xF_s, xR_s, xL_s, xA_s, Int.reduceToNat] at c8
                refine rRun hG 99999 ?_
                refine And.intro ⟨rfl, by exact Nat.le_of_ble_eq_true rfl, by first | exact True.intro | exact Or.inl rfl | exact Or.inr rfl⟩ (And.intro rfl (And.intro ⟨rfl, by exact Nat.le_of_ble_eq_true rfl, by first | exact True.intro | exact Or.inl rfl | exact Or.inr rfl⟩ (?_)))
                refine rVR hG rfl rfl rfl ?_
                first | (rw [nxM_E hC9 hi9 (by omega)]; rfl) | (rw [nxM_S hC9 hi9 (by omega)]; rfl) | (rw [nxM_O hC9 hi9 (by omega) (by omega) (by omega) (by omega)]; rfl)
              · try simp only [xB_s, xN_s, xP_s, xS_s, xK_s, xV_s, xF_s, xR_s, xL_s, xA_s, Int.reduceToNat] at c8
                refine rRun hG 99999 ?_
                refine And.intro ⟨rfl, by exact Nat.le_of_ble_eq_true rfl, by first | exact True.intro | exact Or.inl rfl | exact Or.inr rfl⟩ (And.intro rfl (And.intro ⟨rfl, by exact Nat.le_of_ble_eq_true rfl, by first | exact True.intro | exact Or.inl rfl | exact Or.inr rfl⟩ (?_)))
                refine rVR hG rfl rfl rfl ?_
                first | (rw [nxM_E hC9 hi9 (by omega)]; rfl) | (rw [nxM_S hC9 hi9 (by omega)]; rfl) | (rw [nxM_O hC9 hi9 (by omega) (by omega) (by omega) (by omega)]; rfl)
            · try simp only [xB_s, xN_s, xP_s, xS_s, xK_s, xV_s, xF_s, xR_s, xL_s, xA_s, Int.reduceToNat] at c7
              refine rLess hG ?_ (J180 w i hC9 hi9 (by omega) (by omega) 1000 i (by omega) rfl (by omega))
              exact ⟨rfl, rfl, True.intro⟩
          · try simp only [xB_s, xN_s, xP_s, xS_s, xK_s, xV_s, xF_s, xR_s, xL_s, xA_s, Int.reduceToNat] at c5
            refine rLess hG ?_ (J67 w i hC9 hi9 (by omega) (by omega) 1000 i 0 (by omega) (by omega) rfl rfl (by omega))
            exact ⟨rfl, rfl, True.intro⟩
        · try simp only [xB_s, xN_s, xP_s, xS_s, xK_s, xV_s, xF_s, xR_s, xL_s, xA_s, Int.reduceToNat] at cz
          refine And.intro ⟨rfl, by exact Nat.le_of_ble_eq_true rfl, by first | exact True.intro | exact Or.inl rfl | exact Or.inr rfl⟩ (?_)
          refine rVR hG rfl rfl rfl ?_
          first | (rw [nxM_E hC9 hi9 (by omega)]; rfl) | (rw [nxM_S hC9 hi9 (by omega)]; rfl) | (rw [nxM_O hC9 hi9 (by omega) (by omega) (by omega) (by omega)]; rfl)
      · try simp only [xB_s, xN_s, xP_s, xS_s, xK_s, xV_s, xF_s, xR_s, xL_s, xA_s, Int.reduceToNat] at c2
        refine And.intro rfl (And.intro ⟨rfl, by exact Nat.le_of_ble_eq_true rfl, by first | exact True.intro | exact Or.inl rfl | exact Or.inr rfl⟩ (?_))
        have hlt9 : i < xN mx := bAt_lt (b := xB mx) (by omega)
        refine rLess hG ?_ (ih (i + 1) (by omega) ?_ (by omega))
        · exact ⟨rfl, True.intro⟩
        · rw [← hr]
          exact (runT_go (bAt_lt (b := xB mx) (by omega)) (by unfold pSp; exact beq_iff_eq.mpr (by omega))).symm
  refine rLess hG ?_ (J0 1000 (xP mx) (by omega) rfl (by omega))
  exact ⟨rfl, True.intro⟩
def tkX (lo hi : Int) (x : XD) : XD := if xF x = 0 ∧ xK x = 2 ∧ lo ≤ xV x ∧ xV x ≤ hi then nxM (xSet x (xP x) (xS x) (xK x) (xV x) 0) else xSet x (xP x) (xS x) (xK x) (xV x) 1
def tkR (lo hi : Int) (x : XD) : Int := if xF x = 0 ∧ xK x = 2 ∧ lo ≤ xV x ∧ xV x ≤ hi then xV x else 0
set_option maxRecDepth 20000 in
set_option maxHeartbeats 1000000 in
theorem sp_X7_takesNumber {mt sd : TD} {ms mg mk : FN} {hn : Int} {mh : FN} {tr : Int} {mx : XD} {w9 t9 c9 g9 : FN} {lo hi : Int} (hX : XOM mx) (h1 : 0 ≤ lo ∧ lo ≤ 99) (h2 : 0 ≤ hi ∧ hi ≤ 99) : SpI l 4 yX7_takesNumber cX7_takesNumber 5 (some .int) [mr 0, mi lo, mi hi] (hM mt sd ms mg mk hn mh tr mx w9 t9 c9 g9) (fun z h => z = tkR lo hi mx ∧ h = hM mt sd ms mg mk hn mh tr (tkX lo hi mx) w9 t9 c9 g9) := by
  refine SpI.of (cd := kdX7_takesNumber) (fT := mlook flX7) (kT := mlook klX7) (kJ := mlook jlX7) mfA_X7_takesNumber ok_X7_takesNumber fT_X7 kT_X7 jT_X7 jdk_ok True.intro (Nat.le_of_ble_eq_true rfl) (fun G hG => ?_)
  obtain ⟨hnn, hp, hs0, hk0, hv0, hf0, hx⟩ := id hX
  have J32a : (xF mx = 0 ∧ xK mx = 2 ∧ lo ≤ xV mx ∧ xV mx ≤ hi) → G 32 [some (mr 0), some (mi lo), some (mi hi), none, none] [mi 1] (hM mt sd ms mg mk hn mh tr mx w9 t9 c9 g9) := by
    intro hq
    refine rRun hG 99999 ?_
    refine And.intro (by first | omega | (simp only [xB_s, xN_s, xP_s, xS_s, xK_s, xV_s, xF_s, xR_s, xL_s, xA_s, Int.reduceToNat]; omega)) (And.intro (fun c1 => ?_) (fun c1 => ?_))
    · skip
      refine rRun hG 99999 ?_
      refine And.intro ⟨rfl, by exact Nat.le_of_ble_eq_true rfl, by first | exact True.intro | exact Or.inl rfl | exact Or.inr rfl⟩ (And.intro rfl (And.intro (by first | omega | (simp only [xB_s, xN_s, xP_s, xS_s, xK_s, xV_s, xF_s, xR_s, xL_s, xA_s, Int.reduceToNat]; omega)) (And.intro (fun c2 => ?_) (fun c2 => ?_))))
      · skip
        exfalso; omega
      · skip
        refine rVV hG (sp_X7_next (mt := mt) (sd := sd) (ms := ms) (mg := mg) (mk := mk) (hn := hn) (mh := mh) (tr := tr) (mx := (xSet mx (xP mx) (xS mx) (xK mx) (xV mx) 0)) (w9 := w9) (t9 := t9) (c9 := c9) (g9 := g9) (XOM_set hX hX.2.1 hX.2.2.1 hX.2.2.2.1 hX.2.2.2.2.1 (by decide))) rfl rfl lk_X7_100 mf_X7_next (by decide) (Nat.le_of_ble_eq_true rfl) ⟨_, _, _, rfl, rfl, rfl⟩ ?_
        rintro _ rfl
        refine rRun hG 99999 ?_
        refine And.intro (by first | omega | (simp only [xB_s, xN_s, xP_s, xS_s, xK_s, xV_s, xF_s, xR_s, xL_s, xA_s, Int.reduceToNat]; omega)) (And.intro (fun c4 => ?_) (fun c4 => ?_))
        · skip
          exfalso; omega
        · skip
          refine rIR hG rfl rfl (True.intro) ?_
          unfold tkR tkX
          rw [if_pos hq, if_pos hq]
          exact ⟨rfl, rfl⟩
    · skip
      exfalso; omega
  have J32b : ¬ (xF mx = 0 ∧ xK mx = 2 ∧ lo ≤ xV mx ∧ xV mx ≤ hi) → G 32 [some (mr 0), some (mi lo), some (mi hi), none, none] [mi 0] (hM mt sd ms mg mk hn mh tr mx w9 t9 c9 g9) := by
    intro hq
    refine rRun hG 99999 ?_
    refine And.intro (by first | omega | (simp only [xB_s, xN_s, xP_s, xS_s, xK_s, xV_s, xF_s, xR_s, xL_s, xA_s, Int.reduceToNat]; omega)) (And.intro (fun c1 => ?_) (fun c1 => ?_))
    · skip
      exfalso; omega
    · skip
      refine rRun hG 99999 ?_
      refine And.intro ⟨rfl, by exact Nat.le_of_ble_eq_true rfl, by first | exact True.intro | exact Or.inl rfl | exact Or.inr rfl⟩ (And.intro rfl (And.intro (by first | omega | (simp only [xB_s, xN_s, xP_s, xS_s, xK_s, xV_s, xF_s, xR_s, xL_s, xA_s, Int.reduceToNat]; omega)) (And.intro (fun c2 => ?_) (fun c2 => ?_))))
      · skip
        refine rRun hG 99999 ?_
        refine And.intro (by first | omega | (simp only [xB_s, xN_s, xP_s, xS_s, xK_s, xV_s, xF_s, xR_s, xL_s, xA_s, Int.reduceToNat]; omega)) (And.intro (fun c3 => ?_) (fun c3 => ?_))
        · skip
          refine rRun hG 99999 ?_
          refine rIR hG rfl rfl (True.intro) ?_
          unfold tkR tkX
          rw [if_neg hq, if_neg hq]
          exact ⟨rfl, rfl⟩
        · skip
          exfalso; omega
      · skip
        exfalso; omega
  refine rRun hG 32 ?_
  refine And.intro rfl (And.intro (by first | omega | (simp only [xB_s, xN_s, xP_s, xS_s, xK_s, xV_s, xF_s, xR_s, xL_s, xA_s, Int.reduceToNat]; omega)) (And.intro (fun ca => ?_) (fun ca => ?_)))
  · try simp only [xB_s, xN_s, xP_s, xS_s, xK_s, xV_s, xF_s, xR_s, xL_s, xA_s, Int.reduceToNat] at ca
    refine rRun hG 32 ?_
    first | exact J32a (by omega) | exact J32b (by omega)
  · try simp only [xB_s, xN_s, xP_s, xS_s, xK_s, xV_s, xF_s, xR_s, xL_s, xA_s, Int.reduceToNat] at ca
    refine And.intro rfl (And.intro (by first | omega | (simp only [xB_s, xN_s, xP_s, xS_s, xK_s, xV_s, xF_s, xR_s, xL_s, xA_s, Int.reduceToNat]; omega)) (And.intro (fun cb => ?_) (fun cb => ?_)))
    · try simp only [xB_s, xN_s, xP_s, xS_s, xK_s, xV_s, xF_s, xR_s, xL_s, xA_s, Int.reduceToNat] at cb
      refine rRun hG 32 ?_
      first | exact J32a (by omega) | exact J32b (by omega)
    · try simp only [xB_s, xN_s, xP_s, xS_s, xK_s, xV_s, xF_s, xR_s, xL_s, xA_s, Int.reduceToNat] at cb
      refine And.intro rfl (?_)
      refine rS hG (sp_X7_in (v := xV mx) (a := lo) (b := hi) (by omega)) rfl rfl lk_X7_66 mf_X7_in (by decide) (Nat.le_of_ble_eq_true rfl) ?_
      rintro w1 _ ⟨hw1, rfl⟩
      have w11 : (w1 = 1 ∧ (lo ≤ xV mx ∧ xV mx ≤ hi)) ∨ (w1 = 0 ∧ ¬ (lo ≤ xV mx ∧ xV mx ≤ hi)) := (by rw [hw1]; by_cases q9 : (lo ≤ xV mx ∧ xV mx ≤ hi) <;> simp [q9])
      clear hw1
      refine rRun hG 32 ?_
      refine And.intro (by first | omega | (simp only [xB_s, xN_s, xP_s, xS_s, xK_s, xV_s, xF_s, xR_s, xL_s, xA_s, Int.reduceToNat]; omega)) (And.intro (fun cf => ?_) (fun cf => ?_))
      · try simp only [xB_s, xN_s, xP_s, xS_s, xK_s, xV_s, xF_s, xR_s, xL_s, xA_s, Int.reduceToNat] at cf
        refine rRun hG 32 ?_
        first | exact J32a (by omega) | exact J32b (by omega)
      · try simp only [xB_s, xN_s, xP_s, xS_s, xK_s, xV_s, xF_s, xR_s, xL_s, xA_s, Int.reduceToNat] at cf
        first | exact J32a (by omega) | exact J32b (by omega)
end WALKS
