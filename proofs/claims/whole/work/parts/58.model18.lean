/-! the reference: the sentence -/
section WALKS
variable {l : Launch}
def SET (sd mt t : TD) : Prop := (∀ a, a < 14 → tSun t a = tSun sd a) ∧ (∀ a, a < 24 → tBri t a = tBri sd a) ∧ (∀ a, a < 8 → tTra t a = tTra sd a) ∧ tDay t = tDay sd ∧ tNB t = tNB sd ∧ tNT t = tNT sd ∧ tRst t = tRst mt ∧ tLim t = (if tLim sd < 0 then 2 else tLim sd) ∧ tAdd t = (if tAdd sd < 0 then 3 else tAdd sd)
def SETm (sd : TD) (m : FN) : Prop := m 1 = (if tRst sd < 0 then 20 else tRst sd) ∧ ∀ a, a < 100 → ¬ a = 1 → m a = 0
set_option maxRecDepth 20000 in
set_option maxHeartbeats 2000000 in
theorem sp_X7_settles {mt sd : TD} {ms mg mk : FN} {hn : Int} {mh : FN} {tr : Int} {mx : XD} {w9 t9 c9 g9 : FN}  (hl : inI (tLim sd)) (ha : inI (tAdd sd)) (hr : inI (tRst sd)) : SpV l 1 yX7_settles cX7_settles 2 none [mr 0] (hM mt sd ms mg mk hn mh tr mx w9 t9 c9 g9) (fun h => ∃ (t : TD) (f4 : FN), SET sd mt t ∧ SETm sd f4 ∧ h = hM t sd f4 mg (mup (mup mk 0 0) 1 0) 0 mh tr (xClr mx) w9 t9 c9 g9) := by
  refine SpV.of (cd := kdX7_settles) (fT := mlook flX7) (kT := mlook klX7) (kJ := mlook jlX7) mfA_X7_settles ok_X7_settles fT_X7 kT_X7 jT_X7 jdk_ok True.intro (Nat.le_of_ble_eq_true rfl) (fun G hG => ?_)
  have J142 : ∀ (t : TD), SET sd mt t → ∀ (m i : Nat) (f : FN), i ≤ 100 → (∀ a, a < i → f a = 0) → 100 - i < m → G 142 [some (mr 0), some (mi (i : Int))] [] (hM t sd f mg mk hn mh tr mx w9 t9 c9 g9) := by
    intro t ht m
    induction m with
    | zero => intro i f _ _ hm; exact absurd hm (Nat.not_lt_zero _)
    | succ m ih =>
      intro i f hi hf hm
      refine rRun hG 99999 ?_
      refine And.intro (by first | omega | (simp only [xB_s, xN_s, xP_s, xS_s, xK_s, xV_s, xF_s, xR_s, xL_s, xA_s, Int.reduceToNat]; omega)) (And.intro (fun c1 => ?_) (fun c1 => ?_))
      · try simp only [xB_s, xN_s, xP_s, xS_s, xK_s, xV_s, xF_s, xR_s, xL_s, xA_s, Int.reduceToNat] at c1
        refine rRun hG 99999 ?_
        refine And.intro rfl (And.intro rfl (And.intro (by first | omega | (simp only [xB_s, xN_s, xP_s, xS_s, xK_s, xV_s, xF_s, xR_s, xL_s, xA_s, Int.reduceToNat]; omega)) (And.intro (fun cr => ?_) (fun cr => ?_))))
        · try simp only [xB_s, xN_s, xP_s, xS_s, xK_s, xV_s, xF_s, xR_s, xL_s, xA_s, Int.reduceToNat] at cr
          refine rRun hG 99999 ?_
          refine And.intro rfl (And.intro (by first | omega | (simp only [xB_s, xN_s, xP_s, xS_s, xK_s, xV_s, xF_s, xR_s, xL_s, xA_s, Int.reduceToNat]; omega)) (And.intro ⟨rfl, by exact Nat.le_of_ble_eq_true rfl, by first | exact True.intro | exact Or.inl rfl | exact Or.inr rfl⟩ (And.intro rfl (And.intro (by first | omega | (simp only [xB_s, xN_s, xP_s, xS_s, xK_s, xV_s, xF_s, xR_s, xL_s, xA_s, Int.reduceToNat]; omega)) (And.intro rfl (And.intro (by first | omega | (simp only [xB_s, xN_s, xP_s, xS_s, xK_s, xV_s, xF_s, xR_s, xL_s, xA_s, Int.reduceToNat]; omega)) (And.intro ⟨rfl, by exact Nat.le_of_ble_eq_true rfl, by first | exact True.intro | exact Or.inl rfl | exact Or.inr rfl⟩ (?_))))))))
          refine rVR hG rfl rfl rfl ?_
          obtain rfl : i = 100 := by omega
          refine ⟨t, mup f 1 (if tRst sd < 0 then 20 else tRst sd), ht, ⟨mup_s, fun a ha q => by rw [mup_n q]; exact hf a ha⟩, ?_⟩
          first | (rw [if_pos (by omega)]; rfl) | (rw [if_neg (by omega)]; rfl)
        · try simp only [xB_s, xN_s, xP_s, xS_s, xK_s, xV_s, xF_s, xR_s, xL_s, xA_s, Int.reduceToNat] at cr
          refine rRun hG 99999 ?_
          refine And.intro (by first | omega | (simp only [xB_s, xN_s, xP_s, xS_s, xK_s, xV_s, xF_s, xR_s, xL_s, xA_s, Int.reduceToNat]; omega)) (And.intro ⟨rfl, by exact Nat.le_of_ble_eq_true rfl, by first | exact True.intro | exact Or.inl rfl | exact Or.inr rfl⟩ (And.intro rfl (And.intro (by first | omega | (simp only [xB_s, xN_s, xP_s, xS_s, xK_s, xV_s, xF_s, xR_s, xL_s, xA_s, Int.reduceToNat]; omega)) (And.intro rfl (And.intro (by first | omega | (simp only [xB_s, xN_s, xP_s, xS_s, xK_s, xV_s, xF_s, xR_s, xL_s, xA_s, Int.reduceToNat]; omega)) (And.intro ⟨rfl, by exact Nat.le_of_ble_eq_true rfl, by first | exact True.intro | exact Or.inl rfl | exact Or.inr rfl⟩ (?_)))))))
          refine rVR hG rfl rfl rfl ?_
          obtain rfl : i = 100 := by omega
          refine ⟨t, mup f 1 (if tRst sd < 0 then 20 else tRst sd), ht, ⟨mup_s, fun a ha q => by rw [mup_n q]; exact hf a ha⟩, ?_⟩
          first | (rw [if_pos (by omega)]; rfl) | (rw [if_neg (by omega)]; rfl)
      · try simp only [xB_s, xN_s, xP_s, xS_s, xK_s, xV_s, xF_s, xR_s, xL_s, xA_s, Int.reduceToNat] at c1
        refine And.intro rfl (And.intro (by first | omega | (simp only [xB_s, xN_s, xP_s, xS_s, xK_s, xV_s, xF_s, xR_s, xL_s, xA_s, Int.reduceToNat]; omega)) (?_))
        refine rLess hG ?_ (ih (i + 1) (mup f (i : Int).toNat 0) (by omega) (fun a ha => ?_) (by omega))
        · exact ⟨rfl, rfl, True.intro⟩
        · rw [Int.toNat_natCast]
          by_cases q : a = i
          · rw [q, mup_s]
          · rw [mup_n q]; exact hf a (by omega)
  have J78 : ∀ (f1 f2 : FN), (∀ a, a < 14 → f1 a = tSun sd a) → (∀ a, a < 24 → f2 a = tBri sd a) → ∀ (m i : Nat) (f : FN), i ≤ 8 → (∀ a, a < i → f a = tTra sd a) → 8 - i < m → G 78 [some (mr 0), some (mi (i : Int))] [] (hM (f1, f2, f, (tDay sd), (tNB sd), (tNT sd), tRst mt, (tLim mt), (tAdd mt)) sd ms mg mk hn mh tr mx w9 t9 c9 g9) := by
    intro f1 f2 hf1 hf2 m
    induction m with
    | zero => intro i f _ _ hm; exact absurd hm (Nat.not_lt_zero _)
    | succ m ih =>
      intro i f hi hf hm
      refine rRun hG 142 ?_
      refine And.intro (by first | omega | (simp only [xB_s, xN_s, xP_s, xS_s, xK_s, xV_s, xF_s, xR_s, xL_s, xA_s, Int.reduceToNat]; omega)) (And.intro (fun c1 => ?_) (fun c1 => ?_))
      · try simp only [xB_s, xN_s, xP_s, xS_s, xK_s, xV_s, xF_s, xR_s, xL_s, xA_s, Int.reduceToNat] at c1
        refine rRun hG 142 ?_
        refine And.intro rfl (And.intro (by first | omega | (simp only [xB_s, xN_s, xP_s, xS_s, xK_s, xV_s, xF_s, xR_s, xL_s, xA_s, Int.reduceToNat]; omega)) (And.intro (fun cl => ?_) (fun cl => ?_)))
        · try simp only [xB_s, xN_s, xP_s, xS_s, xK_s, xV_s, xF_s, xR_s, xL_s, xA_s, Int.reduceToNat] at cl
          refine rRun hG 142 ?_
          refine And.intro rfl (And.intro ⟨rfl, by exact Nat.le_of_ble_eq_true rfl, by first | exact True.intro | exact Or.inl rfl | exact Or.inr rfl⟩ (And.intro rfl (And.intro (by first | omega | (simp only [xB_s, xN_s, xP_s, xS_s, xK_s, xV_s, xF_s, xR_s, xL_s, xA_s, Int.reduceToNat]; omega)) (And.intro (fun ca => ?_) (fun ca => ?_)))))
          · try simp only [xB_s, xN_s, xP_s, xS_s, xK_s, xV_s, xF_s, xR_s, xL_s, xA_s, Int.reduceToNat] at ca
            refine rRun hG 142 ?_
            refine And.intro rfl (And.intro ⟨rfl, by exact Nat.le_of_ble_eq_true rfl, by first | exact True.intro | exact Or.inl rfl | exact Or.inr rfl⟩ (?_))
            obtain rfl : i = 8 := by omega
            first
              | (refine rLess hG ?_ (J142 (f1, f2, f, tDay sd, tNB sd, tNT sd, tRst mt, 2, 3) ⟨hf1, hf2, hf, rfl, rfl, rfl, rfl, (if_pos (by omega)).symm, (if_pos (by omega)).symm⟩ 101 0 _ (by omega) (fun a ha => absurd ha (Nat.not_lt_zero _)) (by omega)); exact ⟨rfl, rfl, True.intro⟩)
              | (refine rLess hG ?_ (J142 (f1, f2, f, tDay sd, tNB sd, tNT sd, tRst mt, 2, tAdd sd) ⟨hf1, hf2, hf, rfl, rfl, rfl, rfl, (if_pos (by omega)).symm, (if_neg (by omega)).symm⟩ 101 0 _ (by omega) (fun a ha => absurd ha (Nat.not_lt_zero _)) (by omega)); exact ⟨rfl, rfl, True.intro⟩)
              | (refine rLess hG ?_ (J142 (f1, f2, f, tDay sd, tNB sd, tNT sd, tRst mt, tLim sd, 3) ⟨hf1, hf2, hf, rfl, rfl, rfl, rfl, (if_neg (by omega)).symm, (if_pos (by omega)).symm⟩ 101 0 _ (by omega) (fun a ha => absurd ha (Nat.not_lt_zero _)) (by omega)); exact ⟨rfl, rfl, True.intro⟩)
              | (refine rLess hG ?_ (J142 (f1, f2, f, tDay sd, tNB sd, tNT sd, tRst mt, tLim sd, tAdd sd) ⟨hf1, hf2, hf, rfl, rfl, rfl, rfl, (if_neg (by omega)).symm, (if_neg (by omega)).symm⟩ 101 0 _ (by omega) (fun a ha => absurd ha (Nat.not_lt_zero _)) (by omega)); exact ⟨rfl, rfl, True.intro⟩)
          · try simp only [xB_s, xN_s, xP_s, xS_s, xK_s, xV_s, xF_s, xR_s, xL_s, xA_s, Int.reduceToNat] at ca
            refine rRun hG 142 ?_
            refine And.intro ⟨rfl, by exact Nat.le_of_ble_eq_true rfl, by first | exact True.intro | exact Or.inl rfl | exact Or.inr rfl⟩ (?_)
            obtain rfl : i = 8 := by omega
            first
              | (refine rLess hG ?_ (J142 (f1, f2, f, tDay sd, tNB sd, tNT sd, tRst mt, 2, 3) ⟨hf1, hf2, hf, rfl, rfl, rfl, rfl, (if_pos (by omega)).symm, (if_pos (by omega)).symm⟩ 101 0 _ (by omega) (fun a ha => absurd ha (Nat.not_lt_zero _)) (by omega)); exact ⟨rfl, rfl, True.intro⟩)
              | (refine rLess hG ?_ (J142 (f1, f2, f, tDay sd, tNB sd, tNT sd, tRst mt, 2, tAdd sd) ⟨hf1, hf2, hf, rfl, rfl, rfl, rfl, (if_pos (by omega)).symm, (if_neg (by omega)).symm⟩ 101 0 _ (by omega) (fun a ha => absurd ha (Nat.not_lt_zero _)) (by omega)); exact ⟨rfl, rfl, True.intro⟩)
              | (refine rLess hG ?_ (J142 (f1, f2, f, tDay sd, tNB sd, tNT sd, tRst mt, tLim sd, 3) ⟨hf1, hf2, hf, rfl, rfl, rfl, rfl, (if_neg (by omega)).symm, (if_pos (by omega)).symm⟩ 101 0 _ (by omega) (fun a ha => absurd ha (Nat.not_lt_zero _)) (by omega)); exact ⟨rfl, rfl, True.intro⟩)
              | (refine rLess hG ?_ (J142 (f1, f2, f, tDay sd, tNB sd, tNT sd, tRst mt, tLim sd, tAdd sd) ⟨hf1, hf2, hf, rfl, rfl, rfl, rfl, (if_neg (by omega)).symm, (if_neg (by omega)).symm⟩ 101 0 _ (by omega) (fun a ha => absurd ha (Nat.not_lt_zero _)) (by omega)); exact ⟨rfl, rfl, True.intro⟩)
        · try simp only [xB_s, xN_s, xP_s, xS_s, xK_s, xV_s, xF_s, xR_s, xL_s, xA_s, Int.reduceToNat] at cl
          refine rRun hG 142 ?_
          refine And.intro ⟨rfl, by exact Nat.le_of_ble_eq_true rfl, by first | exact True.intro | exact Or.inl rfl | exact Or.inr rfl⟩ (And.intro rfl (And.intro (by first | omega | (simp only [xB_s, xN_s, xP_s, xS_s, xK_s, xV_s, xF_s, xR_s, xL_s, xA_s, Int.reduceToNat]; omega)) (And.intro (fun ca => ?_) (fun ca => ?_))))
          · try simp only [xB_s, xN_s, xP_s, xS_s, xK_s, xV_s, xF_s, xR_s, xL_s, xA_s, Int.reduceToNat] at ca
            refine rRun hG 142 ?_
            refine And.intro rfl (And.intro ⟨rfl, by exact Nat.le_of_ble_eq_true rfl, by first | exact True.intro | exact Or.inl rfl | exact Or.inr rfl⟩ (?_))
            obtain rfl : i = 8 := by omega
            first
              | (refine rLess hG ?_ (J142 (f1, f2, f, tDay sd, tNB sd, tNT sd, tRst mt, 2, 3) ⟨hf1, hf2, hf, rfl, rfl, rfl, rfl, (if_pos (by omega)).symm, (if_pos (by omega)).symm⟩ 101 0 _ (by omega) (fun a ha => absurd ha (Nat.not_lt_zero _)) (by omega)); exact ⟨rfl, rfl, True.intro⟩)
              | (refine rLess hG ?_ (J142 (f1, f2, f, tDay sd, tNB sd, tNT sd, tRst mt, 2, tAdd sd) ⟨hf1, hf2, hf, rfl, rfl, rfl, rfl, (if_pos (by omega)).symm, (if_neg (by omega)).symm⟩ 101 0 _ (by omega) (fun a ha => absurd ha (Nat.not_lt_zero _)) (by omega)); exact ⟨rfl, rfl, True.intro⟩)
              | (refine rLess hG ?_ (J142 (f1, f2, f, tDay sd, tNB sd, tNT sd, tRst mt, tLim sd, 3) ⟨hf1, hf2, hf, rfl, rfl, rfl, rfl, (if_neg (by omega)).symm, (if_pos (by omega)).symm⟩ 101 0 _ (by omega) (fun a ha => absurd ha (Nat.not_lt_zero _)) (by omega)); exact ⟨rfl, rfl, True.intro⟩)
              | (refine rLess hG ?_ (J142 (f1, f2, f, tDay sd, tNB sd, tNT sd, tRst mt, tLim sd, tAdd sd) ⟨hf1, hf2, hf, rfl, rfl, rfl, rfl, (if_neg (by omega)).symm, (if_neg (by omega)).symm⟩ 101 0 _ (by omega) (fun a ha => absurd ha (Nat.not_lt_zero _)) (by omega)); exact ⟨rfl, rfl, True.intro⟩)
          · try simp only [xB_s, xN_s, xP_s, xS_s, xK_s, xV_s, xF_s, xR_s, xL_s, xA_s, Int.reduceToNat] at ca
            refine rRun hG 142 ?_
            refine And.intro ⟨rfl, by exact Nat.le_of_ble_eq_true rfl, by first | exact True.intro | exact Or.inl rfl | exact Or.inr rfl⟩ (?_)
            obtain rfl : i = 8 := by omega
            first
              | (refine rLess hG ?_ (J142 (f1, f2, f, tDay sd, tNB sd, tNT sd, tRst mt, 2, 3) ⟨hf1, hf2, hf, rfl, rfl, rfl, rfl, (if_pos (by omega)).symm, (if_pos (by omega)).symm⟩ 101 0 _ (by omega) (fun a ha => absurd ha (Nat.not_lt_zero _)) (by omega)); exact ⟨rfl, rfl, True.intro⟩)
              | (refine rLess hG ?_ (J142 (f1, f2, f, tDay sd, tNB sd, tNT sd, tRst mt, 2, tAdd sd) ⟨hf1, hf2, hf, rfl, rfl, rfl, rfl, (if_pos (by omega)).symm, (if_neg (by omega)).symm⟩ 101 0 _ (by omega) (fun a ha => absurd ha (Nat.not_lt_zero _)) (by omega)); exact ⟨rfl, rfl, True.intro⟩)
              | (refine rLess hG ?_ (J142 (f1, f2, f, tDay sd, tNB sd, tNT sd, tRst mt, tLim sd, 3) ⟨hf1, hf2, hf, rfl, rfl, rfl, rfl, (if_neg (by omega)).symm, (if_pos (by omega)).symm⟩ 101 0 _ (by omega) (fun a ha => absurd ha (Nat.not_lt_zero _)) (by omega)); exact ⟨rfl, rfl, True.intro⟩)
              | (refine rLess hG ?_ (J142 (f1, f2, f, tDay sd, tNB sd, tNT sd, tRst mt, tLim sd, tAdd sd) ⟨hf1, hf2, hf, rfl, rfl, rfl, rfl, (if_neg (by omega)).symm, (if_neg (by omega)).symm⟩ 101 0 _ (by omega) (fun a ha => absurd ha (Nat.not_lt_zero _)) (by omega)); exact ⟨rfl, rfl, True.intro⟩)
      · try simp only [xB_s, xN_s, xP_s, xS_s, xK_s, xV_s, xF_s, xR_s, xL_s, xA_s, Int.reduceToNat] at c1
        refine And.intro rfl (And.intro rfl (And.intro (by first | omega | (simp only [xB_s, xN_s, xP_s, xS_s, xK_s, xV_s, xF_s, xR_s, xL_s, xA_s, Int.reduceToNat]; omega)) (And.intro (by first | omega | (simp only [xB_s, xN_s, xP_s, xS_s, xK_s, xV_s, xF_s, xR_s, xL_s, xA_s, Int.reduceToNat]; omega)) (?_))))
        refine rLess hG ?_ (ih (i + 1) (mup f (i : Int).toNat (tTra sd (i : Int).toNat)) (by omega) (fun a ha => ?_) (by omega))
        · exact ⟨rfl, rfl, True.intro⟩
        · rw [Int.toNat_natCast]
          by_cases q : a = i
          · rw [q, mup_s]
          · rw [mup_n q]; exact hf a (by omega)
  have J44 : ∀ (f1 : FN), (∀ a, a < 14 → f1 a = tSun sd a) → ∀ (m i : Nat) (f : FN), i ≤ 24 → (∀ a, a < i → f a = tBri sd a) → 24 - i < m → G 44 [some (mr 0), some (mi (i : Int))] [] (hM (f1, f, (tTra mt), (tDay sd), (tNB sd), (tNT mt), tRst mt, (tLim mt), (tAdd mt)) sd ms mg mk hn mh tr mx w9 t9 c9 g9) := by
    intro f1 hf1 m
    induction m with
    | zero => intro i f _ _ hm; exact absurd hm (Nat.not_lt_zero _)
    | succ m ih =>
      intro i f hi hf hm
      refine rRun hG 78 ?_
      refine And.intro (by first | omega | (simp only [xB_s, xN_s, xP_s, xS_s, xK_s, xV_s, xF_s, xR_s, xL_s, xA_s, Int.reduceToNat]; omega)) (And.intro (fun c1 => ?_) (fun c1 => ?_))
      · try simp only [xB_s, xN_s, xP_s, xS_s, xK_s, xV_s, xF_s, xR_s, xL_s, xA_s, Int.reduceToNat] at c1
        refine rRun hG 78 ?_
        refine And.intro rfl (And.intro ⟨rfl, by exact Nat.le_of_ble_eq_true rfl, by first | exact True.intro | exact Or.inl rfl | exact Or.inr rfl⟩ (?_))
        obtain rfl : i = 24 := by omega
        refine rLess hG ?_ (J78 f1 f hf1 hf 9 0 (tTra mt) (by omega) (fun a ha => absurd ha (Nat.not_lt_zero _)) (by omega))
        exact ⟨rfl, rfl, True.intro⟩
      · try simp only [xB_s, xN_s, xP_s, xS_s, xK_s, xV_s, xF_s, xR_s, xL_s, xA_s, Int.reduceToNat] at c1
        refine And.intro rfl (And.intro rfl (And.intro (by first | omega | (simp only [xB_s, xN_s, xP_s, xS_s, xK_s, xV_s, xF_s, xR_s, xL_s, xA_s, Int.reduceToNat]; omega)) (And.intro (by first | omega | (simp only [xB_s, xN_s, xP_s, xS_s, xK_s, xV_s, xF_s, xR_s, xL_s, xA_s, Int.reduceToNat]; omega)) (?_))))
        refine rLess hG ?_ (ih (i + 1) (mup f (i : Int).toNat (tBri sd (i : Int).toNat)) (by omega) (fun a ha => ?_) (by omega))
        · exact ⟨rfl, rfl, True.intro⟩
        · rw [Int.toNat_natCast]
          by_cases q : a = i
          · rw [q, mup_s]
          · rw [mup_n q]; exact hf a (by omega)
  have J10 : ∀ (m i : Nat) (f : FN), i ≤ 14 → (∀ a, a < i → f a = tSun sd a) → 14 - i < m → G 10 [some (mr 0), some (mi (i : Int))] [] (hM (f, (tBri mt), (tTra mt), (tDay sd), (tNB mt), (tNT mt), tRst mt, (tLim mt), (tAdd mt)) sd ms mg mk hn mh tr mx w9 t9 c9 g9) := by
    intro m
    induction m with
    | zero => intro i f _ _ hm; exact absurd hm (Nat.not_lt_zero _)
    | succ m ih =>
      intro i f hi hf hm
      refine rRun hG 44 ?_
      refine And.intro (by first | omega | (simp only [xB_s, xN_s, xP_s, xS_s, xK_s, xV_s, xF_s, xR_s, xL_s, xA_s, Int.reduceToNat]; omega)) (And.intro (fun c1 => ?_) (fun c1 => ?_))
      · try simp only [xB_s, xN_s, xP_s, xS_s, xK_s, xV_s, xF_s, xR_s, xL_s, xA_s, Int.reduceToNat] at c1
        refine rRun hG 44 ?_
        refine And.intro rfl (And.intro ⟨rfl, by exact Nat.le_of_ble_eq_true rfl, by first | exact True.intro | exact Or.inl rfl | exact Or.inr rfl⟩ (?_))
        obtain rfl : i = 14 := by omega
        refine rLess hG ?_ (J44 f hf 25 0 (tBri mt) (by omega) (fun a ha => absurd ha (Nat.not_lt_zero _)) (by omega))
        exact ⟨rfl, rfl, True.intro⟩
      · try simp only [xB_s, xN_s, xP_s, xS_s, xK_s, xV_s, xF_s, xR_s, xL_s, xA_s, Int.reduceToNat] at c1
        refine And.intro rfl (And.intro rfl (And.intro (by first | omega | (simp only [xB_s, xN_s, xP_s, xS_s, xK_s, xV_s, xF_s, xR_s, xL_s, xA_s, Int.reduceToNat]; omega)) (And.intro (by first | omega | (simp only [xB_s, xN_s, xP_s, xS_s, xK_s, xV_s, xF_s, xR_s, xL_s, xA_s, Int.reduceToNat]; omega)) (?_))))
        refine rLess hG ?_ (ih (i + 1) (mup f (i : Int).toNat (tSun sd (i : Int).toNat)) (by omega) (fun a ha => ?_) (by omega))
        · exact ⟨rfl, rfl, True.intro⟩
        · rw [Int.toNat_natCast]
          by_cases q : a = i
          · rw [q, mup_s]
          · rw [mup_n q]; exact hf a (by omega)
  refine rRun hG 10 ?_
  refine And.intro rfl (And.intro ⟨rfl, by exact Nat.le_of_ble_eq_true rfl, by first | exact True.intro | exact Or.inl rfl | exact Or.inr rfl⟩ (?_))
  refine rLess hG ?_ (J10 15 0 (tSun mt) (by omega) (fun a ha => absurd ha (Nat.not_lt_zero _)) (by omega))
  exact ⟨rfl, rfl, True.intro⟩
theorem nx_N {x : XD} : xN (nxM x) = xN x ∧ xF (nxM x) = xF x ∧ xR (nxM x) = xR x ∧ xB (nxM x) = xB x := by
  unfold nxM
  repeat' split
  all_goals exact ⟨rfl, rfl, rfl, rfl⟩
theorem nx_P {x : XD} (h : 0 ≤ xP x ∧ xP x ≤ xN x) : xP x ≤ xP (nxM x) ∧ (¬ xK (nxM x) = 0 → xP x < xP (nxM x)) := by
  have hs := tSt_in h
  have hC : tC x = bAt (xB x) (xN x) (tSt x) := rfl
  by_cases q : tC x < 0
  · rw [nxM_E rfl rfl q]; exact ⟨hs.1, fun z => absurd rfl z⟩
  · have hl := tC_lt q
    by_cases q1 : 48 ≤ tC x ∧ tC x ≤ 57
    · have hg := runT_go (P := pDg) (b := xB x) (n := xN x) (i := tSt x) hl (by unfold pDg; rw [← hC]; exact decide_eq_true q1)
      have hr := runT_in (P := pDg) (b := xB x) (n := xN x) (i := tSt x + 1) (by omega)
      rw [nxM_D rfl rfl q1]
      show xP x ≤ runT _ _ _ _ ∧ (_ → xP x < runT _ _ _ _)
      omega
    · by_cases q2 : 97 ≤ tC x ∧ tC x ≤ 122
      · have hg := runT_go (P := pLt) (b := xB x) (n := xN x) (i := tSt x) hl (by unfold pLt; rw [← hC]; exact decide_eq_true q2)
        have hr := runT_in (P := pLt) (b := xB x) (n := xN x) (i := tSt x + 1) (by omega)
        rw [nxM_L rfl rfl q2]
        show xP x ≤ runT _ _ _ _ ∧ (_ → xP x < runT _ _ _ _)
        omega
      · by_cases q3 : tC x = 59
        · rw [nxM_S rfl rfl q3]
          show xP x ≤ tSt x + 1 ∧ (_ → xP x < tSt x + 1)
          omega
        · rw [nxM_O rfl rfl (by omega) q2 q1 q3]
          show xP x ≤ tSt x + 1 ∧ (_ → xP x < tSt x + 1)
          omega
theorem tk_F {lo hi : Int} {x : XD} (h : xF (tkX lo hi x) = 0) : (xF x = 0 ∧ xK x = 2 ∧ lo ≤ xV x ∧ xV x ≤ hi) ∧ tkX lo hi x = nxM (xFs x 0) := by
  by_cases q : xF x = 0 ∧ xK x = 2 ∧ lo ≤ xV x ∧ xV x ≤ hi
  · exact ⟨q, if_pos q⟩
  · rw [show tkX lo hi x = xSet x (xP x) (xS x) (xK x) (xV x) 1 from if_neg q] at h
    exact absurd h (show ¬ (1 : Int) = 0 by decide)
theorem fs_0 {x : XD} (h : xF x = 0) : xFs x 0 = x := by
  unfold xFs xSet
  rw [← h]; rfl
theorem tk_P {lo hi : Int} {x : XD} (hx : XOM x) (h : xF (tkX lo hi x) = 0) : xP x ≤ xP (tkX lo hi x) := by
  obtain ⟨q, e⟩ := tk_F h
  rw [e, fs_0 q.1]
  exact (nx_P hx.2.1).1
theorem tk_N {lo hi : Int} {x : XD} : xN (tkX lo hi x) = xN x ∧ xR (tkX lo hi x) = xR x := by
  unfold tkX
  split
  · exact ⟨nx_N.1, nx_N.2.2.1⟩
  · exact ⟨rfl, rfl⟩
theorem bod_N {c : Int} {x : XD} : xN (bodX c x) = xN x ∧ xR (bodX c x) = xR x := by
  unfold bodX
  repeat' split
  all_goals first | exact tk_N | exact ⟨tk_N.1.trans tk_N.1, tk_N.2.trans tk_N.2⟩ | exact ⟨tk_N.1.trans (tk_N.1.trans (tk_N.1.trans tk_N.1)), tk_N.2.trans (tk_N.2.trans (tk_N.2.trans tk_N.2))⟩
theorem bod_P {c : Int} {x : XD} (hx : XOM x) (h : xF (bodX c x) = 0) : (xF x = 0 ∧ xK x = 2) ∧ xP x ≤ xP (bodX c x) := by
  have one : ∀ lo hi, xF (tkX lo hi x) = 0 → (xF x = 0 ∧ xK x = 2) ∧ xP x ≤ xP (tkX lo hi x) := fun lo hi q => ⟨⟨(tk_F q).1.1, (tk_F q).1.2.1⟩, tk_P hx q⟩
  unfold bodX at h ⊢
  split at h
  · rename_i e
    rw [if_pos e]
    have q3 := (tk_F h).1.1
    have q2 := (tk_F q3).1.1
    have q1 := (tk_F q2).1.1
    have a1 := one 0 13 q1
    have a2 := tk_P (XOM_tk hx) q2
    have a3 := tk_P (XOM_tk (XOM_tk hx)) q3
    have a4 := tk_P (XOM_tk (XOM_tk (XOM_tk hx))) h
    exact ⟨a1.1, by omega⟩
  · rename_i e
    rw [if_neg e]
    split at h
    · rename_i e2; rw [if_pos e2]; exact one _ _ h
    · rename_i e2
      rw [if_neg e2]
      split at h
      · rename_i e3
        rw [if_pos e3]
        have q1 := (tk_F h).1.1
        have a1 := one 1 9 q1
        have a2 := tk_P (XOM_tk hx) h
        exact ⟨a1.1, by omega⟩
      · rename_i e3
        rw [if_neg e3]
        split at h
        · rename_i e4; rw [if_pos e4]; exact one _ _ h
        · rename_i e4
          rw [if_neg e4]
          split at h
          · rename_i e5; rw [if_pos e5]; exact one _ _ h
          · rename_i e5; rw [if_neg e5]; exact one _ _ h
theorem itm_N {x : XD} {s : TD} : xN (itmW x s) = xN x ∧ xR (itmW x s) = xR x := by
  unfold itmW itmF
  repeat' split
  · exact ⟨nx_N.1.trans (bod_N.1.trans nx_N.1), nx_N.2.2.1.trans (bod_N.2.trans nx_N.2.2.1)⟩
  · exact ⟨bod_N.1.trans nx_N.1, bod_N.2.trans nx_N.2.2.1⟩
  · exact ⟨rfl, rfl⟩
theorem itm_P {x : XD} {s : TD} (hx : XOM x) (h : xF (itmW x s) = 0) : (xK x = 1 ∧ mbF s (xV x) = 1) ∧ (xF (bodX (xV x) (nxM x)) = 0 ∧ xK (bodX (xV x) (nxM x)) = 3) ∧ itmW x s = nxM (bodX (xV x) (nxM x)) ∧ xP x < xP (itmW x s) := by
  by_cases q : xK x = 1 ∧ mbF s (xV x) = 1
  · have e : itmW x s = itmF (bodX (xV x) (nxM x)) := if_pos q
    rw [e] at h ⊢
    by_cases z : xF (bodX (xV x) (nxM x)) = 0 ∧ xK (bodX (xV x) (nxM x)) = 3
    · have e2 : itmF (bodX (xV x) (nxM x)) = nxM (xFs (bodX (xV x) (nxM x)) 0) := if_pos z
      rw [e2, fs_0 z.1]
      have hb := bod_P (XOM_nx hx) z.1
      have hp := (nx_P hx.2.1).2 (by omega)
      have hp2 := (nx_P (XOM_bod (XOM_nx hx) (c := xV x)).2.1).1
      exact ⟨q, z, rfl, by omega⟩
    · rw [show itmF (bodX (xV x) (nxM x)) = xFs (bodX (xV x) (nxM x)) 1 from if_neg z] at h
      exact absurd h (show ¬ (1 : Int) = 0 by decide)
  · rw [show itmW x s = xFs x 1 from if_neg q] at h
    exact absurd h (show ¬ (1 : Int) = 0 by decide)
def bgW (x : XD) : XD := (xB x, xN x, 0, xS x, xK x, xV x, 0, 0, xL x, xA x)
def bgS (s : TD) : TD := (tSun s, tBri s, tTra s, 0, 0, 0, -1, -1, -1)
def xInc (x : XD) : XD := (xB x, xN x, xP x, xS x, xK x, xV x, xF x, xR x + 1, xL x, xA x)
def rdW : Nat → XD → TD → XD × TD
  | 0, x, s => (x, s)
  | n + 1, x, s => if ¬ xK x = 0 ∧ xF x = 0 then rdW n (xInc (itmW x s)) (itmS x s) else (x, s)
def mswX (x : XD) : Nat := if xF x = 0 then (xN x - xP x).toNat + 1 else 0
theorem msw_itm {x : XD} {s : TD} (hx : XOM x) (h0 : xF x = 0) : mswX (xInc (itmW x s)) < mswX x := by
  unfold mswX
  rw [if_pos h0]
  by_cases q : xF (itmW x s) = 0
  · rw [if_pos (show xF (xInc (itmW x s)) = 0 from q)]
    have := (itm_P hx q).2.2.2
    have h2 := (XOM_itm hx (s := s)).2.1
    have h3 := (itm_N (x := x) (s := s)).1
    show (xN (itmW x s) - xP (itmW x s)).toNat + 1 < _
    omega
  · rw [if_neg (show ¬ xF (xInc (itmW x s)) = 0 from q)]; omega
set_option maxRecDepth 20000 in
set_option maxHeartbeats 2000000 in
theorem sp_X7_sentence {mt sd : TD} {ms mg mk : FN} {hn : Int} {mh : FN} {tr : Int} {mx : XD} {w9 t9 c9 g9 : FN} {X9 : XD × TD} (hX : XOM (bgW mx)) (hX9 : X9 = rdW 400 (nxM (bgW mx)) (bgS sd)) : SpI l 8 yX7_sentence cX7_sentence 1 (some .int) [mr 0] (hM mt sd ms mg mk hn mh tr mx w9 t9 c9 g9) ((fun z h => (¬ xF X9.1 = 0 ∧ z = -10 - xS X9.1 ∧ h = hM mt X9.2 ms mg mk hn mh tr X9.1 w9 t9 c9 g9) ∨ (xF X9.1 = 0 ∧ z = xR X9.1 ∧ ∃ (t : TD) (f4 : FN), SET X9.2 mt t ∧ SETm X9.2 f4 ∧ h = hM t X9.2 f4 mg (mup (mup mk 0 0) 1 0) 0 mh tr (xClr X9.1) w9 t9 c9 g9))) := by
  refine SpI.of (cd := kdX7_sentence) (fT := mlook flX7) (kT := mlook klX7) (kJ := mlook jlX7) mfA_X7_sentence ok_X7_sentence fT_X7 kT_X7 jT_X7 jdk_ok True.intro (Nat.le_of_ble_eq_true rfl) (fun G hG => ?_)
  have hXb : XOM (bgW mx) := hX
  have hTb : TCW (bgS sd) := ⟨(by decide : (0 : Int) ≤ 0 ∧ (0 : Int) ≤ 14), (by decide : (0 : Int) ≤ 0 ∧ (0 : Int) ≤ 6), (by decide : (0 : Int) ≤ 0 ∧ (0 : Int) ≤ 4), (by decide : (-1 : Int) ≤ -1 ∧ (-1 : Int) ≤ 60), (by decide : (-1 : Int) ≤ -1 ∧ (-1 : Int) ≤ 6), (by decide : (-1 : Int) ≤ -1 ∧ (-1 : Int) ≤ 9)⟩
  have J49 : ∀ (k : Nat) (x : XD) (s : TD), XOM x → TCW s → mswX x < k → rdW k x s = X9 → G 49 [some (mr 0)] [] (hM mt s ms mg mk hn mh tr x w9 t9 c9 g9) := by
    intro k
    induction k with
    | zero => intro x s _ _ hm; exact absurd hm (Nat.not_lt_zero _)
    | succ k ih =>
      intro x s hXx hTs hm hr9
      obtain ⟨g1, g2, g3, g4, g5, g6, g7⟩ := id hXx
      obtain ⟨t1, t2, t3, t4, t5, t6⟩ := id hTs
      refine rRun hG 80 ?_
      refine And.intro rfl (And.intro (by first | omega | (simp only [xB_s, xN_s, xP_s, xS_s, xK_s, xV_s, xF_s, xR_s, xL_s, xA_s, Int.reduceToNat]; omega)) (And.intro (fun ck => ?_) (fun ck => ?_)))
      · try simp only [xB_s, xN_s, xP_s, xS_s, xK_s, xV_s, xF_s, xR_s, xL_s, xA_s, Int.reduceToNat] at ck
        have he9 : X9 = (x, s) := by
          rw [← hr9]; exact if_neg (by omega)
        subst he9
        refine rRun hG 99999 ?_
        refine And.intro rfl (And.intro (by first | omega | (simp only [xB_s, xN_s, xP_s, xS_s, xK_s, xV_s, xF_s, xR_s, xL_s, xA_s, Int.reduceToNat]; omega)) (And.intro (fun cg => ?_) (fun cg => ?_)))
        · try simp only [xB_s, xN_s, xP_s, xS_s, xK_s, xV_s, xF_s, xR_s, xL_s, xA_s, Int.reduceToNat] at cg
          refine rRun hG 99999 ?_
          refine rVV hG (sp_X7_settles (mt := mt) (sd := s) (ms := ms) (mg := mg) (mk := mk) (hn := hn) (mh := mh) (tr := tr) (mx := x) (w9 := w9) (t9 := t9) (c9 := c9) (g9 := g9) (by omega) (by omega) (by omega)) rfl rfl lk_X7_141 mf_X7_settles (by decide) (Nat.le_of_ble_eq_true rfl) ⟨_, _, _, rfl, rfl, rfl⟩ ?_
          rintro _ ⟨t9, f9, ht9, hf9, rfl⟩
          refine rRun hG 99999 ?_
          refine And.intro rfl (?_)
          refine rIR hG rfl rfl (True.intro) ?_
          exact Or.inr ⟨by show xF x = 0; omega, rfl, t9, f9, ht9, hf9, rfl⟩
        · try simp only [xB_s, xN_s, xP_s, xS_s, xK_s, xV_s, xF_s, xR_s, xL_s, xA_s, Int.reduceToNat] at cg
          refine And.intro rfl (?_)
          refine rIR hG rfl rfl (True.intro) ?_
          exact Or.inl ⟨by show ¬ xF x = 0; omega, rfl, rfl⟩
      · try simp only [xB_s, xN_s, xP_s, xS_s, xK_s, xV_s, xF_s, xR_s, xL_s, xA_s, Int.reduceToNat] at ck
        refine And.intro rfl (And.intro (by first | omega | (simp only [xB_s, xN_s, xP_s, xS_s, xK_s, xV_s, xF_s, xR_s, xL_s, xA_s, Int.reduceToNat]; omega)) (And.intro (fun cf => ?_) (fun cf => ?_)))
        · try simp only [xB_s, xN_s, xP_s, xS_s, xK_s, xV_s, xF_s, xR_s, xL_s, xA_s, Int.reduceToNat] at cf
          have he9 : X9 = (x, s) := by
            rw [← hr9]; exact if_neg (by omega)
          subst he9
          refine rRun hG 99999 ?_
          refine And.intro rfl (And.intro (by first | omega | (simp only [xB_s, xN_s, xP_s, xS_s, xK_s, xV_s, xF_s, xR_s, xL_s, xA_s, Int.reduceToNat]; omega)) (And.intro (fun cg => ?_) (fun cg => ?_)))
          · try simp only [xB_s, xN_s, xP_s, xS_s, xK_s, xV_s, xF_s, xR_s, xL_s, xA_s, Int.reduceToNat] at cg
            refine rRun hG 99999 ?_
            refine rVV hG (sp_X7_settles (mt := mt) (sd := s) (ms := ms) (mg := mg) (mk := mk) (hn := hn) (mh := mh) (tr := tr) (mx := x) (w9 := w9) (t9 := t9) (c9 := c9) (g9 := g9) (by omega) (by omega) (by omega)) rfl rfl lk_X7_141 mf_X7_settles (by decide) (Nat.le_of_ble_eq_true rfl) ⟨_, _, _, rfl, rfl, rfl⟩ ?_
            rintro _ ⟨t9, f9, ht9, hf9, rfl⟩
            refine rRun hG 99999 ?_
            refine And.intro rfl (?_)
            refine rIR hG rfl rfl (True.intro) ?_
            exact Or.inr ⟨by show xF x = 0; omega, rfl, t9, f9, ht9, hf9, rfl⟩
          · try simp only [xB_s, xN_s, xP_s, xS_s, xK_s, xV_s, xF_s, xR_s, xL_s, xA_s, Int.reduceToNat] at cg
            refine And.intro rfl (?_)
            refine rIR hG rfl rfl (True.intro) ?_
            exact Or.inl ⟨by show ¬ xF x = 0; omega, rfl, rfl⟩
        · try simp only [xB_s, xN_s, xP_s, xS_s, xK_s, xV_s, xF_s, xR_s, xL_s, xA_s, Int.reduceToNat] at cf
          refine rVV hG (sp_X7_readItem (mt := mt) (sd := s) (ms := ms) (mg := mg) (mk := mk) (hn := hn) (mh := mh) (tr := tr) (mx := x) (w9 := w9) (t9 := t9) (c9 := c9) (g9 := g9) hXx hTs) rfl rfl lk_X7_138 mf_X7_readItem (by decide) (Nat.le_of_ble_eq_true rfl) ⟨_, _, _, rfl, rfl, rfl⟩ ?_
          rintro _ rfl
          refine rRun hG 80 ?_
          refine And.intro rfl (And.intro ⟨rfl, by exact Nat.le_of_ble_eq_true rfl, by first | exact True.intro | exact Or.inl rfl | exact Or.inr rfl⟩ (?_))
          refine ih (xInc (itmW x s)) (itmS x s) (XOM_itm hXx) (TCW_itm hTs) (Nat.lt_of_lt_of_le (msw_itm hXx (by omega)) (Nat.lt_succ_iff.mp hm)) ?_
          rw [← hr9]
          exact (if_pos (by omega)).symm
  refine rRun hG 49 ?_
  refine And.intro ⟨rfl, by exact Nat.le_of_ble_eq_true rfl, by first | exact True.intro | exact Or.inl rfl | exact Or.inr rfl⟩ (And.intro ⟨rfl, by exact Nat.le_of_ble_eq_true rfl, by first | exact True.intro | exact Or.inl rfl | exact Or.inr rfl⟩ (And.intro ⟨rfl, by exact Nat.le_of_ble_eq_true rfl, by first | exact True.intro | exact Or.inl rfl | exact Or.inr rfl⟩ (And.intro ⟨rfl, by exact Nat.le_of_ble_eq_true rfl, by first | exact True.intro | exact Or.inl rfl | exact Or.inr rfl⟩ (And.intro ⟨rfl, by exact Nat.le_of_ble_eq_true rfl, by first | exact True.intro | exact Or.inl rfl | exact Or.inr rfl⟩ (And.intro ⟨rfl, by exact Nat.le_of_ble_eq_true rfl, by first | exact True.intro | exact Or.inl rfl | exact Or.inr rfl⟩ (And.intro ⟨rfl, by exact Nat.le_of_ble_eq_true rfl, by first | exact True.intro | exact Or.inl rfl | exact Or.inr rfl⟩ (And.intro ⟨rfl, by exact Nat.le_of_ble_eq_true rfl, by first | exact True.intro | exact Or.inl rfl | exact Or.inr rfl⟩ (And.intro ⟨rfl, by exact Nat.le_of_ble_eq_true rfl, by first | exact True.intro | exact Or.inl rfl | exact Or.inr rfl⟩ (?_)))))))))
  refine rVV hG (sp_X7_next (mt := mt) (sd := (bgS sd)) (ms := ms) (mg := mg) (mk := mk) (hn := hn) (mh := mh) (tr := tr) (mx := (bgW mx)) (w9 := w9) (t9 := t9) (c9 := c9) (g9 := g9) hXb) rfl rfl lk_X7_100 mf_X7_next (by decide) (Nat.le_of_ble_eq_true rfl) ⟨_, _, _, rfl, rfl, rfl⟩ ?_
  rintro _ rfl
  refine J49 400 (nxM (bgW mx)) (bgS sd) (XOM_nx hXb) hTb ?_ hX9.symm
  have h1 := (XOM_nx hXb).2.1
  have h2 := (XOM_nx hXb).1
  unfold mswX
  split <;> omega
end WALKS
