/-! Odds: rows, the fraction -/
section WALKS
variable {l : Launch}
def orow (t : TD) (lt : FN) (lw day left e r : Int) : Int := if r = 0 then lw else if r ≤ 7 * left then (foldB (fun q => otrn t lt day (e + q) (r - 4 - q)) (-1) 6).1 else 0
def orowIs (f : FN) (V : Int → Int → Int) (n : Nat) : Prop := ∀ a : Nat, a < n → f a = V (((a / 50 : Nat) : Int) - 9) ((a % 50 : Nat) : Int)
theorem orowIs_put {f : FN} {V : Int → Int → Int} {ei j : Nat} (hj : j < 50) (h : orowIs f V (50 * ei + j)) {v : Int} (hv : v = V ((ei : Int) - 9) (j : Int)) : orowIs (mup f (50 * ei + j) v) V (50 * ei + (j + 1)) := by
  intro a ha
  by_cases q : a = 50 * ei + j
  · subst q
    rw [mup_s, hv, show (50 * ei + j) / 50 = ei by omega, show (50 * ei + j) % 50 = j by omega]
  · rw [mup_n q]; exact h a (by omega)
set_option maxRecDepth 20000 in
set_option maxHeartbeats 1500000 in
theorem sp_X1_fillRow {uo : UD} {ux : XD} {ua ub : TD} {v0 v1 v2 : SD} {up : PD} {kO : Bool} {hr lt : FN} {un lw pa : Int} {ur : HD} {k : Bool} {t : TD} (ht : t = tsel k ua ub) {day left : Int} (hT : TOK t) (h1 : 0 ≤ day ∧ day ≤ 100) (h2 : 0 ≤ left ∧ left ≤ 100) (hg : 1 ≤ left → ∀ e r, -1 ≤ otrn t lt day e r ∧ otrn t lt day e r ≤ 2000000000) : SpV l 5 yX1_fillRow cX1_fillRow 7 none [mr 20, mr (tix k), mi day, mi left] (hC uo ux ua ub v0 v1 v2 up (kO, hr, lt, un, lw, pa) ur) (fun h => ∃ (h9 : FN) (p9 : Int), orowIs h9 (orow t lt lw day left) 950 ∧ h = hC uo ux ua ub v0 v1 v2 up (kO, h9, lt, un, lw, p9) ur) := by
  refine SpV.of (cd := kdX1_fillRow) (fT := mlook flX1) (kT := mlook klX1) (kJ := mlook jlX1) mfA_X1_fillRow ok_X1_fillRow fT_X1 kT_X1 jT_X1 jdk_ok True.intro (Nat.le_of_ble_eq_true rfl) (fun G hG => ?_)
  have J25 : ∀ (ei : Nat), ei < 19 → (∀ (h8 : FN) (pa8 : Int), orowIs h8 (orow t lt lw day left) (50 * (ei + 1)) → G 81 [some (mr 20), some (mr (tix k)), some (mi day), some (mi left), some (mi ((ei : Int) - 9)), none, none] [] (hC uo ux ua ub v0 v1 v2 up (kO, h8, lt, un, lw, pa8) ur)) → ∀ (n j : Nat) (h8 : FN) (pa8 : Int), orowIs h8 (orow t lt lw day left) (50 * ei + j) → 1 ≤ j → j ≤ 50 → 50 - j < n → G 25 [some (mr 20), some (mr (tix k)), some (mi day), some (mi left), some (mi ((ei : Int) - 9)), some (mi (j : Int)), none] [] (hC uo ux ua ub v0 v1 v2 up (kO, h8, lt, un, lw, pa8) ur) := by
    intro ei hei hcont n
    induction n with
    | zero => intro j h8 pa8 _ _ _ hm; exact absurd hm (Nat.not_lt_zero _)
    | succ n ih =>
      intro j h8 pa8 hrow hj1 hj hm
      refine rRun hG 81 ?_
      refine And.intro (by first | omega | (dsimp only; omega)) (And.intro (fun c1 => ?_) (fun c1 => ?_))
      · try dsimp only at c1
        obtain rfl : j = 50 := by omega
        refine rLess hG ?_ (hcont h8 pa8 (by rw [show 50 * (ei + 1) = 50 * ei + 50 by omega]; exact hrow))
        exact ⟨rfl, rfl, rfl, rfl, rfl, True.intro⟩
      · try dsimp only at c1
        refine And.intro (by first | omega | (dsimp only; omega)) (And.intro (fun cr => ?_) (fun cr => ?_))
        · try dsimp only at cr
          refine rRun hG 81 ?_
          refine And.intro (by first | omega | (dsimp only; omega)) (And.intro (fun cf => ?_) (fun cf => ?_))
          · try dsimp only at cf
            refine rRun hG 81 ?_
            refine rVV hG (sp_X1_put (uo := uo) (ux := ux) (ua := ua) (ub := ub) (v0 := v0) (v1 := v1) (v2 := v2) (up := up) (ur := ur) (kO := kO) (hr := h8) (lt := lt) (un := un) (lw := lw) (pa := pa8) (e := ((ei : Int) - 9)) (w := (j : Int)) (v := 0) (by omega) (by omega)) rfl rfl lk_X1_68 mf_X1_put (by decide) (Nat.le_of_ble_eq_true rfl) ⟨_, _, _, rfl, rfl, rfl⟩ ?_
            rintro _ rfl
            rw [if_pos (by omega), show ((((ei : Int) - 9) + 9) * 50 + (j : Int)).toNat = 50 * ei + j by omega]
            refine rRun hG 81 ?_
            refine rLess hG ?_ (ih (j + 1) (mup h8 (50 * ei + j) (0)) pa8 (orowIs_put (by omega) hrow ?_) (by omega) (by omega) (by omega))
            · exact ⟨rfl, rfl, rfl, rfl, rfl, rfl, True.intro⟩
            · unfold orow; rw [if_neg (by omega), if_neg (by omega)]
          · try dsimp only at cf
            refine rV hG (sp_X1_best (uo := uo) (ux := ux) (ua := ua) (ub := ub) (v0 := v0) (v1 := v1) (v2 := v2) (up := up) (ur := ur) (kO := kO) (hr := h8) (lt := lt) (un := un) (lw := lw) (pa := pa8) (k := k) (t := t) ht (day := day) (e := ((ei : Int) - 9)) (w := (j : Int)) hT h1 (by omega) (by omega) (hg (by omega))) rfl rfl lk_X1_61 mf_X1_best (by decide) (Nat.le_of_ble_eq_true rfl) ⟨_, _, _, rfl, rfl, rfl⟩ ?_
            rintro _ _ ⟨rfl, rfl⟩
            refine rRun hG 81 ?_
            refine rVV hG (sp_X1_put (uo := uo) (ux := ux) (ua := ua) (ub := ub) (v0 := v0) (v1 := v1) (v2 := v2) (up := up) (ur := ur) (kO := kO) (hr := h8) (lt := lt) (un := un) (lw := lw) (pa := (obp pa8 (foldB (fun q => otrn t lt day (((ei : Int) - 9) + q) ((j : Int) - 4 - q)) (-1) 6))) (e := ((ei : Int) - 9)) (w := (j : Int)) (v := (foldB (fun q => otrn t lt day (((ei : Int) - 9) + q) ((j : Int) - 4 - q)) (-1) 6).1) (by omega) (by omega)) rfl rfl lk_X1_68 mf_X1_put (by decide) (Nat.le_of_ble_eq_true rfl) ⟨_, _, _, rfl, rfl, rfl⟩ ?_
            rintro _ rfl
            rw [if_pos (by omega), show ((((ei : Int) - 9) + 9) * 50 + (j : Int)).toNat = 50 * ei + j by omega]
            refine rRun hG 81 ?_
            refine rLess hG ?_ (ih (j + 1) (mup h8 (50 * ei + j) ((foldB (fun q => otrn t lt day (((ei : Int) - 9) + q) ((j : Int) - 4 - q)) (-1) 6).1)) (obp pa8 (foldB (fun q => otrn t lt day (((ei : Int) - 9) + q) ((j : Int) - 4 - q)) (-1) 6)) (orowIs_put (by omega) hrow ?_) (by omega) (by omega) (by omega))
            · exact ⟨rfl, rfl, rfl, rfl, rfl, rfl, True.intro⟩
            · unfold orow; rw [if_neg (by omega), if_pos (by omega)]
        · try dsimp only at cr
          refine rRun hG 81 ?_
          refine And.intro (by first | omega | (dsimp only; omega)) (And.intro (fun cf => ?_) (fun cf => ?_))
          · try dsimp only at cf
            refine rRun hG 81 ?_
            refine rVV hG (sp_X1_put (uo := uo) (ux := ux) (ua := ua) (ub := ub) (v0 := v0) (v1 := v1) (v2 := v2) (up := up) (ur := ur) (kO := kO) (hr := h8) (lt := lt) (un := un) (lw := lw) (pa := pa8) (e := ((ei : Int) - 9)) (w := (j : Int)) (v := 0) (by omega) (by omega)) rfl rfl lk_X1_68 mf_X1_put (by decide) (Nat.le_of_ble_eq_true rfl) ⟨_, _, _, rfl, rfl, rfl⟩ ?_
            rintro _ rfl
            rw [if_pos (by omega), show ((((ei : Int) - 9) + 9) * 50 + (j : Int)).toNat = 50 * ei + j by omega]
            refine rRun hG 81 ?_
            refine rLess hG ?_ (ih (j + 1) (mup h8 (50 * ei + j) (0)) pa8 (orowIs_put (by omega) hrow ?_) (by omega) (by omega) (by omega))
            · exact ⟨rfl, rfl, rfl, rfl, rfl, rfl, True.intro⟩
            · unfold orow; rw [if_neg (by omega), if_neg (by omega)]
          · try dsimp only at cf
            refine rV hG (sp_X1_best (uo := uo) (ux := ux) (ua := ua) (ub := ub) (v0 := v0) (v1 := v1) (v2 := v2) (up := up) (ur := ur) (kO := kO) (hr := h8) (lt := lt) (un := un) (lw := lw) (pa := pa8) (k := k) (t := t) ht (day := day) (e := ((ei : Int) - 9)) (w := (j : Int)) hT h1 (by omega) (by omega) (hg (by omega))) rfl rfl lk_X1_61 mf_X1_best (by decide) (Nat.le_of_ble_eq_true rfl) ⟨_, _, _, rfl, rfl, rfl⟩ ?_
            rintro _ _ ⟨rfl, rfl⟩
            refine rRun hG 81 ?_
            refine rVV hG (sp_X1_put (uo := uo) (ux := ux) (ua := ua) (ub := ub) (v0 := v0) (v1 := v1) (v2 := v2) (up := up) (ur := ur) (kO := kO) (hr := h8) (lt := lt) (un := un) (lw := lw) (pa := (obp pa8 (foldB (fun q => otrn t lt day (((ei : Int) - 9) + q) ((j : Int) - 4 - q)) (-1) 6))) (e := ((ei : Int) - 9)) (w := (j : Int)) (v := (foldB (fun q => otrn t lt day (((ei : Int) - 9) + q) ((j : Int) - 4 - q)) (-1) 6).1) (by omega) (by omega)) rfl rfl lk_X1_68 mf_X1_put (by decide) (Nat.le_of_ble_eq_true rfl) ⟨_, _, _, rfl, rfl, rfl⟩ ?_
            rintro _ rfl
            rw [if_pos (by omega), show ((((ei : Int) - 9) + 9) * 50 + (j : Int)).toNat = 50 * ei + j by omega]
            refine rRun hG 81 ?_
            refine rLess hG ?_ (ih (j + 1) (mup h8 (50 * ei + j) ((foldB (fun q => otrn t lt day (((ei : Int) - 9) + q) ((j : Int) - 4 - q)) (-1) 6).1)) (obp pa8 (foldB (fun q => otrn t lt day (((ei : Int) - 9) + q) ((j : Int) - 4 - q)) (-1) 6)) (orowIs_put (by omega) hrow ?_) (by omega) (by omega) (by omega))
            · exact ⟨rfl, rfl, rfl, rfl, rfl, rfl, True.intro⟩
            · unfold orow; rw [if_neg (by omega), if_pos (by omega)]
  have J4 : ∀ (n ei : Nat) (h8 : FN) (pa8 : Int), orowIs h8 (orow t lt lw day left) (50 * ei) → ei ≤ 19 → 19 - ei < n → G 4 [some (mr 20), some (mr (tix k)), some (mi day), some (mi left), some (mi ((ei : Int) - 9)), none, none] [] (hC uo ux ua ub v0 v1 v2 up (kO, h8, lt, un, lw, pa8) ur) := by
    intro n
    induction n with
    | zero => intro ei h8 pa8 _ _ hm; exact absurd hm (Nat.not_lt_zero _)
    | succ n ih =>
      intro ei h8 pa8 hrow hei hm
      have J81 : ei < 19 → ∀ (h8 : FN) (pa8 : Int), orowIs h8 (orow t lt lw day left) (50 * (ei + 1)) → G 81 [some (mr 20), some (mr (tix k)), some (mi day), some (mi left), some (mi ((ei : Int) - 9)), none, none] [] (hC uo ux ua ub v0 v1 v2 up (kO, h8, lt, un, lw, pa8) ur) := by
        intro hei2 h8 pa8 hr8
        refine rRun hG 99999 ?_
        refine rLess hG ?_ (ih (ei + 1) h8 pa8 hr8 (by omega) (by omega))
        exact ⟨rfl, rfl, rfl, rfl, congrArg mi (by omega), True.intro⟩
      refine rRun hG 25 ?_
      refine And.intro (by first | omega | (dsimp only; omega)) (And.intro (fun c1 => ?_) (fun c1 => ?_))
      · try dsimp only at c1
        refine rVR hG rfl rfl rfl ?_
        obtain rfl : ei = 19 := by omega
        exact ⟨h8, pa8, hrow, rfl⟩
      · try dsimp only at c1
        refine And.intro rfl (?_)
        refine rVV hG (sp_X1_put (uo := uo) (ux := ux) (ua := ua) (ub := ub) (v0 := v0) (v1 := v1) (v2 := v2) (up := up) (ur := ur) (kO := kO) (hr := h8) (lt := lt) (un := un) (lw := lw) (pa := pa8) (e := ((ei : Int) - 9)) (w := 0) (v := lw) (by omega) (by omega)) rfl rfl lk_X1_68 mf_X1_put (by decide) (Nat.le_of_ble_eq_true rfl) ⟨_, _, _, rfl, rfl, rfl⟩ ?_
        rintro _ rfl
        rw [if_pos (by omega), show ((((ei : Int) - 9) + 9) * 50 + 0).toNat = 50 * ei + 0 by omega]
        refine rRun hG 25 ?_
        refine rLess hG ?_ (J25 ei (by omega) (fun h8 pa8 q => J81 (by omega) h8 pa8 q) 50 1 (mup h8 (50 * ei + 0) lw) pa8 (orowIs_put (by omega) hrow (if_pos rfl).symm) (by omega) (by omega) (by omega))
        exact ⟨rfl, rfl, rfl, rfl, rfl, rfl, True.intro⟩
  refine rRun hG 4 ?_
  exact rLess hG (L' := [some (mr 20), some (mr (tix k)), some (mi day), some (mi left), some (mi (((0 : Nat) : Int) - 9)), none, none]) ⟨rfl, rfl, rfl, rfl, rfl, True.intro⟩ (J4 20 0 hr pa (fun a ha => absurd ha (Nat.not_lt_zero _)) (by omega) (by omega))
def red2 (r : Int × Int) : Int × Int := if r.1 % 2 = 0 ∧ r.2 % 2 = 0 then (r.1 / 2, r.2 / 2) else r
def red5 (r : Int × Int) : Int × Int := if r.1 % 5 = 0 ∧ r.2 % 5 = 0 then (r.1 / 5, r.2 / 5) else r
def redN : Nat → Int × Int → Int × Int
  | 0, r => r
  | n + 1, r => red5 (red2 (redN n r))
def rIn (r : Int × Int) : Prop := (0 ≤ r.1 ∧ r.1 ≤ 2000000000) ∧ 1 ≤ r.2 ∧ r.2 ≤ 2000000000
theorem rIn_2 {r : Int × Int} (h : rIn r) : rIn (red2 r) := by
  obtain ⟨h1, h2⟩ := id h
  unfold red2
  split
  · exact ⟨(by show 0 ≤ r.1 / 2 ∧ r.1 / 2 ≤ 2000000000; omega), (by show 1 ≤ r.2 / 2 ∧ r.2 / 2 ≤ 2000000000; omega)⟩
  · exact h
theorem rIn_5 {r : Int × Int} (h : rIn r) : rIn (red5 r) := by
  obtain ⟨h1, h2⟩ := id h
  unfold red5
  split
  · exact ⟨(by show 0 ≤ r.1 / 5 ∧ r.1 / 5 ≤ 2000000000; omega), (by show 1 ≤ r.2 / 5 ∧ r.2 / 5 ≤ 2000000000; omega)⟩
  · exact h
theorem rIn_N {r : Int × Int} (h : rIn r) : ∀ n, rIn (redN n r)
  | 0 => h
  | n + 1 => rIn_5 (rIn_2 (rIn_N h n))
set_option maxRecDepth 20000 in
set_option maxHeartbeats 800000 in
theorem sp_X1_reduce {uo : UD} {ux : XD} {ua ub : TD} {v0 v1 v2 : SD} {up : PD} {kO : Bool} {hr lt : FN} {un lw pa : Int} {ur : HD}  (hr9 : rIn (un, lw)) : SpV l 1 yX1_reduce cX1_reduce 2 none [mr 20] (hC uo ux ua ub v0 v1 v2 up (kO, hr, lt, un, lw, pa) ur) (fun h => h = hC uo ux ua ub v0 v1 v2 up (kO, hr, lt, (redN 8 (un, lw)).1, (redN 8 (un, lw)).2, pa) ur) := by
  refine SpV.of (cd := kdX1_reduce) (fT := mlook flX1) (kT := mlook klX1) (kJ := mlook jlX1) mfA_X1_reduce ok_X1_reduce fT_X1 kT_X1 jT_X1 jdk_ok True.intro (Nat.le_of_ble_eq_true rfl) (fun G hG => ?_)
  have J46 : ∀ (i : Nat), i < 8 → (G 84 [some (mr 20), some (mi (i : Int))] [] (hC uo ux ua ub v0 v1 v2 up (kO, hr, lt, (red5 (red2 (redN i (un, lw)))).1, (red5 (red2 (redN i (un, lw)))).2, pa) ur)) → G 46 [some (mr 20), some (mi (i : Int))] [] (hC uo ux ua ub v0 v1 v2 up (kO, hr, lt, (red2 (redN i (un, lw))).1, (red2 (redN i (un, lw))).2, pa) ur) := by
    intro i hi hc
    have hq := rIn_2 (rIn_N hr9 i)
    have hq1 := hq.1
    have hq2 := hq.2
    refine rRun hG 84 ?_
    refine And.intro rfl (And.intro (by first | omega | (dsimp only; omega)) (And.intro (by first | omega | (dsimp only; omega)) (And.intro (fun c1 => ?_) (fun c1 => ?_))))
    · try dsimp only at c1
      first | (rw [show red5 (red2 (redN i (un, lw))) = _ from if_pos (by omega)] at hc; exact hc) | (rw [show red5 (red2 (redN i (un, lw))) = red2 (redN i (un, lw)) from if_neg (by omega)] at hc; exact hc)
    · try dsimp only at c1
      refine And.intro rfl (And.intro (by first | omega | (dsimp only; omega)) (And.intro (by first | omega | (dsimp only; omega)) (And.intro (fun c2 => ?_) (fun c2 => ?_))))
      · try dsimp only at c2
        first | (rw [show red5 (red2 (redN i (un, lw))) = _ from if_pos (by omega)] at hc; exact hc) | (rw [show red5 (red2 (redN i (un, lw))) = red2 (redN i (un, lw)) from if_neg (by omega)] at hc; exact hc)
      · try dsimp only at c2
        refine And.intro rfl (And.intro (by first | omega | (dsimp only; omega)) (And.intro ⟨rfl, by exact Nat.le_of_ble_eq_true rfl, by first | exact True.intro | exact Or.inl rfl | exact Or.inr rfl⟩ (And.intro rfl (And.intro (by first | omega | (dsimp only; omega)) (And.intro ⟨rfl, by exact Nat.le_of_ble_eq_true rfl, by first | exact True.intro | exact Or.inl rfl | exact Or.inr rfl⟩ (?_))))))
        first | (rw [show red5 (red2 (redN i (un, lw))) = _ from if_pos (by omega)] at hc; exact hc) | (rw [show red5 (red2 (redN i (un, lw))) = red2 (redN i (un, lw)) from if_neg (by omega)] at hc; exact hc)
  have J2 : ∀ (n i : Nat), i ≤ 8 → 8 - i < n → G 2 [some (mr 20), some (mi (i : Int))] [] (hC uo ux ua ub v0 v1 v2 up (kO, hr, lt, (redN i (un, lw)).1, (redN i (un, lw)).2, pa) ur) := by
    intro n
    induction n with
    | zero => intro i _ hm; exact absurd hm (Nat.not_lt_zero _)
    | succ n ih =>
      intro i hi hm
      have hq := rIn_N hr9 i
      have hq1 := hq.1
      have hq2 := hq.2
      have J84 : i < 8 → G 84 [some (mr 20), some (mi (i : Int))] [] (hC uo ux ua ub v0 v1 v2 up (kO, hr, lt, (red5 (red2 (redN i (un, lw)))).1, (red5 (red2 (redN i (un, lw)))).2, pa) ur) := by
        intro hi8
        refine rRun hG 99999 ?_
        exact ih (i + 1) (by omega) (by omega)
      refine rRun hG 46 ?_
      refine And.intro (by first | omega | (dsimp only; omega)) (And.intro (fun c1 => ?_) (fun c1 => ?_))
      · try dsimp only at c1
        refine rVR hG rfl rfl rfl ?_
        obtain rfl : i = 8 := by omega
        rfl
      · try dsimp only at c1
        refine And.intro rfl (And.intro (by first | omega | (dsimp only; omega)) (And.intro (by first | omega | (dsimp only; omega)) (And.intro (fun c2 => ?_) (fun c2 => ?_))))
        · try dsimp only at c2
          have J := J46 i (by omega) (J84 (by omega))
          first | (rw [show red2 (redN i (un, lw)) = _ from if_pos (by omega)] at J; exact J) | (rw [show red2 (redN i (un, lw)) = redN i (un, lw) from if_neg (by omega)] at J; exact J)
        · try dsimp only at c2
          refine And.intro rfl (And.intro (by first | omega | (dsimp only; omega)) (And.intro (by first | omega | (dsimp only; omega)) (And.intro (fun c3 => ?_) (fun c3 => ?_))))
          · try dsimp only at c3
            have J := J46 i (by omega) (J84 (by omega))
            first | (rw [show red2 (redN i (un, lw)) = _ from if_pos (by omega)] at J; exact J) | (rw [show red2 (redN i (un, lw)) = redN i (un, lw) from if_neg (by omega)] at J; exact J)
          · try dsimp only at c3
            refine And.intro rfl (And.intro (by first | omega | (dsimp only; omega)) (And.intro ⟨rfl, by exact Nat.le_of_ble_eq_true rfl, by first | exact True.intro | exact Or.inl rfl | exact Or.inr rfl⟩ (And.intro rfl (And.intro (by first | omega | (dsimp only; omega)) (And.intro ⟨rfl, by exact Nat.le_of_ble_eq_true rfl, by first | exact True.intro | exact Or.inl rfl | exact Or.inr rfl⟩ (?_))))))
            have J := J46 i (by omega) (J84 (by omega))
            first | (rw [show red2 (redN i (un, lw)) = _ from if_pos (by omega)] at J; exact J) | (rw [show red2 (redN i (un, lw)) = redN i (un, lw) from if_neg (by omega)] at J; exact J)
  refine rRun hG 2 ?_
  exact J2 9 0 (by omega) (by omega)
end WALKS
