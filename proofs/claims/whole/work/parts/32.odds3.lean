/-! Odds: weigh -/
section WALKS
variable {l : Launch}
def ovl (V : Int → Int → Int) (e r : Int) : Int := if 0 ≤ r ∧ r < 50 ∧ -9 ≤ e ∧ e ≤ 9 then V e r else 0
def sunA (t : TD) (day : Int) : Int := if 0 ≤ day ∧ day < tDay t ∧ day < 14 then tSun t day.toNat else -1
def otV (t : TD) (V : Int → Int → Int) (day e r : Int) : Int :=
  if e < -9 ∨ 9 < e then -1
  else if max e (-e) ≤ tLim t then 10 * ovl V e (max 0 r)
  else sunA t day * ovl V 0 (min 99 (max 0 r + tAdd t)) + (10 - sunA t day) * ovl V e (max 0 r)
def OV (t : TD) (mo : FN) (n : Int) : Nat → Int → Int → Int
  | 0, _, r => if r = 0 then 1 else 0
  | j + 1, e, r => if r = 0 then (10 : Int) ^ (j + 1) else if r ≤ 7 * ((j : Int) + 1) then (foldB (fun q => otV t (OV t mo n j) (mo 0 + n - ((j : Int) + 1)) (e + q) (r - 4 - q)) (-1) 6).1 else 0
theorem olat_V {f : FN} {V : Int → Int → Int} (h : orowIs f V 950) {e r : Int} : olat f e r = ovl V e r := by
  unfold olat ovl
  by_cases q : 0 ≤ r ∧ r < 50 ∧ -9 ≤ e ∧ e ≤ 9
  · rw [if_pos (by omega), if_pos q, h _ (by omega)]
    congr 1 <;> omega
  · rw [if_neg (by omega), if_neg q]
theorem otrn_V {t : TD} {f : FN} {V : Int → Int → Int} (h : orowIs f V 950) {day e r : Int} : otrn t f day e r = otV t V day e r := by
  unfold otrn otV
  rw [olat_V h, olat_V h]; rfl
theorem foldB_ge {g : Int → Int} {b0 : Int} : ∀ (n i : Nat), i < n → g ((i : Int) - 2) ≤ (foldB g b0 n).1
  | 0, i, h => absurd h (Nat.not_lt_zero _)
  | n + 1, i, h => by
    rw [foldB_s]
    by_cases q : i = n
    · subst q
      split
      · exact Int.le_refl _
      · omega
    · have ih := foldB_ge (g := g) (b0 := b0) n i (by omega)
      split
      · rename_i w; exact Int.le_trans ih (Int.le_of_lt w)
      · exact ih
theorem foldB_pc {g : Int → Int} {b0 : Int} : ∀ (n : Nat), (foldB g b0 n).2 = -9 → (foldB g b0 n).1 = b0
  | 0, _ => rfl
  | n + 1, h => by
    rw [foldB_s] at h ⊢
    by_cases q : (foldB g b0 n).1 < g ((n : Int) - 2)
    · rw [if_pos q] at h
      have h2 : (n : Int) - 2 = -9 := h
      omega
    · rw [if_neg q] at h ⊢
      exact foldB_pc n h
theorem ovl_in {V : Int → Int → Int} {M : Int} (hM : 0 ≤ M) (h : ∀ e r, -9 ≤ e ∧ e ≤ 9 → 0 ≤ V e r ∧ V e r ≤ M) (e r : Int) : 0 ≤ ovl V e r ∧ ovl V e r ≤ M := by
  unfold ovl
  split
  · exact h e r (by omega)
  · omega
theorem mix_in {s A B M : Int} (hs : 0 ≤ s ∧ s ≤ 10) (hA : 0 ≤ A ∧ A ≤ M) (hB : 0 ≤ B ∧ B ≤ M) : 0 ≤ s * A + (10 - s) * B ∧ s * A + (10 - s) * B ≤ 10 * M := by
  have h1 := Int.mul_nonneg hs.1 hA.1
  have h2 := Int.mul_nonneg (show (0 : Int) ≤ 10 - s by omega) hB.1
  have h3 := Int.mul_le_mul_of_nonneg_left hA.2 hs.1
  have h4 := Int.mul_le_mul_of_nonneg_left hB.2 (show (0 : Int) ≤ 10 - s by omega)
  have h5 : s * M + (10 - s) * M = 10 * M := by rw [← Int.add_mul]; congr 1; omega
  omega
theorem otV_in {t : TD} (hT : TOK t) {V : Int → Int → Int} {M : Int} (hM : 0 ≤ M) (h : ∀ e r, -9 ≤ e ∧ e ≤ 9 → 0 ≤ V e r ∧ V e r ≤ M) {day : Int} (hd : 0 ≤ day ∧ day < tDay t) (e r : Int) : -1 ≤ otV t V day e r ∧ otV t V day e r ≤ 10 * M ∧ (-9 ≤ e ∧ e ≤ 9 → 0 ≤ otV t V day e r) := by
  have ha := ovl_in hM h e (max 0 r)
  have hb := ovl_in hM h 0 (min 99 (max 0 r + tAdd t))
  have hT1 := hT.1
  have hs : 0 ≤ sunA t day ∧ sunA t day ≤ 10 := by
    unfold sunA
    rw [if_pos (by omega)]
    exact hT.2.2.2.2.2.2.1 day.toNat (by omega)
  have hm := mix_in hs hb ha
  unfold otV
  split
  · omega
  · split
    · omega
    · omega
theorem ten_in : ∀ j : Nat, j ≤ 8 → (1 : Int) ≤ 10 ^ j ∧ (10 : Int) ^ j ≤ 100000000 := by decide
theorem OV_in {t : TD} {mo : FN} {n : Int} (hT : TOK t) (h0 : 0 ≤ mo 0) (hn : mo 0 + n ≤ tDay t) : ∀ (j : Nat), j ≤ 8 → (j : Int) ≤ n → ∀ (e r : Int), -9 ≤ e ∧ e ≤ 9 → 0 ≤ OV t mo n j e r ∧ OV t mo n j e r ≤ 10 ^ j
  | 0, _, _, e, r, _ => by
    show 0 ≤ (if r = 0 then 1 else 0) ∧ (if r = 0 then 1 else 0) ≤ (1 : Int)
    split <;> omega
  | j + 1, hj, hjn, e, r, he => by
    have ih := OV_in hT h0 hn j (by omega) (by omega)
    have hp := ten_in j (by omega)
    have h10 : (10 : Int) ^ (j + 1) = 10 * 10 ^ j := by rw [Int.pow_succ, Int.mul_comm]
    have hg := otV_in hT (V := OV t mo n j) (by omega) ih (day := mo 0 + n - ((j : Int) + 1)) (by omega)
    show 0 ≤ (if r = 0 then (10 : Int) ^ (j + 1) else if r ≤ 7 * ((j : Int) + 1) then (foldB (fun q => otV t (OV t mo n j) (mo 0 + n - ((j : Int) + 1)) (e + q) (r - 4 - q)) (-1) 6).1 else 0) ∧ (if r = 0 then (10 : Int) ^ (j + 1) else if r ≤ 7 * ((j : Int) + 1) then (foldB (fun q => otV t (OV t mo n j) (mo 0 + n - ((j : Int) + 1)) (e + q) (r - 4 - q)) (-1) 6).1 else 0) ≤ 10 ^ (j + 1)
    by_cases q : r = 0
    · rw [if_pos q]; omega
    · rw [if_neg q]
      by_cases q2 : r ≤ 7 * ((j : Int) + 1)
      · rw [if_pos q2]
        have hf := foldB_in (g := fun q => otV t (OV t mo n j) (mo 0 + n - ((j : Int) + 1)) (e + q) (r - 4 - q)) (b0 := -1) (M := 10 * 10 ^ j) (by omega) (fun p => (hg _ _).2.1) 6
        have hz := foldB_ge (g := fun q => otV t (OV t mo n j) (mo 0 + n - ((j : Int) + 1)) (e + q) (r - 4 - q)) (b0 := -1) 6 2 (by omega)
        have h0 := (hg (e + (((2 : Nat) : Int) - 2)) (r - 4 - (((2 : Nat) : Int) - 2))).2.2 (by omega)
        omega
      · rw [if_neg q2]; omega
/-- what a weighing answers: the upper, the lower number, the pace -/
def wghF (t : TD) (mo : FN) (dn : Int) : Int × Int := foldB (fun q => otV t (OV t mo dn (dn.toNat - 1)) (mo 0) (mo 2 + q) (mo 1 - 4 - q)) (-1) 6
def wghR (t : TD) (mo : FN) (dn : Int) : Int × Int := if mo 1 = 0 then (1, 1) else if dn ≤ 0 then (0, 1) else redN 8 ((wghF t mo dn).1, 10 ^ dn.toNat)
def wghP (t : TD) (mo : FN) (dn : Int) : Int := if mo 1 = 0 ∨ dn ≤ 0 then -9 else (wghF t mo dn).2
set_option maxRecDepth 20000 in
set_option maxHeartbeats 2000000 in
theorem sp_X1_weigh {uo : UD} {ux : XD} {ua ub : TD} {mo : FN} {kn kp : Int} {v1 v2 : SD} {up : PD} {kO : Bool} {hr lt : FN} {un lw pa : Int} {ur : HD} {k : Bool} {t : TD} (ht : t = tsel k ua ub) {n9 : Int} (hT : TOK t) (hn : 0 ≤ n9 ∧ n9 ≤ 8) (hd : 0 ≤ tDay t - mo 0) (hm0 : 0 ≤ mo 0 ∧ mo 0 ≤ 14) (hm1 : 0 ≤ mo 1 ∧ mo 1 ≤ 99) (hm2 : -9 ≤ mo 2 ∧ mo 2 ≤ 9) : SpV l 6 yX1_weigh cX1_weigh 6 none [mr 20, mr (tix k), mr 11, mi n9] (hC uo ux ua ub (mo, kn, kp) v1 v2 up (kO, hr, lt, un, lw, pa) ur) (fun h => ∃ (k9 : Bool) (h9 l9 : FN), h = hC uo ux ua ub (mo, kn, kp) v1 v2 up (k9, h9, l9, (wghR t mo (min n9 (tDay t - mo 0))).1, (wghR t mo (min n9 (tDay t - mo 0))).2, wghP t mo (min n9 (tDay t - mo 0))) ur) := by
  have hT1 := hT.1
  refine SpV.of (cd := kdX1_weigh) (fT := mlook flX1) (kT := mlook klX1) (kJ := mlook jlX1) mfA_X1_weigh ok_X1_weigh fT_X1 kT_X1 jT_X1 jdk_ok True.intro (Nat.le_of_ble_eq_true rfl) (fun G hG => ?_)
  have J106 : ∀ (k9 : Bool) (h9 l9 : FN) (p9 : Int), ¬ mo 1 = 0 → 0 < (min n9 (tDay t - mo 0)) → orowIs h9 (OV t mo (min n9 (tDay t - mo 0)) ((min n9 (tDay t - mo 0)).toNat - 1)) 950 → G 106 [some (mr 20), some (mr (tix k)), some (mr 11), some (mi n9), some (mi (min n9 (tDay t - mo 0))), none] [] (hC uo ux ua ub (mo, kn, kp) v1 v2 up (k9, h9, l9, 0, (10 ^ ((min n9 (tDay t - mo 0)).toNat - 1)), p9) ur) := by
    intro k9 h9 l9 p9 hm1z hdz hrow
    have hV := OV_in hT hm0.1 (n := (min n9 (tDay t - mo 0))) (by omega) ((min n9 (tDay t - mo 0)).toNat - 1) (by omega) (by omega)
    have hp := ten_in ((min n9 (tDay t - mo 0)).toNat - 1) (by omega)
    have hg := fun e r => otV_in hT (by omega) hV (day := mo 0) (by omega) e r
    have hg2 : ∀ e r, -1 ≤ otrn t h9 (mo 0) e r ∧ otrn t h9 (mo 0) e r ≤ 2000000000 := fun e r => by rw [otrn_V hrow]; have := hg e r; omega
    have h10 : (10 : Int) ^ ((min n9 (tDay t - mo 0)).toNat - 1) * 10 = 10 ^ (min n9 (tDay t - mo 0)).toNat := by rw [← Int.pow_succ]; congr 1; omega
    have eF : foldB (fun q => otrn t h9 (mo 0) (mo 2 + q) (mo 1 - 4 - q)) (-1) = foldB (fun q => otV t (OV t mo (min n9 (tDay t - mo 0)) ((min n9 (tDay t - mo 0)).toNat - 1)) (mo 0) (mo 2 + q) (mo 1 - 4 - q)) (-1) := foldB_cong (fun q => otrn_V hrow)
    have hf := foldB_in (g := fun q => otV t (OV t mo (min n9 (tDay t - mo 0)) ((min n9 (tDay t - mo 0)).toNat - 1)) (mo 0) (mo 2 + q) (mo 1 - 4 - q)) (b0 := -1) (M := 10 * 10 ^ ((min n9 (tDay t - mo 0)).toNat - 1)) (by omega) (fun p => (hg _ _).2.1) 6
    have hz := foldB_ge (g := fun q => otV t (OV t mo (min n9 (tDay t - mo 0)) ((min n9 (tDay t - mo 0)).toNat - 1)) (mo 0) (mo 2 + q) (mo 1 - 4 - q)) (b0 := -1) 6 2 (by omega)
    have h0 := (hg (mo 2 + (((2 : Nat) : Int) - 2)) (mo 1 - 4 - (((2 : Nat) : Int) - 2))).2.2 (by omega)
    have hpc : ¬ (wghF t mo (min n9 (tDay t - mo 0))).2 = -9 := fun q => by have q2 := foldB_pc 6 q; omega
    have hob : obp p9 (wghF t mo (min n9 (tDay t - mo 0))) = (wghF t mo (min n9 (tDay t - mo 0))).2 := if_neg hpc
    refine rRun hG 99999 ?_
    refine rVV hG (sp_X1_swapRows (uo := uo) (ux := ux) (ua := ua) (ub := ub) (v0 := (mo, kn, kp)) (v1 := v1) (v2 := v2) (up := up) (ur := ur) (kO := k9) (hr := h9) (lt := l9) (un := 0) (lw := (10 ^ ((min n9 (tDay t - mo 0)).toNat - 1))) (pa := p9)) rfl rfl lk_X1_48 mf_X1_swapRows (by decide) (Nat.le_of_ble_eq_true rfl) ⟨_, _, _, rfl, rfl, rfl⟩ ?_
    rintro _ rfl
    refine rRun hG 99999 ?_
    refine And.intro rfl (And.intro ⟨rfl, by exact Nat.le_of_ble_eq_true rfl, by first | exact True.intro | exact Or.inl rfl | exact Or.inr rfl⟩ (?_))
    refine rV hG (sp_X3_day (uo := uo) (ux := ux) (ua := ua) (ub := ub) (mo := mo) (kn := kn) (kp := kp) (v1 := v1) (v2 := v2) (up := up) (uq := ((!k9), l9, h9, 0, (10 ^ ((min n9 (tDay t - mo 0)).toNat - 1) * 10), p9)) (ur := ur)) rfl rfl lk_X1_51 mf_X3_day (by decide) (Nat.le_of_ble_eq_true rfl) ⟨_, _, _, rfl, rfl, rfl⟩ ?_
    rintro _ _ ⟨rfl, rfl⟩
    refine rRun hG 99999 ?_
    refine rV hG (sp_X3_error (uo := uo) (ux := ux) (ua := ua) (ub := ub) (mo := mo) (kn := kn) (kp := kp) (v1 := v1) (v2 := v2) (up := up) (uq := ((!k9), l9, h9, 0, (10 ^ ((min n9 (tDay t - mo 0)).toNat - 1) * 10), p9)) (ur := ur)) rfl rfl lk_X1_55 mf_X3_error (by decide) (Nat.le_of_ble_eq_true rfl) ⟨_, _, _, rfl, rfl, rfl⟩ ?_
    rintro _ _ ⟨rfl, rfl⟩
    refine rRun hG 99999 ?_
    refine rV hG (sp_X3_rest (uo := uo) (ux := ux) (ua := ua) (ub := ub) (mo := mo) (kn := kn) (kp := kp) (v1 := v1) (v2 := v2) (up := up) (uq := ((!k9), l9, h9, 0, (10 ^ ((min n9 (tDay t - mo 0)).toNat - 1) * 10), p9)) (ur := ur)) rfl rfl lk_X1_58 mf_X3_rest (by decide) (Nat.le_of_ble_eq_true rfl) ⟨_, _, _, rfl, rfl, rfl⟩ ?_
    rintro _ _ ⟨rfl, rfl⟩
    refine rV hG (sp_X1_best (uo := uo) (ux := ux) (ua := ua) (ub := ub) (v0 := (mo, kn, kp)) (v1 := v1) (v2 := v2) (up := up) (ur := ur) (kO := (!k9)) (hr := l9) (lt := h9) (un := 0) (lw := (10 ^ ((min n9 (tDay t - mo 0)).toNat - 1) * 10)) (pa := p9) (k := k) (t := t) ht (day := mo 0) (e := mo 2) (w := mo 1) hT (by omega) (by omega) (by omega) hg2) rfl rfl lk_X1_61 mf_X1_best (by decide) (Nat.le_of_ble_eq_true rfl) ⟨_, _, _, rfl, rfl, rfl⟩ ?_
    rintro _ _ ⟨rfl, rfl⟩
    refine rRun hG 99999 ?_
    refine And.intro ⟨rfl, by exact Nat.le_of_ble_eq_true rfl, by first | exact True.intro | exact Or.inl rfl | exact Or.inr rfl⟩ (?_)
    rw [eF]
    refine rVV hG (sp_X1_reduce (uo := uo) (ux := ux) (ua := ua) (ub := ub) (v0 := (mo, kn, kp)) (v1 := v1) (v2 := v2) (up := up) (ur := ur) (kO := (!k9)) (hr := l9) (lt := h9) (un := (wghF t mo (min n9 (tDay t - mo 0))).1) (lw := (10 ^ ((min n9 (tDay t - mo 0)).toNat - 1) * 10)) (pa := (obp p9 (wghF t mo (min n9 (tDay t - mo 0))))) ⟨⟨by show 0 ≤ (wghF t mo (min n9 (tDay t - mo 0))).1; unfold wghF; omega, by show (wghF t mo (min n9 (tDay t - mo 0))).1 ≤ 2000000000; unfold wghF; omega⟩, (by show 1 ≤ 10 ^ ((min n9 (tDay t - mo 0)).toNat - 1) * 10; omega), (by show 10 ^ ((min n9 (tDay t - mo 0)).toNat - 1) * 10 ≤ 2000000000; omega)⟩) rfl rfl lk_X1_65 mf_X1_reduce (by decide) (Nat.le_of_ble_eq_true rfl) ⟨_, _, _, rfl, rfl, rfl⟩ ?_
    rintro _ rfl
    refine rVR hG rfl rfl rfl ?_
    rw [hob, h10]
    have e1 : wghR t mo (min n9 (tDay t - mo 0)) = redN 8 ((wghF t mo (min n9 (tDay t - mo 0))).1, 10 ^ (min n9 (tDay t - mo 0)).toNat) := by unfold wghR; rw [if_neg hm1z, if_neg (by omega)]
    have e2 : wghP t mo (min n9 (tDay t - mo 0)) = (wghF t mo (min n9 (tDay t - mo 0))).2 := if_neg (by omega)
    rw [e1, e2]
    exact ⟨!k9, l9, h9, rfl⟩
  have J61 : ¬ mo 1 = 0 → ∀ (n j : Nat) (k9 : Bool) (h9 l9 : FN) (p9 : Int), orowIs h9 (OV t mo (min n9 (tDay t - mo 0)) j) 950 → j + 1 ≤ (min n9 (tDay t - mo 0)).toNat → (min n9 (tDay t - mo 0)).toNat - 1 - j < n → G 61 [some (mr 20), some (mr (tix k)), some (mr 11), some (mi n9), some (mi (min n9 (tDay t - mo 0))), some (mi (((j : Nat) : Int) + 1))] [] (hC uo ux ua ub (mo, kn, kp) v1 v2 up (k9, h9, l9, 0, (10 ^ j), p9) ur) := by
    intro hm1z n
    induction n with
    | zero => intro j k9 h9 l9 p9 _ _ hm; exact absurd hm (Nat.not_lt_zero _)
    | succ n ih =>
      intro j k9 h9 l9 p9 hrow hj hm
      have hV := OV_in hT hm0.1 (n := (min n9 (tDay t - mo 0))) (by omega) j (by omega) (by omega)
      have hp := ten_in j (by omega)
      refine rRun hG 106 ?_
      refine And.intro (by first | omega | (dsimp only; omega)) (And.intro (fun cl => ?_) (fun cl => ?_))
      · try dsimp only at cl
        obtain rfl : j = (min n9 (tDay t - mo 0)).toNat - 1 := by omega
        refine rLess hG ?_ (J106 k9 h9 l9 p9 hm1z (by omega) hrow)
        exact ⟨rfl, rfl, rfl, rfl, rfl, True.intro⟩
      · try dsimp only at cl
        refine rVV hG (sp_X1_swapRows (uo := uo) (ux := ux) (ua := ua) (ub := ub) (v0 := (mo, kn, kp)) (v1 := v1) (v2 := v2) (up := up) (ur := ur) (kO := k9) (hr := h9) (lt := l9) (un := 0) (lw := (10 ^ j)) (pa := p9)) rfl rfl lk_X1_48 mf_X1_swapRows (by decide) (Nat.le_of_ble_eq_true rfl) ⟨_, _, _, rfl, rfl, rfl⟩ ?_
        rintro _ rfl
        refine rRun hG 106 ?_
        refine And.intro rfl (And.intro ⟨rfl, by exact Nat.le_of_ble_eq_true rfl, by first | exact True.intro | exact Or.inl rfl | exact Or.inr rfl⟩ (?_))
        refine rV hG (sp_X3_day (uo := uo) (ux := ux) (ua := ua) (ub := ub) (mo := mo) (kn := kn) (kp := kp) (v1 := v1) (v2 := v2) (up := up) (uq := ((!k9), l9, h9, 0, (10 ^ j * 10), p9)) (ur := ur)) rfl rfl lk_X1_51 mf_X3_day (by decide) (Nat.le_of_ble_eq_true rfl) ⟨_, _, _, rfl, rfl, rfl⟩ ?_
        rintro _ _ ⟨rfl, rfl⟩
        refine rRun hG 106 ?_
        have hg := fun e r => otV_in hT (by omega) hV (day := (mo 0 + (min n9 (tDay t - mo 0)) - ((j : Int) + 1))) (by omega) e r
        have hg2 : ∀ e r, -1 ≤ otrn t h9 (mo 0 + (min n9 (tDay t - mo 0)) - ((j : Int) + 1)) e r ∧ otrn t h9 (mo 0 + (min n9 (tDay t - mo 0)) - ((j : Int) + 1)) e r ≤ 2000000000 := fun e r => by rw [otrn_V hrow]; have := hg e r; omega
        refine rVV hG (sp_X1_fillRow (uo := uo) (ux := ux) (ua := ua) (ub := ub) (v0 := (mo, kn, kp)) (v1 := v1) (v2 := v2) (up := up) (ur := ur) (kO := (!k9)) (hr := l9) (lt := h9) (un := 0) (lw := (10 ^ j * 10)) (pa := p9) (k := k) (t := t) ht (day := (mo 0 + (min n9 (tDay t - mo 0)) - ((j : Int) + 1))) (left := (j : Int) + 1) hT (by omega) (by omega) (fun _ => hg2)) rfl rfl lk_X1_44 mf_X1_fillRow (by decide) (Nat.le_of_ble_eq_true rfl) ⟨_, _, _, rfl, rfl, rfl⟩ ?_
        rintro _ ⟨h8, p8, hr8, rfl⟩
        have hr7 : orowIs h8 (OV t mo (min n9 (tDay t - mo 0)) (j + 1)) 950 := by
          intro a ha
          rw [hr8 a ha]
          show (if _ then _ else _) = (if _ then _ else _)
          rw [show foldB (fun q => otrn t h9 (mo 0 + (min n9 (tDay t - mo 0)) - ((j : Int) + 1)) ((((a / 50 : Nat) : Int) - 9) + q) (((a % 50 : Nat) : Int) - 4 - q)) (-1) = _ from foldB_cong (fun q => otrn_V hrow)]
          rw [show (10 : Int) ^ j * 10 = 10 ^ (j + 1) from (Int.pow_succ _ _).symm]
        refine rRun hG 106 ?_
        rw [show (10 : Int) ^ j * 10 = 10 ^ (j + 1) from (Int.pow_succ _ _).symm]
        refine rLess hG ?_ (ih (j + 1) (!k9) h8 h9 p8 hr7 (by omega) (by omega))
        exact ⟨rfl, rfl, rfl, rfl, rfl, congrArg mi (by omega), True.intro⟩
  have J30 : G 30 [some (mr 20), some (mr (tix k)), some (mr 11), some (mi n9), some (mi (min n9 (tDay t - mo 0))), none] [mi (b2i (mo 1 = 0)), mr 20] (hC uo ux ua ub (mo, kn, kp) v1 v2 up (kO, hr, lt, un, lw, -9) ur) := by
    refine rRun hG 61 ?_
    refine And.intro ⟨rfl, by exact Nat.le_of_ble_eq_true rfl, by first | exact True.intro | exact Or.inl rfl | exact Or.inr rfl⟩ (And.intro ⟨rfl, by exact Nat.le_of_ble_eq_true rfl, by first | exact True.intro | exact Or.inl rfl | exact Or.inr rfl⟩ (?_))
    refine rV hG (sp_X3_isFree (uo := uo) (ux := ux) (ua := ua) (ub := ub) (mo := mo) (kn := kn) (kp := kp) (v1 := v1) (v2 := v2) (up := up) (uq := (kO, hr, lt, (b2i (mo 1 = 0)), 1, -9)) (ur := ur) (by omega)) rfl rfl lk_X1_40 mf_X3_isFree (by decide) (Nat.le_of_ble_eq_true rfl) ⟨_, _, _, rfl, rfl, rfl⟩ ?_
    rintro w _ ⟨hw, rfl⟩
    have w1 : (w = 1 ∧ (mo 1 = 0)) ∨ (w = 0 ∧ ¬ (mo 1 = 0)) := (by rw [hw]; by_cases q9 : (mo 1 = 0) <;> simp [q9])
    clear hw
    refine rRun hG 61 ?_
    refine And.intro (by first | omega | (dsimp only; omega)) (And.intro (fun cf => ?_) (fun cf => ?_))
    · try dsimp only at cf
      refine rVR hG rfl rfl rfl ?_
      by_cases q : mo 1 = 0
      · have e1 : wghR t mo (min n9 (tDay t - mo 0)) = (1, 1) := if_pos q
        have e2 : wghP t mo (min n9 (tDay t - mo 0)) = -9 := if_pos (Or.inl q)
        rw [e1, e2, show (b2i (mo 1 = 0)) = 1 from if_pos q]
        exact ⟨kO, hr, lt, rfl⟩
      · have e1 : wghR t mo (min n9 (tDay t - mo 0)) = (0, 1) := by unfold wghR; rw [if_neg q, if_pos (by omega)]
        have e2 : wghP t mo (min n9 (tDay t - mo 0)) = -9 := if_pos (by omega)
        rw [e1, e2, show (b2i (mo 1 = 0)) = 0 from if_neg q]
        exact ⟨kO, hr, lt, rfl⟩
    · try dsimp only at cf
      refine And.intro (by first | omega | (dsimp only; omega)) (And.intro (fun cd => ?_) (fun cd => ?_))
      · try dsimp only at cd
        refine rRun hG 61 ?_
        rw [show (b2i (mo 1 = 0)) = 0 from if_neg (by omega)]
        refine rVV hG (sp_X1_fillRow (uo := uo) (ux := ux) (ua := ua) (ub := ub) (v0 := (mo, kn, kp)) (v1 := v1) (v2 := v2) (up := up) (ur := ur) (kO := kO) (hr := hr) (lt := lt) (un := 0) (lw := 1) (pa := -9) (k := k) (t := t) ht (day := 0) (left := 0) hT (by omega) (by omega) (fun q => absurd q (by decide))) rfl rfl lk_X1_44 mf_X1_fillRow (by decide) (Nat.le_of_ble_eq_true rfl) ⟨_, _, _, rfl, rfl, rfl⟩ ?_
        rintro _ ⟨h8, p8, hr8, rfl⟩
        have hr7 : orowIs h8 (OV t mo (min n9 (tDay t - mo 0)) 0) 950 := by
          intro a ha
          rw [hr8 a ha]
          show (if ((a % 50 : Nat) : Int) = 0 then 1 else if ((a % 50 : Nat) : Int) ≤ 7 * 0 then _ else 0) = (if ((a % 50 : Nat) : Int) = 0 then 1 else 0)
          by_cases q : ((a % 50 : Nat) : Int) = 0
          · rw [if_pos q, if_pos q]
          · rw [if_neg q, if_neg q, if_neg (by omega)]
        refine rRun hG 61 ?_
        refine rLess hG (L' := [some (mr 20), some (mr (tix k)), some (mr 11), some (mi n9), some (mi (min n9 (tDay t - mo 0))), some (mi (((0 : Nat) : Int) + 1))]) ⟨rfl, rfl, rfl, rfl, rfl, rfl, True.intro⟩ (J61 (by omega) _ 0 kO h8 lt p8 hr7 (by omega) (Nat.lt_succ_self _))
      · try dsimp only at cd
        refine rVR hG rfl rfl rfl ?_
        by_cases q : mo 1 = 0
        · have e1 : wghR t mo (min n9 (tDay t - mo 0)) = (1, 1) := if_pos q
          have e2 : wghP t mo (min n9 (tDay t - mo 0)) = -9 := if_pos (Or.inl q)
          rw [e1, e2, show (b2i (mo 1 = 0)) = 1 from if_pos q]
          exact ⟨kO, hr, lt, rfl⟩
        · have e1 : wghR t mo (min n9 (tDay t - mo 0)) = (0, 1) := by unfold wghR; rw [if_neg q, if_pos (by omega)]
          have e2 : wghP t mo (min n9 (tDay t - mo 0)) = -9 := if_pos (by omega)
          rw [e1, e2, show (b2i (mo 1 = 0)) = 0 from if_neg q]
          exact ⟨kO, hr, lt, rfl⟩
  refine rRun hG 30 ?_
  refine rV hG (sp_X3_daysLeft (uo := uo) (ux := ux) (ua := ua) (ub := ub) (mo := mo) (kn := kn) (kp := kp) (v1 := v1) (v2 := v2) (up := up) (uq := (kO, hr, lt, un, lw, pa)) (ur := ur) (k := k) (t := t) ht) rfl rfl lk_X1_28 mf_X3_daysLeft (by decide) (Nat.le_of_ble_eq_true rfl) ⟨_, _, _, rfl, rfl, rfl⟩ ?_
  rintro _ _ ⟨rfl, rfl⟩
  refine rMin hG rfl rfl lk_X1_34 (by decide) (Nat.le_of_ble_eq_true rfl) (by first | omega | (dsimp only; omega)) ?_
  refine rRun hG 30 ?_
  refine And.intro ⟨rfl, by exact Nat.le_of_ble_eq_true rfl, by first | exact True.intro | exact Or.inl rfl | exact Or.inr rfl⟩ (?_)
  refine rV hG (sp_X3_isFree (uo := uo) (ux := ux) (ua := ua) (ub := ub) (mo := mo) (kn := kn) (kp := kp) (v1 := v1) (v2 := v2) (up := up) (uq := (kO, hr, lt, un, lw, -9)) (ur := ur) (by omega)) rfl rfl lk_X1_40 mf_X3_isFree (by decide) (Nat.le_of_ble_eq_true rfl) ⟨_, _, _, rfl, rfl, rfl⟩ ?_
  rintro w _ ⟨hw, rfl⟩
  have w1 : (w = 1 ∧ (mo 1 = 0)) ∨ (w = 0 ∧ ¬ (mo 1 = 0)) := (by rw [hw]; by_cases q9 : (mo 1 = 0) <;> simp [q9])
  clear hw
  refine rRun hG 30 ?_
  refine And.intro (by first | omega | (dsimp only; omega)) (And.intro (fun cf => ?_) (fun cf => ?_))
  · try dsimp only at cf
    refine rRun hG 30 ?_
    first | (rw [show (b2i (mo 1 = 0)) = 1 from if_pos (by omega)] at J30; exact J30) | (rw [show (b2i (mo 1 = 0)) = 0 from if_neg (by omega)] at J30; exact J30)
  · try dsimp only at cf
    first | (rw [show (b2i (mo 1 = 0)) = 1 from if_pos (by omega)] at J30; exact J30) | (rw [show (b2i (mo 1 = 0)) = 0 from if_neg (by omega)] at J30; exact J30)
end WALKS
