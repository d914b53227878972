/-! the chance: rows of fifty rests against the table; the fraction -/
theorem foldB_sw {g g' : Int → Int} {b b' : Int} (h : ∀ p, -2 ≤ p ∧ p ≤ 3 → (g p = g' p ∧ b < g p ∧ b' < g p) ∨ (g p ≤ b ∧ g' p ≤ b')) : ∀ n, n ≤ 6 → (foldB g b n = foldB g' b' n ∧ b < (foldB g b n).1 ∧ b' < (foldB g b n).1) ∨ (foldB g b n = (b, -9) ∧ foldB g' b' n = (b', -9))
  | 0, _ => Or.inr ⟨rfl, rfl⟩
  | n + 1, hn => by
    have q := h ((n : Int) - 2) (by omega)
    rw [foldB_s, foldB_s]
    rcases foldB_sw h n (by omega) with ⟨i1, i2, i3⟩ | ⟨i1, i2⟩
    · rw [← i1]
      rcases q with ⟨q1, q2, q3⟩ | ⟨q1, q2⟩
      · rw [← q1]
        left
        by_cases z : (foldB g b n).1 < g ((n : Int) - 2)
        · rw [if_pos z]; exact ⟨rfl, q2, q3⟩
        · rw [if_neg z]; exact ⟨rfl, i2, i3⟩
      · left
        rw [if_neg (by omega), if_neg (by omega)]; exact ⟨rfl, i2, i3⟩
    · rw [i1, i2]
      rcases q with ⟨q1, q2, q3⟩ | ⟨q1, q2⟩
      · left
        rw [if_pos q2, if_pos (show b' < g' ((n : Int) - 2) by omega), ← q1]; exact ⟨rfl, q2, q3⟩
      · right
        rw [if_neg (show ¬ b < g ((n : Int) - 2) by omega), if_neg (show ¬ b' < g' ((n : Int) - 2) by omega)]; exact ⟨rfl, rfl⟩
theorem MW_zero {m : TD} (hT : TOK m) {D0 n : Int} (h0 : 0 ≤ D0 ∧ D0 + n ≤ 14) : ∀ (j : Nat), (j : Int) ≤ n → ∀ r e, 7 * (j : Int) < r → r ≤ 99 → -9 ≤ e ∧ e ≤ 9 → MW m 0 D0 n j r e = 0
  | 0, _, r, e, h, _, _ => by
    show (if r = 0 then mfree 0 0 else mover 0) = 0
    rw [if_neg (by omega)]; rfl
  | j + 1, hj, r, e, h, h99, he => by
    have ih := MW_zero hT h0 j (by omega)
    have hA := hT.2.2.2.2.2.1
    rw [MW_s, if_neg (by omega)]
    have hz : ∀ p, -2 ≤ p ∧ p ≤ 3 → bsV m (MW m 0 D0 n j) 0 (D0 + n - 1 - (j : Int)) r e p = 0 ∨ bsV m (MW m 0 D0 n j) 0 (D0 + n - 1 - (j : Int)) r e p = -1000000 := fun p hp => by
      unfold bsV
      by_cases q : max (e + p) (-(e + p)) ≤ 9
      · left
        rw [if_pos q]
        unfold wbV
        rw [if_pos rfl, ih (min 99 (max 0 (r - 4 - p) + tAdd m)) 0 (by omega) (by omega) (by omega), ih (max 0 (r - 4 - p)) (e + p) (by omega) (by omega) (by omega)]
        simp
      · right; rw [if_neg q]
    have h2 := foldB_ge (g := bsV m (MW m 0 D0 n j) 0 (D0 + n - 1 - (j : Int)) r e) (b0 := -1000000) 6 2 (by omega)
    have h3 : (foldB (bsV m (MW m 0 D0 n j) 0 (D0 + n - 1 - (j : Int)) r e) (-1000000) 6).1 ≤ 0 := (foldB_up (by decide) (fun p hp => by rcases hz p hp with e | e <;> omega) 6 (Nat.le_refl _)).2
    have h4 := hz (((2 : Nat) : Int) - 2) (by omega)
    have h5 : bsV m (MW m 0 D0 n j) 0 (D0 + n - 1 - (j : Int)) r e (((2 : Nat) : Int) - 2) ≠ -1000000 := by
      have := bsV_pos hT (V := MW m 0 D0 n j) (fun r e he => MW_pos hT h0 j (by omega) r e he) (day := D0 + n - 1 - (j : Int)) (r := r) (e := e) (p := ((2 : Nat) : Int) - 2) (by omega) (by omega)
      omega
    omega
theorem ot_bs {t m : TD} (hR : RT t m) {V : Int → Int → Int} {V2 : Int → Int → Int} (hV : ∀ r e, 0 ≤ r ∧ r ≤ 99 → -9 ≤ e ∧ e ≤ 9 → ovl V e r = V2 r e) (hp0 : ∀ r e, -9 ≤ e ∧ e ≤ 9 → 0 ≤ V2 r e) {day r e p : Int} (hd : 0 ≤ day ∧ day < tDay t) (hr : 0 ≤ r ∧ r ≤ 99) (hp : -2 ≤ p ∧ p ≤ 3) : (otV t V day (e + p) (r - 4 - p) = bsV m V2 0 day r e p ∧ -1 < otV t V day (e + p) (r - 4 - p) ∧ -1000000 < otV t V day (e + p) (r - 4 - p)) ∨ (otV t V day (e + p) (r - 4 - p) ≤ -1 ∧ bsV m V2 0 day r e p ≤ -1000000) := by
  have hT := hR.1
  have hD := hT.1
  have hA := hT.2.2.2.2.2.1
  obtain ⟨q1, q2, q3, q4, q5⟩ := hR.2.2.1
  by_cases q9 : max (e + p) (-(e + p)) ≤ 9
  · left
    have hb := bsV_pos hR.2.1 hp0 (day := day) (r := r) (e := e) (p := p) (by omega) q9
    have he : otV t V day (e + p) (r - 4 - p) = bsV m V2 0 day r e p := by
      unfold otV bsV
      rw [if_neg (by omega), if_pos q9]
      unfold wbV wbS
      rw [if_pos rfl, q4, q5, hV _ _ (show 0 ≤ max 0 (r - 4 - p) ∧ max 0 (r - 4 - p) ≤ 99 by omega) (by omega), hV _ _ (show 0 ≤ min 99 (max 0 (r - 4 - p) + tAdd t) ∧ min 99 (max 0 (r - 4 - p) + tAdd t) ≤ 99 by omega) (by omega)]
      by_cases z : max (e + p) (-(e + p)) ≤ tLim t
      · rw [if_pos z, if_pos z]; omega
      · rw [if_neg z, if_neg z]
        have hs : sunA t day = tSun m day.toNat := by
          unfold sunA
          rw [if_pos (by omega), hR.2.2.2.1 day.toNat (by omega)]
        rw [hs]
    omega
  · right
    unfold otV bsV
    rw [if_pos (by omega), if_neg q9]; omega
theorem bs_some {m : TD} (hT : TOK m) {V2 : Int → Int → Int} (hp0 : ∀ r e, -9 ≤ e ∧ e ≤ 9 → 0 ≤ V2 r e) {day r e : Int} (hd : 0 ≤ day ∧ day ≤ 13) (he : -9 ≤ e ∧ e ≤ 9) : ¬ foldB (bsV m V2 0 day r e) (-1000000) 6 = (-1000000, -9) := fun z => by
  have := fold0_pos hT hp0 (r := r) hd he
  rw [z] at this
  exact absurd this (by decide)
theorem OV_MW {t m : TD} (hR : RT t m) {mo : FN} {n : Int} (h0 : 0 ≤ mo 0 ∧ mo 0 + n ≤ tDay t) : ∀ (j : Nat), j ≤ 7 → (j : Int) ≤ n → ∀ r e, 0 ≤ r ∧ r ≤ 99 → -9 ≤ e ∧ e ≤ 9 → ovl (OV t mo n j) e r = MW m 0 (mo 0) n j r e := fun j => by
  have hT := hR.1
  have hD := hT.1
  induction j with
  | zero =>
    intro _ _ r e hr he
    unfold ovl
    show (if 0 ≤ r ∧ r < 50 ∧ -9 ≤ e ∧ e ≤ 9 then (if r = 0 then (1 : Int) else 0) else 0) = (if r = 0 then mfree 0 0 else mover 0)
    rw [mfree_0 rfl, mover_n (by decide)]
    by_cases q : r = 0
    · rw [if_pos (by omega)]
    · rw [if_neg q]; split <;> rfl
  | succ j ih =>
    intro hj hn r e hr he
    unfold ovl
    by_cases q50 : 0 ≤ r ∧ r < 50 ∧ -9 ≤ e ∧ e ≤ 9
    · rw [if_pos q50]
      show (if r = 0 then (10 : Int) ^ (j + 1) else if r ≤ 7 * ((j : Int) + 1) then (foldB (fun q => otV t (OV t mo n j) (mo 0 + n - ((j : Int) + 1)) (e + q) (r - 4 - q)) (-1) 6).1 else 0) = _
      by_cases q : r = 0
      · rw [if_pos q, MW_s, if_pos q]
        exact (if_pos rfl).symm
      · rw [if_neg q]
        by_cases z : r ≤ 7 * ((j : Int) + 1)
        · rw [if_pos z, MW_s, if_neg q, show mo 0 + n - ((j : Int) + 1) = mo 0 + n - 1 - (j : Int) by omega]
          have hpos : ∀ r e, -9 ≤ e ∧ e ≤ 9 → 0 ≤ MW m 0 (mo 0) n j r e := fun r e he => MW_pos hR.2.1 (by omega) j (by omega) r e he
          rcases foldB_sw (fun p hp => ot_bs hR (ih (by omega) (by omega)) hpos (day := mo 0 + n - 1 - (j : Int)) (e := e) (by omega) hr hp) 6 (Nat.le_refl _) with w | w
          · exact congrArg Prod.fst w.1
          · exact absurd w.2 (bs_some hR.2.1 hpos (by omega) he)
        · rw [if_neg z]; exact (MW_zero hR.2.1 (by omega) (j + 1) (by omega) r e (by omega) hr.2 he).symm
    · rw [if_neg q50]; exact (MW_zero hR.2.1 (by omega) (j + 1) (by omega) r e (by omega) hr.2 he).symm
theorem wgh_fold {t m : TD} (hR : RT t m) {mo ms : FN} {dn : Int} (e0 : ms 0 = mo 0) (e1 : ms 1 = mo 1) (e2 : ms 2 = mo 2) (hd : 1 ≤ dn ∧ dn ≤ 8) (h0 : 0 ≤ mo 0 ∧ mo 0 + dn ≤ tDay t) (h1 : 0 ≤ mo 1 ∧ mo 1 ≤ 99) (h2 : -9 ≤ mo 2 ∧ mo 2 ≤ 9) : wghF t mo dn = mfold m 0 ms dn := by
  have hT := hR.1
  have hD := hT.1
  unfold wghF mfold
  rw [e0, e1, e2]
  have hpos : ∀ r e, -9 ≤ e ∧ e ≤ 9 → 0 ≤ MW m 0 (mo 0) dn (dn.toNat - 1) r e := fun r e he => MW_pos hR.2.1 (by omega) _ (by omega) r e he
  rcases foldB_sw (fun p hp => ot_bs hR (OV_MW hR h0 (dn.toNat - 1) (by omega) (by omega)) hpos (day := mo 0) (e := mo 2) (by omega) h1 hp) 6 (Nat.le_refl _) with w | w
  · exact w.1
  · exact absurd w.2 (bs_some hR.2.1 hpos (by omega) h2)
/-! the fraction in least terms -/
def rdc (a y c x z i : Nat) : Prop := a = c * x ∧ y = c * z ∧ 0 < c ∧ 0 < z ∧ (2 ∣ x ∧ 2 ∣ z → 2 ^ i ∣ c) ∧ (5 ∣ x ∧ 5 ∣ z → 5 ^ i ∣ c)
def rdcI (a y : Nat) (r : Int × Int) (i : Nat) : Prop := ∃ c x z : Nat, rdc a y c x z i ∧ r = ((x : Int), (z : Int))
theorem red2_ok {a y : Nat} {r : Int × Int} {i : Nat} (h : rdcI a y r i) : ∃ c x z : Nat, (a = c * x ∧ y = c * z ∧ 0 < c ∧ 0 < z ∧ (2 ∣ x ∧ 2 ∣ z → 2 ^ (i + 1) ∣ c) ∧ (5 ∣ x ∧ 5 ∣ z → 5 ^ i ∣ c)) ∧ red2 r = ((x : Int), (z : Int)) := by
  obtain ⟨c, x, z, ⟨h1, h2, h3, h4, h5, h6⟩, rfl⟩ := h
  unfold red2
  by_cases q : (x : Int) % 2 = 0 ∧ (z : Int) % 2 = 0
  · rw [if_pos q]
    have hx : x = 2 * (x / 2) := by omega
    have hz : z = 2 * (z / 2) := by omega
    have d2 := h5 ⟨⟨x / 2, hx⟩, ⟨z / 2, hz⟩⟩
    refine ⟨c * 2, x / 2, z / 2, ⟨?_, ?_, by omega, by omega, fun _ => ?_, fun w => ?_⟩, rfl⟩
    · rw [Nat.mul_assoc, ← hx]; exact h1
    · rw [Nat.mul_assoc, ← hz]; exact h2
    · rw [Nat.pow_succ]; exact Nat.mul_dvd_mul_right d2 2
    · refine Nat.dvd_trans (h6 ⟨?_, ?_⟩) (Nat.dvd_mul_right c 2)
      · rw [hx]; exact Nat.dvd_trans w.1 (Nat.dvd_mul_left _ 2)
      · rw [hz]; exact Nat.dvd_trans w.2 (Nat.dvd_mul_left _ 2)
  · rw [if_neg q]
    exact ⟨c, x, z, ⟨h1, h2, h3, h4, fun w => absurd (by omega) q, h6⟩, rfl⟩
theorem red5_ok {a y : Nat} {r : Int × Int} {i : Nat} (h : ∃ c x z : Nat, (a = c * x ∧ y = c * z ∧ 0 < c ∧ 0 < z ∧ (2 ∣ x ∧ 2 ∣ z → 2 ^ (i + 1) ∣ c) ∧ (5 ∣ x ∧ 5 ∣ z → 5 ^ i ∣ c)) ∧ r = ((x : Int), (z : Int))) : rdcI a y (red5 r) (i + 1) := by
  obtain ⟨c, x, z, ⟨h1, h2, h3, h4, h5, h6⟩, rfl⟩ := h
  unfold red5
  by_cases q : (x : Int) % 5 = 0 ∧ (z : Int) % 5 = 0
  · rw [if_pos q]
    have hx : x = 5 * (x / 5) := by omega
    have hz : z = 5 * (z / 5) := by omega
    have d5 := h6 ⟨⟨x / 5, hx⟩, ⟨z / 5, hz⟩⟩
    refine ⟨c * 5, x / 5, z / 5, ⟨?_, ?_, by omega, by omega, fun w => ?_, fun _ => ?_⟩, rfl⟩
    · rw [Nat.mul_assoc, ← hx]; exact h1
    · rw [Nat.mul_assoc, ← hz]; exact h2
    · refine Nat.dvd_trans (h5 ⟨?_, ?_⟩) (Nat.dvd_mul_right c 5)
      · rw [hx]; exact Nat.dvd_trans w.1 (Nat.dvd_mul_left _ 5)
      · rw [hz]; exact Nat.dvd_trans w.2 (Nat.dvd_mul_left _ 5)
    · rw [Nat.pow_succ]; exact Nat.mul_dvd_mul_right d5 5
  · rw [if_neg q]
    exact ⟨c, x, z, ⟨h1, h2, h3, h4, h5, fun w => absurd (by omega) q⟩, rfl⟩
theorem redN_ok {a y : Nat} (hy : 0 < y) : ∀ i, rdcI a y (redN i ((a : Int), (y : Int))) i
  | 0 => ⟨1, a, y, ⟨(Nat.one_mul a).symm, (Nat.one_mul y).symm, by decide, hy, fun _ => Nat.one_dvd 1, fun _ => Nat.one_dvd 1⟩, rfl⟩
  | i + 1 => red5_ok (red2_ok (redN_ok hy i))
theorem ten_free {x z k : Nat} (hz : z ∣ 10 ^ k) (h2 : ¬ (2 ∣ x ∧ 2 ∣ z)) (h5 : ¬ (5 ∣ x ∧ 5 ∣ z)) : Nat.gcd z x = 1 := by
  have g1 : Nat.gcd z x ∣ z := Nat.gcd_dvd_left z x
  have g2 : Nat.gcd z x ∣ x := Nat.gcd_dvd_right z x
  have c10 : Nat.Coprime (Nat.gcd z x) 10 := by
    show Nat.gcd (Nat.gcd z x) 10 = 1
    have d1 : Nat.gcd (Nat.gcd z x) 10 ∣ 10 := Nat.gcd_dvd_right _ 10
    have d2 : Nat.gcd (Nat.gcd z x) 10 ∣ Nat.gcd z x := Nat.gcd_dvd_left _ 10
    have le : Nat.gcd (Nat.gcd z x) 10 ≤ 10 := Nat.le_of_dvd (by decide) d1
    generalize Nat.gcd (Nat.gcd z x) 10 = d at *
    have hd : d = 1 ∨ d = 2 ∨ d = 5 ∨ d = 10 := by
      have : ∀ d : Nat, d ≤ 10 → 10 % d = 0 → d = 1 ∨ d = 2 ∨ d = 5 ∨ d = 10 := by decide
      exact this d le (Nat.mod_eq_zero_of_dvd d1)
    rcases hd with rfl | rfl | rfl | rfl
    · rfl
    · exact absurd ⟨Nat.dvd_trans d2 g2, Nat.dvd_trans d2 g1⟩ h2
    · exact absurd ⟨Nat.dvd_trans d2 g2, Nat.dvd_trans d2 g1⟩ h5
    · have q : 2 ∣ Nat.gcd z x := Nat.dvd_trans (by decide) d2
      exact absurd ⟨Nat.dvd_trans q g2, Nat.dvd_trans q g1⟩ h2
  have c2 : Nat.Coprime (Nat.gcd z x) (10 ^ k) := Nat.Coprime.pow_right k c10
  exact Nat.Coprime.eq_one_of_dvd c2 (Nat.dvd_trans g1 hz)
theorem two9 : ∀ k, k ≤ 8 → ¬ (10 ^ k) % 512 = 0 ∧ ¬ (10 ^ k) % 1953125 = 0 := by decide +kernel
theorem red_gcd {a k : Nat} (hk : k ≤ 8) : redN 8 ((a : Int), ((10 ^ k : Nat) : Int)) = (((a / Nat.gcd (10 ^ k) a : Nat) : Int), ((10 ^ k / Nat.gcd (10 ^ k) a : Nat) : Int)) := by
  have hy : 0 < 10 ^ k := Nat.pow_pos (by decide)
  obtain ⟨c, x, z, ⟨h1, h2, h3, h4, h5, h6⟩, e⟩ := redN_ok (a := a) hy 8
  rw [e]
  have hz : z ∣ 10 ^ k := ⟨c, by rw [h2, Nat.mul_comm]⟩
  have n2 : ¬ (2 ∣ x ∧ 2 ∣ z) := fun w => by
    have d : 512 ∣ 10 ^ k := by
      rw [h2]; exact Nat.mul_dvd_mul (h5 w) w.2
    exact (two9 k hk).1 (Nat.mod_eq_zero_of_dvd d)
  have n5 : ¬ (5 ∣ x ∧ 5 ∣ z) := fun w => by
    have d : 1953125 ∣ 10 ^ k := by
      rw [h2]; exact Nat.mul_dvd_mul (h6 w) w.2
    exact (two9 k hk).2 (Nat.mod_eq_zero_of_dvd d)
  have hg : Nat.gcd (10 ^ k) a = c := by
    have hg1 := ten_free hz n2 n5
    have : Nat.gcd (c * z) (c * x) = c * Nat.gcd z x := Nat.gcd_mul_left c z x
    rw [← h2, ← h1, hg1, Nat.mul_one] at this
    exact this
  rw [hg]
  have q1 : a / c = x := by rw [h1]; exact Nat.mul_div_cancel_left x h3
  have q2 : 10 ^ k / c = z := by rw [h2]; exact Nat.mul_div_cancel_left z h3
  rw [q1, q2]
theorem cs_chance {N : Nat} {h1 h2 : mH} (h : RH N h1 h2) {n w : Int} (i_n : inI n) (iw : inI w) (hN : N ≤ 100) : CASE N h1 h2 8 yX6_chance cX6_chance 3 7 yX7_chance cX7_chance 6 [mi n, mi w] := by
  obtain ⟨k, asked, ux, ua, ub, mo, kn, kp, v1, v2, kP, pr, pl, tk, pm, pa, kO, qr, ql, un, lw, qa, kH, al, hr, lt, hd, mt, sd, ms, mg, mk, hn, mh, tr, mx, w9, t9, c9, g9, rfl, rfl, hR⟩ := h
  have hRT := hR.1
  obtain ⟨tT, tM, ⟨t1, t2, t3, t4, t5⟩, t6, t7, t8⟩ := id hRT
  have hS := hR.2.2.2.2.1
  have hS : STR (tDay (tsel k ua ub)) (N : Int) mo kn ms := hS
  have hB := STR_0 hS
  obtain ⟨⟨e0, e1, e2, e3, e4⟩, e5⟩ := STR_now hS
  have hQ := STR_MOM hS (by omega)
  have hT1 := tT.1
  have hT2 := tT.2.1
  have hT3 := tT.2.2.1
  have hT5 := tT.2.2.2.2.1
  have hd9 := hB.2.1
  have hk9 := hS.1
  have hM0 := hB.1.1
  have hM1 := hB.1.2.1
  have hM2 := hB.1.2.2.1
  refine ⟨_, _, fun l => sp_X6_chance rfl i_n iw tT hB.1 hk9 hd9, fun l => sp_X7_chance tM hQ (by omega) i_n iw, ?_⟩
  rintro z1 k1 z2 k2 (⟨q1, rfl, rfl⟩ | ⟨q1, rfl, k9, h9, l9, rfl⟩) (⟨q2, rfl, rfl⟩ | ⟨q2, rfl, w5, t5, rfl⟩)
  · exact ⟨rfl, hR.up.is⟩
  · exfalso; omega
  · exfalso; omega
  · refine ⟨?_, hR.up.is⟩
    rw [show min n (tDay mt - ms 0) = (min n (tDay (tsel k ua ub) - mo 0)) by omega]
    have hdn : ((min n (tDay (tsel k ua ub) - mo 0)) ≤ tDay (tsel k ua ub) - mo 0 ∧ 0 ≤ (min n (tDay (tsel k ua ub) - mo 0))) ∧ (min n (tDay (tsel k ua ub) - mo 0)) ≤ 8 := by omega
    generalize (min n (tDay (tsel k ua ub) - mo 0)) = dn at *
    unfold chaM wghP wghR
    rw [e1]
    by_cases q : mo 1 = 0
    · rw [if_pos (Or.inl q), if_pos (Or.inl q), if_pos q]
      by_cases z : w = 2
      · rw [if_pos z, if_pos z]
      · rw [if_neg z, if_neg z, if_pos (show w = 1 ∨ mo 1 = 0 from Or.inr q)]; split <;> rfl
    · by_cases q0 : dn = 0
      · rw [if_pos (show mo 1 = 0 ∨ dn ≤ 0 by omega), if_pos (show mo 1 = 0 ∨ dn = 0 from Or.inr q0), if_neg q, if_pos (show dn ≤ 0 by omega)]
        by_cases z : w = 2
        · rw [if_pos z, if_pos z]
        · rw [if_neg z, if_neg z]
          by_cases z0 : w = 0
          · rw [if_pos z0, if_neg (by omega)]
          · rw [if_neg z0, if_pos (by omega)]
      · have hf := wgh_fold hRT (dn := dn) e0 e1 e2 (by omega) (by omega) (by omega) (by omega)
        have hp := mfold_pos tM (ms := ms) (dn := dn) (by omega) (by omega) (by omega)
        rw [if_neg (show ¬ (mo 1 = 0 ∨ dn ≤ 0) by omega), if_neg (show ¬ (mo 1 = 0 ∨ dn = 0) by omega), if_neg q, if_neg (show ¬ dn ≤ 0 by omega), hf]
        by_cases z : w = 2
        · rw [if_pos z, if_pos z]
        · rw [if_neg z, if_neg z]
          obtain ⟨a, ha⟩ := Int.eq_ofNat_of_zero_le hp
          have hpow : (10 : Int) ^ dn.toNat = ((10 ^ dn.toNat : Nat) : Int) := by simp
          rw [ha, hpow, red_gcd (by omega), Int.toNat_natCast, Int.toNat_natCast]
          by_cases z0 : w = 0
          · rw [if_pos z0, if_pos z0]; rfl
          · rw [if_neg z0, if_neg z0]; rfl
