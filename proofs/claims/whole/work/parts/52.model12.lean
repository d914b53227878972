/-! the reference: worths of all days -/
section WALKS
variable {l : Launch}
def mfree (kd : Int) (j : Nat) : Int := if kd = 0 then 10 ^ j else 0
def mover (kd : Int) : Int := if kd = 2 then -1000000 else 0
def wbV (t : TD) (V : Int → Int → Int) (kd day r e p : Int) : Int :=
  if kd = 0 then wbS t day (e + p) * V (min 99 (max 0 (r - 4 - p) + tAdd t)) 0 + (10 - wbS t day (e + p)) * V (max 0 (r - 4 - p)) (e + p)
  else if kd = 1 then (if tLim t < max (e + p) (-(e + p)) ∨ V (max 0 (r - 4 - p)) (e + p) < 0 then -1000000 else V (max 0 (r - 4 - p)) (e + p) + cndl (tBri t) day p (tNB t).toNat)
  else if V (max 0 (r - 4 - p)) (e + p) = -1000000 then -1000000 else V (max 0 (r - 4 - p)) (e + p) - hrmS (tTra t) (e + p) (tNT t).toNat
def bsV (t : TD) (V : Int → Int → Int) (kd day r e : Int) (p : Int) : Int := if max (e + p) (-(e + p)) ≤ 9 then wbV t V kd day r e p else -1000000
def MW (t : TD) (kd D0 n : Int) : Nat → Int → Int → Int
  | 0, r, _ => if r = 0 then mfree kd 0 else mover kd
  | j + 1, r, e => if r = 0 then mfree kd (j + 1) else (foldB (bsV t (MW t kd D0 n j) kd (D0 + n - 1 - (j : Int)) r e) (-1000000) 6).1
theorem MW_s {t : TD} {kd D0 n : Int} {j : Nat} {r e : Int} : MW t kd D0 n (j + 1) r e = if r = 0 then mfree kd (j + 1) else (foldB (bsV t (MW t kd D0 n j) kd (D0 + n - 1 - (j : Int)) r e) (-1000000) 6).1 := rfl
def rowN (f : FN) (V : Int → Int → Int) (n : Nat) : Prop := ∀ a : Nat, a < n → f a = V ((a / 19 : Nat) : Int) (((a % 19 : Nat) : Int) - 9)
theorem rowN_put {f : FN} {V : Int → Int → Int} {r i : Nat} (hi : i < 19) (h : rowN f V (19 * r + i)) {v : Int} {q : Nat} (hq : q = 19 * r + i) (hv : v = V (r : Int) ((i : Int) - 9)) : rowN (mup f q v) V (19 * r + (i + 1)) := by
  subst hq
  intro a ha
  by_cases q : a = 19 * r + i
  · subst q
    rw [mup_s, hv, show (19 * r + i) / 19 = r by omega, show (19 * r + i) % 19 = i by omega]
  · rw [mup_n q]; exact h a (by omega)
theorem rowN_at {f : FN} {V : Int → Int → Int} (h : rowN f V 1900) {r e : Int} (h1 : 0 ≤ r ∧ r ≤ 99) (h2 : -9 ≤ e ∧ e ≤ 9) : f (19 * r + e + 9).toNat = V r e := by
  rw [h _ (by omega), show (((19 * r + e + 9).toNat / 19 : Nat) : Int) = r by omega, show (((19 * r + e + 9).toNat % 19 : Nat) : Int) - 9 = e by omega]
theorem wbF_V {t : TD} (hT : TOK t) {f : FN} {V : Int → Int → Int} (h : rowN f V 1900) {kd day r e p : Int} (h1 : 0 ≤ r ∧ r ≤ 99) (h2 : -2 ≤ p ∧ p ≤ 3) (h3 : max (e + p) (-(e + p)) ≤ 9) : wbF t f kd day r e p = wbV t V kd day r e p := by
  have hA := hT.2.2.2.2.2.1
  unfold wbF wbV
  rw [rowN_at h (r := min 99 (max 0 (r - 4 - p) + tAdd t)) (e := 0) (by omega) (by omega), rowN_at h (r := max 0 (r - 4 - p)) (e := e + p) (by omega) (by omega)]
theorem foldB_cg {g g' : Int → Int} {b : Int} (h : ∀ p, -2 ≤ p ∧ p ≤ 3 → g p = g' p) : ∀ n, n ≤ 6 → foldB g b n = foldB g' b n
  | 0, _ => rfl
  | n + 1, hn => by rw [foldB_s, foldB_s, foldB_cg h n (by omega), h ((n : Int) - 2) (by omega)]
theorem bsG_V {t : TD} (hT : TOK t) {f : FN} {V : Int → Int → Int} (h : rowN f V 1900) {kd day r e : Int} (h1 : 0 ≤ r ∧ r ≤ 99) : foldB (bsG t f kd day r e) (-1000000) 6 = foldB (bsV t V kd day r e) (-1000000) 6 := by
  refine foldB_cg (fun p hp => ?_) 6 (Nat.le_refl _)
  unfold bsG bsV
  by_cases q : max (e + p) (-(e + p)) ≤ 9
  · rw [if_pos q, if_pos q, wbF_V hT h h1 hp q]
  · rw [if_neg q, if_neg q]
def mwB (kd : Int) (j : Nat) : Int := if kd = 0 then 10 ^ j else 120 * (j : Int)
theorem mwB_s {kd : Int} {j : Nat} : 0 ≤ mwB kd j ∧ mwB kd (j + 1) = if kd = 0 then 10 * mwB kd j else mwB kd j + 120 := by
  unfold mwB
  have h0 : (0 : Int) < 10 ^ j := Int.pow_pos (by decide)
  by_cases q : kd = 0
  · rw [if_pos q, if_pos q, if_pos q, Int.pow_succ]; omega
  · rw [if_neg q, if_neg q, if_neg q]; omega
theorem foldB_up {g : Int → Int} {b M : Int} (hb : b ≤ M) (h : ∀ p, -2 ≤ p ∧ p ≤ 3 → g p ≤ M) : ∀ n, n ≤ 6 → b ≤ (foldB g b n).1 ∧ (foldB g b n).1 ≤ M
  | 0, _ => ⟨Int.le_refl _, hb⟩
  | n + 1, hn => by
    have ih := foldB_up hb h n (by omega)
    have q := h ((n : Int) - 2) (by omega)
    rw [foldB_s]
    split
    · show b ≤ g _ ∧ g _ ≤ M; omega
    · exact ih
theorem bsV_up {t : TD} (hT : TOK t) {V : Int → Int → Int} {M : Int} {kd day r e p : Int} (hM : 0 ≤ M) (hV : ∀ r e, V r e ≤ M) (h1 : 0 ≤ day ∧ day ≤ 13) : bsV t V kd day r e p ≤ if kd = 0 then 10 * M else M + 120 := by
  have hT2 := hT.2.1
  have hT3 := hT.2.2.1
  have hs : 0 ≤ wbS t day (e + p) ∧ wbS t day (e + p) ≤ 10 := by
    have := hT.2.2.2.2.2.2.1 day.toNat (by omega)
    unfold wbS; split <;> omega
  have hc := cndl_in hT (day := day) (p := p) (tNB t).toNat (by omega)
  unfold bsV
  by_cases q : max (e + p) (-(e + p)) ≤ 9
  · rw [if_pos q]
    have hh := hrmS_in hT (e := e + p) (by omega) (tNT t).toNat (by omega)
    have v1 := hV (max 0 (r - 4 - p)) (e + p)
    have v2 := hV (min 99 (max 0 (r - 4 - p) + tAdd t)) 0
    unfold wbV
    generalize wbS t day (e + p) = s at *
    generalize V (max 0 (r - 4 - p)) (e + p) = x at *
    generalize V (min 99 (max 0 (r - 4 - p) + tAdd t)) 0 = y at *
    have a1 : s * y ≤ s * M := Int.mul_le_mul_of_nonneg_left v2 hs.1
    have b1 : (10 - s) * x ≤ (10 - s) * M := Int.mul_le_mul_of_nonneg_left v1 (by omega)
    have c1 : s * M + (10 - s) * M = 10 * M := by rw [← Int.add_mul]; congr 1; omega
    by_cases k0 : kd = 0
    · rw [if_pos k0, if_pos k0]; omega
    · rw [if_neg k0, if_neg k0]
      split
      · split <;> omega
      · split <;> omega
  · rw [if_neg q]; split <;> omega
theorem MW_in {t : TD} (hT : TOK t) {kd D0 n : Int} (h0 : 0 ≤ D0 ∧ D0 + n ≤ 14) : ∀ j : Nat, (j : Int) ≤ n → ∀ r e, -1000000 ≤ MW t kd D0 n j r e ∧ MW t kd D0 n j r e ≤ mwB kd j
  | 0, _, r, e => by
    show -1000000 ≤ (if r = 0 then mfree kd 0 else mover kd) ∧ (if r = 0 then mfree kd 0 else mover kd) ≤ mwB kd 0
    unfold mfree mover mwB
    split <;> split <;> (try split) <;> simp <;> omega
  | j + 1, hj, r, e => by
    have ih := MW_in hT (kd := kd) h0 j (by omega)
    have hB := mwB_s (kd := kd) (j := j)
    have hB1 := (mwB_s (kd := kd) (j := j + 1)).1
    rw [MW_s]
    by_cases q : r = 0
    · rw [if_pos q]
      unfold mfree mwB
      have hp : (0 : Int) < 10 ^ (j + 1) := Int.pow_pos (by decide)
      by_cases k0 : kd = 0
      · rw [if_pos k0, if_pos k0]; omega
      · rw [if_neg k0, if_neg k0]; omega
    · rw [if_neg q]
      refine foldB_up (by omega) (fun p hp => ?_) 6 (Nat.le_refl _)
      rw [hB.2]
      exact bsV_up hT hB.1 (fun r e => (ih r e).2) (by omega)
theorem mwB_le {kd : Int} {j : Nat} (h : j ≤ 14) (h8 : kd = 0 → j ≤ 8) : mwB kd j ≤ 100000000 := by
  unfold mwB
  by_cases q : kd = 0
  · rw [if_pos q]; exact (ten_in j (h8 q)).2
  · rw [if_neg q]; omega
theorem MW_WOK {t : TD} (hT : TOK t) {kd D0 n : Int} (h0 : 0 ≤ D0 ∧ D0 + n ≤ 14) (h8 : kd = 0 → n ≤ 8) {j : Nat} (hj : (j : Int) ≤ n) {f : FN} (h : rowN f (MW t kd D0 n j) 1900) : WOK f := fun a ha => by
  rw [h a ha]
  have := MW_in hT (kd := kd) h0 j hj ((a / 19 : Nat) : Int) (((a % 19 : Nat) : Int) - 9)
  have := mwB_le (kd := kd) (j := j) (by omega) (fun q => by have := h8 q; omega)
  omega
theorem mfree_s {kd : Int} {j : Nat} : mfree kd j * 10 = mfree kd (j + 1) := by
  unfold mfree
  by_cases q : kd = 0
  · rw [if_pos q, if_pos q, Int.pow_succ]
  · rw [if_neg q, if_neg q]; rfl
theorem mfree_in {kd : Int} {j : Nat} (h : kd = 0 → j ≤ 8) : 0 ≤ mfree kd j ∧ mfree kd j ≤ 100000000 := by
  unfold mfree
  by_cases q : kd = 0
  · rw [if_pos q]; have := ten_in j (h q); omega
  · rw [if_neg q]; omega
theorem mfree_0 {kd : Int} (h : kd = 0) : mfree kd 0 = 1 := (if_pos h).trans rfl
theorem mfree_n {kd : Int} (h : ¬ kd = 0) : mfree kd 0 = 0 := if_neg h
theorem mover_2 {kd : Int} (h : kd = 2) : mover kd = -1000000 := if_pos h
theorem mover_n {kd : Int} (h : ¬ kd = 2) : mover kd = 0 := if_neg h
set_option maxRecDepth 20000 in
set_option maxHeartbeats 2000000 in
theorem sp_X7_findWorths {mt sd : TD} {ms mg mk : FN} {hn : Int} {mh : FN} {tr : Int} {mx : XD} {w9 t9 c9 g9 : FN} {kd n : Int} (hT : TOK mt) (h1 : 0 ≤ kd ∧ kd ≤ 2) (h2 : 1 ≤ n) (hd : 0 ≤ ms 0 ∧ ms 0 + n ≤ 14) (h8 : kd = 0 → n ≤ 8) : SpV l 6 yX7_findWorths cX7_findWorths 8 none [mr 0, mi kd, mi n] (hM mt sd ms mg mk hn mh tr mx w9 t9 c9 g9) (fun h => ∃ w t : FN, rowN t (MW mt kd (ms 0) n (n.toNat - 1)) 1900 ∧ h = hM mt sd ms mg mk hn mh tr mx w t c9 g9) := by
  refine SpV.of (cd := kdX7_findWorths) (fT := mlook flX7) (kT := mlook klX7) (kJ := mlook jlX7) mfA_X7_findWorths ok_X7_findWorths fT_X7 kT_X7 jT_X7 jdk_ok True.intro (Nat.le_of_ble_eq_true rfl) (fun G hG => ?_)
  have J164 : ∀ (j : Nat) (w : FN), rowN w (MW mt kd (ms 0) n (j + 1)) 1900 → (∀ t : FN, rowN t (MW mt kd (ms 0) n (j + 1)) 1900 → G 192 [some (mr 0), some (mi kd), some (mi n), some (mi (mfree kd (j + 1))), some (mi (mover kd)), some (mi ((ms 0 + n - 1 - (j : Int)))), none, none] [] (hM mt sd ms mg mk hn mh tr mx w t c9 g9)) → ∀ (m i : Nat) (t : FN), i ≤ 1900 → (∀ a, a < i → t a = w a) → 1900 - i < m → G 164 [some (mr 0), some (mi kd), some (mi n), some (mi (mfree kd (j + 1))), some (mi (mover kd)), some (mi ((ms 0 + n - 1 - (j : Int)))), some (mi ((i : Int))), none] [] (hM mt sd ms mg mk hn mh tr mx w t c9 g9) := by
    intro j w hw hcont m
    induction m with
    | zero => intro i t _ _ hm; exact absurd hm (Nat.not_lt_zero _)
    | succ m ih =>
      intro i t hi ht hm
      refine rRun hG 192 ?_
      refine And.intro (by first | omega | (dsimp only [Int.reduceToNat]; omega)) (And.intro (fun c1 => ?_) (fun c1 => ?_))
      · try dsimp only [Int.reduceToNat] at c1
        refine rLess hG ?_ (hcont t (fun a ha => by rw [ht a (by omega)]; exact hw a ha))
        · exact ⟨rfl, rfl, rfl, rfl, rfl, rfl, True.intro⟩
      · try dsimp only [Int.reduceToNat] at c1
        refine And.intro rfl (And.intro rfl (And.intro (by first | omega | (dsimp only [Int.reduceToNat]; omega)) (And.intro (by first | omega | (dsimp only [Int.reduceToNat]; omega)) (?_))))
        refine rLess hG ?_ (ih (i + 1) (mup t (i : Int).toNat (w (i : Int).toNat)) (by omega) (fun a ha => ?_) (by omega))
        · exact ⟨rfl, rfl, rfl, rfl, rfl, rfl, rfl, True.intro⟩
        · rw [Int.toNat_natCast]
          by_cases q : a = i
          · rw [q, mup_s]
          · rw [mup_n q]; exact ht a (by omega)
  have J110 : ∀ (j r : Nat) (t : FN), rowN t (MW mt kd (ms 0) n j) 1900 → (j : Int) + 1 < n → r ≤ 99 → (∀ w : FN, rowN w (MW mt kd (ms 0) n (j + 1)) (19 * (r + 1)) → G 155 [some (mr 0), some (mi kd), some (mi n), some (mi (mfree kd (j + 1))), some (mi (mover kd)), some (mi ((ms 0 + n - 1 - (j : Int)))), some (mi ((r : Int))), none] [] (hM mt sd ms mg mk hn mh tr mx w t c9 g9)) → ∀ (m i : Nat) (w : FN), i ≤ 19 → rowN w (MW mt kd (ms 0) n (j + 1)) (19 * r + i) → 19 - i < m → G 110 [some (mr 0), some (mi kd), some (mi n), some (mi (mfree kd (j + 1))), some (mi (mover kd)), some (mi ((ms 0 + n - 1 - (j : Int)))), some (mi ((r : Int))), some (mi ((i : Int) - 9))] [] (hM mt sd ms mg mk hn mh tr mx w t c9 g9) := by
    intro j r t ht hj hr hcont m
    have hWk := MW_WOK hT (kd := kd) (D0 := ms 0) (n := n) hd h8 (j := j) (by omega) ht
    induction m with
    | zero => intro i w _ _ hm; exact absurd hm (Nat.not_lt_zero _)
    | succ m ih =>
      intro i w hi hw hm
      refine rRun hG 155 ?_
      refine And.intro (by first | omega | (dsimp only [Int.reduceToNat]; omega)) (And.intro (fun c1 => ?_) (fun c1 => ?_))
      · try dsimp only [Int.reduceToNat] at c1
        obtain rfl : i = 19 := by omega
        refine rLess hG ?_ (hcont w (by rw [show 19 * (r + 1) = 19 * r + 19 by omega]; exact hw))
        · exact ⟨rfl, rfl, rfl, rfl, rfl, rfl, rfl, True.intro⟩
      · try dsimp only [Int.reduceToNat] at c1
        refine And.intro rfl (?_)
        refine rS hG (sp_X7_at (r := (r : Int)) (e := (i : Int) - 9) (by omega) (by omega)) rfl rfl lk_X7_202 mf_X7_at (by decide) (Nat.le_of_ble_eq_true rfl) ?_
        rintro _ _ ⟨rfl, rfl⟩
        refine rRun hG 155 ?_
        refine And.intro (by first | omega | (dsimp only [Int.reduceToNat]; omega)) (And.intro (fun cr => ?_) (fun cr => ?_))
        · try dsimp only [Int.reduceToNat] at cr
          refine rRun hG 155 ?_
          refine rV hG (sp_X7_bestOf (mt := mt) (sd := sd) (ms := ms) (mg := mg) (mk := mk) (hn := hn) (mh := mh) (tr := tr) (mx := mx) (w9 := w) (t9 := t) (c9 := c9) (g9 := g9) (kd := kd) (day := (ms 0 + n - 1 - (j : Int))) (r := (r : Int)) (e := (i : Int) - 9) hT hWk h1 (by omega) (by omega) (by omega)) rfl rfl lk_X7_216 mf_X7_bestOf (by decide) (Nat.le_of_ble_eq_true rfl) ⟨_, _, _, rfl, rfl, rfl⟩ ?_
          rintro _ _ ⟨rfl, rfl⟩
          rw [bsG_V hT ht (by omega)]
          refine rRun hG 155 ?_
          refine And.intro (by first | omega | (dsimp only [Int.reduceToNat]; omega)) (?_)
          refine rLess hG ?_ (ih (i + 1) (mup w (19 * (r : Int) + ((i : Int) - 9) + 9).toNat ((foldB (bsV mt (MW mt kd (ms 0) n j) kd (ms 0 + n - 1 - (j : Int)) (r : Int) ((i : Int) - 9)) (-1000000) 6).1)) (by omega) (rowN_put (by omega) hw (by omega) ?_) (by omega))
          · exact ⟨rfl, rfl, rfl, rfl, rfl, rfl, rfl, congrArg mi (by omega), True.intro⟩
          · rw [MW_s, if_neg (by omega)]
        · try dsimp only [Int.reduceToNat] at cr
          refine rRun hG 155 ?_
          refine And.intro (by first | omega | (dsimp only [Int.reduceToNat]; omega)) (?_)
          refine rLess hG ?_ (ih (i + 1) (mup w (19 * (r : Int) + ((i : Int) - 9) + 9).toNat (mfree kd (j + 1))) (by omega) (rowN_put (by omega) hw (by omega) ?_) (by omega))
          · exact ⟨rfl, rfl, rfl, rfl, rfl, rfl, rfl, congrArg mi (by omega), True.intro⟩
          · rw [MW_s, if_pos (by omega)]
  have J99 : ∀ (j : Nat) (t : FN), rowN t (MW mt kd (ms 0) n j) 1900 → (j : Int) + 1 < n → (∀ w : FN, rowN w (MW mt kd (ms 0) n (j + 1)) 1900 → G 161 [some (mr 0), some (mi kd), some (mi n), some (mi (mfree kd (j + 1))), some (mi (mover kd)), some (mi ((ms 0 + n - 1 - (j : Int)))), none, none] [] (hM mt sd ms mg mk hn mh tr mx w t c9 g9)) → ∀ (m r : Nat) (w : FN), r ≤ 100 → rowN w (MW mt kd (ms 0) n (j + 1)) (19 * r) → 100 - r < m → G 99 [some (mr 0), some (mi kd), some (mi n), some (mi (mfree kd (j + 1))), some (mi (mover kd)), some (mi ((ms 0 + n - 1 - (j : Int)))), some (mi ((r : Int))), none] [] (hM mt sd ms mg mk hn mh tr mx w t c9 g9) := by
    intro j t ht hj hcont m
    induction m with
    | zero => intro r w _ _ hm; exact absurd hm (Nat.not_lt_zero _)
    | succ m ih =>
      intro r w hr hw hm
      have J155 : r < 100 → ∀ w : FN, rowN w (MW mt kd (ms 0) n (j + 1)) (19 * (r + 1)) → G 155 [some (mr 0), some (mi kd), some (mi n), some (mi (mfree kd (j + 1))), some (mi (mover kd)), some (mi ((ms 0 + n - 1 - (j : Int)))), some (mi ((r : Int))), none] [] (hM mt sd ms mg mk hn mh tr mx w t c9 g9) := by
        intro hr2 w hw2
        refine rRun hG 99999 ?_
        refine rLess hG ?_ (ih (r + 1) w (by omega) hw2 (by omega))
        · exact ⟨rfl, rfl, rfl, rfl, rfl, rfl, rfl, True.intro⟩
      refine rRun hG 110 ?_
      refine And.intro (by first | omega | (dsimp only [Int.reduceToNat]; omega)) (And.intro (fun c1 => ?_) (fun c1 => ?_))
      · try dsimp only [Int.reduceToNat] at c1
        obtain rfl : r = 100 := by omega
        refine rLess hG ?_ (hcont w hw)
        · exact ⟨rfl, rfl, rfl, rfl, rfl, rfl, True.intro⟩
      · try dsimp only [Int.reduceToNat] at c1
        refine rLess hG ?_ (J110 j r t ht hj (by omega) (fun w q => J155 (by omega) w q) 20 0 w (by omega) hw (by omega))
        · exact ⟨rfl, rfl, rfl, rfl, rfl, rfl, rfl, rfl, True.intro⟩
  have J80 : ∀ (m j : Nat) (w t : FN), rowN t (MW mt kd (ms 0) n j) 1900 → (j : Int) + 1 ≤ n → (n - (j : Int)).toNat < m → G 80 [some (mr 0), some (mi kd), some (mi n), some (mi (mfree kd j)), some (mi (mover kd)), some (mi ((ms 0 + n - 1 - (j : Int)))), none, none] [] (hM mt sd ms mg mk hn mh tr mx w t c9 g9) := by
    intro m
    induction m with
    | zero => intro j w t _ _ hm; exact absurd hm (Nat.not_lt_zero _)
    | succ m ih =>
      intro j w t ht hj hm
      have J192 : (j : Int) + 1 < n → ∀ w t : FN, rowN t (MW mt kd (ms 0) n (j + 1)) 1900 → G 192 [some (mr 0), some (mi kd), some (mi n), some (mi (mfree kd (j + 1))), some (mi (mover kd)), some (mi ((ms 0 + n - 1 - (j : Int)))), none, none] [] (hM mt sd ms mg mk hn mh tr mx w t c9 g9) := by
        intro hj2 w t ht2
        refine rRun hG 99999 ?_
        refine rLess hG ?_ (ih (j + 1) w t ht2 (by omega) (by omega))
        · exact ⟨rfl, rfl, rfl, rfl, rfl, congrArg mi (by omega), True.intro⟩
      have J161 : (j : Int) + 1 < n → ∀ w : FN, rowN w (MW mt kd (ms 0) n (j + 1)) 1900 → G 161 [some (mr 0), some (mi kd), some (mi n), some (mi (mfree kd (j + 1))), some (mi (mover kd)), some (mi ((ms 0 + n - 1 - (j : Int)))), none, none] [] (hM mt sd ms mg mk hn mh tr mx w t c9 g9) := by
        intro hj2 w hw2
        refine rRun hG 164 ?_
        refine rLess hG ?_ (J164 j w hw2 (fun t q => J192 hj2 w t q) 1901 0 t (by omega) (fun a ha => absurd ha (Nat.not_lt_zero _)) (by omega))
        · exact ⟨rfl, rfl, rfl, rfl, rfl, rfl, rfl, True.intro⟩
      have hfr := mfree_in (kd := kd) (j := j) (fun q => by have := h8 q; omega)
      refine rRun hG 99 ?_
      refine And.intro rfl (And.intro (by first | omega | (dsimp only [Int.reduceToNat]; omega)) (And.intro (by first | omega | (dsimp only [Int.reduceToNat]; omega)) (And.intro (fun c1 => ?_) (fun c1 => ?_))))
      · try dsimp only [Int.reduceToNat] at c1
        refine rVR hG rfl rfl rfl ?_
        obtain hjn : (j : Int) = n - 1 := by omega
        obtain rfl : j = n.toNat - 1 := by omega
        exact ⟨w, t, ht, rfl⟩
      · try dsimp only [Int.reduceToNat] at c1
        refine rLess hG ?_ (J99 j t ht (by omega) (fun w q => J161 (by omega) w q) 101 0 w (by omega) (fun a ha => absurd ha (Nat.not_lt_zero _)) (by omega))
        · exact ⟨rfl, rfl, rfl, congrArg mi mfree_s.symm, rfl, rfl, rfl, True.intro⟩
  have J34 : ∀ (m i : Nat) (t : FN), i ≤ 1900 → (∀ a, a < i → t a = if a < 19 then mfree kd 0 else mover kd) → 1900 - i < m → G 34 [some (mr 0), some (mi kd), some (mi n), some (mi (mfree kd 0)), some (mi (mover kd)), some (mi ((i : Int))), none, none] [] (hM mt sd ms mg mk hn mh tr mx w9 t c9 g9) := by
    intro m
    induction m with
    | zero => intro i t _ _ hm; exact absurd hm (Nat.not_lt_zero _)
    | succ m ih =>
      intro i t hi ht hm
      have J68 : i = 1900 → G 68 [some (mr 0), some (mi kd), some (mi n), some (mi (mfree kd 0)), some (mi (mover kd)), none, none, none] [] (hM mt sd ms mg mk hn mh tr mx w9 t c9 g9) := by
        intro hi2
        refine rRun hG 80 ?_
        refine And.intro rfl (And.intro (by first | omega | (dsimp only [Int.reduceToNat]; omega)) (?_))
        refine rLess hG ?_ (J80 15 0 w9 t (fun a ha => ?_) (by omega) (by omega))
        · exact ⟨rfl, rfl, rfl, rfl, rfl, congrArg mi (by simp only [Int.reduceToNat]; omega), True.intro⟩
        · rw [ht a (by omega)]
          by_cases q : a < 19
          · rw [if_pos q]; exact (if_pos (by omega)).symm
          · rw [if_neg q]; exact (if_neg (by omega)).symm
      have hF1 : i < 19 → ∀ a, a < i + 1 → mup t (i : Int).toNat (mfree kd 0) a = if a < 19 then mfree kd 0 else mover kd := by
        intro hi2 a ha
        rw [Int.toNat_natCast]
        by_cases q : a = i
        · rw [q, mup_s, if_pos hi2]
        · rw [mup_n q]; exact ht a (by omega)
      have hF2 : ¬ i < 19 → ∀ a, a < i + 1 → mup t (i : Int).toNat (mover kd) a = if a < 19 then mfree kd 0 else mover kd := by
        intro hi2 a ha
        rw [Int.toNat_natCast]
        by_cases q : a = i
        · rw [q, mup_s, if_neg hi2]
        · rw [mup_n q]; exact ht a (by omega)
      refine rRun hG 68 ?_
      refine And.intro (by first | omega | (dsimp only [Int.reduceToNat]; omega)) (And.intro (fun c1 => ?_) (fun c1 => ?_))
      · try dsimp only [Int.reduceToNat] at c1
        refine rLess hG ?_ (J68 (by omega))
        · exact ⟨rfl, rfl, rfl, rfl, rfl, True.intro⟩
      · try dsimp only [Int.reduceToNat] at c1
        refine And.intro rfl (And.intro (by first | omega | (dsimp only [Int.reduceToNat]; omega)) (And.intro (fun c2 => ?_) (fun c2 => ?_)))
        · try dsimp only [Int.reduceToNat] at c2
          refine rRun hG 68 ?_
          refine And.intro (by first | omega | (dsimp only [Int.reduceToNat]; omega)) (?_)
          first
            | (refine rLess hG ?_ (ih (i + 1) (mup t (i : Int).toNat (mfree kd 0)) (by omega) (hF1 (by omega)) (by omega)); exact ⟨rfl, rfl, rfl, rfl, rfl, rfl, True.intro⟩)
            | (refine rLess hG ?_ (ih (i + 1) (mup t (i : Int).toNat (mover kd)) (by omega) (hF2 (by omega)) (by omega)); exact ⟨rfl, rfl, rfl, rfl, rfl, rfl, True.intro⟩)
        · try dsimp only [Int.reduceToNat] at c2
          refine rRun hG 68 ?_
          refine And.intro (by first | omega | (dsimp only [Int.reduceToNat]; omega)) (?_)
          first
            | (refine rLess hG ?_ (ih (i + 1) (mup t (i : Int).toNat (mfree kd 0)) (by omega) (hF1 (by omega)) (by omega)); exact ⟨rfl, rfl, rfl, rfl, rfl, rfl, True.intro⟩)
            | (refine rLess hG ?_ (ih (i + 1) (mup t (i : Int).toNat (mover kd)) (by omega) (hF2 (by omega)) (by omega)); exact ⟨rfl, rfl, rfl, rfl, rfl, rfl, True.intro⟩)
  refine rRun hG 34 ?_
  refine And.intro (by first | omega | (dsimp only [Int.reduceToNat]; omega)) (And.intro (fun cf => ?_) (fun cf => ?_))
  · try dsimp only [Int.reduceToNat] at cf
    refine rRun hG 34 ?_
    refine And.intro (by first | omega | (dsimp only [Int.reduceToNat]; omega)) (And.intro (fun cg => ?_) (fun cg => ?_))
    · try dsimp only [Int.reduceToNat] at cg
      refine rRun hG 34 ?_
      refine And.intro (by first | omega | (dsimp only [Int.reduceToNat]; omega)) (And.intro (fun ch => ?_) (fun ch => ?_))
      · try dsimp only [Int.reduceToNat] at ch
        refine rRun hG 34 ?_
        refine rLess hG ?_ (J34 1901 0 t9 (by omega) (fun a ha => absurd ha (Nat.not_lt_zero _)) (by omega))
        · exact ⟨rfl, rfl, rfl, congrArg mi (by first | exact mfree_0 (by omega) | exact mfree_n (by omega)), congrArg mi (by first | exact mover_2 (by omega) | exact mover_n (by omega)), rfl, True.intro⟩
      · try dsimp only [Int.reduceToNat] at ch
        refine rRun hG 34 ?_
        refine rLess hG ?_ (J34 1901 0 t9 (by omega) (fun a ha => absurd ha (Nat.not_lt_zero _)) (by omega))
        · exact ⟨rfl, rfl, rfl, congrArg mi (by first | exact mfree_0 (by omega) | exact mfree_n (by omega)), congrArg mi (by first | exact mover_2 (by omega) | exact mover_n (by omega)), rfl, True.intro⟩
    · try dsimp only [Int.reduceToNat] at cg
      refine rRun hG 34 ?_
      refine rLess hG ?_ (J34 1901 0 t9 (by omega) (fun a ha => absurd ha (Nat.not_lt_zero _)) (by omega))
      · exact ⟨rfl, rfl, rfl, congrArg mi (by first | exact mfree_0 (by omega) | exact mfree_n (by omega)), congrArg mi (by first | exact mover_2 (by omega) | exact mover_n (by omega)), rfl, True.intro⟩
  · try dsimp only [Int.reduceToNat] at cf
    refine rRun hG 34 ?_
    refine And.intro (by first | omega | (dsimp only [Int.reduceToNat]; omega)) (And.intro (fun cg => ?_) (fun cg => ?_))
    · try dsimp only [Int.reduceToNat] at cg
      refine rRun hG 34 ?_
      refine And.intro (by first | omega | (dsimp only [Int.reduceToNat]; omega)) (And.intro (fun ch => ?_) (fun ch => ?_))
      · try dsimp only [Int.reduceToNat] at ch
        refine rRun hG 34 ?_
        refine rLess hG ?_ (J34 1901 0 t9 (by omega) (fun a ha => absurd ha (Nat.not_lt_zero _)) (by omega))
        · exact ⟨rfl, rfl, rfl, congrArg mi (by first | exact mfree_0 (by omega) | exact mfree_n (by omega)), congrArg mi (by first | exact mover_2 (by omega) | exact mover_n (by omega)), rfl, True.intro⟩
      · try dsimp only [Int.reduceToNat] at ch
        refine rRun hG 34 ?_
        refine rLess hG ?_ (J34 1901 0 t9 (by omega) (fun a ha => absurd ha (Nat.not_lt_zero _)) (by omega))
        · exact ⟨rfl, rfl, rfl, congrArg mi (by first | exact mfree_0 (by omega) | exact mfree_n (by omega)), congrArg mi (by first | exact mover_2 (by omega) | exact mover_n (by omega)), rfl, True.intro⟩
    · try dsimp only [Int.reduceToNat] at cg
      refine rRun hG 34 ?_
      refine rLess hG ?_ (J34 1901 0 t9 (by omega) (fun a ha => absurd ha (Nat.not_lt_zero _)) (by omega))
      · exact ⟨rfl, rfl, rfl, congrArg mi (by first | exact mfree_0 (by omega) | exact mfree_n (by omega)), congrArg mi (by first | exact mover_2 (by omega) | exact mover_n (by omega)), rfl, True.intro⟩
end WALKS
