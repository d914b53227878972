/-! the reference: could, ways, ask -/
section WALKS
variable {l : Launch}
theorem couF_bs {c g : FN} {d : Nat} (hc : B01 c) (hg : B01 g) (hd : d ≤ 13) : ∀ n, n ≤ 19 → couF c g d n = ((bs (fun i => decide (c (19 * d + i) = 1 ∧ g (19 * d + i) = 1)) n : Nat) : Int)
  | 0, _ => rfl
  | n + 1, hn => by
    show zor (couF c g d n) _ = _
    rw [couF_bs hc hg hd n (by omega)]
    have e : (c (19 * d + n) * g (19 * d + n) * (2 : Int) ^ n) = (((if decide (c (19 * d + n) = 1 ∧ g (19 * d + n) = 1) = true then 2 ^ n else 0 : Nat)) : Int) := by
      rcases hc (19 * d + n) (by omega) with e1 | e1 <;> rcases hg (19 * d + n) (by omega) with e2 | e2 <;> rw [e1, e2] <;> simp
    rw [e, bs_s]
    unfold zor
    rw [Int.toNat_natCast, Int.toNat_natCast]
def mcld (m : FN) (hn d i : Nat) : Bool := decide (CP m hn 0 (d + 1) ((i : Int) - 9) = 1 ∧ GP m hn (13 - d) ((i : Int) - 9) = 1)
theorem CP_01 {m : FN} {hn d : Nat} {x : Int} : CP m hn 0 d x = 0 ∨ CP m hn 0 d x = 1 := by
  cases d with
  | zero => show (if x = 0 then (1 : Int) else 0) = 0 ∨ (if x = 0 then (1 : Int) else 0) = 1; split <;> simp
  | succ d => rw [CP_s]; split <;> (try rw [if_pos rfl]) <;> (try split) <;> simp
theorem com_B {c m : FN} {hn : Nat} (h : comN c m hn 0 266) : B01 c := fun a ha => by rw [h a ha]; exact CP_01
theorem go_B {g m : FN} {hn : Nat} (h : ∀ a, a < 266 → g a = GP m hn (13 - a / 19) (((a % 19 : Nat) : Int) - 9)) : B01 g := fun a ha => by
  have := GP_in (m := m) (hn := hn) (j := 13 - a / 19) (x := ((a % 19 : Nat) : Int) - 9)
  rw [h a ha]; omega
theorem couF_st {c g m : FN} {hn d : Nat} (hc : comN c m hn 0 266) (hg : ∀ a, a < 266 → g a = GP m hn (13 - a / 19) (((a % 19 : Nat) : Int) - 9)) (hd : d ≤ 13) : couF c g d 19 = st19 (mcld m hn d) := by
  rw [couF_bs (com_B hc) (go_B hg) hd 19 (Nat.le_refl _)]
  unfold st19
  congr 1
  refine bs_ext (fun i hi => ?_)
  show decide (c (19 * d + i) = 1 ∧ g (19 * d + i) = 1) = decide _
  rw [hc _ (by omega), hg _ (by omega), show (19 * d + i) / 19 = d by omega, show (19 * d + i) % 19 = i by omega]
def wsm (P : Int → Int) : Nat → Int
  | 0 => 0
  | k + 1 => wsm P k + P ((k : Int) - 9)
theorem wsm_s {P : Int → Int} {k : Nat} : wsm P (k + 1) = wsm P k + P ((k : Int) - 9) := rfl
theorem wsm_in {P : Int → Int} (h : ∀ x, 0 ≤ P x ∧ P x ≤ 1000002) : ∀ k : Nat, 0 ≤ wsm P k ∧ wsm P k ≤ 1000002 * (k : Int)
  | 0 => by show (0 : Int) ≤ 0 ∧ (0 : Int) ≤ _; omega
  | k + 1 => by
    have ih := wsm_in h k
    have q := h ((k : Int) - 9)
    rw [wsm_s]; omega
def cnt (P : Nat → Bool) : Nat → Int
  | 0 => 0
  | k + 1 => cnt P k + (if P k = true then 1 else 0)
theorem cnt_s {P : Nat → Bool} {k : Nat} : cnt P (k + 1) = cnt P k + (if P k = true then 1 else 0) := rfl
theorem cnt_in {P : Nat → Bool} : ∀ k : Nat, 0 ≤ cnt P k ∧ cnt P k ≤ (k : Int)
  | 0 => by show (0 : Int) ≤ 0 ∧ (0 : Int) ≤ _; omega
  | k + 1 => by
    have ih := cnt_in (P := P) k
    rw [cnt_s]; split <;> omega
theorem zbit {P : Nat → Bool} {k : Nat} (hk : k < 19) : zand (st19 P / (2 : Int) ^ ((k : Int)).toNat) 1 = (if P k = true then 1 else 0) := by
  have h1 := bs_bit (P := P) (n := 19) (i := k)
  unfold st19 zand
  have e : ((bs P 19 : Nat) : Int) / (2 : Int) ^ ((k : Int)).toNat = ((bs P 19 / 2 ^ k : Nat) : Int) := by
    rw [Int.toNat_natCast]; simp
  rw [e, Int.toNat_natCast, show (1 : Int).toNat = 1 from rfl, Nat.and_one_is_mod]
  rw [Nat.testBit_eq_decide_div_mod_eq] at h1
  simp only [hk, decide_true, Bool.true_and] at h1
  rw [← h1]
  by_cases q : bs P 19 / 2 ^ k % 2 = 1
  · simp [q]
  · have : bs P 19 / 2 ^ k % 2 = 0 := by omega
    simp [this]
def akF (m : FN) (hn : Nat) : Nat → Int × Int
  | 0 => (0, -9)
  | d + 1 => if (akF m hn d).1 < cnt (mcld m hn d) 19 then (cnt (mcld m hn d) 19, (d : Int)) else akF m hn d
theorem akF_s {m : FN} {hn d : Nat} : akF m hn (d + 1) = if (akF m hn d).1 < cnt (mcld m hn d) 19 then (cnt (mcld m hn d) 19, (d : Int)) else akF m hn d := rfl
theorem akF_in {m : FN} {hn : Nat} : ∀ d, 0 ≤ (akF m hn d).1 ∧ (akF m hn d).1 ≤ 19
  | 0 => ⟨Int.le_refl _, by show (0 : Int) ≤ 19; omega⟩
  | d + 1 => by
    have := cnt_in (P := mcld m hn d) 19
    rw [akF_s]; split
    · show 0 ≤ cnt _ _ ∧ cnt _ _ ≤ 19; omega
    · exact akF_in d
set_option maxRecDepth 20000 in
set_option maxHeartbeats 1000000 in
theorem sp_X7_could {mt sd : TD} {ms mg mk : FN} {hn : Int} {mh : FN} {tr : Int} {mx : XD} {w9 t9 c9 g9 : FN} {d : Int} (hH : HOK mh) (hn6 : 0 ≤ hn ∧ hn ≤ 6) (h1 : inI d) : SpI l 4 yX7_could cX7_could 2 (some .int) [mr 0, mi d] (hM mt sd ms mg mk hn mh tr mx w9 t9 c9 g9) (fun z h => (¬ (0 ≤ d ∧ d ≤ 13) ∧ z = -1 ∧ h = hM mt sd ms mg mk hn mh tr mx w9 t9 c9 g9) ∨ ((0 ≤ d ∧ d ≤ 13) ∧ z = st19 (mcld mh hn.toNat d.toNat) ∧ ∃ c5 g5 : FN, h = hM mt sd ms mg mk hn mh tr mx w9 t9 c5 g5)) := by
  refine SpI.of (cd := kdX7_could) (fT := mlook flX7) (kT := mlook klX7) (kJ := mlook jlX7) mfA_X7_could ok_X7_could fT_X7 kT_X7 jT_X7 jdk_ok True.intro (Nat.le_of_ble_eq_true rfl) (fun G hG => ?_)
  refine rRun hG 17 ?_
  refine rS hG (sp_X7_in (v := d) (a := 0) (b := 13) (by omega)) rfl rfl lk_X7_66 mf_X7_in (by decide) (Nat.le_of_ble_eq_true rfl) ?_
  rintro w1 _ ⟨hw1, rfl⟩
  have w11 : (w1 = 1 ∧ (0 ≤ d ∧ d ≤ 13)) ∨ (w1 = 0 ∧ ¬ (0 ≤ d ∧ d ≤ 13)) := (by rw [hw1]; by_cases q9 : (0 ≤ d ∧ d ≤ 13) <;> simp [q9])
  clear hw1
  refine rRun hG 17 ?_
  refine And.intro (by first | omega | (dsimp only [Int.reduceToNat]; omega)) (And.intro (fun c2 => ?_) (fun c2 => ?_))
  · try dsimp only [Int.reduceToNat] at c2
    refine rRun hG 17 ?_
    refine rVV hG (sp_X7_findHeard (mt := mt) (sd := sd) (ms := ms) (mg := mg) (mk := mk) (hn := hn) (mh := mh) (tr := tr) (mx := mx) (w9 := w9) (t9 := t9) (c9 := c9) (g9 := g9) (ct := 0) hH hn6 (by omega)) rfl rfl lk_X7_244 mf_X7_findHeard (by decide) (Nat.le_of_ble_eq_true rfl) ⟨_, _, _, rfl, rfl, rfl⟩ ?_
    rintro _ ⟨c5, g5, hc5, hg5, rfl⟩
    obtain ⟨d, rfl⟩ : ∃ q : Nat, d = (q : Int) := ⟨d.toNat, by omega⟩
    refine rRun hG 99999 ?_
    refine rV hG (sp_X7_couldOf (mt := mt) (sd := sd) (ms := ms) (mg := mg) (mk := mk) (hn := hn) (mh := mh) (tr := tr) (mx := mx) (w9 := w9) (t9 := t9) (c9 := c5) (g9 := g5) (d := d) (com_B hc5) (go_B hg5) (by omega)) rfl rfl lk_X7_248 mf_X7_couldOf (by decide) (Nat.le_of_ble_eq_true rfl) ⟨_, _, _, rfl, rfl, rfl⟩ ?_
    rintro _ _ ⟨rfl, rfl⟩
    rw [couF_st hc5 hg5 (by omega)]
    refine rIR hG rfl rfl (True.intro) ?_
    exact Or.inr ⟨by omega, by rw [Int.toNat_natCast], c5, g5, rfl⟩
  · try dsimp only [Int.reduceToNat] at c2
    refine rIR hG rfl rfl (True.intro) ?_
    exact Or.inl ⟨by omega, rfl, rfl⟩
set_option maxRecDepth 20000 in
set_option maxHeartbeats 1000000 in
theorem sp_X7_ways {mt sd : TD} {ms mg mk : FN} {hn : Int} {mh : FN} {tr : Int} {mx : XD} {w9 t9 c9 g9 : FN}  (hH : HOK mh) (hn6 : 0 ≤ hn ∧ hn ≤ 6) : SpI l 4 yX7_ways cX7_ways 3 (some .int) [mr 0] (hM mt sd ms mg mk hn mh tr mx w9 t9 c9 g9) (fun z h => z = wsm (CP mh hn.toNat 1 14) 19 % 1000003 ∧ ∃ c5 g5 : FN, h = hM mt sd ms mg mk hn mh tr mx w9 t9 c5 g5) := by
  refine SpI.of (cd := kdX7_ways) (fT := mlook flX7) (kT := mlook klX7) (kJ := mlook jlX7) mfA_X7_ways ok_X7_ways fT_X7 kT_X7 jT_X7 jdk_ok True.intro (Nat.le_of_ble_eq_true rfl) (fun G hG => ?_)
  refine rRun hG 9 ?_
  refine rVV hG (sp_X7_findHeard (mt := mt) (sd := sd) (ms := ms) (mg := mg) (mk := mk) (hn := hn) (mh := mh) (tr := tr) (mx := mx) (w9 := w9) (t9 := t9) (c9 := c9) (g9 := g9) (ct := 1) hH hn6 (by omega)) rfl rfl lk_X7_244 mf_X7_findHeard (by decide) (Nat.le_of_ble_eq_true rfl) ⟨_, _, _, rfl, rfl, rfl⟩ ?_
  rintro _ ⟨c5, g5, hc5, hg5, rfl⟩
  refine rRun hG 9 ?_
  have J9 : ∀ (n : Nat) (k : Nat), k ≤ 19 → 19 - k < n → G 9 [some (mr 0), some (mi (wsm (CP mh hn.toNat 1 14) k)), some (mi (k : Int))] [] (hM mt sd ms mg mk hn mh tr mx w9 t9 c5 g5) := by
    intro n
    induction n with
    | zero => intro k _ hm; exact absurd hm (Nat.not_lt_zero _)
    | succ n ih =>
      intro k hinv hm
      have hs := wsm_in (P := CP mh hn.toNat 1 14) (fun x => CP_in 14 x) k
      have hv : k < 19 → c5 (247 + (k : Int)).toNat = CP mh hn.toNat 1 14 ((k : Int) - 9) := fun q => by
        rw [hc5 _ (by omega), show (247 + (k : Int)).toNat / 19 = 13 by omega, show (((247 + (k : Int)).toNat % 19 : Nat) : Int) - 9 = (k : Int) - 9 by omega]
      refine rRun hG 99999 ?_
      refine And.intro (by first | omega | (dsimp only [Int.reduceToNat]; omega)) (And.intro (fun c2 => ?_) (fun c2 => ?_))
      · try dsimp only [Int.reduceToNat] at c2
        refine rRun hG 99999 ?_
        refine And.intro (by first | omega | (dsimp only [Int.reduceToNat]; omega)) (?_)
        refine rIR hG rfl rfl (True.intro) ?_
        obtain rfl : k = 19 := by omega
        exact ⟨rfl, c5, g5, rfl⟩
      · try dsimp only [Int.reduceToNat] at c2
        refine And.intro rfl (And.intro (by first | omega | (dsimp only [Int.reduceToNat]; omega)) (?_))
        refine rLess hG ?_ (ih (k + 1) (by omega) (by omega))
        exact ⟨rfl, congrArg mi (by rw [hv (by omega)]; rfl), rfl, True.intro⟩
  exact J9 _ 0 (by omega) (Nat.lt_succ_self _)
set_option maxRecDepth 20000 in
set_option maxHeartbeats 1000000 in
theorem sp_X7_ask {mt sd : TD} {ms mg mk : FN} {hn : Int} {mh : FN} {tr : Int} {mx : XD} {w9 t9 c9 g9 : FN}  (hH : HOK mh) (hn6 : 0 ≤ hn ∧ hn ≤ 6) : SpI l 4 yX7_ask cX7_ask 7 (some .int) [mr 0] (hM mt sd ms mg mk hn mh tr mx w9 t9 c9 g9) (fun z h => z = (akF mh hn.toNat 14).2 ∧ ∃ c5 g5 : FN, h = hM mt sd ms mg mk hn mh tr mx w9 t9 c5 g5) := by
  refine SpI.of (cd := kdX7_ask) (fT := mlook flX7) (kT := mlook klX7) (kJ := mlook jlX7) mfA_X7_ask ok_X7_ask fT_X7 kT_X7 jT_X7 jdk_ok True.intro (Nat.le_of_ble_eq_true rfl) (fun G hG => ?_)
  refine rRun hG 99999 ?_
  refine rVV hG (sp_X7_findHeard (mt := mt) (sd := sd) (ms := ms) (mg := mg) (mk := mk) (hn := hn) (mh := mh) (tr := tr) (mx := mx) (w9 := w9) (t9 := t9) (c9 := c9) (g9 := g9) (ct := 0) hH hn6 (by omega)) rfl rfl lk_X7_244 mf_X7_findHeard (by decide) (Nat.le_of_ble_eq_true rfl) ⟨_, _, _, rfl, rfl, rfl⟩ ?_
  rintro _ ⟨c5, g5, hc5, hg5, rfl⟩
  have J12 : ∀ (m d : Nat), d ≤ 14 → 14 - d < m → G 12 [some (mr 0), some (mi ((akF mh hn.toNat d).2)), some (mi ((akF mh hn.toNat d).1)), some (mi ((d : Int))), none, none, none] [] (hM mt sd ms mg mk hn mh tr mx w9 t9 c5 g5) := by
    intro m
    induction m with
    | zero => intro d _ hm; exact absurd hm (Nat.not_lt_zero _)
    | succ m ih =>
      intro d hd hm
      have hk := akF_in (m := mh) (hn := hn.toNat) d
      have hcn := cnt_in (P := (mcld mh hn.toNat d)) 19
      have J56 : d < 14 → G 56 [some (mr 0), some (mi ((akF mh hn.toNat d).2)), some (mi ((akF mh hn.toNat d).1)), some (mi ((d : Int))), some (mi (cnt (mcld mh hn.toNat d) 19)), none, none] [] (hM mt sd ms mg mk hn mh tr mx w9 t9 c5 g5) := by
        intro hd2
        refine rRun hG 99999 ?_
        refine And.intro (by first | omega | (dsimp only [Int.reduceToNat]; omega)) (And.intro (fun c1 => ?_) (fun c1 => ?_))
        · try dsimp only [Int.reduceToNat] at c1
          refine rRun hG 99999 ?_
          refine And.intro (by first | omega | (dsimp only [Int.reduceToNat]; omega)) (And.intro (fun c2 => ?_) (fun c2 => ?_))
          · try dsimp only [Int.reduceToNat] at c2
            refine rRun hG 99999 ?_
            refine rLess hG ?_ (ih (d + 1) (by omega) (by omega))
            exact ⟨rfl, congrArg mi (by rw [akF_s]; first | (exfalso; omega) | (rw [if_pos (by omega)]; done) | (rw [if_neg (by omega)]; done)), congrArg mi (by rw [akF_s]; first | (exfalso; omega) | (rw [if_pos (by omega)]; done) | (rw [if_neg (by omega)]; done)), rfl, True.intro⟩
          · try dsimp only [Int.reduceToNat] at c2
            refine rRun hG 99999 ?_
            refine rLess hG ?_ (ih (d + 1) (by omega) (by omega))
            exact ⟨rfl, congrArg mi (by rw [akF_s]; first | (exfalso; omega) | (rw [if_pos (by omega)]; done) | (rw [if_neg (by omega)]; done)), congrArg mi (by rw [akF_s]; first | (exfalso; omega) | (rw [if_pos (by omega)]; done) | (rw [if_neg (by omega)]; done)), rfl, True.intro⟩
        · try dsimp only [Int.reduceToNat] at c1
          refine rRun hG 99999 ?_
          refine And.intro (by first | omega | (dsimp only [Int.reduceToNat]; omega)) (And.intro (fun c3 => ?_) (fun c3 => ?_))
          · try dsimp only [Int.reduceToNat] at c3
            refine rRun hG 99999 ?_
            refine rLess hG ?_ (ih (d + 1) (by omega) (by omega))
            exact ⟨rfl, congrArg mi (by rw [akF_s]; first | (exfalso; omega) | (rw [if_pos (by omega)]; done) | (rw [if_neg (by omega)]; done)), congrArg mi (by rw [akF_s]; first | (exfalso; omega) | (rw [if_pos (by omega)]; done) | (rw [if_neg (by omega)]; done)), rfl, True.intro⟩
          · try dsimp only [Int.reduceToNat] at c3
            refine rRun hG 99999 ?_
            refine rLess hG ?_ (ih (d + 1) (by omega) (by omega))
            exact ⟨rfl, congrArg mi (by rw [akF_s]; first | (exfalso; omega) | (rw [if_pos (by omega)]; done) | (rw [if_neg (by omega)]; done)), congrArg mi (by rw [akF_s]; first | (exfalso; omega) | (rw [if_pos (by omega)]; done) | (rw [if_neg (by omega)]; done)), rfl, True.intro⟩
      have J31 : d < 14 → ∀ (m k : Nat), k ≤ 19 → 19 - k < m → G 31 [some (mr 0), some (mi ((akF mh hn.toNat d).2)), some (mi ((akF mh hn.toNat d).1)), some (mi ((d : Int))), some (mi (cnt (mcld mh hn.toNat d) k)), some (mi (st19 (mcld mh hn.toNat d))), some (mi ((k : Int)))] [] (hM mt sd ms mg mk hn mh tr mx w9 t9 c5 g5) := by
        intro hd2 m
        induction m with
        | zero => intro k _ hm; exact absurd hm (Nat.not_lt_zero _)
        | succ m ih2 =>
          intro k hk2 hm
          have hst := st19_in (P := (mcld mh hn.toNat d))
          have hz : k < 19 → zand (st19 (mcld mh hn.toNat d) / (2 : Int) ^ ((k : Int)).toNat) 1 = (if (mcld mh hn.toNat d) k = true then 1 else 0) := fun q => zbit q
          have hdv : 0 ≤ st19 (mcld mh hn.toNat d) / (2 : Int) ^ ((k : Int)).toNat := Int.ediv_nonneg hst.1 (Int.pow_nonneg (by decide))
          refine rRun hG 56 ?_
          refine And.intro (by first | omega | (dsimp only [Int.reduceToNat]; omega)) (And.intro (fun c1 => ?_) (fun c1 => ?_))
          · try dsimp only [Int.reduceToNat] at c1
            obtain rfl : k = 19 := by omega
            refine rLess hG ?_ (J56 hd2)
            exact ⟨rfl, rfl, rfl, rfl, rfl, True.intro⟩
          · try dsimp only [Int.reduceToNat] at c1
            refine And.intro (by first | omega | (dsimp only [Int.reduceToNat]; omega)) (And.intro (by exact ⟨hdv, by decide⟩) (?_))
            refine rLess hG ?_ (ih2 (k + 1) (by omega) (by omega))
            exact ⟨rfl, rfl, rfl, rfl, congrArg mi (by rw [hz (by omega)]; rfl), rfl, rfl, True.intro⟩
      refine rRun hG 31 ?_
      refine And.intro (by first | omega | (dsimp only [Int.reduceToNat]; omega)) (And.intro (fun c1 => ?_) (fun c1 => ?_))
      · try dsimp only [Int.reduceToNat] at c1
        refine rRun hG 99999 ?_
        refine rIR hG rfl rfl (True.intro) ?_
        obtain rfl : d = 14 := by omega
        exact ⟨rfl, c5, g5, rfl⟩
      · try dsimp only [Int.reduceToNat] at c1
        refine rV hG (sp_X7_couldOf (mt := mt) (sd := sd) (ms := ms) (mg := mg) (mk := mk) (hn := hn) (mh := mh) (tr := tr) (mx := mx) (w9 := w9) (t9 := t9) (c9 := c5) (g9 := g5) (d := d) (com_B hc5) (go_B hg5) (by omega)) rfl rfl lk_X7_248 mf_X7_couldOf (by decide) (Nat.le_of_ble_eq_true rfl) ⟨_, _, _, rfl, rfl, rfl⟩ ?_
        rintro _ _ ⟨rfl, rfl⟩
        rw [couF_st hc5 hg5 (by omega)]
        refine rRun hG 31 ?_
        refine rLess hG ?_ (J31 (by omega) 20 0 (by omega) (by omega))
        exact ⟨rfl, rfl, rfl, rfl, rfl, rfl, rfl, True.intro⟩
  refine rRun hG 12 ?_
  refine rLess hG ?_ (J12 15 0 (by omega) (by omega))
  exact ⟨rfl, rfl, rfl, rfl, True.intro⟩
end WALKS
