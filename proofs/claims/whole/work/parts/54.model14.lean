/-! the reference: what was heard, behind all days -/
section WALKS
variable {l : Launch}
theorem hrdF_out {m : FN} {d e : Int} (h : 9 < max e (-e)) : ∀ i, hrdF m d e i = 0
  | 0 => if_neg (by omega)
  | i + 1 => by rw [hrdF_s, hrdF_out h i]; exact if_neg (fun q => absurd q.1 (by decide))
def csm (P : Int → Int) (e : Int) : Nat → Int
  | 0 => 0
  | i + 1 => csm P e i + P (e - ((i : Int) - 2))
theorem csm_s {P : Int → Int} {e : Int} {i : Nat} : csm P e (i + 1) = csm P e i + P (e - ((i : Int) - 2)) := rfl
def gsm (P : Int → Int) (e : Int) : Nat → Int
  | 0 => 0
  | i + 1 => gsm P e i + P (e + ((i : Int) - 2))
theorem gsm_s {P : Int → Int} {e : Int} {i : Nat} : gsm P e (i + 1) = gsm P e i + P (e + ((i : Int) - 2)) := rfl
def CP (m : FN) (hn : Nat) (ct : Int) : Nat → Int → Int
  | 0, x => if x = 0 then 1 else 0
  | d + 1, x => if hrdF m (d : Int) x hn = 0 then 0 else if ct = 0 then (if 0 < csm (CP m hn ct d) x 6 then 1 else 0) else csm (CP m hn ct d) x 6 % 1000003
theorem CP_s {m : FN} {hn : Nat} {ct : Int} {d : Nat} {x : Int} : CP m hn ct (d + 1) x = if hrdF m (d : Int) x hn = 0 then 0 else if ct = 0 then (if 0 < csm (CP m hn ct d) x 6 then 1 else 0) else csm (CP m hn ct d) x 6 % 1000003 := rfl
theorem csm_in {P : Int → Int} {e : Int} (h : ∀ x, 0 ≤ P x ∧ P x ≤ 1000002) : ∀ i : Nat, 0 ≤ csm P e i ∧ csm P e i ≤ 1000002 * (i : Int)
  | 0 => by show (0 : Int) ≤ 0 ∧ (0 : Int) ≤ _; omega
  | i + 1 => by
    have ih := csm_in h (e := e) i
    have q := h (e - ((i : Int) - 2))
    rw [csm_s]; omega
theorem gsm_in {P : Int → Int} {e : Int} (h : ∀ x, 0 ≤ P x ∧ P x ≤ 1) : ∀ i : Nat, 0 ≤ gsm P e i ∧ gsm P e i ≤ (i : Int)
  | 0 => by show (0 : Int) ≤ 0 ∧ (0 : Int) ≤ _; omega
  | i + 1 => by
    have ih := gsm_in h (e := e) i
    have q := h (e + ((i : Int) - 2))
    rw [gsm_s]; omega
theorem CP_in {m : FN} {hn : Nat} {ct : Int} : ∀ (d : Nat) (x : Int), 0 ≤ CP m hn ct d x ∧ CP m hn ct d x ≤ 1000002
  | 0, x => by
    show 0 ≤ (if x = 0 then (1 : Int) else 0) ∧ (if x = 0 then (1 : Int) else 0) ≤ 1000002
    split <;> omega
  | d + 1, x => by
    rw [CP_s]
    split
    · omega
    · split
      · split <;> omega
      · omega
theorem CP_out {m : FN} {hn : Nat} {ct : Int} {d : Nat} {x : Int} (h : 9 < max x (-x)) : CP m hn ct d x = 0 := by
  cases d with
  | zero => exact if_neg (by omega)
  | succ d => rw [CP_s, hrdF_out h]; exact if_pos rfl
def GP (m : FN) (hn : Nat) : Nat → Int → Int
  | 0, x => if hrdF m 13 x hn = 1 ∧ (0 : Int) < 1 then 1 else 0
  | j + 1, x => if hrdF m (13 - (((j + 1 : Nat)) : Int)) x hn = 1 ∧ 0 < gsm (GP m hn j) x 6 then 1 else 0
def GN (m : FN) (hn : Nat) : Nat → Int → Int
  | 0, _ => 1
  | j + 1, x => gsm (GP m hn j) x 6
theorem GP_e {m : FN} {hn : Nat} {j : Nat} {x : Int} : GP m hn j x = if hrdF m (13 - (j : Int)) x hn = 1 ∧ 0 < GN m hn j x then 1 else 0 := by
  cases j <;> rfl
theorem GP_in {m : FN} {hn : Nat} {j : Nat} {x : Int} : 0 ≤ GP m hn j x ∧ GP m hn j x ≤ 1 := by
  rw [GP_e]; split <;> omega
theorem GP_out {m : FN} {hn : Nat} {j : Nat} {x : Int} (h : 9 < max x (-x)) : GP m hn j x = 0 := by
  rw [GP_e, hrdF_out h]; exact if_neg (fun q => absurd q.1 (by decide))
def comN (c : FN) (m : FN) (hn : Nat) (ct : Int) (n : Nat) : Prop := ∀ a, a < n → c a = CP m hn ct (a / 19 + 1) (((a % 19 : Nat) : Int) - 9)
def goN (g : FN) (m : FN) (hn : Nat) (j i : Nat) : Prop := ∀ a, a < 266 → (19 * (14 - j) ≤ a ∨ (19 * (13 - j) ≤ a ∧ a < 19 * (13 - j) + i)) → g a = GP m hn (13 - a / 19) (((a % 19 : Nat) : Int) - 9)
theorem comN_F {c m : FN} {hn : Nat} {ct : Int} {d n : Nat} (h : comN c m hn ct n) (hd : 19 * d ≤ n) {x : Int} : comF c ((d : Int) - 1) x = CP m hn ct d x := by
  unfold comF
  cases d with
  | zero => rw [if_pos (by omega)]; rfl
  | succ d =>
    rw [if_neg (by omega)]
    by_cases q : 9 < max x (-x)
    · rw [if_pos q, CP_out q]
    · rw [if_neg q, h _ (by omega), show (19 * (((d + 1 : Nat) : Int) - 1) + x + 9).toNat / 19 = d by omega, show (((19 * (((d + 1 : Nat) : Int) - 1) + x + 9).toNat % 19 : Nat) : Int) - 9 = x by omega]
theorem goN_F {g m : FN} {hn j i : Nat} (h : goN g m hn (j + 1) i) (hj : j ≤ 13) {x : Int} : goeF g (13 - (j : Int)) x = GP m hn j x := by
  unfold goeF
  by_cases q : 9 < max x (-x)
  · rw [if_pos q, GP_out q]
  · rw [if_neg q, h _ (by omega) (Or.inl (by omega)), show 13 - (19 * (13 - (j : Int)) + x + 9).toNat / 19 = j by omega, show (((19 * (13 - (j : Int)) + x + 9).toNat % 19 : Nat) : Int) - 9 = x by omega]
theorem comN_put {c m : FN} {hn : Nat} {ct : Int} {d i q : Nat} (hi : i < 19) (h : comN c m hn ct (19 * d + i)) {v : Int} (hq : q = 19 * d + i) (hv : v = CP m hn ct (d + 1) ((i : Int) - 9)) : comN (mup c q v) m hn ct (19 * d + (i + 1)) := by
  subst hq
  intro a ha
  by_cases z : a = 19 * d + i
  · subst z
    rw [mup_s, hv, show (19 * d + i) / 19 = d by omega, show (19 * d + i) % 19 = i by omega]
  · rw [mup_n z]; exact h a (by omega)
theorem goN_put {g m : FN} {hn j i q : Nat} (hj : j ≤ 13) (hi : i < 19) (h : goN g m hn j i) {v : Int} (hq : q = 19 * (13 - j) + i) (hv : v = GP m hn j ((i : Int) - 9)) : goN (mup g q v) m hn j (i + 1) := by
  subst hq
  intro a ha hb
  by_cases z : a = 19 * (13 - j) + i
  · subst z
    rw [mup_s, hv, show 13 - (19 * (13 - j) + i) / 19 = j by omega, show (19 * (13 - j) + i) % 19 = i by omega]
  · rw [mup_n z]; exact h a ha (by omega)
theorem goN_next {g m : FN} {hn j : Nat} (hj : j ≤ 13) (h : goN g m hn j 19) : goN g m hn (j + 1) 0 := fun a ha hb => h a ha (by omega)
set_option maxRecDepth 20000 in
set_option maxHeartbeats 2000000 in
theorem sp_X7_findHeard {mt sd : TD} {ms mg mk : FN} {hn : Int} {mh : FN} {tr : Int} {mx : XD} {w9 t9 c9 g9 : FN} {ct : Int} (hH : HOK mh) (hn6 : 0 ≤ hn ∧ hn ≤ 6) (h1 : inI ct) : SpV l 3 yX7_findHeard cX7_findHeard 6 none [mr 0, mi ct] (hM mt sd ms mg mk hn mh tr mx w9 t9 c9 g9) (fun h => ∃ c g : FN, comN c mh hn.toNat ct 266 ∧ (∀ a, a < 266 → g a = GP mh hn.toNat (13 - a / 19) (((a % 19 : Nat) : Int) - 9)) ∧ h = hM mt sd ms mg mk hn mh tr mx w9 t9 c g) := by
  refine SpV.of (cd := kdX7_findHeard) (fT := mlook flX7) (kT := mlook klX7) (kJ := mlook jlX7) mfA_X7_findHeard ok_X7_findHeard fT_X7 kT_X7 jT_X7 jdk_ok True.intro (Nat.le_of_ble_eq_true rfl) (fun G hG => ?_)
  have J24 : ∀ (d i : Nat) (c : FN), d ≤ 13 → i < 19 → comN c mh hn.toNat ct (19 * d + i) → G 52 [some (mr 0), some (mi ct), some (mi ((d : Int))), some (mi ((i : Int) - 9)), some (mi (csm (CP mh hn.toNat ct d) ((i : Int) - 9) 6)), none] [] (hM mt sd ms mg mk hn mh tr mx w9 t9 c g9) → ∀ (m k : Nat), k ≤ 6 → 6 - k < m → G 24 [some (mr 0), some (mi ct), some (mi ((d : Int))), some (mi ((i : Int) - 9)), some (mi (csm (CP mh hn.toNat ct d) ((i : Int) - 9) k)), some (mi ((k : Int) - 2))] [] (hM mt sd ms mg mk hn mh tr mx w9 t9 c g9) := by
    intro d i c hd hi hc hcont m
    induction m with
    | zero => intro k _ hm; exact absurd hm (Nat.not_lt_zero _)
    | succ m ih =>
      intro k hk hm
      refine rRun hG 52 ?_
      refine And.intro (by first | omega | (dsimp only [Int.reduceToNat]; omega)) (And.intro (fun c1 => ?_) (fun c1 => ?_))
      · try dsimp only [Int.reduceToNat] at c1
        obtain rfl : k = 6 := by omega
        refine rLess hG ?_ hcont
        · exact ⟨rfl, rfl, rfl, rfl, rfl, True.intro⟩
      · try dsimp only [Int.reduceToNat] at c1
        refine rV hG (sp_X7_comeTo (mt := mt) (sd := sd) (ms := ms) (mg := mg) (mk := mk) (hn := hn) (mh := mh) (tr := tr) (mx := mx) (w9 := w9) (t9 := t9) (c9 := c) (g9 := g9) (d := (d : Int) - 1) (e := (i : Int) - 9 - ((k : Int) - 2)) (by omega) (by omega)) rfl rfl lk_X7_234 mf_X7_comeTo (by decide) (Nat.le_of_ble_eq_true rfl) ⟨_, _, _, rfl, rfl, rfl⟩ ?_
        rintro _ _ ⟨rfl, rfl⟩
        rw [comN_F hc (by omega)]
        refine rRun hG 52 ?_
        refine rLess hG ?_ (ih (k + 1) (by omega) (by omega))
        · exact ⟨rfl, rfl, rfl, rfl, rfl, congrArg mi (by omega), True.intro⟩
  have J11 : ∀ (d : Nat), d ≤ 13 → (∀ c : FN, comN c mh hn.toNat ct (19 * (d + 1)) → G 107 [some (mr 0), some (mi ct), some (mi ((d : Int))), none, none, none] [] (hM mt sd ms mg mk hn mh tr mx w9 t9 c g9)) → ∀ (m i : Nat) (c : FN), i ≤ 19 → comN c mh hn.toNat ct (19 * d + i) → 19 - i < m → G 11 [some (mr 0), some (mi ct), some (mi ((d : Int))), some (mi ((i : Int) - 9)), none, none] [] (hM mt sd ms mg mk hn mh tr mx w9 t9 c g9) := by
    intro d hd hcont m
    induction m with
    | zero => intro i c _ _ hm; exact absurd hm (Nat.not_lt_zero _)
    | succ m ih =>
      intro i c hi hc hm
      have J100 : i < 19 → ∀ v : Int, v = CP mh hn.toNat ct (d + 1) ((i : Int) - 9) → G 100 [some (mr 0), some (mi ct), some (mi ((d : Int))), some (mi ((i : Int) - 9)), none, none] [mi v, mi (19 * (d : Int) + ((i : Int) - 9) + 9), mr 14] (hM mt sd ms mg mk hn mh tr mx w9 t9 c g9) := by
        intro hi2 v hv
        refine rRun hG 99999 ?_
        refine And.intro (by first | omega | (dsimp only [Int.reduceToNat]; omega)) (?_)
        refine rLess hG ?_ (ih (i + 1) (mup c (19 * (d : Int) + ((i : Int) - 9) + 9).toNat v) (by omega) (comN_put hi2 hc (by omega) hv) (by omega))
        · exact ⟨rfl, rfl, rfl, congrArg mi (by omega), True.intro⟩
      have J52 : i < 19 → G 52 [some (mr 0), some (mi ct), some (mi ((d : Int))), some (mi ((i : Int) - 9)), some (mi (csm (CP mh hn.toNat ct d) ((i : Int) - 9) 6)), none] [] (hM mt sd ms mg mk hn mh tr mx w9 t9 c g9) := by
        intro hi2
        have hs := csm_in (P := (CP mh hn.toNat ct d)) (e := (i : Int) - 9) (fun x => CP_in d x) 6
        refine rRun hG 100 ?_
        refine And.intro rfl (?_)
        refine rV hG (sp_X7_isHeard (mt := mt) (sd := sd) (ms := ms) (mg := mg) (mk := mk) (hn := hn) (mh := mh) (tr := tr) (mx := mx) (w9 := w9) (t9 := t9) (c9 := c) (g9 := g9) (d := (d : Int)) (e := (i : Int) - 9) hH (by omega) (by omega) hn6) rfl rfl lk_X7_237 mf_X7_isHeard (by decide) (Nat.le_of_ble_eq_true rfl) ⟨_, _, _, rfl, rfl, rfl⟩ ?_
        rintro _ _ ⟨rfl, rfl⟩
        have h01 := hrdF_01 (m := mh) (d := (d : Int)) (e := (i : Int) - 9) hn.toNat
        refine rRun hG 100 ?_
        refine And.intro (by first | omega | (dsimp only [Int.reduceToNat]; omega)) (And.intro (fun c2 => ?_) (fun c2 => ?_))
        · try dsimp only [Int.reduceToNat] at c2
          refine rRun hG 100 ?_
          refine And.intro (by first | omega | (dsimp only [Int.reduceToNat]; omega)) (And.intro (fun c3 => ?_) (fun c3 => ?_))
          · try dsimp only [Int.reduceToNat] at c3
            refine rRun hG 100 ?_
            refine And.intro (by first | omega | (dsimp only [Int.reduceToNat]; omega)) (And.intro (fun c4 => ?_) (fun c4 => ?_))
            · try dsimp only [Int.reduceToNat] at c4
              refine rRun hG 100 ?_
              refine rLess hG ?_ (J100 hi2 _ ?_)
              · exact ⟨rfl, rfl, rfl, rfl, True.intro⟩
              rw [CP_s]
              first | (rw [if_pos (by omega)]; done) | (rw [if_neg (by omega), if_neg (by omega)]; done) | (rw [if_neg (by omega), if_pos (by omega), if_pos (by omega)]; done) | (rw [if_neg (by omega), if_pos (by omega), if_neg (by omega)]; done)
            · try dsimp only [Int.reduceToNat] at c4
              refine rLess hG ?_ (J100 hi2 _ ?_)
              · exact ⟨rfl, rfl, rfl, rfl, True.intro⟩
              rw [CP_s]
              first | (rw [if_pos (by omega)]; done) | (rw [if_neg (by omega), if_neg (by omega)]; done) | (rw [if_neg (by omega), if_pos (by omega), if_pos (by omega)]; done) | (rw [if_neg (by omega), if_pos (by omega), if_neg (by omega)]; done)
          · try dsimp only [Int.reduceToNat] at c3
            refine And.intro (by first | omega | (dsimp only [Int.reduceToNat]; omega)) (?_)
            refine rLess hG ?_ (J100 hi2 _ ?_)
            · exact ⟨rfl, rfl, rfl, rfl, True.intro⟩
            rw [CP_s]
            first | (rw [if_pos (by omega)]; done) | (rw [if_neg (by omega), if_neg (by omega)]; done) | (rw [if_neg (by omega), if_pos (by omega), if_pos (by omega)]; done) | (rw [if_neg (by omega), if_pos (by omega), if_neg (by omega)]; done)
        · try dsimp only [Int.reduceToNat] at c2
          refine rLess hG ?_ (J100 hi2 _ ?_)
          · exact ⟨rfl, rfl, rfl, rfl, True.intro⟩
          rw [CP_s]
          first | (rw [if_pos (by omega)]; done) | (rw [if_neg (by omega), if_neg (by omega)]; done) | (rw [if_neg (by omega), if_pos (by omega), if_pos (by omega)]; done) | (rw [if_neg (by omega), if_pos (by omega), if_neg (by omega)]; done)
      refine rRun hG 24 ?_
      refine And.intro (by first | omega | (dsimp only [Int.reduceToNat]; omega)) (And.intro (fun c1 => ?_) (fun c1 => ?_))
      · try dsimp only [Int.reduceToNat] at c1
        obtain rfl : i = 19 := by omega
        refine rLess hG ?_ (hcont c (by rw [show 19 * (d + 1) = 19 * d + 19 by omega]; exact hc))
        · exact ⟨rfl, rfl, rfl, True.intro⟩
      · try dsimp only [Int.reduceToNat] at c1
        refine rLess hG ?_ (J24 d i c hd (by omega) hc (J52 (by omega)) 7 0 (by omega) (by omega))
        · exact ⟨rfl, rfl, rfl, rfl, rfl, rfl, True.intro⟩
  have J116 : ∀ (m j : Nat) (g c : FN), j ≤ 14 → comN c mh hn.toNat ct 266 → goN g mh hn.toNat j 0 → 14 - j < m → G 116 [some (mr 0), some (mi ct), some (mi (13 - (j : Int))), none, none, none] [] (hM mt sd ms mg mk hn mh tr mx w9 t9 c g) := by
    intro m
    induction m with
    | zero => intro j g c _ _ _ hm; exact absurd hm (Nat.not_lt_zero _)
    | succ m ih =>
      intro j g c hj hc hg hm
      have J219 : j < 14 → ∀ g : FN, goN g mh hn.toNat j 19 → G 219 [some (mr 0), some (mi ct), some (mi (13 - (j : Int))), none, none, none] [] (hM mt sd ms mg mk hn mh tr mx w9 t9 c g) := by
        intro hj2 g hg2
        refine rRun hG 99999 ?_
        refine rLess hG ?_ (ih (j + 1) g c (by omega) hc (goN_next (by omega) hg2) (by omega))
        · exact ⟨rfl, rfl, congrArg mi (by omega), True.intro⟩
      have J123 : j < 14 → ∀ (m i : Nat) (g : FN), i ≤ 19 → goN g mh hn.toNat j i → 19 - i < m → G 123 [some (mr 0), some (mi ct), some (mi (13 - (j : Int))), some (mi ((i : Int) - 9)), none, none] [] (hM mt sd ms mg mk hn mh tr mx w9 t9 c g) := by
        intro hj2 m
        induction m with
        | zero => intro i g _ _ hm; exact absurd hm (Nat.not_lt_zero _)
        | succ m ih2 =>
          intro i g hi hg hm
          have J212 : i < 19 → ∀ v : Int, v = GP mh hn.toNat j ((i : Int) - 9) → G 212 [some (mr 0), some (mi ct), some (mi (13 - (j : Int))), some (mi ((i : Int) - 9)), none, none] [mi v, mi (19 * (13 - (j : Int)) + ((i : Int) - 9) + 9), mr 15] (hM mt sd ms mg mk hn mh tr mx w9 t9 c g) := by
            intro hi2 v hv
            refine rRun hG 99999 ?_
            refine And.intro (by first | omega | (dsimp only [Int.reduceToNat]; omega)) (?_)
            refine rLess hG ?_ (ih2 (i + 1) (mup g (19 * (13 - (j : Int)) + ((i : Int) - 9) + 9).toNat v) (by omega) (goN_put (by omega) hi2 hg (by omega) hv) (by omega))
            · exact ⟨rfl, rfl, rfl, congrArg mi (by omega), True.intro⟩
          have J180 : i < 19 → G 180 [some (mr 0), some (mi ct), some (mi (13 - (j : Int))), some (mi ((i : Int) - 9)), some (mi (GN mh hn.toNat j ((i : Int) - 9))), none] [] (hM mt sd ms mg mk hn mh tr mx w9 t9 c g) := by
            intro hi2
            have hgn : 0 ≤ GN mh hn.toNat j ((i : Int) - 9) ∧ GN mh hn.toNat j ((i : Int) - 9) ≤ 6 := by
              cases j with
              | zero => exact ⟨(by decide : (0 : Int) ≤ 1), (by decide : (1 : Int) ≤ 6)⟩
              | succ j => exact gsm_in (fun x => GP_in) 6
            refine rRun hG 212 ?_
            refine And.intro rfl (?_)
            refine rV hG (sp_X7_isHeard (mt := mt) (sd := sd) (ms := ms) (mg := mg) (mk := mk) (hn := hn) (mh := mh) (tr := tr) (mx := mx) (w9 := w9) (t9 := t9) (c9 := c) (g9 := g) (d := 13 - (j : Int)) (e := (i : Int) - 9) hH (by omega) (by omega) hn6) rfl rfl lk_X7_237 mf_X7_isHeard (by decide) (Nat.le_of_ble_eq_true rfl) ⟨_, _, _, rfl, rfl, rfl⟩ ?_
            rintro _ _ ⟨rfl, rfl⟩
            have h01 := hrdF_01 (m := mh) (d := 13 - (j : Int)) (e := (i : Int) - 9) hn.toNat
            refine rRun hG 212 ?_
            refine And.intro (by first | omega | (dsimp only [Int.reduceToNat]; omega)) (And.intro (fun c2 => ?_) (fun c2 => ?_))
            · try dsimp only [Int.reduceToNat] at c2
              refine rRun hG 212 ?_
              refine rLess hG ?_ (J212 hi2 _ ?_)
              · exact ⟨rfl, rfl, rfl, rfl, True.intro⟩
              rw [GP_e]
              first | (rw [if_pos (by omega)]; done) | (rw [if_neg (by omega)]; done)
            · try dsimp only [Int.reduceToNat] at c2
              refine And.intro (by first | omega | (dsimp only [Int.reduceToNat]; omega)) (And.intro (fun c3 => ?_) (fun c3 => ?_))
              · try dsimp only [Int.reduceToNat] at c3
                refine rRun hG 212 ?_
                refine rLess hG ?_ (J212 hi2 _ ?_)
                · exact ⟨rfl, rfl, rfl, rfl, True.intro⟩
                rw [GP_e]
                first | (rw [if_pos (by omega)]; done) | (rw [if_neg (by omega)]; done)
              · try dsimp only [Int.reduceToNat] at c3
                refine rLess hG ?_ (J212 hi2 _ ?_)
                · exact ⟨rfl, rfl, rfl, rfl, True.intro⟩
                rw [GP_e]
                first | (rw [if_pos (by omega)]; done) | (rw [if_neg (by omega)]; done)
          have J146a : j = 0 → i < 19 → G 146 [some (mr 0), some (mi ct), some (mi (13 - (j : Int))), some (mi ((i : Int) - 9)), some (mi (1)), some (mi (-2))] [] (hM mt sd ms mg mk hn mh tr mx w9 t9 c g) := by
            intro hj0 hi2
            subst hj0
            refine rRun hG 180 ?_
            refine And.intro (by first | omega | (dsimp only [Int.reduceToNat]; omega)) (And.intro (fun cp => ?_) (fun cp => ?_))
            · try dsimp only [Int.reduceToNat] at cp
              refine rLess hG ?_ (J180 hi2)
              · exact ⟨rfl, rfl, rfl, rfl, rfl, True.intro⟩
            · try dsimp only [Int.reduceToNat] at cp
              refine And.intro (by first | omega | (dsimp only [Int.reduceToNat]; omega)) (And.intro (fun cd => ?_) (fun cd => ?_))
              · try dsimp only [Int.reduceToNat] at cd
                refine rLess hG ?_ (J180 hi2)
                · exact ⟨rfl, rfl, rfl, rfl, rfl, True.intro⟩
              · try dsimp only [Int.reduceToNat] at cd
                exfalso; omega
          have J146b : 0 < j → i < 19 → ∀ (m k : Nat), k ≤ 6 → 6 - k < m → G 146 [some (mr 0), some (mi ct), some (mi (13 - (j : Int))), some (mi ((i : Int) - 9)), some (mi (gsm (GP mh hn.toNat (j - 1)) ((i : Int) - 9) k)), some (mi ((k : Int) - 2))] [] (hM mt sd ms mg mk hn mh tr mx w9 t9 c g) := by
            intro hj0 hi2 m
            induction m with
            | zero => intro k _ hm; exact absurd hm (Nat.not_lt_zero _)
            | succ m ih3 =>
              intro k hk hm
              refine rRun hG 180 ?_
              refine And.intro (by first | omega | (dsimp only [Int.reduceToNat]; omega)) (And.intro (fun c1 => ?_) (fun c1 => ?_))
              · try dsimp only [Int.reduceToNat] at c1
                obtain rfl : k = 6 := by omega
                have hgn : gsm (GP mh hn.toNat (j - 1)) ((i : Int) - 9) 6 = GN mh hn.toNat j ((i : Int) - 9) := by
                  obtain ⟨j, rfl⟩ : ∃ j2, j = j2 + 1 := ⟨j - 1, by omega⟩
                  rfl
                refine rLess hG ?_ (J180 hi2)
                · exact ⟨rfl, rfl, rfl, rfl, congrArg mi hgn.symm, True.intro⟩
              · try dsimp only [Int.reduceToNat] at c1
                refine And.intro (by first | omega | (dsimp only [Int.reduceToNat]; omega)) (And.intro (fun cd => ?_) (fun cd => ?_))
                · try dsimp only [Int.reduceToNat] at cd
                  exfalso; omega
                · try dsimp only [Int.reduceToNat] at cd
                  refine rV hG (sp_X7_goFrom (mt := mt) (sd := sd) (ms := ms) (mg := mg) (mk := mk) (hn := hn) (mh := mh) (tr := tr) (mx := mx) (w9 := w9) (t9 := t9) (c9 := c) (g9 := g) (d := 13 - (j : Int) + 1) (e := (i : Int) - 9 + ((k : Int) - 2)) (by omega) (by omega)) rfl rfl lk_X7_241 mf_X7_goFrom (by decide) (Nat.le_of_ble_eq_true rfl) ⟨_, _, _, rfl, rfl, rfl⟩ ?_
                  rintro _ _ ⟨rfl, rfl⟩
                  rw [show 13 - (j : Int) + 1 = 13 - ((j - 1 : Nat) : Int) by omega, goN_F (j := j - 1) (by rw [show j - 1 + 1 = j by omega]; exact hg) (by omega)]
                  refine rRun hG 180 ?_
                  refine rLess hG ?_ (ih3 (k + 1) (by omega) (by omega))
                  · exact ⟨rfl, rfl, rfl, rfl, rfl, congrArg mi (by omega), True.intro⟩
          refine rRun hG 146 ?_
          refine And.intro (by first | omega | (dsimp only [Int.reduceToNat]; omega)) (And.intro (fun c1 => ?_) (fun c1 => ?_))
          · try dsimp only [Int.reduceToNat] at c1
            obtain rfl : i = 19 := by omega
            refine rLess hG ?_ (J219 hj2 g hg)
            · exact ⟨rfl, rfl, rfl, True.intro⟩
          · try dsimp only [Int.reduceToNat] at c1
            refine And.intro (by first | omega | (dsimp only [Int.reduceToNat]; omega)) (And.intro (fun c2 => ?_) (fun c2 => ?_))
            · try dsimp only [Int.reduceToNat] at c2
              refine rRun hG 146 ?_
              first
                | (refine rLess hG ?_ (J146a (by omega) (by omega)); exact ⟨rfl, rfl, rfl, rfl, rfl, rfl, True.intro⟩)
                | (refine rLess hG ?_ (J146b (by omega) (by omega) 7 0 (by omega) (by omega)); exact ⟨rfl, rfl, rfl, rfl, rfl, rfl, True.intro⟩)
            · try dsimp only [Int.reduceToNat] at c2
              refine rRun hG 146 ?_
              first
                | (refine rLess hG ?_ (J146a (by omega) (by omega)); exact ⟨rfl, rfl, rfl, rfl, rfl, rfl, True.intro⟩)
                | (refine rLess hG ?_ (J146b (by omega) (by omega) 7 0 (by omega) (by omega)); exact ⟨rfl, rfl, rfl, rfl, rfl, rfl, True.intro⟩)
      refine rRun hG 123 ?_
      refine And.intro (by first | omega | (dsimp only [Int.reduceToNat]; omega)) (And.intro (fun c1 => ?_) (fun c1 => ?_))
      · try dsimp only [Int.reduceToNat] at c1
        refine rVR hG rfl rfl rfl ?_
        obtain rfl : j = 14 := by omega
        exact ⟨c, g, hc, fun a ha => hg a ha (Or.inl (by omega)), rfl⟩
      · try dsimp only [Int.reduceToNat] at c1
        refine rLess hG ?_ (J123 (by omega) 20 0 g (by omega) hg (by omega))
        · exact ⟨rfl, rfl, rfl, rfl, True.intro⟩
  have J2 : ∀ (m d : Nat) (c : FN), d ≤ 14 → comN c mh hn.toNat ct (19 * d) → 14 - d < m → G 2 [some (mr 0), some (mi ct), some (mi ((d : Int))), none, none, none] [] (hM mt sd ms mg mk hn mh tr mx w9 t9 c g9) := by
    intro m
    induction m with
    | zero => intro d c _ _ hm; exact absurd hm (Nat.not_lt_zero _)
    | succ m ih =>
      intro d c hd hc hm
      have J107 : d < 14 → ∀ c : FN, comN c mh hn.toNat ct (19 * (d + 1)) → G 107 [some (mr 0), some (mi ct), some (mi ((d : Int))), none, none, none] [] (hM mt sd ms mg mk hn mh tr mx w9 t9 c g9) := by
        intro hd2 c hc2
        refine rRun hG 99999 ?_
        refine rLess hG ?_ (ih (d + 1) c (by omega) hc2 (by omega))
        · exact ⟨rfl, rfl, rfl, True.intro⟩
      refine rRun hG 11 ?_
      refine And.intro (by first | omega | (dsimp only [Int.reduceToNat]; omega)) (And.intro (fun c1 => ?_) (fun c1 => ?_))
      · try dsimp only [Int.reduceToNat] at c1
        refine rRun hG 116 ?_
        obtain rfl : d = 14 := by omega
        refine rLess hG ?_ (J116 15 0 g9 c (by omega) hc (fun a ha q => absurd q (by omega)) (by omega))
        · exact ⟨rfl, rfl, rfl, True.intro⟩
      · try dsimp only [Int.reduceToNat] at c1
        refine rLess hG ?_ (J11 d (by omega) (fun c q => J107 (by omega) c q) 20 0 c (by omega) hc (by omega))
        · exact ⟨rfl, rfl, rfl, rfl, True.intro⟩
  refine rRun hG 2 ?_
  refine rLess hG ?_ (J2 15 0 c9 (by omega) (fun a ha => absurd ha (Nat.not_lt_zero _)) (by omega))
  · exact ⟨rfl, rfl, rfl, True.intro⟩
end WALKS
