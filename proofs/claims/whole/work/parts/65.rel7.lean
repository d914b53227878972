/-! ways: counted forwards or backwards -/
theorem wsm_add {f g : Int → Int} : ∀ n, wsm (fun x => f x + g x) n = wsm f n + wsm g n
  | 0 => rfl
  | n + 1 => by rw [wsm_s, wsm_s, wsm_s, wsm_add n]; omega
theorem wsm_cg {f g : Int → Int} : ∀ n, (∀ k : Nat, k < n → f ((k : Int) - 9) = g ((k : Int) - 9)) → wsm f n = wsm g n
  | 0, _ => rfl
  | n + 1, h => by rw [wsm_s, wsm_s, wsm_cg n (fun k hk => h k (by omega)), h n (by omega)]
theorem wsm_md {f g : Int → Int} {M : Int} : ∀ n, (∀ k : Nat, k < n → f ((k : Int) - 9) % M = g ((k : Int) - 9) % M) → wsm f n % M = wsm g n % M
  | 0, _ => rfl
  | n + 1, h => by rw [wsm_s, wsm_s, Int.add_emod, wsm_md n (fun k hk => h k (by omega)), h n (by omega), ← Int.add_emod]
theorem wsm_at (h : Int → Int) (p : Int) : wsm (fun x => h (x - p)) 19 = h (-9 - p) + h (-8 - p) + h (-7 - p) + h (-6 - p) + h (-5 - p) + h (-4 - p) + h (-3 - p) + h (-2 - p) + h (-1 - p) + h (0 - p) + h (1 - p) + h (2 - p) + h (3 - p) + h (4 - p) + h (5 - p) + h (6 - p) + h (7 - p) + h (8 - p) + h (9 - p) := by
  show 0 + h (-9 - p) + h (-8 - p) + h (-7 - p) + h (-6 - p) + h (-5 - p) + h (-4 - p) + h (-3 - p) + h (-2 - p) + h (-1 - p) + h (0 - p) + h (1 - p) + h (2 - p) + h (3 - p) + h (4 - p) + h (5 - p) + h (6 - p) + h (7 - p) + h (8 - p) + h (9 - p) = _
  rw [Int.zero_add]
theorem wsm_at0 (h : Int → Int) : wsm (fun x => h (x - (-2))) 19 = h (-7) + h (-6) + h (-5) + h (-4) + h (-3) + h (-2) + h (-1) + h 0 + h 1 + h 2 + h 3 + h 4 + h 5 + h 6 + h 7 + h 8 + h 9 + h 10 + h 11 := wsm_at h (-2)
theorem wsm_at1 (h : Int → Int) : wsm (fun x => h (x - (-1))) 19 = h (-8) + h (-7) + h (-6) + h (-5) + h (-4) + h (-3) + h (-2) + h (-1) + h 0 + h 1 + h 2 + h 3 + h 4 + h 5 + h 6 + h 7 + h 8 + h 9 + h 10 := wsm_at h (-1)
theorem wsm_at2 (h : Int → Int) : wsm (fun x => h (x - 0)) 19 = h (-9) + h (-8) + h (-7) + h (-6) + h (-5) + h (-4) + h (-3) + h (-2) + h (-1) + h 0 + h 1 + h 2 + h 3 + h 4 + h 5 + h 6 + h 7 + h 8 + h 9 := wsm_at h 0
theorem wsm_at3 (h : Int → Int) : wsm (fun x => h (x - 1)) 19 = h (-10) + h (-9) + h (-8) + h (-7) + h (-6) + h (-5) + h (-4) + h (-3) + h (-2) + h (-1) + h 0 + h 1 + h 2 + h 3 + h 4 + h 5 + h 6 + h 7 + h 8 := wsm_at h 1
theorem wsm_at4 (h : Int → Int) : wsm (fun x => h (x - 2)) 19 = h (-11) + h (-10) + h (-9) + h (-8) + h (-7) + h (-6) + h (-5) + h (-4) + h (-3) + h (-2) + h (-1) + h 0 + h 1 + h 2 + h 3 + h 4 + h 5 + h 6 + h 7 := wsm_at h 2
theorem wsm_at5 (h : Int → Int) : wsm (fun x => h (x - 3)) 19 = h (-12) + h (-11) + h (-10) + h (-9) + h (-8) + h (-7) + h (-6) + h (-5) + h (-4) + h (-3) + h (-2) + h (-1) + h 0 + h 1 + h 2 + h 3 + h 4 + h 5 + h 6 := wsm_at h 3
theorem wsm_sh {h : Int → Int} {p : Int} (hp : -2 ≤ p ∧ p ≤ 3) (h1 : ∀ x, 9 < max x (-x) → h x = 0) (h2 : ∀ x, 9 < max (x + p) (-(x + p)) → h x = 0) : wsm h 19 = wsm (fun x => h (x - p)) 19 := by
  have e0 : wsm h 19 = wsm (fun x => h (x - 0)) 19 := wsm_cg 19 (fun k _ => by rw [Int.sub_zero])
  rw [e0, wsm_at2]
  rcases (show p = -2 ∨ p = -1 ∨ p = 0 ∨ p = 1 ∨ p = 2 ∨ p = 3 by omega) with rfl | rfl | rfl | rfl | rfl | rfl
  · rw [wsm_at0]
    have z11 := h2 (-9) (by decide)
    have z12 := h2 (-8) (by decide)
    have z30 := h1 10 (by decide)
    have z31 := h1 11 (by decide)
    omega
  · rw [wsm_at1]
    have z11 := h2 (-9) (by decide)
    have z30 := h1 10 (by decide)
    omega
  · rw [wsm_at2]
  · rw [wsm_at3]
    have z29 := h2 9 (by decide)
    have z10 := h1 (-10) (by decide)
    omega
  · rw [wsm_at4]
    have z28 := h2 8 (by decide)
    have z29 := h2 9 (by decide)
    have z9 := h1 (-11) (by decide)
    have z10 := h1 (-10) (by decide)
    omega
  · rw [wsm_at5]
    have z27 := h2 7 (by decide)
    have z28 := h2 8 (by decide)
    have z29 := h2 9 (by decide)
    have z8 := h1 (-12) (by decide)
    have z9 := h1 (-11) (by decide)
    have z10 := h1 (-10) (by decide)
    omega
def bfn (A : Nat → Nat → Bool) (V : Int → Int) (d : Nat) (y : Int) : Int := if (0 ≤ y + 9 ∧ y + 9 < 19) ∧ A d (y + 9).toNat = true then V y else 0
theorem hsm_g {A : Nat → Nat → Bool} {V : Int → Int} {d : Nat} {e : Int} : ∀ n, hsmV A V d e n = gsm (bfn A V d) e n
  | 0 => rfl
  | n + 1 => by
    show hsmV A V d e n + haddV A V d e n = gsm (bfn A V d) e n + bfn A V d (e + ((n : Int) - 2))
    rw [hsm_g n]
    congr 1
    unfold haddV bfn hvl
    by_cases q : (0 ≤ e + ((n : Int) - 2) + 9 ∧ e + ((n : Int) - 2) + 9 < 19) ∧ A d (e + ((n : Int) - 2) + 9).toNat = true
    · rw [if_pos q, if_pos q, if_pos q.1]
    · rw [if_neg q, if_neg q]
theorem bfn_out {A : Nat → Nat → Bool} {V : Int → Int} {d : Nat} {y : Int} (h : 9 < max y (-y)) : bfn A V d y = 0 := if_neg (fun q => by have := q.1; omega)
theorem swp {u b : Int → Int} (hu : ∀ x, 9 < max x (-x) → u x = 0) (hb : ∀ x, 9 < max x (-x) → b x = 0) : ∀ n, n ≤ 6 → wsm (fun x => u x * gsm b x n) 19 = wsm (fun x => b x * csm u x n) 19
  | 0, _ => wsm_cg 19 (fun k _ => by show u _ * 0 = b _ * 0; rw [Int.mul_zero, Int.mul_zero])
  | n + 1, h => by
    have ih := swp hu hb n (by omega)
    have e1 : wsm (fun x => u x * gsm b x (n + 1)) 19 = wsm (fun x => u x * gsm b x n) 19 + wsm (fun x => u x * b (x + ((n : Int) - 2))) 19 := by
      rw [← wsm_add]
      exact wsm_cg 19 (fun k _ => by rw [gsm_s, Int.mul_add])
    have e2 : wsm (fun x => b x * csm u x (n + 1)) 19 = wsm (fun x => b x * csm u x n) 19 + wsm (fun x => b x * u (x - ((n : Int) - 2))) 19 := by
      rw [← wsm_add]
      exact wsm_cg 19 (fun k _ => by rw [csm_s, Int.mul_add])
    have e3 := wsm_sh (h := fun x => u x * b (x + ((n : Int) - 2))) (p := (n : Int) - 2) (by omega) (fun x hx => by show u x * _ = 0; rw [hu x hx, Int.zero_mul]) (fun x hx => by show _ * b (x + ((n : Int) - 2)) = 0; rw [hb _ hx, Int.mul_zero])
    rw [e1, e2, ih, e3]
    congr 1
    exact wsm_cg 19 (fun k _ => by
      show u ((k : Int) - 9 - ((n : Int) - 2)) * b ((k : Int) - 9 - ((n : Int) - 2) + ((n : Int) - 2)) = b ((k : Int) - 9) * u ((k : Int) - 9 - ((n : Int) - 2))
      rw [show (k : Int) - 9 - ((n : Int) - 2) + ((n : Int) - 2) = (k : Int) - 9 by omega, Int.mul_comm])
theorem mul_md {a b M : Int} : (a * (b % M)) % M = (a * b) % M := by
  rw [Int.mul_emod, Int.emod_emod, ← Int.mul_emod]
theorem way_step {mh : FN} {hn : Int} {d j : Nat} (hd : d + j = 13) : wsm (fun x => CP mh hn.toNat 1 d x * HV (hAl mh hn) (j + 1) x) 19 % 1000003 = wsm (fun x => CP mh hn.toNat 1 (d + 1) x * HV (hAl mh hn) j x) 19 % 1000003 := by
  have s1 : wsm (fun x => CP mh hn.toNat 1 d x * HV (hAl mh hn) (j + 1) x) 19 % 1000003 = wsm (fun x => CP mh hn.toNat 1 d x * gsm (bfn (hAl mh hn) (HV (hAl mh hn) j) d) x 6) 19 % 1000003 := by
    refine wsm_md 19 (fun k _ => ?_)
    show (CP mh hn.toNat 1 d _ * (hsmV (hAl mh hn) (HV (hAl mh hn) j) (13 - j) _ 6 % 1000003)) % 1000003 = _
    rw [show 13 - j = d by omega, mul_md, hsm_g]
  have s2 := swp (u := CP mh hn.toNat 1 d) (b := bfn (hAl mh hn) (HV (hAl mh hn) j) d) (fun x hx => CP_out hx) (fun x hx => bfn_out hx) 6 (Nat.le_refl _)
  rw [s1, s2]
  refine wsm_md 19 (fun k hk => ?_)
  have ha := hAl_i (mh := mh) (hn := hn) (d := d) (i := k)
  have h01 := hrdF_01 (m := mh) (d := (d : Int)) (e := (k : Int) - 9) hn.toNat
  show (bfn (hAl mh hn) (HV (hAl mh hn) j) d ((k : Int) - 9) * csm (CP mh hn.toNat 1 d) ((k : Int) - 9) 6) % 1000003 = (CP mh hn.toNat 1 (d + 1) ((k : Int) - 9) * HV (hAl mh hn) j ((k : Int) - 9)) % 1000003
  unfold bfn
  rw [CP_s, show ((k : Int) - 9 + 9).toNat = k by omega]
  by_cases q : hrdF mh (d : Int) ((k : Int) - 9) hn.toNat = 0
  · rw [if_pos q, if_neg (fun z => by have := ha.mp z.2; omega), Int.zero_mul, Int.zero_mul]
  · rw [if_neg q, if_neg (show ¬ (1 : Int) = 0 by decide), if_pos ⟨by omega, ha.mpr (by omega)⟩, Int.mul_comm (csm _ _ _ % 1000003), mul_md]
theorem way_all {mh : FN} {hn : Int} : ∀ d : Nat, d ≤ 14 → wsm (fun x => CP mh hn.toNat 1 0 x * HV (hAl mh hn) 14 x) 19 % 1000003 = wsm (fun x => CP mh hn.toNat 1 d x * HV (hAl mh hn) (14 - d) x) 19 % 1000003
  | 0, _ => rfl
  | d + 1, h => by
    rw [way_all d (by omega), show 14 - d = (13 - d) + 1 by omega, way_step (d := d) (j := 13 - d) (by omega), show 14 - (d + 1) = 13 - d by omega]
theorem way_0 {mh : FN} {hn : Int} : wsm (fun x => CP mh hn.toNat 1 0 x * HV (hAl mh hn) 14 x) 19 = HV (hAl mh hn) 14 0 := by
  have e0 : wsm (fun x => CP mh hn.toNat 1 0 x * HV (hAl mh hn) 14 x) 19 = wsm (fun x => (fun y => CP mh hn.toNat 1 0 y * HV (hAl mh hn) 14 y) (x - 0)) 19 := wsm_cg 19 (fun k _ => by show _ = CP mh hn.toNat 1 0 ((k : Int) - 9 - 0) * HV (hAl mh hn) 14 ((k : Int) - 9 - 0); rw [Int.sub_zero])
  have z : ∀ x : Int, ¬ x = 0 → CP mh hn.toNat 1 0 x * HV (hAl mh hn) 14 x = 0 := fun x hx => by
    rw [show CP mh hn.toNat 1 0 x = 0 from if_neg hx, Int.zero_mul]
  rw [e0, wsm_at2 (fun y => CP mh hn.toNat 1 0 y * HV (hAl mh hn) 14 y)]
  show CP mh hn.toNat 1 0 (-9) * HV (hAl mh hn) 14 (-9) + CP mh hn.toNat 1 0 (-8) * HV (hAl mh hn) 14 (-8) + CP mh hn.toNat 1 0 (-7) * HV (hAl mh hn) 14 (-7) + CP mh hn.toNat 1 0 (-6) * HV (hAl mh hn) 14 (-6) + CP mh hn.toNat 1 0 (-5) * HV (hAl mh hn) 14 (-5) + CP mh hn.toNat 1 0 (-4) * HV (hAl mh hn) 14 (-4) + CP mh hn.toNat 1 0 (-3) * HV (hAl mh hn) 14 (-3) + CP mh hn.toNat 1 0 (-2) * HV (hAl mh hn) 14 (-2) + CP mh hn.toNat 1 0 (-1) * HV (hAl mh hn) 14 (-1) + CP mh hn.toNat 1 0 0 * HV (hAl mh hn) 14 0 + CP mh hn.toNat 1 0 1 * HV (hAl mh hn) 14 1 + CP mh hn.toNat 1 0 2 * HV (hAl mh hn) 14 2 + CP mh hn.toNat 1 0 3 * HV (hAl mh hn) 14 3 + CP mh hn.toNat 1 0 4 * HV (hAl mh hn) 14 4 + CP mh hn.toNat 1 0 5 * HV (hAl mh hn) 14 5 + CP mh hn.toNat 1 0 6 * HV (hAl mh hn) 14 6 + CP mh hn.toNat 1 0 7 * HV (hAl mh hn) 14 7 + CP mh hn.toNat 1 0 8 * HV (hAl mh hn) 14 8 + CP mh hn.toNat 1 0 9 * HV (hAl mh hn) 14 9 = HV (hAl mh hn) 14 0
  rw [z (-9) (by decide), z (-8) (by decide), z (-7) (by decide), z (-6) (by decide), z (-5) (by decide), z (-4) (by decide), z (-3) (by decide), z (-2) (by decide), z (-1) (by decide), z 1 (by decide), z 2 (by decide), z 3 (by decide), z 4 (by decide), z 5 (by decide), z 6 (by decide), z 7 (by decide), z 8 (by decide), z 9 (by decide), show CP mh hn.toNat 1 0 0 = 1 from if_pos rfl, Int.one_mul]
  omega
theorem way_eq {mh : FN} {hn : Int} : hsmV (hAl mh hn) (HV (hAl mh hn) 13) 0 0 6 % 1000003 = wsm (CP mh hn.toNat 1 14) 19 % 1000003 := by
  have h := way_all (mh := mh) (hn := hn) 14 (Nat.le_refl _)
  rw [way_0] at h
  have e1 : HV (hAl mh hn) 14 0 = hsmV (hAl mh hn) (HV (hAl mh hn) 13) 0 0 6 % 1000003 := rfl
  rw [e1, Int.emod_emod] at h
  rw [h]
  congr 1
  exact wsm_cg 19 (fun k _ => by show CP mh hn.toNat 1 14 _ * HV (hAl mh hn) 0 _ = _; rw [show ∀ x, HV (hAl mh hn) 0 x = 1 from fun _ => rfl, Int.mul_one])
theorem cs_ways {N : Nat} {h1 h2 : mH} (h : RH N h1 h2)    : CASE N h1 h2 5 yX6_ways cX6_ways 1 4 yX7_ways cX7_ways 3 [] := by
  obtain ⟨k, asked, ux, ua, ub, mo, kn, kp, v1, v2, kP, pr, pl, tk, pm, pa, kO, qr, ql, un, lw, qa, kH, al, hr, lt, hd, mt, sd, ms, mg, mk, hn, mh, tr, mx, w9, t9, c9, g9, rfl, rfl, hR⟩ := h
  have hH : RHr (kH, al, hr, lt, hd) hn mh := hR.2.2.2.2.2.2.2.1
  obtain ⟨hO, hn6, hdn, hA⟩ := id hH
  have hdn : hd = hn := hdn
  have hA : alIs al (hAl mh hn) := hA
  refine ⟨_, _, fun l => sp_X6_ways hA, fun l => sp_X7_ways hO hn6, ?_⟩
  rintro z1 k1 z2 k2 ⟨rfl, k9, h9, l9, rfl⟩ ⟨rfl, c5, g5, rfl⟩
  exact ⟨way_eq, (hR.hea (kH' := k9) (al' := al) (hr' := h9) (lt' := l9) (hd' := hd) ⟨hO, hn6, hdn, hA⟩).is⟩
