/-! soonest, catches, hears, forget: the same on both sides -/
theorem soon_eq {rest err D : Int} (h9 : err ≤ 9) : ∀ (n k : Nat), (k : Int) + n = D → soonR rest err (n + 1) k = sooM D (n + 1) k (max 0 (rest - 4 * (k : Int) - min (3 * (k : Int)) (9 - err))) (err + min (3 * (k : Int)) (9 - err))
  | 0, k, h => by
    rw [soonR_s, sooM_s]
    by_cases q : rest ≤ 4 * (k : Int) + min (3 * (k : Int)) (9 - err)
    · rw [if_pos q, if_neg (show ¬ (0 < max 0 (rest - 4 * (k : Int) - min (3 * (k : Int)) (9 - err)) ∧ (k : Int) < D) by omega), if_neg (show ¬ 0 < max 0 (rest - 4 * (k : Int) - min (3 * (k : Int)) (9 - err)) by omega)]
    · rw [if_neg q, if_neg (show ¬ (0 < max 0 (rest - 4 * (k : Int) - min (3 * (k : Int)) (9 - err)) ∧ (k : Int) < D) by omega), if_pos (show 0 < max 0 (rest - 4 * (k : Int) - min (3 * (k : Int)) (9 - err)) by omega)]; rfl
  | n + 1, k, h => by
    rw [soonR_s, sooM_s]
    by_cases q : rest ≤ 4 * (k : Int) + min (3 * (k : Int)) (9 - err)
    · rw [if_pos q, if_neg (show ¬ (0 < max 0 (rest - 4 * (k : Int) - min (3 * (k : Int)) (9 - err)) ∧ (k : Int) < D) by omega), if_neg (show ¬ 0 < max 0 (rest - 4 * (k : Int) - min (3 * (k : Int)) (9 - err)) by omega)]
    · rw [if_neg q, if_pos (show 0 < max 0 (rest - 4 * (k : Int) - min (3 * (k : Int)) (9 - err)) ∧ (k : Int) < D by omega), soon_eq (D := D) h9 n (k + 1) (by omega)]
      have e1 : max 0 (max 0 (rest - 4 * (k : Int) - min (3 * (k : Int)) (9 - err)) - 4 - min 3 (9 - (err + min (3 * (k : Int)) (9 - err)))) = max 0 (rest - 4 * ((k + 1 : Nat) : Int) - min (3 * ((k + 1 : Nat) : Int)) (9 - err)) := by omega
      have e2 : err + min (3 * (k : Int)) (9 - err) + min 3 (9 - (err + min (3 * (k : Int)) (9 - err))) = err + min (3 * ((k + 1 : Nat) : Int)) (9 - err) := by omega
      rw [e1, e2]
theorem cat_eq {lim pace : Int} : ∀ (n k : Nat) (e r : Int), catR lim pace n k e r = catM lim pace n k e (max 0 r)
  | 0, _, _, _ => rfl
  | n + 1, k, e, r => by
    rw [catR_s, catM_s]
    by_cases q1 : e < -9 ∨ 9 < e
    · rw [if_pos q1, if_pos (show 9 < max e (-e) by omega)]
    · rw [if_neg q1, if_neg (show ¬ 9 < max e (-e) by omega)]
      by_cases q2 : lim < max e (-e)
      · rw [if_pos q2, if_pos q2]
      · rw [if_neg q2, if_neg q2]
        by_cases q3 : r ≤ 0
        · rw [if_pos q3, if_pos (show max 0 r = 0 by omega)]
        · rw [if_neg q3, if_neg (show ¬ max 0 r = 0 by omega), cat_eq n (k + 1), show max 0 (max 0 r - 4 - pace) = max 0 (r - (4 + pace)) by omega]
theorem hrdF_cg {m m' : FN} {d e : Int} : ∀ n : Nat, (∀ a : Nat, a < 3 * n → m' a = m a) → hrdF m' d e n = hrdF m d e n
  | 0, _ => rfl
  | n + 1, h => by rw [hrdF_s, hrdF_s, hrdF_cg n (fun a ha => h a (by omega)), h (3 * n) (by omega), h (3 * n + 1) (by omega), h (3 * n + 2) (by omega)]
theorem st19_cg {P Q : Nat → Bool} (h : ∀ i, i < 19 → P i = Q i) : st19 P = st19 Q := congrArg (fun (a : Nat) => (a : Int)) (bs_ext h)
theorem hAl_0 {mh : FN} {d i : Nat} (hi : i < 19) : hAl mh 0 d i = true := by
  show decide ((if max ((i : Int) - 9) (-((i : Int) - 9)) ≤ 9 then (1 : Int) else 0) = 1) = true
  rw [if_pos (by omega)]; rfl
theorem cs_soonest {N : Nat} {h1 h2 : mH} (h : RH N h1 h2)   (hN : N ≤ 100) : CASE N h1 h2 5 yX6_soonest cX6_soonest 1 2 yX7_soonest cX7_soonest 5 [] := by
  obtain ⟨k, asked, ux, ua, ub, mo, kn, kp, v1, v2, kP, pr, pl, tk, pm, pa, kO, qr, ql, un, lw, qa, kH, al, hr, lt, hd, mt, sd, ms, mg, mk, hn, mh, tr, mx, w9, t9, c9, g9, rfl, rfl, hR⟩ := h
  have hRT := hR.1
  obtain ⟨tT, tM, ⟨t1, t2, t3, t4, t5⟩, t6, t7, t8⟩ := id hRT
  have hS := hR.2.2.2.2.1
  have hS : STR (tDay (tsel k ua ub)) (N : Int) mo kn ms := hS
  have hB := STR_0 hS
  obtain ⟨⟨e0, e1, e2, e3, e4⟩, e5⟩ := STR_now hS
  have hQ := STR_MOM hS (by omega)
  have hT1 := tT.1
  have hT2 := tT.2.1
  have hT3 := tT.2.2.1
  have hT5 := tT.2.2.2.2.1
  have hd9 := hB.2.1
  have hk9 := hS.1
  have hM0 := hB.1.1
  have hM1 := hB.1.2.1
  have hM2 := hB.1.2.2.1
  refine ⟨_, _, fun l => sp_X6_soonest rfl (by omega) (by omega) (by omega) (by omega), fun l => sp_X7_soonest tM hQ (by omega), ?_⟩
  rintro z1 k1 z2 k2 ⟨rfl, rfl⟩ ⟨rfl, rfl⟩
  refine ⟨?_, hR.up.is⟩
  rw [e0, e1, e2, t1, soon_eq (D := tDay (tsel k ua ub) - mo 0) (by omega) _ 0 (by omega)]
  congr 1 <;> omega
theorem cs_catches {N : Nat} {h1 h2 : mH} (h : RH N h1 h2) {p : Int} (ip : inI p) (hN : N ≤ 100) : CASE N h1 h2 5 yX6_catches cX6_catches 2 3 yX7_catches cX7_catches 5 [mi p] := by
  obtain ⟨k, asked, ux, ua, ub, mo, kn, kp, v1, v2, kP, pr, pl, tk, pm, pa, kO, qr, ql, un, lw, qa, kH, al, hr, lt, hd, mt, sd, ms, mg, mk, hn, mh, tr, mx, w9, t9, c9, g9, rfl, rfl, hR⟩ := h
  have hRT := hR.1
  obtain ⟨tT, tM, ⟨t1, t2, t3, t4, t5⟩, t6, t7, t8⟩ := id hRT
  have hS := hR.2.2.2.2.1
  have hS : STR (tDay (tsel k ua ub)) (N : Int) mo kn ms := hS
  have hB := STR_0 hS
  obtain ⟨⟨e0, e1, e2, e3, e4⟩, e5⟩ := STR_now hS
  have hQ := STR_MOM hS (by omega)
  have hT1 := tT.1
  have hT2 := tT.2.1
  have hT3 := tT.2.2.1
  have hT5 := tT.2.2.2.2.1
  have hd9 := hB.2.1
  have hk9 := hS.1
  have hM0 := hB.1.1
  have hM1 := hB.1.2.1
  have hM2 := hB.1.2.2.1
  refine ⟨_, _, fun l => sp_X6_catches rfl ip (by omega) (by omega) (by omega) (by omega) (by omega), fun l => sp_X7_catches tM hQ (by omega) ip, ?_⟩
  rintro z1 k1 z2 k2 ⟨rfl, rfl⟩ (⟨q2, rfl, rfl⟩ | ⟨q2, g2, rfl, rfl⟩ | ⟨q2, g2, rfl, rfl⟩)
  · rw [if_neg q2]; exact ⟨rfl, hR.up.is⟩
  · rw [if_pos q2, if_pos (by omega)]; exact ⟨rfl, hR.up.is⟩
  · rw [if_pos q2, if_neg (by omega), cat_eq, e0, e1, e2, t1, t4, show max 0 (mo 1) = mo 1 by omega]; exact ⟨rfl, hR.up.is⟩
theorem cs_hears {N : Nat} {h1 h2 : mH} (h : RH N h1 h2) {d e w : Int} (id9 : inI d) (ie : inI e) (iw : inI w)  : CASE N h1 h2 4 yX6_hears cX6_hears 4 2 yX7_hears cX7_hears 4 [mi d, mi e, mi w] := by
  obtain ⟨k, asked, ux, ua, ub, mo, kn, kp, v1, v2, kP, pr, pl, tk, pm, pa, kO, qr, ql, un, lw, qa, kH, al, hr, lt, hd, mt, sd, ms, mg, mk, hn, mh, tr, mx, w9, t9, c9, g9, rfl, rfl, hR⟩ := h
  have hH : RHr (kH, al, hr, lt, hd) hn mh := hR.2.2.2.2.2.2.2.1
  obtain ⟨hO, hn6, hdn, hA⟩ := id hH
  have hdn : hd = hn := hdn
  have hA : alIs al (hAl mh hn) := hA
  refine ⟨_, _, fun l => sp_X6_hears id9 ie iw hA (by omega), fun l => sp_X7_hears id9 ie iw hn6, ?_⟩
  rintro z1 k1 z2 k2 (⟨q1, rfl, rfl⟩ | ⟨q1, g1, rfl, rfl⟩ | ⟨q1, g1, rfl, rfl⟩) (⟨q2, rfl, rfl⟩ | ⟨q2, g2, rfl, rfl⟩ | ⟨q2, g2, rfl, rfl⟩)
  · exact ⟨rfl, hR.up.is⟩
  · exfalso; omega
  · exfalso; omega
  · exfalso; omega
  · exact ⟨rfl, hR.up.is⟩
  · exfalso; omega
  · exfalso; omega
  · exfalso; omega
  · refine ⟨by omega, (hR.hea ⟨?_, ?_, ?_, ?_⟩).is⟩
    · intro i hi
      simp only [mup]
      repeat' split
      all_goals first | omega | exact hO i hi
    · omega
    · show hd + 1 = hn + 1; omega
    · intro d2 hd2
      have hnn : (hn + 1).toNat = hn.toNat + 1 := by omega
      have hcg : ∀ x : Int, hrdF (mup (mup (mup mh (3 * hn).toNat d) (3 * hn + 1).toNat e) (3 * hn + 2).toNat w) (d2 : Int) x hn.toNat = hrdF mh (d2 : Int) x hn.toNat := fun x => hrdF_cg _ (fun a ha => by rw [mup_n (by omega), mup_n (by omega), mup_n (by omega)])
      have m0 : mup (mup (mup mh (3 * hn).toNat d) (3 * hn + 1).toNat e) (3 * hn + 2).toNat w (3 * hn.toNat) = d := by rw [mup_n (by omega), mup_n (by omega), show 3 * hn.toNat = (3 * hn).toNat by omega, mup_s]
      have m1 : mup (mup (mup mh (3 * hn).toNat d) (3 * hn + 1).toNat e) (3 * hn + 2).toNat w (3 * hn.toNat + 1) = e := by rw [mup_n (by omega), show 3 * hn.toNat + 1 = (3 * hn + 1).toNat by omega, mup_s]
      have m2 : mup (mup (mup mh (3 * hn).toNat d) (3 * hn + 1).toNat e) (3 * hn + 2).toNat w (3 * hn.toNat + 2) = w := by rw [show 3 * hn.toNat + 2 = (3 * hn + 2).toNat by omega, mup_s]
      by_cases q : d2 = d.toNat
      · subst q
        show mup al d.toNat (zand (al d.toNat) (st19 (wthP (e - w) (e + w)))) d.toNat = _
        rw [mup_s, hA _ hd2, st_and]
        refine st19_cg (fun i hi => ?_)
        unfold hAl wthP
        rw [hnn, hrdF_s, hcg, m0, m1, m2, ← Bool.decide_and]
        congr 1
        apply propext
        have h01 := hrdF_01 (m := mh) (d := (d.toNat : Int)) (e := (i : Int) - 9) hn.toNat
        split <;> omega
      · show mup al d.toNat (zand (al d.toNat) (st19 (wthP (e - w) (e + w)))) d2 = _
        rw [mup_n q, hA _ hd2]
        refine st19_cg (fun i hi => ?_)
        unfold hAl
        rw [hnn, hrdF_s, hcg, m0, m1, m2]
        congr 1
        apply propext
        have h01 := hrdF_01 (m := mh) (d := (d2 : Int)) (e := (i : Int) - 9) hn.toNat
        split <;> omega
theorem cs_forget {N : Nat} {h1 h2 : mH} (h : RH N h1 h2)    : CASE N h1 h2 2 yX6_forget cX6_forget 2 1 yX7_forget cX7_forget 2 [] := by
  obtain ⟨k, asked, ux, ua, ub, mo, kn, kp, v1, v2, kP, pr, pl, tk, pm, pa, kO, qr, ql, un, lw, qa, kH, al, hr, lt, hd, mt, sd, ms, mg, mk, hn, mh, tr, mx, w9, t9, c9, g9, rfl, rfl, hR⟩ := h
  have hH : RHr (kH, al, hr, lt, hd) hn mh := hR.2.2.2.2.2.2.2.1
  obtain ⟨hO, hn6, hdn, hA⟩ := id hH
  have hdn : hd = hn := hdn
  have hA : alIs al (hAl mh hn) := hA
  refine ⟨_, _, fun l => sp_X6_forget, fun l => sp_X7_forget, ?_⟩
  rintro z1 k1 z2 k2 ⟨rfl, rfl⟩ ⟨rfl, rfl⟩
  have hx : RHr (kH, drpA al 14, hr, lt, 0) 0 mh := by
    refine ⟨hO, (by decide : (0 : Int) ≤ 0 ∧ (0 : Int) ≤ 6), rfl, fun d hd => ?_⟩
    show drpA al 14 d = st19 (hAl mh 0 d)
    rw [drpA_in hd, ← st_all]
    exact st19_cg (fun i hi => (hAl_0 hi).symm)
  exact ⟨hdn, (hR.hea hx).is⟩
