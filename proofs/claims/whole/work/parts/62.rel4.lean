/-! plans: the rows by errors against the table by rests and errors -/
theorem foldB_sg {g : Int → Int} {b : Int} (h : ∀ p, -2 ≤ p ∧ p ≤ 3 → g p = b ∨ 0 ≤ g p) : ∀ n, n ≤ 6 → (foldB g b n).1 = b ∨ 0 ≤ (foldB g b n).1
  | 0, _ => Or.inl rfl
  | n + 1, hn => by
    have ih := foldB_sg h n (by omega)
    have q := h ((n : Int) - 2) (by omega)
    rw [foldB_s]
    split
    · exact q
    · exact ih
theorem foldB_b {g : Int → Int} {b : Int} : ∀ n, b ≤ (foldB g b n).1 ∧ ((foldB g b n).1 = b → (foldB g b n).2 = -9)
  | 0 => ⟨Int.le_refl _, fun _ => rfl⟩
  | n + 1 => by
    have ih := foldB_b (g := g) (b := b) n
    rw [foldB_s]
    split
    · rename_i q
      exact ⟨by show b ≤ g _; omega, fun z => by exfalso; have z : g ((n : Int) - 2) = b := z; omega⟩
    · exact ih
theorem pg_bs {t m : TD} (hR : RT t m) {tk kd : Int} (hk : (tk = 1 ∧ kd = 1) ∨ (tk = 0 ∧ kd = 2)) {V : Int → Int} {V2 : Int → Int → Int} {day r e p : Int} (hV : -9 ≤ e + p ∧ e + p ≤ 9 → V (e + p) = V2 (max 0 (r - 4 - p)) (e + p)) (hl : -1000000 ≤ V (e + p)) (hs : kd = 1 → V (e + p) = -1000000 ∨ 0 ≤ V (e + p)) : pgV tk t V day p (e + p) = bsV m V2 kd day r e p := by
  have h6 := hR.1.2.2.2.2.1
  have h4 := hR.2.2.1.2.2.2.1
  unfold pgV bsV
  by_cases q9 : max (e + p) (-(e + p)) ≤ 9
  · rw [if_pos q9]
    have hv := hV (by omega)
    unfold wbV
    rw [← hv, RT_cnd hR, RT_hrS hR, h4]
    rcases hk with ⟨rfl, rfl⟩ | ⟨rfl, rfl⟩
    · have hs := hs rfl
      rw [if_neg (show ¬ (1 : Int) = 0 by decide), if_neg (show ¬ (1 : Int) = 0 by decide), if_neg (show ¬ (1 : Int) = 0 by decide), if_pos (show (1 : Int) = 1 from rfl)]
      by_cases q : tLim t < max (e + p) (-(e + p)) ∨ V (e + p) < 0
      · rw [if_pos q, if_pos (by omega)]
      · rw [if_neg q, if_neg (by omega)]; omega
    · rw [if_pos (show (0 : Int) = 0 from rfl), if_pos (show (0 : Int) = 0 from rfl), if_neg (show ¬ (2 : Int) = 0 by decide), if_neg (show ¬ (2 : Int) = 1 by decide)]
      by_cases q : V (e + p) = -1000000
      · rw [if_pos q, if_pos (by omega)]
      · rw [if_neg q, if_neg (by omega)]; omega
  · rw [if_neg q9, if_pos (by omega)]
theorem PV_sg {t : TD} {mo : FN} {n : Int} (hT : TOK t) : ∀ (j : Nat) (e : Int), PV 1 t mo n j e = -1000000 ∨ 0 ≤ PV 1 t mo n j e
  | 0, e => by
    show (if rBh mo n e ≤ 0 then (0 : Int) else puf 1) = _ ∨ 0 ≤ (if rBh mo n e ≤ 0 then (0 : Int) else puf 1)
    rw [show puf 1 = 0 from if_neg (by decide)]
    split <;> exact Or.inr (Int.le_refl _)
  | j + 1, e => by
    show (if rBh mo (n - ((j : Int) + 1)) e ≤ 0 then (0 : Int) else (foldB (fun p => pgV 1 t (PV 1 t mo n j) (mo 0 + (n - ((j : Int) + 1))) p (e + p)) (-1000000) 6).1) = _ ∨ 0 ≤ (if rBh mo (n - ((j : Int) + 1)) e ≤ 0 then (0 : Int) else (foldB (fun p => pgV 1 t (PV 1 t mo n j) (mo 0 + (n - ((j : Int) + 1))) p (e + p)) (-1000000) 6).1)
    split
    · exact Or.inr (Int.le_refl _)
    · refine foldB_sg (fun p hp => ?_) 6 (Nat.le_refl _)
      have ih := PV_sg (mo := mo) (n := n) hT j (e + p)
      have hT2 := hT.2.1
      have hc := cndl_in hT (day := mo 0 + (n - ((j : Int) + 1))) (p := p) (tNB t).toNat (by omega)
      show pgV 1 t (PV 1 t mo n j) (mo 0 + (n - ((j : Int) + 1))) p (e + p) = _ ∨ 0 ≤ pgV 1 t (PV 1 t mo n j) (mo 0 + (n - ((j : Int) + 1))) p (e + p)
      unfold pgV
      rw [if_neg (show ¬ (1 : Int) = 0 by decide), if_neg (show ¬ (1 : Int) = 0 by decide)]
      split
      · exact Or.inl rfl
      · exact Or.inr (by omega)
theorem PV_MW {t m : TD} (hR : RT t m) {tk kd : Int} (hk : (tk = 1 ∧ kd = 1) ∨ (tk = 0 ∧ kd = 2)) {mo : FN} {n : Int} : ∀ (j : Nat) (e : Int), PV tk t mo n j e = MW m kd (mo 0) n j (max 0 (rBh mo (n - (j : Int)) e)) e
  | 0, e => by
    show (if rBh mo n e ≤ 0 then (0 : Int) else puf tk) = (if max 0 (rBh mo (n - ((0 : Nat) : Int)) e) = 0 then mfree kd 0 else mover kd)
    rw [show n - ((0 : Nat) : Int) = n by omega, mfree_n (by omega)]
    have hp : puf tk = mover kd := by
      unfold puf mover
      rcases hk with ⟨rfl, rfl⟩ | ⟨rfl, rfl⟩ <;> rfl
    rw [hp]
    by_cases q : rBh mo n e ≤ 0
    · rw [if_pos q, if_pos (by omega)]
    · rw [if_neg q, if_neg (by omega)]
  | j + 1, e => by
    have hT := hR.1
    rw [MW_s, show mfree kd (j + 1) = 0 from if_neg (by omega)]
    show (if rBh mo (n - ((j : Int) + 1)) e ≤ 0 then (0 : Int) else (foldB (fun p => pgV tk t (PV tk t mo n j) (mo 0 + (n - ((j : Int) + 1))) p (e + p)) (-1000000) 6).1) = _
    rw [show n - ((j + 1 : Nat) : Int) = n - ((j : Int) + 1) by omega]
    by_cases q : rBh mo (n - ((j : Int) + 1)) e ≤ 0
    · rw [if_pos q, if_pos (by omega)]
    · rw [if_neg q, if_neg (by omega)]
      congr 1
      refine foldB_cg (fun p hp => ?_) 6 (Nat.le_refl _)
      rw [show mo 0 + (n - ((j : Int) + 1)) = mo 0 + n - 1 - (j : Int) by omega]
      refine pg_bs hR hk (fun he => ?_) (PV_in hT j (e + p)).1 (fun z => ?_)
      · rw [PV_MW hR hk j (e + p)]
        congr 1
        unfold rBh at q ⊢
        omega
      · rcases hk with ⟨rfl, rfl⟩ | ⟨rfl, rfl⟩
        · exact PV_sg hT j (e + p)
        · exact absurd z (by decide)
theorem plan_fold {t m : TD} (hR : RT t m) {tk kd : Int} (hk : (tk = 1 ∧ kd = 1) ∨ (tk = 0 ∧ kd = 2)) {mo ms : FN} {dn : Int} (e0 : ms 0 = mo 0) (e1 : ms 1 = mo 1) (e2 : ms 2 = mo 2) (hd : 1 ≤ dn) (h1 : ¬ mo 1 = 0) (h2 : 0 ≤ mo 1) : foldB (fun p => pgV tk t (PV tk t mo dn (dn.toNat - 1)) (mo 0) p (mo 2 + p)) (-1000000) 6 = mfold m kd ms dn := by
  unfold mfold
  rw [e0, e1, e2]
  refine foldB_cg (fun p hp => ?_) 6 (Nat.le_refl _)
  refine pg_bs hR hk (fun he => ?_) (PV_in hR.1 _ (mo 2 + p)).1 (fun z => ?_)
  · rw [PV_MW hR hk _ (mo 2 + p)]
    congr 1
    unfold rBh
    omega
  · rcases hk with ⟨rfl, rfl⟩ | ⟨rfl, rfl⟩
    · exact PV_sg hR.1 _ _
    · exact absurd z (by decide)
theorem mfold_sg {t m : TD} (hR : RT t m) {mo ms : FN} {dn : Int} (e0 : ms 0 = mo 0) (e1 : ms 1 = mo 1) (e2 : ms 2 = mo 2) (hd : 1 ≤ dn) (h1 : ¬ mo 1 = 0) (h2 : 0 ≤ mo 1) : (mfold m 1 ms dn).1 = -1000000 ∨ 0 ≤ (mfold m 1 ms dn).1 := by
  rw [← plan_fold hR (Or.inl ⟨rfl, rfl⟩) e0 e1 e2 hd h1 h2]
  refine foldB_sg (fun p hp => ?_) 6 (Nat.le_refl _)
  have hT := hR.1
  have hT2 := hT.2.1
  have ih := PV_sg (mo := mo) (n := dn) hT (dn.toNat - 1) (mo 2 + p)
  have hc := cndl_in hT (day := mo 0) (p := p) (tNB t).toNat (by omega)
  show pgV 1 t _ (mo 0) p (mo 2 + p) = _ ∨ 0 ≤ pgV 1 t _ (mo 0) p (mo 2 + p)
  unfold pgV
  rw [if_neg (show ¬ (1 : Int) = 0 by decide), if_neg (show ¬ (1 : Int) = 0 by decide)]
  split
  · exact Or.inl rfl
  · exact Or.inr (by omega)
theorem cs_safe {N : Nat} {h1 h2 : mH} (h : RH N h1 h2) {w : Int} (iw : inI w) (hN : N ≤ 100) : CASE N h1 h2 8 yX6_safe cX6_safe 2 7 yX7_safe cX7_safe 3 [mi w] := by
  obtain ⟨k, asked, ux, ua, ub, mo, kn, kp, v1, v2, kP, pr, pl, tk, pm, pa, kO, qr, ql, un, lw, qa, kH, al, hr, lt, hd, mt, sd, ms, mg, mk, hn, mh, tr, mx, w9, t9, c9, g9, rfl, rfl, hR⟩ := h
  have hRT := hR.1
  obtain ⟨tT, tM, ⟨t1, t2, t3, t4, t5⟩, t6, t7, t8⟩ := id hRT
  have hS := hR.2.2.2.2.1
  have hS : STR (tDay (tsel k ua ub)) (N : Int) mo kn ms := hS
  have hB := STR_0 hS
  obtain ⟨⟨e0, e1, e2, e3, e4⟩, e5⟩ := STR_now hS
  have hQ := STR_MOM hS (by omega)
  have hT1 := tT.1
  have hT2 := tT.2.1
  have hT3 := tT.2.2.1
  have hT5 := tT.2.2.2.2.1
  have hd9 := hB.2.1
  have hk9 := hS.1
  have hM0 := hB.1.1
  have hM1 := hB.1.2.1
  have hM2 := hB.1.2.2.1
  refine ⟨_, _, fun l => sp_X6_safe rfl iw tT hB.1 hk9 hd9, fun l => sp_X7_safe tM hQ (by omega) iw, ?_⟩
  rintro z1 k1 z2 k2 (⟨q1, rfl, rfl⟩ | ⟨q1, rfl, k9, h9, l9, rfl⟩) (⟨q2, rfl, rfl⟩ | ⟨q2, rfl, w5, t5, rfl⟩)
  · exact ⟨rfl, hR.up.is⟩
  · exfalso; omega
  · exfalso; omega
  · refine ⟨?_, hR.up.is⟩
    unfold safM
    by_cases q : ms 0 = tDay mt ∨ ms 1 = 0
    · have hM : planM 1 (tsel k ua ub) mo (tDay (tsel k ua ub) - mo 0) = 0 := by
        unfold planM
        by_cases z : mo 1 = 0
        · rw [if_pos z]
        · rw [if_neg z, if_pos (by omega)]; rfl
      rw [hM, show planP 1 (tsel k ua ub) mo (tDay (tsel k ua ub) - mo 0) = -9 from if_pos (by omega), if_pos q, if_neg (show ¬ (0 : Int) ≤ -1000000 by decide)]
      by_cases z : w = 1
      · rw [if_pos z, if_neg (by omega)]
      · rw [if_neg z, if_pos (by omega)]
    · have hf := plan_fold hRT (Or.inl ⟨rfl, rfl⟩ : ((1 : Int) = 1 ∧ (1 : Int) = 1) ∨ ((1 : Int) = 0 ∧ (1 : Int) = 2)) (dn := tDay (tsel k ua ub) - mo 0) e0 e1 e2 (by omega) (by omega) (by omega)
      have hsg := mfold_sg hRT (dn := tDay (tsel k ua ub) - mo 0) e0 e1 e2 (by omega) (by omega) (by omega)
      have hb := foldB_b (g := bsV mt (MW mt 1 (ms 0) (tDay (tsel k ua ub) - mo 0) ((tDay (tsel k ua ub) - mo 0).toNat - 1)) 1 (ms 0) (ms 1) (ms 2)) (b := -1000000) 6
      rw [if_neg q, show tDay mt - ms 0 = tDay (tsel k ua ub) - mo 0 by omega]
      unfold planP planM
      rw [hf, if_neg (show ¬ (mo 1 = 0 ∨ tDay (tsel k ua ub) - mo 0 ≤ 0) by omega), if_neg (show ¬ mo 1 = 0 by omega), if_neg (show ¬ tDay (tsel k ua ub) - mo 0 ≤ 0 by omega)]
      have hb2 : (mfold mt 1 ms (tDay (tsel k ua ub) - mo 0)).1 = -1000000 → (mfold mt 1 ms (tDay (tsel k ua ub) - mo 0)).2 = -9 := hb.2
      generalize mfold mt 1 ms (tDay (tsel k ua ub) - mo 0) = F at *
      by_cases z : w = 1
      · rw [if_pos z]
        by_cases y : F.1 < 0
        · rw [if_pos y]; exact hb2 (by omega)
        · rw [if_neg y, if_neg (by omega)]
      · rw [if_neg z]
        by_cases y : F.1 < 0
        · rw [if_pos y, if_pos (by omega)]
        · rw [if_neg y, if_neg (by omega), if_pos (by omega)]
theorem cs_least {N : Nat} {h1 h2 : mH} (h : RH N h1 h2) {n w : Int} (i_n : inI n) (iw : inI w) (hN : N ≤ 100) : CASE N h1 h2 8 yX6_least cX6_least 3 7 yX7_least cX7_least 5 [mi n, mi w] := by
  obtain ⟨k, asked, ux, ua, ub, mo, kn, kp, v1, v2, kP, pr, pl, tk, pm, pa, kO, qr, ql, un, lw, qa, kH, al, hr, lt, hd, mt, sd, ms, mg, mk, hn, mh, tr, mx, w9, t9, c9, g9, rfl, rfl, hR⟩ := h
  have hRT := hR.1
  obtain ⟨tT, tM, ⟨t1, t2, t3, t4, t5⟩, t6, t7, t8⟩ := id hRT
  have hS := hR.2.2.2.2.1
  have hS : STR (tDay (tsel k ua ub)) (N : Int) mo kn ms := hS
  have hB := STR_0 hS
  obtain ⟨⟨e0, e1, e2, e3, e4⟩, e5⟩ := STR_now hS
  have hQ := STR_MOM hS (by omega)
  have hT1 := tT.1
  have hT2 := tT.2.1
  have hT3 := tT.2.2.1
  have hT5 := tT.2.2.2.2.1
  have hd9 := hB.2.1
  have hk9 := hS.1
  have hM0 := hB.1.1
  have hM1 := hB.1.2.1
  have hM2 := hB.1.2.2.1
  refine ⟨_, _, fun l => sp_X6_least rfl i_n iw tT hB.1 hk9 hd9, fun l => sp_X7_least tM hQ (by omega) i_n iw, ?_⟩
  rintro z1 k1 z2 k2 (⟨q1, rfl, rfl⟩ | ⟨q1, rfl, k9, h9, l9, rfl⟩) (⟨q2, rfl, rfl⟩ | ⟨q2, rfl, w5, t5, rfl⟩)
  · exact ⟨rfl, hR.up.is⟩
  · exfalso; omega
  · exfalso; omega
  · refine ⟨?_, hR.up.is⟩
    rw [show min n (tDay mt - ms 0) = (min n (tDay (tsel k ua ub) - mo 0)) by omega]
    have hdn : (min n (tDay (tsel k ua ub) - mo 0)) ≤ tDay (tsel k ua ub) - mo 0 ∧ 0 ≤ (min n (tDay (tsel k ua ub) - mo 0)) := by omega
    generalize (min n (tDay (tsel k ua ub) - mo 0)) = dn at *
    unfold leaM planP planM
    rw [e1]
    by_cases q : mo 1 = 0
    · rw [if_pos q, if_pos (Or.inl q), if_pos q, if_neg (show ¬ (0 : Int) ≤ -1000000 by decide)]
      by_cases z : w = 1
      · rw [if_pos z, if_neg (by omega)]
      · rw [if_neg z, if_pos (by omega)]; rfl
    · by_cases q0 : dn = 0
      · rw [if_neg q, if_neg q, if_pos q0, if_pos (show mo 1 = 0 ∨ dn ≤ 0 by omega), if_pos (show dn ≤ 0 by omega), if_pos (show puf 0 ≤ -1000000 by decide)]
        split <;> rfl
      · have hf := plan_fold hRT (Or.inr ⟨rfl, rfl⟩ : ((0 : Int) = 1 ∧ (2 : Int) = 1) ∨ ((0 : Int) = 0 ∧ (2 : Int) = 2)) (dn := dn) e0 e1 e2 (by omega) (by omega) (by omega)
        have hb := foldB_b (g := bsV mt (MW mt 2 (ms 0) dn (dn.toNat - 1)) 2 (ms 0) (ms 1) (ms 2)) (b := -1000000) 6
        rw [hf, if_neg (show ¬ (mo 1 = 0 ∨ dn ≤ 0) by omega), if_neg q, if_neg (show ¬ dn ≤ 0 by omega), if_neg q, if_neg q0]
        have hb1 : -1000000 ≤ (mfold mt 2 ms dn).1 := hb.1
        have hb2 : (mfold mt 2 ms dn).1 = -1000000 → (mfold mt 2 ms dn).2 = -9 := hb.2
        generalize mfold mt 2 ms dn = F at *
        by_cases z : w = 1
        · rw [if_pos z]
          by_cases y : F.1 = -1000000
          · rw [if_pos y]; exact hb2 y
          · rw [if_neg y, if_neg (by omega)]
        · rw [if_neg z]
          by_cases y : F.1 = -1000000
          · rw [if_pos y, if_pos (by omega)]
          · rw [if_neg y, if_neg (by omega), if_pos (by omega)]
