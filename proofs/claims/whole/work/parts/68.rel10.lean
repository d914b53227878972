/-! the two readers of the text: the whole -/
theorem rdW_s {n : Nat} {x : XD} {s : TD} : rdW (n + 1) x s = if ¬ xK x = 0 ∧ xF x = 0 then rdW n (xInc (itmW x s)) (itmS x s) else (x, s) := rfl
theorem rdW_no {n : Nat} {x : XD} {s : TD} (h : ¬ (¬ xK x = 0 ∧ xF x = 0)) : rdW n x s = (x, s) := by
  cases n with
  | zero => rfl
  | succ n => exact if_neg h
def RDS (c : XD × TD × Nat) (r : XD × TD) : Prop := TXT c.1 r.1 ∧ XOK c.1 ∧ XOM r.1 ∧ TAR r.2 ∧ ((xF c.1 = -1 ∧ xF r.1 = 0 ∧ xR r.1 = (c.2.2 : Int) ∧ TLR c.2.1 r.2) ∨ (0 ≤ xF c.1 ∧ xF r.1 = 1 ∧ xS r.1 = xF c.1 ∧ TAR c.2.1))
theorem rd_eq : ∀ (m n : Nat) (x y : XD) (t s : TD) (i : Nat), PSR x t y s → xR y = (i : Int) → mswX y < m → (¬ xK x = 0 → (xN x - xP x).toNat + 1 ≤ n) → RDS (rdL n x t i) (rdW m y s)
  | 0, _, _, _, _, _, _, _, _, hm, _ => absurd hm (Nat.not_lt_zero _)
  | m + 1, n, x, y, t, s, i, h, hi, hm, hn => by
    obtain ⟨hX, hY, hk, fx, fy, hF, hL⟩ := id h
    obtain ⟨k1, k2, k3, k4, k5⟩ := id hk
    by_cases q : xK x = 0
    · rw [rdL_no (by omega), rdW_no (by omega)]
      exact ⟨k1, hX, hY, hL.2.2.1, Or.inl ⟨fx, fy, hi, hL⟩⟩
    · have hn := hn q
      obtain ⟨n, rfl⟩ : ∃ n2, n = n2 + 1 := ⟨n - 1, by omega⟩
      rw [rdL_s, rdW_s, if_pos ⟨q, fx⟩, if_pos ⟨by omega, fy⟩]
      have hXi := XOK_itm hX (t := t)
      have hYi := XOM_itm hY (s := s)
      have hXn := XOK_ntk hXi
      have hR := (itm_N (x := y) (s := s)).2
      have hFn := ntk_F (x := itmX x t)
      rcases itm_out h with ⟨g1, g2, g3, g4, g5⟩ | ⟨g1, g2, g3, g4, g5⟩
      · have hw := msw_itm hY (s := s) fy
        have hp := (itm_P hY g2).2.2.2
        have hN := (itm_N (x := y) (s := s)).1
        have fl := ntk_R (x := itmX x t)
        refine rd_eq m n (ntk (itmX x t)) (xInc (itmW y s)) (itmT x t) (itmS y s) (i + 1) ⟨hXn, hYi, g3, by omega, g2, FLR_of g4 fl.1 fl.2.1 fl.2.2 rfl rfl rfl, g5⟩ ?_ (by omega) (fun _ => ?_)
        · show xR (itmW y s) + 1 = ((i + 1 : Nat) : Int); omega
        · have e1 := g3.2.1
          have e2 := g3.1.1
          have e3 := k1.1
          have e4 := hXn.2.1
          omega
      · rw [rdL_no (by omega), rdW_no (x := xInc (itmW y s)) (show ¬ (¬ xK (itmW y s) = 0 ∧ xF (itmW y s) = 0) by omega)]
        have hnn := ntk_N (x := itmX x t)
        refine ⟨⟨?_, ?_⟩, hXn, hYi, TAR_itm hL.2.2.1, Or.inr ⟨?_, g2, ?_, g5⟩⟩
        · show xN (itmW y s) = xN (ntk (itmX x t)); rw [hnn.1]; exact g4.1
        · show ∀ a : Nat, (a : Int) < xN (ntk (itmX x t)) → xB (itmW y s) a = xB (ntk (itmX x t)) a
          rw [hnn.1, hnn.2]; exact g4.2
        · show 0 ≤ xF (ntk (itmX x t)); omega
        · show xS (itmW y s) = xF (ntk (itmX x t)); omega
theorem rd_all {x y : XD} {t s : TD} (h : RX x y) (ht : TAR t) (hs : TAR s) : RDS (rdAll x t) (rdW 400 (nxM (bgW y)) (bgS s)) := by
  obtain ⟨x1, x2, x3, x4⟩ := h
  have hk := tk_eq (x := begX x) (y := bgW y) ⟨x3, x4⟩ rfl
  have hr := ntk_R (x := begX x)
  have hn := nx_N (x := bgW y)
  have hp := nx_P x2.2.1
  have hX := XOK_ntk x1
  have hY := XOM_nx x2
  refine rd_eq 400 150 (ntk (begX x)) (nxM (bgW y)) (tWipe t) (bgS s) 0 ⟨hX, hY, hk, ntk_F, hn.2.1, ⟨Or.inl ⟨hr.1, ?_⟩, Or.inl ⟨hr.2.1, ?_⟩, Or.inl ⟨hr.2.2, ?_⟩⟩, ⟨⟨(by decide : (0 : Int) ≤ 0 ∧ (0 : Int) ≤ 14), (by decide : (0 : Int) ≤ 0 ∧ (0 : Int) ≤ 6), (by decide : (0 : Int) ≤ 0 ∧ (0 : Int) ≤ 4), (by decide : (-1 : Int) ≤ -1 ∧ (-1 : Int) ≤ 60), (by decide : (-1 : Int) ≤ -1 ∧ (-1 : Int) ≤ 6), (by decide : (-1 : Int) ≤ -1 ∧ (-1 : Int) ≤ 9)⟩, ht, hs, ⟨rfl, rfl, rfl⟩, ⟨rfl, rfl, rfl⟩, fun a ha => ?_, fun a ha => ?_, fun a ha => ?_⟩⟩ hn.2.2.1 ?_ (fun q => ?_)
  · exact (by decide : (-1 : Int) < 0)
  · exact (by decide : (-1 : Int) < 0)
  · exact (by decide : (-1 : Int) < 0)
  · exact absurd ha (show ¬ (a : Int) < 0 by omega)
  · exact absurd ha (show ¬ (a : Int) < 4 * 0 by omega)
  · exact absurd ha (show ¬ (a : Int) < 2 * 0 by omega)
  · have h1 := hY.2.1
    have h2 := hY.1
    unfold mswX
    split <;> omega
  · have h1 : xP (bgW y) = 0 := rfl
    have h2 := hp.2 (by rw [hk.2.2.2.1]; exact q)
    have h3 := hk.2.1
    have h4 := hX.1
    have h5 := hX.2.1
    omega
theorem XOM_bg {x : XD} (h : XOM x) : XOM (bgW x) := ⟨h.1, ⟨Int.le_refl _, h.1.1⟩, h.2.2.1, h.2.2.2.1, h.2.2.2.2.1, (by decide : (0 : Int) ≤ 0 ∧ (0 : Int) ≤ 1), h.2.2.2.2.2.2⟩
theorem RDS_RX {c : XD × TD × Nat} {r : XD × TD} (h : RDS c r) : RX c.1 r.1 := ⟨XOK_beg h.2.1, XOM_bg h.2.2.1, h.1.1, h.1.2⟩
theorem STR_beg {D N : Int} {mo f4 : FN} {sd : TD} {r : Int} (hN : 0 ≤ N) (hD : 0 ≤ D) (h : SETm sd f4) (hr : r = (if tRst sd < 0 then 20 else tRst sd)) (hb : 0 ≤ r ∧ r ≤ 60) : STR D N (mup (begM mo 9) 1 r) 0 f4 := by
  obtain ⟨h1, h2⟩ := h
  have z : ∀ c, c < 9 → c ≠ 1 → mup (begM mo 9) 1 r c = 0 := fun c hc q => by rw [mup_n q, begM_in hc]
  have one : mup (begM mo 9) 1 r 1 = r := mup_s
  refine ⟨by omega, h2 9 (by omega) (by omega), prm_of ⟨⟨?_, ?_, ?_, ?_, ?_⟩, fun i hi => ?_⟩, fun j c hj _ => by omega, fun j hj => ?_⟩
  · rw [z 0 (by omega) (by omega)]; exact h2 0 (by omega) (by omega)
  · rw [one, h1, hr]
  · rw [z 2 (by omega) (by omega)]; exact h2 2 (by omega) (by omega)
  · rw [z 3 (by omega) (by omega)]; exact h2 3 (by omega) (by omega)
  · rw [z 4 (by omega) (by omega)]; exact h2 8 (by omega) (by omega)
  · rw [z (5 + i) (by omega) (by omega)]; exact h2 (4 + i) (by omega) (by omega)
  · obtain rfl : j = 0 := by omega
    refine BLK_cg (f := mup (begM mo 9) 1 r) ⟨⟨?_, ?_, ?_, ?_, fun i hi => ?_⟩, ?_, ?_, ?_⟩ (fun c _ => by show mup _ _ _ (9 * 0 + c) = mup _ _ _ c; rw [show 9 * 0 + c = c by omega])
    · rw [z 0 (by omega) (by omega)]; omega
    · rw [one]; omega
    · rw [z 2 (by omega) (by omega)]; omega
    · rw [z 3 (by omega) (by omega)]; omega
    · rw [z (5 + i) (by omega) (by omega)]; omega
    · rw [z 0 (by omega) (by omega)]; exact hD
    · rw [z 4 (by omega) (by omega)]; omega
    · rw [z 4 (by omega) (by omega)]; exact hN
theorem SET_RT {t s mt t2 : TD} (hL : TLR t s) (hM : TOK mt) (h : SET s mt t2) : RT t t2 := by
  obtain ⟨l1, l2, l3, ⟨c1, c2, c3⟩, ⟨l5, l6, l7⟩, l8, l9, l10⟩ := hL
  obtain ⟨s1, s2, s3, s4, s5, s6, s7, s8, s9⟩ := h
  obtain ⟨w1, w2, w3, w4, w5, w6⟩ := l1
  have hRm := hM.2.2.2.1
  refine ⟨⟨by omega, by omega, by omega, ?_, ?_, ?_, l2⟩, ⟨by omega, by omega, by omega, by omega, ?_, ?_, ?_⟩, ⟨by omega, by omega, by omega, by rw [s8, l6], by rw [s9, l7]⟩, fun a ha => ?_, fun a ha => ?_, fun a ha => ?_⟩
  · rw [l5]; split <;> omega
  · rw [l6]; split <;> omega
  · rw [l7]; split <;> omega
  · rw [s8]; split <;> omega
  · rw [s9]; split <;> omega
  · refine ⟨fun i hi => ?_, fun i hi => ?_, fun i hi => ?_⟩
    · rw [s1 i hi]; exact l3.1 i hi
    · rw [s2 _ (by omega), s2 _ (by omega), s2 _ (by omega), s2 _ (by omega)]; exact l3.2.1 i hi
    · rw [s3 _ (by omega), s3 _ (by omega)]; exact l3.2.2 i hi
  · rw [s1 a (by omega)]; exact l8 a ha
  · rw [s2 a (by omega)]; exact l9 a ha
  · rw [s3 a (by omega)]; exact l10 a ha
theorem tsel_o {k : Bool} {ua ub t : TD} : tsel k (cond (!k) ua t) (cond (!k) t ub) = tsel k ua ub := by cases k <;> rfl
theorem tsel_n {k : Bool} {ua ub t : TD} : tsel (!k) (cond (!k) ua t) (cond (!k) t ub) = t := by cases k <;> rfl
theorem cs_sentence {N : Nat} {h1 h2 : mH} (h : RH N h1 h2)    : CASE N h1 h2 8 yX6_sentence cX6_sentence 3 8 yX7_sentence cX7_sentence 1 [] := by
  obtain ⟨k, asked, ux, ua, ub, mo, kn, kp, v1, v2, kP, pr, pl, tk, pm, pa, kO, qr, ql, un, lw, qa, kH, al, hr, lt, hd, mt, sd, ms, mg, mk, hn, mh, tr, mx, w9, t9, c9, g9, rfl, rfl, hR⟩ := h
  have hX := hR.2.2.2.1
  have hRD := rd_all hX hR.2.1 hR.2.2.1
  refine ⟨_, _, fun l => sp_X6_sentence (s := tsel (!k) ua ub) rfl hX.1, fun l => sp_X7_sentence hX.2.1 rfl, ?_⟩
  have hRX := RDS_RX hRD
  obtain ⟨r1, r2, r3, r4, r5⟩ := hRD
  have hAns : rdAns ux (tsel (!k) ua ub) = if xF (rdAll ux (tsel (!k) ua ub)).1 = -1 then ((rdAll ux (tsel (!k) ua ub)).2.2 : Int) else -10 - xF (rdAll ux (tsel (!k) ua ub)).1 := rfl
  have hT1 := hR.1.1
  have hT2 := hR.1.2.1
  generalize hC9 : rdAll ux (tsel (!k) ua ub) = C at *
  generalize hR9 : rdW 400 (nxM (bgW mx)) (bgS sd) = X9 at *
  generalize rdAns ux (tsel (!k) ua ub) = ans at *
  rintro z1 k1 z2 k2 (⟨q1, rfl, rfl⟩ | ⟨q1, rfl, rfl⟩) (⟨q2, rfl, rfl⟩ | ⟨q2, rfl, t9, f4, hSET, hSm, rfl⟩)
  · rcases r5 with ⟨a1, a2, a3, a4⟩ | ⟨a1, a2, a3, a4⟩
    · exact absurd a2 q2
    · rw [if_neg (by omega)] at hAns
      refine ⟨by omega, RLN.is ⟨?_, ?_, r4, hRX, ?_, ?_, ?_, hR.up.2.2.2.2.2.2.2⟩⟩
      · rw [tsel_o]; exact hR.1
      · rw [tsel_n]; exact a4
      · rw [tsel_o]; exact hR.up.2.2.2.2.1
      · rw [tsel_o]; exact hR.up.2.2.2.2.2.1
      · rw [tsel_o]; exact hR.up.2.2.2.2.2.2.1
  · rcases r5 with ⟨a1, a2, a3, a4⟩ | ⟨a1, a2, a3, a4⟩
    · rw [if_pos a1] at hAns; exfalso; omega
    · exfalso; omega
  · rcases r5 with ⟨a1, a2, a3, a4⟩ | ⟨a1, a2, a3, a4⟩
    · exact absurd a2 q2
    · rw [if_neg (by omega)] at hAns; exfalso; omega
  · rcases r5 with ⟨a1, a2, a3, a4⟩ | ⟨a1, a2, a3, a4⟩
    · rw [if_pos a1] at hAns
      have hRT := SET_RT a4 hT2 hSET
      have hw4 := a4.1.2.2.2.1
      have hrr := a4.2.2.2.2.1.1
      have hrb : 0 ≤ tRst C.2.1 ∧ tRst C.2.1 ≤ 60 := by rw [hrr]; split <;> omega
      have hD := hRT.1.1
      have hH := hR.2.2.2.2.2.2.2.1
      refine ⟨by omega, RLN.is ⟨?_, ?_, r4, RX_clr hRX, ?_, ⟨Or.inl rfl, ?_, fun q => absurd q (show ¬ (0 : Int) = 1 by decide)⟩, ⟨Or.inl rfl, ?_, fun q => absurd q (show ¬ (0 : Int) = 1 by decide)⟩, ⟨hH.1, by decide, rfl, ?_⟩, hR.2.2.2.2.2.2.2.2⟩⟩
      · rw [tsel_n]; exact hRT
      · rw [show tsel (!(!k)) (cond (!k) ua C.2.1) (cond (!k) C.2.1 ub) = tsel k ua ub from by cases k <;> rfl]; exact TOK_TAR hT1
      · rw [tsel_n]; exact STR_beg (by omega) (by omega) hSm hrr hrb
      · rw [mup_n (by decide), mup_s]
      · rw [mup_s]
      · intro d hd
        show drpA al 14 d = st19 (hAl mh 0 d)
        rw [drpA_in hd, ← st_all]
        exact st19_cg (fun i hi => (hAl_0 hi).symm)
    · exfalso; omega
