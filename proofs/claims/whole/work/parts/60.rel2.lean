/-! the relation of the two heaps, and the calls that keep it -/
def RI (D N : Int) (v : SD) (mg : FN) (k : Int) : Prop := (v.2.2 = 0 ∨ v.2.2 = 1) ∧ k = v.2.2 ∧ (v.2.2 = 1 → STR D N v.1 v.2.1 mg)
theorem RI_up {D N M : Int} {v : SD} {mg : FN} {k : Int} (h : RI D N v mg k) (hN : N ≤ M) : RI D M v mg k := ⟨h.1, h.2.1, fun q => STR_up (h.2.2 q) hN⟩
theorem RI_cg {D N : Int} {v : SD} {mg mg' : FN} {k : Int} (h : RI D N v mg k) (e : ∀ a, a < 100 → mg' a = mg a) : RI D N v mg' k := ⟨h.1, h.2.1, fun q => STR_cg (h.2.2 q) (fun _ _ => rfl) e⟩
def hAl (mh : FN) (hn : Int) (d i : Nat) : Bool := decide (hrdF mh (d : Int) ((i : Int) - 9) hn.toNat = 1)
def RHr (ur : HD) (hn : Int) (mh : FN) : Prop := HOK mh ∧ (0 ≤ hn ∧ hn ≤ 6) ∧ ur.2.2.2.2 = hn ∧ alIs ur.2.1 (hAl mh hn)
def RLN (N : Int) (k : Bool) (asked : Int) (ux : XD) (ua ub : TD) (v0 v1 v2 : SD) (ur : HD) (mt sd : TD) (ms mg mk : FN) (hn : Int) (mh : FN) (tr : Int) (mx : XD) : Prop :=
  RT (tsel k ua ub) mt ∧ TAR (tsel (!k) ua ub) ∧ TAR sd ∧ RX ux mx ∧ STR (tDay (tsel k ua ub)) N v0.1 v0.2.1 ms ∧ RI (tDay (tsel k ua ub)) N v1 mg (mk 0) ∧ RI (tDay (tsel k ua ub)) N v2 (fun a => mg (100 + a)) (mk 1) ∧ RHr ur hn mh ∧ asked = tr
def RH (N : Nat) (h1 h2 : mH) : Prop := ∃ (k : Bool) (asked : Int) (ux : XD) (ua ub : TD) (mo : FN) (kn kp : Int) (v1 v2 : SD) (kP : Bool) (pr pl : FN) (tk pm pa : Int) (kO : Bool) (qr ql : FN) (un lw qa : Int) (kH : Bool) (al hr lt : FN) (hd : Int) (mt sd : TD) (ms mg mk : FN) (hn : Int) (mh : FN) (tr : Int) (mx : XD) (w9 t9 c9 g9 : FN), h1 = hC (k, asked) ux ua ub (mo, kn, kp) v1 v2 (kP, pr, pl, tk, pm, pa) (kO, qr, ql, un, lw, qa) (kH, al, hr, lt, hd) ∧ h2 = hM mt sd ms mg mk hn mh tr mx w9 t9 c9 g9 ∧ RLN (N : Int) k asked ux ua ub (mo, kn, kp) v1 v2 (kH, al, hr, lt, hd) mt sd ms mg mk hn mh tr mx
section MK
variable {N : Nat} {k : Bool} {asked : Int} {ux ux' : XD} {ua ub : TD} {mo mo' : FN} {kn kn' kp kp' : Int} {v1 v2 v1' v2' : SD} {kP : Bool} {pr pl : FN} {tk pm pa : Int} {kO : Bool} {qr ql : FN} {un lw qa : Int} {kH kH' : Bool} {al hr lt al' hr' lt' : FN} {hd hd' : Int} {mt sd : TD} {ms mg mk ms' mg' mk' : FN} {hn hn' : Int} {mh mh' : FN} {tr : Int} {mx mx' : XD} {w9 t9 c9 g9 : FN}
theorem RLN.is (h : RLN (N : Int) k asked ux ua ub (mo, kn, kp) v1 v2 (kH, al, hr, lt, hd) mt sd ms mg mk hn mh tr mx) : RH N (hC (k, asked) ux ua ub (mo, kn, kp) v1 v2 (kP, pr, pl, tk, pm, pa) (kO, qr, ql, un, lw, qa) (kH, al, hr, lt, hd)) (hM mt sd ms mg mk hn mh tr mx w9 t9 c9 g9) :=
  ⟨k, asked, ux, ua, ub, mo, kn, kp, v1, v2, kP, pr, pl, tk, pm, pa, kO, qr, ql, un, lw, qa, kH, al, hr, lt, hd, mt, sd, ms, mg, mk, hn, mh, tr, mx, w9, t9, c9, g9, rfl, rfl, h⟩
theorem up1 : (N : Int) ≤ ((N + 1 : Nat) : Int) := by omega
theorem RLN.up (h : RLN (N : Int) k asked ux ua ub (mo, kn, kp) v1 v2 (kH, al, hr, lt, hd) mt sd ms mg mk hn mh tr mx) : RLN ((N + 1 : Nat) : Int) k asked ux ua ub (mo, kn, kp) v1 v2 (kH, al, hr, lt, hd) mt sd ms mg mk hn mh tr mx :=
  ⟨h.1, h.2.1, h.2.2.1, h.2.2.2.1, STR_up h.2.2.2.2.1 up1, RI_up h.2.2.2.2.2.1 up1, RI_up h.2.2.2.2.2.2.1 up1, h.2.2.2.2.2.2.2⟩
theorem RLN.txt (h : RLN (N : Int) k asked ux ua ub (mo, kn, kp) v1 v2 (kH, al, hr, lt, hd) mt sd ms mg mk hn mh tr mx) (hx : RX ux' mx') : RLN ((N + 1 : Nat) : Int) k asked ux' ua ub (mo, kn, kp) v1 v2 (kH, al, hr, lt, hd) mt sd ms mg mk hn mh tr mx' :=
  ⟨h.1, h.2.1, h.2.2.1, hx, h.up.2.2.2.2⟩
theorem RLN.str (h : RLN (N : Int) k asked ux ua ub (mo, kn, kp) v1 v2 (kH, al, hr, lt, hd) mt sd ms mg mk hn mh tr mx) (hs : STR (tDay (tsel k ua ub)) ((N + 1 : Nat) : Int) mo' kn' ms') : RLN ((N + 1 : Nat) : Int) k asked ux ua ub (mo', kn', kp') v1 v2 (kH, al, hr, lt, hd) mt sd ms' mg mk hn mh tr mx :=
  ⟨h.1, h.2.1, h.2.2.1, h.2.2.2.1, hs, h.up.2.2.2.2.2⟩
theorem RLN.img (h : RLN (N : Int) k asked ux ua ub (mo, kn, kp) v1 v2 (kH, al, hr, lt, hd) mt sd ms mg mk hn mh tr mx) (h1 : RI (tDay (tsel k ua ub)) (N : Int) v1' mg' (mk' 0)) (h2 : RI (tDay (tsel k ua ub)) (N : Int) v2' (fun a => mg' (100 + a)) (mk' 1)) : RLN ((N + 1 : Nat) : Int) k asked ux ua ub (mo, kn, kp) v1' v2' (kH, al, hr, lt, hd) mt sd ms mg' mk' hn mh tr mx :=
  ⟨h.1, h.2.1, h.2.2.1, h.2.2.2.1, h.up.2.2.2.2.1, RI_up h1 up1, RI_up h2 up1, h.2.2.2.2.2.2.2⟩
theorem RLN.hea (h : RLN (N : Int) k asked ux ua ub (mo, kn, kp) v1 v2 (kH, al, hr, lt, hd) mt sd ms mg mk hn mh tr mx) (hx : RHr (kH', al', hr', lt', hd') hn' mh') : RLN ((N + 1 : Nat) : Int) k asked ux ua ub (mo, kn, kp) v1 v2 (kH', al', hr', lt', hd') mt sd ms mg mk hn' mh' tr mx :=
  ⟨h.1, h.2.1, h.2.2.1, h.2.2.2.1, h.up.2.2.2.2.1, h.up.2.2.2.2.2.1, h.up.2.2.2.2.2.2.1, hx, h.2.2.2.2.2.2.2.2⟩
theorem RLN.tra {x : Int} (h : RLN (N : Int) k asked ux ua ub (mo, kn, kp) v1 v2 (kH, al, hr, lt, hd) mt sd ms mg mk hn mh tr mx) : RLN ((N + 1 : Nat) : Int) k (asked + x) ux ua ub (mo, kn, kp) v1 v2 (kH, al, hr, lt, hd) mt sd ms mg mk hn mh (tr + x) mx :=
  ⟨h.1, h.2.1, h.2.2.1, h.2.2.2.1, h.up.2.2.2.2.1, h.up.2.2.2.2.2.1, h.up.2.2.2.2.2.2.1, h.2.2.2.2.2.2.2.1, by rw [h.2.2.2.2.2.2.2.2]⟩
end MK
/-- one call on both: the same answer, the relation again -/
def CASE (N : Nat) (h1 h2 : mH) (d1 : Nat) (y1 : MethodName) (b1 : ByteArray) (n1 : Nat) (d2 : Nat) (y2 : MethodName) (b2 : ByteArray) (n2 : Nat) (As : List mV) : Prop :=
  ∃ p1 p2 : Int → mH → Prop, (∀ l, SpI l d1 y1 b1 n1 (some .int) (mr 0 :: As) h1 p1) ∧ (∀ l, SpI l d2 y2 b2 n2 (some .int) (mr 0 :: As) h2 p2) ∧ ∀ z1 k1 z2 k2, p1 z1 k1 → p2 z2 k2 → z1 = z2 ∧ RH (N + 1) k1 k2
theorem mcpy_00 {f g : FN} {a : Nat} (h : a < 99) : mcpy f g 0 0 99 a = f a := (if_pos (by omega)).trans (congrArg f (by omega))
theorem cs_type {N : Nat} {h1 h2 : mH} (h : RH N h1 h2) {c : Int} (hc : inI c) : CASE N h1 h2 2 yX6_type cX6_type 2 2 yX7_type cX7_type 2 [mi c] := by
  obtain ⟨k, asked, ux, ua, ub, mo, kn, kp, v1, v2, kP, pr, pl, tk, pm, pa, kO, qr, ql, un, lw, qa, kH, al, hr, lt, hd, mt, sd, ms, mg, mk, hn, mh, tr, mx, w9, t9, c9, g9, rfl, rfl, hR⟩ := h
  obtain ⟨x1, x2, x3, x4⟩ := id hR.2.2.2.1
  have hN : 0 ≤ xN ux ∧ xN ux ≤ 150 := x1.1
  refine ⟨_, _, fun l => sp_X6_type hc hN, fun l => sp_X7_type hc (by omega), ?_⟩
  rintro z1 k1 z2 k2 (⟨q1, rfl, rfl⟩ | ⟨q1, rfl, rfl⟩ | ⟨q1, rfl, rfl⟩) (⟨q2, rfl, rfl⟩ | ⟨q2, rfl, rfl⟩ | ⟨q2, rfl, rfl⟩)
  · exact ⟨rfl, hR.up.is⟩
  · exfalso; omega
  · exfalso; omega
  · exfalso; omega
  · exact ⟨rfl, hR.up.is⟩
  · exfalso; omega
  · exfalso; omega
  · exfalso; omega
  · refine ⟨by omega, (hR.txt ⟨?_, ?_, ?_, ?_⟩).is⟩
    · refine ⟨by show 0 ≤ xN ux + 1 ∧ xN ux + 1 ≤ 150; omega, ⟨Int.le_refl _, by show 0 ≤ xN ux + 1; omega⟩, x1.2.2.1, x1.2.2.2.1, x1.2.2.2.2.1, x1.2.2.2.2.2.1, fun i hi => ?_⟩
      show 0 ≤ mup (xB ux) (xN ux).toNat c i ∧ mup (xB ux) (xN ux).toNat c i ≤ 255
      by_cases q : i = (xN ux).toNat
      · rw [q, mup_s]; omega
      · rw [mup_n q]; exact x1.2.2.2.2.2.2 i hi
    · refine ⟨by show 0 ≤ xN mx + 1 ∧ xN mx + 1 ≤ 150; omega, ⟨Int.le_refl _, by show 0 ≤ xN mx + 1; omega⟩, x2.2.2.1, x2.2.2.2.1, x2.2.2.2.2.1, x2.2.2.2.2.2.1, fun i hi => ?_⟩
      show 0 ≤ mup (xB mx) (xN mx).toNat c i ∧ mup (xB mx) (xN mx).toNat c i ≤ 255
      by_cases q : i = (xN mx).toNat
      · rw [q, mup_s]; omega
      · rw [mup_n q]; exact x2.2.2.2.2.2.2 i hi
    · show xN mx + 1 = xN ux + 1; omega
    · intro a ha
      have ha : (a : Int) < xN ux + 1 := ha
      show mup (xB mx) (xN mx).toNat c a = mup (xB ux) (xN ux).toNat c a
      rw [x3]
      by_cases q : a = (xN ux).toNat
      · rw [q, mup_s, mup_s]
      · rw [mup_n q, mup_n q]; exact x4 a (by omega)
theorem RX_clr {x y : XD} (h : RX x y) : RX (xClr x) (xClr y) := by
  obtain ⟨x1, x2, x3, x4⟩ := h
  refine ⟨⟨(by decide : (0 : Int) ≤ 0 ∧ (0 : Int) ≤ 150), (by decide : (0 : Int) ≤ 0 ∧ (0 : Int) ≤ 0), x1.2.2.1, x1.2.2.2.1, x1.2.2.2.2.1, x1.2.2.2.2.2.1, x1.2.2.2.2.2.2⟩, ⟨(by decide : (0 : Int) ≤ 0 ∧ (0 : Int) ≤ 150), (by decide : (0 : Int) ≤ 0 ∧ (0 : Int) ≤ 0), x2.2.2.1, x2.2.2.2.1, x2.2.2.2.2.1, x2.2.2.2.2.2.1, x2.2.2.2.2.2.2⟩, rfl, fun a ha => absurd ha (show ¬ (a : Int) < 0 by omega)⟩
theorem cs_clear {N : Nat} {h1 h2 : mH} (h : RH N h1 h2)    : CASE N h1 h2 1 yX6_clear cX6_clear 2 1 yX7_clear cX7_clear 2 [] := by
  obtain ⟨k, asked, ux, ua, ub, mo, kn, kp, v1, v2, kP, pr, pl, tk, pm, pa, kO, qr, ql, un, lw, qa, kH, al, hr, lt, hd, mt, sd, ms, mg, mk, hn, mh, tr, mx, w9, t9, c9, g9, rfl, rfl, hR⟩ := h
  refine ⟨_, _, fun l => sp_X6_clear, fun l => sp_X7_clear, ?_⟩
  rintro z1 k1 z2 k2 ⟨rfl, rfl⟩ ⟨rfl, rfl⟩
  exact ⟨hR.2.2.2.1.2.2.1.symm, (hR.txt (RX_clr hR.2.2.2.1)).is⟩
theorem cs_sun {N : Nat} {h1 h2 : mH} (h : RH N h1 h2) {d : Int} (hd0 : inI d) (hN : N ≤ 100) : CASE N h1 h2 2 yX6_sun cX6_sun 2 2 yX7_sun cX7_sun 2 [mi d] := by
  obtain ⟨k, asked, ux, ua, ub, mo, kn, kp, v1, v2, kP, pr, pl, tk, pm, pa, kO, qr, ql, un, lw, qa, kH, al, hr, lt, hd, mt, sd, ms, mg, mk, hn, mh, tr, mx, w9, t9, c9, g9, rfl, rfl, hR⟩ := h
  have hRT := hR.1
  obtain ⟨tT, tM, ⟨t1, t2, t3, t4, t5⟩, t6, t7, t8⟩ := id hRT
  have hS := hR.2.2.2.2.1
  have hS : STR (tDay (tsel k ua ub)) (N : Int) mo kn ms := hS
  have hB := STR_0 hS
  obtain ⟨⟨e0, e1, e2, e3, e4⟩, e5⟩ := STR_now hS
  have hQ := STR_MOM hS (by omega)
  have hT1 := tT.1
  have hT2 := tT.2.1
  have hT3 := tT.2.2.1
  have hT5 := tT.2.2.2.2.1
  have hd9 := hB.2.1
  have hk9 := hS.1
  have hM0 := hB.1.1
  have hM1 := hB.1.2.1
  have hM2 := hB.1.2.2.1
  refine ⟨_, _, fun l => sp_X6_sun rfl hd0 (by omega), fun l => sp_X7_sun hd0 (by omega), ?_⟩
  rintro z1 k1 z2 k2 ⟨rfl, rfl⟩ ⟨rfl, rfl⟩
  refine ⟨?_, hR.up.is⟩
  rw [t1]
  by_cases q : 0 ≤ d ∧ d < tDay (tsel k ua ub) ∧ d < 14
  · rw [if_pos q, if_pos q, t6 d.toNat (by omega)]
  · rw [if_neg q, if_neg q]
theorem cs_bribe {N : Nat} {h1 h2 : mH} (h : RH N h1 h2) {b w : Int} (hb : inI b) (hw : inI w) (hN : N ≤ 100) : CASE N h1 h2 2 yX6_bribe cX6_bribe 3 2 yX7_bribe cX7_bribe 3 [mi b, mi w] := by
  obtain ⟨k, asked, ux, ua, ub, mo, kn, kp, v1, v2, kP, pr, pl, tk, pm, pa, kO, qr, ql, un, lw, qa, kH, al, hr, lt, hd, mt, sd, ms, mg, mk, hn, mh, tr, mx, w9, t9, c9, g9, rfl, rfl, hR⟩ := h
  have hRT := hR.1
  obtain ⟨tT, tM, ⟨t1, t2, t3, t4, t5⟩, t6, t7, t8⟩ := id hRT
  have hS := hR.2.2.2.2.1
  have hS : STR (tDay (tsel k ua ub)) (N : Int) mo kn ms := hS
  have hB := STR_0 hS
  obtain ⟨⟨e0, e1, e2, e3, e4⟩, e5⟩ := STR_now hS
  have hQ := STR_MOM hS (by omega)
  have hT1 := tT.1
  have hT2 := tT.2.1
  have hT3 := tT.2.2.1
  have hT5 := tT.2.2.2.2.1
  have hd9 := hB.2.1
  have hk9 := hS.1
  have hM0 := hB.1.1
  have hM1 := hB.1.2.1
  have hM2 := hB.1.2.2.1
  refine ⟨_, _, fun l => sp_X6_bribe rfl hb hw hT2, fun l => sp_X7_bribe hb hw (by omega), ?_⟩
  rintro z1 k1 z2 k2 ⟨rfl, rfl⟩ ⟨rfl, rfl⟩
  refine ⟨?_, hR.up.is⟩
  rw [t2]
  by_cases q : 0 ≤ b ∧ b < tNB (tsel k ua ub) ∧ 0 ≤ w ∧ w ≤ 3
  · rw [if_pos q, if_pos q, t7 (4 * b + w).toNat (by omega)]
  · rw [if_neg q, if_neg q]
theorem cs_trade {N : Nat} {h1 h2 : mH} (h : RH N h1 h2) {i w : Int} (hi : inI i) (hw : inI w) (hN : N ≤ 100) : CASE N h1 h2 2 yX6_trade cX6_trade 3 3 yX7_trade cX7_trade 3 [mi i, mi w] := by
  obtain ⟨k, asked, ux, ua, ub, mo, kn, kp, v1, v2, kP, pr, pl, tk, pm, pa, kO, qr, ql, un, lw, qa, kH, al, hr, lt, hd, mt, sd, ms, mg, mk, hn, mh, tr, mx, w9, t9, c9, g9, rfl, rfl, hR⟩ := h
  have hRT := hR.1
  obtain ⟨tT, tM, ⟨t1, t2, t3, t4, t5⟩, t6, t7, t8⟩ := id hRT
  have hS := hR.2.2.2.2.1
  have hS : STR (tDay (tsel k ua ub)) (N : Int) mo kn ms := hS
  have hB := STR_0 hS
  obtain ⟨⟨e0, e1, e2, e3, e4⟩, e5⟩ := STR_now hS
  have hQ := STR_MOM hS (by omega)
  have hT1 := tT.1
  have hT2 := tT.2.1
  have hT3 := tT.2.2.1
  have hT5 := tT.2.2.2.2.1
  have hd9 := hB.2.1
  have hk9 := hS.1
  have hM0 := hB.1.1
  have hM1 := hB.1.2.1
  have hM2 := hB.1.2.2.1
  refine ⟨_, _, fun l => sp_X6_trade rfl hi hw hT3, fun l => sp_X7_trade hi hw (by omega), ?_⟩
  rintro z1 k1 z2 k2 ⟨rfl, rfl⟩ ⟨rfl, rfl⟩
  refine ⟨?_, hR.up.is⟩
  rw [t3]
  by_cases q : 0 ≤ i ∧ i < tNT (tsel k ua ub) ∧ 0 ≤ w ∧ w ≤ 2
  · rw [if_pos q, if_pos q]
    by_cases q2 : w = 2
    · rw [if_pos q2, if_pos q2, show (5 + i).toNat = 5 + i.toNat by omega, show (4 + i).toNat = 4 + i.toNat by omega, e5 i.toNat (by omega)]
    · rw [if_neg q2, if_neg q2, t8 (2 * i + w).toNat (by omega)]
  · rw [if_neg q, if_neg q]
theorem cs_winds {N : Nat} {h1 h2 : mH} (h : RH N h1 h2) {p z : Int} (hp : inI p) (hz : inI z) (hN : N ≤ 100) : CASE N h1 h2 6 yX6_winds cX6_winds 3 3 yX7_winds cX7_winds 8 [mi p, mi z] := by
  obtain ⟨k, asked, ux, ua, ub, mo, kn, kp, v1, v2, kP, pr, pl, tk, pm, pa, kO, qr, ql, un, lw, qa, kH, al, hr, lt, hd, mt, sd, ms, mg, mk, hn, mh, tr, mx, w9, t9, c9, g9, rfl, rfl, hR⟩ := h
  have hRT := hR.1
  obtain ⟨tT, tM, ⟨t1, t2, t3, t4, t5⟩, t6, t7, t8⟩ := id hRT
  have hS := hR.2.2.2.2.1
  have hS : STR (tDay (tsel k ua ub)) (N : Int) mo kn ms := hS
  have hB := STR_0 hS
  obtain ⟨⟨e0, e1, e2, e3, e4⟩, e5⟩ := STR_now hS
  have hQ := STR_MOM hS (by omega)
  have hT1 := tT.1
  have hT2 := tT.2.1
  have hT3 := tT.2.2.1
  have hT5 := tT.2.2.2.2.1
  have hd9 := hB.2.1
  have hk9 := hS.1
  have hM0 := hB.1.1
  have hM1 := hB.1.2.1
  have hM2 := hB.1.2.2.1
  refine ⟨_, _, fun l => sp_X6_winds rfl hp hz tT hB.1 hk9 hd9, fun l => sp_X7_winds tM hQ (by omega) hp hz, ?_⟩
  rintro z1 k1 z2 k2 (⟨q1, rfl, rfl⟩ | ⟨q1, g1, rfl, rfl⟩ | ⟨q1, g1, rfl, rfl⟩) (⟨q2, rfl, rfl⟩ | ⟨q2, g2, rfl, rfl⟩ | ⟨q2, g2, rfl, rfl⟩)
  · exact ⟨rfl, hR.up.is⟩
  · exfalso; omega
  · exfalso; omega
  · exfalso; omega
  · exact ⟨rfl, hR.up.is⟩
  · exfalso; omega
  · exfalso; omega
  · exfalso; omega
  · have hw := STR_wnd hRT hS (p := p) (z := z) (by omega) (by omega) (by omega)
    exact ⟨hw.1, (hR.str hw.2).is⟩
theorem cs_watches {N : Nat} {h1 h2 : mH} (h : RH N h1 h2)   (hN : N ≤ 100) : CASE N h1 h2 5 yX6_watches cX6_watches 1 3 yX7_watches cX7_watches 1 [] := by
  obtain ⟨k, asked, ux, ua, ub, mo, kn, kp, v1, v2, kP, pr, pl, tk, pm, pa, kO, qr, ql, un, lw, qa, kH, al, hr, lt, hd, mt, sd, ms, mg, mk, hn, mh, tr, mx, w9, t9, c9, g9, rfl, rfl, hR⟩ := h
  have hRT := hR.1
  obtain ⟨tT, tM, ⟨t1, t2, t3, t4, t5⟩, t6, t7, t8⟩ := id hRT
  have hS := hR.2.2.2.2.1
  have hS : STR (tDay (tsel k ua ub)) (N : Int) mo kn ms := hS
  have hB := STR_0 hS
  obtain ⟨⟨e0, e1, e2, e3, e4⟩, e5⟩ := STR_now hS
  have hQ := STR_MOM hS (by omega)
  have hT1 := tT.1
  have hT2 := tT.2.1
  have hT3 := tT.2.2.1
  have hT5 := tT.2.2.2.2.1
  have hd9 := hB.2.1
  have hk9 := hS.1
  have hM0 := hB.1.1
  have hM1 := hB.1.2.1
  have hM2 := hB.1.2.2.1
  refine ⟨_, _, fun l => sp_X6_watches rfl tT hB.1 hk9 hd9, fun l => sp_X7_watches tM hQ (by omega), ?_⟩
  rintro z1 k1 z2 k2 (⟨q1, rfl, rfl⟩ | ⟨q1, rfl, rfl⟩) (⟨q2, rfl, rfl⟩ | ⟨q2, rfl, rfl⟩)
  · exact ⟨rfl, hR.up.is⟩
  · exfalso; omega
  · exfalso; omega
  · have hc := STR_chk (STR_rem hS) (lim := tLim (tsel k ua ub)) (add := tAdd (tsel k ua ub)) tT.2.2.2.2.2.1
    rw [t4, t5]
    exact ⟨hc.1, (hR.str hc.2).is⟩
theorem cs_corrects {N : Nat} {h1 h2 : mH} (h : RH N h1 h2) {n : Int} (hn0 : inI n) (hN : N ≤ 100) : CASE N h1 h2 5 yX6_corrects cX6_corrects 2 3 yX7_corrects cX7_corrects 2 [mi n] := by
  obtain ⟨k, asked, ux, ua, ub, mo, kn, kp, v1, v2, kP, pr, pl, tk, pm, pa, kO, qr, ql, un, lw, qa, kH, al, hr, lt, hd, mt, sd, ms, mg, mk, hn, mh, tr, mx, w9, t9, c9, g9, rfl, rfl, hR⟩ := h
  have hRT := hR.1
  obtain ⟨tT, tM, ⟨t1, t2, t3, t4, t5⟩, t6, t7, t8⟩ := id hRT
  have hS := hR.2.2.2.2.1
  have hS : STR (tDay (tsel k ua ub)) (N : Int) mo kn ms := hS
  have hB := STR_0 hS
  obtain ⟨⟨e0, e1, e2, e3, e4⟩, e5⟩ := STR_now hS
  have hQ := STR_MOM hS (by omega)
  have hT1 := tT.1
  have hT2 := tT.2.1
  have hT3 := tT.2.2.1
  have hT5 := tT.2.2.2.2.1
  have hd9 := hB.2.1
  have hk9 := hS.1
  have hM0 := hB.1.1
  have hM1 := hB.1.2.1
  have hM2 := hB.1.2.2.1
  refine ⟨_, _, fun l => sp_X6_corrects rfl hn0 tT hB.1 hk9 hd9, fun l => sp_X7_corrects tM hQ (by omega) hn0, ?_⟩
  rintro z1 k1 z2 k2 (⟨q1, rfl, rfl⟩ | ⟨q1, rfl, rfl⟩) (⟨q2, rfl, rfl⟩ | ⟨q2, rfl, rfl⟩)
  · exact ⟨rfl, hR.up.is⟩
  · exfalso; omega
  · exfalso; omega
  · refine ⟨by omega, (hR.str ?_).is⟩
    have hr := STR_up (STR_rem hS) (M := ((N + 1 : Nat) : Int)) up1
    obtain ⟨⟨r0, r1, r2, r3, r4⟩, r5⟩ := STR_now hr
    obtain ⟨⟨a0, a1, a2, a3, a5⟩, b1, c1, c2⟩ := STR_0 hr
    refine STR_set hr (prm_of ⟨⟨?_, ?_, ?_, ?_, ?_⟩, ?_⟩) (fun a ha => mup_n (by omega)) (fun a ha => mup_n (by omega)) ⟨⟨?_, ?_, ?_, ?_, ?_⟩, ?_, ?_, ?_⟩
    · rw [mup_n (by omega), mup_n (by omega)]; exact r0
    · rw [mup_n (by omega), mup_n (by omega)]; exact r1
    · rw [mup_s, mup_s, e2]
    · rw [mup_n (by omega), mup_n (by omega)]; exact r3
    · rw [mup_n (by omega), mup_n (by omega)]; exact r4
    · intro i hi; rw [mup_n (by omega), mup_n (by omega)]; exact r5 i hi
    · rw [mup_n (by omega)]; exact a0
    · rw [mup_n (by omega)]; exact a1
    · rw [mup_s]; omega
    · rw [mup_n (by omega)]; exact a3
    · intro i hi; rw [mup_n (by omega)]; exact a5 i hi
    · rw [mup_n (by omega)]; exact b1
    · rw [mup_n (by omega)]; exact c1
    · rw [mup_n (by omega)]; exact c2
theorem cs_pays {N : Nat} {h1 h2 : mH} (h : RH N h1 h2) {i v : Int} (hi : inI i) (hv : inI v) (hN : N ≤ 100) : CASE N h1 h2 4 yX6_pays cX6_pays 3 3 yX7_pays cX7_pays 3 [mi i, mi v] := by
  obtain ⟨k, asked, ux, ua, ub, mo, kn, kp, v1, v2, kP, pr, pl, tk, pm, pa, kO, qr, ql, un, lw, qa, kH, al, hr, lt, hd, mt, sd, ms, mg, mk, hn, mh, tr, mx, w9, t9, c9, g9, rfl, rfl, hR⟩ := h
  have hRT := hR.1
  obtain ⟨tT, tM, ⟨t1, t2, t3, t4, t5⟩, t6, t7, t8⟩ := id hRT
  have hS := hR.2.2.2.2.1
  have hS : STR (tDay (tsel k ua ub)) (N : Int) mo kn ms := hS
  have hB := STR_0 hS
  obtain ⟨⟨e0, e1, e2, e3, e4⟩, e5⟩ := STR_now hS
  have hQ := STR_MOM hS (by omega)
  have hT1 := tT.1
  have hT2 := tT.2.1
  have hT3 := tT.2.2.1
  have hT5 := tT.2.2.2.2.1
  have hd9 := hB.2.1
  have hk9 := hS.1
  have hM0 := hB.1.1
  have hM1 := hB.1.2.1
  have hM2 := hB.1.2.2.1
  refine ⟨_, _, fun l => sp_X6_pays rfl hi hv tT hB.1 hk9 hd9, fun l => sp_X7_pays tM hQ (by omega) hi hv, ?_⟩
  rintro z1 k1 z2 k2 (⟨q1, rfl, rfl⟩ | ⟨q1, g1, rfl, rfl⟩ | ⟨q1, g1, rfl, rfl⟩) (⟨q2, rfl, rfl⟩ | ⟨q2, g2, rfl, rfl⟩ | ⟨q2, g2, rfl, rfl⟩)
  · exact ⟨rfl, hR.up.is⟩
  · exfalso; omega
  · exfalso; omega
  · exfalso; omega
  · exact ⟨rfl, hR.up.is⟩
  · exfalso; omega
  · exfalso; omega
  · exfalso; omega
  · have ei : ms (4 + i).toNat = mo (5 + i).toNat := by rw [show (5 + i).toNat = 5 + i.toNat by omega, show (4 + i).toNat = 4 + i.toNat by omega, e5 i.toNat (by omega)]
    have hm5 := hB.1.2.2.2.2 i.toNat (by omega)
    rw [show 5 + i.toNat = (5 + i).toNat by omega] at hm5
    refine ⟨by rw [ei], (hR.str ?_).is⟩
    have hr := STR_up (STR_rem hS) (M := ((N + 1 : Nat) : Int)) up1
    obtain ⟨⟨r0, r1, r2, r3, r4⟩, r5⟩ := STR_now hr
    obtain ⟨⟨a0, a1, a2, a3, a5⟩, b1, c1, c2⟩ := STR_0 hr
    have hm3 := hB.1.2.2.2.1
    rw [ei, e3]
    refine STR_set hr (prm_of ⟨⟨?_, ?_, ?_, ?_, ?_⟩, ?_⟩) (fun a ha => by rw [mup_n (by omega), mup_n (by omega)]) (fun a ha => by rw [mup_n (by omega), mup_n (by omega)]) ⟨⟨?_, ?_, ?_, ?_, ?_⟩, ?_, ?_, ?_⟩
    · rw [mup_n (by omega), mup_n (by omega), mup_n (by omega), mup_n (by omega)]; exact r0
    · rw [mup_n (by omega), mup_n (by omega), mup_n (by omega), mup_n (by omega)]; exact r1
    · rw [mup_n (by omega), mup_n (by omega), mup_n (by omega), mup_n (by omega)]; exact r2
    · rw [mup_n (by omega), mup_s, mup_n (by omega), mup_s]
    · rw [mup_n (by omega), mup_n (by omega), mup_n (by omega), mup_n (by omega)]; exact r4
    · intro j hj
      by_cases q : j = i.toNat
      · rw [show 4 + j = (4 + i).toNat by omega, show 5 + j = (5 + i).toNat by omega, mup_s, mup_s]
      · rw [mup_n (by omega), mup_n (by omega), mup_n (by omega), mup_n (by omega)]; exact r5 j hj
    · rw [mup_n (by omega), mup_n (by omega)]; exact a0
    · rw [mup_n (by omega), mup_n (by omega)]; exact a1
    · rw [mup_n (by omega), mup_n (by omega)]; exact a2
    · rw [mup_n (by omega), mup_s]; omega
    · intro j hj
      by_cases q : j = i.toNat
      · rw [show 5 + j = (5 + i).toNat by omega, mup_s]; omega
      · rw [mup_n (by omega), mup_n (by omega)]; exact a5 j hj
    · rw [mup_n (by omega), mup_n (by omega)]; exact b1
    · rw [mup_n (by omega), mup_n (by omega)]; exact c1
    · rw [mup_n (by omega), mup_n (by omega)]; exact c2
theorem cs_undo {N : Nat} {h1 h2 : mH} (h : RH N h1 h2)   (hN : N ≤ 100) : CASE N h1 h2 2 yX6_undo cX6_undo 1 1 yX7_undo cX7_undo 3 [] := by
  obtain ⟨k, asked, ux, ua, ub, mo, kn, kp, v1, v2, kP, pr, pl, tk, pm, pa, kO, qr, ql, un, lw, qa, kH, al, hr, lt, hd, mt, sd, ms, mg, mk, hn, mh, tr, mx, w9, t9, c9, g9, rfl, rfl, hR⟩ := h
  have hRT := hR.1
  obtain ⟨tT, tM, ⟨t1, t2, t3, t4, t5⟩, t6, t7, t8⟩ := id hRT
  have hS := hR.2.2.2.2.1
  have hS : STR (tDay (tsel k ua ub)) (N : Int) mo kn ms := hS
  have hB := STR_0 hS
  obtain ⟨⟨e0, e1, e2, e3, e4⟩, e5⟩ := STR_now hS
  have hQ := STR_MOM hS (by omega)
  have hT1 := tT.1
  have hT2 := tT.2.1
  have hT3 := tT.2.2.1
  have hT5 := tT.2.2.2.2.1
  have hd9 := hB.2.1
  have hk9 := hS.1
  have hM0 := hB.1.1
  have hM1 := hB.1.2.1
  have hM2 := hB.1.2.2.1
  refine ⟨_, _, fun l => sp_X6_undo hk9, fun l => sp_X7_undo tM hQ (by omega), ?_⟩
  have h9 : ms 9 = kn := hS.2.1
  rintro z1 k1 z2 k2 ⟨rfl, rfl⟩ (⟨q2, rfl, rfl⟩ | ⟨q2, rfl, rfl⟩)
  · rw [if_neg (by omega), if_neg (by omega), if_neg (by omega)]
    exact ⟨rfl, hR.up.is⟩
  · rw [if_pos (by omega), if_pos (by omega), if_pos (by omega)]
    exact ⟨by omega, (hR.str (STR_up (STR_und hS (by omega)) up1)).is⟩
theorem cs_now {N : Nat} {h1 h2 : mH} (h : RH N h1 h2) {w : Int} (hw : inI w) (hN : N ≤ 100) : CASE N h1 h2 4 yX6_now cX6_now 2 2 yX7_now cX7_now 2 [mi w] := by
  obtain ⟨k, asked, ux, ua, ub, mo, kn, kp, v1, v2, kP, pr, pl, tk, pm, pa, kO, qr, ql, un, lw, qa, kH, al, hr, lt, hd, mt, sd, ms, mg, mk, hn, mh, tr, mx, w9, t9, c9, g9, rfl, rfl, hR⟩ := h
  have hRT := hR.1
  obtain ⟨tT, tM, ⟨t1, t2, t3, t4, t5⟩, t6, t7, t8⟩ := id hRT
  have hS := hR.2.2.2.2.1
  have hS : STR (tDay (tsel k ua ub)) (N : Int) mo kn ms := hS
  have hB := STR_0 hS
  obtain ⟨⟨e0, e1, e2, e3, e4⟩, e5⟩ := STR_now hS
  have hQ := STR_MOM hS (by omega)
  have hT1 := tT.1
  have hT2 := tT.2.1
  have hT3 := tT.2.2.1
  have hT5 := tT.2.2.2.2.1
  have hd9 := hB.2.1
  have hk9 := hS.1
  have hM0 := hB.1.1
  have hM1 := hB.1.2.1
  have hM2 := hB.1.2.2.1
  refine ⟨_, _, fun l => sp_X6_now rfl hw tT hB.1 hk9 hd9, fun l => sp_X7_now tM hQ (by omega) hw, ?_⟩
  rintro z1 k1 z2 k2 ⟨rfl, rfl⟩ ⟨rfl, rfl⟩
  refine ⟨?_, hR.up.is⟩
  have f0 := e5 0 (by omega)
  have f1 := e5 1 (by omega)
  have f2 := e5 2 (by omega)
  have f3 := e5 3 (by omega)
  have hh : hsum mo 4 = mo 5 + mo 6 + mo 7 + mo 8 := by show 0 + mo 5 + mo 6 + mo 7 + mo 8 = _; omega
  simp only [Nat.add_zero, Nat.reduceAdd] at f0 f1 f2 f3
  unfold nowF nowM
  rw [hh, e0, e1, e2, e3, e4, f0, f1, f2, f3, t1]
  repeat' split
  all_goals first | rfl | omega
theorem cs_count {N : Nat} {h1 h2 : mH} (h : RH N h1 h2) {w : Int} (hw : inI w) (hN : N ≤ 100) : CASE N h1 h2 1 yX6_count cX6_count 2 1 yX7_count cX7_count 2 [mi w] := by
  obtain ⟨k, asked, ux, ua, ub, mo, kn, kp, v1, v2, kP, pr, pl, tk, pm, pa, kO, qr, ql, un, lw, qa, kH, al, hr, lt, hd, mt, sd, ms, mg, mk, hn, mh, tr, mx, w9, t9, c9, g9, rfl, rfl, hR⟩ := h
  have hRT := hR.1
  obtain ⟨tT, tM, ⟨t1, t2, t3, t4, t5⟩, t6, t7, t8⟩ := id hRT
  have hS := hR.2.2.2.2.1
  have hS : STR (tDay (tsel k ua ub)) (N : Int) mo kn ms := hS
  have hB := STR_0 hS
  obtain ⟨⟨e0, e1, e2, e3, e4⟩, e5⟩ := STR_now hS
  have hQ := STR_MOM hS (by omega)
  have hT1 := tT.1
  have hT2 := tT.2.1
  have hT3 := tT.2.2.1
  have hT5 := tT.2.2.2.2.1
  have hd9 := hB.2.1
  have hk9 := hS.1
  have hM0 := hB.1.1
  have hM1 := hB.1.2.1
  have hM2 := hB.1.2.2.1
  refine ⟨_, _, fun l => sp_X6_count rfl hw, fun l => sp_X7_count hw, ?_⟩
  rintro z1 k1 z2 k2 ⟨rfl, rfl⟩ ⟨rfl, rfl⟩
  refine ⟨?_, hR.up.is⟩
  have h9 : ms 9 = kn := hS.2.1
  have hh : hd = hn := hR.2.2.2.2.2.2.2.1.2.2.1
  have hx : xN mx = xN ux := hR.2.2.2.1.2.2.1
  unfold cntF cntM
  rw [h9, hx, ← hh, t1, t2, t3, t4, t5]
theorem cs_mark {N : Nat} {h1 h2 : mH} (h : RH N h1 h2) {kd i : Int} (hkd : inI kd) (hi : inI i) (hN : N ≤ 100) : CASE N h1 h2 5 yX6_mark cX6_mark 3 3 yX7_mark cX7_mark 6 [mi kd, mi i] := by
  obtain ⟨k, asked, ux, ua, ub, mo, kn, kp, v1, v2, kP, pr, pl, tk, pm, pa, kO, qr, ql, un, lw, qa, kH, al, hr, lt, hd, mt, sd, ms, mg, mk, hn, mh, tr, mx, w9, t9, c9, g9, rfl, rfl, hR⟩ := h
  have hRT := hR.1
  obtain ⟨tT, tM, ⟨t1, t2, t3, t4, t5⟩, t6, t7, t8⟩ := id hRT
  have hS := hR.2.2.2.2.1
  have hS : STR (tDay (tsel k ua ub)) (N : Int) mo kn ms := hS
  have hB := STR_0 hS
  obtain ⟨⟨e0, e1, e2, e3, e4⟩, e5⟩ := STR_now hS
  have hQ := STR_MOM hS (by omega)
  have hT1 := tT.1
  have hT2 := tT.2.1
  have hT3 := tT.2.2.1
  have hT5 := tT.2.2.2.2.1
  have hd9 := hB.2.1
  have hk9 := hS.1
  have hM0 := hB.1.1
  have hM1 := hB.1.2.1
  have hM2 := hB.1.2.2.1
  refine ⟨_, _, fun l => sp_X6_mark rfl hkd hi hT3, fun l => sp_X7_mark hkd hi (by omega), ?_⟩
  rintro z1 k1 z2 k2 (⟨q1, rfl, rfl⟩ | ⟨q1, rfl, rfl⟩) (⟨q2, rfl, rfl⟩ | ⟨q2, rfl, rfl⟩)
  · exact ⟨rfl, hR.up.is⟩
  · exfalso; omega
  · have hz : mrkF (tsel k ua ub) mo kd i = -1000000 ∧ mrkT kd = 0 := by
      unfold mrkF mrkT
      rw [if_neg (by omega), if_neg (by omega), if_neg (by omega), if_neg (by omega), if_neg (by omega), if_neg (by omega), if_neg (by omega), if_neg (by omega), if_neg (by omega), if_neg (by omega), if_neg (by omega), if_neg (by omega)]
      exact ⟨rfl, rfl⟩
    rw [hz.1, hz.2, Int.add_zero]
    exact ⟨rfl, hR.up.is⟩
  · refine ⟨?_, hR.tra.is⟩
    have ei : ms (4 + i).toNat = mo (5 + i).toNat := by rw [show (5 + i).toNat = 5 + i.toNat by omega, show (4 + i).toNat = 4 + i.toNat by omega, e5 i.toNat (by omega)]
    unfold mrkF mrkM
    rw [ei, e2, e3, t8 (2 * i).toNat (by omega)]
    repeat' split
    all_goals first | rfl | omega
theorem cs_keep {N : Nat} {h1 h2 : mH} (h : RH N h1 h2) {w : Int} (hw : inI w) (hN : N ≤ 100) : CASE N h1 h2 3 yX6_keep cX6_keep 3 2 yX7_keep cX7_keep 3 [mi w] := by
  obtain ⟨k, asked, ux, ua, ub, mo, kn, kp, v1, v2, kP, pr, pl, tk, pm, pa, kO, qr, ql, un, lw, qa, kH, al, hr, lt, hd, mt, sd, ms, mg, mk, hn, mh, tr, mx, w9, t9, c9, g9, rfl, rfl, hR⟩ := h
  have hRT := hR.1
  obtain ⟨tT, tM, ⟨t1, t2, t3, t4, t5⟩, t6, t7, t8⟩ := id hRT
  have hS := hR.2.2.2.2.1
  have hS : STR (tDay (tsel k ua ub)) (N : Int) mo kn ms := hS
  have hB := STR_0 hS
  obtain ⟨⟨e0, e1, e2, e3, e4⟩, e5⟩ := STR_now hS
  have hQ := STR_MOM hS (by omega)
  have hT1 := tT.1
  have hT2 := tT.2.1
  have hT3 := tT.2.2.1
  have hT5 := tT.2.2.2.2.1
  have hd9 := hB.2.1
  have hk9 := hS.1
  have hM0 := hB.1.1
  have hM1 := hB.1.2.1
  have hM2 := hB.1.2.2.1
  refine ⟨_, _, fun l => sp_X6_keep hw, fun l => sp_X7_keep hw, ?_⟩
  have i1 := hR.2.2.2.2.2.1
  have i2 := hR.2.2.2.2.2.2.1
  rintro z1 k1 z2 k2 (⟨q1, rfl, rfl⟩ | ⟨rfl, rfl, rfl⟩ | ⟨rfl, rfl, rfl⟩) (⟨q2, rfl, rfl⟩ | ⟨q2, rfl, rfl⟩)
  · exact ⟨rfl, hR.up.is⟩
  · exfalso; omega
  · exfalso; omega
  · refine ⟨e0.symm, (hR.img ⟨Or.inr rfl, ?_, fun _ => ?_⟩ ?_).is⟩
    · exact mup_s
    · refine STR_cg hS (fun a ha => ?_) (fun a ha => ?_)
      · exact mcpy_00 (by omega)
      · exact (if_pos (by omega)).trans (by congr 1)
    · rw [show mup mk (0 : Int).toNat 1 1 = mk 1 from mup_n (by decide)]
      exact RI_cg i2 (fun a ha => if_neg (by omega))
  · exfalso; omega
  · refine ⟨e0.symm, (hR.img ?_ ⟨Or.inr rfl, ?_, fun _ => ?_⟩).is⟩
    · rw [show mup mk (1 : Int).toNat 1 0 = mk 0 from mup_n (by decide)]
      exact RI_cg i1 (fun a ha => if_neg (by omega))
    · exact mup_s
    · refine STR_cg hS (fun a ha => ?_) (fun a ha => ?_)
      · exact mcpy_00 (by omega)
      · exact (if_pos (by omega)).trans (by congr 1; omega)
theorem cs_back {N : Nat} {h1 h2 : mH} (h : RH N h1 h2) {w : Int} (hw : inI w) (hN : N ≤ 100) : CASE N h1 h2 3 yX6_back cX6_back 3 2 yX7_back cX7_back 3 [mi w] := by
  obtain ⟨k, asked, ux, ua, ub, mo, kn, kp, v1, v2, kP, pr, pl, tk, pm, pa, kO, qr, ql, un, lw, qa, kH, al, hr, lt, hd, mt, sd, ms, mg, mk, hn, mh, tr, mx, w9, t9, c9, g9, rfl, rfl, hR⟩ := h
  have hRT := hR.1
  obtain ⟨tT, tM, ⟨t1, t2, t3, t4, t5⟩, t6, t7, t8⟩ := id hRT
  have hS := hR.2.2.2.2.1
  have hS : STR (tDay (tsel k ua ub)) (N : Int) mo kn ms := hS
  have hB := STR_0 hS
  obtain ⟨⟨e0, e1, e2, e3, e4⟩, e5⟩ := STR_now hS
  have hQ := STR_MOM hS (by omega)
  have hT1 := tT.1
  have hT2 := tT.2.1
  have hT3 := tT.2.2.1
  have hT5 := tT.2.2.2.2.1
  have hd9 := hB.2.1
  have hk9 := hS.1
  have hM0 := hB.1.1
  have hM1 := hB.1.2.1
  have hM2 := hB.1.2.2.1
  have i1 := hR.2.2.2.2.2.1
  have i2 := hR.2.2.2.2.2.2.1
  have j1 := i1.1
  have j2 := i2.1
  have j3 := i1.2.1
  have j4 := i2.2.1
  refine ⟨_, _, fun l => sp_X6_back hw (by omega) (by omega), fun l => sp_X7_back hw (fun a ha => by rcases (show a = 0 ∨ a = 1 by omega) with rfl | rfl <;> omega), ?_⟩
  rintro z1 k1 z2 k2 (⟨q1, rfl, rfl⟩ | ⟨q1, rfl, rfl⟩ | ⟨rfl, q1, rfl, rfl⟩ | ⟨rfl, q1, rfl, rfl⟩) (⟨q2, rfl, rfl⟩ | ⟨q2, g2, rfl, rfl⟩ | ⟨q2, g2, rfl, rfl⟩)
  · exact ⟨rfl, hR.up.is⟩
  · exfalso; omega
  · exfalso; omega
  · exfalso; omega
  · exact ⟨rfl, hR.up.is⟩
  · exfalso; rcases q1 with ⟨rfl, q1⟩ | ⟨rfl, q1⟩
    · exact g2 (j3.trans q1)
    · exact g2 (j4.trans q1)
  · exfalso; omega
  · exfalso; exact q1 (j3.symm.trans g2)
  · have hs := i1.2.2 (by omega)
    have h0 := (STR_now hs).1.1
    refine ⟨?_, (hR.str (STR_up (STR_cg hs (fun a ha => ?_) (fun a ha => ?_)) up1)).is⟩
    · exact h0.symm.trans (if_pos (by omega) : bakK mg ms (0 : Int).toNat 100 0 = mg (100 * (0 : Int).toNat + 0)).symm
    · exact mcpy_00 (by omega)
    · exact (if_pos (by omega) : bakK mg ms (0 : Int).toNat 100 a = mg (100 * (0 : Int).toNat + a)).trans (by congr 1; simp)
  · exfalso; omega
  · exfalso; exact q1 (j4.symm.trans g2)
  · have hs := i2.2.2 (by omega)
    have h0 := (STR_now hs).1.1
    refine ⟨?_, (hR.str (STR_up (STR_cg hs (fun a ha => ?_) (fun a ha => ?_)) up1)).is⟩
    · exact h0.symm.trans (if_pos (by omega) : bakK mg ms (1 : Int).toNat 100 0 = mg (100 * (1 : Int).toNat + 0)).symm
    · exact mcpy_00 (by omega)
    · exact (if_pos (by omega) : bakK mg ms (1 : Int).toNat 100 a = mg (100 * (1 : Int).toNat + a)).trans rfl
