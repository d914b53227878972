/-! the class's heap: 27 cells -/
abbrev FN : Type := Nat → Int
abbrev TD : Type := FN × FN × FN × Int × Int × Int × Int × Int × Int
abbrev SD : Type := FN × Int × Int
abbrev PD : Type := Bool × FN × FN × Int × Int × Int
abbrev HD : Type := Bool × FN × FN × FN × Int
abbrev XD : Type := FN × Int × Int × Int × Int × Int × Int × Int × Int × Int
abbrev UD : Type := Bool × Int
def tSun (t : TD) : FN := t.1
def tBri (t : TD) : FN := t.2.1
def tTra (t : TD) : FN := t.2.2.1
def tDay (t : TD) : Int := t.2.2.2.1
def tNB (t : TD) : Int := t.2.2.2.2.1
def tNT (t : TD) : Int := t.2.2.2.2.2.1
def tRst (t : TD) : Int := t.2.2.2.2.2.2.1
def tLim (t : TD) : Int := t.2.2.2.2.2.2.2.1
def tAdd (t : TD) : Int := t.2.2.2.2.2.2.2.2
def ref2 (k : Bool) (a b : Nat) : mV := mr (cond k a b)
def toldO (k : Nat) (t : TD) : mC := .inl (5, [mr (k + 1), mr (k + 2), mr (k + 3), mi (tDay t), mi (tNB t), mi (tNT t), mi (tRst t), mi (tLim t), mi (tAdd t)])
def storyO (k : Nat) (t : SD) : mC := .inl (3, [mr (k + 1), mi t.2.1, mi t.2.2])
def arrI (n : Nat) (f : FN) : mC := .inr (false, n, f)
def xB (x : XD) : FN := x.1
def xN (x : XD) : Int := x.2.1
def xP (x : XD) : Int := x.2.2.1
def xS (x : XD) : Int := x.2.2.2.1
def xK (x : XD) : Int := x.2.2.2.2.1
def xV (x : XD) : Int := x.2.2.2.2.2.1
def xF (x : XD) : Int := x.2.2.2.2.2.2.1
def xR (x : XD) : Int := x.2.2.2.2.2.2.2.1
def xL (x : XD) : Int := x.2.2.2.2.2.2.2.2.1
def xA (x : XD) : Int := x.2.2.2.2.2.2.2.2.2
def textO (x : XD) : mC := .inl (4, [mr 2, mi (xN x), mi (xP x), mi (xS x), mi (xK x), mi (xV x), mi (xF x), mi (xR x), mi (xL x), mi (xA x)])
def topO (u : UD) : mC := .inl (6, [mr 1, mr (cond u.1 7 3), mr (cond u.1 3 7), mr 11, mr 13, mr 15, mr 17, mr 20, mr 23, ml u.2])
def planO (ci a b : Nat) (p : PD) : mC := .inl (ci, [mr (cond p.1 b a), mr (cond p.1 a b), mi p.2.2.2.1, mi p.2.2.2.2.1, mi p.2.2.2.2.2])
def hearO (r : HD) : mC := .inl (0, [mr 24, mr (cond r.1 26 25), mr (cond r.1 25 26), mi r.2.2.2.2])
def hC (uo : UD) (ux : XD) (ua ub : TD) (v0 v1 v2 : SD) (up uq : PD) (ur : HD) : mH :=
  [topO uo, textO ux, arrI 150 (xB ux),
   toldO 3 ua, arrI 14 (tSun ua), arrI 24 (tBri ua), arrI 8 (tTra ua),
   toldO 7 ub, arrI 14 (tSun ub), arrI 24 (tBri ub), arrI 8 (tTra ub),
   storyO 11 v0, arrI 99 v0.1, storyO 13 v1, arrI 99 v1.1, storyO 15 v2, arrI 99 v2.1,
   planO 2 18 19 up, arrI 19 (cond up.1 up.2.2.1 up.2.1), arrI 19 (cond up.1 up.2.1 up.2.2.1),
   planO 1 21 22 uq, arrI 950 (cond uq.1 uq.2.2.1 uq.2.1), arrI 950 (cond uq.1 uq.2.1 uq.2.2.1),
   hearO ur, arrI 14 ur.2.1, arrI 19 (cond ur.1 ur.2.2.2.1 ur.2.2.1), arrI 19 (cond ur.1 ur.2.2.1 ur.2.2.2.1)]
def tix (k : Bool) : Nat := cond k 7 3
def tsel (k : Bool) (a b : TD) : TD := cond k b a
theorem lkN_X1_75 : mlN RX1 75 yX6_isBeyond "TowerPrisoner" := ⟨Or.inl ⟨rfl, rfl⟩, rfl, rfl⟩
theorem lkN_X3_100 : mlN RX3 100 yX6_isBeyond "TowerPrisoner" := ⟨Or.inr ⟨rfl, rfl⟩, rfl, rfl⟩
