/-! could: sets of bits against the tables -/
def bti (b : Bool) : Int := cond b 1 0
theorem bti_in (b : Bool) : 0 ≤ bti b ∧ bti b ≤ 1 := by cases b <;> decide
theorem csm_6 {P : Int → Int} {x : Int} : csm P x 6 = P (x + 2) + P (x + 1) + P x + P (x - 1) + P (x - 2) + P (x - 3) := by
  rw [csm_s, csm_s, csm_s, csm_s, csm_s, csm_s, show x - (((0 : Nat) : Int) - 2) = x + 2 by omega, show x - (((1 : Nat) : Int) - 2) = x + 1 by omega, show x - (((2 : Nat) : Int) - 2) = x by omega, show x - (((3 : Nat) : Int) - 2) = x - 1 by omega, show x - (((4 : Nat) : Int) - 2) = x - 2 by omega, show x - (((5 : Nat) : Int) - 2) = x - 3 by omega]
  show 0 + P (x + 2) + _ + _ + _ + _ + _ = _
  omega
theorem gsm_6 {P : Int → Int} {x : Int} : gsm P x 6 = P (x - 2) + P (x - 1) + P x + P (x + 1) + P (x + 2) + P (x + 3) := by
  rw [gsm_s, gsm_s, gsm_s, gsm_s, gsm_s, gsm_s, show x + (((0 : Nat) : Int) - 2) = x - 2 by omega, show x + (((1 : Nat) : Int) - 2) = x - 1 by omega, show x + (((2 : Nat) : Int) - 2) = x by omega, show x + (((3 : Nat) : Int) - 2) = x + 1 by omega, show x + (((4 : Nat) : Int) - 2) = x + 2 by omega, show x + (((5 : Nat) : Int) - 2) = x + 3 by omega]
  show 0 + P (x - 2) + _ + _ + _ + _ + _ = _
  omega
/-- a function of errors that is 1 on a set, 0 elsewhere -/
def ISet (P : Int → Int) (B : Nat → Bool) : Prop := (∀ i : Nat, i < 19 → P ((i : Int) - 9) = bti (B i)) ∧ ∀ x, 9 < max x (-x) → P x = 0
theorem iup {P : Int → Int} {B : Nat → Bool} (h : ISet P B) {i k : Nat} {x : Int} (hx : x = (i : Int) - 9 + k) : P x = bti (decide (i + k < 19) && B (i + k)) := by
  by_cases q : i + k < 19
  · rw [show x = ((i + k : Nat) : Int) - 9 by omega, h.1 _ q]; simp [q]
  · rw [h.2 x (by omega)]; simp [q]; rfl
theorem idn {P : Int → Int} {B : Nat → Bool} (h : ISet P B) {i k : Nat} {x : Int} (hi : i < 19) (hx : x = (i : Int) - 9 - k) : P x = bti (decide (k ≤ i) && B (i - k)) := by
  by_cases q : k ≤ i
  · rw [show x = ((i - k : Nat) : Int) - 9 by omega, h.1 _ (by omega)]; simp [q]
  · rw [h.2 x (by omega)]; simp [q]; rfl
theorem or6 (a b c d e f : Bool) : (0 < bti a + bti b + bti c + bti d + bti e + bti f) ↔ (a || b || c || d || e || f) = true := by
  cases a <;> cases b <;> cases c <;> cases d <;> cases e <;> cases f <;> decide
theorem on_sum {P : Int → Int} {B : Nat → Bool} (h : ISet P B) {i : Nat} (hi : i < 19) : (0 < csm P ((i : Int) - 9) 6) ↔ onP B i = true := by
  rw [csm_6, iup h (i := i) (k := 2) (x := (i : Int) - 9 + 2) (by omega), iup h (i := i) (k := 1) (x := (i : Int) - 9 + 1) (by omega), h.1 i hi, idn h (i := i) (k := 1) (x := (i : Int) - 9 - 1) hi (by omega), idn h (i := i) (k := 2) (x := (i : Int) - 9 - 2) hi (by omega), idn h (i := i) (k := 3) (x := (i : Int) - 9 - 3) hi (by omega), or6]
  unfold onP
  constructor <;> intro q <;> simp only [Bool.or_eq_true] at q ⊢ <;> (rcases q with ((((q | q) | q) | q) | q) | q <;> simp [q])
theorem bk_sum {P : Int → Int} {B : Nat → Bool} (h : ISet P B) {i : Nat} (hi : i < 19) : (0 < gsm P ((i : Int) - 9) 6) ↔ bkP B i = true := by
  rw [gsm_6, idn h (i := i) (k := 2) (x := (i : Int) - 9 - 2) hi (by omega), idn h (i := i) (k := 1) (x := (i : Int) - 9 - 1) hi (by omega), h.1 i hi, iup h (i := i) (k := 1) (x := (i : Int) - 9 + 1) (by omega), iup h (i := i) (k := 2) (x := (i : Int) - 9 + 2) (by omega), iup h (i := i) (k := 3) (x := (i : Int) - 9 + 3) (by omega), or6]
  unfold bkP
  constructor <;> intro q <;> simp only [Bool.or_eq_true] at q ⊢ <;> (rcases q with ((((q | q) | q) | q) | q) | q <;> simp [q])
theorem hAl_i {mh : FN} {hn : Int} {d i : Nat} : hAl mh hn d i = true ↔ hrdF mh (d : Int) ((i : Int) - 9) hn.toNat = 1 := by
  unfold hAl; exact decide_eq_true_iff
theorem CP_set {mh : FN} {hn : Int} : ∀ d : Nat, ISet (CP mh hn.toNat 0 d) (fwA (hAl mh hn) d)
  | 0 => by
    refine ⟨fun i hi => ?_, fun x hx => CP_out hx⟩
    show (if (i : Int) - 9 = 0 then (1 : Int) else 0) = bti (i == 9)
    by_cases q : i = 9
    · subst q; rfl
    · rw [if_neg (by omega), show (i == 9) = false from beq_eq_false_iff_ne.mpr q]; rfl
  | d + 1 => by
    have ih := CP_set (mh := mh) (hn := hn) d
    refine ⟨fun i hi => ?_, fun x hx => CP_out hx⟩
    have hs := on_sum ih hi
    have ha := hAl_i (mh := mh) (hn := hn) (d := d) (i := i)
    have h01 := hrdF_01 (m := mh) (d := (d : Int)) (e := (i : Int) - 9) hn.toNat
    rw [CP_s]
    show _ = bti (onP (fwA (hAl mh hn) d) i && hAl mh hn d i)
    by_cases q : hrdF mh (d : Int) ((i : Int) - 9) hn.toNat = 0
    · rw [if_pos q, show hAl mh hn d i = false from Bool.eq_false_iff.mpr (fun z => by have := ha.mp z; omega), Bool.and_false]; rfl
    · rw [if_neg q, if_pos rfl, show hAl mh hn d i = true from ha.mpr (by omega), Bool.and_true]
      by_cases z : 0 < csm (CP mh hn.toNat 0 d) ((i : Int) - 9) 6
      · rw [if_pos z, hs.mp z]; rfl
      · rw [if_neg z, show onP (fwA (hAl mh hn) d) i = false from Bool.eq_false_iff.mpr (fun w => z (hs.mpr w))]; rfl
theorem GP_set {mh : FN} {hn : Int} : ∀ j : Nat, j ≤ 13 → ISet (GP mh hn.toNat j) (fun a => bwA (hAl mh hn) j a && hAl mh hn (13 - j) a)
  | 0, _ => by
    refine ⟨fun i hi => ?_, fun x hx => GP_out hx⟩
    have ha := hAl_i (mh := mh) (hn := hn) (d := 13) (i := i)
    show (if hrdF mh 13 ((i : Int) - 9) hn.toNat = 1 ∧ (0 : Int) < 1 then (1 : Int) else 0) = bti (true && hAl mh hn 13 i)
    by_cases q : hAl mh hn 13 i = true
    · rw [if_pos ⟨ha.mp q, by decide⟩, q]; rfl
    · rw [if_neg (fun z => q (ha.mpr z.1)), Bool.eq_false_iff.mpr q]; rfl
  | j + 1, hj => by
    have ih := GP_set (mh := mh) (hn := hn) j (by omega)
    refine ⟨fun i hi => ?_, fun x hx => GP_out hx⟩
    have hs := bk_sum ih hi
    have ha := hAl_i (mh := mh) (hn := hn) (d := 13 - (j + 1)) (i := i)
    rw [show ((13 - (j + 1) : Nat) : Int) = 13 - (((j + 1 : Nat)) : Int) by omega] at ha
    show (if hrdF mh (13 - (((j + 1 : Nat)) : Int)) ((i : Int) - 9) hn.toNat = 1 ∧ 0 < gsm (GP mh hn.toNat j) ((i : Int) - 9) 6 then (1 : Int) else 0) = bti (bkP (fun a => bwA (hAl mh hn) j a && hAl mh hn (13 - j) a) i && hAl mh hn (13 - (j + 1)) i)
    by_cases q : hAl mh hn (13 - (j + 1)) i = true
    · by_cases z : 0 < gsm (GP mh hn.toNat j) ((i : Int) - 9) 6
      · rw [if_pos ⟨ha.mp q, z⟩, q, hs.mp z]; rfl
      · rw [if_neg (fun w => z w.2), show bkP (fun a => bwA (hAl mh hn) j a && hAl mh hn (13 - j) a) i = false from Bool.eq_false_iff.mpr (fun w => z (hs.mpr w))]; rfl
    · rw [if_neg (fun w => q (ha.mpr w.1)), Bool.eq_false_iff.mpr q, Bool.and_false]; rfl
theorem bti_1 {b : Bool} : bti b = 1 ↔ b = true := by cases b <;> decide
theorem cld_eq {mh : FN} {hn : Int} {d i : Nat} (hd : d < 14) (hi : i < 19) : cldP (hAl mh hn) d i = mcld mh hn.toNat d i := by
  have h1 := (CP_set (mh := mh) (hn := hn) (d + 1)).1 i hi
  have h2 := (GP_set (mh := mh) (hn := hn) (13 - d) (by omega)).1 i hi
  unfold mcld cldP
  rw [h1, h2]
  show ((onP (fwA (hAl mh hn) d) i && hAl mh hn d i) && bwA (hAl mh hn) (13 - d) i) = decide (bti (onP (fwA (hAl mh hn) d) i && hAl mh hn d i) = 1 ∧ bti (bwA (hAl mh hn) (13 - d) i && hAl mh hn (13 - (13 - d)) i) = 1)
  rw [show 13 - (13 - d) = d by omega]
  generalize onP (fwA (hAl mh hn) d) i = x
  generalize hAl mh hn d i = y
  generalize bwA (hAl mh hn) (13 - d) i = w
  cases x <;> cases y <;> cases w <;> decide
/-! ask: how many bits -/
theorem and_sp {x y m n : Nat} (hx : x < 256) (hm : m < 256) : (x + 256 * y) &&& (m + 256 * n) = (x &&& m) + 256 * (y &&& n) := by
  have h1 := Nat.and_mod_two_pow (a := x + 256 * y) (b := m + 256 * n) (n := 8)
  have h2 := Nat.and_div_two_pow (a := x + 256 * y) (b := m + 256 * n) (n := 8)
  rw [show (2 : Nat) ^ 8 = 256 from rfl] at h1 h2
  rw [show (x + 256 * y) % 256 = x by omega, show (m + 256 * n) % 256 = m by omega] at h1
  rw [show (x + 256 * y) / 256 = y by omega, show (m + 256 * n) / 256 = n by omega] at h2
  omega
def q1n (M x : Nat) : Nat := x - (x / 2 &&& M)
def q2n (M x : Nat) : Nat := (x &&& M) + (x / 4 &&& M)
def q3n (M x : Nat) : Nat := (x + x / 16) &&& M
theorem t1 : ∀ a, a < 256 → ∀ m, m < 2 → (a / 2 + 128 * m) &&& 85 = a / 2 &&& 85 := by decide +kernel
theorem t1b : ∀ a, a < 256 → (a / 2 &&& 85) ≤ a ∧ q1n 85 a < 256 := by decide +kernel
theorem t2 : ∀ a, a < 256 → ∀ m, m < 4 → (a / 4 + 64 * m) &&& 51 = a / 4 &&& 51 := by decide +kernel
def f2 (a : Nat) : Nat := q2n 51 (q1n 85 a)
def pc8 (a : Nat) : Nat := a / 1 % 2 + a / 2 % 2 + a / 4 % 2 + a / 8 % 2 + a / 16 % 2 + a / 32 % 2 + a / 64 % 2 + a / 128 % 2
theorem t3 : ∀ a, a < 256 → f2 a % 16 ≤ 4 ∧ f2 a < 128 := by decide +kernel
theorem t4 : ∀ a, a < 256 → ∀ m, m < 5 → (f2 a + f2 a / 16 + 16 * m) < 256 ∧ (f2 a + f2 a / 16 + 16 * m) &&& 15 = pc8 a := by decide +kernel
theorem q1n_sp {a t M : Nat} (ha : a < 256) : q1n (85 + 256 * M) (a + 256 * t) = q1n 85 a + 256 * q1n M t := by
  unfold q1n
  have h := t1b a ha
  rw [show (a + 256 * t) / 2 = (a / 2 + 128 * (t % 2)) + 256 * (t / 2) by omega, and_sp (by omega) (by decide), t1 a ha _ (by omega)]
  have h2 : (t / 2 &&& M) ≤ t / 2 := Nat.and_le_left
  omega
theorem q2n_sp {a t M : Nat} (ha : a < 256) : q2n (51 + 256 * M) (a + 256 * t) = q2n 51 a + 256 * q2n M t := by
  unfold q2n
  rw [show (a + 256 * t) / 4 = (a / 4 + 64 * (t % 4)) + 256 * (t / 4) by omega, and_sp ha (by decide), and_sp (by omega) (by decide), t2 a ha _ (by omega)]
  omega
theorem q3n_sp {a t M : Nat} (ha : a < 256) (ht : t % 16 ≤ 4) : q3n (15 + 256 * M) (f2 a + 256 * t) = pc8 a + 256 * q3n M t := by
  unfold q3n
  have h := t4 a ha (t % 16) (by omega)
  rw [show f2 a + 256 * t + (f2 a + 256 * t) / 16 = (f2 a + f2 a / 16 + 16 * (t % 16)) + 256 * (t + t / 16) by omega, and_sp h.1 (by decide), h.2]
def f3 (c : Nat) : Nat := q2n 13107 (q1n 21845 c)
theorem t5 : ∀ c, c < 8 → f3 c % 16 ≤ 4 ∧ q3n 3855 (f3 c) = pc8 c ∧ q1n 21845 c < 256 := by decide +kernel
theorem pc8_le {a : Nat} : pc8 a ≤ 8 := by unfold pc8; omega
theorem nbc_3 {a b c : Nat} (ha : a < 256) (hb : b < 256) (hc : c < 8) : nbc (a + 256 * (b + 256 * c)) = pc8 a + pc8 b + pc8 c := by
  have e1 : nb1 (a + 256 * (b + 256 * c)) = q1n 85 a + 256 * (q1n 85 b + 256 * q1n 21845 c) := by
    show q1n (85 + 256 * (85 + 256 * 21845)) _ = _
    rw [q1n_sp ha, q1n_sp hb]
  have ba := (t1b a ha).2
  have bb := (t1b b hb).2
  have bc := t5 c hc
  have fa := t3 a ha
  have fb := t3 b hb
  have e2 : nb2 (q1n 85 a + 256 * (q1n 85 b + 256 * q1n 21845 c)) = f2 a + 256 * (f2 b + 256 * f3 c) := by
    show q2n (51 + 256 * (51 + 256 * 13107)) _ = _
    rw [q2n_sp ba, q2n_sp bb]; rfl
  have e3 : nb3 (f2 a + 256 * (f2 b + 256 * f3 c)) = pc8 a + 256 * (pc8 b + 256 * pc8 c) := by
    show q3n (15 + 256 * (15 + 256 * 3855)) _ = _
    rw [q3n_sp ha (by omega), q3n_sp hb (by omega), bc.2.1]
  unfold nbc
  rw [e1, e2, e3]
  have p1 := pc8_le (a := a)
  have p2 := pc8_le (a := b)
  have p3 := pc8_le (a := c)
  rw [show (63 : Nat) = 2 ^ 6 - 1 from rfl, Nat.and_two_pow_sub_one_eq_mod]
  generalize pc8 a = A at *
  generalize pc8 b = B at *
  generalize pc8 c = C at *
  have w1 : nb4 (A + 256 * (B + 256 * C)) = (A + B) + 256 * (B + C) + 65536 * C := by
    show (A + 256 * (B + 256 * C)) + (A + 256 * (B + 256 * C)) / 256 = _
    omega
  have w2 : nb5 ((A + B) + 256 * (B + C) + 65536 * C) = (A + B + C) + 64 * (4 * (B + C) + 1024 * C) := by
    show ((A + B) + 256 * (B + C) + 65536 * C) + ((A + B) + 256 * (B + C) + 65536 * C) / 65536 = _
    omega
  rw [w1, w2, show (2 : Nat) ^ 6 = 64 from rfl]
  omega
def pcs (s : Nat) : Nat → Nat
  | 0 => 0
  | n + 1 => pcs s n + s / 2 ^ n % 2
theorem pcs_8 {a t : Nat} (ha : a < 256) : pcs (a + 256 * t) 8 = pc8 a := by
  show 0 + (a + 256 * t) / 1 % 2 + (a + 256 * t) / 2 % 2 + (a + 256 * t) / 4 % 2 + (a + 256 * t) / 8 % 2 + (a + 256 * t) / 16 % 2 + (a + 256 * t) / 32 % 2 + (a + 256 * t) / 64 % 2 + (a + 256 * t) / 128 % 2 = pc8 a
  unfold pc8
  rw [show (a + 256 * t) / 1 % 2 = a / 1 % 2 by omega, show (a + 256 * t) / 2 % 2 = a / 2 % 2 by omega, show (a + 256 * t) / 4 % 2 = a / 4 % 2 by omega, show (a + 256 * t) / 8 % 2 = a / 8 % 2 by omega, show (a + 256 * t) / 16 % 2 = a / 16 % 2 by omega, show (a + 256 * t) / 32 % 2 = a / 32 % 2 by omega, show (a + 256 * t) / 64 % 2 = a / 64 % 2 by omega, show (a + 256 * t) / 128 % 2 = a / 128 % 2 by omega, Nat.zero_add]
theorem pcs_sp {a t : Nat} (ha : a < 256) : ∀ n, pcs (a + 256 * t) (8 + n) = pc8 a + pcs t n
  | 0 => pcs_8 ha
  | n + 1 => by
    show pcs (a + 256 * t) (8 + n) + (a + 256 * t) / 2 ^ (8 + n) % 2 = pc8 a + (pcs t n + t / 2 ^ n % 2)
    rw [pcs_sp ha n, Nat.pow_add, ← Nat.div_div_eq_div_mul, show (a + 256 * t) / 2 ^ 8 = t by omega]; omega
theorem pcs_3 {c : Nat} (hc : c < 8) : pcs c 3 = pc8 c := by
  have : ∀ c, c < 8 → pcs c 3 = pc8 c := by decide
  exact this c hc
theorem nbc_pcs {s : Nat} (h : s < 524288) : nbc s = pcs s 19 := by
  have e : s = s % 256 + 256 * (s / 256 % 256 + 256 * (s / 65536)) := by omega
  rw [e, nbc_3 (by omega) (by omega) (by omega), show (19 : Nat) = 8 + (8 + 3) from rfl, pcs_sp (by omega), pcs_sp (by omega), pcs_3 (by omega)]; omega
theorem cnt_pcs {P : Nat → Bool} : ∀ n, n ≤ 19 → cnt P n = ((pcs (bs P 19) n : Nat) : Int)
  | 0, _ => rfl
  | n + 1, h => by
    have h1 := bs_bit (P := P) (n := 19) (i := n)
    rw [Nat.testBit_eq_decide_div_mod_eq] at h1
    simp only [show n < 19 by omega, decide_true, Bool.true_and] at h1
    rw [cnt_s, cnt_pcs n (by omega), ← h1]
    show _ = ((pcs (bs P 19) n + bs P 19 / 2 ^ n % 2 : Nat) : Int)
    by_cases q : bs P 19 / 2 ^ n % 2 = 1
    · simp [q]
    · have : bs P 19 / 2 ^ n % 2 = 0 := by omega
      simp [this]
theorem nbc_cnt {P : Nat → Bool} : ((nbc (bs P 19) : Nat) : Int) = cnt P 19 := by
  rw [nbc_pcs (bs_lt 19), cnt_pcs 19 (Nat.le_refl _)]
theorem wd_ak {mh : FN} {hn : Int} : ∀ d, d ≤ 14 → wdF (hAl mh hn) d = akF mh hn.toNat d
  | 0, _ => rfl
  | d + 1, h => by
    rw [wdF_s, akF_s, wd_ak d (by omega), nbc_cnt]
    have e : cnt (cldP (hAl mh hn) d) 19 = cnt (mcld mh hn.toNat d) 19 := by
      rw [← nbc_cnt, ← nbc_cnt, bs_ext (fun i hi => cld_eq (by omega) hi)]
    rw [e]
theorem cs_could {N : Nat} {h1 h2 : mH} (h : RH N h1 h2) {d : Int} (id9 : inI d)  : CASE N h1 h2 4 yX6_could cX6_could 2 4 yX7_could cX7_could 2 [mi d] := by
  obtain ⟨k, asked, ux, ua, ub, mo, kn, kp, v1, v2, kP, pr, pl, tk, pm, pa, kO, qr, ql, un, lw, qa, kH, al, hr, lt, hd, mt, sd, ms, mg, mk, hn, mh, tr, mx, w9, t9, c9, g9, rfl, rfl, hR⟩ := h
  have hH : RHr (kH, al, hr, lt, hd) hn mh := hR.2.2.2.2.2.2.2.1
  obtain ⟨hO, hn6, hdn, hA⟩ := id hH
  have hdn : hd = hn := hdn
  have hA : alIs al (hAl mh hn) := hA
  refine ⟨_, _, fun l => sp_X6_could id9 hA, fun l => sp_X7_could hO hn6 id9, ?_⟩
  rintro z1 k1 z2 k2 ⟨rfl, rfl⟩ (⟨q2, rfl, rfl⟩ | ⟨q2, rfl, c5, g5, rfl⟩)
  · rw [if_neg (by omega)]; exact ⟨rfl, hR.up.is⟩
  · rw [if_pos (by omega)]
    exact ⟨st19_cg (fun i hi => cld_eq (by omega) hi), hR.up.is⟩
theorem cs_ask {N : Nat} {h1 h2 : mH} (h : RH N h1 h2)    : CASE N h1 h2 4 yX6_ask cX6_ask 1 4 yX7_ask cX7_ask 7 [] := by
  obtain ⟨k, asked, ux, ua, ub, mo, kn, kp, v1, v2, kP, pr, pl, tk, pm, pa, kO, qr, ql, un, lw, qa, kH, al, hr, lt, hd, mt, sd, ms, mg, mk, hn, mh, tr, mx, w9, t9, c9, g9, rfl, rfl, hR⟩ := h
  have hH : RHr (kH, al, hr, lt, hd) hn mh := hR.2.2.2.2.2.2.2.1
  obtain ⟨hO, hn6, hdn, hA⟩ := id hH
  have hdn : hd = hn := hdn
  have hA : alIs al (hAl mh hn) := hA
  refine ⟨_, _, fun l => sp_X6_ask hA, fun l => sp_X7_ask hO hn6, ?_⟩
  rintro z1 k1 z2 k2 ⟨rfl, rfl⟩ ⟨rfl, c5, g5, rfl⟩
  rw [wd_ak 14 (Nat.le_refl _)]
  exact ⟨rfl, hR.up.is⟩
