/-! the two heaps side by side: what is the same in both -/
def TAR (t : TD) : Prop := (∀ i, i < 14 → 0 ≤ tSun t i ∧ tSun t i ≤ 10) ∧ (∀ i, i < 6 → (0 ≤ tBri t (4 * i) ∧ tBri t (4 * i) ≤ 13) ∧ (0 ≤ tBri t (4 * i + 1) ∧ tBri t (4 * i + 1) ≤ 1) ∧ (-2 ≤ tBri t (4 * i + 2) ∧ tBri t (4 * i + 2) ≤ 3) ∧ 0 ≤ tBri t (4 * i + 3) ∧ tBri t (4 * i + 3) ≤ 20) ∧ (∀ i, i < 4 → (0 ≤ tTra t (2 * i) ∧ tTra t (2 * i) ≤ 9) ∧ 0 ≤ tTra t (2 * i + 1) ∧ tTra t (2 * i + 1) ≤ 1)
theorem TOK_TAR {t : TD} (h : TOK t) : TAR t := h.2.2.2.2.2.2
def RT (t m : TD) : Prop := TOK t ∧ TOK m ∧ (tDay m = tDay t ∧ tNB m = tNB t ∧ tNT m = tNT t ∧ tLim m = tLim t ∧ tAdd m = tAdd t) ∧ (∀ a : Nat, (a : Int) < tDay t → tSun m a = tSun t a) ∧ (∀ a : Nat, (a : Int) < 4 * tNB t → tBri m a = tBri t a) ∧ (∀ a : Nat, (a : Int) < 2 * tNT t → tTra m a = tTra t a)
def RX (x y : XD) : Prop := XOK (begX x) ∧ XOM (bgW y) ∧ xN y = xN x ∧ ∀ a : Nat, (a : Int) < xN x → xB y a = xB x a
def prm (c : Nat) : Nat := if c = 4 then 8 else if 5 ≤ c then c - 1 else c
theorem prm_lt {c : Nat} (h : c < 9) : prm c < 9 := by unfold prm; split <;> (try split) <;> omega
theorem prm_on {i : Nat} (h : i < 9) : ∃ c, c < 9 ∧ prm c = i := by
  by_cases q : i = 8
  · exact ⟨4, by omega, by subst q; rfl⟩
  · by_cases q2 : 4 ≤ i
    · exact ⟨i + 1, by omega, by unfold prm; rw [if_neg (by omega), if_pos (by omega)]; omega⟩
    · exact ⟨i, by omega, by unfold prm; rw [if_neg (by omega), if_neg (by omega)]⟩
def BLK (D N : Int) (f : FN) : Prop := MOK f ∧ f 0 ≤ D ∧ 0 ≤ f 4 ∧ f 4 ≤ N
theorem BLK_cg {D N : Int} {f g : FN} (h : BLK D N f) (e : ∀ c, c < 9 → g c = f c) : BLK D N g := by
  obtain ⟨⟨a0, a1, a2, a3, a5⟩, b, c1, c2⟩ := h
  refine ⟨⟨?_, ?_, ?_, ?_, ?_⟩, ?_, ?_, ?_⟩
  · rw [e 0 (by omega)]; exact a0
  · rw [e 1 (by omega)]; exact a1
  · rw [e 2 (by omega)]; exact a2
  · rw [e 3 (by omega)]; exact a3
  · intro i hi; rw [e (5 + i) (by omega)]; exact a5 i hi
  · rw [e 0 (by omega)]; exact b
  · rw [e 4 (by omega)]; exact c1
  · rw [e 4 (by omega)]; exact c2
theorem BLK_up {D N M : Int} {f : FN} (h : BLK D N f) (hN : N ≤ M) : BLK D M f := ⟨h.1, h.2.1, h.2.2.1, by have := h.2.2.2; omega⟩
def STR (D N : Int) (mo : FN) (kn : Int) (ms : FN) : Prop := (0 ≤ kn ∧ kn ≤ 10) ∧ ms 9 = kn ∧ (∀ c, c < 9 → ms (prm c) = mo c) ∧ (∀ j c : Nat, (j : Int) < kn → c < 9 → ms (10 + 9 * (kn.toNat - 1 - j) + prm c) = mo (9 * (j + 1) + c)) ∧ (∀ j : Nat, (j : Int) ≤ kn → BLK D N (fun c => mo (9 * j + c)))
theorem STR_0 {D N : Int} {mo ms : FN} {kn : Int} (h : STR D N mo kn ms) : BLK D N mo := BLK_cg (h.2.2.2.2 0 h.1.1) (fun c _ => by show mo c = mo (9 * 0 + c); congr 1; omega)
theorem STR_up {D N M : Int} {mo ms : FN} {kn : Int} (h : STR D N mo kn ms) (hN : N ≤ M) : STR D M mo kn ms := ⟨h.1, h.2.1, h.2.2.1, h.2.2.2.1, fun j hj => BLK_up (h.2.2.2.2 j hj) hN⟩
/-- the nine numbers of now, one by one -/
theorem STR_now {D N : Int} {mo ms : FN} {kn : Int} (h : STR D N mo kn ms) : (ms 0 = mo 0 ∧ ms 1 = mo 1 ∧ ms 2 = mo 2 ∧ ms 3 = mo 3 ∧ ms 8 = mo 4) ∧ ∀ i, i < 4 → ms (4 + i) = mo (5 + i) := by
  have e := h.2.2.1
  refine ⟨⟨e 0 (by omega), e 1 (by omega), e 2 (by omega), e 3 (by omega), e 4 (by omega)⟩, fun i hi => ?_⟩
  have q := e (5 + i) (by omega)
  rw [show prm (5 + i) = 4 + i by unfold prm; rw [if_neg (by omega), if_pos (by omega)]; omega] at q
  exact q
theorem STR_MOM {D N : Int} {mo ms : FN} {kn : Int} (h : STR D N mo kn ms) (hN : N ≤ 1000) : MOM ms := by
  have e := STR_now h
  have b := STR_0 h
  obtain ⟨⟨a0, a1, a2, a3, a5⟩, b1, c1, c2⟩ := b
  obtain ⟨⟨e0, e1, e2, e3, e4⟩, e5⟩ := e
  refine ⟨?_, ?_, ?_, ?_, ?_, ?_, ?_⟩
  · omega
  · omega
  · omega
  · omega
  · intro i hi; rw [e5 i hi]; exact a5 i hi
  · omega
  · rw [h.2.1]; exact h.1
theorem STR_cg {D N : Int} {mo ms mo' ms' : FN} {kn : Int} (h : STR D N mo kn ms) (e1 : ∀ a, a < 99 → mo' a = mo a) (e2 : ∀ a, a < 100 → ms' a = ms a) : STR D N mo' kn ms' := by
  obtain ⟨h1, h2, h3, h4, h5⟩ := h
  refine ⟨h1, by rw [e2 9 (by omega)]; exact h2, fun c hc => ?_, fun j c hj hc => ?_, fun j hj => ?_⟩
  · have := prm_lt hc
    rw [e2 _ (by omega), e1 _ (by omega)]; exact h3 c hc
  · have := prm_lt hc
    rw [e2 _ (by omega), e1 _ (by omega)]; exact h4 j c hj hc
  · exact BLK_cg (h5 j hj) (fun c hc => e1 _ (by omega))
theorem prm_of {ms mo : FN} (h : (ms 0 = mo 0 ∧ ms 1 = mo 1 ∧ ms 2 = mo 2 ∧ ms 3 = mo 3 ∧ ms 8 = mo 4) ∧ ∀ i, i < 4 → ms (4 + i) = mo (5 + i)) : ∀ c, c < 9 → ms (prm c) = mo c := fun c hc => by
  obtain ⟨⟨e0, e1, e2, e3, e4⟩, e5⟩ := h
  by_cases q : 5 ≤ c
  · have := e5 (c - 5) (by omega)
    rw [show 4 + (c - 5) = c - 1 by omega, show 5 + (c - 5) = c by omega] at this
    rw [show prm c = c - 1 by unfold prm; rw [if_neg (by omega), if_pos q]]; exact this
  · rcases (show c = 0 ∨ c = 1 ∨ c = 2 ∨ c = 3 ∨ c = 4 by omega) with rfl | rfl | rfl | rfl | rfl
    · exact e0
    · exact e1
    · exact e2
    · exact e3
    · exact e4
theorem STR_set {D N : Int} {mo ms mo' ms' : FN} {kn : Int} (h : STR D N mo kn ms) (e0 : ∀ c, c < 9 → ms' (prm c) = mo' c) (e1 : ∀ a, 9 ≤ a → mo' a = mo a) (e2 : ∀ a, 9 ≤ a → ms' a = ms a) (hB : BLK D N mo') : STR D N mo' kn ms' := by
  obtain ⟨h1, h2, h3, h4, h5⟩ := h
  refine ⟨h1, by rw [e2 9 (by omega)]; exact h2, e0, fun j c hj hc => ?_, fun j hj => ?_⟩
  · rw [e2 _ (by omega), e1 _ (by omega)]; exact h4 j c hj hc
  · by_cases q : j = 0
    · subst q; exact BLK_cg hB (fun c hc => by show mo' (9 * 0 + c) = mo' c; congr 1; omega)
    · exact BLK_cg (h5 j hj) (fun c hc => e1 _ (by omega))
theorem STR_rem {D N : Int} {mo ms : FN} {kn : Int} (h : STR D N mo kn ms) : STR D N (mcpy mo mo 0 9 90) (min 10 (kn + 1)) (remM ms) := by
  obtain ⟨h1, h2, h3, h4, h5⟩ := h
  have hr : 0 ≤ ms 9 ∧ ms 9 ≤ 10 := by omega
  have h9 := shd_9 hr
  have hs9 : shd ms 9 = min 9 kn := by
    unfold shd
    by_cases q : ms 9 = 10
    · rw [if_pos q, mup_s]; omega
    · rw [if_neg q]; omega
  have lo : ∀ a, a < 9 → mcpy mo mo 0 9 90 a = mo a := fun a ha => if_neg (by omega)
  have hi : ∀ a, a < 90 → mcpy mo mo 0 9 90 (9 + a) = mo a := fun a ha => by
    have : mcpy mo mo 0 9 90 (9 + a) = mo (0 + (9 + a - 9)) := if_pos (by omega)
    rw [this]; congr 1; omega
  refine ⟨by omega, by rw [remM_9 hr]; omega, fun c hc => ?_, fun j c hj hc => ?_, fun j hj => ?_⟩
  · rw [remM_lo hr (prm_lt hc), lo c hc]; exact h3 c hc
  · have hp := prm_lt hc
    have e : 9 * (j + 1) + c = 9 + (9 * j + c) := by omega
    rw [e, hi _ (by omega)]
    have er : remM ms (10 + 9 * ((min 10 (kn + 1)).toNat - 1 - j) + prm c) = cpM (shd ms) 9 (10 + 9 * ((min 10 (kn + 1)).toNat - 1 - j) + prm c) := mup_n (by omega)
    rw [er]
    unfold cpM
    by_cases q : j = 0
    · subst q
      rw [if_pos (by omega)]
      have e2 : 10 + 9 * ((min 10 (kn + 1)).toNat - 1 - 0) + prm c - (10 + 9 * shd ms 9).toNat = prm c := by omega
      rw [e2]
      have e3 : shd ms (prm c) = ms (prm c) := by
        unfold shd
        by_cases q : ms 9 = 10
        · rw [if_pos q, mup_n (by omega)]; exact if_neg (by omega)
        · rw [if_neg q]
      rw [e3, h3 c hc]; congr 1; omega
    · rw [if_neg (by omega)]
      have q4 := h4 (j - 1) c (by omega) hc
      rw [show 9 * (j - 1 + 1) + c = 9 * j + c by omega] at q4
      rw [← q4]
      unfold shd
      by_cases z : ms 9 = 10
      · rw [if_pos z, mup_n (by omega)]
        have e4 : shf ms 91 (10 + 9 * ((min 10 (kn + 1)).toNat - 1 - j) + prm c) = ms (10 + 9 * ((min 10 (kn + 1)).toNat - 1 - j) + prm c + 9) := if_pos (by omega)
        rw [e4]; congr 1; omega
      · rw [if_neg z]; congr 1; omega
  · by_cases q : j = 0
    · subst q
      exact BLK_cg (h5 0 h1.1) (fun c hc => by show mcpy mo mo 0 9 90 (9 * 0 + c) = mo (9 * 0 + c); rw [show 9 * 0 + c = c by omega]; exact lo c hc)
    · refine BLK_cg (h5 (j - 1) (by omega)) (fun c hc => ?_)
      show mcpy mo mo 0 9 90 (9 * j + c) = mo (9 * (j - 1) + c)
      rw [show 9 * j + c = 9 + (9 * (j - 1) + c) by omega]; exact hi _ (by omega)
theorem STR_und {D N : Int} {mo ms : FN} {kn : Int} (h : STR D N mo kn ms) (hk : 0 < kn) : STR D N (mcpy mo mo 9 0 90) (kn - 1) (undK ms 9) := by
  obtain ⟨h1, h2, h3, h4, h5⟩ := h
  have hi : ∀ a, a < 90 → mcpy mo mo 9 0 90 a = mo (9 + a) := fun a ha => by
    have : mcpy mo mo 9 0 90 a = mo (9 + (a - 0)) := if_pos (by omega)
    rw [this]; congr 1
  refine ⟨by omega, ?_, fun c hc => ?_, fun j c hj hc => ?_, fun j hj => ?_⟩
  · have : undK ms 9 9 = (if (9 : Nat) = 9 then ms 9 - 1 else ms 9) := if_neg (by omega)
    rw [this, if_pos rfl]; omega
  · have hp := prm_lt hc
    have e : undK ms 9 (prm c) = ms ((10 + 9 * (ms 9 - 1)).toNat + prm c) := if_pos hp
    rw [e, hi c (by omega)]
    have q := h4 0 c (by omega) hc
    rw [show 9 * (0 + 1) + c = 9 + c by omega] at q
    rw [← q]; congr 1; omega
  · have hp := prm_lt hc
    have e : undK ms 9 (10 + 9 * ((kn - 1).toNat - 1 - j) + prm c) = (if 10 + 9 * ((kn - 1).toNat - 1 - j) + prm c = 9 then ms 9 - 1 else ms (10 + 9 * ((kn - 1).toNat - 1 - j) + prm c)) := if_neg (by omega)
    rw [e, if_neg (by omega), hi _ (by omega)]
    have q := h4 (j + 1) c (by omega) hc
    rw [show 9 * (j + 1 + 1) + c = 9 + (9 * (j + 1) + c) by omega] at q
    rw [← q]; congr 1; omega
  · refine BLK_cg (h5 (j + 1) (by omega)) (fun c hc => ?_)
    show mcpy mo mo 9 0 90 (9 * j + c) = mo (9 * (j + 1) + c)
    rw [hi _ (by omega)]; congr 1; omega
theorem STR_chk {D N : Int} {mo ms : FN} {kn : Int} {lim add : Int} (h : STR D N mo kn ms) (ha : 0 ≤ add ∧ add ≤ 9) : chkR mo lim = chkR ms lim ∧ STR D (N + 1) (chkM mo lim add) kn (chkW ms lim add) := by
  have e := STR_now h
  obtain ⟨⟨e0, e1, e2, e3, e4⟩, e5⟩ := e
  have b := STR_0 h
  obtain ⟨⟨a0, a1, a2, a3, a5⟩, b1, c1, c2⟩ := b
  refine ⟨by unfold chkR; rw [e2], ?_⟩
  unfold chkM chkW
  rw [e2]
  by_cases q : max (mo 2) (-(mo 2)) ≤ lim
  · rw [if_pos q, if_pos q]; exact STR_up h (by omega)
  · rw [if_neg q, if_neg q]
    refine STR_set (STR_up h (M := N + 1) (by omega)) (prm_of ⟨⟨?_, ?_, ?_, ?_, ?_⟩, ?_⟩) (fun a ha => ?_) (fun a ha => ?_) ⟨⟨?_, ?_, ?_, ?_, ?_⟩, ?_, ?_, ?_⟩
    · rw [mup_n (by omega), mup_n (by omega), mup_n (by omega), mup_n (by omega), mup_n (by omega), mup_n (by omega)]; exact e0
    · rw [mup_s, mup_s, e1]
    · rw [mup_n (by omega), mup_s, mup_n (by omega), mup_s]
    · rw [mup_n (by omega), mup_n (by omega), mup_n (by omega), mup_n (by omega), mup_n (by omega), mup_n (by omega)]; exact e3
    · rw [mup_n (by omega), mup_n (by omega), mup_s, mup_n (by omega), mup_n (by omega), mup_s, e4]
    · intro i hi; rw [mup_n (by omega), mup_n (by omega), mup_n (by omega), mup_n (by omega), mup_n (by omega), mup_n (by omega)]; exact e5 i hi
    · rw [mup_n (by omega), mup_n (by omega), mup_n (by omega)]
    · rw [mup_n (by omega), mup_n (by omega), mup_n (by omega)]
    · rw [mup_n (by omega), mup_n (by omega), mup_n (by omega)]; exact a0
    · rw [mup_s]; omega
    · rw [mup_n (by omega), mup_s]; omega
    · rw [mup_n (by omega), mup_n (by omega), mup_n (by omega)]; exact a3
    · intro i hi; rw [mup_n (by omega), mup_n (by omega), mup_n (by omega)]; exact a5 i hi
    · rw [mup_n (by omega), mup_n (by omega), mup_n (by omega)]; exact b1
    · rw [mup_n (by omega), mup_n (by omega), mup_s]; omega
    · rw [mup_n (by omega), mup_n (by omega), mup_s]; omega
/-! candles and harms by two texts that tell the same -/
theorem cndl_cg {f g : FN} {day p : Int} : ∀ n : Nat, (∀ a : Nat, a < 4 * n → g a = f a) → cndl g day p n = cndl f day p n
  | 0, _ => rfl
  | n + 1, h => by rw [cndl_s, cndl_s, cndl_cg n (fun a ha => h a (by omega)), h (4 * n) (by omega), h (4 * n + 1) (by omega), h (4 * n + 2) (by omega), h (4 * n + 3) (by omega)]
theorem hrm1_cg {f g : FN} {e : Int} {i : Nat} (h : ∀ a : Nat, a < 2 * (i + 1) → g a = f a) : hrm1 g e i = hrm1 f e i := by
  unfold hrm1
  rw [h (2 * i) (by omega), h (2 * i + 1) (by omega)]
theorem hrmS_cg {f g : FN} {e : Int} : ∀ n : Nat, (∀ a : Nat, a < 2 * n → g a = f a) → hrmS g e n = hrmS f e n
  | 0, _ => rfl
  | n + 1, h => by
    show hrmS g e n + hrm1 g e n = hrmS f e n + hrm1 f e n
    rw [hrmS_cg n (fun a ha => h a (by omega)), hrm1_cg (fun a ha => h a (by omega))]
theorem RT_cnd {t m : TD} (h : RT t m) {day p : Int} : cndl (tBri m) day p (tNB m).toNat = cndl (tBri t) day p (tNB t).toNat := by
  obtain ⟨h1, h2, ⟨e1, e2, e3, e4, e5⟩, h4, h5, h6⟩ := h
  have := h1.2.1
  rw [e2]; exact cndl_cg _ (fun a ha => h5 a (by omega))
theorem RT_hrS {t m : TD} (h : RT t m) {e : Int} : hrmS (tTra m) e (tNT m).toNat = hrmS (tTra t) e (tNT t).toNat := by
  obtain ⟨h1, h2, ⟨e1, e2, e3, e4, e5⟩, h4, h5, h6⟩ := h
  have := h1.2.2.1
  rw [e3]; exact hrmS_cg _ (fun a ha => h6 a (by omega))
theorem hrmM_at {tr : FN} {e : Int} {m : FN} : ∀ (n i : Nat), hrmM tr e m n (5 + i) = if i < n then min 9999 (m (5 + i) + hrm1 tr e i) else m (5 + i)
  | 0, i => (if_neg (Nat.not_lt_zero _)).symm
  | n + 1, i => by
    show mup (hrmM tr e m n) (5 + n) (min 9999 (hrmM tr e m n (5 + n) + hrm1 tr e n)) (5 + i) = _
    by_cases q : i = n
    · subst q
      rw [mup_s, if_pos (by omega), hrmM_lo (Or.inr (by omega))]
    · rw [mup_n (by omega), hrmM_at n i]
      by_cases z : i < n
      · rw [if_pos z, if_pos (by omega)]
      · rw [if_neg z, if_neg (by omega)]
theorem hrmW_at {tr : FN} {e : Int} {m : FN} : ∀ (n i : Nat), hrmW tr e m n (4 + i) = if i < n then min 9999 (m (4 + i) + hrm1 tr e i) else m (4 + i)
  | 0, i => (if_neg (Nat.not_lt_zero _)).symm
  | n + 1, i => by
    show mup (hrmW tr e m n) (4 + n) (min 9999 (hrmW tr e m n (4 + n) + hrm1 tr e n)) (4 + i) = _
    by_cases q : i = n
    · subst q
      rw [mup_s, if_pos (by omega), hrmW_lo (Or.inr (by omega))]
    · rw [mup_n (by omega), hrmW_at n i]
      by_cases z : i < n
      · rw [if_pos z, if_pos (by omega)]
      · rw [if_neg z, if_neg (by omega)]
/-- the day turned, before he is checked -/
theorem STR_trn {t m : TD} (hR : RT t m) {N : Int} {mo ms : FN} {kn p : Int} (h : STR (tDay t) N mo kn ms) (hp : -2 ≤ p ∧ p ≤ 3) (he : -9 ≤ mo 2 + p ∧ mo 2 + p ≤ 9) : STR (tDay t) N (trnM (tBri t) (tTra t) (tNB t).toNat (tNT t).toNat p mo) (min 10 (kn + 1)) (wndM m p ms) := by
  have hT := hR.1
  have hr := STR_rem h
  obtain ⟨⟨e0, e1, e2, e3, e4⟩, e5⟩ := STR_now h
  obtain ⟨⟨r0, r1, r2, r3, r4⟩, r5⟩ := STR_now hr
  have hB := STR_0 h
  have hBr := STR_0 hr
  obtain ⟨⟨a0, a1, a2, a3, a5⟩, b1, c1, c2⟩ := hB
  have lo : ∀ a, a < 9 → mcpy mo mo 0 9 90 a = mo a := fun a ha => if_neg (by omega)
  have hnt := hT.2.2.1
  have hnb := hT.2.1
  have hcn := RT_cnd hR (day := mo 0) (p := p)
  have hci := cndl_in hT (day := mo 0) (p := p) (tNB t).toNat (by omega)
  unfold trnM wndM
  rw [e0, e1, e2, e3, hcn, hR.2.2.1.2.2.1]
  generalize cndl (tBri t) (mo 0) p (tNB t).toNat = C at *
  refine STR_set hr (prm_of ⟨⟨?_, ?_, ?_, ?_, ?_⟩, ?_⟩) (fun a ha => ?_) (fun a ha => ?_) ⟨⟨?_, ?_, ?_, ?_, ?_⟩, ?_, ?_, ?_⟩
  · rw [hrmW_lo (Or.inl (by omega)), hrmM_lo (Or.inl (by omega)), mup_n (by omega), mup_n (by omega), mup_n (by omega), mup_n (by omega), mup_n (by omega), mup_n (by omega)]; exact r0
  · rw [hrmW_lo (Or.inl (by omega)), hrmM_lo (Or.inl (by omega)), mup_n (by omega), mup_s, mup_n (by omega), mup_s]
  · rw [hrmW_lo (Or.inl (by omega)), hrmM_lo (Or.inl (by omega)), mup_n (by omega), mup_n (by omega), mup_s, mup_n (by omega), mup_n (by omega), mup_s]
  · rw [hrmW_lo (Or.inl (by omega)), hrmM_lo (Or.inl (by omega)), mup_s, mup_s]
  · rw [hrmW_lo (Or.inr (by omega)), hrmM_lo (Or.inl (by omega)), mup_n (by omega), mup_n (by omega), mup_n (by omega), mup_n (by omega), mup_n (by omega), mup_n (by omega)]; exact r4
  · intro i hi
    rw [hrmW_at, hrmM_at, mup_n (by omega), mup_n (by omega), mup_n (by omega), mup_n (by omega), mup_n (by omega), mup_n (by omega), r5 i hi]
    by_cases q : i < (tNT t).toNat
    · rw [if_pos q, if_pos q, hrm1_cg (fun a ha => hR.2.2.2.2.2 a (by omega))]
    · rw [if_neg q, if_neg q]
  · rw [hrmM_lo (Or.inr (by omega)), mup_n (by omega), mup_n (by omega), mup_n (by omega)]
  · rw [hrmW_lo (Or.inr (by omega)), mup_n (by omega), mup_n (by omega), mup_n (by omega)]
  · rw [hrmM_lo (Or.inl (by omega)), mup_n (by omega), mup_n (by omega), mup_n (by omega), lo 0 (by omega)]; exact a0
  · rw [hrmM_lo (Or.inl (by omega)), mup_n (by omega), mup_s]; omega
  · rw [hrmM_lo (Or.inl (by omega)), mup_n (by omega), mup_n (by omega), mup_s]; exact he
  · rw [hrmM_lo (Or.inl (by omega)), mup_s]; omega
  · intro i hi
    have hq := hrm1_in hT he hi
    have ha := a5 i hi
    rw [hrmM_at, mup_n (by omega), mup_n (by omega), mup_n (by omega), lo (5 + i) (by omega)]
    split <;> omega
  · rw [hrmM_lo (Or.inl (by omega)), mup_n (by omega), mup_n (by omega), mup_n (by omega), lo 0 (by omega)]; exact b1
  · rw [hrmM_lo (Or.inl (by omega)), mup_n (by omega), mup_n (by omega), mup_n (by omega), lo 4 (by omega)]; exact c1
  · rw [hrmM_lo (Or.inl (by omega)), mup_n (by omega), mup_n (by omega), mup_n (by omega), lo 4 (by omega)]; exact c2
theorem chkM_0 {mo : FN} {a b : Int} : chkM mo a b 0 = mo 0 := by
  unfold chkM; split
  · rfl
  · rw [mup_n (by omega), mup_n (by omega), mup_n (by omega)]
theorem trnM_0 {br tr : FN} {nb nt : Nat} {p : Int} {mo : FN} : trnM br tr nb nt p mo 0 = mo 0 := by
  unfold trnM
  rw [hrmM_lo (Or.inl (by omega)), mup_n (by omega), mup_n (by omega), mup_n (by omega)]; exact if_neg (by omega)
theorem STR_day {D N : Int} {mo ms : FN} {kn d : Int} (h : STR D N mo kn ms) (hd : 0 ≤ d ∧ d ≤ D) (hD : D ≤ 14) : STR D N (mup mo 0 d) kn (mup ms 0 d) := by
  obtain ⟨⟨e0, e1, e2, e3, e4⟩, e5⟩ := STR_now h
  obtain ⟨⟨a0, a1, a2, a3, a5⟩, b1, c1, c2⟩ := STR_0 h
  refine STR_set h (prm_of ⟨⟨?_, ?_, ?_, ?_, ?_⟩, ?_⟩) (fun a ha => mup_n (by omega)) (fun a ha => mup_n (by omega)) ⟨⟨?_, ?_, ?_, ?_, ?_⟩, ?_, ?_, ?_⟩
  · rw [mup_s, mup_s]
  · rw [mup_n (by omega), mup_n (by omega)]; exact e1
  · rw [mup_n (by omega), mup_n (by omega)]; exact e2
  · rw [mup_n (by omega), mup_n (by omega)]; exact e3
  · rw [mup_n (by omega), mup_n (by omega)]; exact e4
  · intro i hi; rw [mup_n (by omega), mup_n (by omega)]; exact e5 i hi
  · rw [mup_s]; omega
  · rw [mup_n (by omega)]; exact a1
  · rw [mup_n (by omega)]; exact a2
  · rw [mup_n (by omega)]; exact a3
  · intro i hi; rw [mup_n (by omega)]; exact a5 i hi
  · rw [mup_s]; exact hd.2
  · rw [mup_n (by omega)]; exact c1
  · rw [mup_n (by omega)]; exact c2
theorem STR_wnd {t m : TD} (hR : RT t m) {N : Int} {mo ms : FN} {kn p z : Int} (h : STR (tDay t) N mo kn ms) (hp : -2 ≤ p ∧ p ≤ 3) (he : -9 ≤ mo 2 + p ∧ mo 2 + p ≤ 9) (hd : mo 0 < tDay t) : trnR t p z mo = wndR m p z ms ∧ STR (tDay t) (N + 1) (mup (trnC t p z mo) 0 (mo 0 + 1)) (min 10 (kn + 1)) (mup (wndC m p z ms) 0 (ms 0 + 1)) := by
  have hT := hR.1
  obtain ⟨⟨e0, e1, e2, e3, e4⟩, e5⟩ := STR_now h
  have hB := (STR_0 h).1.1
  have ht := STR_trn hR h hp he
  have hc := STR_chk ht (lim := tLim t) (add := tAdd t) hT.2.2.2.2.2.1
  have hD := hT.1
  have hs := hR.2.2.2.1 (mo 0).toNat (by omega)
  obtain ⟨q1, q2, q3, q4, q5⟩ := hR.2.2.1
  unfold trnR wndR trnC wndC
  rw [e0, hs, q4, q5]
  by_cases q : drw (mo 0) z < tSun t (mo 0).toNat
  · rw [if_pos q, if_pos q, if_pos q, if_pos q]
    exact ⟨hc.1, STR_day hc.2 (by omega) (by omega)⟩
  · rw [if_neg q, if_neg q, if_neg q, if_neg q]
    exact ⟨rfl, STR_day (STR_up ht (by omega)) (by omega) (by omega)⟩
