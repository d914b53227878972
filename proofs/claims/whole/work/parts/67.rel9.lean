/-! the two readers of the text: items -/
def FLR (x : XD) (s : TD) : Prop := ((xR x = 0 ∧ tRst s < 0) ∨ (xR x = 1 ∧ 0 ≤ tRst s)) ∧ ((xL x = 0 ∧ tLim s < 0) ∨ (xL x = 1 ∧ 0 ≤ tLim s)) ∧ ((xA x = 0 ∧ tAdd s < 0) ∨ (xA x = 1 ∧ 0 ≤ tAdd s))
def TLR (t s : TD) : Prop := TCW s ∧ TAR t ∧ TAR s ∧ (tDay s = tDay t ∧ tNB s = tNB t ∧ tNT s = tNT t) ∧ (tRst t = (if tRst s < 0 then 20 else tRst s) ∧ tLim t = (if tLim s < 0 then 2 else tLim s) ∧ tAdd t = (if tAdd s < 0 then 3 else tAdd s)) ∧ (∀ a : Nat, (a : Int) < tDay t → tSun s a = tSun t a) ∧ (∀ a : Nat, (a : Int) < 4 * tNB t → tBri s a = tBri t a) ∧ (∀ a : Nat, (a : Int) < 2 * tNT t → tTra s a = tTra t a)
def PSR (x : XD) (t : TD) (y : XD) (s : TD) : Prop := XOK x ∧ XOM y ∧ TKE x y ∧ xF x = -1 ∧ xF y = 0 ∧ FLR x s ∧ TLR t s
theorem tDay_e {t : TD} {v : Int} (h : 0 ≤ tDay t ∧ tDay t < 14) : tAddDay t v = (mup (tSun t) (tDay t).toNat v, tBri t, tTra t, tDay t + 1, tNB t, tNT t, tRst t, tLim t, tAdd t) := if_pos h
theorem tBri_e {t : TD} {d s p c : Int} (h : 0 ≤ tNB t ∧ tNB t < 6) : tAddBri t d s p c = (tSun t, mup (mup (mup (mup (tBri t) (4 * tNB t).toNat d) (4 * tNB t + 1).toNat s) (4 * tNB t + 2).toNat p) (4 * tNB t + 3).toNat c, tTra t, tDay t, tNB t + 1, tNT t, tRst t, tLim t, tAdd t) := if_pos (by omega)
theorem tTra_e {t : TD} {w s : Int} (h : 0 ≤ tNT t ∧ tNT t < 4) : tAddTra t w s = (tSun t, tBri t, mup (mup (tTra t) (2 * tNT t).toNat w) (2 * tNT t + 1).toNat s, tDay t, tNB t, tNT t + 1, tRst t, tLim t, tAdd t) := if_pos (by omega)
theorem TAR_day {t : TD} {v : Int} (h : TAR t) (hv : 0 ≤ v ∧ v ≤ 10) : TAR (tAddDay t v) := by
  by_cases q : 0 ≤ tDay t ∧ tDay t < 14
  · rw [tDay_e q]
    refine ⟨fun i hi => ?_, h.2.1, h.2.2⟩
    show 0 ≤ mup (tSun t) (tDay t).toNat v i ∧ mup (tSun t) (tDay t).toNat v i ≤ 10
    by_cases z : i = (tDay t).toNat
    · rw [z, mup_s]; exact hv
    · rw [mup_n z]; exact h.1 i hi
  · rw [show tAddDay t v = t from if_neg q]; exact h
theorem bri_rd {f : FN} {n : Int} {d s p c : Int} (hn : 0 ≤ n) (i : Nat) : (i ≠ n.toNat → ∀ k, k < 4 → mup (mup (mup (mup f (4 * n).toNat d) (4 * n + 1).toNat s) (4 * n + 2).toNat p) (4 * n + 3).toNat c (4 * i + k) = f (4 * i + k)) ∧ (i = n.toNat → mup (mup (mup (mup f (4 * n).toNat d) (4 * n + 1).toNat s) (4 * n + 2).toNat p) (4 * n + 3).toNat c (4 * i) = d ∧ mup (mup (mup (mup f (4 * n).toNat d) (4 * n + 1).toNat s) (4 * n + 2).toNat p) (4 * n + 3).toNat c (4 * i + 1) = s ∧ mup (mup (mup (mup f (4 * n).toNat d) (4 * n + 1).toNat s) (4 * n + 2).toNat p) (4 * n + 3).toNat c (4 * i + 2) = p ∧ mup (mup (mup (mup f (4 * n).toNat d) (4 * n + 1).toNat s) (4 * n + 2).toNat p) (4 * n + 3).toNat c (4 * i + 3) = c) := by
  refine ⟨fun h k hk => ?_, fun h => ⟨?_, ?_, ?_, ?_⟩⟩
  · rw [mup_n (by omega), mup_n (by omega), mup_n (by omega), mup_n (by omega)]
  · rw [mup_n (by omega), mup_n (by omega), mup_n (by omega), show 4 * i = (4 * n).toNat by omega, mup_s]
  · rw [mup_n (by omega), mup_n (by omega), show 4 * i + 1 = (4 * n + 1).toNat by omega, mup_s]
  · rw [mup_n (by omega), show 4 * i + 2 = (4 * n + 2).toNat by omega, mup_s]
  · rw [show 4 * i + 3 = (4 * n + 3).toNat by omega, mup_s]
theorem TAR_bri {t : TD} {d s p c : Int} (h : TAR t) (h1 : 0 ≤ d ∧ d ≤ 13) (h2 : 0 ≤ s ∧ s ≤ 1) (h3 : -2 ≤ p ∧ p ≤ 3) (h4 : 0 ≤ c ∧ c ≤ 20) : TAR (tAddBri t d s p c) := by
  by_cases q : 0 ≤ 4 * tNB t ∧ 4 * tNB t + 3 < 24
  · rw [tBri_e (by omega)]
    refine ⟨h.1, fun i hi => ?_, h.2.2⟩
    have hb := bri_rd (f := tBri t) (n := tNB t) (d := d) (s := s) (p := p) (c := c) (by omega) i
    have ho := h.2.1 i hi
    show (0 ≤ mup _ _ _ (4 * i) ∧ mup _ _ _ (4 * i) ≤ 13) ∧ (0 ≤ mup _ _ _ (4 * i + 1) ∧ mup _ _ _ (4 * i + 1) ≤ 1) ∧ (-2 ≤ mup _ _ _ (4 * i + 2) ∧ mup _ _ _ (4 * i + 2) ≤ 3) ∧ 0 ≤ mup _ _ _ (4 * i + 3) ∧ mup _ _ _ (4 * i + 3) ≤ 20
    by_cases z : i = (tNB t).toNat
    · obtain ⟨b0, b1, b2, b3⟩ := hb.2 z
      rw [b0, b1, b2, b3]; exact ⟨h1, h2, h3, h4⟩
    · have b := hb.1 z
      have b0 := b 0 (by omega)
      rw [Nat.add_zero] at b0
      rw [b0, b 1 (by omega), b 2 (by omega), b 3 (by omega)]; exact ho
  · rw [show tAddBri t d s p c = t from if_neg q]; exact h
theorem tra_rd {f : FN} {n : Int} {w s : Int} (hn : 0 ≤ n) (i : Nat) : (i ≠ n.toNat → ∀ k, k < 2 → mup (mup f (2 * n).toNat w) (2 * n + 1).toNat s (2 * i + k) = f (2 * i + k)) ∧ (i = n.toNat → mup (mup f (2 * n).toNat w) (2 * n + 1).toNat s (2 * i) = w ∧ mup (mup f (2 * n).toNat w) (2 * n + 1).toNat s (2 * i + 1) = s) := by
  refine ⟨fun h k hk => ?_, fun h => ⟨?_, ?_⟩⟩
  · rw [mup_n (by omega), mup_n (by omega)]
  · rw [mup_n (by omega), show 2 * i = (2 * n).toNat by omega, mup_s]
  · rw [show 2 * i + 1 = (2 * n + 1).toNat by omega, mup_s]
theorem TAR_tra {t : TD} {w s : Int} (h : TAR t) (h1 : 0 ≤ w ∧ w ≤ 9) (h2 : 0 ≤ s ∧ s ≤ 1) : TAR (tAddTra t w s) := by
  by_cases q : 0 ≤ 2 * tNT t ∧ 2 * tNT t + 1 < 8
  · rw [tTra_e (by omega)]
    refine ⟨h.1, h.2.1, fun i hi => ?_⟩
    have hb := tra_rd (f := tTra t) (n := tNT t) (w := w) (s := s) (by omega) i
    have ho := h.2.2 i hi
    show (0 ≤ mup _ _ _ (2 * i) ∧ mup _ _ _ (2 * i) ≤ 9) ∧ 0 ≤ mup _ _ _ (2 * i + 1) ∧ mup _ _ _ (2 * i + 1) ≤ 1
    by_cases z : i = (tNT t).toNat
    · obtain ⟨b0, b1⟩ := hb.2 z
      rw [b0, b1]; exact ⟨h1, h2⟩
    · have b := hb.1 z
      have b0 := b 0 (by omega)
      rw [Nat.add_zero] at b0
      rw [b0, b 1 (by omega)]; exact ho
  · rw [show tAddTra t w s = t from if_neg q]; exact h
theorem TAR_itm {x : XD} {s : TD} (h : TAR s) : TAR (itmS x s) := by
  unfold itmS
  split
  · have r := fun lo hi (z : XD) (q : (0 : Int) ≤ lo ∧ (0 : Int) ≤ hi) => tkR_in (lo := lo) (hi := hi) (x := z) q
    unfold bodT
    split
    · have := r 0 5 (tkX 0 1 (tkX 0 13 (nxM x))) (by decide)
      exact TAR_bri h (r 0 13 _ (by decide)) (r 0 1 _ (by decide)) (by omega) (r 1 20 _ (by decide))
    · split
      · exact TAR_day h (r 0 10 _ (by decide))
      · split
        · exact TAR_tra h (r 1 9 _ (by decide)) (r 0 1 _ (by decide))
        · split
          · exact h
          · split
            · exact h
            · exact h
  · exact h
theorem TLR_day {t s : TD} {v : Int} (h : TLR t s) (hv : 0 ≤ v ∧ v ≤ 10) (hd : tDay t < 14) (hW : TCW (tAddDay s v)) : TLR (tAddDay t v) (tAddDay s v) := by
  obtain ⟨h1, h2, h3, ⟨c1, c2, c3⟩, h5, h6, h7, h8⟩ := h
  have b := h1.1
  refine ⟨hW, TAR_day h2 hv, TAR_day h3 hv, ?_⟩
  rw [tDay_e (by omega), tDay_e (by omega), c1]
  refine ⟨⟨rfl, c2, c3⟩, h5, fun a ha => ?_, h7, h8⟩
  have ha : (a : Int) < tDay t + 1 := ha
  show mup (tSun s) (tDay t).toNat v a = mup (tSun t) (tDay t).toNat v a
  by_cases z : a = (tDay t).toNat
  · rw [z, mup_s, mup_s]
  · rw [mup_n z, mup_n z]; exact h6 a (by omega)
theorem mup_ag {f g : FN} {k : Nat} {v : Int} {m : Int} (h : ∀ a : Nat, (a : Int) < m ∨ a = k → (a : Int) < m → f a = g a) : ∀ a : Nat, ((a : Int) < m ∨ a = k) → mup f k v a = mup g k v a := fun a ha => by
  by_cases z : a = k
  · rw [z, mup_s, mup_s]
  · rw [mup_n z, mup_n z]; exact h a ha (by omega)
theorem TLR_bri {t s : TD} {d e p c : Int} (h : TLR t s) (g1 : 0 ≤ d ∧ d ≤ 13) (g2 : 0 ≤ e ∧ e ≤ 1) (g3 : -2 ≤ p ∧ p ≤ 3) (g4 : 0 ≤ c ∧ c ≤ 20) (hd : tNB t < 6) (hW : TCW (tAddBri s d e p c)) : TLR (tAddBri t d e p c) (tAddBri s d e p c) := by
  obtain ⟨h1, h2, h3, ⟨c1, c2, c3⟩, h5, h6, h7, h8⟩ := h
  have b := h1.2.1
  refine ⟨hW, TAR_bri h2 g1 g2 g3 g4, TAR_bri h3 g1 g2 g3 g4, ?_⟩
  rw [tBri_e (by omega), tBri_e (by omega), c2]
  refine ⟨⟨c1, rfl, c3⟩, h5, h6, fun a ha => ?_, h8⟩
  have ha : (a : Int) < 4 * (tNB t + 1) := ha
  have r1 := bri_rd (f := tBri s) (n := tNB t) (d := d) (s := e) (p := p) (c := c) (by omega) (a / 4)
  have r2 := bri_rd (f := tBri t) (n := tNB t) (d := d) (s := e) (p := p) (c := c) (by omega) (a / 4)
  show mup _ _ _ a = mup _ _ _ a
  by_cases z : a / 4 = (tNB t).toNat
  · obtain ⟨s0, s1, s2, s3⟩ := r1.2 z
    obtain ⟨u0, u1, u2, u3⟩ := r2.2 z
    rcases (show a = 4 * (a / 4) ∨ a = 4 * (a / 4) + 1 ∨ a = 4 * (a / 4) + 2 ∨ a = 4 * (a / 4) + 3 by omega) with q | q | q | q
    · rw [q, s0, u0]
    · rw [q, s1, u1]
    · rw [q, s2, u2]
    · rw [q, s3, u3]
  · have s0 := r1.1 z (a % 4) (by omega)
    have u0 := r2.1 z (a % 4) (by omega)
    rw [show 4 * (a / 4) + a % 4 = a by omega] at s0 u0
    rw [s0, u0]; exact h7 a (by omega)
theorem TLR_tra {t s : TD} {w e : Int} (h : TLR t s) (g1 : 0 ≤ w ∧ w ≤ 9) (g2 : 0 ≤ e ∧ e ≤ 1) (hd : tNT t < 4) (hW : TCW (tAddTra s w e)) : TLR (tAddTra t w e) (tAddTra s w e) := by
  obtain ⟨h1, h2, h3, ⟨c1, c2, c3⟩, h5, h6, h7, h8⟩ := h
  have b := h1.2.2.1
  refine ⟨hW, TAR_tra h2 g1 g2, TAR_tra h3 g1 g2, ?_⟩
  rw [tTra_e (by omega), tTra_e (by omega), c3]
  refine ⟨⟨c1, c2, rfl⟩, h5, h6, h7, fun a ha => ?_⟩
  have ha : (a : Int) < 2 * (tNT t + 1) := ha
  have r1 := tra_rd (f := tTra s) (n := tNT t) (w := w) (s := e) (by omega) (a / 2)
  have r2 := tra_rd (f := tTra t) (n := tNT t) (w := w) (s := e) (by omega) (a / 2)
  show mup _ _ _ a = mup _ _ _ a
  by_cases z : a / 2 = (tNT t).toNat
  · obtain ⟨s0, s1⟩ := r1.2 z
    obtain ⟨u0, u1⟩ := r2.2 z
    rcases (show a = 2 * (a / 2) ∨ a = 2 * (a / 2) + 1 by omega) with q | q
    · rw [q, s0, u0]
    · rw [q, s1, u1]
  · have s0 := r1.1 z (a % 2) (by omega)
    have u0 := r2.1 z (a % 2) (by omega)
    rw [show 2 * (a / 2) + a % 2 = a by omega] at s0 u0
    rw [s0, u0]; exact h8 a (by omega)
/-- an item read on both sides -/
def OUT (X : XD) (T : TD) (w : XD) (s : TD) : Prop := (xF X = -1 ∧ xF w = 0 ∧ TKE (ntk X) w ∧ FLR X s ∧ TLR T s) ∨ (0 ≤ xF X ∧ xF w = 1 ∧ xS w = xF X ∧ TXT X w ∧ TAR T)
theorem rfs_no {c : Prop} [Decidable c] {x : XD} (h : ¬ c) : rfs (b2i c) x = x := by
  unfold rfs b2i; rw [if_neg h]; exact if_pos rfl
theorem rfs_yes {c : Prop} [Decidable c] {x : XD} (h : c) : rfs (b2i c) x = xFl x := by
  unfold rfs b2i; rw [if_pos h]; exact if_neg (by decide)
theorem fl_num {x : XD} {lo hi : Int} (hX : XOK x) : numX lo hi (xFl x) = xFl x := if_neg (show ¬ xS x = -1 by have := hX.2.2.1; omega)
theorem fl_stp {x : XD} (hX : XOK x) : stpX (xFl x) = xFl x := if_neg (show ¬ xS x = -1 by have := hX.2.2.1; omega)
theorem stp_F {x : XD} (h : xF (stpX x) = -1) : xF x = -1 := by
  by_cases q : xF x = -1
  · exact q
  · rw [show stpX x = x from if_neg q] at h; exact h
theorem num_F {x : XD} {lo hi : Int} (h : xF (numX lo hi x) = -1) : xF x = -1 := by
  by_cases q : xF x = -1
  · exact q
  · rw [show numX lo hi x = x from if_neg q] at h; exact h
theorem OUT_bad {x y : XD} {t s : TD} (hX : XOK x) (hk : TKE x y) (hT : TAR t) : OUT (xFl x) t (xFs y 1) s := Or.inr ⟨hX.2.2.1.1, rfl, hk.2.2.1, hk.1, hT⟩
theorem FLR_of {x X : XD} {s s' : TD} (h : FLR x s) (h1 : xR X = xR x) (h2 : xL X = xL x) (h3 : xA X = xA x) (g1 : tRst s' = tRst s) (g2 : tLim s' = tLim s) (g3 : tAdd s' = tAdd s) : FLR X s' := by
  unfold FLR
  rw [h1, h2, h3, g1, g2, g3]; exact h
theorem ntk_flg {x : XD} {r l a : Int} : ntk (xFlg x r l a) = xFlg (ntk x) r l a := by
  by_cases q1 : tC x < 0
  · rw [ntk_E (x := x) rfl rfl q1, ntk_E (x := xFlg x r l a) (w := tC x) (i := tSt x) rfl rfl q1]; rfl
  · by_cases q2 : 97 ≤ tC x ∧ tC x ≤ 122
    · rw [ntk_L (x := x) rfl rfl q2, ntk_L (x := xFlg x r l a) (w := tC x) (i := tSt x) rfl rfl q2]; rfl
    · by_cases q3 : 48 ≤ tC x ∧ tC x ≤ 57
      · rw [ntk_D (x := x) rfl rfl q3, ntk_D (x := xFlg x r l a) (w := tC x) (i := tSt x) rfl rfl q3]; rfl
      · by_cases q4 : tC x = 59
        · rw [ntk_S (x := x) rfl rfl q4, ntk_S (x := xFlg x r l a) (w := tC x) (i := tSt x) rfl rfl q4]; rfl
        · rw [ntk_O (x := x) rfl rfl (by omega) q2 q3 q4, ntk_O (x := xFlg x r l a) (w := tC x) (i := tSt x) rfl rfl (by omega) q2 q3 q4]; rfl
theorem itm_badX {x : XD} {t : TD} (hX : XOK x) : (14 ≤ tDay t → rdDayX x t = xFl x ∧ rdDayT x t = t) ∧ (6 ≤ tNB t → rdBriX x t = xFl x ∧ rdBriT x t = t) ∧ (4 ≤ tNT t → rdTraX x t = xFl x ∧ rdTraT x t = t) := by
  have hs := hX.2.2.1
  have hn : ¬ xF (xFl x) = -1 := show ¬ xS x = -1 by omega
  refine ⟨fun h => ?_, fun h => ?_, fun h => ?_⟩
  · have e : rdDayX x t = xFl x := by unfold rdDayX; rw [rfs_yes h, fl_num hX, fl_stp hX]
    exact ⟨e, by unfold rdDayT; rw [e, if_neg hn]⟩
  · have e : rdBriX x t = xFl x := by unfold rdBriX rdB5 rdB4 rdB3 rdB2 rdB1; rw [rfs_yes h, fl_num hX, fl_num hX, fl_num hX, fl_num hX, fl_stp hX]
    exact ⟨e, by unfold rdBriT; rw [e, if_neg hn]⟩
  · have e : rdTraX x t = xFl x := by unfold rdTraX rdT3 rdT2 rdT1; rw [rfs_yes h, fl_num hX, fl_num hX, fl_stp hX]
    exact ⟨e, by unfold rdTraT; rw [e, if_neg hn]⟩
theorem itm_badF {x : XD} {t : TD} (hX : XOK x) : (xR x = 1 → rdRstX x = xFl x ∧ rdRstT x t = t) ∧ (xL x = 1 → rdLimX x = xFl x ∧ rdLimT x t = t) ∧ (xA x = 1 → rdAddX x = xFl x ∧ rdAddT x t = t) := by
  have hs := hX.2.2.1
  have hn : ¬ xF (xFl x) = -1 := show ¬ xS x = -1 by omega
  have h1 : rfs 1 x = xFl x := if_neg (by decide)
  refine ⟨fun h => ?_, fun h => ?_, fun h => ?_⟩
  · have e : rdR1 x = xFl x := by unfold rdR1; rw [h, h1, fl_num hX, fl_stp hX]
    exact ⟨by unfold rdRstX; rw [e, if_neg hn], by unfold rdRstT; rw [e, if_neg hn]⟩
  · have e : rdL1 x = xFl x := by unfold rdL1; rw [h, h1, fl_num hX, fl_stp hX]
    exact ⟨by unfold rdLimX; rw [e, if_neg hn], by unfold rdLimT; rw [e, if_neg hn]⟩
  · have e : rdA1 x = xFl x := by unfold rdA1; rw [h, h1, fl_num hX, fl_stp hX]
    exact ⟨by unfold rdAddX; rw [e, if_neg hn], by unfold rdAddT; rw [e, if_neg hn]⟩
theorem R3 {x z : XD} (h : xR z = xR x ∧ xL z = xL x ∧ xA z = xA x) {lo hi : Int} : xR (numX lo hi z) = xR x ∧ xL (numX lo hi z) = xL x ∧ xA (numX lo hi z) = xA x := ⟨num_R.1.trans h.1, num_R.2.1.trans h.2.1, num_R.2.2.trans h.2.2⟩
theorem R3s {x z : XD} (h : xR z = xR x ∧ xL z = xL x ∧ xA z = xA x) : xR (stpX z) = xR x ∧ xL (stpX z) = xL x ∧ xA (stpX z) = xA x := ⟨stp_R.1.trans h.1, stp_R.2.1.trans h.2.1, stp_R.2.2.trans h.2.2⟩
theorem ok_day {x y : XD} {t s : TD} (hA : AH x (nxM y)) (hF : FLR x s) (hL : TLR t s) (hd : tDay t < 14) (hW : TCW (tAddDay s (tkR 0 10 (nxM y)))) : OUT (rdDayX x t) (rdDayT x t) (itmF (tkX 0 10 (nxM y))) (tAddDay s (tkR 0 10 (nxM y))) := by
  have a1 := AH_num (lo := 0) (hi := 10) hA
  have e1 : rdDayX x t = stpX (numX 0 10 x) := by unfold rdDayX; rw [rfs_no (by omega)]
  have e2 : rdDayT x t = if xF (stpX (numX 0 10 x)) = -1 then tAddDay t (numR 0 x) else t := by unfold rdDayT; rw [e1, rfs_no (by omega)]
  rw [e1, e2]
  rcases AH_stp a1.1 with ⟨g1, g2, g3⟩ | ⟨g1, g2, g3, g4⟩
  · rw [if_pos g1]
    have v := a1.2 (stp_F g1)
    have fr := R3s (R3 (x := x) ⟨rfl, rfl, rfl⟩ (lo := 0) (hi := 10))
    rw [← v.1] at hW ⊢
    have hb := hL.1.1
    refine Or.inl ⟨g1, g2, g3, FLR_of hF fr.1 fr.2.1 fr.2.2 ?_ ?_ ?_, TLR_day hL v.2 hd hW⟩ <;> (rw [tDay_e (by have := hL.2.2.2.1.1; omega)]; rfl)
  · rw [if_neg (by omega)]
    exact Or.inr ⟨g1, g2, g3, g4, hL.2.1⟩
theorem ok_tra {x y : XD} {t s : TD} (hA : AH x (nxM y)) (hF : FLR x s) (hL : TLR t s) (hd : tNT t < 4) (hW : TCW (tAddTra s (tkR 1 9 (nxM y)) (tkR 0 1 (tkX 1 9 (nxM y))))) : OUT (rdTraX x t) (rdTraT x t) (itmF (tkX 0 1 (tkX 1 9 (nxM y)))) (tAddTra s (tkR 1 9 (nxM y)) (tkR 0 1 (tkX 1 9 (nxM y)))) := by
  have a1 := AH_num (lo := 1) (hi := 9) hA
  have a2 := AH_num (lo := 0) (hi := 1) a1.1
  have e0 : rdT1 x t = x := rfs_no (by omega)
  have e1 : rdTraX x t = stpX (numX 0 1 (numX 1 9 x)) := by unfold rdTraX rdT3 rdT2; rw [e0]
  have e2 : rdTraT x t = if xF (stpX (numX 0 1 (numX 1 9 x))) = -1 then tAddTra t (numR 1 x) (numR 0 (numX 1 9 x)) else t := by unfold rdTraT rdT2; rw [e1, e0]
  rw [e1, e2]
  rcases AH_stp a2.1 with ⟨g1, g2, g3⟩ | ⟨g1, g2, g3, g4⟩
  · rw [if_pos g1]
    have v2 := a2.2 (stp_F g1)
    have v1 := a1.2 (num_F (stp_F g1))
    have fr := R3s (R3 (R3 (x := x) ⟨rfl, rfl, rfl⟩ (lo := 1) (hi := 9)) (lo := 0) (hi := 1))
    rw [← v1.1, ← v2.1] at hW ⊢
    have hb := hL.1.2.2.1
    refine Or.inl ⟨g1, g2, g3, FLR_of hF fr.1 fr.2.1 fr.2.2 ?_ ?_ ?_, TLR_tra hL (by omega) v2.2 hd hW⟩ <;> (rw [tTra_e (by have := hL.2.2.2.1.2.2; omega)]; rfl)
  · rw [if_neg (by omega)]
    exact Or.inr ⟨g1, g2, g3, g4, hL.2.1⟩
theorem ok_bri {x y : XD} {t s : TD} (hA : AH x (nxM y)) (hF : FLR x s) (hL : TLR t s) (hd : tNB t < 6) (hW : TCW (tAddBri s (tkR 0 13 (nxM y)) (tkR 0 1 (tkX 0 13 (nxM y))) (tkR 0 5 (tkX 0 1 (tkX 0 13 (nxM y))) - 2) (tkR 1 20 (tkX 0 5 (tkX 0 1 (tkX 0 13 (nxM y))))))) : OUT (rdBriX x t) (rdBriT x t) (itmF (tkX 1 20 (tkX 0 5 (tkX 0 1 (tkX 0 13 (nxM y)))))) (tAddBri s (tkR 0 13 (nxM y)) (tkR 0 1 (tkX 0 13 (nxM y))) (tkR 0 5 (tkX 0 1 (tkX 0 13 (nxM y))) - 2) (tkR 1 20 (tkX 0 5 (tkX 0 1 (tkX 0 13 (nxM y)))))) := by
  have a1 := AH_num (lo := 0) (hi := 13) hA
  have a2 := AH_num (lo := 0) (hi := 1) a1.1
  have a3 := AH_num (lo := 0) (hi := 5) a2.1
  have a4 := AH_num (lo := 1) (hi := 20) a3.1
  have e0 : rdB1 x t = x := rfs_no (by omega)
  have e1 : rdBriX x t = stpX (numX 1 20 (numX 0 5 (numX 0 1 (numX 0 13 x)))) := by unfold rdBriX rdB5 rdB4 rdB3 rdB2; rw [e0]
  have e2 : rdBriT x t = if xF (stpX (numX 1 20 (numX 0 5 (numX 0 1 (numX 0 13 x))))) = -1 then tAddBri t (numR 0 x) (numR 0 (numX 0 13 x)) (numR 0 (numX 0 1 (numX 0 13 x)) - 2) (numR 1 (numX 0 5 (numX 0 1 (numX 0 13 x)))) else t := by unfold rdBriT rdB4 rdB3 rdB2; rw [e1, e0]
  rw [e1, e2]
  rcases AH_stp a4.1 with ⟨g1, g2, g3⟩ | ⟨g1, g2, g3, g4⟩
  · rw [if_pos g1]
    have v4 := a4.2 (stp_F g1)
    have v3 := a3.2 (num_F (stp_F g1))
    have v2 := a2.2 (num_F (num_F (stp_F g1)))
    have v1 := a1.2 (num_F (num_F (num_F (stp_F g1))))
    have fr := R3s (R3 (R3 (R3 (R3 (x := x) ⟨rfl, rfl, rfl⟩ (lo := 0) (hi := 13)) (lo := 0) (hi := 1)) (lo := 0) (hi := 5)) (lo := 1) (hi := 20))
    rw [← v1.1, ← v2.1, ← v3.1, ← v4.1] at hW ⊢
    have hb := hL.1.2.1
    refine Or.inl ⟨g1, g2, g3, FLR_of hF fr.1 fr.2.1 fr.2.2 ?_ ?_ ?_, TLR_bri hL v1.2 v2.2 (by omega) (by omega) hd hW⟩ <;> (rw [tBri_e (by have := hL.2.2.2.1.2.1; omega)]; rfl)
  · rw [if_neg (by omega)]
    exact Or.inr ⟨g1, g2, g3, g4, hL.2.1⟩
theorem ok_rst {x y : XD} {t s : TD} (hA : AH x (nxM y)) (hF : FLR x s) (hL : TLR t s) (h0 : xR x = 0) (hW : TCW (tSetRst s (tkR 1 60 (nxM y)))) : OUT (rdRstX x) (rdRstT x t) (itmF (tkX 1 60 (nxM y))) (tSetRst s (tkR 1 60 (nxM y))) := by
  have a1 := AH_num (lo := 1) (hi := 60) hA
  have r0 : rfs (xR x) x = x := if_pos h0
  have e1 : rdR1 x = stpX (numX 1 60 x) := by unfold rdR1; rw [r0]
  have e2 : rdRstT x t = if xF (stpX (numX 1 60 x)) = -1 then tSetRst t (numR 1 x) else t := by unfold rdRstT; rw [e1, r0]
  have e3 : rdRstX x = if xF (stpX (numX 1 60 x)) = -1 then xFlg (stpX (numX 1 60 x)) 1 (xL (stpX (numX 1 60 x))) (xA (stpX (numX 1 60 x))) else stpX (numX 1 60 x) := by unfold rdRstX; rw [e1]
  rw [e2, e3]
  rcases AH_stp a1.1 with ⟨g1, g2, g3⟩ | ⟨g1, g2, g3, g4⟩
  · rw [if_pos g1, if_pos g1]
    have v := a1.2 (stp_F g1)
    have fr := R3s (R3 (x := x) ⟨rfl, rfl, rfl⟩ (lo := 1) (hi := 60))
    rw [← v.1] at hW ⊢
    obtain ⟨f1, f2, f3⟩ := hF
    obtain ⟨l1, l2, l3, l4, ⟨l5, l6, l7⟩, l8⟩ := hL
    refine Or.inl ⟨g1, g2, by rw [ntk_flg]; exact g3, ⟨?_, ?_, ?_⟩, hW, l2, l3, l4, ⟨?_, ?_, ?_⟩, l8⟩
    · exact Or.inr ⟨rfl, show 0 ≤ numR 1 x by omega⟩
    · show ((xL (stpX (numX 1 60 x)) = 0 ∧ tLim s < 0) ∨ (xL (stpX (numX 1 60 x)) = 1 ∧ 0 ≤ tLim s)); rw [fr.2.1]; exact f2
    · show ((xA (stpX (numX 1 60 x)) = 0 ∧ tAdd s < 0) ∨ (xA (stpX (numX 1 60 x)) = 1 ∧ 0 ≤ tAdd s)); rw [fr.2.2]; exact f3
    · exact (if_neg (show ¬ numR 1 x < 0 by omega)).symm
    · exact l6
    · exact l7
  · rw [if_neg (by omega), if_neg (by omega)]
    exact Or.inr ⟨g1, g2, g3, g4, hL.2.1⟩
theorem ok_lim {x y : XD} {t s : TD} (hA : AH x (nxM y)) (hF : FLR x s) (hL : TLR t s) (h0 : xL x = 0) (hW : TCW (tSetLim s (tkR 0 6 (nxM y)))) : OUT (rdLimX x) (rdLimT x t) (itmF (tkX 0 6 (nxM y))) (tSetLim s (tkR 0 6 (nxM y))) := by
  have a1 := AH_num (lo := 0) (hi := 6) hA
  have r0 : rfs (xL x) x = x := if_pos h0
  have e1 : rdL1 x = stpX (numX 0 6 x) := by unfold rdL1; rw [r0]
  have e2 : rdLimT x t = if xF (stpX (numX 0 6 x)) = -1 then tSetLim t (numR 0 x) else t := by unfold rdLimT; rw [e1, r0]
  have e3 : rdLimX x = if xF (stpX (numX 0 6 x)) = -1 then xFlg (stpX (numX 0 6 x)) (xR (stpX (numX 0 6 x))) 1 (xA (stpX (numX 0 6 x))) else stpX (numX 0 6 x) := by unfold rdLimX; rw [e1]
  rw [e2, e3]
  rcases AH_stp a1.1 with ⟨g1, g2, g3⟩ | ⟨g1, g2, g3, g4⟩
  · rw [if_pos g1, if_pos g1]
    have v := a1.2 (stp_F g1)
    have fr := R3s (R3 (x := x) ⟨rfl, rfl, rfl⟩ (lo := 0) (hi := 6))
    rw [← v.1] at hW ⊢
    obtain ⟨f1, f2, f3⟩ := hF
    obtain ⟨l1, l2, l3, l4, ⟨l5, l6, l7⟩, l8⟩ := hL
    refine Or.inl ⟨g1, g2, by rw [ntk_flg]; exact g3, ⟨?_, ?_, ?_⟩, hW, l2, l3, l4, ⟨?_, ?_, ?_⟩, l8⟩
    · show ((xR (stpX (numX 0 6 x)) = 0 ∧ tRst s < 0) ∨ (xR (stpX (numX 0 6 x)) = 1 ∧ 0 ≤ tRst s)); rw [fr.1]; exact f1
    · exact Or.inr ⟨rfl, show 0 ≤ numR 0 x by omega⟩
    · show ((xA (stpX (numX 0 6 x)) = 0 ∧ tAdd s < 0) ∨ (xA (stpX (numX 0 6 x)) = 1 ∧ 0 ≤ tAdd s)); rw [fr.2.2]; exact f3
    · exact l5
    · exact (if_neg (show ¬ numR 0 x < 0 by omega)).symm
    · exact l7
  · rw [if_neg (by omega), if_neg (by omega)]
    exact Or.inr ⟨g1, g2, g3, g4, hL.2.1⟩
theorem ok_add {x y : XD} {t s : TD} (hA : AH x (nxM y)) (hF : FLR x s) (hL : TLR t s) (h0 : xA x = 0) (hW : TCW (tSetAdd s (tkR 0 9 (nxM y)))) : OUT (rdAddX x) (rdAddT x t) (itmF (tkX 0 9 (nxM y))) (tSetAdd s (tkR 0 9 (nxM y))) := by
  have a1 := AH_num (lo := 0) (hi := 9) hA
  have r0 : rfs (xA x) x = x := if_pos h0
  have e1 : rdA1 x = stpX (numX 0 9 x) := by unfold rdA1; rw [r0]
  have e2 : rdAddT x t = if xF (stpX (numX 0 9 x)) = -1 then tSetAdd t (numR 0 x) else t := by unfold rdAddT; rw [e1, r0]
  have e3 : rdAddX x = if xF (stpX (numX 0 9 x)) = -1 then xFlg (stpX (numX 0 9 x)) (xR (stpX (numX 0 9 x))) (xL (stpX (numX 0 9 x))) 1 else stpX (numX 0 9 x) := by unfold rdAddX; rw [e1]
  rw [e2, e3]
  rcases AH_stp a1.1 with ⟨g1, g2, g3⟩ | ⟨g1, g2, g3, g4⟩
  · rw [if_pos g1, if_pos g1]
    have v := a1.2 (stp_F g1)
    have fr := R3s (R3 (x := x) ⟨rfl, rfl, rfl⟩ (lo := 0) (hi := 9))
    rw [← v.1] at hW ⊢
    obtain ⟨f1, f2, f3⟩ := hF
    obtain ⟨l1, l2, l3, l4, ⟨l5, l6, l7⟩, l8⟩ := hL
    refine Or.inl ⟨g1, g2, by rw [ntk_flg]; exact g3, ⟨?_, ?_, ?_⟩, hW, l2, l3, l4, ⟨?_, ?_, ?_⟩, l8⟩
    · show ((xR (stpX (numX 0 9 x)) = 0 ∧ tRst s < 0) ∨ (xR (stpX (numX 0 9 x)) = 1 ∧ 0 ≤ tRst s)); rw [fr.1]; exact f1
    · show ((xL (stpX (numX 0 9 x)) = 0 ∧ tLim s < 0) ∨ (xL (stpX (numX 0 9 x)) = 1 ∧ 0 ≤ tLim s)); rw [fr.2.1]; exact f2
    · exact Or.inr ⟨rfl, show 0 ≤ numR 0 x by omega⟩
    · exact l5
    · exact l6
    · exact (if_neg (show ¬ numR 0 x < 0 by omega)).symm
  · rw [if_neg (by omega), if_neg (by omega)]
    exact Or.inr ⟨g1, g2, g3, g4, hL.2.1⟩
theorem ltr_1 {x : XD} (h : xK x = 1) : ltr x = xV x := if_pos h
theorem ltr_0 {x : XD} (h : ¬ xK x = 1) : ltr x = 0 := if_neg h
theorem itmX_e {x : XD} {t : TD} : (ltr x = 100 → itmX x t = rdDayX x t ∧ itmT x t = rdDayT x t) ∧ (ltr x = 98 → itmX x t = rdBriX x t ∧ itmT x t = rdBriT x t) ∧ (ltr x = 104 → itmX x t = rdTraX x t ∧ itmT x t = rdTraT x t) ∧ (ltr x = 114 → itmX x t = rdRstX x ∧ itmT x t = rdRstT x t) ∧ (ltr x = 108 → itmX x t = rdLimX x ∧ itmT x t = rdLimT x t) ∧ (ltr x = 97 → itmX x t = rdAddX x ∧ itmT x t = rdAddT x t) ∧ (¬ ltr x = 100 → ¬ ltr x = 98 → ¬ ltr x = 104 → ¬ ltr x = 114 → ¬ ltr x = 108 → ¬ ltr x = 97 → itmX x t = xFl x ∧ itmT x t = t) := by
  unfold itmX itmT
  refine ⟨fun h => ?_, fun h => ?_, fun h => ?_, fun h => ?_, fun h => ?_, fun h => ?_, fun h1 h2 h3 h4 h5 h6 => ?_⟩
  · rw [h]; exact ⟨rfl, rfl⟩
  · rw [h]; exact ⟨rfl, rfl⟩
  · rw [h]; exact ⟨rfl, rfl⟩
  · rw [h]; exact ⟨rfl, rfl⟩
  · rw [h]; exact ⟨rfl, rfl⟩
  · rw [h]; exact ⟨rfl, rfl⟩
  · rw [if_neg h1, if_neg h2, if_neg h3, if_neg h4, if_neg h5, if_neg h6, if_neg h1, if_neg h2, if_neg h3, if_neg h4, if_neg h5, if_neg h6]; exact ⟨rfl, rfl⟩
theorem itm_out {x y : XD} {t s : TD} (h : PSR x t y s) : OUT (itmX x t) (itmT x t) (itmW y s) (itmS y s) := by
  obtain ⟨hX, hY, hk, fx, fy, hF, hL⟩ := h
  obtain ⟨k1, k2, k3, k4, k5⟩ := id hk
  obtain ⟨i1, i2, i3, i4, i5, i6, i7⟩ := itmX_e (x := x) (t := t)
  obtain ⟨c1, c2, c3⟩ := hL.2.2.2.1
  by_cases q : xK y = 1 ∧ mbF s (xV y) = 1
  · have hA := AH_0 hX hY hk fx fy
    have hW := TCW_itm (x := y) hL.1
    have hv := k5 (Or.inl (by omega))
    have hl := ltr_1 (x := x) (by omega)
    have e1 : itmW y s = itmF (bodX (xV y) (nxM y)) := if_pos q
    have e2 : itmS y s = bodT (xV y) (nxM y) s := if_pos q
    rw [e2] at hW
    rw [e1, e2]
    rcases mbF_c q.2 with ⟨e, g⟩ | ⟨e, g⟩ | ⟨e, g⟩ | ⟨e, g⟩ | ⟨e, g⟩ | ⟨e, g⟩
    · have z := i6 (by omega)
      rw [e] at hW ⊢
      rw [z.1, z.2]
      exact ok_add hA hF hL (by have := hF.2.2; omega) hW
    · have z := i2 (by omega)
      rw [e] at hW ⊢
      rw [z.1, z.2]
      exact ok_bri hA hF hL (by omega) hW
    · have z := i1 (by omega)
      rw [e] at hW ⊢
      rw [z.1, z.2]
      exact ok_day hA hF hL (by omega) hW
    · have z := i3 (by omega)
      rw [e] at hW ⊢
      rw [z.1, z.2]
      exact ok_tra hA hF hL (by omega) hW
    · have z := i5 (by omega)
      rw [e] at hW ⊢
      rw [z.1, z.2]
      exact ok_lim hA hF hL (by have := hF.2.1; omega) hW
    · have z := i4 (by omega)
      rw [e] at hW ⊢
      rw [z.1, z.2]
      exact ok_rst hA hF hL (by have := hF.1; omega) hW
  · have e1 : itmW y s = xFs y 1 := if_neg q
    have e2 : itmS y s = s := if_neg q
    rw [e1, e2]
    have bad : itmX x t = xFl x ∧ itmT x t = t := by
      by_cases q1 : xK x = 1
      · have hv := k5 (Or.inl q1)
        have hl := ltr_1 (x := x) q1
        have hm : ¬ mbF s (xV x) = 1 := fun z => q ⟨by omega, by rw [hv]; exact z⟩
        have hbX := itm_badX (t := t) hX
        have hbF := itm_badF (t := t) hX
        by_cases d1 : ltr x = 100
        · have z := i1 d1
          rw [z.1, z.2]
          exact hbX.1 (by
            by_cases w : tDay s < 14
            · exact absurd (show mbF s (xV x) = 1 by rw [← hl, d1]; exact if_pos w) hm
            · omega)
        · by_cases d2 : ltr x = 98
          · have z := i2 d2
            rw [z.1, z.2]
            exact hbX.2.1 (by
              by_cases w : tNB s < 6
              · exact absurd (show mbF s (xV x) = 1 by rw [← hl, d2]; exact if_pos w) hm
              · omega)
          · by_cases d3 : ltr x = 104
            · have z := i3 d3
              rw [z.1, z.2]
              exact hbX.2.2 (by
                by_cases w : tNT s < 4
                · exact absurd (show mbF s (xV x) = 1 by rw [← hl, d3]; exact if_pos w) hm
                · omega)
            · by_cases d4 : ltr x = 114
              · have z := i4 d4
                rw [z.1, z.2]
                exact hbF.1 (by
                  by_cases w : tRst s < 0
                  · exact absurd (show mbF s (xV x) = 1 by rw [← hl, d4]; exact if_pos w) hm
                  · have := hF.1; omega)
              · by_cases d5 : ltr x = 108
                · have z := i5 d5
                  rw [z.1, z.2]
                  exact hbF.2.1 (by
                    by_cases w : tLim s < 0
                    · exact absurd (show mbF s (xV x) = 1 by rw [← hl, d5]; exact if_pos w) hm
                    · have := hF.2.1; omega)
                · by_cases d6 : ltr x = 97
                  · have z := i6 d6
                    rw [z.1, z.2]
                    exact hbF.2.2 (by
                      by_cases w : tAdd s < 0
                      · exact absurd (show mbF s (xV x) = 1 by rw [← hl, d6]; exact if_pos w) hm
                      · have := hF.2.2; omega)
                  · exact i7 d1 d2 d3 d4 d5 d6
      · have hl := ltr_0 (x := x) q1
        exact i7 (by omega) (by omega) (by omega) (by omega) (by omega) (by omega)
    rw [bad.1, bad.2]
    exact OUT_bad hX hk hL.2.1
