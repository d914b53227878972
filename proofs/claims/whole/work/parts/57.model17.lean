/-! the reference: items -/
section WALKS
variable {l : Launch}
def xFs (x : XD) (f : Int) : XD := xSet x (xP x) (xS x) (xK x) (xV x) f
def bodX (c : Int) (x : XD) : XD := if c = 98 then tkX 1 20 (tkX 0 5 (tkX 0 1 (tkX 0 13 x))) else if c = 100 then tkX 0 10 x else if c = 104 then tkX 0 1 (tkX 1 9 x) else if c = 108 then tkX 0 6 x else if c = 114 then tkX 1 60 x else tkX 0 9 x
def bodT (c : Int) (x : XD) (s : TD) : TD := if c = 98 then tAddBri s (tkR 0 13 x) (tkR 0 1 (tkX 0 13 x)) (tkR 0 5 (tkX 0 1 (tkX 0 13 x)) - 2) (tkR 1 20 (tkX 0 5 (tkX 0 1 (tkX 0 13 x)))) else if c = 100 then tAddDay s (tkR 0 10 x) else if c = 104 then tAddTra s (tkR 1 9 x) (tkR 0 1 (tkX 1 9 x)) else if c = 108 then tSetLim s (tkR 0 6 x) else if c = 114 then tSetRst s (tkR 1 60 x) else tSetAdd s (tkR 0 9 x)
theorem XOM_tk {x : XD} (h : XOM x) {lo hi : Int} : XOM (tkX lo hi x) := by
  unfold tkX
  split
  · exact XOM_nx (XOM_set h h.2.1 h.2.2.1 h.2.2.2.1 h.2.2.2.2.1 (by decide))
  · exact XOM_set h h.2.1 h.2.2.1 h.2.2.2.1 h.2.2.2.2.1 (by decide)
theorem XOM_bod {x : XD} (h : XOM x) {c : Int} : XOM (bodX c x) := by
  unfold bodX
  split
  · exact XOM_tk (XOM_tk (XOM_tk (XOM_tk h)))
  · split
    · exact XOM_tk h
    · split
      · exact XOM_tk (XOM_tk h)
      · split
        · exact XOM_tk h
        · split
          · exact XOM_tk h
          · exact XOM_tk h
def tPutB (s : TD) (f : FN) : TD := (tSun s, f, tTra s, tDay s, tNB s, tNT s, tRst s, tLim s, tAdd s)
def tPutT (s : TD) (f : FN) : TD := (tSun s, tBri s, f, tDay s, tNB s, tNT s, tRst s, tLim s, tAdd s)
set_option maxRecDepth 20000 in
set_option maxHeartbeats 2000000 in
theorem sp_X7_readBribe {mt sd : TD} {ms mg mk : FN} {hn : Int} {mh : FN} {tr : Int} {mx : XD} {w9 t9 c9 g9 : FN}  (hX : XOM mx) (h1 : 0 ≤ tNB sd ∧ tNB sd < 6) : SpV l 5 yX7_readBribe cX7_readBribe 2 none [mr 0] (hM mt sd ms mg mk hn mh tr mx w9 t9 c9 g9) (fun h => h = hM mt (tAddBri sd (tkR 0 13 mx) (tkR 0 1 (tkX 0 13 mx)) (tkR 0 5 (tkX 0 1 (tkX 0 13 mx)) - 2) (tkR 1 20 (tkX 0 5 (tkX 0 1 (tkX 0 13 mx))))) ms mg mk hn mh tr (tkX 1 20 (tkX 0 5 (tkX 0 1 (tkX 0 13 mx)))) w9 t9 c9 g9) := by
  refine SpV.of (cd := kdX7_readBribe) (fT := mlook flX7) (kT := mlook klX7) (kJ := mlook jlX7) mfA_X7_readBribe ok_X7_readBribe fT_X7 kT_X7 jT_X7 jdk_ok True.intro (Nat.le_of_ble_eq_true rfl) (fun G hG => ?_)
  refine rRun hG 99999 ?_
  refine And.intro rfl (And.intro rfl (?_))
  refine rV hG (sp_X7_takesNumber (mt := mt) (sd := sd) (ms := ms) (mg := mg) (mk := mk) (hn := hn) (mh := mh) (tr := tr) (mx := mx) (w9 := w9) (t9 := t9) (c9 := c9) (g9 := g9) (lo := 0) (hi := 13) hX (by decide) (by decide)) rfl rfl lk_X7_106 mf_X7_takesNumber (by decide) (Nat.le_of_ble_eq_true rfl) ⟨_, _, _, rfl, rfl, rfl⟩ ?_
  rintro _ _ ⟨rfl, rfl⟩
  refine rRun hG 99999 ?_
  refine And.intro (by first | omega | (simp only [xB_s, xN_s, xP_s, xS_s, xK_s, xV_s, xF_s, xR_s, xL_s, xA_s, Int.reduceToNat]; omega)) (And.intro rfl (?_))
  refine rV hG (sp_X7_takesNumber (mt := mt) (sd := (tPutB sd (mup (tBri sd) (4 * tNB sd).toNat (tkR 0 13 mx)))) (ms := ms) (mg := mg) (mk := mk) (hn := hn) (mh := mh) (tr := tr) (mx := (tkX 0 13 mx)) (w9 := w9) (t9 := t9) (c9 := c9) (g9 := g9) (lo := 0) (hi := 1) (XOM_tk hX) (by decide) (by decide)) rfl rfl lk_X7_106 mf_X7_takesNumber (by decide) (Nat.le_of_ble_eq_true rfl) ⟨_, _, _, rfl, rfl, rfl⟩ ?_
  rintro _ _ ⟨rfl, rfl⟩
  refine rRun hG 99999 ?_
  refine And.intro (by first | omega | (simp only [xB_s, xN_s, xP_s, xS_s, xK_s, xV_s, xF_s, xR_s, xL_s, xA_s, Int.reduceToNat]; omega)) (And.intro rfl (?_))
  refine rV hG (sp_X7_takesNumber (mt := mt) (sd := (tPutB sd (mup (mup (tBri sd) (4 * tNB sd).toNat (tkR 0 13 mx)) (4 * tNB sd + 1).toNat (tkR 0 1 (tkX 0 13 mx))))) (ms := ms) (mg := mg) (mk := mk) (hn := hn) (mh := mh) (tr := tr) (mx := (tkX 0 1 (tkX 0 13 mx))) (w9 := w9) (t9 := t9) (c9 := c9) (g9 := g9) (lo := 0) (hi := 5) (XOM_tk (XOM_tk hX)) (by decide) (by decide)) rfl rfl lk_X7_106 mf_X7_takesNumber (by decide) (Nat.le_of_ble_eq_true rfl) ⟨_, _, _, rfl, rfl, rfl⟩ ?_
  rintro _ _ ⟨rfl, rfl⟩
  refine rRun hG 99999 ?_
  refine And.intro (by first | omega | (simp only [xB_s, xN_s, xP_s, xS_s, xK_s, xV_s, xF_s, xR_s, xL_s, xA_s, Int.reduceToNat]; omega)) (And.intro rfl (?_))
  refine rV hG (sp_X7_takesNumber (mt := mt) (sd := (tPutB sd (mup (mup (mup (tBri sd) (4 * tNB sd).toNat (tkR 0 13 mx)) (4 * tNB sd + 1).toNat (tkR 0 1 (tkX 0 13 mx))) (4 * tNB sd + 2).toNat (tkR 0 5 (tkX 0 1 (tkX 0 13 mx)) + -2)))) (ms := ms) (mg := mg) (mk := mk) (hn := hn) (mh := mh) (tr := tr) (mx := (tkX 0 5 (tkX 0 1 (tkX 0 13 mx)))) (w9 := w9) (t9 := t9) (c9 := c9) (g9 := g9) (lo := 1) (hi := 20) (XOM_tk (XOM_tk (XOM_tk hX))) (by decide) (by decide)) rfl rfl lk_X7_106 mf_X7_takesNumber (by decide) (Nat.le_of_ble_eq_true rfl) ⟨_, _, _, rfl, rfl, rfl⟩ ?_
  rintro _ _ ⟨rfl, rfl⟩
  refine rRun hG 99999 ?_
  refine And.intro (by first | omega | (simp only [xB_s, xN_s, xP_s, xS_s, xK_s, xV_s, xF_s, xR_s, xL_s, xA_s, Int.reduceToNat]; omega)) (And.intro rfl (And.intro ⟨rfl, by exact Nat.le_of_ble_eq_true rfl, by first | exact True.intro | exact Or.inl rfl | exact Or.inr rfl⟩ (?_)))
  refine rVR hG rfl rfl rfl ?_
  unfold tAddBri
  rw [if_pos (by omega)]
  rfl
set_option maxRecDepth 20000 in
set_option maxHeartbeats 2000000 in
theorem sp_X7_readBody {mt sd : TD} {ms mg mk : FN} {hn : Int} {mh : FN} {tr : Int} {mx : XD} {w9 t9 c9 g9 : FN} {c : Int} (hX : XOM mx) (hc : inI c) (h1 : 0 ≤ tNB sd ∧ (c = 98 → tNB sd < 6)) (h2 : 0 ≤ tDay sd ∧ (c = 100 → tDay sd < 14)) (h3 : 0 ≤ tNT sd ∧ (c = 104 → tNT sd < 4)) : SpV l 6 yX7_readBody cX7_readBody 2 none [mr 0, mi c] (hM mt sd ms mg mk hn mh tr mx w9 t9 c9 g9) (fun h => h = hM mt (bodT c mx sd) ms mg mk hn mh tr (bodX c mx) w9 t9 c9 g9) := by
  refine SpV.of (cd := kdX7_readBody) (fT := mlook flX7) (kT := mlook klX7) (kJ := mlook jlX7) mfA_X7_readBody ok_X7_readBody fT_X7 kT_X7 jT_X7 jdk_ok True.intro (Nat.le_of_ble_eq_true rfl) (fun G hG => ?_)
  refine rRun hG 166 ?_
  refine And.intro (by first | omega | (simp only [xB_s, xN_s, xP_s, xS_s, xK_s, xV_s, xF_s, xR_s, xL_s, xA_s, Int.reduceToNat]; omega)) (And.intro (fun c1 => ?_) (And.intro (fun c1 => ?_) (And.intro (fun c1 => ?_) (And.intro (fun c1 => ?_) (And.intro (fun c1 => ?_) (And.intro (fun c1 => ?_) (True.intro)))))))
  · skip
    have q98 : ¬ c = 98 := c1 (98, 80) (by simp)
    have q100 : ¬ c = 100 := c1 (100, 51) (by simp)
    have q104 : ¬ c = 104 := c1 (104, 87) (by simp)
    have q108 : ¬ c = 108 := c1 (108, 151) (by simp)
    have q114 : ¬ c = 114 := c1 (114, 137) (by simp)
    refine rRun hG 99999 ?_
    refine rV hG (sp_X7_takesNumber (mt := mt) (sd := sd) (ms := ms) (mg := mg) (mk := mk) (hn := hn) (mh := mh) (tr := tr) (mx := mx) (w9 := w9) (t9 := t9) (c9 := c9) (g9 := g9) (lo := 0) (hi := 9) hX (by decide) (by decide)) rfl rfl lk_X7_106 mf_X7_takesNumber (by decide) (Nat.le_of_ble_eq_true rfl) ⟨_, _, _, rfl, rfl, rfl⟩ ?_
    rintro _ _ ⟨rfl, rfl⟩
    refine rRun hG 99999 ?_
    refine And.intro ⟨rfl, by exact Nat.le_of_ble_eq_true rfl, by first | exact True.intro | exact Or.inl rfl | exact Or.inr rfl⟩ (?_)
    refine rVR hG rfl rfl rfl ?_
    first
      | (obtain rfl : c = 98 := c1; rfl)
      | (obtain rfl : c = 100 := c1; rw [show bodT 100 mx sd = tAddDay sd (tkR 0 10 mx) from rfl]; unfold tAddDay; rw [if_pos (by omega)]; rfl)
      | (obtain rfl : c = 104 := c1; rw [show bodT 104 mx sd = tAddTra sd (tkR 1 9 mx) (tkR 0 1 (tkX 1 9 mx)) from rfl]; unfold tAddTra; rw [if_pos (by omega)]; rfl)
      | (obtain rfl : c = 108 := c1; rfl)
      | (obtain rfl : c = 114 := c1; rfl)
      | (unfold bodX bodT; rw [if_neg q98, if_neg q100, if_neg q104, if_neg q108, if_neg q114, if_neg q98, if_neg q100, if_neg q104, if_neg q108, if_neg q114]; rfl)
  · skip
    refine rRun hG 166 ?_
    refine rVV hG (sp_X7_readBribe (mt := mt) (sd := sd) (ms := ms) (mg := mg) (mk := mk) (hn := hn) (mh := mh) (tr := tr) (mx := mx) (w9 := w9) (t9 := t9) (c9 := c9) (g9 := g9) hX (by omega)) rfl rfl lk_X7_125 mf_X7_readBribe (by decide) (Nat.le_of_ble_eq_true rfl) ⟨_, _, _, rfl, rfl, rfl⟩ ?_
    rintro _ rfl
    refine rRun hG 166 ?_
    refine rVR hG rfl rfl rfl ?_
    first
      | (obtain rfl : c = 98 := c1; rfl)
      | (obtain rfl : c = 100 := c1; rw [show bodT 100 mx sd = tAddDay sd (tkR 0 10 mx) from rfl]; unfold tAddDay; rw [if_pos (by omega)]; rfl)
      | (obtain rfl : c = 104 := c1; rw [show bodT 104 mx sd = tAddTra sd (tkR 1 9 mx) (tkR 0 1 (tkX 1 9 mx)) from rfl]; unfold tAddTra; rw [if_pos (by omega)]; rfl)
      | (obtain rfl : c = 108 := c1; rfl)
      | (obtain rfl : c = 114 := c1; rfl)
      | (unfold bodX bodT; rw [if_neg q98, if_neg q100, if_neg q104, if_neg q108, if_neg q114, if_neg q98, if_neg q100, if_neg q104, if_neg q108, if_neg q114]; rfl)
  · skip
    refine rRun hG 166 ?_
    refine And.intro rfl (And.intro rfl (?_))
    refine rV hG (sp_X7_takesNumber (mt := mt) (sd := sd) (ms := ms) (mg := mg) (mk := mk) (hn := hn) (mh := mh) (tr := tr) (mx := mx) (w9 := w9) (t9 := t9) (c9 := c9) (g9 := g9) (lo := 0) (hi := 10) hX (by decide) (by decide)) rfl rfl lk_X7_106 mf_X7_takesNumber (by decide) (Nat.le_of_ble_eq_true rfl) ⟨_, _, _, rfl, rfl, rfl⟩ ?_
    rintro _ _ ⟨rfl, rfl⟩
    refine rRun hG 166 ?_
    refine And.intro (by first | omega | (simp only [xB_s, xN_s, xP_s, xS_s, xK_s, xV_s, xF_s, xR_s, xL_s, xA_s, Int.reduceToNat]; omega)) (And.intro rfl (And.intro ⟨rfl, by exact Nat.le_of_ble_eq_true rfl, by first | exact True.intro | exact Or.inl rfl | exact Or.inr rfl⟩ (?_)))
    refine rVR hG rfl rfl rfl ?_
    first
      | (obtain rfl : c = 98 := c1; rfl)
      | (obtain rfl : c = 100 := c1; rw [show bodT 100 mx sd = tAddDay sd (tkR 0 10 mx) from rfl]; unfold tAddDay; rw [if_pos (by omega)]; rfl)
      | (obtain rfl : c = 104 := c1; rw [show bodT 104 mx sd = tAddTra sd (tkR 1 9 mx) (tkR 0 1 (tkX 1 9 mx)) from rfl]; unfold tAddTra; rw [if_pos (by omega)]; rfl)
      | (obtain rfl : c = 108 := c1; rfl)
      | (obtain rfl : c = 114 := c1; rfl)
      | (unfold bodX bodT; rw [if_neg q98, if_neg q100, if_neg q104, if_neg q108, if_neg q114, if_neg q98, if_neg q100, if_neg q104, if_neg q108, if_neg q114]; rfl)
  · skip
    refine rRun hG 166 ?_
    refine And.intro rfl (And.intro rfl (?_))
    refine rV hG (sp_X7_takesNumber (mt := mt) (sd := sd) (ms := ms) (mg := mg) (mk := mk) (hn := hn) (mh := mh) (tr := tr) (mx := mx) (w9 := w9) (t9 := t9) (c9 := c9) (g9 := g9) (lo := 1) (hi := 9) hX (by decide) (by decide)) rfl rfl lk_X7_106 mf_X7_takesNumber (by decide) (Nat.le_of_ble_eq_true rfl) ⟨_, _, _, rfl, rfl, rfl⟩ ?_
    rintro _ _ ⟨rfl, rfl⟩
    refine rRun hG 166 ?_
    refine And.intro (by first | omega | (simp only [xB_s, xN_s, xP_s, xS_s, xK_s, xV_s, xF_s, xR_s, xL_s, xA_s, Int.reduceToNat]; omega)) (And.intro rfl (And.intro rfl (?_)))
    refine rV hG (sp_X7_takesNumber (mt := mt) (sd := (tPutT sd (mup (tTra sd) (2 * tNT sd).toNat (tkR 1 9 mx)))) (ms := ms) (mg := mg) (mk := mk) (hn := hn) (mh := mh) (tr := tr) (mx := (tkX 1 9 mx)) (w9 := w9) (t9 := t9) (c9 := c9) (g9 := g9) (lo := 0) (hi := 1) (XOM_tk hX) (by decide) (by decide)) rfl rfl lk_X7_106 mf_X7_takesNumber (by decide) (Nat.le_of_ble_eq_true rfl) ⟨_, _, _, rfl, rfl, rfl⟩ ?_
    rintro _ _ ⟨rfl, rfl⟩
    refine rRun hG 166 ?_
    refine And.intro (by first | omega | (simp only [xB_s, xN_s, xP_s, xS_s, xK_s, xV_s, xF_s, xR_s, xL_s, xA_s, Int.reduceToNat]; omega)) (And.intro rfl (And.intro ⟨rfl, by exact Nat.le_of_ble_eq_true rfl, by first | exact True.intro | exact Or.inl rfl | exact Or.inr rfl⟩ (?_)))
    refine rVR hG rfl rfl rfl ?_
    first
      | (obtain rfl : c = 98 := c1; rfl)
      | (obtain rfl : c = 100 := c1; rw [show bodT 100 mx sd = tAddDay sd (tkR 0 10 mx) from rfl]; unfold tAddDay; rw [if_pos (by omega)]; rfl)
      | (obtain rfl : c = 104 := c1; rw [show bodT 104 mx sd = tAddTra sd (tkR 1 9 mx) (tkR 0 1 (tkX 1 9 mx)) from rfl]; unfold tAddTra; rw [if_pos (by omega)]; rfl)
      | (obtain rfl : c = 108 := c1; rfl)
      | (obtain rfl : c = 114 := c1; rfl)
      | (unfold bodX bodT; rw [if_neg q98, if_neg q100, if_neg q104, if_neg q108, if_neg q114, if_neg q98, if_neg q100, if_neg q104, if_neg q108, if_neg q114]; rfl)
  · skip
    refine rRun hG 166 ?_
    refine rV hG (sp_X7_takesNumber (mt := mt) (sd := sd) (ms := ms) (mg := mg) (mk := mk) (hn := hn) (mh := mh) (tr := tr) (mx := mx) (w9 := w9) (t9 := t9) (c9 := c9) (g9 := g9) (lo := 0) (hi := 6) hX (by decide) (by decide)) rfl rfl lk_X7_106 mf_X7_takesNumber (by decide) (Nat.le_of_ble_eq_true rfl) ⟨_, _, _, rfl, rfl, rfl⟩ ?_
    rintro _ _ ⟨rfl, rfl⟩
    refine rRun hG 166 ?_
    refine And.intro ⟨rfl, by exact Nat.le_of_ble_eq_true rfl, by first | exact True.intro | exact Or.inl rfl | exact Or.inr rfl⟩ (?_)
    refine rVR hG rfl rfl rfl ?_
    first
      | (obtain rfl : c = 98 := c1; rfl)
      | (obtain rfl : c = 100 := c1; rw [show bodT 100 mx sd = tAddDay sd (tkR 0 10 mx) from rfl]; unfold tAddDay; rw [if_pos (by omega)]; rfl)
      | (obtain rfl : c = 104 := c1; rw [show bodT 104 mx sd = tAddTra sd (tkR 1 9 mx) (tkR 0 1 (tkX 1 9 mx)) from rfl]; unfold tAddTra; rw [if_pos (by omega)]; rfl)
      | (obtain rfl : c = 108 := c1; rfl)
      | (obtain rfl : c = 114 := c1; rfl)
      | (unfold bodX bodT; rw [if_neg q98, if_neg q100, if_neg q104, if_neg q108, if_neg q114, if_neg q98, if_neg q100, if_neg q104, if_neg q108, if_neg q114]; rfl)
  · skip
    refine rRun hG 166 ?_
    refine rV hG (sp_X7_takesNumber (mt := mt) (sd := sd) (ms := ms) (mg := mg) (mk := mk) (hn := hn) (mh := mh) (tr := tr) (mx := mx) (w9 := w9) (t9 := t9) (c9 := c9) (g9 := g9) (lo := 1) (hi := 60) hX (by decide) (by decide)) rfl rfl lk_X7_106 mf_X7_takesNumber (by decide) (Nat.le_of_ble_eq_true rfl) ⟨_, _, _, rfl, rfl, rfl⟩ ?_
    rintro _ _ ⟨rfl, rfl⟩
    refine rRun hG 166 ?_
    refine And.intro ⟨rfl, by exact Nat.le_of_ble_eq_true rfl, by first | exact True.intro | exact Or.inl rfl | exact Or.inr rfl⟩ (?_)
    refine rVR hG rfl rfl rfl ?_
    first
      | (obtain rfl : c = 98 := c1; rfl)
      | (obtain rfl : c = 100 := c1; rw [show bodT 100 mx sd = tAddDay sd (tkR 0 10 mx) from rfl]; unfold tAddDay; rw [if_pos (by omega)]; rfl)
      | (obtain rfl : c = 104 := c1; rw [show bodT 104 mx sd = tAddTra sd (tkR 1 9 mx) (tkR 0 1 (tkX 1 9 mx)) from rfl]; unfold tAddTra; rw [if_pos (by omega)]; rfl)
      | (obtain rfl : c = 108 := c1; rfl)
      | (obtain rfl : c = 114 := c1; rfl)
      | (unfold bodX bodT; rw [if_neg q98, if_neg q100, if_neg q104, if_neg q108, if_neg q114, if_neg q98, if_neg q100, if_neg q104, if_neg q108, if_neg q114]; rfl)
def TCW (t : TD) : Prop := (0 ≤ tDay t ∧ tDay t ≤ 14) ∧ (0 ≤ tNB t ∧ tNB t ≤ 6) ∧ (0 ≤ tNT t ∧ tNT t ≤ 4) ∧ (-1 ≤ tRst t ∧ tRst t ≤ 60) ∧ (-1 ≤ tLim t ∧ tLim t ≤ 6) ∧ (-1 ≤ tAdd t ∧ tAdd t ≤ 9)
theorem tkR_in {lo hi : Int} {x : XD} (h : 0 ≤ lo ∧ 0 ≤ hi) : 0 ≤ tkR lo hi x ∧ tkR lo hi x ≤ hi := by
  unfold tkR; split <;> omega
theorem mbF_c {s : TD} {c : Int} (h : mbF s c = 1) : (c = 97 ∧ tAdd s < 0) ∨ (c = 98 ∧ tNB s < 6) ∨ (c = 100 ∧ tDay s < 14) ∨ (c = 104 ∧ tNT s < 4) ∨ (c = 108 ∧ tLim s < 0) ∨ (c = 114 ∧ tRst s < 0) := by
  unfold mbF at h
  repeat' split at h
  all_goals first | omega | (simp at h; done)
theorem mbF_01 {s : TD} {c : Int} : mbF s c = 0 ∨ mbF s c = 1 := by
  unfold mbF
  repeat' split
  all_goals simp
def itmF (y : XD) : XD := if xF y = 0 ∧ xK y = 3 then nxM (xFs y 0) else xFs y 1
def itmW (x : XD) (s : TD) : XD := if xK x = 1 ∧ mbF s (xV x) = 1 then itmF (bodX (xV x) (nxM x)) else xFs x 1
def itmS (x : XD) (s : TD) : TD := if xK x = 1 ∧ mbF s (xV x) = 1 then bodT (xV x) (nxM x) s else s
theorem XOM_fs {x : XD} (h : XOM x) {f : Int} (hf : 0 ≤ f ∧ f ≤ 1) : XOM (xFs x f) := XOM_set h h.2.1 h.2.2.1 h.2.2.2.1 h.2.2.2.2.1 hf
theorem XOM_itm {x : XD} (h : XOM x) {s : TD} : XOM (itmW x s) := by
  unfold itmW itmF
  repeat' split
  · exact XOM_nx (XOM_fs (XOM_bod (XOM_nx h)) (by decide))
  · exact XOM_fs (XOM_bod (XOM_nx h)) (by decide)
  · exact XOM_fs h (by decide)
theorem TCW_itm {x : XD} {s : TD} (h : TCW s) : TCW (itmS x s) := by
  unfold itmS
  split
  · rename_i q
    obtain ⟨h1, h2, h3, h4, h5, h6⟩ := h
    have r1 := tkR_in (lo := 1) (hi := 60) (x := nxM x) (by decide)
    have r2 := tkR_in (lo := 0) (hi := 6) (x := nxM x) (by decide)
    have r3 := tkR_in (lo := 0) (hi := 9) (x := nxM x) (by decide)
    rcases mbF_c q.2 with ⟨e, g⟩ | ⟨e, g⟩ | ⟨e, g⟩ | ⟨e, g⟩ | ⟨e, g⟩ | ⟨e, g⟩ <;> rw [e]
    · exact ⟨h1, h2, h3, h4, h5, by show -1 ≤ tkR 0 9 (nxM x) ∧ tkR 0 9 (nxM x) ≤ 9; omega⟩
    · rw [show ∀ y, bodT 98 y s = tAddBri s (tkR 0 13 y) (tkR 0 1 (tkX 0 13 y)) (tkR 0 5 (tkX 0 1 (tkX 0 13 y)) - 2) (tkR 1 20 (tkX 0 5 (tkX 0 1 (tkX 0 13 y)))) from fun _ => rfl]
      unfold tAddBri
      rw [if_pos (by omega)]
      exact ⟨h1, (by show 0 ≤ tNB s + 1 ∧ tNB s + 1 ≤ 6; omega), h3, h4, h5, h6⟩
    · rw [show ∀ y, bodT 100 y s = tAddDay s (tkR 0 10 y) from fun _ => rfl]
      unfold tAddDay
      rw [if_pos (by omega)]
      exact ⟨(by show 0 ≤ tDay s + 1 ∧ tDay s + 1 ≤ 14; omega), h2, h3, h4, h5, h6⟩
    · rw [show ∀ y, bodT 104 y s = tAddTra s (tkR 1 9 y) (tkR 0 1 (tkX 1 9 y)) from fun _ => rfl]
      unfold tAddTra
      rw [if_pos (by omega)]
      exact ⟨h1, h2, (by show 0 ≤ tNT s + 1 ∧ tNT s + 1 ≤ 4; omega), h4, h5, h6⟩
    · exact ⟨h1, h2, h3, h4, (by show -1 ≤ tkR 0 6 (nxM x) ∧ tkR 0 6 (nxM x) ≤ 6; omega), h6⟩
    · exact ⟨h1, h2, h3, (by show -1 ≤ tkR 1 60 (nxM x) ∧ tkR 1 60 (nxM x) ≤ 60; omega), h5, h6⟩
  · exact h
set_option maxRecDepth 20000 in
set_option maxHeartbeats 2000000 in
theorem sp_X7_readItem {mt sd : TD} {ms mg mk : FN} {hn : Int} {mh : FN} {tr : Int} {mx : XD} {w9 t9 c9 g9 : FN}  (hX : XOM mx) (hT : TCW sd) : SpV l 7 yX7_readItem cX7_readItem 2 none [mr 0] (hM mt sd ms mg mk hn mh tr mx w9 t9 c9 g9) (fun h => h = hM mt (itmS mx sd) ms mg mk hn mh tr (itmW mx sd) w9 t9 c9 g9) := by
  obtain ⟨hnn, hp, hs0, hk0, hv0, hf0, hx⟩ := id hX
  obtain ⟨t1, t2, t3, t4, t5, t6⟩ := id hT
  refine SpV.of (cd := kdX7_readItem) (fT := mlook flX7) (kT := mlook klX7) (kJ := mlook jlX7) mfA_X7_readItem ok_X7_readItem fT_X7 kT_X7 jT_X7 jdk_ok True.intro (Nat.le_of_ble_eq_true rfl) (fun G hG => ?_)
  refine rRun hG 57 ?_
  refine And.intro rfl (And.intro rfl (And.intro (by first | omega | (simp only [xB_s, xN_s, xP_s, xS_s, xK_s, xV_s, xF_s, xR_s, xL_s, xA_s, Int.reduceToNat]; omega)) (And.intro (fun ck => ?_) (fun ck => ?_))))
  · try simp only [xB_s, xN_s, xP_s, xS_s, xK_s, xV_s, xF_s, xR_s, xL_s, xA_s, Int.reduceToNat] at ck
    refine rRun hG 57 ?_
    refine And.intro ⟨rfl, by exact Nat.le_of_ble_eq_true rfl, by first | exact True.intro | exact Or.inl rfl | exact Or.inr rfl⟩ (?_)
    refine rVR hG rfl rfl rfl ?_
    unfold itmW itmS
    rw [if_neg (by omega), if_neg (by omega)]
    rfl
  · try simp only [xB_s, xN_s, xP_s, xS_s, xK_s, xV_s, xF_s, xR_s, xL_s, xA_s, Int.reduceToNat] at ck
    refine rV hG (sp_X7_mayBegin (mt := mt) (sd := sd) (ms := ms) (mg := mg) (mk := mk) (hn := hn) (mh := mh) (tr := tr) (mx := mx) (w9 := w9) (t9 := t9) (c9 := c9) (g9 := g9) (c := xV mx) (by omega) (by omega) (by omega) (by omega) (by omega) (by omega) (by omega)) rfl rfl lk_X7_128 mf_X7_mayBegin (by decide) (Nat.le_of_ble_eq_true rfl) ⟨_, _, _, rfl, rfl, rfl⟩ ?_
    rintro w1 _ ⟨hw1, rfl⟩
    have h01 := mbF_01 (s := sd) (c := xV mx)
    refine rRun hG 57 ?_
    refine And.intro (by first | omega | (simp only [xB_s, xN_s, xP_s, xS_s, xK_s, xV_s, xF_s, xR_s, xL_s, xA_s, Int.reduceToNat]; omega)) (And.intro (fun c2 => ?_) (fun c2 => ?_))
    · try simp only [xB_s, xN_s, xP_s, xS_s, xK_s, xV_s, xF_s, xR_s, xL_s, xA_s, Int.reduceToNat] at c2
      refine rRun hG 57 ?_
      refine rVV hG (sp_X7_next (mt := mt) (sd := sd) (ms := ms) (mg := mg) (mk := mk) (hn := hn) (mh := mh) (tr := tr) (mx := mx) (w9 := w9) (t9 := t9) (c9 := c9) (g9 := g9) hX) rfl rfl lk_X7_100 mf_X7_next (by decide) (Nat.le_of_ble_eq_true rfl) ⟨_, _, _, rfl, rfl, rfl⟩ ?_
      rintro _ rfl
      have hq9 : xK mx = 1 ∧ mbF sd (xV mx) = 1 := by omega
      have hbc := mbF_c hq9.2
      refine rRun hG 57 ?_
      refine rVV hG (sp_X7_readBody (mt := mt) (sd := sd) (ms := ms) (mg := mg) (mk := mk) (hn := hn) (mh := mh) (tr := tr) (mx := (nxM mx)) (w9 := w9) (t9 := t9) (c9 := c9) (g9 := g9) (c := xV mx) (XOM_nx hX) (by omega) (by omega) (by omega) (by omega)) rfl rfl lk_X7_131 mf_X7_readBody (by decide) (Nat.le_of_ble_eq_true rfl) ⟨_, _, _, rfl, rfl, rfl⟩ ?_
      rintro _ rfl
      have hXb := XOM_bod (XOM_nx hX) (c := xV mx)
      have hW9 : itmW mx sd = itmF (bodX (xV mx) (nxM mx)) := if_pos hq9
      have hS9 : itmS mx sd = (bodT (xV mx) (nxM mx) sd) := if_pos hq9
      generalize (bodX (xV mx) (nxM mx)) = y at *
      generalize (bodT (xV mx) (nxM mx) sd) = s9 at *
      obtain ⟨y1, y2, y3, y4, y5, y6, y7⟩ := id hXb
      have J57a : (xF y = 0 ∧ xK y = 3) → G 57 [some (mr 0), none] [mi 0, mr 0] (hM mt s9 ms mg mk hn mh tr y w9 t9 c9 g9) := by
        intro hq
        refine rRun hG 99999 ?_
        refine And.intro ⟨rfl, by exact Nat.le_of_ble_eq_true rfl, by first | exact Or.inl rfl | exact Or.inr rfl⟩ (And.intro rfl (And.intro (by first | omega | (simp only [xB_s, xN_s, xP_s, xS_s, xK_s, xV_s, xF_s, xR_s, xL_s, xA_s, Int.reduceToNat]; omega)) (And.intro (fun c1 => ?_) (fun c1 => ?_))))
        · skip
          exfalso; omega
        · skip
          refine rVV hG (sp_X7_next (mt := mt) (sd := s9) (ms := ms) (mg := mg) (mk := mk) (hn := hn) (mh := mh) (tr := tr) (mx := (xFs y 0)) (w9 := w9) (t9 := t9) (c9 := c9) (g9 := g9) (XOM_fs hXb (by decide))) rfl rfl lk_X7_100 mf_X7_next (by decide) (Nat.le_of_ble_eq_true rfl) ⟨_, _, _, rfl, rfl, rfl⟩ ?_
          rintro _ rfl
          refine rVR hG rfl rfl rfl ?_
          rw [hW9, hS9]
          unfold itmF
          rw [if_pos hq]
      have J57b : ¬ (xF y = 0 ∧ xK y = 3) → G 57 [some (mr 0), none] [mi 1, mr 0] (hM mt s9 ms mg mk hn mh tr y w9 t9 c9 g9) := by
        intro hq
        refine rRun hG 99999 ?_
        refine And.intro ⟨rfl, by exact Nat.le_of_ble_eq_true rfl, by first | exact Or.inl rfl | exact Or.inr rfl⟩ (And.intro rfl (And.intro (by first | omega | (simp only [xB_s, xN_s, xP_s, xS_s, xK_s, xV_s, xF_s, xR_s, xL_s, xA_s, Int.reduceToNat]; omega)) (And.intro (fun c1 => ?_) (fun c1 => ?_))))
        · skip
          refine rVR hG rfl rfl rfl ?_
          rw [hW9, hS9]
          unfold itmF
          rw [if_neg hq]
          rfl
        · skip
          exfalso; omega
      refine rRun hG 57 ?_
      refine And.intro rfl (And.intro (by first | omega | (simp only [xB_s, xN_s, xP_s, xS_s, xK_s, xV_s, xF_s, xR_s, xL_s, xA_s, Int.reduceToNat]; omega)) (And.intro (fun cu => ?_) (fun cu => ?_)))
      · try simp only [xB_s, xN_s, xP_s, xS_s, xK_s, xV_s, xF_s, xR_s, xL_s, xA_s, Int.reduceToNat] at cu
        refine rRun hG 57 ?_
        first
          | (refine rLess hG ?_ (J57a (by omega)); exact ⟨rfl, True.intro⟩)
          | (refine rLess hG ?_ (J57b (by omega)); exact ⟨rfl, True.intro⟩)
      · try simp only [xB_s, xN_s, xP_s, xS_s, xK_s, xV_s, xF_s, xR_s, xL_s, xA_s, Int.reduceToNat] at cu
        refine And.intro rfl (And.intro (by first | omega | (simp only [xB_s, xN_s, xP_s, xS_s, xK_s, xV_s, xF_s, xR_s, xL_s, xA_s, Int.reduceToNat]; omega)) (And.intro (fun cv => ?_) (fun cv => ?_)))
        · try simp only [xB_s, xN_s, xP_s, xS_s, xK_s, xV_s, xF_s, xR_s, xL_s, xA_s, Int.reduceToNat] at cv
          refine rRun hG 57 ?_
          first
            | (refine rLess hG ?_ (J57a (by omega)); exact ⟨rfl, True.intro⟩)
            | (refine rLess hG ?_ (J57b (by omega)); exact ⟨rfl, True.intro⟩)
        · try simp only [xB_s, xN_s, xP_s, xS_s, xK_s, xV_s, xF_s, xR_s, xL_s, xA_s, Int.reduceToNat] at cv
          first
            | (refine rLess hG ?_ (J57a (by omega)); exact ⟨rfl, True.intro⟩)
            | (refine rLess hG ?_ (J57b (by omega)); exact ⟨rfl, True.intro⟩)
    · try simp only [xB_s, xN_s, xP_s, xS_s, xK_s, xV_s, xF_s, xR_s, xL_s, xA_s, Int.reduceToNat] at c2
      refine And.intro ⟨rfl, by exact Nat.le_of_ble_eq_true rfl, by first | exact True.intro | exact Or.inl rfl | exact Or.inr rfl⟩ (?_)
      refine rVR hG rfl rfl rfl ?_
      unfold itmW itmS
      rw [if_neg (by omega), if_neg (by omega)]
      rfl
end WALKS
