/-! Plan.make -/
section WALKS
variable {l : Launch}
def rBh (mo : FN) (kd e : Int) : Int := mo 1 - 4 * kd - (e - mo 2)
/-- gain by the worths V of the errors behind -/
def pgV (tk : Int) (t : TD) (V : Int → Int) (day p e : Int) : Int :=
  if (if tk = 0 then 9 else tLim t) < max e (-e) ∨ 9 < max e (-e) ∨ V e ≤ -1000000 then -1000000
  else (if tk = 0 then -hrmS (tTra t) e (tNT t).toNat else cndl (tBri t) day p (tNB t).toNat) + V e
def puf (tk : Int) : Int := if tk = 0 then -1000000 else 0
/-- the worths behind day n less j of n days -/
def PV (tk : Int) (t : TD) (mo : FN) (n : Int) : Nat → Int → Int
  | 0, e => if rBh mo n e ≤ 0 then 0 else puf tk
  | j + 1, e => if rBh mo (n - ((j : Int) + 1)) e ≤ 0 then 0 else (foldB (fun p => pgV tk t (PV tk t mo n j) (mo 0 + (n - ((j : Int) + 1))) p (e + p)) (-1000000) 6).1
def rowIs (f : FN) (V : Int → Int) : Prop := ∀ i : Nat, i < 19 → f i = V ((i : Int) - 9)
theorem rowIs_plat {f : FN} {V : Int → Int} (h : rowIs f V) {e : Int} (he : -9 ≤ e ∧ e ≤ 9) : plat f e = V e := by
  unfold plat
  rw [if_pos (by omega), h _ (by omega)]
  congr 1; omega
theorem plat_out {f : FN} {e : Int} (he : ¬ (-9 ≤ e ∧ e ≤ 9)) : plat f e = -1000000 := if_neg (by omega)
theorem pgain_V {tk : Int} {t : TD} {f : FN} {V : Int → Int} (h : rowIs f V) {day p e : Int} : pgain tk t f day p e = pgV tk t V day p e := by
  unfold pgain pgV
  by_cases he : -9 ≤ e ∧ e ≤ 9
  · rw [rowIs_plat h he]
    have : ((if tk = 0 then 9 else tLim t) < max e (-e) ∨ V e ≤ -1000000) ↔ ((if tk = 0 then 9 else tLim t) < max e (-e) ∨ 9 < max e (-e) ∨ V e ≤ -1000000) := by omega
    simp only [this]
  · rw [if_pos (Or.inr (by rw [plat_out he]; omega)), if_pos (Or.inr (Or.inl (by omega)))]
theorem foldB_cong {g g' : Int → Int} {b : Int} (h : ∀ p, g p = g' p) : foldB g b = foldB g' b := by
  have : g = g' := funext h
  rw [this]
theorem PV_in {tk : Int} {t : TD} {mo : FN} {n : Int} (hT : TOK t) : ∀ (j : Nat) (e : Int), -1000000 ≤ PV tk t mo n j e ∧ PV tk t mo n j e ≤ 120 * (j : Int)
  | 0, e => by
    show -1000000 ≤ (if _ then _ else _) ∧ (if _ then _ else _) ≤ _
    unfold puf
    split
    · omega
    · split <;> omega
  | j + 1, e => by
    have ih := PV_in (tk := tk) (mo := mo) (n := n) hT j
    have hg : ∀ p, pgV tk t (PV tk t mo n j) (mo 0 + (n - ((j : Int) + 1))) p (e + p) ≤ 120 * ((j : Int) + 1) := fun p => by
      have h1 := ih (e + p)
      have hT2 := hT.2.1
      have hT3 := hT.2.2.1
      have hc := cndl_in hT (day := mo 0 + (n - ((j : Int) + 1))) (p := p) (tNB t).toNat (by omega)
      unfold pgV
      by_cases q : (if tk = 0 then 9 else tLim t) < max (e + p) (-(e + p)) ∨ 9 < max (e + p) (-(e + p)) ∨ PV tk t mo n j (e + p) ≤ -1000000
      · rw [if_pos q]; omega
      · rw [if_neg q]
        have q2 : ¬ 9 < max (e + p) (-(e + p)) := fun z => q (Or.inr (Or.inl z))
        have hs := hrmS_in hT (e := e + p) (by omega) (tNT t).toNat (by omega)
        split <;> omega
    have hf := foldB_in (b0 := -1000000) (by omega) hg 6
    show -1000000 ≤ (if _ then _ else _) ∧ (if _ then _ else _) ≤ _
    split <;> omega
theorem PV_plat {tk : Int} {t : TD} {mo : FN} {n : Int} (hT : TOK t) {f : FN} {j : Nat} (hj : j ≤ 14) (h : rowIs f (PV tk t mo n j)) : ∀ e, -1000000 ≤ plat f e ∧ plat f e ≤ 100000 := fun e => by
  by_cases he : -9 ≤ e ∧ e ≤ 9
  · rw [rowIs_plat h he]
    have := PV_in (tk := tk) (mo := mo) (n := n) hT j e
    omega
  · rw [plat_out he]; omega
set_option maxRecDepth 20000 in
set_option maxHeartbeats 8000000 in
theorem sp_X2_make {uo : UD} {ux : XD} {ua ub : TD} {mo : FN} {kn kp : Int} {v1 v2 : SD} {kP : Bool} {hr lt : FN} {tk ms pa : Int} {uq : PD} {ur : HD} {k : Bool} {t : TD} (ht : t = tsel k ua ub) {dn : Int} (hT : TOK t) (h4 : tk = 0 ∨ tk = 1) (h1 : dn ≤ 14) (h0 : inI dn) (hm0 : 0 ≤ mo 0 ∧ mo 0 ≤ 14) (hm1 : 0 ≤ mo 1 ∧ mo 1 ≤ 99) (hm2 : -9 ≤ mo 2 ∧ mo 2 ≤ 9) : SpV l 6 yX2_make cX2_make 8 none [mr 17, mr (tix k), mr 11, mi dn] (hC uo ux ua ub (mo, kn, kp) v1 v2 (kP, hr, lt, tk, ms, pa) uq ur) (fun h => ((mo 1 = 0 ∨ dn ≤ 0) ∧ h = hC uo ux ua ub (mo, kn, kp) v1 v2 (kP, hr, lt, tk, (if mo 1 = 0 then 0 else puf tk), -9) uq ur) ∨ ((¬ mo 1 = 0 ∧ 0 < dn) ∧ ∃ (k9 : Bool) (h9 l9 : FN), h = hC uo ux ua ub (mo, kn, kp) v1 v2 (k9, h9, l9, tk, (foldB (fun p => pgV tk t (PV tk t mo dn (dn.toNat - 1)) (mo 0) p (mo 2 + p)) (-1000000) 6).1, (foldB (fun p => pgV tk t (PV tk t mo dn (dn.toNat - 1)) (mo 0) p (mo 2 + p)) (-1000000) 6).2) uq ur)) := by
  refine SpV.of (cd := kdX2_make) (fT := mlook flX2) (kT := mlook klX2) (kJ := mlook jlX2) mfA_X2_make ok_X2_make fT_X2 kT_X2 jT_X2 jdk_ok True.intro (Nat.le_of_ble_eq_true rfl) (fun G hG => ?_)
  have J173 : ∀ (k9 : Bool) (h9 l9 : FN) (pa9 : Int), ¬ mo 1 = 0 → 0 < dn → rowIs h9 (PV tk t mo dn (dn.toNat - 1)) → G 173 [some (mr 17), some (mr (tix k)), some (mr 11), some (mi dn), some (mi (puf tk)), none, none, none] [] (hC uo ux ua ub (mo, kn, kp) v1 v2 (k9, h9, l9, tk, (if mo 1 = 0 then 0 else puf tk), pa9) uq ur) := by
    intro k9 h9 l9 pa9 hmz hdz hrow
    have hpl := PV_plat hT (by omega) hrow
    refine rRun hG 99999 ?_
    refine rVV hG (sp_X2_swapRows (uo := uo) (ux := ux) (ua := ua) (ub := ub) (mo := mo) (kn := kn) (kp := kp) (v1 := v1) (v2 := v2) (uq := uq) (ur := ur) (kP := k9) (hr := h9) (lt := l9) (tk := tk) (ms := (if mo 1 = 0 then 0 else puf tk)) (pa := pa9)) rfl rfl lk_X2_58 mf_X2_swapRows (by decide) (Nat.le_of_ble_eq_true rfl) ⟨_, _, _, rfl, rfl, rfl⟩ ?_
    rintro _ rfl
    refine rRun hG 99999 ?_
    refine rV hG (sp_X3_day (uo := uo) (ux := ux) (ua := ua) (ub := ub) (mo := mo) (kn := kn) (kp := kp) (v1 := v1) (v2 := v2) (up := ((!k9), l9, h9, tk, (if mo 1 = 0 then 0 else puf tk), pa9)) (uq := uq) (ur := ur)) rfl rfl lk_X2_61 mf_X3_day (by decide) (Nat.le_of_ble_eq_true rfl) ⟨_, _, _, rfl, rfl, rfl⟩ ?_
    rintro _ _ ⟨rfl, rfl⟩
    refine rRun hG 99999 ?_
    refine rV hG (sp_X3_error (uo := uo) (ux := ux) (ua := ua) (ub := ub) (mo := mo) (kn := kn) (kp := kp) (v1 := v1) (v2 := v2) (up := ((!k9), l9, h9, tk, (if mo 1 = 0 then 0 else puf tk), pa9)) (uq := uq) (ur := ur)) rfl rfl lk_X2_69 mf_X3_error (by decide) (Nat.le_of_ble_eq_true rfl) ⟨_, _, _, rfl, rfl, rfl⟩ ?_
    rintro _ _ ⟨rfl, rfl⟩
    refine rV hG (sp_X2_best (uo := uo) (ux := ux) (ua := ua) (ub := ub) (mo := mo) (kn := kn) (kp := kp) (v1 := v1) (v2 := v2) (uq := uq) (ur := ur) (kP := (!k9)) (hr := l9) (lt := h9) (tk := tk) (ms := (if mo 1 = 0 then 0 else puf tk)) (pa := pa9) (k := k) (t := t) ht (day := mo 0) (e := mo 2) hT (by omega) (by omega) h4 hpl) rfl rfl lk_X2_65 mf_X2_best (by decide) (Nat.le_of_ble_eq_true rfl) ⟨_, _, _, rfl, rfl, rfl⟩ ?_
    rintro _ _ ⟨rfl, rfl⟩
    refine rRun hG 99999 ?_
    refine And.intro ⟨rfl, by exact Nat.le_of_ble_eq_true rfl, by exact True.intro⟩ (?_)
    refine rVR hG rfl rfl rfl ?_
    refine Or.inr ⟨⟨by omega, by omega⟩, !k9, l9, h9, ?_⟩
    have e9 : foldB (fun q => pgain tk t h9 (mo 0) q (mo 2 + q)) (-1000000) = foldB (fun p => pgV tk t (PV tk t mo dn (dn.toNat - 1)) (mo 0) p (mo 2 + p)) (-1000000) := foldB_cong (fun p => pgain_V hrow)
    rw [← e9]
    rfl
  have J107 : ∀ (j : Nat) (k9 : Bool) (l9 : FN), rowIs l9 (PV tk t mo dn j) → j + 2 ≤ dn.toNat → (∀ (h8 : FN) (pa8 : Int), rowIs h8 (PV tk t mo dn (j + 1)) → G 167 [some (mr 17), some (mr (tix k)), some (mr 11), some (mi dn), some (mi (puf tk)), some (mi (dn - 1 - (j : Int))), none, none] [] (hC uo ux ua ub (mo, kn, kp) v1 v2 (k9, h8, l9, tk, (if mo 1 = 0 then 0 else puf tk), pa8) uq ur)) → ∀ (n i : Nat) (h8 : FN) (pa8 : Int), (∀ a : Nat, a < i → h8 a = PV tk t mo dn (j + 1) ((a : Int) - 9)) → i ≤ 19 → 19 - i < n → G 107 [some (mr 17), some (mr (tix k)), some (mr 11), some (mi dn), some (mi (puf tk)), some (mi (dn - 1 - (j : Int))), some (mi ((i : Int) - 9)), none] [] (hC uo ux ua ub (mo, kn, kp) v1 v2 (k9, h8, l9, tk, (if mo 1 = 0 then 0 else puf tk), pa8) uq ur) := by
    intro j k9 l9 hrow hj hcont n
    have hpl := PV_plat hT (by omega) hrow
    induction n with
    | zero => intro i h8 pa8 _ _ hm; exact absurd hm (Nat.not_lt_zero _)
    | succ n ih =>
      intro i h8 pa8 hrow8 hi hm
      refine rRun hG 167 ?_
      refine And.intro (by first | omega | (dsimp only; omega)) (And.intro (fun c1 => ?_) (fun c1 => ?_))
      · try dsimp only at c1
        obtain rfl : i = 19 := by omega
        refine rLess hG ?_ (hcont h8 pa8 (fun a ha => hrow8 a ha))
        exact ⟨rfl, rfl, rfl, rfl, rfl, rfl, True.intro⟩
      · try dsimp only at c1
        refine rS hG (sp_X2_restBehind (uo := uo) (ux := ux) (ua := ua) (ub := ub) (mo := mo) (kn := kn) (kp := kp) (v1 := v1) (v2 := v2) (uq := uq) (ur := ur) (kP := k9) (hr := h8) (lt := l9) (tk := tk) (ms := (if mo 1 = 0 then 0 else puf tk)) (pa := pa8) (kd := (dn - 1 - (j : Int))) (e := ((i : Int) - 9))) rfl rfl lk_X2_50 mf_X2_restBehind (by decide) (Nat.le_of_ble_eq_true rfl) ?_
        rintro w _ ⟨hw, rfl⟩
        have hw9 : w = rBh mo (dn - 1 - (j : Int)) ((i : Int) - 9) := hw
        clear hw
        have hwi : -10000 ≤ w ∧ w ≤ 10000 := by rw [hw9]; unfold rBh; omega
        refine rRun hG 167 ?_
        refine And.intro (by first | omega | (dsimp only; omega)) (And.intro (fun cr => ?_) (fun cr => ?_))
        · try dsimp only at cr
          refine rRun hG 167 ?_
          refine And.intro (by first | omega | (dsimp only; omega)) (And.intro (fun cf => ?_) (fun cf => ?_))
          · try dsimp only at cf
            refine rRun hG 167 ?_
            refine rV hG (sp_X3_day (uo := uo) (ux := ux) (ua := ua) (ub := ub) (mo := mo) (kn := kn) (kp := kp) (v1 := v1) (v2 := v2) (up := (k9, h8, l9, tk, (if mo 1 = 0 then 0 else puf tk), pa8)) (uq := uq) (ur := ur)) rfl rfl lk_X2_61 mf_X3_day (by decide) (Nat.le_of_ble_eq_true rfl) ⟨_, _, _, rfl, rfl, rfl⟩ ?_
            rintro _ _ ⟨rfl, rfl⟩
            refine rRun hG 167 ?_
            refine rV hG (sp_X2_best (uo := uo) (ux := ux) (ua := ua) (ub := ub) (mo := mo) (kn := kn) (kp := kp) (v1 := v1) (v2 := v2) (uq := uq) (ur := ur) (kP := k9) (hr := h8) (lt := l9) (tk := tk) (ms := (if mo 1 = 0 then 0 else puf tk)) (pa := pa8) (k := k) (t := t) ht (day := mo 0 + (dn - 1 - (j : Int))) (e := ((i : Int) - 9)) hT (by omega) (by omega) h4 hpl) rfl rfl lk_X2_65 mf_X2_best (by decide) (Nat.le_of_ble_eq_true rfl) ⟨_, _, _, rfl, rfl, rfl⟩ ?_
            rintro _ _ ⟨rfl, rfl⟩
            refine rVV hG (sp_X2_put (uo := uo) (ux := ux) (ua := ua) (ub := ub) (mo := mo) (kn := kn) (kp := kp) (v1 := v1) (v2 := v2) (uq := uq) (ur := ur) (kP := k9) (hr := h8) (lt := l9) (tk := tk) (ms := (if mo 1 = 0 then 0 else puf tk)) (pa := (foldB (fun q => pgain tk t l9 (mo 0 + (dn - 1 - (j : Int))) q (((i : Int) - 9) + q)) (-1000000) 6).2) (e := ((i : Int) - 9)) (w := (foldB (fun q => pgain tk t l9 (mo 0 + (dn - 1 - (j : Int))) q (((i : Int) - 9) + q)) (-1000000) 6).1) (by omega)) rfl rfl lk_X2_54 mf_X2_put (by decide) (Nat.le_of_ble_eq_true rfl) ⟨_, _, _, rfl, rfl, rfl⟩ ?_
            rintro _ rfl
            rw [if_pos (by omega), show (((i : Int) - 9) + 9).toNat = i by omega]
            refine rRun hG 167 ?_
            refine rLess hG ?_ (ih (i + 1) (mup h8 i (foldB (fun q => pgain tk t l9 (mo 0 + (dn - 1 - (j : Int))) q (((i : Int) - 9) + q)) (-1000000) 6).1) (foldB (fun q => pgain tk t l9 (mo 0 + (dn - 1 - (j : Int))) q (((i : Int) - 9) + q)) (-1000000) 6).2 ?_ (by omega) (by omega))
            · exact ⟨rfl, rfl, rfl, rfl, rfl, rfl, congrArg mi (by omega), True.intro⟩
            · intro a ha
              by_cases q : a = i
              · subst q
                rw [mup_s]; show _ = (if rBh mo (dn - ((j : Int) + 1)) ((a : Int) - 9) ≤ 0 then _ else _); rw [if_neg (by rw [show dn - ((j : Int) + 1) = dn - 1 - (j : Int) by omega, ← hw9]; omega), show dn - ((j : Int) + 1) = dn - 1 - (j : Int) by omega]; exact congrArg (fun f => (f 6).1) (foldB_cong (fun p => pgain_V hrow))
              · rw [mup_n q]; exact hrow8 a (by omega)
          · try dsimp only at cf
            refine rVV hG (sp_X2_put (uo := uo) (ux := ux) (ua := ua) (ub := ub) (mo := mo) (kn := kn) (kp := kp) (v1 := v1) (v2 := v2) (uq := uq) (ur := ur) (kP := k9) (hr := h8) (lt := l9) (tk := tk) (ms := (if mo 1 = 0 then 0 else puf tk)) (pa := pa8) (e := ((i : Int) - 9)) (w := 0) (by omega)) rfl rfl lk_X2_54 mf_X2_put (by decide) (Nat.le_of_ble_eq_true rfl) ⟨_, _, _, rfl, rfl, rfl⟩ ?_
            rintro _ rfl
            rw [if_pos (by omega), show (((i : Int) - 9) + 9).toNat = i by omega]
            refine rRun hG 167 ?_
            refine rLess hG ?_ (ih (i + 1) (mup h8 i 0) pa8 ?_ (by omega) (by omega))
            · exact ⟨rfl, rfl, rfl, rfl, rfl, rfl, congrArg mi (by omega), True.intro⟩
            · intro a ha
              by_cases q : a = i
              · subst q
                rw [mup_s]; show _ = (if rBh mo (dn - ((j : Int) + 1)) ((a : Int) - 9) ≤ 0 then _ else _); rw [if_pos (by rw [show dn - ((j : Int) + 1) = dn - 1 - (j : Int) by omega, ← hw9]; omega)]
              · rw [mup_n q]; exact hrow8 a (by omega)
        · try dsimp only at cr
          refine rRun hG 167 ?_
          refine And.intro (by first | omega | (dsimp only; omega)) (And.intro (fun cf => ?_) (fun cf => ?_))
          · try dsimp only at cf
            refine rRun hG 167 ?_
            refine rV hG (sp_X3_day (uo := uo) (ux := ux) (ua := ua) (ub := ub) (mo := mo) (kn := kn) (kp := kp) (v1 := v1) (v2 := v2) (up := (k9, h8, l9, tk, (if mo 1 = 0 then 0 else puf tk), pa8)) (uq := uq) (ur := ur)) rfl rfl lk_X2_61 mf_X3_day (by decide) (Nat.le_of_ble_eq_true rfl) ⟨_, _, _, rfl, rfl, rfl⟩ ?_
            rintro _ _ ⟨rfl, rfl⟩
            refine rRun hG 167 ?_
            refine rV hG (sp_X2_best (uo := uo) (ux := ux) (ua := ua) (ub := ub) (mo := mo) (kn := kn) (kp := kp) (v1 := v1) (v2 := v2) (uq := uq) (ur := ur) (kP := k9) (hr := h8) (lt := l9) (tk := tk) (ms := (if mo 1 = 0 then 0 else puf tk)) (pa := pa8) (k := k) (t := t) ht (day := mo 0 + (dn - 1 - (j : Int))) (e := ((i : Int) - 9)) hT (by omega) (by omega) h4 hpl) rfl rfl lk_X2_65 mf_X2_best (by decide) (Nat.le_of_ble_eq_true rfl) ⟨_, _, _, rfl, rfl, rfl⟩ ?_
            rintro _ _ ⟨rfl, rfl⟩
            refine rVV hG (sp_X2_put (uo := uo) (ux := ux) (ua := ua) (ub := ub) (mo := mo) (kn := kn) (kp := kp) (v1 := v1) (v2 := v2) (uq := uq) (ur := ur) (kP := k9) (hr := h8) (lt := l9) (tk := tk) (ms := (if mo 1 = 0 then 0 else puf tk)) (pa := (foldB (fun q => pgain tk t l9 (mo 0 + (dn - 1 - (j : Int))) q (((i : Int) - 9) + q)) (-1000000) 6).2) (e := ((i : Int) - 9)) (w := (foldB (fun q => pgain tk t l9 (mo 0 + (dn - 1 - (j : Int))) q (((i : Int) - 9) + q)) (-1000000) 6).1) (by omega)) rfl rfl lk_X2_54 mf_X2_put (by decide) (Nat.le_of_ble_eq_true rfl) ⟨_, _, _, rfl, rfl, rfl⟩ ?_
            rintro _ rfl
            rw [if_pos (by omega), show (((i : Int) - 9) + 9).toNat = i by omega]
            refine rRun hG 167 ?_
            refine rLess hG ?_ (ih (i + 1) (mup h8 i (foldB (fun q => pgain tk t l9 (mo 0 + (dn - 1 - (j : Int))) q (((i : Int) - 9) + q)) (-1000000) 6).1) (foldB (fun q => pgain tk t l9 (mo 0 + (dn - 1 - (j : Int))) q (((i : Int) - 9) + q)) (-1000000) 6).2 ?_ (by omega) (by omega))
            · exact ⟨rfl, rfl, rfl, rfl, rfl, rfl, congrArg mi (by omega), True.intro⟩
            · intro a ha
              by_cases q : a = i
              · subst q
                rw [mup_s]; show _ = (if rBh mo (dn - ((j : Int) + 1)) ((a : Int) - 9) ≤ 0 then _ else _); rw [if_neg (by rw [show dn - ((j : Int) + 1) = dn - 1 - (j : Int) by omega, ← hw9]; omega), show dn - ((j : Int) + 1) = dn - 1 - (j : Int) by omega]; exact congrArg (fun f => (f 6).1) (foldB_cong (fun p => pgain_V hrow))
              · rw [mup_n q]; exact hrow8 a (by omega)
          · try dsimp only at cf
            refine rVV hG (sp_X2_put (uo := uo) (ux := ux) (ua := ua) (ub := ub) (mo := mo) (kn := kn) (kp := kp) (v1 := v1) (v2 := v2) (uq := uq) (ur := ur) (kP := k9) (hr := h8) (lt := l9) (tk := tk) (ms := (if mo 1 = 0 then 0 else puf tk)) (pa := pa8) (e := ((i : Int) - 9)) (w := 0) (by omega)) rfl rfl lk_X2_54 mf_X2_put (by decide) (Nat.le_of_ble_eq_true rfl) ⟨_, _, _, rfl, rfl, rfl⟩ ?_
            rintro _ rfl
            rw [if_pos (by omega), show (((i : Int) - 9) + 9).toNat = i by omega]
            refine rRun hG 167 ?_
            refine rLess hG ?_ (ih (i + 1) (mup h8 i 0) pa8 ?_ (by omega) (by omega))
            · exact ⟨rfl, rfl, rfl, rfl, rfl, rfl, congrArg mi (by omega), True.intro⟩
            · intro a ha
              by_cases q : a = i
              · subst q
                rw [mup_s]; show _ = (if rBh mo (dn - ((j : Int) + 1)) ((a : Int) - 9) ≤ 0 then _ else _); rw [if_pos (by rw [show dn - ((j : Int) + 1) = dn - 1 - (j : Int) by omega, ← hw9]; omega)]
              · rw [mup_n q]; exact hrow8 a (by omega)
  have J94 : ¬ mo 1 = 0 → ∀ (n j : Nat) (k9 : Bool) (h9 l9 : FN) (pa9 : Int), rowIs h9 (PV tk t mo dn j) → j + 1 ≤ dn.toNat → dn.toNat - 1 - j < n → G 94 [some (mr 17), some (mr (tix k)), some (mr 11), some (mi dn), some (mi (puf tk)), some (mi (dn - 1 - (j : Int))), none, none] [] (hC uo ux ua ub (mo, kn, kp) v1 v2 (k9, h9, l9, tk, (if mo 1 = 0 then 0 else puf tk), pa9) uq ur) := by
    intro hmz n
    induction n with
    | zero => intro j k9 h9 l9 pa9 _ _ hm; exact absurd hm (Nat.not_lt_zero _)
    | succ n ih =>
      intro j k9 h9 l9 pa9 hrow hj hm
      have J167 : j + 2 ≤ dn.toNat → ∀ (h8 : FN) (pa8 : Int), rowIs h8 (PV tk t mo dn (j + 1)) → G 167 [some (mr 17), some (mr (tix k)), some (mr 11), some (mi dn), some (mi (puf tk)), some (mi (dn - 1 - (j : Int))), none, none] [] (hC uo ux ua ub (mo, kn, kp) v1 v2 ((!k9), h8, h9, tk, (if mo 1 = 0 then 0 else puf tk), pa8) uq ur) := by
        intro hj2 h8 pa8 hr8
        refine rRun hG 99999 ?_
        refine rLess hG ?_ (ih (j + 1) (!k9) h8 h9 pa8 hr8 (by omega) (by omega))
        exact ⟨rfl, rfl, rfl, rfl, rfl, congrArg mi (by omega), True.intro⟩
      refine rRun hG 107 ?_
      refine And.intro (by first | omega | (dsimp only; omega)) (And.intro (fun c94 => ?_) (fun c94 => ?_))
      · try dsimp only at c94
        obtain rfl : j = dn.toNat - 1 := by omega
        refine rLess hG ?_ (J173 k9 h9 l9 pa9 hmz (by omega) hrow)
        exact ⟨rfl, rfl, rfl, rfl, rfl, True.intro⟩
      · try dsimp only at c94
        refine rVV hG (sp_X2_swapRows (uo := uo) (ux := ux) (ua := ua) (ub := ub) (mo := mo) (kn := kn) (kp := kp) (v1 := v1) (v2 := v2) (uq := uq) (ur := ur) (kP := k9) (hr := h9) (lt := l9) (tk := tk) (ms := (if mo 1 = 0 then 0 else puf tk)) (pa := pa9)) rfl rfl lk_X2_58 mf_X2_swapRows (by decide) (Nat.le_of_ble_eq_true rfl) ⟨_, _, _, rfl, rfl, rfl⟩ ?_
        rintro _ rfl
        refine rRun hG 107 ?_
        exact rLess hG (L' := [some (mr 17), some (mr (tix k)), some (mr 11), some (mi dn), some (mi (puf tk)), some (mi (dn - 1 - (j : Int))), some (mi (((0 : Nat) : Int) - 9)), none]) ⟨rfl, rfl, rfl, rfl, rfl, rfl, rfl, True.intro⟩ (J107 j (!k9) h9 hrow (by omega) (J167 (by omega)) 20 0 l9 pa9 (fun a ha => absurd ha (Nat.not_lt_zero _)) (by omega) (by omega))
  have J54 : 0 < dn → ¬ mo 1 = 0 → ∀ (n i : Nat) (h8 : FN), (∀ a : Nat, a < i → h8 a = PV tk t mo dn 0 ((a : Int) - 9)) → i ≤ 19 → 19 - i < n → G 54 [some (mr 17), some (mr (tix k)), some (mr 11), some (mi dn), some (mi (puf tk)), some (mi ((i : Int) - 9)), none, none] [] (hC uo ux ua ub (mo, kn, kp) v1 v2 (kP, h8, lt, tk, (if mo 1 = 0 then 0 else puf tk), (-9)) uq ur) := by
    intro hdn hm1z n
    induction n with
    | zero => intro i h8 _ _ hm; exact absurd hm (Nat.not_lt_zero _)
    | succ n ih =>
      intro i h8 hrow8 hi hm
      refine rRun hG 94 ?_
      refine And.intro (by first | omega | (dsimp only; omega)) (And.intro (fun c1 => ?_) (fun c1 => ?_))
      · try dsimp only at c1
        refine rRun hG 94 ?_
        obtain rfl : i = 19 := by omega
        exact rLess hG (L' := [some (mr 17), some (mr (tix k)), some (mr 11), some (mi dn), some (mi (puf tk)), some (mi (dn - 1 - ((0 : Nat) : Int))), none, none]) ⟨rfl, rfl, rfl, rfl, rfl, congrArg mi (by omega), True.intro⟩ (J94 hm1z _ 0 kP h8 lt (-9) (fun a ha => hrow8 a ha) (by omega) (Nat.lt_succ_self _))
      · try dsimp only at c1
        refine rS hG (sp_X2_restBehind (uo := uo) (ux := ux) (ua := ua) (ub := ub) (mo := mo) (kn := kn) (kp := kp) (v1 := v1) (v2 := v2) (uq := uq) (ur := ur) (kP := kP) (hr := h8) (lt := lt) (tk := tk) (ms := (if mo 1 = 0 then 0 else puf tk)) (pa := (-9)) (kd := dn) (e := ((i : Int) - 9))) rfl rfl lk_X2_50 mf_X2_restBehind (by decide) (Nat.le_of_ble_eq_true rfl) ?_
        rintro w _ ⟨hw, rfl⟩
        have hw9 : w = rBh mo dn ((i : Int) - 9) := hw
        clear hw
        have hwi : -10000 ≤ w ∧ w ≤ 10000 := by rw [hw9]; unfold rBh; omega
        refine rRun hG 94 ?_
        refine And.intro (by first | omega | (dsimp only; omega)) (And.intro (fun cr => ?_) (fun cr => ?_))
        · try dsimp only at cr
          refine rRun hG 94 ?_
          refine rVV hG (sp_X2_put (uo := uo) (ux := ux) (ua := ua) (ub := ub) (mo := mo) (kn := kn) (kp := kp) (v1 := v1) (v2 := v2) (uq := uq) (ur := ur) (kP := kP) (hr := h8) (lt := lt) (tk := tk) (ms := (if mo 1 = 0 then 0 else puf tk)) (pa := (-9)) (e := ((i : Int) - 9)) (w := (puf tk)) (by omega)) rfl rfl lk_X2_54 mf_X2_put (by decide) (Nat.le_of_ble_eq_true rfl) ⟨_, _, _, rfl, rfl, rfl⟩ ?_
          rintro _ rfl
          rw [if_pos (by omega), show (((i : Int) - 9) + 9).toNat = i by omega]
          refine rRun hG 94 ?_
          refine rLess hG ?_ (ih (i + 1) (mup h8 i (puf tk)) ?_ (by omega) (by omega))
          · exact ⟨rfl, rfl, rfl, rfl, rfl, congrArg mi (by omega), True.intro⟩
          · intro a ha
            by_cases q : a = i
            · subst q
              rw [mup_s]; show _ = (if rBh mo dn ((a : Int) - 9) ≤ 0 then _ else _); first | rw [if_pos (by rw [← hw9]; omega)] | rw [if_neg (by rw [← hw9]; omega)]
            · rw [mup_n q]; exact hrow8 a (by omega)
        · try dsimp only at cr
          refine rVV hG (sp_X2_put (uo := uo) (ux := ux) (ua := ua) (ub := ub) (mo := mo) (kn := kn) (kp := kp) (v1 := v1) (v2 := v2) (uq := uq) (ur := ur) (kP := kP) (hr := h8) (lt := lt) (tk := tk) (ms := (if mo 1 = 0 then 0 else puf tk)) (pa := (-9)) (e := ((i : Int) - 9)) (w := 0) (by omega)) rfl rfl lk_X2_54 mf_X2_put (by decide) (Nat.le_of_ble_eq_true rfl) ⟨_, _, _, rfl, rfl, rfl⟩ ?_
          rintro _ rfl
          rw [if_pos (by omega), show (((i : Int) - 9) + 9).toNat = i by omega]
          refine rRun hG 94 ?_
          refine rLess hG ?_ (ih (i + 1) (mup h8 i 0) ?_ (by omega) (by omega))
          · exact ⟨rfl, rfl, rfl, rfl, rfl, congrArg mi (by omega), True.intro⟩
          · intro a ha
            by_cases q : a = i
            · subst q
              rw [mup_s]; show _ = (if rBh mo dn ((a : Int) - 9) ≤ 0 then _ else _); first | rw [if_pos (by rw [← hw9]; omega)] | rw [if_neg (by rw [← hw9]; omega)]
            · rw [mup_n q]; exact hrow8 a (by omega)
  have J15 : G 15 [some (mr 17), some (mr (tix k)), some (mr 11), some (mi dn), some (mi (puf tk)), none, none, none] [] (hC uo ux ua ub (mo, kn, kp) v1 v2 (kP, hr, lt, tk, ms, pa) uq ur) := by
    refine rRun hG 35 ?_
    refine And.intro ⟨rfl, by exact Nat.le_of_ble_eq_true rfl, by exact True.intro⟩ (?_)
    refine rV hG (sp_X3_isFree (uo := uo) (ux := ux) (ua := ua) (ub := ub) (mo := mo) (kn := kn) (kp := kp) (v1 := v1) (v2 := v2) (up := (kP, hr, lt, tk, ms, -9)) (uq := uq) (ur := ur) (by omega)) rfl rfl lk_X2_46 mf_X3_isFree (by decide) (Nat.le_of_ble_eq_true rfl) ⟨_, _, _, rfl, rfl, rfl⟩ ?_
    rintro w _ ⟨hw, rfl⟩
    have w1 : (w = 1 ∧ (mo 1 = 0)) ∨ (w = 0 ∧ ¬ (mo 1 = 0)) := (by rw [hw]; by_cases q9 : (mo 1 = 0) <;> simp [q9])
    clear hw
    refine rRun hG 35 ?_
    refine And.intro (by first | omega | (dsimp only; omega)) (And.intro (fun ca => ?_) (fun ca => ?_))
    · try dsimp only at ca
      refine rRun hG 35 ?_
      skip
      have eM : (if mo 1 = 0 then 0 else puf tk) = puf tk := if_neg (by omega)
      suffices h35 : G 35 [some (mr 17), some (mr (tix k)), some (mr 11), some (mi dn), some (mi (puf tk)), none, none, none] [mi (if mo 1 = 0 then 0 else puf tk), mr 17] (hC uo ux ua ub (mo, kn, kp) v1 v2 (kP, hr, lt, tk, ms, -9) uq ur) by
        rw [eM] at h35; exact h35
      refine rRun hG 54 ?_
      refine And.intro ⟨rfl, by exact Nat.le_of_ble_eq_true rfl, by exact True.intro⟩ (?_)
      refine rV hG (sp_X3_isFree (uo := uo) (ux := ux) (ua := ua) (ub := ub) (mo := mo) (kn := kn) (kp := kp) (v1 := v1) (v2 := v2) (up := (kP, hr, lt, tk, (if mo 1 = 0 then 0 else puf tk), (-9))) (uq := uq) (ur := ur) (by omega)) rfl rfl lk_X2_46 mf_X3_isFree (by decide) (Nat.le_of_ble_eq_true rfl) ⟨_, _, _, rfl, rfl, rfl⟩ ?_
      rintro w _ ⟨hw, rfl⟩
      have w1 : (w = 1 ∧ (mo 1 = 0)) ∨ (w = 0 ∧ ¬ (mo 1 = 0)) := (by rw [hw]; by_cases q9 : (mo 1 = 0) <;> simp [q9])
      clear hw
      refine rRun hG 54 ?_
      refine And.intro (by first | omega | (dsimp only; omega)) (And.intro (fun cb => ?_) (fun cb => ?_))
      · try dsimp only at cb
        refine rVR hG rfl rfl rfl ?_
        refine Or.inl ⟨by omega, rfl⟩
      · try dsimp only at cb
        refine And.intro (by first | omega | (dsimp only; omega)) (And.intro (fun cc2 => ?_) (fun cc2 => ?_))
        · try dsimp only at cc2
          refine rRun hG 54 ?_
          exact rLess hG (L' := [some (mr 17), some (mr (tix k)), some (mr 11), some (mi dn), some (mi (puf tk)), some (mi (((0 : Nat) : Int) - 9)), none, none]) ⟨rfl, rfl, rfl, rfl, rfl, rfl, True.intro⟩ (J54 (by omega) (by omega) _ 0 hr (fun a ha => absurd ha (Nat.not_lt_zero _)) (by omega) (Nat.lt_succ_self _))
        · try dsimp only at cc2
          refine rVR hG rfl rfl rfl ?_
          refine Or.inl ⟨by omega, rfl⟩
    · try dsimp only at ca
      skip
      have eM : (if mo 1 = 0 then 0 else puf tk) = 0 := if_pos (by omega)
      suffices h35 : G 35 [some (mr 17), some (mr (tix k)), some (mr 11), some (mi dn), some (mi (puf tk)), none, none, none] [mi (if mo 1 = 0 then 0 else puf tk), mr 17] (hC uo ux ua ub (mo, kn, kp) v1 v2 (kP, hr, lt, tk, ms, -9) uq ur) by
        rw [eM] at h35; exact h35
      refine rRun hG 54 ?_
      refine And.intro ⟨rfl, by exact Nat.le_of_ble_eq_true rfl, by exact True.intro⟩ (?_)
      refine rV hG (sp_X3_isFree (uo := uo) (ux := ux) (ua := ua) (ub := ub) (mo := mo) (kn := kn) (kp := kp) (v1 := v1) (v2 := v2) (up := (kP, hr, lt, tk, (if mo 1 = 0 then 0 else puf tk), (-9))) (uq := uq) (ur := ur) (by omega)) rfl rfl lk_X2_46 mf_X3_isFree (by decide) (Nat.le_of_ble_eq_true rfl) ⟨_, _, _, rfl, rfl, rfl⟩ ?_
      rintro w _ ⟨hw, rfl⟩
      have w1 : (w = 1 ∧ (mo 1 = 0)) ∨ (w = 0 ∧ ¬ (mo 1 = 0)) := (by rw [hw]; by_cases q9 : (mo 1 = 0) <;> simp [q9])
      clear hw
      refine rRun hG 54 ?_
      refine And.intro (by first | omega | (dsimp only; omega)) (And.intro (fun cb => ?_) (fun cb => ?_))
      · try dsimp only at cb
        refine rVR hG rfl rfl rfl ?_
        refine Or.inl ⟨by omega, rfl⟩
      · try dsimp only at cb
        refine And.intro (by first | omega | (dsimp only; omega)) (And.intro (fun cc2 => ?_) (fun cc2 => ?_))
        · try dsimp only at cc2
          refine rRun hG 54 ?_
          exact rLess hG (L' := [some (mr 17), some (mr (tix k)), some (mr 11), some (mi dn), some (mi (puf tk)), some (mi (((0 : Nat) : Int) - 9)), none, none]) ⟨rfl, rfl, rfl, rfl, rfl, rfl, True.intro⟩ (J54 (by omega) (by omega) _ 0 hr (fun a ha => absurd ha (Nat.not_lt_zero _)) (by omega) (Nat.lt_succ_self _))
        · try dsimp only at cc2
          refine rVR hG rfl rfl rfl ?_
          refine Or.inl ⟨by omega, rfl⟩
  refine rRun hG 15 ?_
  refine And.intro rfl (And.intro (by first | omega | (dsimp only; omega)) (And.intro (fun ct => ?_) (fun ct => ?_)))
  · try dsimp only at ct
    refine rRun hG 15 ?_
    refine rLess hG ?_ J15
    exact ⟨rfl, rfl, rfl, rfl, congrArg mi (by unfold puf; first | (rw [if_pos (by omega)]; done) | (rw [if_neg (by omega)]; done)), True.intro⟩
  · try dsimp only at ct
    refine rRun hG 15 ?_
    refine rLess hG ?_ J15
    exact ⟨rfl, rfl, rfl, rfl, congrArg mi (by unfold puf; first | (rw [if_pos (by omega)]; done) | (rw [if_neg (by omega)]; done)), True.intro⟩
end WALKS
