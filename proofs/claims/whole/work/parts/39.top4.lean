/-! the class itself: the sentence -/
section WALKS
variable {l : Launch}
theorem rdL_ok : ∀ (n : Nat) (x : XD) (t : TD) (i : Nat), XOK x → FL x → TCN t → XOK (rdL n x t i).1 ∧ FL (rdL n x t i).1 ∧ TCN (rdL n x t i).2.1 ∧ (rdL n x t i).2.2 ≤ i + n
  | 0, x, t, i, hX, hF, hT => ⟨hX, hF, hT, Nat.le_refl _⟩
  | n + 1, x, t, i, hX, hF, hT => by
    rw [rdL_s]
    split
    · have := rdL_ok n (ntk (itmX x t)) (itmT x t) (i + 1) (XOK_ntk (XOK_itm hX)) (FL_ntk (FL_itm hF)) (TCN_itm hT)
      exact ⟨this.1, this.2.1, this.2.2.1, by have := this.2.2.2; omega⟩
    · exact ⟨hX, hF, hT, by show i ≤ i + (n + 1); omega⟩
theorem rdAll_ok {x : XD} {t : TD} (hX : XOK (begX x)) : XOK (rdAll x t).1 ∧ FL (rdAll x t).1 ∧ TCN (rdAll x t).2.1 ∧ (rdAll x t).2.2 ≤ 150 := by
  have h := rdL_ok 150 (ntk (begX x)) (tWipe t) 0 (XOK_ntk hX) (FL_ntk ⟨le00, le00, le00⟩) ⟨le0n (by decide), le0n (by decide), le0n (by decide)⟩
  exact ⟨h.1, h.2.1, h.2.2.1, Nat.le_trans h.2.2.2 (by decide)⟩
theorem rdAns_in {x : XD} {t : TD} (hX : XOK (begX x)) : -1000 ≤ rdAns x t ∧ rdAns x t ≤ 1000 := by
  have h := rdAll_ok (t := t) hX
  have hf := h.1.2.2.2.2.2.1
  have hc := h.2.2.2
  unfold rdAns
  split <;> omega
set_option maxRecDepth 20000 in
set_option maxHeartbeats 2000000 in
theorem sp_X6_sentence {k : Bool} {asked : Int} {ux : XD} {ua ub : TD} {mo : FN} {kn kp : Int} {v1 v2 : SD} {up uq : PD} {kH : Bool} {al hr lt : FN} {hd : Int} {s : TD} (hs : s = tsel (!k) ua ub) (hX : XOK (begX ux)) : SpI l 8 yX6_sentence cX6_sentence 3 (some .int) [mr 0] (hC (k, asked) ux ua ub (mo, kn, kp) v1 v2 up uq (kH, al, hr, lt, hd)) (fun z h => (rdAns ux s < 0 ∧ z = rdAns ux s ∧ h = hC (k, asked) (rdAll ux s).1 (cond (!k) ua (rdAll ux s).2.1) (cond (!k) (rdAll ux s).2.1 ub) (mo, kn, kp) v1 v2 up uq (kH, al, hr, lt, hd)) ∨ (0 ≤ rdAns ux s ∧ z = rdAns ux s ∧ h = hC (!k, asked) (xClr (rdAll ux s).1) (cond (!k) ua (rdAll ux s).2.1) (cond (!k) (rdAll ux s).2.1 ub) (mup (begM mo 9) 1 (tRst (rdAll ux s).2.1), 0, kp) (v1.1, v1.2.1, 0) (v2.1, v2.2.1, 0) up uq (kH, drpA al 14, hr, lt, 0))) := by
  have hA := rdAns_in (t := s) hX
  cases k
  · refine SpI.of (cd := kdX6_sentence) (fT := mlook flX6) (kT := mlook klX6) (kJ := mlook jlX6) mfA_X6_sentence ok_X6_sentence fT_X6 kT_X6 jT_X6 jdk_ok True.intro (Nat.le_of_ble_eq_true rfl) (fun G hG => ?_)
    refine rRun hG 99999 ?_
    refine And.intro rfl (And.intro rfl (?_))
    refine rV hG (sp_X4_readInto (uo := (false, asked)) (ux := ux) (ua := ua) (ub := ub) (v0 := (mo, kn, kp)) (v1 := v1) (v2 := v2) (up := up) (uq := uq) (ur := (kH, al, hr, lt, hd)) (k := true) (t := s) hs hX) rfl rfl lk_X6_79 mf_X4_readInto (by decide) (Nat.le_of_ble_eq_true rfl) ⟨_, _, _, rfl, rfl, rfl⟩ ?_
    rintro _ _ ⟨rfl, rfl⟩
    refine rRun hG 99999 ?_
    refine And.intro (by first | omega | (dsimp only; omega)) (And.intro (fun c2 => ?_) (fun c2 => ?_))
    · try dsimp only at c2
      refine rRun hG 99999 ?_
      refine And.intro rfl (And.intro rfl (And.intro ⟨rfl, by exact Nat.le_of_ble_eq_true rfl, by first | exact True.intro | exact Or.inl rfl | exact Or.inr rfl⟩ (And.intro ⟨rfl, by exact Nat.le_of_ble_eq_true rfl, by first | exact True.intro | exact Or.inl rfl | exact Or.inr rfl⟩ (And.intro rfl (And.intro ⟨rfl, by exact Nat.le_of_ble_eq_true rfl, by first | exact True.intro | exact Or.inl rfl | exact Or.inr rfl⟩ (And.intro rfl (And.intro rfl (And.intro rfl (?_)))))))))
      refine rVV hG (sp_X3_begin (uo := (true, asked)) (ux := xClr (rdAll ux s).1) (ua := ua) (ub := (rdAll ux s).2.1) (mo := mo) (kn := kn) (kp := kp) (v1 := v1) (v2 := v2) (up := up) (uq := uq) (ur := (kH, al, hr, lt, hd)) (r := tRst (rdAll ux s).2.1)) rfl rfl lk_X6_68 mf_X3_begin (by decide) (Nat.le_of_ble_eq_true rfl) ⟨_, _, _, rfl, rfl, rfl⟩ ?_
      rintro _ rfl
      refine rRun hG 99999 ?_
      refine And.intro rfl (And.intro ⟨rfl, by exact Nat.le_of_ble_eq_true rfl, by first | exact True.intro | exact Or.inl rfl | exact Or.inr rfl⟩ (And.intro rfl (And.intro ⟨rfl, by exact Nat.le_of_ble_eq_true rfl, by first | exact True.intro | exact Or.inl rfl | exact Or.inr rfl⟩ (And.intro rfl (?_)))))
      refine rVV hG (sp_X0_drop (uo := (true, asked)) (ux := xClr (rdAll ux s).1) (ua := ua) (ub := (rdAll ux s).2.1) (v0 := (mup (begM mo 9) 1 (tRst (rdAll ux s).2.1), 0, kp)) (v1 := (v1.1, v1.2.1, 0)) (v2 := (v2.1, v2.2.1, 0)) (up := up) (uq := uq) (kH := kH) (al := al) (hr := hr) (lt := lt) (hd := hd)) rfl rfl lk_X6_87 mf_X0_drop (by decide) (Nat.le_of_ble_eq_true rfl) ⟨_, _, _, rfl, rfl, rfl⟩ ?_
      rintro _ rfl
      refine rRun hG 99999 ?_
      refine rIR hG rfl rfl (True.intro) ?_
      exact Or.inr ⟨by omega, rfl, rfl⟩
    · try dsimp only at c2
      refine rIR hG rfl rfl (True.intro) ?_
      exact Or.inl ⟨by omega, rfl, rfl⟩
  · refine SpI.of (cd := kdX6_sentence) (fT := mlook flX6) (kT := mlook klX6) (kJ := mlook jlX6) mfA_X6_sentence ok_X6_sentence fT_X6 kT_X6 jT_X6 jdk_ok True.intro (Nat.le_of_ble_eq_true rfl) (fun G hG => ?_)
    refine rRun hG 99999 ?_
    refine And.intro rfl (And.intro rfl (?_))
    refine rV hG (sp_X4_readInto (uo := (true, asked)) (ux := ux) (ua := ua) (ub := ub) (v0 := (mo, kn, kp)) (v1 := v1) (v2 := v2) (up := up) (uq := uq) (ur := (kH, al, hr, lt, hd)) (k := false) (t := s) hs hX) rfl rfl lk_X6_79 mf_X4_readInto (by decide) (Nat.le_of_ble_eq_true rfl) ⟨_, _, _, rfl, rfl, rfl⟩ ?_
    rintro _ _ ⟨rfl, rfl⟩
    refine rRun hG 99999 ?_
    refine And.intro (by first | omega | (dsimp only; omega)) (And.intro (fun c2 => ?_) (fun c2 => ?_))
    · try dsimp only at c2
      refine rRun hG 99999 ?_
      refine And.intro rfl (And.intro rfl (And.intro ⟨rfl, by exact Nat.le_of_ble_eq_true rfl, by first | exact True.intro | exact Or.inl rfl | exact Or.inr rfl⟩ (And.intro ⟨rfl, by exact Nat.le_of_ble_eq_true rfl, by first | exact True.intro | exact Or.inl rfl | exact Or.inr rfl⟩ (And.intro rfl (And.intro ⟨rfl, by exact Nat.le_of_ble_eq_true rfl, by first | exact True.intro | exact Or.inl rfl | exact Or.inr rfl⟩ (And.intro rfl (And.intro rfl (And.intro rfl (?_)))))))))
      refine rVV hG (sp_X3_begin (uo := (false, asked)) (ux := xClr (rdAll ux s).1) (ua := (rdAll ux s).2.1) (ub := ub) (mo := mo) (kn := kn) (kp := kp) (v1 := v1) (v2 := v2) (up := up) (uq := uq) (ur := (kH, al, hr, lt, hd)) (r := tRst (rdAll ux s).2.1)) rfl rfl lk_X6_68 mf_X3_begin (by decide) (Nat.le_of_ble_eq_true rfl) ⟨_, _, _, rfl, rfl, rfl⟩ ?_
      rintro _ rfl
      refine rRun hG 99999 ?_
      refine And.intro rfl (And.intro ⟨rfl, by exact Nat.le_of_ble_eq_true rfl, by first | exact True.intro | exact Or.inl rfl | exact Or.inr rfl⟩ (And.intro rfl (And.intro ⟨rfl, by exact Nat.le_of_ble_eq_true rfl, by first | exact True.intro | exact Or.inl rfl | exact Or.inr rfl⟩ (And.intro rfl (?_)))))
      refine rVV hG (sp_X0_drop (uo := (false, asked)) (ux := xClr (rdAll ux s).1) (ua := (rdAll ux s).2.1) (ub := ub) (v0 := (mup (begM mo 9) 1 (tRst (rdAll ux s).2.1), 0, kp)) (v1 := (v1.1, v1.2.1, 0)) (v2 := (v2.1, v2.2.1, 0)) (up := up) (uq := uq) (kH := kH) (al := al) (hr := hr) (lt := lt) (hd := hd)) rfl rfl lk_X6_87 mf_X0_drop (by decide) (Nat.le_of_ble_eq_true rfl) ⟨_, _, _, rfl, rfl, rfl⟩ ?_
      rintro _ rfl
      refine rRun hG 99999 ?_
      refine rIR hG rfl rfl (True.intro) ?_
      exact Or.inr ⟨by omega, rfl, rfl⟩
    · try dsimp only at c2
      refine rIR hG rfl rfl (True.intro) ?_
      exact Or.inl ⟨by omega, rfl, rfl⟩
end WALKS
