/-! the reference: remembers, checks, watches, pays, corrects, undo, images -/
section WALKS
variable {l : Launch}
def shf (m : FN) (i : Nat) : FN := fun j => if 10 ≤ j ∧ j < i then m (j + 9) else m j
def shd (m : FN) : FN := if m 9 = 10 then mup (shf m 91) 9 9 else m
def cpM (m : FN) (k : Nat) : FN := fun j => if (10 + 9 * m 9).toNat ≤ j ∧ j < (10 + 9 * m 9).toNat + k then m (j - (10 + 9 * m 9).toNat) else m j
def remM (m : FN) : FN := mup (cpM (shd m) 9) 9 (cpM (shd m) 9 9 + 1)
def chkW (m : FN) (lim add : Int) : FN := if max (m 2) (-(m 2)) ≤ lim then m else mup (mup (mup m 8 (m 8 + 1)) 2 0) 1 (min 99 (m 1 + add))
def undK (m : FN) (k : Nat) : FN := fun j => if j < k then m ((10 + 9 * (m 9 - 1)).toNat + j) else if j = 9 then m 9 - 1 else m j
def kepK (g m : FN) (w k : Nat) : FN := fun j => if 100 * w ≤ j ∧ j < 100 * w + k then m (j - 100 * w) else g j
def bakK (g m : FN) (w k : Nat) : FN := fun j => if j < k then g (100 * w + j) else m j
theorem shd_9 {m : FN} (h : 0 ≤ m 9 ∧ m 9 ≤ 10) : 0 ≤ shd m 9 ∧ shd m 9 ≤ 9 := by
  unfold shd
  by_cases q : m 9 = 10
  · rw [if_pos q, mup_s]; omega
  · rw [if_neg q]; omega
theorem remM_lo {m : FN} (h : 0 ≤ m 9 ∧ m 9 ≤ 10) {j : Nat} (hj : j < 9) : remM m j = m j := by
  have h9 := shd_9 h
  unfold remM
  rw [mup_n (by omega)]
  unfold cpM
  rw [if_neg (by omega)]
  unfold shd
  by_cases q : m 9 = 10
  · rw [if_pos q, mup_n (by omega)]; exact if_neg (by omega)
  · rw [if_neg q]
theorem remM_9 {m : FN} (h : 0 ≤ m 9 ∧ m 9 ≤ 10) : remM m 9 = min 10 (m 9 + 1) := by
  have h9 := shd_9 h
  unfold remM
  rw [mup_s]
  unfold cpM
  rw [if_neg (by omega)]
  unfold shd
  by_cases q : m 9 = 10
  · rw [if_pos q, mup_s]; omega
  · rw [if_neg q]; omega
set_option maxRecDepth 20000 in
set_option maxHeartbeats 1000000 in
theorem sp_X7_remembers {mt sd : TD} {ms mg mk : FN} {hn : Int} {mh : FN} {tr : Int} {mx : XD} {w9 t9 c9 g9 : FN}  (hQ : 0 ≤ ms 9 ∧ ms 9 ≤ 10) : SpV l 1 yX7_remembers cX7_remembers 3 none [mr 0] (hM mt sd ms mg mk hn mh tr mx w9 t9 c9 g9) (fun h => h = hM mt sd (remM ms) mg mk hn mh tr mx w9 t9 c9 g9) := by
  refine SpV.of (cd := kdX7_remembers) (fT := mlook flX7) (kT := mlook klX7) (kJ := mlook jlX7) mfA_X7_remembers ok_X7_remembers fT_X7 kT_X7 jT_X7 jdk_ok True.intro (Nat.le_of_ble_eq_true rfl) (fun G hG => ?_)
  have J53 : ∀ f : FN, (0 ≤ f 9 ∧ f 9 ≤ 9) → shd ms = f → G 53 [some (mr 0), none, none] [] (hM mt sd f mg mk hn mh tr mx w9 t9 c9 g9) := by
    intro f hf he
    refine rRun hG 69 ?_
    refine And.intro rfl (And.intro (by first | omega | (dsimp only [Int.reduceToNat]; omega)) (?_))
    have J69 : ∀ (n : Nat) (k : Nat) (g : FN), (k ≤ 9 ∧ ∀ a, g a = cpM f k a) → 9 - k < n → G 69 [some (mr 0), some (mi (10 + 9 * f 9)), some (mi (k : Int))] [] (hM mt sd g mg mk hn mh tr mx w9 t9 c9 g9) := by
      intro n
      induction n with
      | zero => intro k g _ hm; exact absurd hm (Nat.not_lt_zero _)
      | succ n ih =>
        intro k g hinv hm
        refine rRun hG 95 ?_
        refine And.intro (by first | omega | (dsimp only [Int.reduceToNat]; omega)) (And.intro (fun c1 => ?_) (fun c1 => ?_))
        · try dsimp only [Int.reduceToNat] at c1
          obtain rfl : g = cpM f 9 := (funext fun a => by rw [hinv.2 a, show k = 9 by omega])
          have h98 : cpM f 9 9 = f 9 := if_neg (by omega)
          refine rRun hG 99999 ?_
          refine And.intro rfl (And.intro (by first | omega | (dsimp only [Int.reduceToNat]; omega)) (And.intro (by first | omega | (dsimp only [Int.reduceToNat]; omega)) (?_)))
          refine rVR hG rfl rfl rfl ?_
          subst he
          rfl
        · try dsimp only [Int.reduceToNat] at c1
          refine And.intro rfl (And.intro rfl (And.intro (by first | omega | (dsimp only [Int.reduceToNat]; omega)) (And.intro (by first | omega | (dsimp only [Int.reduceToNat]; omega)) (?_))))
          refine rLess hG ?_ (ih (k + 1) (mup g (10 + 9 * f 9 + (k : Int)).toNat (g (k : Int).toNat)) ⟨?_, ?_⟩ ?_)
          · exact ⟨rfl, rfl, rfl, True.intro⟩
          · omega
          · intro a
            simp only [mup, hinv.2, cpM]; (repeat' split); all_goals first | rfl | (exfalso; omega) | (congr 1; omega)
          · omega
    exact J69 _ 0 f ⟨by omega, fun a => (if_neg (by omega)).symm⟩ (Nat.lt_succ_self _)
  refine rRun hG 15 ?_
  refine And.intro rfl (And.intro (by first | omega | (dsimp only [Int.reduceToNat]; omega)) (And.intro (by first | omega | (dsimp only [Int.reduceToNat]; omega)) (And.intro (fun c1 => ?_) (fun c1 => ?_))))
  · try dsimp only [Int.reduceToNat] at c1
    first | exact J53 ms (by omega) (if_neg (by omega)) | exact rLess hG (L' := [some (mr 0), none, none]) ⟨rfl, True.intro⟩ (J53 _ (by rw [show (Int.toNat 9) = 9 from rfl, mup_s, h99]; omega) (by unfold shd; rw [if_pos (by omega), show (Int.toNat 9) = 9 from rfl, h99]; rfl))
  · try dsimp only [Int.reduceToNat] at c1
    have J15 : ∀ (n : Nat) (i : Nat) (f : FN), (10 ≤ i ∧ i ≤ 91 ∧ ∀ a, f a = shf ms i a) → 91 - i < n → G 15 [some (mr 0), some (mi (i : Int)), none] [] (hM mt sd f mg mk hn mh tr mx w9 t9 c9 g9) := by
      intro n
      induction n with
      | zero => intro i f _ hm; exact absurd hm (Nat.not_lt_zero _)
      | succ n ih =>
        intro i f hinv hm
        refine rRun hG 42 ?_
        refine And.intro (by first | omega | (dsimp only [Int.reduceToNat]; omega)) (And.intro (fun c2 => ?_) (fun c2 => ?_))
        · try dsimp only [Int.reduceToNat] at c2
          obtain rfl : f = shf ms 91 := (funext fun a => by rw [hinv.2.2 a, show i = 91 by omega])
          have h99 : shf ms 91 9 = 10 := (if_neg (by omega)).trans (by omega)
          refine rRun hG 53 ?_
          refine And.intro rfl (And.intro (by first | omega | (dsimp only [Int.reduceToNat]; omega)) (And.intro (by first | omega | (dsimp only [Int.reduceToNat]; omega)) (?_)))
          first | exact J53 ms (by omega) (if_neg (by omega)) | exact rLess hG (L' := [some (mr 0), none, none]) ⟨rfl, True.intro⟩ (J53 _ (by rw [show (Int.toNat 9) = 9 from rfl, mup_s, h99]; omega) (by unfold shd; rw [if_pos (by omega), show (Int.toNat 9) = 9 from rfl, h99]; rfl))
        · try dsimp only [Int.reduceToNat] at c2
          refine And.intro rfl (And.intro rfl (And.intro (by first | omega | (dsimp only [Int.reduceToNat]; omega)) (And.intro (by first | omega | (dsimp only [Int.reduceToNat]; omega)) (?_))))
          refine rLess hG ?_ (ih (i + 1) (mup f (i : Int).toNat (f ((i : Int) + 9).toNat)) ⟨?_, ?_, ?_⟩ ?_)
          · exact ⟨rfl, rfl, True.intro⟩
          · omega
          · omega
          · intro a
            simp only [mup, hinv.2.2, shf]; (repeat' split); all_goals first | rfl | (exfalso; omega) | (congr 1; omega)
          · omega
    exact J15 _ 10 ms ⟨by omega, by omega, fun a => (if_neg (by omega)).symm⟩ (Nat.lt_succ_self _)
set_option maxRecDepth 20000 in
set_option maxHeartbeats 1000000 in
theorem sp_X7_checks {mt sd : TD} {ms mg mk : FN} {hn : Int} {mh : FN} {tr : Int} {mx : XD} {w9 t9 c9 g9 : FN}  (h1 : -100 ≤ ms 2 ∧ ms 2 ≤ 100) (h2 : 0 ≤ ms 1 ∧ ms 1 ≤ 1000) (h3 : 0 ≤ tLim mt ∧ tLim mt ≤ 9) (h4 : 0 ≤ tAdd mt ∧ tAdd mt ≤ 9) (h5 : -1000000 ≤ ms 8 ∧ ms 8 ≤ 1000000) : SpI l 2 yX7_checks cX7_checks 1 (some .int) [mr 0] (hM mt sd ms mg mk hn mh tr mx w9 t9 c9 g9) (fun z h => z = chkR ms (tLim mt) ∧ h = hM mt sd (chkW ms (tLim mt) (tAdd mt)) mg mk hn mh tr mx w9 t9 c9 g9) := by
  refine SpI.of (cd := kdX7_checks) (fT := mlook flX7) (kT := mlook klX7) (kJ := mlook jlX7) mfA_X7_checks ok_X7_checks fT_X7 kT_X7 jT_X7 jdk_ok True.intro (Nat.le_of_ble_eq_true rfl) (fun G hG => ?_)
  refine rRun hG 99999 ?_
  refine And.intro rfl (And.intro (by first | omega | (dsimp only [Int.reduceToNat]; omega)) (?_))
  refine rS hG (sp_X7_size (v := ms 2) (by omega)) rfl rfl lk_X7_164 mf_X7_size (by decide) (Nat.le_of_ble_eq_true rfl) ?_
  rintro _ _ ⟨rfl, rfl⟩
  refine rRun hG 99999 ?_
  refine And.intro rfl (And.intro (by first | omega | (dsimp only [Int.reduceToNat]; omega)) (And.intro (fun c2 => ?_) (fun c2 => ?_)))
  · try dsimp only [Int.reduceToNat] at c2
    refine rRun hG 99999 ?_
    refine And.intro rfl (And.intro (by first | omega | (dsimp only [Int.reduceToNat]; omega)) (And.intro (by first | omega | (dsimp only [Int.reduceToNat]; omega)) (And.intro rfl (And.intro (by first | omega | (dsimp only [Int.reduceToNat]; omega)) (And.intro rfl (And.intro rfl (And.intro (by first | omega | (dsimp only [Int.reduceToNat]; omega)) (And.intro rfl (?_)))))))))
    refine rS hG (sp_X7_lesser (a := 99) (b := ms 1 + tAdd mt) (by omega)) rfl rfl lk_X7_170 mf_X7_lesser (by decide) (Nat.le_of_ble_eq_true rfl) ?_
    rintro _ _ ⟨rfl, rfl⟩
    refine rRun hG 99999 ?_
    refine And.intro (by first | omega | (dsimp only [Int.reduceToNat]; omega)) (?_)
    refine rIR hG rfl rfl (True.intro) ?_
    refine ⟨?_, ?_⟩
    · unfold chkR; rw [if_neg (by omega)]
    · unfold chkW; rw [if_neg (by omega)]; rfl
  · try dsimp only [Int.reduceToNat] at c2
    refine rIR hG rfl rfl (True.intro) ?_
    refine ⟨?_, ?_⟩
    · unfold chkR; rw [if_pos (by omega)]
    · unfold chkW; rw [if_pos (by omega)]
end WALKS
