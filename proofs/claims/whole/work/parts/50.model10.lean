/-! the reference: which item may begin -/
section WALKS
variable {l : Launch}
def mbF (s : TD) (c : Int) : Int := if c = 97 then (if tAdd s < 0 then 1 else 0) else if c = 98 then (if tNB s < 6 then 1 else 0) else if c = 100 then (if tDay s < 14 then 1 else 0) else if c = 104 then (if tNT s < 4 then 1 else 0) else if c = 108 then (if tLim s < 0 then 1 else 0) else if c = 114 then (if tRst s < 0 then 1 else 0) else 0
set_option maxRecDepth 20000 in
set_option maxHeartbeats 1000000 in
theorem sp_X7_mayBegin {mt sd : TD} {ms mg mk : FN} {hn : Int} {mh : FN} {tr : Int} {mx : XD} {w9 t9 c9 g9 : FN} {c : Int} (h1 : inI c) (h2 : -1 ≤ tDay sd ∧ tDay sd ≤ 1000) (h3 : -1 ≤ tNB sd ∧ tNB sd ≤ 1000) (h4 : -1 ≤ tNT sd ∧ tNT sd ≤ 1000) (h5 : -1 ≤ tRst sd ∧ tRst sd ≤ 1000) (h6 : -1 ≤ tLim sd ∧ tLim sd ≤ 1000) (h7 : -1 ≤ tAdd sd ∧ tAdd sd ≤ 1000) : SpI l 1 yX7_mayBegin cX7_mayBegin 2 (some .boolean) [mr 0, mi c] (hM mt sd ms mg mk hn mh tr mx w9 t9 c9 g9) (fun z h => z = mbF sd c ∧ h = hM mt sd ms mg mk hn mh tr mx w9 t9 c9 g9) := by
  refine SpI.of (cd := kdX7_mayBegin) (fT := mlook flX7) (kT := mlook klX7) (kJ := mlook jlX7) mfA_X7_mayBegin ok_X7_mayBegin fT_X7 kT_X7 jT_X7 jdk_ok True.intro (Nat.le_of_ble_eq_true rfl) (fun G hG => ?_)
  refine rRun hG 99999 ?_
  refine And.intro (by first | omega | (dsimp only [Int.reduceToNat]; omega)) (And.intro (fun c1 => ?_) (And.intro (fun c1 => ?_) (And.intro (fun c1 => ?_) (And.intro (fun c1 => ?_) (And.intro (fun c1 => ?_) (And.intro (fun c1 => ?_) (And.intro (fun c1 => ?_) (And.intro (fun c1 => ?_) (And.intro (fun c1 => ?_) (And.intro (fun c1 => ?_) (And.intro (fun c1 => ?_) (And.intro (fun c1 => ?_) (And.intro (fun c1 => ?_) (And.intro (fun c1 => ?_) (And.intro (fun c1 => ?_) (And.intro (fun c1 => ?_) (And.intro (fun c1 => ?_) (And.intro (fun c1 => ?_) (And.intro (fun c1 => ?_) (True.intro))))))))))))))))))))
  · skip
    refine rRun hG 99999 ?_
    refine rIR hG rfl rfl (by first | exact Or.inl rfl | exact Or.inr rfl | (show _ ∨ _; omega)) ?_
    refine ⟨?_, rfl⟩
    first | (subst c1; rfl) | (unfold mbF; rw [if_neg (by omega), if_neg (by omega), if_neg (by omega), if_neg (by omega), if_neg (by omega), if_neg (by omega)])
  · skip
    refine rRun hG 99999 ?_
    refine And.intro rfl (And.intro (by first | omega | (dsimp only [Int.reduceToNat]; omega)) (And.intro (fun c2 => ?_) (fun c2 => ?_)))
    · try dsimp only [Int.reduceToNat] at c2
      refine rRun hG 99999 ?_
      refine rIR hG rfl rfl (by first | exact Or.inl rfl | exact Or.inr rfl | (show _ ∨ _; omega)) ?_
      refine ⟨?_, rfl⟩
      subst c1
      show _ = (if tAdd sd < 0 then 1 else 0)
      first | (rw [if_pos (by omega)]; done) | (rw [if_neg (by omega)]; done)
    · try dsimp only [Int.reduceToNat] at c2
      refine rIR hG rfl rfl (by first | exact Or.inl rfl | exact Or.inr rfl | (show _ ∨ _; omega)) ?_
      refine ⟨?_, rfl⟩
      subst c1
      show _ = (if tAdd sd < 0 then 1 else 0)
      first | (rw [if_pos (by omega)]; done) | (rw [if_neg (by omega)]; done)
  · skip
    refine rRun hG 99999 ?_
    refine And.intro rfl (And.intro (by first | omega | (dsimp only [Int.reduceToNat]; omega)) (And.intro (fun cq => ?_) (fun cq => ?_)))
    · try dsimp only [Int.reduceToNat] at cq
      refine rRun hG 99999 ?_
      refine rIR hG rfl rfl (by first | exact Or.inl rfl | exact Or.inr rfl | (show _ ∨ _; omega)) ?_
      refine ⟨?_, rfl⟩
      subst c1
      show _ = (if tNB sd < 6 then 1 else 0)
      first | (rw [if_pos (by omega)]; done) | (rw [if_neg (by omega)]; done)
    · try dsimp only [Int.reduceToNat] at cq
      refine rIR hG rfl rfl (by first | exact Or.inl rfl | exact Or.inr rfl | (show _ ∨ _; omega)) ?_
      refine ⟨?_, rfl⟩
      subst c1
      show _ = (if tNB sd < 6 then 1 else 0)
      first | (rw [if_pos (by omega)]; done) | (rw [if_neg (by omega)]; done)
  · skip
    refine rRun hG 99999 ?_
    refine rIR hG rfl rfl (by first | exact Or.inl rfl | exact Or.inr rfl | (show _ ∨ _; omega)) ?_
    refine ⟨?_, rfl⟩
    first | (subst c1; rfl) | (unfold mbF; rw [if_neg (by omega), if_neg (by omega), if_neg (by omega), if_neg (by omega), if_neg (by omega), if_neg (by omega)])
  · skip
    refine rRun hG 99999 ?_
    refine And.intro rfl (And.intro (by first | omega | (dsimp only [Int.reduceToNat]; omega)) (And.intro (fun cq => ?_) (fun cq => ?_)))
    · try dsimp only [Int.reduceToNat] at cq
      refine rRun hG 99999 ?_
      refine rIR hG rfl rfl (by first | exact Or.inl rfl | exact Or.inr rfl | (show _ ∨ _; omega)) ?_
      refine ⟨?_, rfl⟩
      subst c1
      show _ = (if tDay sd < 14 then 1 else 0)
      first | (rw [if_pos (by omega)]; done) | (rw [if_neg (by omega)]; done)
    · try dsimp only [Int.reduceToNat] at cq
      refine rIR hG rfl rfl (by first | exact Or.inl rfl | exact Or.inr rfl | (show _ ∨ _; omega)) ?_
      refine ⟨?_, rfl⟩
      subst c1
      show _ = (if tDay sd < 14 then 1 else 0)
      first | (rw [if_pos (by omega)]; done) | (rw [if_neg (by omega)]; done)
  · skip
    refine rRun hG 99999 ?_
    refine rIR hG rfl rfl (by first | exact Or.inl rfl | exact Or.inr rfl | (show _ ∨ _; omega)) ?_
    refine ⟨?_, rfl⟩
    first | (subst c1; rfl) | (unfold mbF; rw [if_neg (by omega), if_neg (by omega), if_neg (by omega), if_neg (by omega), if_neg (by omega), if_neg (by omega)])
  · skip
    refine rRun hG 99999 ?_
    refine rIR hG rfl rfl (by first | exact Or.inl rfl | exact Or.inr rfl | (show _ ∨ _; omega)) ?_
    refine ⟨?_, rfl⟩
    first | (subst c1; rfl) | (unfold mbF; rw [if_neg (by omega), if_neg (by omega), if_neg (by omega), if_neg (by omega), if_neg (by omega), if_neg (by omega)])
  · skip
    refine rRun hG 99999 ?_
    refine rIR hG rfl rfl (by first | exact Or.inl rfl | exact Or.inr rfl | (show _ ∨ _; omega)) ?_
    refine ⟨?_, rfl⟩
    first | (subst c1; rfl) | (unfold mbF; rw [if_neg (by omega), if_neg (by omega), if_neg (by omega), if_neg (by omega), if_neg (by omega), if_neg (by omega)])
  · skip
    refine rRun hG 99999 ?_
    refine And.intro rfl (And.intro (by first | omega | (dsimp only [Int.reduceToNat]; omega)) (And.intro (fun c3 => ?_) (fun c3 => ?_)))
    · try dsimp only [Int.reduceToNat] at c3
      refine rRun hG 99999 ?_
      refine rIR hG rfl rfl (by first | exact Or.inl rfl | exact Or.inr rfl | (show _ ∨ _; omega)) ?_
      refine ⟨?_, rfl⟩
      subst c1
      show _ = (if tNT sd < 4 then 1 else 0)
      first | (rw [if_pos (by omega)]; done) | (rw [if_neg (by omega)]; done)
    · try dsimp only [Int.reduceToNat] at c3
      refine rIR hG rfl rfl (by first | exact Or.inl rfl | exact Or.inr rfl | (show _ ∨ _; omega)) ?_
      refine ⟨?_, rfl⟩
      subst c1
      show _ = (if tNT sd < 4 then 1 else 0)
      first | (rw [if_pos (by omega)]; done) | (rw [if_neg (by omega)]; done)
  · skip
    refine rRun hG 99999 ?_
    refine rIR hG rfl rfl (by first | exact Or.inl rfl | exact Or.inr rfl | (show _ ∨ _; omega)) ?_
    refine ⟨?_, rfl⟩
    first | (subst c1; rfl) | (unfold mbF; rw [if_neg (by omega), if_neg (by omega), if_neg (by omega), if_neg (by omega), if_neg (by omega), if_neg (by omega)])
  · skip
    refine rRun hG 99999 ?_
    refine rIR hG rfl rfl (by first | exact Or.inl rfl | exact Or.inr rfl | (show _ ∨ _; omega)) ?_
    refine ⟨?_, rfl⟩
    first | (subst c1; rfl) | (unfold mbF; rw [if_neg (by omega), if_neg (by omega), if_neg (by omega), if_neg (by omega), if_neg (by omega), if_neg (by omega)])
  · skip
    refine rRun hG 99999 ?_
    refine rIR hG rfl rfl (by first | exact Or.inl rfl | exact Or.inr rfl | (show _ ∨ _; omega)) ?_
    refine ⟨?_, rfl⟩
    first | (subst c1; rfl) | (unfold mbF; rw [if_neg (by omega), if_neg (by omega), if_neg (by omega), if_neg (by omega), if_neg (by omega), if_neg (by omega)])
  · skip
    refine rRun hG 99999 ?_
    refine And.intro rfl (And.intro (by first | omega | (dsimp only [Int.reduceToNat]; omega)) (And.intro (fun c4 => ?_) (fun c4 => ?_)))
    · try dsimp only [Int.reduceToNat] at c4
      refine rRun hG 99999 ?_
      refine rIR hG rfl rfl (by first | exact Or.inl rfl | exact Or.inr rfl | (show _ ∨ _; omega)) ?_
      refine ⟨?_, rfl⟩
      subst c1
      show _ = (if tLim sd < 0 then 1 else 0)
      first | (rw [if_pos (by omega)]; done) | (rw [if_neg (by omega)]; done)
    · try dsimp only [Int.reduceToNat] at c4
      refine rIR hG rfl rfl (by first | exact Or.inl rfl | exact Or.inr rfl | (show _ ∨ _; omega)) ?_
      refine ⟨?_, rfl⟩
      subst c1
      show _ = (if tLim sd < 0 then 1 else 0)
      first | (rw [if_pos (by omega)]; done) | (rw [if_neg (by omega)]; done)
  · skip
    refine rRun hG 99999 ?_
    refine rIR hG rfl rfl (by first | exact Or.inl rfl | exact Or.inr rfl | (show _ ∨ _; omega)) ?_
    refine ⟨?_, rfl⟩
    first | (subst c1; rfl) | (unfold mbF; rw [if_neg (by omega), if_neg (by omega), if_neg (by omega), if_neg (by omega), if_neg (by omega), if_neg (by omega)])
  · skip
    refine rRun hG 99999 ?_
    refine rIR hG rfl rfl (by first | exact Or.inl rfl | exact Or.inr rfl | (show _ ∨ _; omega)) ?_
    refine ⟨?_, rfl⟩
    first | (subst c1; rfl) | (unfold mbF; rw [if_neg (by omega), if_neg (by omega), if_neg (by omega), if_neg (by omega), if_neg (by omega), if_neg (by omega)])
  · skip
    refine rRun hG 99999 ?_
    refine rIR hG rfl rfl (by first | exact Or.inl rfl | exact Or.inr rfl | (show _ ∨ _; omega)) ?_
    refine ⟨?_, rfl⟩
    first | (subst c1; rfl) | (unfold mbF; rw [if_neg (by omega), if_neg (by omega), if_neg (by omega), if_neg (by omega), if_neg (by omega), if_neg (by omega)])
  · skip
    refine rRun hG 99999 ?_
    refine rIR hG rfl rfl (by first | exact Or.inl rfl | exact Or.inr rfl | (show _ ∨ _; omega)) ?_
    refine ⟨?_, rfl⟩
    first | (subst c1; rfl) | (unfold mbF; rw [if_neg (by omega), if_neg (by omega), if_neg (by omega), if_neg (by omega), if_neg (by omega), if_neg (by omega)])
  · skip
    refine rRun hG 99999 ?_
    refine rIR hG rfl rfl (by first | exact Or.inl rfl | exact Or.inr rfl | (show _ ∨ _; omega)) ?_
    refine ⟨?_, rfl⟩
    first | (subst c1; rfl) | (unfold mbF; rw [if_neg (by omega), if_neg (by omega), if_neg (by omega), if_neg (by omega), if_neg (by omega), if_neg (by omega)])
  · skip
    refine rRun hG 99999 ?_
    refine And.intro rfl (And.intro (by first | omega | (dsimp only [Int.reduceToNat]; omega)) (And.intro (fun c5 => ?_) (fun c5 => ?_)))
    · try dsimp only [Int.reduceToNat] at c5
      refine rRun hG 99999 ?_
      refine rIR hG rfl rfl (by first | exact Or.inl rfl | exact Or.inr rfl | (show _ ∨ _; omega)) ?_
      refine ⟨?_, rfl⟩
      subst c1
      show _ = (if tRst sd < 0 then 1 else 0)
      first | (rw [if_pos (by omega)]; done) | (rw [if_neg (by omega)]; done)
    · try dsimp only [Int.reduceToNat] at c5
      refine rIR hG rfl rfl (by first | exact Or.inl rfl | exact Or.inr rfl | (show _ ∨ _; omega)) ?_
      refine ⟨?_, rfl⟩
      subst c1
      show _ = (if tRst sd < 0 then 1 else 0)
      first | (rw [if_pos (by omega)]; done) | (rw [if_neg (by omega)]; done)
end WALKS
