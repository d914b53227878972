/-! the reference: which errors there could be -/
section WALKS
variable {l : Launch}
def B01 (f : FN) : Prop := ∀ a, a < 266 → f a = 0 ∨ f a = 1
def couF (c g : FN) (d : Nat) : Nat → Int
  | 0 => 0
  | i + 1 => zor (couF c g d i) (c (19 * d + i) * g (19 * d + i) * (2 : Int) ^ i)
theorem couF_in {c g : FN} {d : Nat} (hc : B01 c) (hg : B01 g) (hd : d ≤ 13) : ∀ i, i ≤ 19 → 0 ≤ couF c g d i ∧ couF c g d i < (2 : Int) ^ i
  | 0, _ => by show (0 : Int) ≤ 0 ∧ (0 : Int) < 1; omega
  | i + 1, h => by
    have ih := couF_in hc hg hd i (by omega)
    have hm : c (19 * d + i) * g (19 * d + i) = 0 ∨ c (19 * d + i) * g (19 * d + i) = 1 := by
      rcases hc (19 * d + i) (by omega) with e | e <;> rcases hg (19 * d + i) (by omega) with e2 | e2 <;> rw [e, e2] <;> decide
    have hp : (2 : Int) ^ (i + 1) = 2 * (2 : Int) ^ i := by rw [Int.pow_succ]; omega
    have hq : (0 : Int) < (2 : Int) ^ i := Int.pow_pos (by decide)
    have hcast : ((2 ^ (i + 1) : Nat) : Int) = (2 : Int) ^ (i + 1) := by simp
    show 0 ≤ zor _ _ ∧ zor _ _ < _
    unfold zor
    have h2 : (couF c g d i).toNat < 2 ^ (i + 1) := by omega
    have h3 : (c (19 * d + i) * g (19 * d + i) * (2 : Int) ^ i).toNat < 2 ^ (i + 1) := by
      rcases hm with e | e <;> rw [e] <;> omega
    have := Nat.or_lt_two_pow h2 h3
    omega
set_option maxRecDepth 20000 in
set_option maxHeartbeats 1000000 in
theorem sp_X7_couldOf {mt sd : TD} {ms mg mk : FN} {hn : Int} {mh : FN} {tr : Int} {mx : XD} {w9 t9 c9 g9 : FN} {d : Nat} (hc : B01 c9) (hg : B01 g9) (h1 : d ≤ 13) : SpI l 1 yX7_couldOf cX7_couldOf 4 (some .int) [mr 0, mi (d : Int)] (hM mt sd ms mg mk hn mh tr mx w9 t9 c9 g9) (fun z h => z = couF c9 g9 d 19 ∧ h = hM mt sd ms mg mk hn mh tr mx w9 t9 c9 g9) := by
  refine SpI.of (cd := kdX7_couldOf) (fT := mlook flX7) (kT := mlook klX7) (kJ := mlook jlX7) mfA_X7_couldOf ok_X7_couldOf fT_X7 kT_X7 jT_X7 jdk_ok True.intro (Nat.le_of_ble_eq_true rfl) (fun G hG => ?_)
  refine rRun hG 4 ?_
  have J4 : ∀ (n : Nat) (i : Nat), i ≤ 19 → 19 - i < n → G 4 [some (mr 0), some (mi (d : Int)), some (mi (couF c9 g9 d i)), some (mi (i : Int))] [] (hM mt sd ms mg mk hn mh tr mx w9 t9 c9 g9) := by
    intro n
    induction n with
    | zero => intro i _ hm; exact absurd hm (Nat.not_lt_zero _)
    | succ n ih =>
      intro i hinv hm
      have e0 : (19 * (d : Int) + (i : Int)).toNat = 19 * d + i := by omega
      have hb := couF_in hc hg h1 i hinv
      have hm : i < 19 → (c9 (19 * d + i) * g9 (19 * d + i) = 0 ∨ c9 (19 * d + i) * g9 (19 * d + i) = 1) := fun q => by
        rcases hc (19 * d + i) (by omega) with e | e <;> rcases hg (19 * d + i) (by omega) with e2 | e2 <;> rw [e, e2] <;> decide
      have hp : i < 19 → (2 : Int) ^ i ≤ 262144 := fun q => (by decide : ∀ i, i < 19 → (2 : Int) ^ i ≤ 262144) i q
      have hz : (0 : Int) < (2 : Int) ^ i := Int.pow_pos (by decide)
      have e1 : ((i : Int)).toNat = i := rfl
      refine rRun hG 10 ?_
      refine And.intro (by first | omega | (dsimp only [Int.reduceToNat]; omega)) (And.intro (fun c1 => ?_) (fun c1 => ?_))
      · try dsimp only [Int.reduceToNat] at c1
        refine rRun hG 99999 ?_
        refine rIR hG rfl rfl (True.intro) ?_
        obtain rfl : i = 19 := by omega
        exact ⟨rfl, rfl⟩
      · try dsimp only [Int.reduceToNat] at c1
        have hm := hm (by omega)
        have hp := hp (by omega)
        refine rRun hG 99999 ?_
        refine And.intro rfl (And.intro (by first | omega | (dsimp only [Int.reduceToNat]; omega)) (And.intro rfl (And.intro (by first | omega | (dsimp only [Int.reduceToNat]; omega)) (And.intro (by rw [e0, e1]; rcases hm with e | e <;> rw [e] <;> omega) (And.intro (by rw [e0, e1]; rcases hm with e | e <;> rw [e] <;> omega) (?_))))))
        refine rLess hG ?_ (ih (i + 1) ?_ ?_)
        · refine ⟨rfl, rfl, congrArg mi ?_, rfl, True.intro⟩
          first | (rw [show couF c9 g9 d (i + 1) = zor (couF c9 g9 d i) (c9 (19 * d + i) * g9 (19 * d + i) * (2 : Int) ^ i) from rfl, e0]; done) | (rw [show couF c9 g9 d (i + 1) = zor (couF c9 g9 d i) (c9 (19 * d + i) * g9 (19 * d + i) * (2 : Int) ^ i) from rfl, e0]; rfl)
        · omega
        · omega
  exact J4 _ 0 (by omega) (Nat.lt_succ_self _)
end WALKS
