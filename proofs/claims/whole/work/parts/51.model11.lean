/-! the reference: which errors there could be -/
section WALKS
variable {l : Launch}
def B01 (f : FN) : Prop := ∀ a, a < 266 → f a = 0 ∨ f a = 1
def couF (c g : FN) (d : Nat) : Nat → Int
  | 0 => 0
  | i + 1 => zor (couF c g d i) (c (19 * d + i) * g (19 * d + i) * (2 : Int) ^ i)
theorem couF_in {c g : FN} {d : Nat} (hc : B01 c) (hg : B01 g) (hd : d ≤ 13) : ∀ i, i ≤ 19 → 0 ≤ couF c g d i ∧ couF c g d i < (2 : Int) ^ i
  | 0, _ => by show (0 : Int) ≤ 0 ∧ (0 : Int) < 1; omega
  | i + 1, h => by
    have ih := couF_in hc hg hd i (by omega)
    have hm : c (19 * d + i) * g (19 * d + i) = 0 ∨ c (19 * d + i) * g (19 * d + i) = 1 := by
      rcases hc (19 * d + i) (by omega) with e | e <;> rcases hg (19 * d + i) (by omega) with e2 | e2 <;> rw [e, e2] <;> decide
    have hp : (2 : Int) ^ (i + 1) = 2 * (2 : Int) ^ i := by rw [Int.pow_succ]; omega
    have hq : (0 : Int) < (2 : Int) ^ i := Int.pow_pos (by decide)
    have hcast : ((2 ^ (i + 1) : Nat) : Int) = (2 : Int) ^ (i + 1) := by simp
    show 0 ≤ zor _ _ ∧ zor _ _ < _
    unfold zor
    have h2 : (couF c g d i).toNat < 2 ^ (i + 1) := by omega
    have h3 : (c (19 * d + i) * g (19 * d + i) * (2 : Int) ^ i).toNat < 2 ^ (i + 1) := by
      rcases hm with e | e <;> rw [e] <;> omega
    have := Nat.or_lt_two_pow h2 h3
    omega
end WALKS
