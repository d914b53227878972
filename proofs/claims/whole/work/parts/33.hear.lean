/-! Hearsay -/
section WALKS
variable {l : Launch}
/-- a set of errors: the places below n that are so, as bits -/
def bs (P : Nat → Bool) : Nat → Nat
  | 0 => 0
  | n + 1 => bs P n ||| (if P n = true then 2 ^ n else 0)
theorem bs_bit {P : Nat → Bool} : ∀ {n i : Nat}, (bs P n).testBit i = (decide (i < n) && P i)
  | 0, i => by simp [bs]
  | n + 1, i => by
    show (bs P n ||| (if P n = true then 2 ^ n else 0)).testBit i = _
    rw [Nat.testBit_or, bs_bit]
    by_cases hi : i = n
    · subst hi
      by_cases h : P i = true
      · simp [h, Nat.testBit_two_pow_self]
      · simp [h]
    · have e : (if P n = true then 2 ^ n else 0).testBit i = false := by
        split
        · rw [Nat.testBit_two_pow]; simp; omega
        · exact Nat.zero_testBit i
      rw [e, Bool.or_false]
      by_cases h1 : i < n
      · simp [h1, show i < n + 1 by omega]
      · simp [h1, show ¬ i < n + 1 by omega]
theorem bs_lt {P : Nat → Bool} : ∀ n, bs P n < 2 ^ n
  | 0 => Nat.one_pos
  | n + 1 => by
    have ih := bs_lt (P := P) n
    refine Nat.or_lt_two_pow (Nat.lt_of_lt_of_le ih (Nat.pow_le_pow_right (by decide) (by omega))) ?_
    split
    · exact Nat.pow_lt_pow_right (by decide) (by omega)
    · exact Nat.two_pow_pos _
def st19 (P : Nat → Bool) : Int := ((bs P 19 : Nat) : Int)
theorem st19_in {P : Nat → Bool} : 0 ≤ st19 P ∧ st19 P < 524288 := by
  have := bs_lt (P := P) 19
  unfold st19; omega
theorem bs_ext {P Q : Nat → Bool} {n : Nat} (h : ∀ i, i < n → P i = Q i) : bs P n = bs Q n := by
  apply Nat.eq_of_testBit_eq
  intro i
  rw [bs_bit, bs_bit]
  by_cases q : i < n
  · rw [h i q]
  · simp [q]
theorem nat_st {s : Nat} {P : Nat → Bool} (h : ∀ i, s.testBit i = (decide (i < 19) && P i)) : ((s : Nat) : Int) = st19 P := by
  unfold st19
  congr 1
  apply Nat.eq_of_testBit_eq
  intro i
  rw [h i, bs_bit]
theorem st_and {P Q : Nat → Bool} : zand (st19 P) (st19 Q) = st19 (fun i => P i && Q i) := by
  show (((bs P 19 &&& bs Q 19 : Nat)) : Int) = _
  apply nat_st
  intro i
  rw [Nat.testBit_and, bs_bit, bs_bit]
  cases decide (i < 19) <;> simp
def onP (P : Nat → Bool) (i : Nat) : Bool := P i || (decide (1 ≤ i) && P (i - 1)) || (decide (2 ≤ i) && P (i - 2)) || (decide (3 ≤ i) && P (i - 3)) || (decide (i + 1 < 19) && P (i + 1)) || (decide (i + 2 < 19) && P (i + 2))
def bkP (P : Nat → Bool) (i : Nat) : Bool := P i || (decide (1 ≤ i) && P (i - 1)) || (decide (2 ≤ i) && P (i - 2)) || (decide (i + 1 < 19) && P (i + 1)) || (decide (i + 2 < 19) && P (i + 2)) || (decide (i + 3 < 19) && P (i + 3))
theorem tb_mul {s k i : Nat} : (s * 2 ^ k).testBit i = (decide (k ≤ i) && s.testBit (i - k)) := by
  rw [← Nat.shiftLeft_eq, Nat.testBit_shiftLeft]
theorem tb_div {s k i : Nat} : (s / 2 ^ k).testBit i = s.testBit (k + i) := by
  rw [← Nat.shiftRight_eq_div_pow, Nat.testBit_shiftRight]
theorem tb_all {i : Nat} : (524287 : Nat).testBit i = decide (i < 19) := by
  rw [show (524287 : Nat) = 2 ^ 19 - 1 by decide, Nat.testBit_two_pow_sub_one]
def nOn (s : Nat) : Nat := (((s ||| ((s * 2 ^ 1 ||| s * 2 ^ 2) ||| s * 2 ^ 3)) ||| s / 2 ^ 1) ||| s / 2 ^ 2) &&& 524287
def nBk (s : Nat) : Nat := (((s ||| ((s / 2 ^ 1 ||| s / 2 ^ 2) ||| s / 2 ^ 3)) ||| s * 2 ^ 1) ||| s * 2 ^ 2) &&& 524287
theorem st_on {P : Nat → Bool} : ((nOn (bs P 19) : Nat) : Int) = st19 (onP P) := by
  apply nat_st
  intro i
  unfold nOn onP
  simp only [Nat.testBit_and, Nat.testBit_or, tb_mul, tb_div, tb_all, bs_bit]
  by_cases h : i < 19
  · rw [decide_eq_true h, decide_eq_true (show i - 1 < 19 by omega), decide_eq_true (show i - 2 < 19 by omega), decide_eq_true (show i - 3 < 19 by omega), Nat.add_comm 1 i, Nat.add_comm 2 i]
    simp only [Bool.true_and, Bool.and_true]
    ac_rfl
  · simp [h]
theorem st_bk {P : Nat → Bool} : ((nBk (bs P 19) : Nat) : Int) = st19 (bkP P) := by
  apply nat_st
  intro i
  unfold nBk bkP
  simp only [Nat.testBit_and, Nat.testBit_or, tb_mul, tb_div, tb_all, bs_bit]
  by_cases h : i < 19
  · rw [decide_eq_true h, decide_eq_true (show i - 1 < 19 by omega), decide_eq_true (show i - 2 < 19 by omega), Nat.add_comm 1 i, Nat.add_comm 2 i, Nat.add_comm 3 i]
    simp only [Bool.true_and, Bool.and_true]
    ac_rfl
  · simp [h]
theorem two_in : ∀ i : Nat, i < 19 → (1 : Int) * 2 ^ i ≤ 2147483647 := by decide
def wthP (lo hi : Int) (i : Nat) : Bool := decide (lo ≤ (i : Int) - 9 ∧ (i : Int) - 9 ≤ hi)
theorem bs_s {P : Nat → Bool} {n : Nat} : bs P (n + 1) = bs P n ||| (if P n = true then 2 ^ n else 0) := rfl
set_option maxRecDepth 20000 in
set_option maxHeartbeats 1000000 in
theorem sp_X0_within {hh : mH} {lo hi : Int} (h1 : inI lo) (h2 : inI hi) : SpI l 1 yX0_within cX0_within 4 (some .int) [mi lo, mi hi] (hh) (fun z h => z = st19 (wthP lo hi) ∧ h = hh) := by
  refine SpI.of (cd := kdX0_within) (fT := mlook flX0) (kT := mlook klX0) (kJ := mlook jlX0) mfA_X0_within ok_X0_within fT_X0 kT_X0 jT_X0 jdk_ok True.intro (Nat.le_of_ble_eq_true rfl) (fun G hG => ?_)
  refine rRun hG 5 ?_
  have J5 : ∀ (n : Nat) (i : Nat), i ≤ 19 → 19 - i < n → G 5 [some (mi lo), some (mi hi), some (mi ((bs (wthP lo hi) i : Nat) : Int)), some (mi ((i : Int) - 9))] [] (hh) := by
    intro n
    induction n with
    | zero => intro i _ hm; exact absurd hm (Nat.not_lt_zero _)
    | succ n ih =>
      intro i hinv hm
      refine rRun hG 99999 ?_
      refine And.intro (by first | omega | (dsimp only; omega)) (And.intro (fun c1 => ?_) (fun c1 => ?_))
      · try dsimp only at c1
        refine rRun hG 99999 ?_
        refine rIR hG rfl rfl (True.intro) ?_
        obtain rfl : i = 19 := by omega
        exact ⟨rfl, rfl⟩
      · try dsimp only at c1
        refine And.intro (by first | omega | (dsimp only; omega)) (And.intro (fun c2 => ?_) (fun c2 => ?_))
        · try dsimp only at c2
          refine rRun hG 99999 ?_
          have e9 := ih (i + 1) (by omega) (by omega)
          rw [bs_s] at e9
          first | (rw [if_pos (show wthP lo hi i = true from decide_eq_true (by omega))] at e9; refine rLess hG ?_ e9; exact ⟨rfl, rfl, congrArg mi (by rw [show ((i : Int) - 9 + 9).toNat = i by omega]; unfold zor; rw [Int.one_mul, Int.toNat_natCast, show ((2 : Int) ^ i).toNat = 2 ^ i from by rw [show ((2 : Int) ^ i) = ((2 ^ i : Nat) : Int) by simp]; rfl]), congrArg mi (by omega), True.intro⟩) | (rw [if_neg (show ¬ wthP lo hi i = true from fun q => by have := of_decide_eq_true q; omega), Nat.or_zero] at e9; refine rLess hG ?_ e9; exact ⟨rfl, rfl, rfl, congrArg mi (by omega), True.intro⟩)
        · try dsimp only at c2
          refine And.intro (by first | omega | (dsimp only; omega)) (And.intro (fun c3 => ?_) (fun c3 => ?_))
          · try dsimp only at c3
            refine rRun hG 99999 ?_
            have e9 := ih (i + 1) (by omega) (by omega)
            rw [bs_s] at e9
            first | (rw [if_pos (show wthP lo hi i = true from decide_eq_true (by omega))] at e9; refine rLess hG ?_ e9; exact ⟨rfl, rfl, congrArg mi (by rw [show ((i : Int) - 9 + 9).toNat = i by omega]; unfold zor; rw [Int.one_mul, Int.toNat_natCast, show ((2 : Int) ^ i).toNat = 2 ^ i from by rw [show ((2 : Int) ^ i) = ((2 ^ i : Nat) : Int) by simp]; rfl]), congrArg mi (by omega), True.intro⟩) | (rw [if_neg (show ¬ wthP lo hi i = true from fun q => by have := of_decide_eq_true q; omega), Nat.or_zero] at e9; refine rLess hG ?_ e9; exact ⟨rfl, rfl, rfl, congrArg mi (by omega), True.intro⟩)
          · try dsimp only at c3
            refine And.intro (by exact ⟨by omega, by omega, by rw [show ((i : Int) - 9 + 9).toNat = i by omega]; exact two_in i (by omega)⟩) (And.intro (by exact ⟨Int.natCast_nonneg _, Int.mul_nonneg (by decide) (Int.pow_nonneg (by decide))⟩) (?_))
            have e9 := ih (i + 1) (by omega) (by omega)
            rw [bs_s] at e9
            first | (rw [if_pos (show wthP lo hi i = true from decide_eq_true (by omega))] at e9; refine rLess hG ?_ e9; exact ⟨rfl, rfl, congrArg mi (by rw [show ((i : Int) - 9 + 9).toNat = i by omega]; unfold zor; rw [Int.one_mul, Int.toNat_natCast, show ((2 : Int) ^ i).toNat = 2 ^ i from by rw [show ((2 : Int) ^ i) = ((2 ^ i : Nat) : Int) by simp]; rfl]), congrArg mi (by omega), True.intro⟩) | (rw [if_neg (show ¬ wthP lo hi i = true from fun q => by have := of_decide_eq_true q; omega), Nat.or_zero] at e9; refine rLess hG ?_ e9; exact ⟨rfl, rfl, rfl, congrArg mi (by omega), True.intro⟩)
  exact rLess hG (L' := [some (mi lo), some (mi hi), some (mi ((bs (wthP lo hi) 0 : Nat) : Int)), some (mi (((0 : Nat) : Int) - 9))]) ⟨rfl, rfl, rfl, rfl, True.intro⟩ (J5 _ 0 (by omega) (Nat.lt_succ_self _))
theorem nn_n {a : Nat} : (0 : Int) ≤ (a : Int) := Int.natCast_nonneg a
theorem nn_m {a : Nat} {k : Int} : (0 : Int) ≤ (a : Int) * (2 : Int) ^ k.toNat := Int.mul_nonneg (Int.natCast_nonneg a) (Int.pow_nonneg (by decide))
theorem nn_d {a : Nat} {k : Int} : (0 : Int) ≤ (a : Int) / (2 : Int) ^ k.toNat := Int.ediv_nonneg (Int.natCast_nonneg a) (Int.pow_nonneg (by decide))
set_option maxRecDepth 20000 in
set_option maxHeartbeats 1000000 in
theorem sp_X0_aDayOn {hh : mH} {s : Nat} (h1 : s < 524288) : SpI l 1 yX0_aDayOn cX0_aDayOn 2 (some .int) [mi (s : Int)] (hh) (fun z h => z = ((nOn s : Nat) : Int) ∧ h = hh) := by
  refine SpI.of (cd := kdX0_aDayOn) (fT := mlook flX0) (kT := mlook klX0) (kJ := mlook jlX0) mfA_X0_aDayOn ok_X0_aDayOn fT_X0 kT_X0 jT_X0 jdk_ok True.intro (Nat.le_of_ble_eq_true rfl) (fun G hG => ?_)
  refine rRun hG 99999 ?_
  refine And.intro (by exact ⟨by omega, by decide, by (show (s : Int) * 2 ≤ 2147483647; omega)⟩) (And.intro (by exact ⟨by omega, by decide, by (show (s : Int) * 4 ≤ 2147483647; omega)⟩) (And.intro (by first | exact ⟨nn_n, nn_n⟩ | exact ⟨nn_m, nn_m⟩ | exact ⟨nn_n, nn_m⟩ | exact ⟨nn_d, nn_d⟩ | exact ⟨nn_n, nn_d⟩ | exact ⟨nn_n, by decide⟩) (And.intro (by exact ⟨by omega, by decide, by (show (s : Int) * 8 ≤ 2147483647; omega)⟩) (And.intro (by first | exact ⟨nn_n, nn_n⟩ | exact ⟨nn_m, nn_m⟩ | exact ⟨nn_n, nn_m⟩ | exact ⟨nn_d, nn_d⟩ | exact ⟨nn_n, nn_d⟩ | exact ⟨nn_n, by decide⟩) (And.intro (by first | exact ⟨nn_n, nn_n⟩ | exact ⟨nn_m, nn_m⟩ | exact ⟨nn_n, nn_m⟩ | exact ⟨nn_d, nn_d⟩ | exact ⟨nn_n, nn_d⟩ | exact ⟨nn_n, by decide⟩) (And.intro (by exact ⟨by omega, by decide⟩) (And.intro (by first | exact ⟨nn_n, nn_n⟩ | exact ⟨nn_m, nn_m⟩ | exact ⟨nn_n, nn_m⟩ | exact ⟨nn_d, nn_d⟩ | exact ⟨nn_n, nn_d⟩ | exact ⟨nn_n, by decide⟩) (And.intro (by exact ⟨by omega, by decide⟩) (And.intro (by first | exact ⟨nn_n, nn_n⟩ | exact ⟨nn_m, nn_m⟩ | exact ⟨nn_n, nn_m⟩ | exact ⟨nn_d, nn_d⟩ | exact ⟨nn_n, nn_d⟩ | exact ⟨nn_n, by decide⟩) (And.intro (by first | exact ⟨nn_n, nn_n⟩ | exact ⟨nn_m, nn_m⟩ | exact ⟨nn_n, nn_m⟩ | exact ⟨nn_d, nn_d⟩ | exact ⟨nn_n, nn_d⟩ | exact ⟨nn_n, by decide⟩) (?_)))))))))))
  refine rIR hG rfl rfl (True.intro) ?_
  exact ⟨rfl, rfl⟩
set_option maxRecDepth 20000 in
set_option maxHeartbeats 1000000 in
theorem sp_X0_aDayBack {hh : mH} {s : Nat} (h1 : s < 524288) : SpI l 1 yX0_aDayBack cX0_aDayBack 2 (some .int) [mi (s : Int)] (hh) (fun z h => z = ((nBk s : Nat) : Int) ∧ h = hh) := by
  refine SpI.of (cd := kdX0_aDayBack) (fT := mlook flX0) (kT := mlook klX0) (kJ := mlook jlX0) mfA_X0_aDayBack ok_X0_aDayBack fT_X0 kT_X0 jT_X0 jdk_ok True.intro (Nat.le_of_ble_eq_true rfl) (fun G hG => ?_)
  refine rRun hG 99999 ?_
  refine And.intro (by exact ⟨by omega, by decide⟩) (And.intro (by exact ⟨by omega, by decide⟩) (And.intro (by first | exact ⟨nn_n, nn_n⟩ | exact ⟨nn_m, nn_m⟩ | exact ⟨nn_n, nn_m⟩ | exact ⟨nn_d, nn_d⟩ | exact ⟨nn_n, nn_d⟩ | exact ⟨nn_n, by decide⟩) (And.intro (by exact ⟨by omega, by decide⟩) (And.intro (by first | exact ⟨nn_n, nn_n⟩ | exact ⟨nn_m, nn_m⟩ | exact ⟨nn_n, nn_m⟩ | exact ⟨nn_d, nn_d⟩ | exact ⟨nn_n, nn_d⟩ | exact ⟨nn_n, by decide⟩) (And.intro (by first | exact ⟨nn_n, nn_n⟩ | exact ⟨nn_m, nn_m⟩ | exact ⟨nn_n, nn_m⟩ | exact ⟨nn_d, nn_d⟩ | exact ⟨nn_n, nn_d⟩ | exact ⟨nn_n, by decide⟩) (And.intro (by exact ⟨by omega, by decide, by (show (s : Int) * 2 ≤ 2147483647; omega)⟩) (And.intro (by first | exact ⟨nn_n, nn_n⟩ | exact ⟨nn_m, nn_m⟩ | exact ⟨nn_n, nn_m⟩ | exact ⟨nn_d, nn_d⟩ | exact ⟨nn_n, nn_d⟩ | exact ⟨nn_n, by decide⟩) (And.intro (by exact ⟨by omega, by decide, by (show (s : Int) * 4 ≤ 2147483647; omega)⟩) (And.intro (by first | exact ⟨nn_n, nn_n⟩ | exact ⟨nn_m, nn_m⟩ | exact ⟨nn_n, nn_m⟩ | exact ⟨nn_d, nn_d⟩ | exact ⟨nn_n, nn_d⟩ | exact ⟨nn_n, by decide⟩) (And.intro (by first | exact ⟨nn_n, nn_n⟩ | exact ⟨nn_m, nn_m⟩ | exact ⟨nn_n, nn_m⟩ | exact ⟨nn_d, nn_d⟩ | exact ⟨nn_n, nn_d⟩ | exact ⟨nn_n, by decide⟩) (?_)))))))))))
  refine rIR hG rfl rfl (True.intro) ?_
  exact ⟨rfl, rfl⟩
end WALKS
