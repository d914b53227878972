/-! Text: tokens -/
section WALKS
variable {l : Launch}
/-- the text in order: 150 bytes at most, a place within it -/
def XOK (x : XD) : Prop := (0 ≤ xN x ∧ xN x ≤ 150) ∧ (0 ≤ xP x ∧ xP x ≤ xN x) ∧ (0 ≤ xS x ∧ xS x ≤ 150) ∧ (0 ≤ xK x ∧ xK x ≤ 4) ∧ (0 ≤ xV x ∧ xV x ≤ 255) ∧ (-1 ≤ xF x ∧ xF x ≤ 150) ∧ ∀ i, i < 150 → 0 ≤ xB x i ∧ xB x i ≤ 255
def bAt (b : FN) (n i : Int) : Int := if 0 ≤ i ∧ i < n ∧ i < 150 then b i.toNat else -1
def isLt (c : Int) : Prop := 97 ≤ c ∧ c ≤ 122
def isDg (c : Int) : Prop := 48 ≤ c ∧ c ≤ 57

set_option maxRecDepth 20000 in
set_option maxHeartbeats 4000000 in
theorem sp_X4_isLetter {hh : mH} {e : Int} (h1 : inI e) : SpI l 1 yX4_isLetter cX4_isLetter 1 (some .boolean) [mi e] (hh) (fun z h => z = (if 97 ≤ e ∧ e ≤ 122 then 1 else 0) ∧ h = hh) := by
  refine SpI.of (cd := kdX4_isLetter) (fT := mlook flX4) (kT := mlook klX4) (kJ := mlook jlX4) mfA_X4_isLetter ok_X4_isLetter fT_X4 kT_X4 jT_X4 jdk_ok True.intro (Nat.le_of_ble_eq_true rfl) (fun G hG => ?_)
  refine rRun hG 99999 ?_
  refine And.intro (by first | omega | (dsimp only; omega)) (And.intro (fun c1 => ?_) (fun c1 => ?_))
  · try dsimp only at c1
    refine rRun hG 99999 ?_
    refine rIR hG rfl rfl (by first | exact Or.inl rfl | exact Or.inr rfl | (show _ ∨ _; omega)) ?_
    exact ⟨by first | (rw [if_pos (by omega)]; done) | (rw [if_neg (by omega)]; done), rfl⟩
  · try dsimp only at c1
    refine And.intro (by first | omega | (dsimp only; omega)) (And.intro (fun c2 => ?_) (fun c2 => ?_))
    · try dsimp only at c2
      refine rRun hG 99999 ?_
      refine rIR hG rfl rfl (by first | exact Or.inl rfl | exact Or.inr rfl | (show _ ∨ _; omega)) ?_
      exact ⟨by first | (rw [if_pos (by omega)]; done) | (rw [if_neg (by omega)]; done), rfl⟩
    · try dsimp only at c2
      refine rIR hG rfl rfl (by first | exact Or.inl rfl | exact Or.inr rfl | (show _ ∨ _; omega)) ?_
      exact ⟨by first | (rw [if_pos (by omega)]; done) | (rw [if_neg (by omega)]; done), rfl⟩
set_option maxRecDepth 20000 in
set_option maxHeartbeats 4000000 in
theorem sp_X4_isDigit {hh : mH} {e : Int} (h1 : inI e) : SpI l 1 yX4_isDigit cX4_isDigit 1 (some .boolean) [mi e] (hh) (fun z h => z = (if 48 ≤ e ∧ e ≤ 57 then 1 else 0) ∧ h = hh) := by
  refine SpI.of (cd := kdX4_isDigit) (fT := mlook flX4) (kT := mlook klX4) (kJ := mlook jlX4) mfA_X4_isDigit ok_X4_isDigit fT_X4 kT_X4 jT_X4 jdk_ok True.intro (Nat.le_of_ble_eq_true rfl) (fun G hG => ?_)
  refine rRun hG 99999 ?_
  refine And.intro (by first | omega | (dsimp only; omega)) (And.intro (fun c1 => ?_) (fun c1 => ?_))
  · try dsimp only at c1
    refine rRun hG 99999 ?_
    refine rIR hG rfl rfl (by first | exact Or.inl rfl | exact Or.inr rfl | (show _ ∨ _; omega)) ?_
    exact ⟨by first | (rw [if_pos (by omega)]; done) | (rw [if_neg (by omega)]; done), rfl⟩
  · try dsimp only at c1
    refine And.intro (by first | omega | (dsimp only; omega)) (And.intro (fun c2 => ?_) (fun c2 => ?_))
    · try dsimp only at c2
      refine rRun hG 99999 ?_
      refine rIR hG rfl rfl (by first | exact Or.inl rfl | exact Or.inr rfl | (show _ ∨ _; omega)) ?_
      exact ⟨by first | (rw [if_pos (by omega)]; done) | (rw [if_neg (by omega)]; done), rfl⟩
    · try dsimp only at c2
      refine rIR hG rfl rfl (by first | exact Or.inl rfl | exact Or.inr rfl | (show _ ∨ _; omega)) ?_
      exact ⟨by first | (rw [if_pos (by omega)]; done) | (rw [if_neg (by omega)]; done), rfl⟩
set_option maxRecDepth 20000 in
set_option maxHeartbeats 4000000 in
theorem sp_X4_byteAt {uo : UD} {ux : XD} {ua ub : TD} {v0 v1 v2 : SD} {up uq : PD} {ur : HD} {i : Int} (h1 : inI i) (h2 : inI (xN ux)) : SpI l 1 yX4_byteAt cX4_byteAt 2 (some .int) [mr 1, mi i] (hC uo ux ua ub v0 v1 v2 up uq ur) (fun z h => z = bAt (xB ux) (xN ux) i ∧ h = hC uo ux ua ub v0 v1 v2 up uq ur) := by
  refine SpI.of (cd := kdX4_byteAt) (fT := mlook flX4) (kT := mlook klX4) (kJ := mlook jlX4) mfA_X4_byteAt ok_X4_byteAt fT_X4 kT_X4 jT_X4 jdk_ok True.intro (Nat.le_of_ble_eq_true rfl) (fun G hG => ?_)
  refine rRun hG 99999 ?_
  refine And.intro (by first | omega | (dsimp only; omega)) (And.intro (fun c1 => ?_) (fun c1 => ?_))
  · try dsimp only at c1
    refine rRun hG 99999 ?_
    refine rIR hG rfl rfl (True.intro) ?_
    refine ⟨?_, rfl⟩
    unfold bAt
    first | (rw [if_pos (by omega)]; done) | (rw [if_neg (by omega)]; done)
  · try dsimp only at c1
    refine And.intro rfl (And.intro (by first | omega | (dsimp only; omega)) (And.intro (fun c2 => ?_) (fun c2 => ?_)))
    · try dsimp only at c2
      refine rRun hG 99999 ?_
      refine rIR hG rfl rfl (True.intro) ?_
      refine ⟨?_, rfl⟩
      unfold bAt
      first | (rw [if_pos (by omega)]; done) | (rw [if_neg (by omega)]; done)
    · try dsimp only at c2
      refine And.intro rfl (And.intro (by decide) (And.intro (by first | omega | (dsimp only; omega)) (And.intro (fun c3 => ?_) (fun c3 => ?_))))
      · try dsimp only at c3
        refine rRun hG 99999 ?_
        refine rIR hG rfl rfl (True.intro) ?_
        refine ⟨?_, rfl⟩
        unfold bAt
        first | (rw [if_pos (by omega)]; done) | (rw [if_neg (by omega)]; done)
      · try dsimp only at c3
        refine And.intro rfl (And.intro (by first | omega | (dsimp only; omega)) (?_))
        refine rIR hG rfl rfl (True.intro) ?_
        refine ⟨?_, rfl⟩
        unfold bAt
        first | (rw [if_pos (by omega)]; done) | (rw [if_neg (by omega)]; done)
def xSet (x : XD) (p s k v f : Int) : XD := (xB x, xN x, p, s, k, v, f, xR x, xL x, xA x)
/-- where a run of bytes that are so ends -/
def runE (P : Int → Bool) (b : FN) (n : Int) : Nat → Int → Int
  | 0, i => i
  | f + 1, i => if i < n ∧ P (bAt b n i) = true then runE P b n f (i + 1) else i
def pSp (c : Int) : Bool := c == 32
def pLt (c : Int) : Bool := decide (97 ≤ c ∧ c ≤ 122)
def pDg (c : Int) : Bool := decide (48 ≤ c ∧ c ≤ 57)
theorem runE_s {P : Int → Bool} {b : FN} {n : Int} {f : Nat} {i : Int} : runE P b n (f + 1) i = if i < n ∧ P (bAt b n i) = true then runE P b n f (i + 1) else i := rfl
theorem runE_in {P : Int → Bool} {b : FN} {n : Int} : ∀ {f : Nat} {i : Int}, i ≤ n → i ≤ runE P b n f i ∧ runE P b n f i ≤ n
  | 0, i, h => ⟨Int.le_refl _, h⟩
  | f + 1, i, h => by
    rw [runE_s]
    split
    · rename_i q
      have := runE_in (P := P) (b := b) (n := n) (f := f) (i := i + 1) (by omega)
      omega
    · omega
/-- the run from i to the end -/
def runT (P : Int → Bool) (b : FN) (n i : Int) : Int := runE P b n (n - i).toNat i
theorem runT_go {P : Int → Bool} {b : FN} {n i : Int} (h : i < n) (hp : P (bAt b n i) = true) : runT P b n i = runT P b n (i + 1) := by
  unfold runT
  rw [show (n - i).toNat = (n - (i + 1)).toNat + 1 by omega, runE_s, if_pos ⟨h, hp⟩]
theorem runT_no {P : Int → Bool} {b : FN} {n i : Int} (h : ¬ (i < n ∧ P (bAt b n i) = true)) : runT P b n i = i := by
  unfold runT
  by_cases q : i < n
  · rw [show (n - i).toNat = (n - (i + 1)).toNat + 1 by omega, runE_s, if_neg h]
  · rw [show (n - i).toNat = 0 by omega]; rfl
theorem runT_in {P : Int → Bool} {b : FN} {n i : Int} (h : i ≤ n) : i ≤ runT P b n i ∧ runT P b n i ≤ n := runE_in h
/-- the number of a run of figures from i, cut above 99, v ahead of it -/
def numE (b : FN) (n : Int) : Nat → Int → Int → Int
  | 0, _, v => v
  | f + 1, i, v => if i < n ∧ pDg (bAt b n i) = true then numE b n f (i + 1) (min 100 (10 * v + bAt b n i - 48)) else v
def numT (b : FN) (n i v : Int) : Int := numE b n (n - i).toNat i v
theorem numT_go {b : FN} {n i v : Int} (h : i < n) (hp : pDg (bAt b n i) = true) : numT b n i v = numT b n (i + 1) (min 100 (10 * v + bAt b n i - 48)) := by
  unfold numT
  rw [show (n - i).toNat = (n - (i + 1)).toNat + 1 by omega]
  show (if i < n ∧ pDg (bAt b n i) = true then _ else _) = _
  rw [if_pos ⟨h, hp⟩]
theorem numT_no {b : FN} {n i v : Int} (h : ¬ (i < n ∧ pDg (bAt b n i) = true)) : numT b n i v = v := by
  unfold numT
  by_cases q : i < n
  · rw [show (n - i).toNat = (n - (i + 1)).toNat + 1 by omega]
    show (if i < n ∧ pDg (bAt b n i) = true then _ else _) = _
    rw [if_neg h]
  · rw [show (n - i).toNat = 0 by omega]; rfl
theorem bAt_in {x : XD} (hx : ∀ i, i < 150 → 0 ≤ xB x i ∧ xB x i ≤ 255) {n i : Int} : -1 ≤ bAt (xB x) n i ∧ bAt (xB x) n i ≤ 255 := by
  unfold bAt
  split
  · have := hx i.toNat (by omega); omega
  · omega
theorem numE_in {b : FN} {n : Int} : ∀ {f : Nat} {i v : Int}, 0 ≤ v ∧ v ≤ 100 → 0 ≤ numE b n f i v ∧ numE b n f i v ≤ 100
  | 0, i, v, h => h
  | f + 1, i, v, h => by
    show 0 ≤ (if i < n ∧ pDg (bAt b n i) = true then _ else _) ∧ (if i < n ∧ pDg (bAt b n i) = true then _ else _) ≤ 100
    by_cases q : i < n ∧ pDg (bAt b n i) = true
    · rw [if_pos q]
      have := of_decide_eq_true q.2
      exact numE_in (by omega)
    · rw [if_neg q]; exact h
set_option maxRecDepth 20000 in
set_option maxHeartbeats 4000000 in
theorem sp_X4_takeLetters {uo : UD} {ux : XD} {ua ub : TD} {v0 v1 v2 : SD} {up uq : PD} {ur : HD} {c : Int} (h1 : inI c) (hn : 0 ≤ xN ux ∧ xN ux ≤ 150) (hp : 0 ≤ xP ux ∧ xP ux ≤ xN ux) (hs : 0 ≤ xS ux ∧ xS ux ≤ 150) (hx : ∀ i, i < 150 → 0 ≤ xB ux i ∧ xB ux i ≤ 255) : SpV l 3 yX4_takeLetters cX4_takeLetters 2 none [mr 1, mi c] (hC uo ux ua ub v0 v1 v2 up uq ur) (fun h => h = hC uo (xSet ux (runT pLt (xB ux) (xN ux) (xP ux)) (xS ux) 1 (if runT pLt (xB ux) (xN ux) (xP ux) - xS ux = 1 then c else 0) (xF ux)) ua ub v0 v1 v2 up uq ur) := by
  refine SpV.of (cd := kdX4_takeLetters) (fT := mlook flX4) (kT := mlook klX4) (kJ := mlook jlX4) mfA_X4_takeLetters ok_X4_takeLetters fT_X4 kT_X4 jT_X4 jdk_ok True.intro (Nat.le_of_ble_eq_true rfl) (fun G hG => ?_)
  have J0 : ∀ (n : Nat) (i : Int), ((xP ux ≤ i ∧ i ≤ xN ux) ∧ runT pLt (xB ux) (xN ux) i = runT pLt (xB ux) (xN ux) (xP ux)) → (xN ux - i).toNat < n → G 0 [some (mr 1), some (mi c)] [] (hC uo xSet ux i (xS ux) (xK ux) (xV ux) (xF ux) ua ub v0 v1 v2 up uq ur) := by
    intro n
    induction n with
    | zero => intro i _ hm; exact absurd hm (Nat.not_lt_zero _)
    | succ n ih =>
      intro i hinv hm
      have hb9 := bAt_in (x := ux) hx (n := xN ux) (i := i)
      refine rRun hG 38 ?_
      refine And.intro rfl (And.intro rfl (And.intro (by first | omega | (dsimp only; omega)) (And.intro (fun c1 => ?_) (fun c1 => ?_))))
      · try dsimp only at c1
        have hi9 : i = runT pLt (xB ux) (xN ux) (xP ux) := by
          rw [← hinv.2]
          refine (runT_no ?_).symm
          rintro ⟨q1, q2⟩
          have q3 := of_decide_eq_true q2
          omega
        refine rRun hG 99999 ?_
        refine And.intro ⟨rfl, by exact Nat.le_of_ble_eq_true rfl, by exact True.intro⟩ (And.intro rfl (And.intro rfl (And.intro (by first | omega | (dsimp only; omega)) (And.intro (fun c2 => ?_) (fun c2 => ?_)))))
        · try dsimp only at c2
          refine rRun hG 99999 ?_
          refine And.intro ⟨rfl, by exact Nat.le_of_ble_eq_true rfl, by exact True.intro⟩ (?_)
          refine rVR hG rfl rfl rfl ?_
          rw [← hi9]
          first | (rw [if_pos (by omega)]; rfl) | (rw [if_neg (by omega)]; rfl)
        · try dsimp only at c2
          refine rRun hG 99999 ?_
          refine And.intro ⟨rfl, by exact Nat.le_of_ble_eq_true rfl, by exact True.intro⟩ (?_)
          refine rVR hG rfl rfl rfl ?_
          rw [← hi9]
          first | (rw [if_pos (by omega)]; rfl) | (rw [if_neg (by omega)]; rfl)
      · try dsimp only at c1
        refine And.intro rfl (?_)
        refine rV hG (sp_X4_byteAt (uo := uo) (ux := xSet ux i (xS ux) (xK ux) (xV ux) (xF ux)) (ua := ua) (ub := ub) (v0 := v0) (v1 := v1) (v2 := v2) (up := up) (uq := uq) (ur := ur) (i := i) (by omega) (by show inI (xN ux); omega)) rfl rfl lk_X4_116 mf_X4_byteAt (by decide) (Nat.le_of_ble_eq_true rfl) ⟨_, _, _, rfl, rfl, rfl⟩ ?_
        rintro w _ ⟨hw, rfl⟩
        obtain rfl : w = bAt (xB ux) (xN ux) i := hw
        refine rS hG (sp_X4_isLetter (e := bAt (xB ux) (xN ux) i) (by omega)) rfl rfl lk_X4_120 mf_X4_isLetter (by decide) (Nat.le_of_ble_eq_true rfl) ?_
        rintro v _ ⟨hv, rfl⟩
        have v1 : (v = 1 ∧ (97 ≤ bAt (xB ux) (xN ux) i ∧ bAt (xB ux) (xN ux) i ≤ 122)) ∨ (v = 0 ∧ ¬ (97 ≤ bAt (xB ux) (xN ux) i ∧ bAt (xB ux) (xN ux) i ≤ 122)) := (by rw [hv]; by_cases q9 : (97 ≤ bAt (xB ux) (xN ux) i ∧ bAt (xB ux) (xN ux) i ≤ 122) <;> simp [q9])
        clear hv
        refine rRun hG 38 ?_
        refine And.intro (by first | omega | (dsimp only; omega)) (And.intro (fun c5 => ?_) (fun c5 => ?_))
        · try dsimp only at c5
          have hi9 : i = runT pLt (xB ux) (xN ux) (xP ux) := by
            rw [← hinv.2]
            refine (runT_no ?_).symm
            rintro ⟨q1, q2⟩
            have q3 := of_decide_eq_true q2
            omega
          refine rRun hG 99999 ?_
          refine And.intro ⟨rfl, by exact Nat.le_of_ble_eq_true rfl, by exact True.intro⟩ (And.intro rfl (And.intro rfl (And.intro (by first | omega | (dsimp only; omega)) (And.intro (fun c6 => ?_) (fun c6 => ?_)))))
          · try dsimp only at c6
            refine rRun hG 99999 ?_
            refine And.intro ⟨rfl, by exact Nat.le_of_ble_eq_true rfl, by exact True.intro⟩ (?_)
            refine rVR hG rfl rfl rfl ?_
            rw [← hi9]
            first | (rw [if_pos (by omega)]; rfl) | (rw [if_neg (by omega)]; rfl)
          · try dsimp only at c6
            refine rRun hG 99999 ?_
            refine And.intro ⟨rfl, by exact Nat.le_of_ble_eq_true rfl, by exact True.intro⟩ (?_)
            refine rVR hG rfl rfl rfl ?_
            rw [← hi9]
            first | (rw [if_pos (by omega)]; rfl) | (rw [if_neg (by omega)]; rfl)
        · try dsimp only at c5
          refine And.intro rfl (And.intro ⟨rfl, by exact Nat.le_of_ble_eq_true rfl, by exact True.intro⟩ (?_))
          refine ih (i + 1) ⟨by omega, ?_⟩ (by omega)
          rw [← hinv.2]
          exact (runT_go (by omega) (by unfold pLt; exact decide_eq_true (by omega))).symm
  exact J0 _ (xP ux) ⟨by omega, rfl⟩ (Nat.lt_succ_self _)
end WALKS
