/-! Text: tokens -/
section WALKS
variable {l : Launch}
/-- the text in order: 150 bytes at most, a place within it -/
def XOK (x : XD) : Prop := (0 ≤ xN x ∧ xN x ≤ 150) ∧ (0 ≤ xP x ∧ xP x ≤ xN x) ∧ (0 ≤ xS x ∧ xS x ≤ 150) ∧ (0 ≤ xK x ∧ xK x ≤ 4) ∧ (0 ≤ xV x ∧ xV x ≤ 255) ∧ (-1 ≤ xF x ∧ xF x ≤ 150) ∧ ∀ i, i < 150 → 0 ≤ xB x i ∧ xB x i ≤ 255
def bAt (b : FN) (n i : Int) : Int := if 0 ≤ i ∧ i < n ∧ i < 150 then b i.toNat else -1
def isLt (c : Int) : Prop := 97 ≤ c ∧ c ≤ 122
def isDg (c : Int) : Prop := 48 ≤ c ∧ c ≤ 57
def xSet (x : XD) (p s k v f : Int) : XD := (xB x, xN x, p, s, k, v, f, xR x, xL x, xA x)
theorem xSS {x : XD} {p s k v f p' s' k' v' f' : Int} : xSet (xSet x p s k v f) p' s' k' v' f' = xSet x p' s' k' v' f' := rfl
theorem xB_s {x : XD} {p s k v f : Int} : xB (xSet x p s k v f) = xB x := rfl
theorem xN_s {x : XD} {p s k v f : Int} : xN (xSet x p s k v f) = xN x := rfl
theorem xP_s {x : XD} {p s k v f : Int} : xP (xSet x p s k v f) = p := rfl
theorem xS_s {x : XD} {p s k v f : Int} : xS (xSet x p s k v f) = s := rfl
theorem xK_s {x : XD} {p s k v f : Int} : xK (xSet x p s k v f) = k := rfl
theorem xV_s {x : XD} {p s k v f : Int} : xV (xSet x p s k v f) = v := rfl
theorem xF_s {x : XD} {p s k v f : Int} : xF (xSet x p s k v f) = f := rfl
theorem xR_s {x : XD} {p s k v f : Int} : xR (xSet x p s k v f) = xR x := rfl
theorem xL_s {x : XD} {p s k v f : Int} : xL (xSet x p s k v f) = xL x := rfl
theorem xA_s {x : XD} {p s k v f : Int} : xA (xSet x p s k v f) = xA x := rfl
set_option maxRecDepth 20000 in
set_option maxHeartbeats 1000000 in
theorem sp_X4_isLetter {hh : mH} {e : Int} (h1 : inI e) : SpI l 1 yX4_isLetter cX4_isLetter 1 (some .boolean) [mi e] (hh) (fun z h => z = (if 97 ≤ e ∧ e ≤ 122 then 1 else 0) ∧ h = hh) := by
  refine SpI.of (cd := kdX4_isLetter) (fT := mlook flX4) (kT := mlook klX4) (kJ := mlook jlX4) mfA_X4_isLetter ok_X4_isLetter fT_X4 kT_X4 jT_X4 jdk_ok True.intro (Nat.le_of_ble_eq_true rfl) (fun G hG => ?_)
  refine rRun hG 99999 ?_
  refine And.intro (by first | omega | (simp only [xB_s, xN_s, xP_s, xS_s, xK_s, xV_s, xF_s, xR_s, xL_s, xA_s]; omega)) (And.intro (fun c1 => ?_) (fun c1 => ?_))
  · try simp only [xB_s, xN_s, xP_s, xS_s, xK_s, xV_s, xF_s, xR_s, xL_s, xA_s] at c1
    refine rRun hG 99999 ?_
    refine rIR hG rfl rfl (by first | exact Or.inl rfl | exact Or.inr rfl | (show _ ∨ _; omega)) ?_
    exact ⟨by first | (rw [if_pos (by omega)]; done) | (rw [if_neg (by omega)]; done), rfl⟩
  · try simp only [xB_s, xN_s, xP_s, xS_s, xK_s, xV_s, xF_s, xR_s, xL_s, xA_s] at c1
    refine And.intro (by first | omega | (simp only [xB_s, xN_s, xP_s, xS_s, xK_s, xV_s, xF_s, xR_s, xL_s, xA_s]; omega)) (And.intro (fun c2 => ?_) (fun c2 => ?_))
    · try simp only [xB_s, xN_s, xP_s, xS_s, xK_s, xV_s, xF_s, xR_s, xL_s, xA_s] at c2
      refine rRun hG 99999 ?_
      refine rIR hG rfl rfl (by first | exact Or.inl rfl | exact Or.inr rfl | (show _ ∨ _; omega)) ?_
      exact ⟨by first | (rw [if_pos (by omega)]; done) | (rw [if_neg (by omega)]; done), rfl⟩
    · try simp only [xB_s, xN_s, xP_s, xS_s, xK_s, xV_s, xF_s, xR_s, xL_s, xA_s] at c2
      refine rIR hG rfl rfl (by first | exact Or.inl rfl | exact Or.inr rfl | (show _ ∨ _; omega)) ?_
      exact ⟨by first | (rw [if_pos (by omega)]; done) | (rw [if_neg (by omega)]; done), rfl⟩
set_option maxRecDepth 20000 in
set_option maxHeartbeats 1000000 in
theorem sp_X4_isDigit {hh : mH} {e : Int} (h1 : inI e) : SpI l 1 yX4_isDigit cX4_isDigit 1 (some .boolean) [mi e] (hh) (fun z h => z = (if 48 ≤ e ∧ e ≤ 57 then 1 else 0) ∧ h = hh) := by
  refine SpI.of (cd := kdX4_isDigit) (fT := mlook flX4) (kT := mlook klX4) (kJ := mlook jlX4) mfA_X4_isDigit ok_X4_isDigit fT_X4 kT_X4 jT_X4 jdk_ok True.intro (Nat.le_of_ble_eq_true rfl) (fun G hG => ?_)
  refine rRun hG 99999 ?_
  refine And.intro (by first | omega | (simp only [xB_s, xN_s, xP_s, xS_s, xK_s, xV_s, xF_s, xR_s, xL_s, xA_s]; omega)) (And.intro (fun c1 => ?_) (fun c1 => ?_))
  · try simp only [xB_s, xN_s, xP_s, xS_s, xK_s, xV_s, xF_s, xR_s, xL_s, xA_s] at c1
    refine rRun hG 99999 ?_
    refine rIR hG rfl rfl (by first | exact Or.inl rfl | exact Or.inr rfl | (show _ ∨ _; omega)) ?_
    exact ⟨by first | (rw [if_pos (by omega)]; done) | (rw [if_neg (by omega)]; done), rfl⟩
  · try simp only [xB_s, xN_s, xP_s, xS_s, xK_s, xV_s, xF_s, xR_s, xL_s, xA_s] at c1
    refine And.intro (by first | omega | (simp only [xB_s, xN_s, xP_s, xS_s, xK_s, xV_s, xF_s, xR_s, xL_s, xA_s]; omega)) (And.intro (fun c2 => ?_) (fun c2 => ?_))
    · try simp only [xB_s, xN_s, xP_s, xS_s, xK_s, xV_s, xF_s, xR_s, xL_s, xA_s] at c2
      refine rRun hG 99999 ?_
      refine rIR hG rfl rfl (by first | exact Or.inl rfl | exact Or.inr rfl | (show _ ∨ _; omega)) ?_
      exact ⟨by first | (rw [if_pos (by omega)]; done) | (rw [if_neg (by omega)]; done), rfl⟩
    · try simp only [xB_s, xN_s, xP_s, xS_s, xK_s, xV_s, xF_s, xR_s, xL_s, xA_s] at c2
      refine rIR hG rfl rfl (by first | exact Or.inl rfl | exact Or.inr rfl | (show _ ∨ _; omega)) ?_
      exact ⟨by first | (rw [if_pos (by omega)]; done) | (rw [if_neg (by omega)]; done), rfl⟩
set_option maxRecDepth 20000 in
set_option maxHeartbeats 1000000 in
theorem sp_X4_byteAt {uo : UD} {ux : XD} {ua ub : TD} {v0 v1 v2 : SD} {up uq : PD} {ur : HD} {i : Int} (h1 : inI i) (h2 : inI (xN ux)) : SpI l 1 yX4_byteAt cX4_byteAt 2 (some .int) [mr 1, mi i] (hC uo ux ua ub v0 v1 v2 up uq ur) (fun z h => z = bAt (xB ux) (xN ux) i ∧ h = hC uo ux ua ub v0 v1 v2 up uq ur) := by
  refine SpI.of (cd := kdX4_byteAt) (fT := mlook flX4) (kT := mlook klX4) (kJ := mlook jlX4) mfA_X4_byteAt ok_X4_byteAt fT_X4 kT_X4 jT_X4 jdk_ok True.intro (Nat.le_of_ble_eq_true rfl) (fun G hG => ?_)
  refine rRun hG 99999 ?_
  refine And.intro (by first | omega | (simp only [xB_s, xN_s, xP_s, xS_s, xK_s, xV_s, xF_s, xR_s, xL_s, xA_s]; omega)) (And.intro (fun c1 => ?_) (fun c1 => ?_))
  · try simp only [xB_s, xN_s, xP_s, xS_s, xK_s, xV_s, xF_s, xR_s, xL_s, xA_s] at c1
    refine rRun hG 99999 ?_
    refine rIR hG rfl rfl (True.intro) ?_
    refine ⟨?_, rfl⟩
    unfold bAt
    first | (rw [if_pos (by omega)]; done) | (rw [if_neg (by omega)]; done)
  · try simp only [xB_s, xN_s, xP_s, xS_s, xK_s, xV_s, xF_s, xR_s, xL_s, xA_s] at c1
    refine And.intro rfl (And.intro (by first | omega | (simp only [xB_s, xN_s, xP_s, xS_s, xK_s, xV_s, xF_s, xR_s, xL_s, xA_s]; omega)) (And.intro (fun c2 => ?_) (fun c2 => ?_)))
    · try simp only [xB_s, xN_s, xP_s, xS_s, xK_s, xV_s, xF_s, xR_s, xL_s, xA_s] at c2
      refine rRun hG 99999 ?_
      refine rIR hG rfl rfl (True.intro) ?_
      refine ⟨?_, rfl⟩
      unfold bAt
      first | (rw [if_pos (by omega)]; done) | (rw [if_neg (by omega)]; done)
    · try simp only [xB_s, xN_s, xP_s, xS_s, xK_s, xV_s, xF_s, xR_s, xL_s, xA_s] at c2
      refine And.intro rfl (And.intro (by decide) (And.intro (by first | omega | (simp only [xB_s, xN_s, xP_s, xS_s, xK_s, xV_s, xF_s, xR_s, xL_s, xA_s]; omega)) (And.intro (fun c3 => ?_) (fun c3 => ?_))))
      · try simp only [xB_s, xN_s, xP_s, xS_s, xK_s, xV_s, xF_s, xR_s, xL_s, xA_s] at c3
        refine rRun hG 99999 ?_
        refine rIR hG rfl rfl (True.intro) ?_
        refine ⟨?_, rfl⟩
        unfold bAt
        first | (rw [if_pos (by omega)]; done) | (rw [if_neg (by omega)]; done)
      · try simp only [xB_s, xN_s, xP_s, xS_s, xK_s, xV_s, xF_s, xR_s, xL_s, xA_s] at c3
        refine And.intro rfl (And.intro (by first | omega | (simp only [xB_s, xN_s, xP_s, xS_s, xK_s, xV_s, xF_s, xR_s, xL_s, xA_s]; omega)) (?_))
        refine rIR hG rfl rfl (True.intro) ?_
        refine ⟨?_, rfl⟩
        unfold bAt
        first | (rw [if_pos (by omega)]; done) | (rw [if_neg (by omega)]; done)
/-- where a run of bytes that are so ends -/
def runE (P : Int → Bool) (b : FN) (n : Int) : Nat → Int → Int
  | 0, i => i
  | f + 1, i => if i < n ∧ P (bAt b n i) = true then runE P b n f (i + 1) else i
def pSp (c : Int) : Bool := c == 32
def pLt (c : Int) : Bool := decide (97 ≤ c ∧ c ≤ 122)
def pDg (c : Int) : Bool := decide (48 ≤ c ∧ c ≤ 57)
theorem runE_s {P : Int → Bool} {b : FN} {n : Int} {f : Nat} {i : Int} : runE P b n (f + 1) i = if i < n ∧ P (bAt b n i) = true then runE P b n f (i + 1) else i := rfl
theorem runE_in {P : Int → Bool} {b : FN} {n : Int} : ∀ {f : Nat} {i : Int}, i ≤ n → i ≤ runE P b n f i ∧ runE P b n f i ≤ n
  | 0, i, h => ⟨Int.le_refl _, h⟩
  | f + 1, i, h => by
    rw [runE_s]
    split
    · rename_i q
      have := runE_in (P := P) (b := b) (n := n) (f := f) (i := i + 1) (by omega)
      omega
    · omega
/-- the run from i to the end -/
def runT (P : Int → Bool) (b : FN) (n i : Int) : Int := runE P b n (n - i).toNat i
theorem runT_go {P : Int → Bool} {b : FN} {n i : Int} (h : i < n) (hp : P (bAt b n i) = true) : runT P b n i = runT P b n (i + 1) := by
  unfold runT
  rw [show (n - i).toNat = (n - (i + 1)).toNat + 1 by omega, runE_s, if_pos ⟨h, hp⟩]
theorem runT_no {P : Int → Bool} {b : FN} {n i : Int} (h : ¬ (i < n ∧ P (bAt b n i) = true)) : runT P b n i = i := by
  unfold runT
  by_cases q : i < n
  · rw [show (n - i).toNat = (n - (i + 1)).toNat + 1 by omega, runE_s, if_neg h]
  · rw [show (n - i).toNat = 0 by omega]; rfl
theorem runT_in {P : Int → Bool} {b : FN} {n i : Int} (h : i ≤ n) : i ≤ runT P b n i ∧ runT P b n i ≤ n := runE_in h
/-- the number of a run of figures from i, cut above 99, v ahead of it -/
def numE (b : FN) (n : Int) : Nat → Int → Int → Int
  | 0, _, v => v
  | f + 1, i, v => if i < n ∧ pDg (bAt b n i) = true then numE b n f (i + 1) (min 100 (10 * v + bAt b n i - 48)) else v
def numT (b : FN) (n i v : Int) : Int := numE b n (n - i).toNat i v
theorem numT_go {b : FN} {n i v : Int} (h : i < n) (hp : pDg (bAt b n i) = true) : numT b n i v = numT b n (i + 1) (min 100 (10 * v + bAt b n i - 48)) := by
  unfold numT
  rw [show (n - i).toNat = (n - (i + 1)).toNat + 1 by omega]
  show (if i < n ∧ pDg (bAt b n i) = true then _ else _) = _
  rw [if_pos ⟨h, hp⟩]
theorem numT_no {b : FN} {n i v : Int} (h : ¬ (i < n ∧ pDg (bAt b n i) = true)) : numT b n i v = v := by
  unfold numT
  by_cases q : i < n
  · rw [show (n - i).toNat = (n - (i + 1)).toNat + 1 by omega]
    show (if i < n ∧ pDg (bAt b n i) = true then _ else _) = _
    rw [if_neg h]
  · rw [show (n - i).toNat = 0 by omega]; rfl
theorem bAt_in {x : XD} (hx : ∀ i, i < 150 → 0 ≤ xB x i ∧ xB x i ≤ 255) {n i : Int} : -1 ≤ bAt (xB x) n i ∧ bAt (xB x) n i ≤ 255 := by
  unfold bAt
  split
  · have := hx i.toNat (by omega); omega
  · omega
theorem numE_in {b : FN} {n : Int} : ∀ {f : Nat} {i v : Int}, 0 ≤ v ∧ v ≤ 100 → 0 ≤ numE b n f i v ∧ numE b n f i v ≤ 100
  | 0, i, v, h => h
  | f + 1, i, v, h => by
    show 0 ≤ (if i < n ∧ pDg (bAt b n i) = true then _ else _) ∧ (if i < n ∧ pDg (bAt b n i) = true then _ else _) ≤ 100
    by_cases q : i < n ∧ pDg (bAt b n i) = true
    · rw [if_pos q]
      have := of_decide_eq_true q.2
      exact numE_in (by omega)
    · rw [if_neg q]; exact h
set_option maxRecDepth 20000 in
set_option maxHeartbeats 1000000 in
theorem sp_X4_takeLetters {uo : UD} {ux : XD} {ua ub : TD} {v0 v1 v2 : SD} {up uq : PD} {ur : HD} {c : Int} (h1 : inI c) (hn : 0 ≤ xN ux ∧ xN ux ≤ 150) (hp : 0 ≤ xP ux ∧ xP ux ≤ xN ux) (hs : 0 ≤ xS ux ∧ xS ux ≤ 150) (hx : ∀ i, i < 150 → 0 ≤ xB ux i ∧ xB ux i ≤ 255) : SpV l 3 yX4_takeLetters cX4_takeLetters 2 none [mr 1, mi c] (hC uo ux ua ub v0 v1 v2 up uq ur) (fun h => h = hC uo (xSet ux (runT pLt (xB ux) (xN ux) (xP ux)) (xS ux) 1 (if runT pLt (xB ux) (xN ux) (xP ux) - xS ux = 1 then c else 0) (xF ux)) ua ub v0 v1 v2 up uq ur) := by
  refine SpV.of (cd := kdX4_takeLetters) (fT := mlook flX4) (kT := mlook klX4) (kJ := mlook jlX4) mfA_X4_takeLetters ok_X4_takeLetters fT_X4 kT_X4 jT_X4 jdk_ok True.intro (Nat.le_of_ble_eq_true rfl) (fun G hG => ?_)
  have J0 : ∀ (n : Nat) (i : Int), ((xP ux ≤ i ∧ i ≤ xN ux) ∧ runT pLt (xB ux) (xN ux) i = runT pLt (xB ux) (xN ux) (xP ux)) → (xN ux - i).toNat < n → G 0 [some (mr 1), some (mi c)] [] (hC uo (xSet ux i (xS ux) (xK ux) (xV ux) (xF ux)) ua ub v0 v1 v2 up uq ur) := by
    intro n
    induction n with
    | zero => intro i _ hm; exact absurd hm (Nat.not_lt_zero _)
    | succ n ih =>
      intro i hinv hm
      have hb9 := bAt_in (x := ux) hx (n := xN ux) (i := i)
      refine rRun hG 38 ?_
      refine And.intro rfl (And.intro rfl (And.intro (by first | omega | (simp only [xB_s, xN_s, xP_s, xS_s, xK_s, xV_s, xF_s, xR_s, xL_s, xA_s]; omega)) (And.intro (fun c1 => ?_) (fun c1 => ?_))))
      · try simp only [xB_s, xN_s, xP_s, xS_s, xK_s, xV_s, xF_s, xR_s, xL_s, xA_s] at c1
        have hi9 : i = runT pLt (xB ux) (xN ux) (xP ux) := by
          rw [← hinv.2]
          refine (runT_no ?_).symm
          rintro ⟨q1, q2⟩
          have q3 := of_decide_eq_true q2
          omega
        refine rRun hG 99999 ?_
        refine And.intro ⟨rfl, by exact Nat.le_of_ble_eq_true rfl, by exact True.intro⟩ (And.intro rfl (And.intro rfl (And.intro (by first | omega | (simp only [xB_s, xN_s, xP_s, xS_s, xK_s, xV_s, xF_s, xR_s, xL_s, xA_s]; omega)) (And.intro (fun c2 => ?_) (fun c2 => ?_)))))
        · try simp only [xB_s, xN_s, xP_s, xS_s, xK_s, xV_s, xF_s, xR_s, xL_s, xA_s] at c2
          refine rRun hG 99999 ?_
          refine And.intro ⟨rfl, by exact Nat.le_of_ble_eq_true rfl, by exact True.intro⟩ (?_)
          refine rVR hG rfl rfl rfl ?_
          rw [← hi9]
          first | (rw [if_pos (by omega)]; rfl) | (rw [if_neg (by omega)]; rfl)
        · try simp only [xB_s, xN_s, xP_s, xS_s, xK_s, xV_s, xF_s, xR_s, xL_s, xA_s] at c2
          refine rRun hG 99999 ?_
          refine And.intro ⟨rfl, by exact Nat.le_of_ble_eq_true rfl, by exact True.intro⟩ (?_)
          refine rVR hG rfl rfl rfl ?_
          rw [← hi9]
          first | (rw [if_pos (by omega)]; rfl) | (rw [if_neg (by omega)]; rfl)
      · try simp only [xB_s, xN_s, xP_s, xS_s, xK_s, xV_s, xF_s, xR_s, xL_s, xA_s] at c1
        refine And.intro rfl (?_)
        refine rV hG (sp_X4_byteAt (uo := uo) (ux := (xSet ux i (xS ux) (xK ux) (xV ux) (xF ux))) (ua := ua) (ub := ub) (v0 := v0) (v1 := v1) (v2 := v2) (up := up) (uq := uq) (ur := ur) (i := i) (by omega) (by show inI (xN ux); omega)) rfl rfl lk_X4_116 mf_X4_byteAt (by decide) (Nat.le_of_ble_eq_true rfl) ⟨_, _, _, rfl, rfl, rfl⟩ ?_
        rintro w _ ⟨hw, rfl⟩
        obtain rfl : w = bAt (xB ux) (xN ux) i := hw
        refine rS hG (sp_X4_isLetter (e := bAt (xB ux) (xN ux) i) (by omega)) rfl rfl lk_X4_120 mf_X4_isLetter (by decide) (Nat.le_of_ble_eq_true rfl) ?_
        rintro v _ ⟨hv, rfl⟩
        have v1 : (v = 1 ∧ (97 ≤ bAt (xB ux) (xN ux) i ∧ bAt (xB ux) (xN ux) i ≤ 122)) ∨ (v = 0 ∧ ¬ (97 ≤ bAt (xB ux) (xN ux) i ∧ bAt (xB ux) (xN ux) i ≤ 122)) := (by rw [hv]; by_cases q9 : (97 ≤ bAt (xB ux) (xN ux) i ∧ bAt (xB ux) (xN ux) i ≤ 122) <;> simp [q9])
        clear hv
        refine rRun hG 38 ?_
        refine And.intro (by first | omega | (simp only [xB_s, xN_s, xP_s, xS_s, xK_s, xV_s, xF_s, xR_s, xL_s, xA_s]; omega)) (And.intro (fun c5 => ?_) (fun c5 => ?_))
        · try simp only [xB_s, xN_s, xP_s, xS_s, xK_s, xV_s, xF_s, xR_s, xL_s, xA_s] at c5
          have hi9 : i = runT pLt (xB ux) (xN ux) (xP ux) := by
            rw [← hinv.2]
            refine (runT_no ?_).symm
            rintro ⟨q1, q2⟩
            have q3 := of_decide_eq_true q2
            omega
          refine rRun hG 99999 ?_
          refine And.intro ⟨rfl, by exact Nat.le_of_ble_eq_true rfl, by exact True.intro⟩ (And.intro rfl (And.intro rfl (And.intro (by first | omega | (simp only [xB_s, xN_s, xP_s, xS_s, xK_s, xV_s, xF_s, xR_s, xL_s, xA_s]; omega)) (And.intro (fun c6 => ?_) (fun c6 => ?_)))))
          · try simp only [xB_s, xN_s, xP_s, xS_s, xK_s, xV_s, xF_s, xR_s, xL_s, xA_s] at c6
            refine rRun hG 99999 ?_
            refine And.intro ⟨rfl, by exact Nat.le_of_ble_eq_true rfl, by exact True.intro⟩ (?_)
            refine rVR hG rfl rfl rfl ?_
            rw [← hi9]
            first | (rw [if_pos (by omega)]; rfl) | (rw [if_neg (by omega)]; rfl)
          · try simp only [xB_s, xN_s, xP_s, xS_s, xK_s, xV_s, xF_s, xR_s, xL_s, xA_s] at c6
            refine rRun hG 99999 ?_
            refine And.intro ⟨rfl, by exact Nat.le_of_ble_eq_true rfl, by exact True.intro⟩ (?_)
            refine rVR hG rfl rfl rfl ?_
            rw [← hi9]
            first | (rw [if_pos (by omega)]; rfl) | (rw [if_neg (by omega)]; rfl)
        · try simp only [xB_s, xN_s, xP_s, xS_s, xK_s, xV_s, xF_s, xR_s, xL_s, xA_s] at c5
          refine And.intro rfl (And.intro ⟨rfl, by exact Nat.le_of_ble_eq_true rfl, by exact True.intro⟩ (?_))
          refine ih (i + 1) ⟨by omega, ?_⟩ (by omega)
          rw [← hinv.2]
          exact (runT_go (by omega) (by unfold pLt; exact decide_eq_true (by omega))).symm
  exact J0 _ (xP ux) ⟨by omega, rfl⟩ (Nat.lt_succ_self _)
set_option maxRecDepth 20000 in
set_option maxHeartbeats 1000000 in
theorem sp_X4_takeNumber {uo : UD} {ux : XD} {ua ub : TD} {v0 v1 v2 : SD} {up uq : PD} {ur : HD} {c : Int} (h1 : inI c) (hn : 0 ≤ xN ux ∧ xN ux ≤ 150) (hp : 0 ≤ xP ux ∧ xP ux ≤ xN ux) (hs : 0 ≤ xS ux ∧ xS ux ≤ 150) (hx : ∀ i, i < 150 → 0 ≤ xB ux i ∧ xB ux i ≤ 255) : SpV l 3 yX4_takeNumber cX4_takeNumber 3 none [mr 1, mi c] (hC uo ux ua ub v0 v1 v2 up uq ur) (fun h => h = hC uo (xSet ux (runT pDg (xB ux) (xN ux) (xP ux)) (xS ux) (if 99 < numT (xB ux) (xN ux) (xP ux) 0 ∨ (c = 48 ∧ 1 < runT pDg (xB ux) (xN ux) (xP ux) - xS ux) then 4 else 2) (numT (xB ux) (xN ux) (xP ux) 0) (xF ux)) ua ub v0 v1 v2 up uq ur) := by
  refine SpV.of (cd := kdX4_takeNumber) (fT := mlook flX4) (kT := mlook klX4) (kJ := mlook jlX4) mfA_X4_takeNumber ok_X4_takeNumber fT_X4 kT_X4 jT_X4 jdk_ok True.intro (Nat.le_of_ble_eq_true rfl) (fun G hG => ?_)
  refine rRun hG 5 ?_
  refine And.intro ⟨rfl, by exact Nat.le_of_ble_eq_true rfl, by exact True.intro⟩ (?_)
  have J5 : ∀ (n : Nat) (i v : Int), ((xP ux ≤ i ∧ i ≤ xN ux) ∧ (0 ≤ v ∧ v ≤ 100) ∧ runT pDg (xB ux) (xN ux) i = runT pDg (xB ux) (xN ux) (xP ux) ∧ numT (xB ux) (xN ux) i v = numT (xB ux) (xN ux) (xP ux) 0) → (xN ux - i).toNat < n → G 5 [some (mr 1), some (mi c), none] [] (hC uo (xSet ux i (xS ux) (xK ux) v (xF ux)) ua ub v0 v1 v2 up uq ur) := by
    intro n
    induction n with
    | zero => intro i v _ hm; exact absurd hm (Nat.not_lt_zero _)
    | succ n ih =>
      intro i v hinv hm
      have hb9 := bAt_in (x := ux) hx (n := xN ux) (i := i)
      refine rRun hG 71 ?_
      refine And.intro rfl (And.intro rfl (And.intro (by first | omega | (simp only [xB_s, xN_s, xP_s, xS_s, xK_s, xV_s, xF_s, xR_s, xL_s, xA_s]; omega)) (And.intro (fun c1 => ?_) (fun c1 => ?_))))
      · try simp only [xB_s, xN_s, xP_s, xS_s, xK_s, xV_s, xF_s, xR_s, xL_s, xA_s] at c1
        have hno : ¬ (i < xN ux ∧ pDg (bAt (xB ux) (xN ux) i) = true) := by
          rintro ⟨q1, q2⟩
          have q3 := of_decide_eq_true q2
          omega
        have hi9 : i = runT pDg (xB ux) (xN ux) (xP ux) := by
          rw [← hinv.2.2.1]; exact (runT_no hno).symm
        have hv8 : v = numT (xB ux) (xN ux) (xP ux) 0 := by
          rw [← hinv.2.2.2]; exact (numT_no hno).symm
        refine rRun hG 99999 ?_
        refine And.intro (by first | omega | (simp only [xB_s, xN_s, xP_s, xS_s, xK_s, xV_s, xF_s, xR_s, xL_s, xA_s]; omega)) (And.intro (fun cy => ?_) (fun cy => ?_))
        · try simp only [xB_s, xN_s, xP_s, xS_s, xK_s, xV_s, xF_s, xR_s, xL_s, xA_s] at cy
          refine rRun hG 99999 ?_
          refine And.intro rfl (And.intro (by first | omega | (simp only [xB_s, xN_s, xP_s, xS_s, xK_s, xV_s, xF_s, xR_s, xL_s, xA_s]; omega)) (And.intro (fun c2 => ?_) (fun c2 => ?_)))
          · try simp only [xB_s, xN_s, xP_s, xS_s, xK_s, xV_s, xF_s, xR_s, xL_s, xA_s] at c2
            refine rRun hG 99999 ?_
            refine rRun hG 99999 ?_
            refine And.intro ⟨rfl, by exact Nat.le_of_ble_eq_true rfl, by exact True.intro⟩ (?_)
            refine rVR hG rfl rfl rfl ?_
            first | (exfalso; omega) | (rw [← hi9, ← hv8, if_pos (by omega)]; rfl) | (rw [← hi9, ← hv8, if_neg (by omega)]; rfl)
          · try simp only [xB_s, xN_s, xP_s, xS_s, xK_s, xV_s, xF_s, xR_s, xL_s, xA_s] at c2
            refine And.intro (by first | omega | (simp only [xB_s, xN_s, xP_s, xS_s, xK_s, xV_s, xF_s, xR_s, xL_s, xA_s]; omega)) (And.intro (fun c3 => ?_) (fun c3 => ?_))
            · skip
              refine rRun hG 99999 ?_
              refine And.intro ⟨rfl, by exact Nat.le_of_ble_eq_true rfl, by exact True.intro⟩ (?_)
              refine rVR hG rfl rfl rfl ?_
              first | (exfalso; omega) | (rw [← hi9, ← hv8, if_pos (by omega)]; rfl) | (rw [← hi9, ← hv8, if_neg (by omega)]; rfl)
            · skip
              refine rRun hG 99999 ?_
              refine And.intro ⟨rfl, by exact Nat.le_of_ble_eq_true rfl, by exact True.intro⟩ (?_)
              refine rVR hG rfl rfl rfl ?_
              first | (exfalso; omega) | (rw [← hi9, ← hv8, if_pos (by omega)]; rfl) | (rw [← hi9, ← hv8, if_neg (by omega)]; rfl)
        · try simp only [xB_s, xN_s, xP_s, xS_s, xK_s, xV_s, xF_s, xR_s, xL_s, xA_s] at cy
          refine And.intro rfl (And.intro rfl (And.intro (by first | omega | (simp only [xB_s, xN_s, xP_s, xS_s, xK_s, xV_s, xF_s, xR_s, xL_s, xA_s]; omega)) (And.intro (fun c4 => ?_) (fun c4 => ?_))))
          · try simp only [xB_s, xN_s, xP_s, xS_s, xK_s, xV_s, xF_s, xR_s, xL_s, xA_s] at c4
            refine rRun hG 99999 ?_
            refine And.intro rfl (And.intro (by first | omega | (simp only [xB_s, xN_s, xP_s, xS_s, xK_s, xV_s, xF_s, xR_s, xL_s, xA_s]; omega)) (And.intro (fun c5 => ?_) (fun c5 => ?_)))
            · try simp only [xB_s, xN_s, xP_s, xS_s, xK_s, xV_s, xF_s, xR_s, xL_s, xA_s] at c5
              refine rRun hG 99999 ?_
              refine rRun hG 99999 ?_
              refine And.intro ⟨rfl, by exact Nat.le_of_ble_eq_true rfl, by exact True.intro⟩ (?_)
              refine rVR hG rfl rfl rfl ?_
              first | (exfalso; omega) | (rw [← hi9, ← hv8, if_pos (by omega)]; rfl) | (rw [← hi9, ← hv8, if_neg (by omega)]; rfl)
            · try simp only [xB_s, xN_s, xP_s, xS_s, xK_s, xV_s, xF_s, xR_s, xL_s, xA_s] at c5
              refine And.intro (by first | omega | (simp only [xB_s, xN_s, xP_s, xS_s, xK_s, xV_s, xF_s, xR_s, xL_s, xA_s]; omega)) (And.intro (fun c6 => ?_) (fun c6 => ?_))
              · skip
                refine rRun hG 99999 ?_
                refine And.intro ⟨rfl, by exact Nat.le_of_ble_eq_true rfl, by exact True.intro⟩ (?_)
                refine rVR hG rfl rfl rfl ?_
                first | (exfalso; omega) | (rw [← hi9, ← hv8, if_pos (by omega)]; rfl) | (rw [← hi9, ← hv8, if_neg (by omega)]; rfl)
              · skip
                refine rRun hG 99999 ?_
                refine And.intro ⟨rfl, by exact Nat.le_of_ble_eq_true rfl, by exact True.intro⟩ (?_)
                refine rVR hG rfl rfl rfl ?_
                first | (exfalso; omega) | (rw [← hi9, ← hv8, if_pos (by omega)]; rfl) | (rw [← hi9, ← hv8, if_neg (by omega)]; rfl)
          · try simp only [xB_s, xN_s, xP_s, xS_s, xK_s, xV_s, xF_s, xR_s, xL_s, xA_s] at c4
            refine rRun hG 99999 ?_
            refine And.intro rfl (And.intro (by first | omega | (simp only [xB_s, xN_s, xP_s, xS_s, xK_s, xV_s, xF_s, xR_s, xL_s, xA_s]; omega)) (And.intro (fun c7 => ?_) (fun c7 => ?_)))
            · try simp only [xB_s, xN_s, xP_s, xS_s, xK_s, xV_s, xF_s, xR_s, xL_s, xA_s] at c7
              refine rRun hG 99999 ?_
              refine rRun hG 99999 ?_
              refine And.intro ⟨rfl, by exact Nat.le_of_ble_eq_true rfl, by exact True.intro⟩ (?_)
              refine rVR hG rfl rfl rfl ?_
              first | (exfalso; omega) | (rw [← hi9, ← hv8, if_pos (by omega)]; rfl) | (rw [← hi9, ← hv8, if_neg (by omega)]; rfl)
            · try simp only [xB_s, xN_s, xP_s, xS_s, xK_s, xV_s, xF_s, xR_s, xL_s, xA_s] at c7
              refine And.intro (by first | omega | (simp only [xB_s, xN_s, xP_s, xS_s, xK_s, xV_s, xF_s, xR_s, xL_s, xA_s]; omega)) (And.intro (fun c8 => ?_) (fun c8 => ?_))
              · skip
                refine rRun hG 99999 ?_
                refine And.intro ⟨rfl, by exact Nat.le_of_ble_eq_true rfl, by exact True.intro⟩ (?_)
                refine rVR hG rfl rfl rfl ?_
                first | (exfalso; omega) | (rw [← hi9, ← hv8, if_pos (by omega)]; rfl) | (rw [← hi9, ← hv8, if_neg (by omega)]; rfl)
              · skip
                refine rRun hG 99999 ?_
                refine And.intro ⟨rfl, by exact Nat.le_of_ble_eq_true rfl, by exact True.intro⟩ (?_)
                refine rVR hG rfl rfl rfl ?_
                first | (exfalso; omega) | (rw [← hi9, ← hv8, if_pos (by omega)]; rfl) | (rw [← hi9, ← hv8, if_neg (by omega)]; rfl)
      · try simp only [xB_s, xN_s, xP_s, xS_s, xK_s, xV_s, xF_s, xR_s, xL_s, xA_s] at c1
        refine And.intro rfl (?_)
        refine rV hG (sp_X4_byteAt (uo := uo) (ux := (xSet ux i (xS ux) (xK ux) v (xF ux))) (ua := ua) (ub := ub) (v0 := v0) (v1 := v1) (v2 := v2) (up := up) (uq := uq) (ur := ur) (i := i) (by omega) (by show inI (xN ux); omega)) rfl rfl lk_X4_116 mf_X4_byteAt (by decide) (Nat.le_of_ble_eq_true rfl) ⟨_, _, _, rfl, rfl, rfl⟩ ?_
        rintro w _ ⟨hw, rfl⟩
        obtain rfl : w = bAt (xB ux) (xN ux) i := hw
        refine rS hG (sp_X4_isDigit (e := bAt (xB ux) (xN ux) i) (by omega)) rfl rfl lk_X4_127 mf_X4_isDigit (by decide) (Nat.le_of_ble_eq_true rfl) ?_
        rintro v9 _ ⟨hv, rfl⟩
        have v91 : (v9 = 1 ∧ (48 ≤ bAt (xB ux) (xN ux) i ∧ bAt (xB ux) (xN ux) i ≤ 57)) ∨ (v9 = 0 ∧ ¬ (48 ≤ bAt (xB ux) (xN ux) i ∧ bAt (xB ux) (xN ux) i ≤ 57)) := (by rw [hv]; by_cases q9 : (48 ≤ bAt (xB ux) (xN ux) i ∧ bAt (xB ux) (xN ux) i ≤ 57) <;> simp [q9])
        clear hv
        refine rRun hG 71 ?_
        refine And.intro (by first | omega | (simp only [xB_s, xN_s, xP_s, xS_s, xK_s, xV_s, xF_s, xR_s, xL_s, xA_s]; omega)) (And.intro (fun c11 => ?_) (fun c11 => ?_))
        · try simp only [xB_s, xN_s, xP_s, xS_s, xK_s, xV_s, xF_s, xR_s, xL_s, xA_s] at c11
          have hno : ¬ (i < xN ux ∧ pDg (bAt (xB ux) (xN ux) i) = true) := by
            rintro ⟨q1, q2⟩
            have q3 := of_decide_eq_true q2
            omega
          have hi9 : i = runT pDg (xB ux) (xN ux) (xP ux) := by
            rw [← hinv.2.2.1]; exact (runT_no hno).symm
          have hv8 : v = numT (xB ux) (xN ux) (xP ux) 0 := by
            rw [← hinv.2.2.2]; exact (numT_no hno).symm
          refine rRun hG 99999 ?_
          refine And.intro (by first | omega | (simp only [xB_s, xN_s, xP_s, xS_s, xK_s, xV_s, xF_s, xR_s, xL_s, xA_s]; omega)) (And.intro (fun cy => ?_) (fun cy => ?_))
          · try simp only [xB_s, xN_s, xP_s, xS_s, xK_s, xV_s, xF_s, xR_s, xL_s, xA_s] at cy
            refine rRun hG 99999 ?_
            refine And.intro rfl (And.intro (by first | omega | (simp only [xB_s, xN_s, xP_s, xS_s, xK_s, xV_s, xF_s, xR_s, xL_s, xA_s]; omega)) (And.intro (fun c12 => ?_) (fun c12 => ?_)))
            · try simp only [xB_s, xN_s, xP_s, xS_s, xK_s, xV_s, xF_s, xR_s, xL_s, xA_s] at c12
              refine rRun hG 99999 ?_
              refine rRun hG 99999 ?_
              refine And.intro ⟨rfl, by exact Nat.le_of_ble_eq_true rfl, by exact True.intro⟩ (?_)
              refine rVR hG rfl rfl rfl ?_
              first | (exfalso; omega) | (rw [← hi9, ← hv8, if_pos (by omega)]; rfl) | (rw [← hi9, ← hv8, if_neg (by omega)]; rfl)
            · try simp only [xB_s, xN_s, xP_s, xS_s, xK_s, xV_s, xF_s, xR_s, xL_s, xA_s] at c12
              refine And.intro (by first | omega | (simp only [xB_s, xN_s, xP_s, xS_s, xK_s, xV_s, xF_s, xR_s, xL_s, xA_s]; omega)) (And.intro (fun c13 => ?_) (fun c13 => ?_))
              · skip
                refine rRun hG 99999 ?_
                refine And.intro ⟨rfl, by exact Nat.le_of_ble_eq_true rfl, by exact True.intro⟩ (?_)
                refine rVR hG rfl rfl rfl ?_
                first | (exfalso; omega) | (rw [← hi9, ← hv8, if_pos (by omega)]; rfl) | (rw [← hi9, ← hv8, if_neg (by omega)]; rfl)
              · skip
                refine rRun hG 99999 ?_
                refine And.intro ⟨rfl, by exact Nat.le_of_ble_eq_true rfl, by exact True.intro⟩ (?_)
                refine rVR hG rfl rfl rfl ?_
                first | (exfalso; omega) | (rw [← hi9, ← hv8, if_pos (by omega)]; rfl) | (rw [← hi9, ← hv8, if_neg (by omega)]; rfl)
          · try simp only [xB_s, xN_s, xP_s, xS_s, xK_s, xV_s, xF_s, xR_s, xL_s, xA_s] at cy
            refine And.intro rfl (And.intro rfl (And.intro (by first | omega | (simp only [xB_s, xN_s, xP_s, xS_s, xK_s, xV_s, xF_s, xR_s, xL_s, xA_s]; omega)) (And.intro (fun c14 => ?_) (fun c14 => ?_))))
            · try simp only [xB_s, xN_s, xP_s, xS_s, xK_s, xV_s, xF_s, xR_s, xL_s, xA_s] at c14
              refine rRun hG 99999 ?_
              refine And.intro rfl (And.intro (by first | omega | (simp only [xB_s, xN_s, xP_s, xS_s, xK_s, xV_s, xF_s, xR_s, xL_s, xA_s]; omega)) (And.intro (fun c15 => ?_) (fun c15 => ?_)))
              · try simp only [xB_s, xN_s, xP_s, xS_s, xK_s, xV_s, xF_s, xR_s, xL_s, xA_s] at c15
                refine rRun hG 99999 ?_
                refine rRun hG 99999 ?_
                refine And.intro ⟨rfl, by exact Nat.le_of_ble_eq_true rfl, by exact True.intro⟩ (?_)
                refine rVR hG rfl rfl rfl ?_
                first | (exfalso; omega) | (rw [← hi9, ← hv8, if_pos (by omega)]; rfl) | (rw [← hi9, ← hv8, if_neg (by omega)]; rfl)
              · try simp only [xB_s, xN_s, xP_s, xS_s, xK_s, xV_s, xF_s, xR_s, xL_s, xA_s] at c15
                refine And.intro (by first | omega | (simp only [xB_s, xN_s, xP_s, xS_s, xK_s, xV_s, xF_s, xR_s, xL_s, xA_s]; omega)) (And.intro (fun c16 => ?_) (fun c16 => ?_))
                · skip
                  refine rRun hG 99999 ?_
                  refine And.intro ⟨rfl, by exact Nat.le_of_ble_eq_true rfl, by exact True.intro⟩ (?_)
                  refine rVR hG rfl rfl rfl ?_
                  first | (exfalso; omega) | (rw [← hi9, ← hv8, if_pos (by omega)]; rfl) | (rw [← hi9, ← hv8, if_neg (by omega)]; rfl)
                · skip
                  refine rRun hG 99999 ?_
                  refine And.intro ⟨rfl, by exact Nat.le_of_ble_eq_true rfl, by exact True.intro⟩ (?_)
                  refine rVR hG rfl rfl rfl ?_
                  first | (exfalso; omega) | (rw [← hi9, ← hv8, if_pos (by omega)]; rfl) | (rw [← hi9, ← hv8, if_neg (by omega)]; rfl)
            · try simp only [xB_s, xN_s, xP_s, xS_s, xK_s, xV_s, xF_s, xR_s, xL_s, xA_s] at c14
              refine rRun hG 99999 ?_
              refine And.intro rfl (And.intro (by first | omega | (simp only [xB_s, xN_s, xP_s, xS_s, xK_s, xV_s, xF_s, xR_s, xL_s, xA_s]; omega)) (And.intro (fun c17 => ?_) (fun c17 => ?_)))
              · try simp only [xB_s, xN_s, xP_s, xS_s, xK_s, xV_s, xF_s, xR_s, xL_s, xA_s] at c17
                refine rRun hG 99999 ?_
                refine rRun hG 99999 ?_
                refine And.intro ⟨rfl, by exact Nat.le_of_ble_eq_true rfl, by exact True.intro⟩ (?_)
                refine rVR hG rfl rfl rfl ?_
                first | (exfalso; omega) | (rw [← hi9, ← hv8, if_pos (by omega)]; rfl) | (rw [← hi9, ← hv8, if_neg (by omega)]; rfl)
              · try simp only [xB_s, xN_s, xP_s, xS_s, xK_s, xV_s, xF_s, xR_s, xL_s, xA_s] at c17
                refine And.intro (by first | omega | (simp only [xB_s, xN_s, xP_s, xS_s, xK_s, xV_s, xF_s, xR_s, xL_s, xA_s]; omega)) (And.intro (fun c18 => ?_) (fun c18 => ?_))
                · skip
                  refine rRun hG 99999 ?_
                  refine And.intro ⟨rfl, by exact Nat.le_of_ble_eq_true rfl, by exact True.intro⟩ (?_)
                  refine rVR hG rfl rfl rfl ?_
                  first | (exfalso; omega) | (rw [← hi9, ← hv8, if_pos (by omega)]; rfl) | (rw [← hi9, ← hv8, if_neg (by omega)]; rfl)
                · skip
                  refine rRun hG 99999 ?_
                  refine And.intro ⟨rfl, by exact Nat.le_of_ble_eq_true rfl, by exact True.intro⟩ (?_)
                  refine rVR hG rfl rfl rfl ?_
                  first | (exfalso; omega) | (rw [← hi9, ← hv8, if_pos (by omega)]; rfl) | (rw [← hi9, ← hv8, if_neg (by omega)]; rfl)
        · try simp only [xB_s, xN_s, xP_s, xS_s, xK_s, xV_s, xF_s, xR_s, xL_s, xA_s] at c11
          refine And.intro rfl (And.intro rfl (?_))
          refine rV hG (sp_X4_byteAt (uo := uo) (ux := (xSet ux i (xS ux) (xK ux) v (xF ux))) (ua := ua) (ub := ub) (v0 := v0) (v1 := v1) (v2 := v2) (up := up) (uq := uq) (ur := ur) (i := i) (by omega) (by show inI (xN ux); omega)) rfl rfl lk_X4_116 mf_X4_byteAt (by decide) (Nat.le_of_ble_eq_true rfl) ⟨_, _, _, rfl, rfl, rfl⟩ ?_
          rintro w _ ⟨hw, rfl⟩
          obtain rfl : w = bAt (xB ux) (xN ux) i := hw
          refine rRun hG 71 ?_
          refine rMin hG rfl rfl lk_X4_133 (by decide) (Nat.le_of_ble_eq_true rfl) (by first | omega | (simp only [xB_s, xN_s, xP_s, xS_s, xK_s, xV_s, xF_s, xR_s, xL_s, xA_s]; omega)) ?_
          refine rRun hG 71 ?_
          refine And.intro ⟨rfl, by exact Nat.le_of_ble_eq_true rfl, by exact True.intro⟩ (And.intro rfl (And.intro ⟨rfl, by exact Nat.le_of_ble_eq_true rfl, by exact True.intro⟩ (?_)))
          refine ih (i + 1) (min 100 (10 * v + bAt (xB ux) (xN ux) i - 48)) ⟨by omega, by omega, ?_, ?_⟩ (by omega)
          · rw [← hinv.2.2.1]
            exact (runT_go (by omega) (by unfold pDg; exact decide_eq_true (by omega))).symm
          · rw [← hinv.2.2.2]
            exact (numT_go (by omega) (by unfold pDg; exact decide_eq_true (by omega))).symm
  exact J5 _ (xP ux) 0 ⟨by omega, by omega, rfl, rfl⟩ (Nat.lt_succ_self _)
/-- the next token -/
def tSt (x : XD) : Int := runT pSp (xB x) (xN x) (xP x)
def tC (x : XD) : Int := bAt (xB x) (xN x) (tSt x)
def ntk (x : XD) : XD :=
  if tC x < 0 then xSet x (tSt x) (tSt x) 0 (xV x) (xF x)
  else if 97 ≤ tC x ∧ tC x ≤ 122 then xSet x (runT pLt (xB x) (xN x) (tSt x)) (tSt x) 1 (if runT pLt (xB x) (xN x) (tSt x) - tSt x = 1 then tC x else 0) (xF x)
  else if 48 ≤ tC x ∧ tC x ≤ 57 then xSet x (runT pDg (xB x) (xN x) (tSt x)) (tSt x) (if 99 < numT (xB x) (xN x) (tSt x) 0 ∨ (tC x = 48 ∧ 1 < runT pDg (xB x) (xN x) (tSt x) - tSt x) then 4 else 2) (numT (xB x) (xN x) (tSt x) 0) (xF x)
  else xSet x (tSt x + 1) (tSt x) (if tC x = 59 then 3 else 4) (xV x) (xF x)
theorem tSt_in {x : XD} (h : 0 ≤ xP x ∧ xP x ≤ xN x) : xP x ≤ tSt x ∧ tSt x ≤ xN x := runT_in h.2
theorem ntk_E {x : XD} {w i : Int} (hc : tC x = w) (hi : i = tSt x) (h : w < 0) : ntk x = xSet x i i 0 (xV x) (xF x) := by
  subst hc hi; unfold ntk; rw [if_pos h]
theorem ntk_L {x : XD} {w i : Int} (hc : tC x = w) (hi : i = tSt x) (h : 97 ≤ w ∧ w ≤ 122) : ntk x = xSet x (runT pLt (xB x) (xN x) i) i 1 (if runT pLt (xB x) (xN x) i - i = 1 then w else 0) (xF x) := by
  subst hc hi; unfold ntk; rw [if_neg (by omega), if_pos h]
theorem ntk_D {x : XD} {w i : Int} (hc : tC x = w) (hi : i = tSt x) (h : 48 ≤ w ∧ w ≤ 57) : ntk x = xSet x (runT pDg (xB x) (xN x) i) i (if 99 < numT (xB x) (xN x) i 0 ∨ (w = 48 ∧ 1 < runT pDg (xB x) (xN x) i - i) then 4 else 2) (numT (xB x) (xN x) i 0) (xF x) := by
  subst hc hi; unfold ntk; rw [if_neg (by omega), if_neg (by omega), if_pos h]
theorem ntk_S {x : XD} {w i : Int} (hc : tC x = w) (hi : i = tSt x) (h : w = 59) : ntk x = xSet x (i + 1) i 3 (xV x) (xF x) := by
  subst hc hi; unfold ntk; rw [if_neg (by omega), if_neg (by omega), if_neg (by omega), if_pos h]
theorem ntk_O {x : XD} {w i : Int} (hc : tC x = w) (hi : i = tSt x) (h : 0 ≤ w) (h1 : ¬ (97 ≤ w ∧ w ≤ 122)) (h2 : ¬ (48 ≤ w ∧ w ≤ 57)) (h3 : ¬ w = 59) : ntk x = xSet x (i + 1) i 4 (xV x) (xF x) := by
  subst hc hi; unfold ntk; rw [if_neg (by omega), if_neg (by omega), if_neg (by omega), if_neg h3]
theorem ntk_L0 {x : XD} {i c k v f : Int} : xSet (xSet x i i k v f) (runT pLt (xB (xSet x i i k v f)) (xN (xSet x i i k v f)) (xP (xSet x i i k v f))) (xS (xSet x i i k v f)) 1 (if runT pLt (xB (xSet x i i k v f)) (xN (xSet x i i k v f)) (xP (xSet x i i k v f)) - xS (xSet x i i k v f) = 1 then c else 0) (xF (xSet x i i k v f)) = xSet x (runT pLt (xB x) (xN x) i) i 1 (if runT pLt (xB x) (xN x) i - i = 1 then c else 0) f := rfl
theorem ntk_D0 {x : XD} {i c k v f : Int} : xSet (xSet x i i k v f) (runT pDg (xB (xSet x i i k v f)) (xN (xSet x i i k v f)) (xP (xSet x i i k v f))) (xS (xSet x i i k v f)) (if 99 < numT (xB (xSet x i i k v f)) (xN (xSet x i i k v f)) (xP (xSet x i i k v f)) 0 ∨ (c = 48 ∧ 1 < runT pDg (xB (xSet x i i k v f)) (xN (xSet x i i k v f)) (xP (xSet x i i k v f)) - xS (xSet x i i k v f)) then 4 else 2) (numT (xB (xSet x i i k v f)) (xN (xSet x i i k v f)) (xP (xSet x i i k v f)) 0) (xF (xSet x i i k v f)) = xSet x (runT pDg (xB x) (xN x) i) i (if 99 < numT (xB x) (xN x) i 0 ∨ (c = 48 ∧ 1 < runT pDg (xB x) (xN x) i - i) then 4 else 2) (numT (xB x) (xN x) i 0) f := rfl
theorem bAt_lt {b : FN} {n i : Int} (h : ¬ bAt b n i < 0) : i < n := by
  unfold bAt at h
  split at h
  · omega
  · omega
theorem tC_lt {x : XD} (h : ¬ tC x < 0) : tSt x < xN x := by
  unfold tC bAt at h
  split at h
  · omega
  · omega
set_option maxRecDepth 20000 in
set_option maxHeartbeats 1000000 in
theorem sp_X4_nextToken {uo : UD} {ux : XD} {ua ub : TD} {v0 v1 v2 : SD} {up uq : PD} {ur : HD}  (hn : 0 ≤ xN ux ∧ xN ux ≤ 150) (hp : 0 ≤ xP ux ∧ xP ux ≤ xN ux) (hs : 0 ≤ xS ux ∧ xS ux ≤ 150) (hx : ∀ i, i < 150 → 0 ≤ xB ux i ∧ xB ux i ≤ 255) : SpV l 4 yX4_nextToken cX4_nextToken 2 none [mr 1] (hC uo ux ua ub v0 v1 v2 up uq ur) (fun h => h = hC uo (ntk ux) ua ub v0 v1 v2 up uq ur) := by
  refine SpV.of (cd := kdX4_nextToken) (fT := mlook flX4) (kT := mlook klX4) (kJ := mlook jlX4) mfA_X4_nextToken ok_X4_nextToken fT_X4 kT_X4 jT_X4 jdk_ok True.intro (Nat.le_of_ble_eq_true rfl) (fun G hG => ?_)
  have J0 : ∀ (n : Nat) (i : Int), ((xP ux ≤ i ∧ i ≤ xN ux) ∧ runT pSp (xB ux) (xN ux) i = tSt ux) → (xN ux - i).toNat < n → G 0 [some (mr 1), none] [] (hC uo (xSet ux i (xS ux) (xK ux) (xV ux) (xF ux)) ua ub v0 v1 v2 up uq ur) := by
    intro n
    induction n with
    | zero => intro i _ hm; exact absurd hm (Nat.not_lt_zero _)
    | succ n ih =>
      intro i hinv hm
      have hb9 := bAt_in (x := ux) hx (n := xN ux) (i := i)
      refine rRun hG 37 ?_
      refine And.intro rfl (And.intro rfl (And.intro (by first | omega | (simp only [xB_s, xN_s, xP_s, xS_s, xK_s, xV_s, xF_s, xR_s, xL_s, xA_s]; omega)) (And.intro (fun c1 => ?_) (fun c1 => ?_))))
      · try simp only [xB_s, xN_s, xP_s, xS_s, xK_s, xV_s, xF_s, xR_s, xL_s, xA_s] at c1
        have hi9 : i = tSt ux := by
          rw [← hinv.2]
          refine (runT_no ?_).symm
          rintro ⟨q1, q2⟩
          have q3 : bAt (xB ux) (xN ux) i = 32 := beq_iff_eq.mp q2
          omega
        refine rRun hG 99999 ?_
        refine And.intro rfl (And.intro ⟨rfl, by exact Nat.le_of_ble_eq_true rfl, by exact True.intro⟩ (And.intro rfl (?_)))
        refine rV hG (sp_X4_byteAt (uo := uo) (ux := (xSet ux i i (xK ux) (xV ux) (xF ux))) (ua := ua) (ub := ub) (v0 := v0) (v1 := v1) (v2 := v2) (up := up) (uq := uq) (ur := ur) (i := i) (by omega) (by show inI (xN ux); omega)) rfl rfl lk_X4_116 mf_X4_byteAt (by decide) (Nat.le_of_ble_eq_true rfl) ⟨_, _, _, rfl, rfl, rfl⟩ ?_
        rintro w _ ⟨hw9, rfl⟩
        have hw : w = bAt (xB ux) (xN ux) i := hw9
        clear hw9
        have hc9 : -1 ≤ w ∧ w ≤ 255 := by rw [hw]; exact hb9
        have hl9 : ¬ w < 0 → i < xN ux := fun q => bAt_lt (by rw [← hw]; exact q)
        refine rRun hG 99999 ?_
        refine And.intro (by first | omega | (simp only [xB_s, xN_s, xP_s, xS_s, xK_s, xV_s, xF_s, xR_s, xL_s, xA_s]; omega)) (And.intro (fun cz => ?_) (fun cz => ?_))
        · try simp only [xB_s, xN_s, xP_s, xS_s, xK_s, xV_s, xF_s, xR_s, xL_s, xA_s] at cz
          refine rRun hG 99999 ?_
          refine rS hG (sp_X4_isLetter (e := w) (by omega)) rfl rfl lk_X4_120 mf_X4_isLetter (by decide) (Nat.le_of_ble_eq_true rfl) ?_
          rintro w1 _ ⟨hv, rfl⟩
          have w11 : (w1 = 1 ∧ (97 ≤ w ∧ w ≤ 122)) ∨ (w1 = 0 ∧ ¬ (97 ≤ w ∧ w ≤ 122)) := (by rw [hv]; by_cases q9 : (97 ≤ w ∧ w ≤ 122) <;> simp [q9])
          clear hv
          refine rRun hG 99999 ?_
          refine And.intro (by first | omega | (simp only [xB_s, xN_s, xP_s, xS_s, xK_s, xV_s, xF_s, xR_s, xL_s, xA_s]; omega)) (And.intro (fun c4 => ?_) (fun c4 => ?_))
          · try simp only [xB_s, xN_s, xP_s, xS_s, xK_s, xV_s, xF_s, xR_s, xL_s, xA_s] at c4
            refine rRun hG 99999 ?_
            refine rS hG (sp_X4_isDigit (e := w) (by omega)) rfl rfl lk_X4_127 mf_X4_isDigit (by decide) (Nat.le_of_ble_eq_true rfl) ?_
            rintro w2 _ ⟨hv, rfl⟩
            have w21 : (w2 = 1 ∧ (48 ≤ w ∧ w ≤ 57)) ∨ (w2 = 0 ∧ ¬ (48 ≤ w ∧ w ≤ 57)) := (by rw [hv]; by_cases q9 : (48 ≤ w ∧ w ≤ 57) <;> simp [q9])
            clear hv
            refine rRun hG 99999 ?_
            refine And.intro (by first | omega | (simp only [xB_s, xN_s, xP_s, xS_s, xK_s, xV_s, xF_s, xR_s, xL_s, xA_s]; omega)) (And.intro (fun c6 => ?_) (fun c6 => ?_))
            · try simp only [xB_s, xN_s, xP_s, xS_s, xK_s, xV_s, xF_s, xR_s, xL_s, xA_s] at c6
              refine rRun hG 99999 ?_
              refine And.intro (by first | omega | (simp only [xB_s, xN_s, xP_s, xS_s, xK_s, xV_s, xF_s, xR_s, xL_s, xA_s]; omega)) (And.intro (fun c7 => ?_) (fun c7 => ?_))
              · try simp only [xB_s, xN_s, xP_s, xS_s, xK_s, xV_s, xF_s, xR_s, xL_s, xA_s] at c7
                refine rRun hG 99999 ?_
                refine And.intro ⟨rfl, by exact Nat.le_of_ble_eq_true rfl, by exact True.intro⟩ (And.intro rfl (And.intro ⟨rfl, by exact Nat.le_of_ble_eq_true rfl, by exact True.intro⟩ (?_)))
                refine rVR hG rfl rfl rfl ?_
                have hC9 : tC ux = w := by
                  unfold tC; rw [← hi9]; exact hw.symm
                first | (rw [ntk_E hC9 hi9 (by omega)]; rfl) | (rw [ntk_L hC9 hi9 (by omega)]; done) | (rw [ntk_D hC9 hi9 (by omega)]; done) | (rw [ntk_S hC9 hi9 (by omega)]; rfl) | (rw [ntk_O hC9 hi9 (by omega) (by omega) (by omega) (by omega)]; rfl)
              · try simp only [xB_s, xN_s, xP_s, xS_s, xK_s, xV_s, xF_s, xR_s, xL_s, xA_s] at c7
                refine rRun hG 99999 ?_
                refine And.intro ⟨rfl, by exact Nat.le_of_ble_eq_true rfl, by exact True.intro⟩ (And.intro rfl (And.intro ⟨rfl, by exact Nat.le_of_ble_eq_true rfl, by exact True.intro⟩ (?_)))
                refine rVR hG rfl rfl rfl ?_
                have hC9 : tC ux = w := by
                  unfold tC; rw [← hi9]; exact hw.symm
                first | (rw [ntk_E hC9 hi9 (by omega)]; rfl) | (rw [ntk_L hC9 hi9 (by omega)]; done) | (rw [ntk_D hC9 hi9 (by omega)]; done) | (rw [ntk_S hC9 hi9 (by omega)]; rfl) | (rw [ntk_O hC9 hi9 (by omega) (by omega) (by omega) (by omega)]; rfl)
            · try simp only [xB_s, xN_s, xP_s, xS_s, xK_s, xV_s, xF_s, xR_s, xL_s, xA_s] at c6
              have hl8 := hl9 (by omega)
              refine rVV hG (sp_X4_takeNumber (uo := uo) (ux := (xSet ux i i (xK ux) (xV ux) (xF ux))) (ua := ua) (ub := ub) (v0 := v0) (v1 := v1) (v2 := v2) (up := up) (uq := uq) (ur := ur) (c := w) (by omega) hn (by show 0 ≤ i ∧ i ≤ xN ux; omega) (by show 0 ≤ i ∧ i ≤ 150; omega) hx) rfl rfl lk_X4_130 mf_X4_takeNumber (by decide) (Nat.le_of_ble_eq_true rfl) ⟨_, _, _, rfl, rfl, rfl⟩ ?_
              rintro _ rfl
              rw [ntk_D0]
              refine rRun hG 99999 ?_
              refine rVR hG rfl rfl rfl ?_
              have hC9 : tC ux = w := by
                unfold tC; rw [← hi9]; exact hw.symm
              first | (rw [ntk_E hC9 hi9 (by omega)]; rfl) | (rw [ntk_L hC9 hi9 (by omega)]; done) | (rw [ntk_D hC9 hi9 (by omega)]; done) | (rw [ntk_S hC9 hi9 (by omega)]; rfl) | (rw [ntk_O hC9 hi9 (by omega) (by omega) (by omega) (by omega)]; rfl)
          · try simp only [xB_s, xN_s, xP_s, xS_s, xK_s, xV_s, xF_s, xR_s, xL_s, xA_s] at c4
            have hl8 := hl9 (by omega)
            refine rVV hG (sp_X4_takeLetters (uo := uo) (ux := (xSet ux i i (xK ux) (xV ux) (xF ux))) (ua := ua) (ub := ub) (v0 := v0) (v1 := v1) (v2 := v2) (up := up) (uq := uq) (ur := ur) (c := w) (by omega) hn (by show 0 ≤ i ∧ i ≤ xN ux; omega) (by show 0 ≤ i ∧ i ≤ 150; omega) hx) rfl rfl lk_X4_124 mf_X4_takeLetters (by decide) (Nat.le_of_ble_eq_true rfl) ⟨_, _, _, rfl, rfl, rfl⟩ ?_
            rintro _ rfl
            rw [ntk_L0]
            refine rRun hG 99999 ?_
            refine rVR hG rfl rfl rfl ?_
            have hC9 : tC ux = w := by
              unfold tC; rw [← hi9]; exact hw.symm
            first | (rw [ntk_E hC9 hi9 (by omega)]; rfl) | (rw [ntk_L hC9 hi9 (by omega)]; done) | (rw [ntk_D hC9 hi9 (by omega)]; done) | (rw [ntk_S hC9 hi9 (by omega)]; rfl) | (rw [ntk_O hC9 hi9 (by omega) (by omega) (by omega) (by omega)]; rfl)
        · try simp only [xB_s, xN_s, xP_s, xS_s, xK_s, xV_s, xF_s, xR_s, xL_s, xA_s] at cz
          refine And.intro ⟨rfl, by exact Nat.le_of_ble_eq_true rfl, by exact True.intro⟩ (?_)
          refine rVR hG rfl rfl rfl ?_
          have hC9 : tC ux = w := by
            unfold tC; rw [← hi9]; exact hw.symm
          first | (rw [ntk_E hC9 hi9 (by omega)]; rfl) | (rw [ntk_L hC9 hi9 (by omega)]; done) | (rw [ntk_D hC9 hi9 (by omega)]; done) | (rw [ntk_S hC9 hi9 (by omega)]; rfl) | (rw [ntk_O hC9 hi9 (by omega) (by omega) (by omega) (by omega)]; rfl)
      · try simp only [xB_s, xN_s, xP_s, xS_s, xK_s, xV_s, xF_s, xR_s, xL_s, xA_s] at c1
        refine And.intro rfl (?_)
        refine rV hG (sp_X4_byteAt (uo := uo) (ux := (xSet ux i (xS ux) (xK ux) (xV ux) (xF ux))) (ua := ua) (ub := ub) (v0 := v0) (v1 := v1) (v2 := v2) (up := up) (uq := uq) (ur := ur) (i := i) (by omega) (by show inI (xN ux); omega)) rfl rfl lk_X4_116 mf_X4_byteAt (by decide) (Nat.le_of_ble_eq_true rfl) ⟨_, _, _, rfl, rfl, rfl⟩ ?_
        rintro w _ ⟨hw, rfl⟩
        obtain rfl : w = bAt (xB ux) (xN ux) i := hw
        refine rRun hG 37 ?_
        refine And.intro (by first | omega | (simp only [xB_s, xN_s, xP_s, xS_s, xK_s, xV_s, xF_s, xR_s, xL_s, xA_s]; omega)) (And.intro (fun c11 => ?_) (fun c11 => ?_))
        · try simp only [xB_s, xN_s, xP_s, xS_s, xK_s, xV_s, xF_s, xR_s, xL_s, xA_s] at c11
          have hi9 : i = tSt ux := by
            rw [← hinv.2]
            refine (runT_no ?_).symm
            rintro ⟨q1, q2⟩
            have q3 : bAt (xB ux) (xN ux) i = 32 := beq_iff_eq.mp q2
            omega
          refine rRun hG 99999 ?_
          refine And.intro rfl (And.intro ⟨rfl, by exact Nat.le_of_ble_eq_true rfl, by exact True.intro⟩ (And.intro rfl (?_)))
          refine rV hG (sp_X4_byteAt (uo := uo) (ux := (xSet ux i i (xK ux) (xV ux) (xF ux))) (ua := ua) (ub := ub) (v0 := v0) (v1 := v1) (v2 := v2) (up := up) (uq := uq) (ur := ur) (i := i) (by omega) (by show inI (xN ux); omega)) rfl rfl lk_X4_116 mf_X4_byteAt (by decide) (Nat.le_of_ble_eq_true rfl) ⟨_, _, _, rfl, rfl, rfl⟩ ?_
          rintro w _ ⟨hw9, rfl⟩
          have hw : w = bAt (xB ux) (xN ux) i := hw9
          clear hw9
          have hc9 : -1 ≤ w ∧ w ≤ 255 := by rw [hw]; exact hb9
          have hl9 : ¬ w < 0 → i < xN ux := fun q => bAt_lt (by rw [← hw]; exact q)
          refine rRun hG 99999 ?_
          refine And.intro (by first | omega | (simp only [xB_s, xN_s, xP_s, xS_s, xK_s, xV_s, xF_s, xR_s, xL_s, xA_s]; omega)) (And.intro (fun cz => ?_) (fun cz => ?_))
          · try simp only [xB_s, xN_s, xP_s, xS_s, xK_s, xV_s, xF_s, xR_s, xL_s, xA_s] at cz
            refine rRun hG 99999 ?_
            refine rS hG (sp_X4_isLetter (e := w) (by omega)) rfl rfl lk_X4_120 mf_X4_isLetter (by decide) (Nat.le_of_ble_eq_true rfl) ?_
            rintro w1 _ ⟨hv, rfl⟩
            have w11 : (w1 = 1 ∧ (97 ≤ w ∧ w ≤ 122)) ∨ (w1 = 0 ∧ ¬ (97 ≤ w ∧ w ≤ 122)) := (by rw [hv]; by_cases q9 : (97 ≤ w ∧ w ≤ 122) <;> simp [q9])
            clear hv
            refine rRun hG 99999 ?_
            refine And.intro (by first | omega | (simp only [xB_s, xN_s, xP_s, xS_s, xK_s, xV_s, xF_s, xR_s, xL_s, xA_s]; omega)) (And.intro (fun c14 => ?_) (fun c14 => ?_))
            · try simp only [xB_s, xN_s, xP_s, xS_s, xK_s, xV_s, xF_s, xR_s, xL_s, xA_s] at c14
              refine rRun hG 99999 ?_
              refine rS hG (sp_X4_isDigit (e := w) (by omega)) rfl rfl lk_X4_127 mf_X4_isDigit (by decide) (Nat.le_of_ble_eq_true rfl) ?_
              rintro w2 _ ⟨hv, rfl⟩
              have w21 : (w2 = 1 ∧ (48 ≤ w ∧ w ≤ 57)) ∨ (w2 = 0 ∧ ¬ (48 ≤ w ∧ w ≤ 57)) := (by rw [hv]; by_cases q9 : (48 ≤ w ∧ w ≤ 57) <;> simp [q9])
              clear hv
              refine rRun hG 99999 ?_
              refine And.intro (by first | omega | (simp only [xB_s, xN_s, xP_s, xS_s, xK_s, xV_s, xF_s, xR_s, xL_s, xA_s]; omega)) (And.intro (fun c16 => ?_) (fun c16 => ?_))
              · try simp only [xB_s, xN_s, xP_s, xS_s, xK_s, xV_s, xF_s, xR_s, xL_s, xA_s] at c16
                refine rRun hG 99999 ?_
                refine And.intro (by first | omega | (simp only [xB_s, xN_s, xP_s, xS_s, xK_s, xV_s, xF_s, xR_s, xL_s, xA_s]; omega)) (And.intro (fun c17 => ?_) (fun c17 => ?_))
                · try simp only [xB_s, xN_s, xP_s, xS_s, xK_s, xV_s, xF_s, xR_s, xL_s, xA_s] at c17
                  refine rRun hG 99999 ?_
                  refine And.intro ⟨rfl, by exact Nat.le_of_ble_eq_true rfl, by exact True.intro⟩ (And.intro rfl (And.intro ⟨rfl, by exact Nat.le_of_ble_eq_true rfl, by exact True.intro⟩ (?_)))
                  refine rVR hG rfl rfl rfl ?_
                  have hC9 : tC ux = w := by
                    unfold tC; rw [← hi9]; exact hw.symm
                  first | (rw [ntk_E hC9 hi9 (by omega)]; rfl) | (rw [ntk_L hC9 hi9 (by omega)]; done) | (rw [ntk_D hC9 hi9 (by omega)]; done) | (rw [ntk_S hC9 hi9 (by omega)]; rfl) | (rw [ntk_O hC9 hi9 (by omega) (by omega) (by omega) (by omega)]; rfl)
                · try simp only [xB_s, xN_s, xP_s, xS_s, xK_s, xV_s, xF_s, xR_s, xL_s, xA_s] at c17
                  refine rRun hG 99999 ?_
                  refine And.intro ⟨rfl, by exact Nat.le_of_ble_eq_true rfl, by exact True.intro⟩ (And.intro rfl (And.intro ⟨rfl, by exact Nat.le_of_ble_eq_true rfl, by exact True.intro⟩ (?_)))
                  refine rVR hG rfl rfl rfl ?_
                  have hC9 : tC ux = w := by
                    unfold tC; rw [← hi9]; exact hw.symm
                  first | (rw [ntk_E hC9 hi9 (by omega)]; rfl) | (rw [ntk_L hC9 hi9 (by omega)]; done) | (rw [ntk_D hC9 hi9 (by omega)]; done) | (rw [ntk_S hC9 hi9 (by omega)]; rfl) | (rw [ntk_O hC9 hi9 (by omega) (by omega) (by omega) (by omega)]; rfl)
              · try simp only [xB_s, xN_s, xP_s, xS_s, xK_s, xV_s, xF_s, xR_s, xL_s, xA_s] at c16
                have hl8 := hl9 (by omega)
                refine rVV hG (sp_X4_takeNumber (uo := uo) (ux := (xSet ux i i (xK ux) (xV ux) (xF ux))) (ua := ua) (ub := ub) (v0 := v0) (v1 := v1) (v2 := v2) (up := up) (uq := uq) (ur := ur) (c := w) (by omega) hn (by show 0 ≤ i ∧ i ≤ xN ux; omega) (by show 0 ≤ i ∧ i ≤ 150; omega) hx) rfl rfl lk_X4_130 mf_X4_takeNumber (by decide) (Nat.le_of_ble_eq_true rfl) ⟨_, _, _, rfl, rfl, rfl⟩ ?_
                rintro _ rfl
                rw [ntk_D0]
                refine rRun hG 99999 ?_
                refine rVR hG rfl rfl rfl ?_
                have hC9 : tC ux = w := by
                  unfold tC; rw [← hi9]; exact hw.symm
                first | (rw [ntk_E hC9 hi9 (by omega)]; rfl) | (rw [ntk_L hC9 hi9 (by omega)]; done) | (rw [ntk_D hC9 hi9 (by omega)]; done) | (rw [ntk_S hC9 hi9 (by omega)]; rfl) | (rw [ntk_O hC9 hi9 (by omega) (by omega) (by omega) (by omega)]; rfl)
            · try simp only [xB_s, xN_s, xP_s, xS_s, xK_s, xV_s, xF_s, xR_s, xL_s, xA_s] at c14
              have hl8 := hl9 (by omega)
              refine rVV hG (sp_X4_takeLetters (uo := uo) (ux := (xSet ux i i (xK ux) (xV ux) (xF ux))) (ua := ua) (ub := ub) (v0 := v0) (v1 := v1) (v2 := v2) (up := up) (uq := uq) (ur := ur) (c := w) (by omega) hn (by show 0 ≤ i ∧ i ≤ xN ux; omega) (by show 0 ≤ i ∧ i ≤ 150; omega) hx) rfl rfl lk_X4_124 mf_X4_takeLetters (by decide) (Nat.le_of_ble_eq_true rfl) ⟨_, _, _, rfl, rfl, rfl⟩ ?_
              rintro _ rfl
              rw [ntk_L0]
              refine rRun hG 99999 ?_
              refine rVR hG rfl rfl rfl ?_
              have hC9 : tC ux = w := by
                unfold tC; rw [← hi9]; exact hw.symm
              first | (rw [ntk_E hC9 hi9 (by omega)]; rfl) | (rw [ntk_L hC9 hi9 (by omega)]; done) | (rw [ntk_D hC9 hi9 (by omega)]; done) | (rw [ntk_S hC9 hi9 (by omega)]; rfl) | (rw [ntk_O hC9 hi9 (by omega) (by omega) (by omega) (by omega)]; rfl)
          · try simp only [xB_s, xN_s, xP_s, xS_s, xK_s, xV_s, xF_s, xR_s, xL_s, xA_s] at cz
            refine And.intro ⟨rfl, by exact Nat.le_of_ble_eq_true rfl, by exact True.intro⟩ (?_)
            refine rVR hG rfl rfl rfl ?_
            have hC9 : tC ux = w := by
              unfold tC; rw [← hi9]; exact hw.symm
            first | (rw [ntk_E hC9 hi9 (by omega)]; rfl) | (rw [ntk_L hC9 hi9 (by omega)]; done) | (rw [ntk_D hC9 hi9 (by omega)]; done) | (rw [ntk_S hC9 hi9 (by omega)]; rfl) | (rw [ntk_O hC9 hi9 (by omega) (by omega) (by omega) (by omega)]; rfl)
        · try simp only [xB_s, xN_s, xP_s, xS_s, xK_s, xV_s, xF_s, xR_s, xL_s, xA_s] at c11
          refine And.intro rfl (And.intro ⟨rfl, by exact Nat.le_of_ble_eq_true rfl, by exact True.intro⟩ (?_))
          refine ih (i + 1) ⟨by omega, ?_⟩ (by omega)
          rw [← hinv.2]
          exact (runT_go (by omega) (by unfold pSp; exact beq_iff_eq.mpr (by omega))).symm
  exact J0 _ (xP ux) ⟨by omega, rfl⟩ (Nat.lt_succ_self _)
end WALKS
