/-! THE SMALL MACHINE: whole numbers instead of words, a heap as a list of cells, one method's instructions run till a jump, a call, a return. -/
/-- the words of the tables that a callee may keep -/
def mtb : List Jvm.Cond := lw_tbl.filter goodWord
theorem mtb_in {w : Jvm.Cond} (h : w ∈ lw_tbl) (g : goodWord w = true) : w ∈ mtb := List.mem_filter.mpr ⟨h, g⟩
abbrev mV : Type := Int ⊕ (Int ⊕ Option Nat)
abbrev mC : Type := (Nat × List mV) ⊕ (Bool × Nat × (Nat → Int))
abbrev mH : Type := List mC
abbrev mL : Type := List (Option mV)
abbrev mI : Type := Instr × Nat × Nat
def iN (z : Int) : Int32 := Int32.ofInt z
def jN (z : Int) : Int64 := Int64.ofInt z
abbrev inI (z : Int) : Prop := -2147483648 ≤ z ∧ z ≤ 2147483647
abbrev inJ (z : Int) : Prop := 0 ≤ z ∧ z < 9223372036854775808
abbrev mi (z : Int) : mV := .inl z
abbrev ml (z : Int) : mV := .inr (.inl z)
abbrev mr (k : Nat) : mV := .inr (.inr (some k))
def cV (ad : Nat → Nat) : mV → Value
  | .inl z => .int (iN z)
  | .inr (.inl z) => .long (jN z)
  | .inr (.inr none) => .null
  | .inr (.inr (some k)) => .ref (ad k)
def cC (ad : Nat → Nat) (cI cZ : ClassId) : mC → va_E
  | .inl (ci, fs) => .inr (ci, fs.map (cV ad))
  | .inr (b, n, f) => .inl (cond b cZ cI, n, .inl (fun j => iN (f j)))
def cW (ad : Nat → Nat) (cI cZ : ClassId) (h : mH) : va_W := h.mapIdx (fun k c => (ad k, cC ad cI cZ c))
def mup (f : Nat → Int) (k : Nat) (v : Int) : Nat → Int := fun j => if j = k then v else f j
/-! numbers -/
theorem iN_add (a b : Int) : iN a + iN b = iN (a + b) := (Int32.ofInt_add a b).symm
theorem iN_sub (a b : Int) : iN a - iN b = iN (a - b) := (Int32.ofInt_sub a b).symm
theorem iN_mul (a b : Int) : iN a * iN b = iN (a * b) := (Int32.ofInt_mul a b).symm
theorem iN_neg (a : Int) : -iN a = iN (-a) := Int32.neg_ofInt
theorem iN_t {a : Int} (h : inI a) : (iN a).toInt = a := Int32.toInt_ofInt_of_le h.1 (by have := h.2; omega)
theorem iN_x (x : Int32) : iN x.toInt = x := Int32.ofInt_toInt x
theorem iN_n (n : Nat) : iN (n : Int) = nI n := Int32.ofInt_eq_ofNat
theorem iN_of {a : Int} (h : 0 ≤ a) : iN a = nI a.toNat := by
  have e : ((a.toNat : Nat) : Int) = a := Int.toNat_of_nonneg h
  rw [← iN_n, e]
theorem iN_cl {a : Int} (h : inI a) : (iN a).toNatClampNeg = a.toNat := by
  rw [← Int32.toNat_toInt, iN_t h]
theorem iN_lt {a b : Int} (ha : inI a) (hb : inI b) : iN a < iN b ↔ a < b := by
  rw [Int32.lt_iff_toInt_lt, iN_t ha, iN_t hb]
theorem iN_le {a b : Int} (ha : inI a) (hb : inI b) : iN a ≤ iN b ↔ a ≤ b := by
  rw [Int32.le_iff_toInt_le, iN_t ha, iN_t hb]
theorem iN_eq {a b : Int} (ha : inI a) (hb : inI b) : iN a = iN b ↔ a = b := by
  constructor
  · intro h
    have := congrArg Int32.toInt h
    rwa [iN_t ha, iN_t hb] at this
  · intro h; rw [h]
theorem iN_0 : iN 0 = 0 := rfl
theorem iN_in {i : Int} {n : Nat} (h0 : 0 ≤ i) (h1 : i < n) (hn : n < 65536) : vp_in (iN i) n ∧ (iN i).toNatClampNeg = i.toNat := by
  have hI : inI i := ⟨by omega, by omega⟩
  refine ⟨fun q => ?_, iN_cl hI⟩
  rcases q with q | q
  · rw [← iN_0, iN_lt hI ⟨by omega, by omega⟩] at q; omega
  · rw [iN_cl hI] at q; omega
theorem iN_div {a b : Int} (ha : 0 ≤ a ∧ a ≤ 2147483647) (hb : 0 < b ∧ b ≤ 2147483647) : iN a / iN b = iN (a / b) := by
  obtain ⟨m, rfl⟩ := Int.eq_ofNat_of_zero_le ha.1
  obtain ⟨n, rfl⟩ := Int.eq_ofNat_of_zero_le (Int.le_of_lt hb.1)
  have e : ((m : Int) / (n : Int)) = ((m / n : Nat) : Int) := rfl
  rw [e, iN_n, iN_n, iN_n]
  exact pk_div (by omega) (by omega) (by omega)
theorem iN_rem {a b : Int} (ha : 0 ≤ a ∧ a ≤ 2147483647) (hb : 0 < b ∧ b ≤ 2147483647) : iN a - iN a / iN b * iN b = iN (a % b) := by
  obtain ⟨m, rfl⟩ := Int.eq_ofNat_of_zero_le ha.1
  obtain ⟨n, rfl⟩ := Int.eq_ofNat_of_zero_le (Int.le_of_lt hb.1)
  have e : ((m : Int) % (n : Int)) = ((m % n : Nat) : Int) := rfl
  rw [e, iN_n, iN_n, iN_n]
  exact pk_rem (by omega) (by omega) (by omega)
theorem iN_ne0 {b : Int} (hb : 0 < b ∧ b ≤ 2147483647) : ¬ iN b = 0 := by
  rw [← iN_0, iN_eq ⟨by omega, by omega⟩ ⟨by omega, by omega⟩]; omega
theorem sN_k : ∀ k, k < 32 → ((nI k &&& 31).toBitVec.smod 32).toNat = k := by decide +kernel
theorem uN_k : ∀ k, k < 32 → (((nI k).toUInt32 &&& Int32.toUInt32 31).toBitVec % 32).toNat = k := by decide +kernel
theorem iN_shl {a s : Int} (ha : 0 ≤ a) (hs : 0 ≤ s ∧ s < 31) (hr : a * (2 : Int) ^ s.toNat ≤ 2147483647) : iN a <<< (iN s &&& 31) = iN (a * (2 : Int) ^ s.toNat) := by
  obtain ⟨m, rfl⟩ := Int.eq_ofNat_of_zero_le ha
  obtain ⟨k, rfl⟩ := Int.eq_ofNat_of_zero_le hs.1
  have e : ((m : Int) * (2 : Int) ^ (k : Int).toNat) = ((m * 2 ^ k : Nat) : Int) := by
    rw [Int.toNat_natCast]; simp
  rw [e] at hr ⊢
  rw [iN_n, iN_n, iN_n]
  exact pk_shlN _ k (sN_k k (by omega)) (by omega)
theorem iN_shr {a s : Int} (ha : 0 ≤ a ∧ a ≤ 2147483647) (hs : 0 ≤ s ∧ s < 31) : iN a >>> (iN s &&& 31) = iN (a / (2 : Int) ^ s.toNat) := by
  obtain ⟨m, rfl⟩ := Int.eq_ofNat_of_zero_le ha.1
  obtain ⟨k, rfl⟩ := Int.eq_ofNat_of_zero_le hs.1
  have e : ((m : Int) / (2 : Int) ^ (k : Int).toNat) = ((m / 2 ^ k : Nat) : Int) := by
    rw [Int.toNat_natCast]; simp
  rw [e, iN_n, iN_n, iN_n]
  exact pk_shrN (by omega) _ k (sN_k k (by omega))
theorem iN_ushr {a s : Int} (ha : 0 ≤ a ∧ a ≤ 2147483647) (hs : 0 ≤ s ∧ s < 31) : ((iN a).toUInt32 >>> ((iN s).toUInt32 &&& Int32.toUInt32 31)).toInt32 = iN (a / (2 : Int) ^ s.toNat) := by
  obtain ⟨m, rfl⟩ := Int.eq_ofNat_of_zero_le ha.1
  obtain ⟨k, rfl⟩ := Int.eq_ofNat_of_zero_le hs.1
  have e : ((m : Int) / (2 : Int) ^ (k : Int).toNat) = ((m / 2 ^ k : Nat) : Int) := by
    rw [Int.toNat_natCast]; simp
  rw [e, iN_n, iN_n, iN_n]
  exact pk_ushrN (by omega) _ k (uN_k k (by omega))
def zand (a b : Int) : Int := ((a.toNat &&& b.toNat : Nat) : Int)
def zor (a b : Int) : Int := ((a.toNat ||| b.toNat : Nat) : Int)
theorem nI_bv (n : Nat) : (nI n).toBitVec = BitVec.ofNat 32 n := rfl
theorem iN_and {a b : Int} (ha : 0 ≤ a) (hb : 0 ≤ b) : iN a &&& iN b = iN (zand a b) := by
  rw [iN_of ha, iN_of hb, zand, iN_n]
  apply Int32.toBitVec.inj
  rw [Int32.toBitVec_and, nI_bv, nI_bv, nI_bv]
  apply BitVec.eq_of_getLsbD_eq
  intro i hi
  simp [hi]
theorem iN_or {a b : Int} (ha : 0 ≤ a) (hb : 0 ≤ b) : iN a ||| iN b = iN (zor a b) := by
  rw [iN_of ha, iN_of hb, zor, iN_n]
  apply Int32.toBitVec.inj
  rw [Int32.toBitVec_or, nI_bv, nI_bv, nI_bv]
  apply BitVec.eq_of_getLsbD_eq
  intro i hi
  simp [hi]
theorem jN_add (a b : Int) : jN a + jN b = jN (a + b) := (Int64.ofInt_add a b).symm
theorem jN_mul (a b : Int) : jN a * jN b = jN (a * b) := (Int64.ofInt_mul a b).symm
theorem jN_n (n : Nat) : jN (n : Int) = lN n := Int64.ofInt_eq_ofNat
theorem jN_i {a : Int} (h : inI a) : (iN a).toInt64 = jN a := by
  show Int32.toInt64 (iN a) = Int64.ofInt a
  rw [← Int64.ofInt_int32ToInt, iN_t h]
theorem jN_t32 {a : Int} (h : inI a) : (jN a).toInt32 = iN a := by
  show Int64.toInt32 (jN a) = Int32.ofInt a
  rw [← Int32.ofInt_int64ToInt, jN, Int64.toInt_ofInt_of_le (by have := h.1; omega) (by have := h.2; omega)]
theorem jN_div {a b : Int} (ha : inJ a) (hb : inJ b) (h0 : 0 < b) : jN a / jN b = jN (a / b) := by
  obtain ⟨m, rfl⟩ := Int.eq_ofNat_of_zero_le ha.1
  obtain ⟨n, rfl⟩ := Int.eq_ofNat_of_zero_le hb.1
  have e : ((m : Int) / (n : Int)) = ((m / n : Nat) : Int) := rfl
  rw [e, jN_n, jN_n, jN_n]
  exact pk_lDiv (by have := ha.2; omega) (by omega) (by have := hb.2; omega)
theorem jN_rem {a b : Int} (ha : inJ a) (hb : inJ b) (h0 : 0 < b) : jN a - jN a / jN b * jN b = jN (a % b) := by
  obtain ⟨m, rfl⟩ := Int.eq_ofNat_of_zero_le ha.1
  obtain ⟨n, rfl⟩ := Int.eq_ofNat_of_zero_le hb.1
  have e : ((m : Int) % (n : Int)) = ((m % n : Nat) : Int) := rfl
  rw [e, jN_n, jN_n, jN_n]
  exact pk_lRem (by have := ha.2; omega) (by omega) (by have := hb.2; omega)
theorem jN_ne0 {b : Int} (hb : inJ b) (h0 : 0 < b) : ¬ jN b = 0 := by
  obtain ⟨n, rfl⟩ := Int.eq_ofNat_of_zero_le hb.1
  intro h
  have h2 : lN n = lN 0 := by rw [← jN_n, h]; rfl
  rw [pk_lEQ (by have := hb.2; omega) (by omega)] at h2
  omega
/-! the world of a heap -/
theorem cW_get {ad : Nat → Nat} {cI cZ : ClassId} {h : mH} {k : Nat} {c : mC} (e : h[k]? = some c) : (cW ad cI cZ h)[k]? = some (ad k, cC ad cI cZ c) := by
  unfold cW
  rw [List.getElem?_mapIdx, e]; rfl
theorem cW_set {ad : Nat → Nat} {cI cZ : ClassId} {h : mH} {k : Nat} {c : mC} : cW ad cI cZ (h.set k c) = (cW ad cI cZ h).set k (ad k, cC ad cI cZ c) := by
  unfold cW
  apply List.ext_getElem?
  intro j
  rw [List.getElem?_mapIdx, List.getElem?_set, List.getElem?_set, List.getElem?_mapIdx, List.length_mapIdx]
  by_cases hj : k = j
  · subst hj
    by_cases hl : k < h.length <;> simp [hl]
  · simp [hj]
theorem cC_arr {ad : Nat → Nat} {cI cZ : ClassId} {b : Bool} {n : Nat} {f : Nat → Int} {i : Nat} {v : Int} : cC ad cI cZ (.inr (b, n, mup f i v)) = .inl (cond b cZ cI, n, .inl (upd (fun j => iN (f j)) i (iN v))) := by
  have e : (fun j => iN (mup f i v j)) = upd (fun j => iN (f j)) i (iN v) := by
    funext j
    show iN (mup f i v j) = if j = i then iN v else iN (f j)
    unfold mup
    by_cases hj : j = i <;> simp [hj]
  show (Sum.inl _ : va_E) = _
  rw [e]
