/-! one instruction is sound -/
/-- the eight classes of the system -/
abbrev mcl : List vw_C := [(RX0, TX0, 4), (RX1, TX1, 5), (RX2, TX2, 5), (RX3, TX3, 3), (RX4, TX4, 10), (RX5, TX5, 9), (RX6, TX6, 10), (RX7, TX7, 35)]
def mtys (cI cZ : ClassId) : List (ClassId × FieldType) := [(cI, .int), (cZ, .boolean)]
/-- what a field's number says: its class, its place, its kind -/
def mfok (own : String) (x : Nat) (q : Nat × Nat × Nat) : Prop :=
  ∃ (C : String) (T : u_T) (N : Nat) (t0 : Nat → FieldType) (ty : FieldType), mcl[q.1]? = some (C, T, N) ∧ q.2.1 < N ∧ (∀ w ∈ u_ws C T N, w ∈ mtb) ∧ (∀ k, k < N → parseFieldDescriptor (T k).2.2.1 = some (t0 k)) ∧ (∀ a, a < N → ∀ b, b < N → a ≠ b → (T a).2.1 ≠ (T b).2.1) ∧
    Cond.fieldLink own x (T q.2.1).1 (T q.2.1).2.1 (T q.2.1).2.2.1 ∈ mtb ∧ parseFieldDescriptor (T q.2.1).2.2.1 = some ty ∧
    (match q.2.2 with | 0 => ty = .int ∧ (T q.2.1).2.2.2 = false | 1 => ty = .boolean ∧ (T q.2.1).2.2.2 = false | 2 => ty = .long ∧ (T q.2.1).2.2.2 = false | 3 => ((∃ D, ty = .object D) ∨ ty = .array .int) ∧ (T q.2.1).2.2.2 = false | _ => True)
def mFT (own : String) (fT : Nat → Option (Nat × Nat × Nat)) : Prop := ∀ x q, fT x = some q → mfok own x q
def mKT (own : String) (kT : Nat → Option Int) : Prop := ∀ x z, kT x = some z → Cond.constant own x (iN z) ∈ mtb
def mKJ (own : String) (kJ : Nat → Option Int) : Prop := ∀ x z, kJ x = some z → Cond.constantLong own x (jN z) ∈ mtb
section MG
variable {p : Program} {l : Launch} {e : Env} {R : Room} {s : State} {m : MethodId} {args : Array Value} {below : List Frame} {meth : Method} {c : Code} {Q : State → Prop}
variable {dC : Nat → ClassId} {dI : Nat → Nat → Nat} {cI cZ : ClassId} {ad : Nat → Nat} {A : Nat → Prop} {H0 : Heap} {nL : Nat} {cc : ByteArray} {own : String}
/-- the walk stands at pc with these locals, this stack, this heap -/
def mG (p : Program) (l : Launch) (e : Env) (R : Room) (s : State) (m : MethodId) (args : Array Value) (below : List Frame) (meth : Method) (c : Code) (Q : State → Prop) (dC : Nat → ClassId) (dI : Nat → Nat → Nat) (cI cZ : ClassId) (ad : Nat → Nat) (A : Nat → Prop) (H0 : Heap) (nL : Nat) (pc : Nat) (L : mL) (st : List mV) (h : mH) : Prop :=
  ∀ (H : Heap) (locs : List Loc) (ls : Array Slot), va_P (dC, dI) mcl (cW ad cI cZ h) H → va_D A (cW ad cI cZ h) → va_S A H0 H locs → mLs ad nL ls L → W p l e R s m args below meth c H locs 0 0 Q (F0 m pc ls (st.map (cV ad)))
/-- the links to a nest mate's private method -/
def mNst (U : State) : Prop := va_Nw (.methodLinkNest RX1 75 yX6_isBeyond "TowerPrisoner") U ∧ va_Nw (.methodLinkNest RX3 100 yX6_isBeyond "TowerPrisoner") U
theorem mNst.warm {s U : State} (hW : s.WarmedH U.vm) (h : mNst s) : mNst U := ⟨va_Nw.warmM hW h.1, va_Nw.warmM hW h.2⟩
/-- what a walk has in common -/
def mCtx (p : Program) (s : State) (m : MethodId) (args : Array Value) (c : Code) (dC : Nat → ClassId) (dI : Nat → Nat → Nat) (cI cZ : ClassId) (cc : ByteArray) (own : String) (nL : Nat) : Prop :=
  p.tables.exec = Jvm.exec ∧ c.code = cc ∧ s.vm.findClass own = some m.cls ∧ (∀ w ∈ mtb, w.before args s = true) ∧ va_K (dC, dI) mcl (mtys cI cZ) s ∧ c.maxLocals = nL ∧ mNst s
theorem m1_e {st : List mV} {f : Int → List mV → Prop} (h : m1 st f) : ∃ a r, st = .inl a :: r ∧ f a r := by
  unfold m1 at h
  split at h
  · exact ⟨_, _, rfl, h⟩
  · exact h.elim
theorem m2_e {st : List mV} {f : Int → Int → List mV → Prop} (h : m2 st f) : ∃ a b r, st = .inl b :: .inl a :: r ∧ f a b r := by
  unfold m2 at h
  split at h
  · exact ⟨_, _, _, rfl, h⟩
  · exact h.elim
theorem n1_e {st : List mV} {f : Int → List mV → Prop} (h : n1 st f) : ∃ a r, st = .inr (.inl a) :: r ∧ f a r := by
  unfold n1 at h
  split at h
  · exact ⟨_, _, rfl, h⟩
  · exact h.elim
theorem n2_e {st : List mV} {f : Int → Int → List mV → Prop} (h : n2 st f) : ∃ a b r, st = .inr (.inl b) :: .inr (.inl a) :: r ∧ f a b r := by
  unfold n2 at h
  split at h
  · exact ⟨_, _, _, rfl, h⟩
  · exact h.elim
theorem mldi_e {L : mL} {i : Nat} {f : Int → Prop} (h : mldi L i f) : ∃ z, L[i]? = some (some (.inl z)) ∧ f z := by
  unfold mldi at h
  split at h
  · rename_i z hz; exact ⟨z, hz, h⟩
  · exact h.elim
theorem mldl_e {L : mL} {i : Nat} {f : Int → Prop} (h : mldl L i f) : ∃ z, L[i]? = some (some (.inr (.inl z))) ∧ f z := by
  unfold mldl at h
  split at h
  · rename_i z hz; exact ⟨z, hz, h⟩
  · exact h.elim
theorem mlda_e {L : mL} {i : Nat} {f : Nat → Prop} (h : mlda L i f) : ∃ z, L[i]? = some (some (.inr (.inr (some z)))) ∧ f z := by
  unfold mlda at h
  split at h
  · rename_i z hz; exact ⟨z, hz, h⟩
  · exact h.elim
theorem mtsw_e {pc : Nat} {z : Int} {g : Nat → Prop} : ∀ {os : List Int} {lo : Int}, mtsw pc lo z g os → ∀ (k : Nat) (o : Int), os[k]? = some o → z = lo + k → g ((pc : Int) + o).toNat
  | [], _, _, k, o, e, _ => by cases e
  | x :: os, lo, h, 0, o, e, hz => by
    obtain ⟨h1, -⟩ := h
    cases e
    exact h1 (by omega)
  | x :: os, lo, h, k + 1, o, e, hz => mtsw_e h.2 k o (by simpa using e) (by omega)
theorem mlsw_e {pc : Nat} {z : Int} {g : Nat → Prop} : ∀ {os : List (Int × Int)}, mlsw pc z g os → ∀ o ∈ os, z = o.1 → g ((pc : Int) + o.2).toNat
  | [], _, o, e, _ => by cases e
  | x :: os, h, o, e, hz => by
    rcases List.mem_cons.mp e with rfl | q
    · exact h.1 hz
    · exact mlsw_e h.2 o q hz
theorem i8 {n : Int} (h : -128 ≤ n ∧ n ≤ 127) : (Int8.ofInt n).toInt32 = iN n := by
  rw [← Int32.ofInt_int8ToInt, Int8.toInt_ofInt_of_le (by omega) (by omega)]; rfl
theorem i16 {n : Int} (h : -32768 ≤ n ∧ n ≤ 32767) : (Int16.ofInt n).toInt32 = iN n := by
  rw [← Int32.ofInt_int16ToInt, Int16.toInt_ofInt_of_le (by omega) (by omega)]; rfl
end MG
