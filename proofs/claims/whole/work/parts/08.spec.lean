/-! contracts of the small machine, and the rules by which one is walked -/
def rmD (d : Nat) : Room := { frames := d, cells := 0, slots := 0, locals := 32 * d }
def mPre (dC : Nat → ClassId) (dI : Nat → Nat → Nat) (cI cZ : ClassId) (ad : Nat → Nat) (sz : Nat) (As : List mV) (h : mH) : Array Value → State → Prop :=
  va_Pc (As.map (cV ad)) (fun U => U.heap.size = sz ∧ va_P (dC, dI) mcl (cW ad cI cZ h) U.heap ∧ va_K (dC, dI) mcl (mtys cI cZ) U ∧ va_D (fun _ => True) (cW ad cI cZ h) ∧ mNst U)
def mB (dC : Nat → ClassId) (dI : Nat → Nat → Nat) (cI cZ : ClassId) (ad : Nat → Nat) (A : Nat → Prop) (h : mH) (t : State) : Prop := va_P (dC, dI) mcl (cW ad cI cZ h) t.heap ∧ va_K (dC, dI) mcl (mtys cI cZ) t ∧ va_D A (cW ad cI cZ h)
abbrev mws (y : MethodName) (b : ByteArray) (nL : Nat) (ret : Option FieldType) : List Jvm.Cond := Cond.code y b nL ret :: mtb
/-- called with As in the heap h, it answers z and leaves h', with post z h' -/
def SpI (l : Launch) (d : Nat) (y : MethodName) (b : ByteArray) (nL : Nat) (ret : Option FieldType) (As : List mV) (h : mH) (post : Int → mH → Prop) : Prop :=
  ∀ (dC : Nat → ClassId) (dI : Nat → Nat → Nat) (cI cZ : ClassId) (ad : Nat → Nat) (sz : Nat), Met l y (mws y b nL ret) (rmD d) (mPre dC dI cI cZ ad sz As h) (va_Qi (fun (r : Int32) (u : mH) => ∃ z : Int, r = iN z ∧ post z u) (mB dC dI cI cZ ad (va_A (cW ad cI cZ h) sz)) (va_A (cW ad cI cZ h) sz)) 0 0 (va_A (cW ad cI cZ h) sz)
def SpJ (l : Launch) (d : Nat) (y : MethodName) (b : ByteArray) (nL : Nat) (ret : Option FieldType) (As : List mV) (h : mH) (post : Int → mH → Prop) : Prop :=
  ∀ (dC : Nat → ClassId) (dI : Nat → Nat → Nat) (cI cZ : ClassId) (ad : Nat → Nat) (sz : Nat), Met l y (mws y b nL ret) (rmD d) (mPre dC dI cI cZ ad sz As h) (va_Ql (fun (r : Int64) (u : mH) => ∃ z : Int, r = jN z ∧ post z u) (mB dC dI cI cZ ad (va_A (cW ad cI cZ h) sz)) (va_A (cW ad cI cZ h) sz)) 0 0 (va_A (cW ad cI cZ h) sz)
def SpV (l : Launch) (d : Nat) (y : MethodName) (b : ByteArray) (nL : Nat) (ret : Option FieldType) (As : List mV) (h : mH) (post : mH → Prop) : Prop :=
  ∀ (dC : Nat → ClassId) (dI : Nat → Nat → Nat) (cI cZ : ClassId) (ad : Nat → Nat) (sz : Nat), Met l y (mws y b nL ret) (rmD d) (mPre dC dI cI cZ ad sz As h) (va_Qv (fun u : mH => post u) (mB dC dI cI cZ ad (va_A (cW ad cI cZ h) sz)) (va_A (cW ad cI cZ h) sz)) 0 0 (va_A (cW ad cI cZ h) sz)
/-- what the tables say of a method -/
def mfA (y : MethodName) (b : ByteArray) (nL : Nat) (ret : Option FieldType) (n : Nat) : Prop := Cond.initialized y.cls ∈ mtb ∧ Cond.code y b nL ret ∈ mtb ∧ (y.cls ≠ "java/lang/invoke/MethodHandle" ∧ y.cls ≠ "java/lang/invoke/VarHandle" ∧ (parseMethodDescriptor y.desc).map (fun d => d.parameters.length) = some n) ∧ nL ≤ 13 ∧ plainName y.cls = true
def mfV (y : MethodName) (b : ByteArray) (nL : Nat) (ret : Option FieldType) (n : Nat) : Prop := mfA y b nL ret n ∧ Cond.instanceMethod y ∈ mtb ∧ Cond.selects y.cls y y ∈ mtb
def mfS (y : MethodName) (b : ByteArray) (nL : Nat) (ret : Option FieldType) (n : Nat) : Prop := mfA y b nL ret n ∧ Cond.static y ∈ mtb
def mlk (own : String) (idx : Nat) (y : MethodName) : Prop := Cond.methodLink own idx y ∈ mtb
/-- who receives -/
def mrv (h : mH) (a : Nat) (C : String) : Prop := ∃ (ci : Nat) (fs : List mV) (q : vw_C), h[a]? = some (.inl (ci, fs)) ∧ mcl[ci]? = some q ∧ q.1 = C
theorem tbl_good : ∀ w ∈ mtb, goodWord w = true := fun _ h => (List.mem_filter.mp h).2
theorem tbl_in {ws : List Jvm.Cond} (h : ∀ w ∈ ws, w ∈ mtb) : GoodIn mtb ws := fun w hw => ⟨h w hw, good_of_word (tbl_good w (h w hw))⟩
theorem mFB {dC : Nat → ClassId} {dI : Nat → Nat → Nat} {cI cZ : ClassId} {ad : Nat → Nat} {sz : Nat} {As : List mV} {h : mH} : FrameBlind (mPre dC dI cI cZ ad sz As h) := fun a U g mk q => by
  obtain ⟨q0, q1, qP, qK, qD, qN⟩ := q
  exact ⟨q0, q1, qP, va_K.moved (u := U) (U := U.calling g mk a) (Vm.Alike.refl U.vm) qK, qD, va_Nw.same (U := U.calling g mk a) rfl rfl qN.1, va_Nw.same (U := U.calling g mk a) rfl rfl qN.2⟩
/-- what of the tables the calls of Math and System need -/
def mJdk : Prop := (Cond.static Lib.Math.max.name ∈ mtb ∧ Cond.static Lib.Math.min.name ∈ mtb ∧ Cond.static Lib.Math.abs.name ∈ mtb) ∧ Cond.initialized "java/lang/Math" ∈ mtb ∧ (Cond.code Lib.Math.max.name Lib.Math.max.code 2 (some .int) ∈ mtb ∧ Cond.code Lib.Math.min.name Lib.Math.min.code 2 (some .int) ∈ mtb ∧ Cond.code Lib.Math.abs.name Lib.Math.abs.code 1 (some .int) ∈ mtb) ∧ Cond.native arraycopyName ∈ mtb ∧ Cond.static arraycopyName ∈ mtb ∧ Cond.initialized "java/lang/System" ∈ mtb
