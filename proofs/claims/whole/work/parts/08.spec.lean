/-! contracts of the small machine, and the rules by which one is walked -/
def rmD (d : Nat) : Room := { frames := d, cells := 0, slots := 0, locals := 32 * d }
def mPre (dC : Nat → ClassId) (dI : Nat → Nat → Nat) (cI cZ : ClassId) (ad : Nat → Nat) (sz : Nat) (As : List mV) (h : mH) : Array Value → State → Prop :=
  va_Pc (As.map (cV ad)) (fun U => U.heap.size = sz ∧ va_P (dC, dI) mcl (cW ad cI cZ h) U.heap ∧ va_K (dC, dI) mcl (mtys cI cZ) U ∧ va_D (fun _ => True) (cW ad cI cZ h) ∧ mNst U)
def mB (dC : Nat → ClassId) (dI : Nat → Nat → Nat) (cI cZ : ClassId) (ad : Nat → Nat) (A : Nat → Prop) (h : mH) (t : State) : Prop := va_P (dC, dI) mcl (cW ad cI cZ h) t.heap ∧ va_K (dC, dI) mcl (mtys cI cZ) t ∧ va_D A (cW ad cI cZ h)
abbrev mws (y : MethodName) (b : ByteArray) (nL : Nat) (ret : Option FieldType) : List Jvm.Cond := Cond.code y b nL ret :: mtb
/-- called with As in the heap h, it answers z and leaves h', with post z h' -/
def SpI (l : Launch) (d : Nat) (y : MethodName) (b : ByteArray) (nL : Nat) (ret : Option FieldType) (As : List mV) (h : mH) (post : Int → mH → Prop) : Prop :=
  ∀ (dC : Nat → ClassId) (dI : Nat → Nat → Nat) (cI cZ : ClassId) (ad : Nat → Nat) (sz : Nat), Met l y (mws y b nL ret) (rmD d) (mPre dC dI cI cZ ad sz As h) (va_Qi (fun (r : Int32) (u : mH) => ∃ z : Int, r = iN z ∧ post z u) (mB dC dI cI cZ ad (va_A (cW ad cI cZ h) sz)) (va_A (cW ad cI cZ h) sz)) 0 0 (va_A (cW ad cI cZ h) sz)
def SpJ (l : Launch) (d : Nat) (y : MethodName) (b : ByteArray) (nL : Nat) (ret : Option FieldType) (As : List mV) (h : mH) (post : Int → mH → Prop) : Prop :=
  ∀ (dC : Nat → ClassId) (dI : Nat → Nat → Nat) (cI cZ : ClassId) (ad : Nat → Nat) (sz : Nat), Met l y (mws y b nL ret) (rmD d) (mPre dC dI cI cZ ad sz As h) (va_Ql (fun (r : Int64) (u : mH) => ∃ z : Int, r = jN z ∧ post z u) (mB dC dI cI cZ ad (va_A (cW ad cI cZ h) sz)) (va_A (cW ad cI cZ h) sz)) 0 0 (va_A (cW ad cI cZ h) sz)
def SpV (l : Launch) (d : Nat) (y : MethodName) (b : ByteArray) (nL : Nat) (ret : Option FieldType) (As : List mV) (h : mH) (post : mH → Prop) : Prop :=
  ∀ (dC : Nat → ClassId) (dI : Nat → Nat → Nat) (cI cZ : ClassId) (ad : Nat → Nat) (sz : Nat), Met l y (mws y b nL ret) (rmD d) (mPre dC dI cI cZ ad sz As h) (va_Qv (fun u : mH => post u) (mB dC dI cI cZ ad (va_A (cW ad cI cZ h) sz)) (va_A (cW ad cI cZ h) sz)) 0 0 (va_A (cW ad cI cZ h) sz)
/-- what the tables say of a method -/
def mfA (y : MethodName) (b : ByteArray) (nL : Nat) (ret : Option FieldType) (n : Nat) : Prop := Cond.initialized y.cls ∈ mtb ∧ Cond.code y b nL ret ∈ mtb ∧ (y.cls ≠ "java/lang/invoke/MethodHandle" ∧ y.cls ≠ "java/lang/invoke/VarHandle" ∧ (parseMethodDescriptor y.desc).map (fun d => d.parameters.length) = some n) ∧ nL ≤ 13 ∧ plainName y.cls = true
def mfV (y : MethodName) (b : ByteArray) (nL : Nat) (ret : Option FieldType) (n : Nat) : Prop := mfA y b nL ret n ∧ Cond.instanceMethod y ∈ mtb ∧ Cond.selects y.cls y y ∈ mtb
def mfS (y : MethodName) (b : ByteArray) (nL : Nat) (ret : Option FieldType) (n : Nat) : Prop := mfA y b nL ret n ∧ Cond.static y ∈ mtb
def mlk (own : String) (idx : Nat) (y : MethodName) : Prop := Cond.methodLink own idx y ∈ mtb
/-- who receives -/
def mrv (h : mH) (a : Nat) (C : String) : Prop := ∃ (ci : Nat) (fs : List mV) (q : vw_C), h[a]? = some (.inl (ci, fs)) ∧ mcl[ci]? = some q ∧ q.1 = C
theorem tbl_good : ∀ w ∈ mtb, goodWord w = true := fun _ h => (List.mem_filter.mp h).2
theorem tbl_in {ws : List Jvm.Cond} (h : ∀ w ∈ ws, w ∈ mtb) : GoodIn mtb ws := fun w hw => ⟨h w hw, good_of_word (tbl_good w (h w hw))⟩
theorem cVlen {ad : Nat → Nat} : ∀ {st : List mV}, ((st.map (cV ad)).map fun v => v.category).sum ≤ 2 * st.length
  | [] => Nat.le_refl 0
  | v :: r => by
    have h1 := cVlen (ad := ad) (st := r)
    have h2 : (cV ad v).category ≤ 2 := by
      rcases lv_cat (cV ad v) with q | q <;> omega
    simp only [List.map_cons, List.sum_cons, List.length_cons]
    omega
theorem mFB {dC : Nat → ClassId} {dI : Nat → Nat → Nat} {cI cZ : ClassId} {ad : Nat → Nat} {sz : Nat} {As : List mV} {h : mH} : FrameBlind (mPre dC dI cI cZ ad sz As h) := fun a U g mk q => by
  obtain ⟨q0, q1, qP, qK, qD, qN⟩ := q
  exact ⟨q0, q1, qP, va_K.moved (u := U) (U := U.calling g mk a) (Vm.Alike.refl U.vm) qK, qD, va_Nw.same (U := U.calling g mk a) rfl rfl qN.1, va_Nw.same (U := U.calling g mk a) rfl rfl qN.2⟩
section CALL
variable {p : Program} {l : Launch} {e : Env} {R : Room} {s : State} {m : MethodId} {args : Array Value} {below : List Frame} {meth : Method} {c : Code} {Q : State → Prop}
variable {dC : Nat → ClassId} {dI : Nat → Nat → Nat} {cI cZ : ClassId} {ad : Nat → Nat} {A : Nat → Prop} {H0 : Heap} {nL : Nat} {cc : ByteArray} {own : String}
variable {pc : Nat} {L : mL} {h : mH} {idx : Nat} {y : MethodName} {b : ByteArray} {nL' : Nat} {ret : Option FieldType} {d d' : Nat} {As rest : List mV} {a : Nat}
theorem cw_free {H : Heap} {locs : List Loc} (hD : va_D A (cW ad cI cZ h)) (hS : va_S A H0 H locs) (hA : ∀ q, H0.size ≤ q → A q) : ∀ q, va_A (cW ad cI cZ h) H.size q → A q := by
  intro q hq
  rcases hq with ⟨k, e, he⟩ | hq
  · exact hD.2 k (q, e) he
  · exact hA q (Nat.le_trans hS.1 hq)
theorem cwB (hts : ∀ w ∈ mtb, w.before args s = true) (hf : mfA y b nL' ret As.length) (hl : mlk own idx y) (hd : d' < d) (hR : R.frames = d ∧ R.locals = 32 * d) : CallB R s args own idx y b nL' ret (mws y b nL' ret) (rmD d') 0 0 As.length := by
  obtain ⟨h1, h2, h3, h4, -⟩ := hf
  refine callB_of _ hts (tbl_in ?_) rfl rfl rfl (hts _ h1) (hts _ hl) h3 ?_
  · intro w hw
    rcases List.mem_cons.mp hw with rfl | hw
    · exact h2
    · exact hw
  · show d' + 1 ≤ R.frames ∧ 8 + (nL' + 11) + 32 * d' ≤ R.locals
    rw [hR.1, hR.2]; omega
theorem mpre_of {H : Heap} (hN : mNst s) (hK : va_K (dC, dI) mcl (mtys cI cZ) s) (hP : va_P (dC, dI) mcl (cW ad cI cZ h) H) (hD : va_D A (cW ad cI cZ h)) {v : Array Value} (hv : v = (As.map (cV ad)).toArray) : ∀ U : State, U.heap = H → s.WarmedH U.vm → mPre dC dI cI cZ ad H.size As h v U := fun U hU hW =>
  ⟨hv, by rw [hU], by rw [hU]; exact hP, va_K.moved hW.alike hK, hD.weaken (fun _ _ _ _ => trivial), hN.warm hW⟩
theorem map_rev {f : mV → Value} {As rest : List mV} {x : mV} : (As.reverse ++ x :: rest).map f = (As.map f).reverse ++ f x :: rest.map f := by simp
theorem map_revS {f : mV → Value} {As rest : List mV} : (As.reverse ++ rest).map f = (As.map f).reverse ++ rest.map f := by simp
theorem call_V (C : mCtx p s m args c dC dI cI cZ cc own nL) (hA : ∀ q, H0.size ≤ q → A q) (hR : R.frames = d ∧ R.locals = 32 * d) (hdg : decode cc pc = .ok (.invokevirtual idx, 3)) (hf : mfV y b nL' ret As.length) (hl : mlk own idx y) (hd : d' < d) (hr : rest.length ≤ 4) (hv : mrv h a y.cls) {post : Int → mH → Prop} (hsp : SpI l d' y b nL' ret (mr a :: As) h post)
    (kk : ∀ z h', post z h' → mG p l e R s m args below meth c Q dC dI cI cZ ad A H0 nL (pc + 3) L (mi z :: rest) h') : mG p l e R s m args below meth c Q dC dI cI cZ ad A H0 nL pc L (As.reverse ++ mr a :: rest) h := by
  obtain ⟨hx, hb, hown, hts, hw, hml, hnst⟩ := C
  intro H locs ls hP hD hS hL
  have hFc := cw_free hD hS hA
  obtain ⟨ci, fs, q, v1, v2, v3⟩ := hv
  have hcw : CallW R s args own y.cls idx y b nL' ret (mws y b nL' ret) (rmD d') 0 0 As.length := ⟨cwB hts hf.1 hl hd hR, hts _ hf.2.1, hts _ hf.2.2⟩
  have hrc := va_recv hw hP v2 (cW_get v1)
  rw [v3] at hrc
  have hrun := va_runV (As := As.map (cV ad)) (rest := rest.map (cV ad)) (b := ad a) (g := F0 m pc ls ((As.reverse ++ mr a :: rest).map (cV ad))) (R := R) (locs := locs) (cells := 0) (slots := 0) (meth := meth) (below := below) (e := e) ⟨hx, hb, hml, hown, hts⟩ (hsp dC dI cI cZ ad H.size) hcw ⟨mFB, hrc, mpre_of hnst hw hP hD rfl⟩ rfl (List.length_map _) hL.2.1 map_rev (lv_room (Nat.le_trans cVlen (by omega))) hdg ⟨Nat.zero_le _, Nat.zero_le _⟩
  refine va_calli hrun hS (fun q _ h => hFc q h) hFc (fun r u t H1 locs1 ht hvm hz hB hz1 hk1 hS1 => ?_)
  obtain ⟨z, rfl, hpost⟩ := hz
  obtain ⟨hP1, hK1, hD1⟩ := hB
  rw [ht] at hP1
  exact kk z u hpost H1 locs1 ls hP1 (hD1.weaken (fun k q _ h => hFc q.1 h)) hS1 hL
theorem call_VV (C : mCtx p s m args c dC dI cI cZ cc own nL) (hA : ∀ q, H0.size ≤ q → A q) (hR : R.frames = d ∧ R.locals = 32 * d) (hdg : decode cc pc = .ok (.invokevirtual idx, 3)) (hf : mfV y b nL' ret As.length) (hl : mlk own idx y) (hd : d' < d) (hr : rest.length ≤ 4) (hv : mrv h a y.cls) {post : mH → Prop} (hsp : SpV l d' y b nL' ret (mr a :: As) h post)
    (kk : ∀ h', post h' → mG p l e R s m args below meth c Q dC dI cI cZ ad A H0 nL (pc + 3) L rest h') : mG p l e R s m args below meth c Q dC dI cI cZ ad A H0 nL pc L (As.reverse ++ mr a :: rest) h := by
  obtain ⟨hx, hb, hown, hts, hw, hml, hnst⟩ := C
  intro H locs ls hP hD hS hL
  have hFc := cw_free hD hS hA
  obtain ⟨ci, fs, q, v1, v2, v3⟩ := hv
  have hcw : CallW R s args own y.cls idx y b nL' ret (mws y b nL' ret) (rmD d') 0 0 As.length := ⟨cwB hts hf.1 hl hd hR, hts _ hf.2.1, hts _ hf.2.2⟩
  have hrc := va_recv hw hP v2 (cW_get v1)
  rw [v3] at hrc
  have hrun := va_runV (As := As.map (cV ad)) (rest := rest.map (cV ad)) (b := ad a) (g := F0 m pc ls ((As.reverse ++ mr a :: rest).map (cV ad))) (R := R) (locs := locs) (cells := 0) (slots := 0) (meth := meth) (below := below) (e := e) ⟨hx, hb, hml, hown, hts⟩ (hsp dC dI cI cZ ad H.size) hcw ⟨mFB, hrc, mpre_of hnst hw hP hD rfl⟩ rfl (List.length_map _) hL.2.1 map_rev (lv_room (Nat.le_trans cVlen (by omega))) hdg ⟨Nat.zero_le _, Nat.zero_le _⟩
  refine va_callv hrun hS (fun q _ h => hFc q h) hFc (fun u t H1 locs1 ht hvm hpost hB hz1 hk1 hS1 => ?_)
  obtain ⟨hP1, hK1, hD1⟩ := hB
  rw [ht] at hP1
  exact kk u hpost H1 locs1 ls hP1 (hD1.weaken (fun k q _ h => hFc q.1 h)) hS1 hL
theorem call_S (C : mCtx p s m args c dC dI cI cZ cc own nL) (hA : ∀ q, H0.size ≤ q → A q) (hR : R.frames = d ∧ R.locals = 32 * d) (hdg : decode cc pc = .ok (.invokestatic idx, 3)) (hf : mfS y b nL' ret As.length) (hl : mlk own idx y) (hd : d' < d) (hr : rest.length ≤ 4) {post : Int → mH → Prop} (hsp : SpI l d' y b nL' ret As h post)
    (kk : ∀ z h', post z h' → mG p l e R s m args below meth c Q dC dI cI cZ ad A H0 nL (pc + 3) L (mi z :: rest) h') : mG p l e R s m args below meth c Q dC dI cI cZ ad A H0 nL pc L (As.reverse ++ rest) h := by
  obtain ⟨hx, hb, hown, hts, hw, hml, hnst⟩ := C
  intro H locs ls hP hD hS hL
  have hFc := cw_free hD hS hA
  have hrun := va_runS (As := As.map (cV ad)) (rest := rest.map (cV ad)) (g := F0 m pc ls ((As.reverse ++ rest).map (cV ad))) (R := R) (locs := locs) (cells := 0) (slots := 0) (meth := meth) (below := below) (e := e) ⟨hx, hb, hml, hown, hts⟩ (hsp dC dI cI cZ ad H.size) ⟨cwB hts hf.1 hl hd hR, hts _ hf.2⟩ ⟨mFB, mpre_of hnst hw hP hD rfl⟩ rfl (List.length_map _) hL.2.1 map_revS (lv_room (Nat.le_trans cVlen (by omega))) hdg ⟨Nat.zero_le _, Nat.zero_le _⟩
  refine va_calli hrun hS (fun q _ h => hFc q h) hFc (fun r u t H1 locs1 ht hvm hz hB hz1 hk1 hS1 => ?_)
  obtain ⟨z, rfl, hpost⟩ := hz
  obtain ⟨hP1, hK1, hD1⟩ := hB
  rw [ht] at hP1
  exact kk z u hpost H1 locs1 ls hP1 (hD1.weaken (fun k q _ h => hFc q.1 h)) hS1 hL
end CALL
/-- what of the tables the calls of Math and System need -/
def mJdk : Prop := (Cond.static Lib.Math.max.name ∈ mtb ∧ Cond.static Lib.Math.min.name ∈ mtb ∧ Cond.static Lib.Math.abs.name ∈ mtb) ∧ Cond.initialized "java/lang/Math" ∈ mtb ∧ (Cond.code Lib.Math.max.name Lib.Math.max.code 2 (some .int) ∈ mtb ∧ Cond.code Lib.Math.min.name Lib.Math.min.code 2 (some .int) ∈ mtb ∧ Cond.code Lib.Math.abs.name Lib.Math.abs.code 1 (some .int) ∈ mtb) ∧ Cond.native arraycopyName ∈ mtb ∧ Cond.static arraycopyName ∈ mtb ∧ Cond.initialized "java/lang/System" ∈ mtb
