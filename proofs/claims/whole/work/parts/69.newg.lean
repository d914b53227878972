/-! making objects: a walk that makes cells -/
def cref (n : Nat) : mC → Bool
  | .inl (_, fs) => fs.all (fun v => match v with | .inr (.inr (some k)) => decide (k < n) | _ => true)
  | .inr _ => true
def hwf (n : Nat) (h : mH) : Bool := h.all (cref n)
def vwf (n : Nat) (st : List mV) : Bool := st.all (fun v => match v with | .inr (.inr (some k)) => decide (k < n) | _ => true)
def adp (ad : Nat → Nat) (n q : Nat) : Nat → Nat := fun j => if j = n then q else ad j
theorem cV_cg {ad ad' : Nat → Nat} {n : Nat} (e : ∀ j, j < n → ad' j = ad j) : ∀ {st : List mV}, vwf n st = true → st.map (cV ad') = st.map (cV ad)
  | [], _ => rfl
  | v :: st, h => by
    simp only [vwf, List.all_cons, Bool.and_eq_true] at h
    rw [List.map_cons, List.map_cons, cV_cg e (st := st) h.2]
    congr 1
    match v, h.1 with
    | .inl _, _ => rfl
    | .inr (.inl _), _ => rfl
    | .inr (.inr none), _ => rfl
    | .inr (.inr (some k)), hk => show Value.ref (ad' k) = Value.ref (ad k); rw [e k (of_decide_eq_true hk)]
theorem cC_cg {ad ad' : Nat → Nat} {n : Nat} {cI cZ : ClassId} (e : ∀ j, j < n → ad' j = ad j) {c : mC} (h : cref n c = true) : cC ad' cI cZ c = cC ad cI cZ c := by
  match c, h with
  | .inl (ci, fs), h => show (Sum.inr (ci, fs.map (cV ad')) : va_E) = Sum.inr (ci, fs.map (cV ad)); rw [cV_cg e (show vwf n fs = true from h)]
  | .inr _, _ => rfl
theorem cW_len {ad : Nat → Nat} {cI cZ : ClassId} {h : mH} : (cW ad cI cZ h).length = h.length := by unfold cW; exact List.length_mapIdx
theorem cW_at {ad : Nat → Nat} {cI cZ : ClassId} {h : mH} {k : Nat} : (cW ad cI cZ h)[k]? = (h[k]?).map (fun c => (ad k, cC ad cI cZ c)) := by unfold cW; exact List.getElem?_mapIdx
theorem hwf_at {n : Nat} {h : mH} (hw : hwf n h = true) {k : Nat} {c : mC} (e : h[k]? = some c) : cref n c = true := List.all_eq_true.mp hw c (List.mem_of_getElem? e)
theorem cW_cg {ad ad' : Nat → Nat} {cI cZ : ClassId} {h : mH} (e : ∀ j, j < h.length → ad' j = ad j) (hw : hwf h.length h = true) : cW ad' cI cZ h = cW ad cI cZ h := by
  apply List.ext_getElem?
  intro k
  rw [cW_at, cW_at]
  cases q : h[k]? with
  | none => rfl
  | some c =>
    have hk := (List.getElem?_eq_some_iff.mp q).1
    show some (ad' k, cC ad' cI cZ c) = some (ad k, cC ad cI cZ c)
    rw [e k hk, cC_cg e (hwf_at hw q)]
theorem cW_app {ad : Nat → Nat} {cI cZ : ClassId} {h : mH} {c : mC} : cW ad cI cZ (h ++ [c]) = cW ad cI cZ h ++ [(ad h.length, cC ad cI cZ c)] := by
  unfold cW
  rw [List.mapIdx_append]
  simp
theorem adp_lt {ad : Nat → Nat} {n q j : Nat} (h : j < n) : adp ad n q j = ad j := if_neg (by omega)
theorem adp_n {ad : Nat → Nat} {n q : Nat} : adp ad n q n = q := if_pos rfl
theorem cW_push {ad : Nat → Nat} {cI cZ : ClassId} {h : mH} {c : mC} {q : Nat} (hw : hwf h.length h = true) (hc : cref h.length c = true) : cW (adp ad h.length q) cI cZ (h ++ [c]) = cW ad cI cZ h ++ [(q, cC ad cI cZ c)] := by
  rw [cW_app, cW_cg (fun j hj => adp_lt hj) hw, adp_n, cC_cg (fun j hj => adp_lt hj) hc]
section KG
def kG (p : Program) (l : Launch) (e : Env) (R : Room) (s : State) (m : MethodId) (args : Array Value) (below : List Frame) (meth : Method) (c : Code) (Q : State → Prop) (dC : Nat → ClassId) (dI : Nat → Nat → Nat) (cI cZ : ClassId) (A : Nat → Prop) (H0 : Heap) (a0 k n pc : Nat) (st : List mV) (ad : Nat → Nat) (h : mH) : Prop :=
  ad 0 = a0 → ∀ (H : Heap) (locs : List Loc) (ls : Array Slot), va_P (dC, dI) mcl (cW ad cI cZ h) H → va_D A (cW ad cI cZ h) → va_S A H0 H locs → lv_has ls 1 [(0, .ref a0)] → W p l e R s m args below meth c H locs k n Q (F0 m pc ls (st.map (cV ad)))
variable {p : Program} {l : Launch} {e : Env} {R : Room} {s : State} {m : MethodId} {args : Array Value} {below : List Frame} {meth : Method} {c : Code} {Q : State → Prop}
variable {dC : Nat → ClassId} {dI : Nat → Nat → Nat} {cI cZ : ClassId} {A : Nat → Prop} {H0 : Heap} {cc : ByteArray} {own : String} {a0 k n pc : Nat} {st : List mV} {ad : Nat → Nat} {h : mH}
theorem kAload (C : mCtx p s m args c dC dI cI cZ cc own 1) (hdg : decode cc pc = .ok (.aload_n 0, 1)) (kk : kG p l e R s m args below meth c Q dC dI cI cZ A H0 a0 k n (pc + 1) (mr 0 :: st) ad h) : kG p l e R s m args below meth c Q dC dI cI cZ A H0 a0 k n pc st ad h := by
  obtain ⟨hx, hb, hown, hts, hw, hml, hnst⟩ := C
  intro h0 H locs ls hP hD hS hl
  have q := kk h0 H locs ls hP hD hS hl
  rw [show ((mr 0 :: st).map (cV ad)) = Value.ref (ad 0) :: st.map (cV ad) from rfl, h0] at q
  exact lv_aload_n hx hb hdg rfl (lv_at hl 0 rfl) q
theorem kIc (C : mCtx p s m args c dC dI cI cZ cc own 1) {z : Int} (hdg : decode cc pc = .ok (.iconst z, 1)) (kk : kG p l e R s m args below meth c Q dC dI cI cZ A H0 a0 k n (pc + 1) (mi z :: st) ad h) : kG p l e R s m args below meth c Q dC dI cI cZ A H0 a0 k n pc st ad h := by
  obtain ⟨hx, hb, hown, hts, hw, hml, hnst⟩ := C
  intro h0 H locs ls hP hD hS hl
  exact lv_iconst (v := iN z) hx hb hdg rfl (kk h0 H locs ls hP hD hS hl)
theorem kBi (C : mCtx p s m args c dC dI cI cZ cc own 1) {z : Int} (hdg : decode cc pc = .ok (.bipush z, 2)) (hv : (Int8.ofInt z).toInt32 = iN z) (kk : kG p l e R s m args below meth c Q dC dI cI cZ A H0 a0 k n (pc + 2) (mi z :: st) ad h) : kG p l e R s m args below meth c Q dC dI cI cZ A H0 a0 k n pc st ad h := by
  obtain ⟨hx, hb, hown, hts, hw, hml, hnst⟩ := C
  intro h0 H locs ls hP hD hS hl
  exact lv_bipush (v := iN z) hx hb hdg hv (kk h0 H locs ls hP hD hS hl)
theorem kSi (C : mCtx p s m args c dC dI cI cZ cc own 1) {z : Int} (hdg : decode cc pc = .ok (.sipush z, 3)) (hv : (Int16.ofInt z).toInt32 = iN z) (kk : kG p l e R s m args below meth c Q dC dI cI cZ A H0 a0 k n (pc + 3) (mi z :: st) ad h) : kG p l e R s m args below meth c Q dC dI cI cZ A H0 a0 k n pc st ad h := by
  obtain ⟨hx, hb, hown, hts, hw, hml, hnst⟩ := C
  intro h0 H locs ls hP hD hS hl
  exact lv_sipush (v := iN z) hx hb hdg hv (kk h0 H locs ls hP hD hS hl)
theorem kLc (C : mCtx p s m args c dC dI cI cZ cc own 1) (hdg : decode cc pc = .ok (.lconst 0, 1)) (kk : kG p l e R s m args below meth c Q dC dI cI cZ A H0 a0 k n (pc + 1) (ml 0 :: st) ad h) : kG p l e R s m args below meth c Q dC dI cI cZ A H0 a0 k n pc st ad h := by
  obtain ⟨hx, hb, hown, hts, hw, hml, hnst⟩ := C
  intro h0 H locs ls hP hD hS hl
  exact lv_lconst (v := jN 0) hx hb hdg rfl (kk h0 H locs ls hP hD hS hl)
theorem kDup (C : mCtx p s m args c dC dI cI cZ cc own 1) {j : Nat} (hdg : decode cc pc = .ok (.dup, 1)) (kk : kG p l e R s m args below meth c Q dC dI cI cZ A H0 a0 k n (pc + 1) (mr j :: mr j :: st) ad h) : kG p l e R s m args below meth c Q dC dI cI cZ A H0 a0 k n pc (mr j :: st) ad h := by
  obtain ⟨hx, hb, hown, hts, hw, hml, hnst⟩ := C
  intro h0 H locs ls hP hD hS hl
  exact lv_dup hx hb hdg rfl (kk h0 H locs ls hP hD hS hl)
theorem kObj (C : mCtx p s m args c dC dI cI cZ cc own 1) {a idx : Nat} (hlink : Cond.methodLink own idx Lib.objectInit ∈ mtb) (hi : Cond.instanceMethod Lib.objectInit ∈ mtb) (hc : Cond.code Lib.objectInit ⟨#[0xb1]⟩ 1 none ∈ mtb) (hR : 1 ≤ R.frames ∧ 32 ≤ R.locals) (hdg : decode cc pc = .ok (.invokespecial idx, 3)) (hst : mcat st ≤ 8) (kk : kG p l e R s m args below meth c Q dC dI cI cZ A H0 a0 k n (pc + 3) st ad h) : kG p l e R s m args below meth c Q dC dI cI cZ A H0 a0 k n pc (mr a :: st) ad h := by
  obtain ⟨hx, hb, hown, hts, hw, hml, hnst⟩ := C
  intro h0 H locs ls hP hD hS hl
  have hr := lv_room (m := m) (pc := pc) (ls := ls) (rest := (mr a :: st).map (cV ad)) (st := st.map (cV ad)) (by rw [cVlen]; exact hst)
  refine W.objInit hx hb hown (hts _ hlink) (hts _ hi) (hts _ hc) rfl (by rw [hml]; exact hl.1) (rest := st.map (cV ad)) rfl hdg hR.1 (by omega) ?_
  exact W.eq (g2 := F0 m (pc + 3) ls (st.map (cV ad))) rfl (kk h0 H locs ls hP hD hS hl)
theorem kArr (C : mCtx p s m args c dC dI cI cZ cc own 1) (hA : ∀ q, H0.size ≤ q → A q) {N : Nat} (hw : hwf h.length h = true) (hs : vwf h.length st = true) (hlen : 0 < h.length) (harr : Cond.arrayClass .int ∈ mtb) (hN : N ≤ 2000) (hR : k + 1 ≤ R.cells ∧ n + N ≤ R.slots) (hdg : decode cc pc = .ok (.newarray .int, 2)) (kk : ∀ q, kG p l e R s m args below meth c Q dC dI cI cZ A H0 a0 (k + 1) (n + N) (pc + 2) (mr h.length :: st) (adp ad h.length q) (h ++ [.inr (false, N, fun _ => 0)])) : kG p l e R s m args below meth c Q dC dI cI cZ A H0 a0 k n pc (mi (N : Int) :: st) ad h := by
  obtain ⟨hx, hb, hown, hts, hK, hml, hnst⟩ := C
  intro h0 H locs ls hP hD hS hl
  refine va_newa (atype := .int) (ty := .int) (n := iN (N : Int)) (N' := N) (a0 := (N, .inl (fun _ => iN 0))) hx hb (hts _ harr) rfl hK hP hD hS hA (fun cA => rfl) (by rw [iN_n]; exact fun w => absurd (nI_pos' (show N < 2 ^ 31 by omega)) (by rw [Int32.not_le]; exact w)) (by rw [iN_n]; exact nI_clamp (by omega)) (show N * 4 ≤ 536870912 by omega) hR.1 hR.2 hdg (fun q cA H1 hK1 hP1 hD1 hS1 => ?_)
  have e1 := (hK1.2 2 (cA, .int) rfl).2
  have e2 := (hK.2 0 (cI, .int) rfl).2
  obtain rfl : cA = cI := Option.some.inj ((show s.vm.findClass ("[" ++ FieldType.int.toString) = some cA from e1).symm.trans e2)
  have ew : cW ad cA cZ h ++ [(q, .inl (cA, N, .inl (fun _ => iN 0)))] = cW (adp ad h.length q) cA cZ (h ++ [.inr (false, N, fun _ => 0)]) := (cW_push (c := .inr (false, N, fun _ => 0)) hw rfl).symm
  rw [ew] at hP1 hD1
  have g := kk q (by rw [adp_lt hlen]; exact h0) H1 locs ls hP1 hD1 hS1 hl
  rw [show ((mr h.length :: st).map (cV (adp ad h.length q))) = Value.ref (adp ad h.length q h.length) :: st.map (cV (adp ad h.length q)) from rfl, adp_n, cV_cg (fun j hj => adp_lt hj) hs] at g
  exact g
theorem kBoo (C : mCtx p s m args c dC dI cI cZ cc own 1) (hA : ∀ q, H0.size ≤ q → A q) {N : Nat} (hw : hwf h.length h = true) (hs : vwf h.length st = true) (hlen : 0 < h.length) (harr : Cond.arrayClass .boolean ∈ mtb) (hN : N ≤ 2000) (hR : k + 1 ≤ R.cells ∧ n + N ≤ R.slots) (hdg : decode cc pc = .ok (.newarray .boolean, 2)) (kk : ∀ q, kG p l e R s m args below meth c Q dC dI cI cZ A H0 a0 (k + 1) (n + N) (pc + 2) (mr h.length :: st) (adp ad h.length q) (h ++ [.inr (true, N, fun _ => 0)])) : kG p l e R s m args below meth c Q dC dI cI cZ A H0 a0 k n pc (mi (N : Int) :: st) ad h := by
  obtain ⟨hx, hb, hown, hts, hK, hml, hnst⟩ := C
  intro h0 H locs ls hP hD hS hl
  refine va_newa (atype := .boolean) (ty := .boolean) (n := iN (N : Int)) (N' := N) (a0 := (N, .inl (fun _ => iN 0))) hx hb (hts _ harr) rfl hK hP hD hS hA (fun cA => rfl) (by rw [iN_n]; exact fun w => absurd (nI_pos' (show N < 2 ^ 31 by omega)) (by rw [Int32.not_le]; exact w)) (by rw [iN_n]; exact nI_clamp (by omega)) (show N * 1 ≤ 536870912 by omega) hR.1 hR.2 hdg (fun q cA H1 hK1 hP1 hD1 hS1 => ?_)
  have e1 := (hK1.2 2 (cA, .boolean) rfl).2
  have e2 := (hK.2 1 (cZ, .boolean) rfl).2
  obtain rfl : cA = cZ := Option.some.inj ((show s.vm.findClass ("[" ++ FieldType.boolean.toString) = some cA from e1).symm.trans e2)
  have ew : cW ad cI cA h ++ [(q, .inl (cA, N, .inl (fun _ => iN 0)))] = cW (adp ad h.length q) cI cA (h ++ [.inr (true, N, fun _ => 0)]) := (cW_push (c := .inr (true, N, fun _ => 0)) hw rfl).symm
  rw [ew] at hP1 hD1
  have g := kk q (by rw [adp_lt hlen]; exact h0) H1 locs ls hP1 hD1 hS1 hl
  rw [show ((mr h.length :: st).map (cV (adp ad h.length q))) = Value.ref (adp ad h.length q h.length) :: st.map (cV (adp ad h.length q)) from rfl, adp_n, cV_cg (fun j hj => adp_lt hj) hs] at g
  exact g
theorem kNew (C : mCtx p s m args c dC dI cI cZ cc own 1) (hA : ∀ q, H0.size ≤ q → A q) {Cn : String} {T : u_T} {N ci idx : Nat} {fs : List mV} (hcl : mcl[ci]? = some (Cn, T, N)) (hin : ∀ w ∈ u_ws Cn T N, w ∈ mtb) (ty : Nat → FieldType) (hty : ∀ k, k < N → parseFieldDescriptor (T k).2.2.1 = some (ty k)) (hclk : Cond.classLink own idx Cn ∈ mtb) (hinst : Cond.instantiable Cn N ∈ mtb) (hini : Cond.initialized Cn ∈ mtb) (hfs : ∀ ad : Nat → Nat, ∀ j, j < N → defaultValue (ty j) = vp_V (fs.map (cV ad)) j) (hw : hwf h.length h = true) (hs : vwf h.length st = true) (hc : cref h.length (.inl (ci, fs)) = true) (hlen : 0 < h.length) (hR : k + 1 ≤ R.cells ∧ n + N ≤ R.slots) (hdg : decode cc pc = .ok (.new idx, 3)) (kk : ∀ q, kG p l e R s m args below meth c Q dC dI cI cZ A H0 a0 (k + 1) (n + N) (pc + 3) (mr h.length :: st) (adp ad h.length q) (h ++ [.inl (ci, fs)])) : kG p l e R s m args below meth c Q dC dI cI cZ A H0 a0 k n pc st ad h := by
  obtain ⟨hx, hb, hown, hts, hK, hml, hnst⟩ := C
  intro h0 H locs ls hP hD hS hl
  refine va_new (ci := ci) (fs := fs.map (cV ad)) (C := Cn) (T := T) (N := N) hx hb hts hin ty hty hown (hts _ hclk) (hts _ hinst) (hts _ hini) hK hP hD hS hA hcl (hfs ad) hR.1 hR.2 hdg (fun q H1 hP1 hD1 hS1 => ?_)
  have ew : cW ad cI cZ h ++ [(q, .inr (ci, fs.map (cV ad)))] = cW (adp ad h.length q) cI cZ (h ++ [.inl (ci, fs)]) := (cW_push (c := .inl (ci, fs)) hw hc).symm
  rw [ew] at hP1 hD1
  have g := kk q (by rw [adp_lt hlen]; exact h0) H1 locs ls hP1 hD1 hS1 hl
  rw [show ((mr h.length :: st).map (cV (adp ad h.length q))) = Value.ref (adp ad h.length q h.length) :: st.map (cV (adp ad h.length q)) from rfl, adp_n, cV_cg (fun j hj => adp_lt hj) hs] at g
  exact g
theorem cW_put {fs : List mV} {ci a j : Nat} {v : mV} : cW ad cI cZ (h.set a (.inl (ci, fs.set j v))) = (cW ad cI cZ h).set a (ad a, .inr (ci, (fs.map (cV ad)).set j (cV ad v))) := by
  rw [cW_set]
  show _ = (cW ad cI cZ h).set a (ad a, .inr (ci, (fs.map (cV ad)).set j (cV ad v)))
  rw [← List.map_set]; rfl
theorem kPutF (C : mCtx p s m args c dC dI cI cZ cc own 1) {Cn : String} {T : u_T} {N ci idx a j : Nat} {fs : List mV} {v : mV} {ty : FieldType} (hcl : mcl[ci]? = some (Cn, T, N)) (hin : ∀ w ∈ u_ws Cn T N, w ∈ mtb) (ty0 : Nat → FieldType) (hty : ∀ k, k < N → parseFieldDescriptor (T k).2.2.1 = some (ty0 k)) (hnm : ∀ a, a < N → ∀ b, b < N → a ≠ b → (T a).2.1 ≠ (T b).2.1) (he : h[a]? = some (.inl (ci, fs))) (hj : j < N) (hlink : Cond.fieldLink own idx (T j).1 (T j).2.1 (T j).2.2.1 ∈ mtb) (hfin : (T j).2.2.2 = true) (hinit : meth.name = "<init>") (hdecl : (T j).1 = own) (hd : parseFieldDescriptor (T j).2.2.1 = some ty) (hn : ∀ ad, narrow ty (cV ad v) = cV ad v) (hfit : ∀ ad, fits ty (cV ad v) = true) (hl : j < fs.length) (hdg : decode cc pc = .ok (.putfield idx, 3)) (kk : kG p l e R s m args below meth c Q dC dI cI cZ A H0 a0 k n (pc + 3) st ad (h.set a (.inl (ci, fs.set j v)))) : kG p l e R s m args below meth c Q dC dI cI cZ A H0 a0 k n pc (v :: mr a :: st) ad h := by
  obtain ⟨hx, hb, hown, hts, hK, hml, hnst⟩ := C
  intro h0 H locs ls hP hD hS hls
  refine va_putF (Ts := mtb) (ref := (T j).1) (C := Cn) (T := T) (N := N) (ci := ci) (fs := fs.map (cV ad)) hx hb hts hin ty0 hty hnm hown hK hP hD hS a (cW_get he) hcl j hj (hts _ hlink) (fun _ z => z) hfin hinit hdecl hd (hn ad) (hfit ad) (by rw [List.length_map]; exact hl) hdg (fun H1 locs1 hP1 hD1 hS1 => ?_)
  rw [← cW_put] at hP1 hD1
  exact kk h0 H1 locs1 ls hP1 hD1 hS1 hls
theorem kPut (C : mCtx p s m args c dC dI cI cZ cc own 1) {Cn : String} {T : u_T} {N ci idx a j : Nat} {fs : List mV} {v : mV} {ty : FieldType} (hcl : mcl[ci]? = some (Cn, T, N)) (hin : ∀ w ∈ u_ws Cn T N, w ∈ mtb) (ty0 : Nat → FieldType) (hty : ∀ k, k < N → parseFieldDescriptor (T k).2.2.1 = some (ty0 k)) (hnm : ∀ a, a < N → ∀ b, b < N → a ≠ b → (T a).2.1 ≠ (T b).2.1) (he : h[a]? = some (.inl (ci, fs))) (hj : j < N) (hlink : Cond.fieldLink own idx (T j).1 (T j).2.1 (T j).2.2.1 ∈ mtb) (hfin : (T j).2.2.2 = false) (hd : parseFieldDescriptor (T j).2.2.1 = some ty) (hn : ∀ ad, narrow ty (cV ad v) = cV ad v) (hfit : ∀ ad, fits ty (cV ad v) = true) (hl : j < fs.length) (hdg : decode cc pc = .ok (.putfield idx, 3)) (kk : kG p l e R s m args below meth c Q dC dI cI cZ A H0 a0 k n (pc + 3) st ad (h.set a (.inl (ci, fs.set j v)))) : kG p l e R s m args below meth c Q dC dI cI cZ A H0 a0 k n pc (v :: mr a :: st) ad h := by
  obtain ⟨hx, hb, hown, hts, hK, hml, hnst⟩ := C
  intro h0 H locs ls hP hD hS hls
  refine va_put (Ts := mtb) (ref := (T j).1) (C := Cn) (T := T) (N := N) (ci := ci) (fs := fs.map (cV ad)) hx hb hts hin ty0 hty hnm hown hK hP hD hS a (cW_get he) hcl j hj (hts _ hlink) (fun _ z => z) hfin hd (hn ad) (hfit ad) (by rw [List.length_map]; exact hl) hdg (fun H1 locs1 hP1 hD1 hS1 => ?_)
  rw [← cW_put] at hP1 hD1
  exact kk h0 H1 locs1 ls hP1 hD1 hS1 hls
theorem kGet (C : mCtx p s m args c dC dI cI cZ cc own 1) {Cn : String} {T : u_T} {N ci idx a j : Nat} {fs : List mV} {v : mV} (hcl : mcl[ci]? = some (Cn, T, N)) (hin : ∀ w ∈ u_ws Cn T N, w ∈ mtb) (he : h[a]? = some (.inl (ci, fs))) (hj : j < N) (hlink : Cond.fieldLink own idx (T j).1 (T j).2.1 (T j).2.2.1 ∈ mtb) (hv : fs[j]? = some v) (hdg : decode cc pc = .ok (.getfield idx, 3)) (kk : kG p l e R s m args below meth c Q dC dI cI cZ A H0 a0 k n (pc + 3) (v :: st) ad h) : kG p l e R s m args below meth c Q dC dI cI cZ A H0 a0 k n pc (mr a :: st) ad h := by
  obtain ⟨hx, hb, hown, hts, hK, hml, hnst⟩ := C
  intro h0 H locs ls hP hD hS hls
  exact va_get (Ts := mtb) (ref := (T j).1) (C := Cn) (T := T) (N := N) (ci := ci) (fs := fs.map (cV ad)) (v := cV ad v) hx hb hts hin hown hK hP a (cW_get he) hcl j hj (hts _ hlink) (fun _ z => z) (by rw [List.getElem?_map, hv]; rfl) hdg (kk h0 H locs ls hP hD hS hls)
theorem kIas (C : mCtx p s m args c dC dI cI cZ cc own 1) {a N : Nat} {f : Nat → Int} {i v : Int} (he : h[a]? = some (.inr (false, N, f))) (hi : 0 ≤ i ∧ i < N) (hN : N < 65536) (hdg : decode cc pc = .ok (.iastore, 1)) (kk : kG p l e R s m args below meth c Q dC dI cI cZ A H0 a0 k n (pc + 1) st ad (h.set a (.inr (false, N, mup f i.toNat v)))) : kG p l e R s m args below meth c Q dC dI cI cZ A H0 a0 k n pc (mi v :: mi i :: mr a :: st) ad h := by
  obtain ⟨hx, hb, hown, hts, hK, hml, hnst⟩ := C
  intro h0 H locs ls hP hD hS hls
  have q := iN_in hi.1 hi.2 hN
  refine va_iast hx hb hK hP hD hS a 0 (cW_get he) rfl q.1 hdg (fun H1 locs1 hP1 hD1 hS1 => ?_)
  rw [q.2] at hP1 hD1
  have ew : (cW ad cI cZ h).set a (ad a, .inl (cI, N, .inl (upd (fun j => iN (f j)) i.toNat (iN v)))) = cW ad cI cZ (h.set a (.inr (false, N, mup f i.toNat v))) := by rw [cW_set, cC_arr]; rfl
  rw [show cond false cZ cI = cI from rfl, ew] at hP1 hD1
  exact kk h0 H1 locs1 ls hP1 hD1 hS1 hls
theorem kVV (C : mCtx p s m args c dC dI cI cZ cc own 1) (hA : ∀ q, H0.size ≤ q → A q) {a idx nL' d' : Nat} {y : MethodName} {b : ByteArray} {ret : Option FieldType} {As rest : List mV} (hdg : decode cc pc = .ok (.invokevirtual idx, 3)) (hf : mfV y b nL' ret As.length) (hl : mlk own idx y) (hR : d' + 1 ≤ R.frames ∧ 32 * d' + 32 ≤ R.locals) (hC : k ≤ R.cells ∧ n ≤ R.slots) (hr : mcat rest ≤ 8) (hv : mrv h a y.cls) {post : mH → Prop} (hsp : SpV l d' y b nL' ret (mr a :: As) h post) (hst : st = As.reverse ++ mr a :: rest)
    (kk : ∀ h', post h' → kG p l e R s m args below meth c Q dC dI cI cZ A H0 a0 k n (pc + 3) rest ad h') : kG p l e R s m args below meth c Q dC dI cI cZ A H0 a0 k n pc st ad h := by
  subst hst
  obtain ⟨hx, hb, hown, hts, hw, hml, hnst⟩ := C
  intro h0 H locs ls hP hD hS hL
  have hFc := cw_free hD hS hA
  obtain ⟨ci, fs, q, v1, v2, v3⟩ := hv
  obtain ⟨⟨f1, f2, f3, f4, -⟩, f5, f6⟩ := hf
  have hcb : CallB R s args own idx y b nL' ret (mws y b nL' ret) (rmD d') 0 0 As.length := callB_of _ hts (tbl_in (fun w hw => by
      rcases List.mem_cons.mp hw with rfl | hw
      · exact f2
      · exact hw)) rfl rfl rfl (hts _ f1) (hts _ hl) f3 (by show d' + 1 ≤ R.frames ∧ 8 + (nL' + 11) + 32 * d' ≤ R.locals; omega)
  have hcw : CallW R s args own y.cls idx y b nL' ret (mws y b nL' ret) (rmD d') 0 0 As.length := ⟨hcb, hts _ f5, hts _ f6⟩
  have hrc := va_recv hw hP v2 (cW_get v1)
  rw [v3] at hrc
  have hrun := va_runV (As := As.map (cV ad)) (rest := rest.map (cV ad)) (b := ad a) (g := F0 m pc ls ((As.reverse ++ mr a :: rest).map (cV ad))) (R := R) (locs := locs) (cells := k) (slots := n) (meth := meth) (below := below) (e := e) ⟨hx, hb, hml, hown, hts⟩ (hsp dC dI cI cZ ad H.size) hcw ⟨mFB, hrc, mpre_of hnst hw hP hD rfl⟩ rfl (List.length_map _) hL.1 map_rev (lv_room (by rw [cVlen]; exact hr)) hdg hC
  refine va_callv hrun hS (fun q _ h => hFc q h) hFc (fun u t H1 locs1 ht hvm hpost hB hz1 hk1 hS1 => ?_)
  obtain ⟨hP1, hK1, hD1⟩ := hB
  rw [ht] at hP1
  exact kk u hpost h0 H1 locs1 ls hP1 (hD1.weaken (fun k q _ h => hFc q.1 h)) hS1 hL
end KG
