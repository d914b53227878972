/-! THE CLAIM OUT OF ONE WALK OF THE LAW'S BODY. Your part is whole_start (and what it stands on); all else here is the same for every law, but numbers. -/
def R_law : String := "TowerPrisonerLaw"
def lw_P (b : Addr) (xs : List Int32) (args : Array Value) (s : State) : Prop := args = #[.ref b] ∧ s.IntsAt b xs ∧ xs.length ≤ 256 ∧ (Jvm.Cond.and given_1 narrow_1).before args s = true
def lw_Q (_ : Array Value) (s : State) (o : Outcome) (t : State) : Prop := o = .returned (some (.int 1)) ∧ Framed s o t [] 43 7519
def lw_Z (below : List Frame) (a : Array Value) (s : State) : State → Prop := fun t => ∃ o, t.status = .running ∧ Ended t below o ∧ lw_Q a s o t
/-- the law's own end, with 1 on the stack, nothing written that was there before, its room as the claim has it -/
theorem lw_ret {p : Program} {l : Launch} {e : Env} {s : State} {m : MethodId} {below : List Frame} {meth : Method} {c : Code} {b : Nat} (hx : p.tables.exec = Jvm.exec) (hb : c.code = code) (hr : meth.sig.returnType = ret) (hlocks : meth.locks = false) {pc : Nat} {H : Heap} {ls : Array Slot} (hdg : decode code pc = .ok (.ireturn, 1)) : W p l e room_1 s m #[Value.ref b] below meth c H [] 43 7519 (lw_Z below #[Value.ref b] s) (F0 m pc ls [.int 1]) := by
  intro T hT X
  obtain ⟨fs, hret, hrun, hended, hW, hframe⟩ := X.leave (v := some (.int 1)) (hlocks := hlocks) (fun h => by rw [hr] at h; cases h)
  have hmeth' : T.vm.method? m = some meth := X.method'
  refine ⟨T.setFrames fs, ?_, .returned (some (.int 1)), hrun, hended, rfl, ⟨_, rfl⟩, hW, hframe⟩
  jvm_step X.here [X.here.top, hx, hb, hdg, hmeth', hr, ret, narrow_b1]
  (try refine ⟨rfl, ?_⟩); (try refine ⟨rfl, ?_⟩)
  first | (intro acts; rw [hret _ acts rfl rfl rfl]) | rw [hret _ _ rfl rfl rfl]
  exact Steps.refl _
/-- what holds at the law's entry: the machine, the code, the tables' words (any of lw_tbl by 'hts w (by decide +kernel)'), the script of L ints xs at the cell b, what the Statement gives of the start (any of its parts by flat_of_before) -/
def lw_At (p : Program) (s : State) (m : MethodId) (meth : Method) (c : Code) (b L : Nat) (xs : Nat → Int32) : Prop :=
  p.tables.exec = Jvm.exec ∧ c.code = code ∧ meth.sig.returnType = ret ∧ c.maxLocals = 4 ∧ s.vm.findClass R_law = some m.cls ∧ (∀ w ∈ lw_tbl, w.before #[Value.ref b] s = true) ∧ va_X b L xs s s.heap ∧ b < s.heap.size ∧ meth.locks = false ∧ (Jvm.Cond.and given_1 narrow_1).before #[Value.ref b] s = true

/-! worlds side by side -/
theorem va_P.comm {D : va_G} {cl : List vw_C} {w1 w2 : va_W} {H : Heap} (h : va_P D cl (w1 ++ w2) H) : va_P D cl (w2 ++ w1) H := by
  refine va_P.app (fun k q hk => h (w1.length + k) q ?_) (fun k q hk => h k q ?_)
  · rw [List.getElem?_append_right (by omega), show w1.length + k - w1.length = k by omega]; exact hk
  · rw [List.getElem?_append_left (List.getElem?_eq_some_iff.mp hk).1]; exact hk
theorem va_D.left {A : Nat → Prop} {w1 w2 : va_W} (h : va_D A (w1 ++ w2)) : va_D A w1 := by
  have e : ∀ (k : Nat) (q : Nat × va_E), w1[k]? = some q → (w1 ++ w2)[k]? = some q := fun k q hk => by
    rw [List.getElem?_append_left (List.getElem?_eq_some_iff.mp hk).1]; exact hk
  exact ⟨fun i j p q hp hq => h.1 i j p q (e i p hp) (e j q hq), fun k q hk => h.2 k q (e k q hk)⟩
theorem va_D.right {A : Nat → Prop} {w1 w2 : va_W} (h : va_D A (w1 ++ w2)) : va_D A w2 := by
  have e : ∀ (k : Nat) (q : Nat × va_E), w2[k]? = some q → (w1 ++ w2)[w1.length + k]? = some q := fun k q hk => by
    rw [List.getElem?_append_right (by omega), show w1.length + k - w1.length = k by omega]; exact hk
  exact ⟨fun i j p q hp hq z => by have := h.1 _ _ p q (e i p hp) (e j q hq) z; omega, fun k q hk => h.2 _ q (e k q hk)⟩
theorem va_D.apart {A : Nat → Prop} {w1 w2 : va_W} (h : va_D A (w1 ++ w2)) (i j : Nat) (p q : Nat × va_E) (hp : w1[i]? = some p) (hq : w2[j]? = some q) : p.1 ≠ q.1 := fun z => by
  have hl := (List.getElem?_eq_some_iff.mp hp).1
  have e1 : (w1 ++ w2)[i]? = some p := by rw [List.getElem?_append_left hl]; exact hp
  have e2 : (w1 ++ w2)[w1.length + j]? = some q := by
    rw [List.getElem?_append_right (by omega), show w1.length + j - w1.length = j by omega]; exact hq
  have := h.1 _ _ p q e1 e2 z
  omega
theorem va_D.comm {A : Nat → Prop} {w1 w2 : va_W} (h : va_D A (w1 ++ w2)) : va_D A (w2 ++ w1) := h.right.app h.left (fun i j p q hp hq z => h.apart j i q p hq hp z.symm)
theorem va_P.left {D : va_G} {cl : List vw_C} {w1 w2 : va_W} {H : Heap} (h : va_P D cl (w1 ++ w2) H) : va_P D cl w1 H := fun k q hk => h k q (by rw [List.getElem?_append_left (List.getElem?_eq_some_iff.mp hk).1]; exact hk)
theorem fr_left {A : Nat → Prop} {D : va_G} {cl : List vw_C} {w1 w2 w1' : va_W} {H H1 : Heap} (hP : va_P D cl (w1 ++ w2) H) (hD : va_D A (w1 ++ w2)) (hk : ∀ q : Nat, q < H.size → ¬ va_A w1 H.size q → H1[q]? = H[q]?) (hF : ∀ q, va_A w1 H.size q → A q) (hP1 : va_P D cl w1' H1) (hD1 : va_D (va_A w1 H.size) w1') : va_P D cl (w1' ++ w2) H1 ∧ va_D A (w1' ++ w2) := by
  have hP2 := hP.comm.left
  have ap : ∀ (k : Nat) (q : Nat × va_E), w2[k]? = some q → q.1 < H.size ∧ ¬ va_A w1 H.size q.1 := by
    intro k q hq
    have hl := (hP2 k q hq).lt
    refine ⟨hl, fun h => ?_⟩
    rcases h with ⟨i, e, h⟩ | h
    · exact hD.apart i k (q.1, e) q h hq rfl
    · omega
  refine ⟨va_P.app hP1 (fun k q hq => (hP2 k q hq).kept (hk q.1 (ap k q hq).1 (ap k q hq).2)), va_D.app (hD1.weaken (fun k q _ h => hF q.1 h)) hD.right (fun i j p q hp hq z => ?_)⟩
  exact (ap j q hq).2 (by rw [← z]; exact hD1.2 i p hp)
theorem fr_right {A : Nat → Prop} {D : va_G} {cl : List vw_C} {w1 w2 w2' : va_W} {H H1 : Heap} (hP : va_P D cl (w1 ++ w2) H) (hD : va_D A (w1 ++ w2)) (hk : ∀ q : Nat, q < H.size → ¬ va_A w2 H.size q → H1[q]? = H[q]?) (hF : ∀ q, va_A w2 H.size q → A q) (hP1 : va_P D cl w2' H1) (hD1 : va_D (va_A w2 H.size) w2') : va_P D cl (w1 ++ w2') H1 ∧ va_D A (w1 ++ w2') := by
  have h := fr_left hP.comm hD.comm hk hF hP1 hD1
  exact ⟨h.1.comm, h.2.comm⟩
theorem fr_free {A : Nat → Prop} {w1 w2 : va_W} {H0 H : Heap} {locs : List Loc} (hD : va_D A (w1 ++ w2)) (hS : va_S A H0 H locs) (hA : ∀ q, H0.size ≤ q → A q) : ∀ q, va_A w1 H.size q → A q := by
  intro q hq
  rcases hq with ⟨k, e, he⟩ | hq
  · exact hD.left.2 k (q, e) he
  · exact hA q (Nat.le_trans hS.1 hq)
section LAW
variable {p : Program} {l : Launch} {e : Env} {s : State} {m : MethodId} {below : List Frame} {meth : Method} {c : Code} {b L : Nat} {xs : Nat → Int32}
variable {dC : Nat → ClassId} {dI : Nat → Nat → Nat} {cI cZ : ClassId} {ad1 ad2 : Nat → Nat} {h1 h2 : mH} {pc : Nat} {i : Int32} {st : List Value}
def lA (s : State) : Nat → Prop := fun q => s.heap.size ≤ q
def lG (p : Program) (l : Launch) (e : Env) (s : State) (m : MethodId) (below : List Frame) (meth : Method) (c : Code) (b : Nat) (dC : Nat → ClassId) (dI : Nat → Nat → Nat) (cI cZ : ClassId) (ad1 ad2 : Nat → Nat) (i : Int32) (pc : Nat) (st : List Value) (h1 h2 : mH) : Prop :=
  ∀ (H : Heap) (locs : List Loc) (ls : Array Slot), va_P (dC, dI) mcl (cW ad1 cI cZ h1 ++ cW ad2 cI cZ h2) H → va_D (lA s) (cW ad1 cI cZ h1 ++ cW ad2 cI cZ h2) → va_S (lA s) s.heap H locs → lv_has ls 4 [(3, .int i), (2, .ref (ad2 0)), (1, .ref (ad1 0)), (0, .ref b)] → W p l e room_1 s m #[Value.ref b] below meth c H locs 43 7519 (lw_Z below #[Value.ref b] s) (F0 m pc ls st)
def lCtx (p : Program) (s : State) (m : MethodId) (meth : Method) (c : Code) (b L : Nat) (xs : Nat → Int32) (dC : Nat → ClassId) (dI : Nat → Nat → Nat) (cI cZ : ClassId) : Prop := p.tables.exec = Jvm.exec ∧ c.code = code ∧ s.vm.findClass R_law = some m.cls ∧ (∀ w ∈ mtb, w.before #[Value.ref b] s = true) ∧ va_K (dC, dI) mcl (mtys cI cZ) s ∧ c.maxLocals = 4 ∧ mNst s ∧ va_X b L xs s s.heap ∧ b < s.heap.size
theorem lAx (C : lCtx p s m meth c b L xs dC dI cI cZ) (hdg : decode code pc = .ok (.aload_n 1, 1)) (kk : lG p l e s m below meth c b dC dI cI cZ ad1 ad2 i (pc + 1) (.ref (ad1 0) :: st) h1 h2) : lG p l e s m below meth c b dC dI cI cZ ad1 ad2 i pc st h1 h2 := by
  obtain ⟨hx, hb, hown, hts, hK, hml, hnst, hX, hbl⟩ := C
  intro H locs ls hP hD hS hl
  exact lv_aload_n hx hb hdg rfl (lv_at hl 2 rfl) (kk H locs ls hP hD hS hl)
theorem lAm (C : lCtx p s m meth c b L xs dC dI cI cZ) (hdg : decode code pc = .ok (.aload_n 2, 1)) (kk : lG p l e s m below meth c b dC dI cI cZ ad1 ad2 i (pc + 1) (.ref (ad2 0) :: st) h1 h2) : lG p l e s m below meth c b dC dI cI cZ ad1 ad2 i pc st h1 h2 := by
  obtain ⟨hx, hb, hown, hts, hK, hml, hnst, hX, hbl⟩ := C
  intro H locs ls hP hD hS hl
  exact lv_aload_n hx hb hdg rfl (lv_at hl 1 rfl) (kk H locs ls hP hD hS hl)
theorem lArg (C : lCtx p s m meth c b L xs dC dI cI cZ) {n k : Nat} (hk : n + k < L) (hL : L ≤ 256) (d0 : decode code pc = .ok (.aload_n 0, 1)) (d1 : decode code (pc + 1) = .ok (.iload_n 3, 1)) (d2 : decode code (pc + 1 + 1) = .ok (.iconst (k : Int), 1)) (d3 : decode code (pc + 1 + 1 + 1) = .ok (.iadd, 1)) (d4 : decode code (pc + 1 + 1 + 1 + 1) = .ok (.iaload, 1)) (kk : lG p l e s m below meth c b dC dI cI cZ ad1 ad2 (nI n) (pc + 5) (.int (xs (n + k)) :: st) h1 h2) : lG p l e s m below meth c b dC dI cI cZ ad1 ad2 (nI n) pc st h1 h2 := by
  obtain ⟨hx, hb, hown, hts, hK, hml, hnst, hX, hbl⟩ := C
  intro H locs ls hP hD hS hl
  refine lv_aload_n hx hb d0 rfl (lv_at hl 3 rfl) ?_
  refine lv_iload_n hx hb d1 rfl (lv_at hl 0 rfl) ?_
  refine lv_iconst (v := nI k) hx hb d2 (iN_n k) ?_
  refine lv_iadd hx hb d3 ?_
  rw [nI_add]
  refine va_sld hx hb hX hbl (show ¬ lA s b from Nat.not_le.mpr hbl) hS (vp_in_nI hk (by omega)) d4 ?_
  rw [nI_clamp (by omega)]
  exact kk H locs ls hP hD hS hl
theorem lC1 (C : lCtx p s m meth c b L xs dC dI cI cZ) {idx nL' d' : Nat} {y : MethodName} {b1 : ByteArray} {As : List mV} {Vs rest : List Value} {post : Int → mH → Prop} (hdg : decode code pc = .ok (.invokevirtual idx, 3)) (hf : mfV y b1 nL' (some .int) As.length) (hl : mlk R_law idx y) (hd : d' ≤ 8) (hv : mrv h1 0 y.cls) (hr : (rest.map fun v => v.category).sum ≤ 8) (hsp : SpI l d' y b1 nL' (some .int) (mr 0 :: As) h1 post) (hVs : As.map (cV ad1) = Vs) (hst : st = Vs.reverse ++ .ref (ad1 0) :: rest)
    (kk : ∀ z h', post z h' → lG p l e s m below meth c b dC dI cI cZ ad1 ad2 i (pc + 3) (.int (iN z) :: rest) h' h2) : lG p l e s m below meth c b dC dI cI cZ ad1 ad2 i pc st h1 h2 := by
  subst hst
  subst hVs
  obtain ⟨hx, hb, hown, hts, hK, hml, hnst, hX, hbl⟩ := C
  intro H locs ls hP hD hS hL
  have hFc := fr_free hD hS (fun q h => h)
  obtain ⟨ci, fs, q, v1, v2, v3⟩ := hv
  obtain ⟨⟨f1, f2, f3, f4, -⟩, f5, f6⟩ := hf
  have hcb : CallB room_1 s #[Value.ref b] R_law idx y b1 nL' (some .int) (mws y b1 nL' (some .int)) (rmD d') 0 0 As.length := callB_of _ hts (tbl_in (fun w hw => by
      rcases List.mem_cons.mp hw with rfl | hw
      · exact f2
      · exact hw)) rfl rfl rfl (hts _ f1) (hts _ hl) f3 (by show d' + 1 ≤ 10 ∧ 8 + (nL' + 11) + 32 * d' ≤ 386; omega)
  have hrc := va_recv hK hP.left v2 (cW_get v1)
  rw [v3] at hrc
  have hrun := va_runV (As := As.map (cV ad1)) (rest := rest) (b := ad1 0) (g := F0 m pc ls ((As.map (cV ad1)).reverse ++ Value.ref (ad1 0) :: rest)) (R := room_1) (locs := locs) (cells := 43) (slots := 7519) (meth := meth) (below := below) (e := e) (p := p) ⟨hx, hb, hml, hown, hts⟩ (hsp dC dI cI cZ ad1 H.size) ⟨hcb, hts _ f5, hts _ f6⟩ ⟨mFB, hrc, mpre_of hnst hK hP.left hD.left rfl⟩ rfl (List.length_map _) hL.1 rfl (lv_room hr) hdg ⟨Nat.le_of_ble_eq_true rfl, Nat.le_of_ble_eq_true rfl⟩
  refine va_calli hrun hS (fun q _ h => hFc q h) hFc (fun r u t H1 locs1 ht hvm hz hB hz1 hk1 hS1 => ?_)
  obtain ⟨z, rfl, hpost⟩ := hz
  obtain ⟨hP1, hK1, hD1⟩ := hB
  rw [ht] at hP1
  have hn := fr_left hP hD hk1 hFc hP1 hD1
  exact kk z u hpost H1 locs1 ls hn.1 hn.2 hS1 hL
theorem lC2 (C : lCtx p s m meth c b L xs dC dI cI cZ) {idx nL' d' : Nat} {y : MethodName} {b1 : ByteArray} {As : List mV} {Vs rest : List Value} {post : Int → mH → Prop} (hdg : decode code pc = .ok (.invokevirtual idx, 3)) (hf : mfV y b1 nL' (some .int) As.length) (hl : mlk R_law idx y) (hd : d' ≤ 8) (hv : mrv h2 0 y.cls) (hr : (rest.map fun v => v.category).sum ≤ 8) (hsp : SpI l d' y b1 nL' (some .int) (mr 0 :: As) h2 post) (hVs : As.map (cV ad2) = Vs) (hst : st = Vs.reverse ++ .ref (ad2 0) :: rest)
    (kk : ∀ z h', post z h' → lG p l e s m below meth c b dC dI cI cZ ad1 ad2 i (pc + 3) (.int (iN z) :: rest) h1 h') : lG p l e s m below meth c b dC dI cI cZ ad1 ad2 i pc st h1 h2 := by
  subst hst
  subst hVs
  obtain ⟨hx, hb, hown, hts, hK, hml, hnst, hX, hbl⟩ := C
  intro H locs ls hP hD hS hL
  have hFc := fr_free hD.comm hS (fun q h => h)
  obtain ⟨ci, fs, q, v1, v2, v3⟩ := hv
  obtain ⟨⟨f1, f2, f3, f4, -⟩, f5, f6⟩ := hf
  have hcb : CallB room_1 s #[Value.ref b] R_law idx y b1 nL' (some .int) (mws y b1 nL' (some .int)) (rmD d') 0 0 As.length := callB_of _ hts (tbl_in (fun w hw => by
      rcases List.mem_cons.mp hw with rfl | hw
      · exact f2
      · exact hw)) rfl rfl rfl (hts _ f1) (hts _ hl) f3 (by show d' + 1 ≤ 10 ∧ 8 + (nL' + 11) + 32 * d' ≤ 386; omega)
  have hrc := va_recv hK hP.comm.left v2 (cW_get v1)
  rw [v3] at hrc
  have hrun := va_runV (As := As.map (cV ad2)) (rest := rest) (b := ad2 0) (g := F0 m pc ls ((As.map (cV ad2)).reverse ++ Value.ref (ad2 0) :: rest)) (R := room_1) (locs := locs) (cells := 43) (slots := 7519) (meth := meth) (below := below) (e := e) (p := p) ⟨hx, hb, hml, hown, hts⟩ (hsp dC dI cI cZ ad2 H.size) ⟨hcb, hts _ f5, hts _ f6⟩ ⟨mFB, hrc, mpre_of hnst hK hP.comm.left hD.right rfl⟩ rfl (List.length_map _) hL.1 rfl (lv_room hr) hdg ⟨Nat.le_of_ble_eq_true rfl, Nat.le_of_ble_eq_true rfl⟩
  refine va_calli hrun hS (fun q _ h => hFc q h) hFc (fun r u t H1 locs1 ht hvm hz hB hz1 hk1 hS1 => ?_)
  obtain ⟨z, rfl, hpost⟩ := hz
  obtain ⟨hP1, hK1, hD1⟩ := hB
  rw [ht] at hP1
  have hn := fr_right hP hD hk1 hFc hP1 hD1
  exact kk z u hpost H1 locs1 ls hn.1 hn.2 hS1 hL
theorem lCJ1 (C : lCtx p s m meth c b L xs dC dI cI cZ) {idx nL' d' : Nat} {y : MethodName} {b1 : ByteArray} {rest : List Value} {post : Int → mH → Prop} (hdg : decode code pc = .ok (.invokevirtual idx, 3)) (hf : mfV y b1 nL' (some .long) 0) (hl : mlk R_law idx y) (hd : d' ≤ 8) (hv : mrv h1 0 y.cls) (hr : (rest.map fun v => v.category).sum ≤ 8) (hsp : SpJ l d' y b1 nL' (some .long) [mr 0] h1 post)
    (kk : ∀ z h', post z h' → lG p l e s m below meth c b dC dI cI cZ ad1 ad2 i (pc + 3) (.long (jN z) :: rest) h' h2) : lG p l e s m below meth c b dC dI cI cZ ad1 ad2 i pc (.ref (ad1 0) :: rest) h1 h2 := by
  obtain ⟨hx, hb, hown, hts, hK, hml, hnst, hX, hbl⟩ := C
  intro H locs ls hP hD hS hL
  have hFc := fr_free hD hS (fun q h => h)
  obtain ⟨ci, fs, q, v1, v2, v3⟩ := hv
  obtain ⟨⟨f1, f2, f3, f4, -⟩, f5, f6⟩ := hf
  have hcb : CallB room_1 s #[Value.ref b] R_law idx y b1 nL' (some .long) (mws y b1 nL' (some .long)) (rmD d') 0 0 0 := callB_of _ hts (tbl_in (fun w hw => by
      rcases List.mem_cons.mp hw with rfl | hw
      · exact f2
      · exact hw)) rfl rfl rfl (hts _ f1) (hts _ hl) f3 (by show d' + 1 ≤ 10 ∧ 8 + (nL' + 11) + 32 * d' ≤ 386; omega)
  have hrc := va_recv hK hP.left v2 (cW_get v1)
  rw [v3] at hrc
  have hrun := va_runV (As := []) (rest := rest) (b := ad1 0) (g := F0 m pc ls (Value.ref (ad1 0) :: rest)) (R := room_1) (locs := locs) (cells := 43) (slots := 7519) (meth := meth) (below := below) (e := e) (p := p) ⟨hx, hb, hml, hown, hts⟩ (hsp dC dI cI cZ ad1 H.size) ⟨hcb, hts _ f5, hts _ f6⟩ ⟨mFB, hrc, mpre_of hnst hK hP.left hD.left rfl⟩ rfl rfl hL.1 rfl (lv_room hr) hdg ⟨Nat.le_of_ble_eq_true rfl, Nat.le_of_ble_eq_true rfl⟩
  refine va_calll hrun hS (fun q _ h => hFc q h) hFc (fun r u t H1 locs1 ht hvm hz hB hz1 hk1 hS1 => ?_)
  obtain ⟨z, rfl, hpost⟩ := hz
  obtain ⟨hP1, hK1, hD1⟩ := hB
  rw [ht] at hP1
  have hn := fr_left hP hD hk1 hFc hP1 hD1
  exact kk z u hpost H1 locs1 ls hn.1 hn.2 hS1 hL
theorem lCJ2 (C : lCtx p s m meth c b L xs dC dI cI cZ) {idx nL' d' : Nat} {y : MethodName} {b1 : ByteArray} {rest : List Value} {post : Int → mH → Prop} (hdg : decode code pc = .ok (.invokevirtual idx, 3)) (hf : mfV y b1 nL' (some .long) 0) (hl : mlk R_law idx y) (hd : d' ≤ 8) (hv : mrv h2 0 y.cls) (hr : (rest.map fun v => v.category).sum ≤ 8) (hsp : SpJ l d' y b1 nL' (some .long) [mr 0] h2 post)
    (kk : ∀ z h', post z h' → lG p l e s m below meth c b dC dI cI cZ ad1 ad2 i (pc + 3) (.long (jN z) :: rest) h1 h') : lG p l e s m below meth c b dC dI cI cZ ad1 ad2 i pc (.ref (ad2 0) :: rest) h1 h2 := by
  obtain ⟨hx, hb, hown, hts, hK, hml, hnst, hX, hbl⟩ := C
  intro H locs ls hP hD hS hL
  have hFc := fr_free hD.comm hS (fun q h => h)
  obtain ⟨ci, fs, q, v1, v2, v3⟩ := hv
  obtain ⟨⟨f1, f2, f3, f4, -⟩, f5, f6⟩ := hf
  have hcb : CallB room_1 s #[Value.ref b] R_law idx y b1 nL' (some .long) (mws y b1 nL' (some .long)) (rmD d') 0 0 0 := callB_of _ hts (tbl_in (fun w hw => by
      rcases List.mem_cons.mp hw with rfl | hw
      · exact f2
      · exact hw)) rfl rfl rfl (hts _ f1) (hts _ hl) f3 (by show d' + 1 ≤ 10 ∧ 8 + (nL' + 11) + 32 * d' ≤ 386; omega)
  have hrc := va_recv hK hP.comm.left v2 (cW_get v1)
  rw [v3] at hrc
  have hrun := va_runV (As := []) (rest := rest) (b := ad2 0) (g := F0 m pc ls (Value.ref (ad2 0) :: rest)) (R := room_1) (locs := locs) (cells := 43) (slots := 7519) (meth := meth) (below := below) (e := e) (p := p) ⟨hx, hb, hml, hown, hts⟩ (hsp dC dI cI cZ ad2 H.size) ⟨hcb, hts _ f5, hts _ f6⟩ ⟨mFB, hrc, mpre_of hnst hK hP.comm.left hD.right rfl⟩ rfl rfl hL.1 rfl (lv_room hr) hdg ⟨Nat.le_of_ble_eq_true rfl, Nat.le_of_ble_eq_true rfl⟩
  refine va_calll hrun hS (fun q _ h => hFc q h) hFc (fun r u t H1 locs1 ht hvm hz hB hz1 hk1 hS1 => ?_)
  obtain ⟨z, rfl, hpost⟩ := hz
  obtain ⟨hP1, hK1, hD1⟩ := hB
  rw [ht] at hP1
  have hn := fr_right hP hD hk1 hFc hP1 hD1
  exact kk z u hpost H1 locs1 ls hn.1 hn.2 hS1 hL
theorem lEq (C : lCtx p s m meth c b L xs dC dI cI cZ) {z : Int32} {off : Int} (hdg : decode code pc = .ok (.if_icmp .eq off, 3)) (ht : (pc : Int) + off = ((778 : Nat) : Int)) (kk : lG p l e s m below meth c b dC dI cI cZ ad1 ad2 i 778 [] h1 h2) : lG p l e s m below meth c b dC dI cI cZ ad1 ad2 i pc [.int z, .int z] h1 h2 := by
  obtain ⟨hx, hb, hown, hts, hK, hml, hnst, hX, hbl⟩ := C
  intro H locs ls hP hD hS hl
  exact lv_icmp_eq (tgt := 778) hx hb hdg ht (fun _ => kk H locs ls hP hD hS hl) (fun w => absurd rfl w)
theorem lEqJ (C : lCtx p s m meth c b L xs dC dI cI cZ) {z : Int64} {off : Int} (d0 : decode code pc = .ok (.lcmp, 1)) (hdg : decode code (pc + 1) = .ok (.ifCond .eq off, 3)) (ht : ((pc + 1 : Nat) : Int) + off = ((778 : Nat) : Int)) (kk : lG p l e s m below meth c b dC dI cI cZ ad1 ad2 i 778 [] h1 h2) : lG p l e s m below meth c b dC dI cI cZ ad1 ad2 i pc [.long z, .long z] h1 h2 := by
  obtain ⟨hx, hb, hown, hts, hK, hml, hnst, hX, hbl⟩ := C
  intro H locs ls hP hD hS hl
  refine W.lcmp hx hb d0 ?_
  have e0 : lg_cmp z z = 0 := by
    unfold lg_cmp
    rw [if_neg (show ¬ z > z from Int64.lt_irrefl), if_pos rfl]
  exact lv_if_eq (tgt := 778) hx hb hdg ht (fun _ => kk H locs ls hP hD hS hl) (fun w => absurd e0 w)
theorem RH_mrv {N : Nat} {h1 h2 : mH} (h : RH N h1 h2) : mrv h1 0 RX6 ∧ mrv h2 0 RX7 := by
  obtain ⟨k, asked, ux, ua, ub, mo, kn, kp, v1, v2, kP, pr, pl, tk, pm, pa, kO, qr, ql, un, lw, qa, kH, al, hr, lt, hd, mt, sd, ms, mg, mk, hn, mh, tr, mx, w9, t9, c9, g9, rfl, rfl, hR⟩ := h
  exact ⟨⟨6, _, _, rfl, rfl, rfl⟩, ⟨7, _, _, rfl, rfl, rfl⟩⟩
end LAW
theorem cs_trace {N : Nat} {h1 h2 : mH} (h : RH N h1 h2) : ∃ p1 p2 : Int → mH → Prop, (∀ l, SpJ l 1 yX6_trace cX6_trace 1 (some .long) [mr 0] h1 p1) ∧ (∀ l, SpJ l 1 yX7_trace cX7_trace 1 (some .long) [mr 0] h2 p2) ∧ ∀ z1 k1 z2 k2, p1 z1 k1 → p2 z2 k2 → z1 = z2 ∧ RH (N + 1) k1 k2 := by
  obtain ⟨k, asked, ux, ua, ub, mo, kn, kp, v1, v2, kP, pr, pl, tk, pm, pa, kO, qr, ql, un, lw, qa, kH, al, hr, lt, hd, mt, sd, ms, mg, mk, hn, mh, tr, mx, w9, t9, c9, g9, rfl, rfl, hR⟩ := h
  refine ⟨_, _, fun l => sp_X6_trace, fun l => sp_X7_trace, ?_⟩
  rintro z1 k1 z2 k2 ⟨rfl, rfl⟩ ⟨rfl, rfl⟩
  exact ⟨hR.2.2.2.2.2.2.2.2, hR.up.is⟩
