/-! constructors' contracts -/
def shV (j len : Nat) : mV → mV
  | .inr (.inr (some k)) => .inr (.inr (some (if k = 0 then j else len + k - 1)))
  | v => v
def shC (j len : Nat) : mC → mC
  | .inl (ci, fs) => .inl (ci, fs.map (shV j len))
  | c => c
def insH (h : mH) (j : Nat) : mH → mH
  | [] => h
  | o :: r => h.set j (shC j h.length o) ++ r.map (shC j h.length)
def adJ (ad u : Nat → Nat) (len : Nat) : Nat → Nat := fun i => if i < len then ad i else u (i - len + 1)
theorem adJ_lt {ad u : Nat → Nat} {len i : Nat} (h : i < len) : adJ ad u len i = ad i := if_pos h
theorem adJ_ge {ad u : Nat → Nat} {len i : Nat} (h : len ≤ i) : adJ ad u len i = u (i - len + 1) := if_neg (by omega)
theorem cV_sh {ad u : Nat → Nat} {len j : Nat} (hu : u 0 = ad j) (hj : j < len) : ∀ v : mV, cV (adJ ad u len) (shV j len v) = cV u v
  | .inl _ => rfl
  | .inr (.inl _) => rfl
  | .inr (.inr none) => rfl
  | .inr (.inr (some k)) => by
    show Value.ref (adJ ad u len (if k = 0 then j else len + k - 1)) = Value.ref (u k)
    by_cases q : k = 0
    · rw [if_pos q, adJ_lt hj, q, hu]
    · rw [if_neg q, adJ_ge (by omega), show len + k - 1 - len + 1 = k by omega]
theorem cC_sh {ad u : Nat → Nat} {len j : Nat} {cI cZ : ClassId} (hu : u 0 = ad j) (hj : j < len) (c : mC) : cC (adJ ad u len) cI cZ (shC j len c) = cC u cI cZ c := by
  match c with
  | .inr _ => rfl
  | .inl (ci, fs) =>
    show (Sum.inr (ci, (fs.map (shV j len)).map (cV (adJ ad u len))) : va_E) = Sum.inr (ci, fs.map (cV u))
    rw [List.map_map]
    congr 2
    exact List.map_congr_left (fun v _ => cV_sh hu hj v)
theorem ins_at {h r : mH} {o : mC} {j i : Nat} (hj : j < h.length) : (insH h j (o :: r))[i]? = if i < h.length then (if i = j then some (shC j h.length o) else h[i]?) else (r[i - h.length]?).map (shC j h.length) := by
  show (h.set j (shC j h.length o) ++ r.map (shC j h.length))[i]? = _
  by_cases q : i < h.length
  · rw [if_pos q, List.getElem?_append_left (by rw [List.length_set]; exact q), List.getElem?_set]
    by_cases z : i = j
    · rw [if_pos z, if_pos z.symm, if_pos hj]
    · rw [if_neg z, if_neg (fun w => z w.symm)]
  · rw [if_neg q, List.getElem?_append_right (by rw [List.length_set]; omega), List.length_set, List.getElem?_map]
theorem one_A {a sz : Nat} {e : va_E} {q : Nat} (h : va_A [(a, e)] sz q) : q = a ∨ sz ≤ q := by
  rcases h with ⟨k, e2, hk⟩ | h
  · left
    match k, hk with
    | 0, hk => cases hk; rfl
    | k + 1, hk => simp at hk
  · exact Or.inr h
theorem sub_new {D : va_G} {A : Nat → Prop} {cI cZ : ClassId} {h r : mH} {o obj : mC} {j : Nat} {ad u : Nat → Nat} {e : va_E} {H H1 : Heap} (hj : h[j]? = some obj) (hw : hwf h.length h = true) (hP : va_P D mcl (cW ad cI cZ h) H) (hD : va_D A (cW ad cI cZ h)) (hP1 : va_P D mcl (cW u cI cZ (o :: r)) H1) (hD1 : va_D (va_A [(ad j, e)] H.size) (cW u cI cZ (o :: r))) (hu : u 0 = ad j) (hk : ∀ q : Nat, q < H.size → ¬ va_A [(ad j, e)] H.size q → H1[q]? = H[q]?) (hF : ∀ q, va_A [(ad j, e)] H.size q → A q) : va_P D mcl (cW (adJ ad u h.length) cI cZ (insH h j (o :: r))) H1 ∧ va_D A (cW (adJ ad u h.length) cI cZ (insH h j (o :: r))) := by
  have hjl : j < h.length := (List.getElem?_eq_some_iff.mp hj).1
  have old : ∀ i c, h[i]? = some c → (cW ad cI cZ h)[i]? = some (ad i, cC ad cI cZ c) := fun i c q => cW_get q
  have lts : ∀ i c, h[i]? = some c → ad i < H.size := fun i c q => (hP i _ (old i c q)).lt
  -- an element of the new world
  have key : ∀ (i : Nat) (x : Nat × va_E), (cW (adJ ad u h.length) cI cZ (insH h j (o :: r)))[i]? = some x → (i < h.length ∧ i ≠ j ∧ ∃ c, h[i]? = some c ∧ x = (ad i, cC ad cI cZ c)) ∨ (i = j ∧ x = (u 0, cC u cI cZ o)) ∨ (h.length ≤ i ∧ ∃ c, r[i - h.length]? = some c ∧ x = (u (i - h.length + 1), cC u cI cZ c)) := by
    intro i x hx
    rw [cW_at, ins_at hjl] at hx
    by_cases q : i < h.length
    · rw [if_pos q] at hx
      by_cases z : i = j
      · subst z
        rw [if_pos rfl] at hx
        refine Or.inr (Or.inl ⟨rfl, ?_⟩)
        have hx : (adJ ad u h.length i, cC (adJ ad u h.length) cI cZ (shC i h.length o)) = x := Option.some.inj hx
        rw [← hx, cC_sh hu q, adJ_lt q, hu]
      · rw [if_neg z] at hx
        cases hc : h[i]? with
        | none => rw [hc] at hx; cases hx
        | some c =>
          rw [hc] at hx
          have hx : (adJ ad u h.length i, cC (adJ ad u h.length) cI cZ c) = x := Option.some.inj hx
          refine Or.inl ⟨q, z, c, rfl, ?_⟩
          rw [← hx, cC_cg (n := h.length) (ad := ad) (ad' := adJ ad u h.length) (fun j hj => adJ_lt hj) (hwf_at hw hc), adJ_lt q]
    · rw [if_neg q] at hx
      cases hc : r[i - h.length]? with
      | none => rw [hc] at hx; cases hx
      | some c =>
        rw [hc] at hx
        have hx : (adJ ad u h.length i, cC (adJ ad u h.length) cI cZ (shC j h.length c)) = x := Option.some.inj hx
        refine Or.inr (Or.inr ⟨by omega, c, rfl, ?_⟩)
        rw [← hx, cC_sh hu hjl, adJ_ge (by omega)]
  have new0 : (cW u cI cZ (o :: r))[0]? = some (u 0, cC u cI cZ o) := cW_get rfl
  have newk : ∀ i c, r[i]? = some c → (cW u cI cZ (o :: r))[i + 1]? = some (u (i + 1), cC u cI cZ c) := fun i c q => cW_get (by rw [List.getElem?_cons_succ]; exact q)
  have fresh : ∀ i c, r[i]? = some c → H.size ≤ u (i + 1) := fun i c q => by
    rcases one_A (hD1.2 _ _ (newk i c q)) with z | z
    · exact absurd (hD1.1 _ _ _ _ (newk i c q) new0 (by show u (i + 1) = u 0; rw [hu]; exact z)) (by omega)
    · exact z
  refine ⟨fun i x hx => ?_, fun i i2 x y hx hy hxy => ?_, fun i x hx => ?_⟩
  · rcases key i x hx with ⟨q, z, c, hc, rfl⟩ | ⟨rfl, rfl⟩ | ⟨q, c, hc, rfl⟩
    · refine (hP i _ (old i c hc)).kept (hk _ (lts i c hc) (fun w => ?_))
      rcases one_A w with w | w
      · exact z (hD.1 _ _ _ _ (old i c hc) (old j obj hj) w)
      · have := lts i c hc; omega
    · exact hP1 0 _ new0
    · exact hP1 _ _ (newk _ c hc)
  · rcases key i x hx with ⟨q, z, c, hc, rfl⟩ | ⟨rfl, rfl⟩ | ⟨q, c, hc, rfl⟩ <;> rcases key i2 y hy with ⟨q2, z2, c2, hc2, rfl⟩ | ⟨rfl, rfl⟩ | ⟨q2, c2, hc2, rfl⟩
    · exact hD.1 _ _ _ _ (old i c hc) (old i2 c2 hc2) hxy
    · exact absurd (hD.1 _ _ _ _ (old i c hc) (old i2 obj hj) (by show ad i = ad i2; rw [← hu]; exact hxy)) z
    · have a1 := lts i c hc
      have a2 := fresh _ c2 hc2
      have a3 : ad i = u (i2 - h.length + 1) := hxy
      omega
    · exact absurd (hD.1 _ _ _ _ (old i2 c2 hc2) (old i obj hj) (by show ad i2 = ad i; rw [← hu]; exact hxy.symm)) z2
    · rfl
    · have a3 := hD1.1 _ _ _ _ new0 (newk _ c2 hc2) hxy
      omega
    · have a1 := lts i2 c2 hc2
      have a2 := fresh _ c hc
      have a3 : u (i - h.length + 1) = ad i2 := hxy
      omega
    · have a3 := hD1.1 _ _ _ _ new0 (newk _ c hc) hxy.symm
      omega
    · have a3 := hD1.1 _ _ _ _ (newk _ c hc) (newk _ c2 hc2) hxy
      omega
  · rcases key i x hx with ⟨q, z, c, hc, rfl⟩ | ⟨rfl, rfl⟩ | ⟨q, c, hc, rfl⟩
    · exact hD.2 _ _ (old i c hc)
    · exact hF _ (hD1.2 _ _ new0)
    · exact hF _ (hD1.2 _ _ (newk _ c hc))
def rmN (d mc ms : Nat) : Room := { frames := d, cells := mc, slots := ms, locals := 32 * d }
def nPre (ex : State → Prop) (dC : Nat → ClassId) (dI : Nat → Nat → Nat) (cI cZ : ClassId) (ad : Nat → Nat) (sz : Nat) (obj : mC) : Array Value → State → Prop :=
  va_Pc [Value.ref (ad 0)] (fun U => U.heap.size = sz ∧ va_P (dC, dI) mcl (cW ad cI cZ [obj]) U.heap ∧ va_K (dC, dI) mcl (mtys cI cZ) U ∧ va_D (fun _ => True) (cW ad cI cZ [obj]) ∧ mNst U ∧ ex U)
def nB (dC : Nat → ClassId) (dI : Nat → Nat → Nat) (cI cZ : ClassId) (A : Nat → Prop) (out : mH) (u : Nat → Nat) (t : State) : Prop := va_P (dC, dI) mcl (cW u cI cZ out) t.heap ∧ va_K (dC, dI) mcl (mtys cI cZ) t ∧ va_D A (cW u cI cZ out)
/-- made of the fresh cell obj, the object is out; mc cells of ms slots are new -/
def SpN (l : Launch) (ex : State → Prop) (d mc ms : Nat) (y : MethodName) (b : ByteArray) (obj : mC) (out : mH) : Prop :=
  ∀ (dC : Nat → ClassId) (dI : Nat → Nat → Nat) (cI cZ : ClassId) (ad : Nat → Nat) (sz : Nat), Met l y (mws y b 1 none) (rmN d mc ms) (nPre ex dC dI cI cZ ad sz obj) (va_Qv (fun u : Nat → Nat => u 0 = ad 0) (nB dC dI cI cZ (va_A (cW ad cI cZ [obj]) sz) out) (va_A (cW ad cI cZ [obj]) sz)) mc ms (va_A (cW ad cI cZ [obj]) sz)
theorem SpN.of {l : Launch} {ex : State → Prop} {d mc ms : Nat} {y : MethodName} {b : ByteArray} {obj : mC} {out : mH} (hp : plainName y.cls = true) (hy : y.name = "<init>")
    (body : ∀ (dC : Nat → ClassId) (dI : Nat → Nat → Nat) (cI cZ : ClassId) (ad : Nat → Nat) (A : Nat → Prop) (p : Program) (e : Env) (s : State) (m : MethodId) (args : Array Value) (below : List Frame) (meth : Method) (c : Code) (Q : State → Prop) (a0 : Nat), mCtx p s m args c dC dI cI cZ b y.cls 1 → ex s → meth.name = "<init>" → (∀ q, s.heap.size ≤ q → A q) →
      (∀ pc ad', decode b pc = .ok (.return_, 1) → kG p l e (rmN d mc ms) s m args below meth c Q dC dI cI cZ A s.heap a0 mc ms pc [] ad' out) → kG p l e (rmN d mc ms) s m args below meth c Q dC dI cI cZ A s.heap a0 0 0 0 [] ad [obj]) : SpN l ex d mc ms y b obj out := by
  intro dC dI cI cZ ad sz
  refine Met.ofW (cc := b) (maxL := 1) (ret := none) hp rfl ?_
  intro p e s m args below meth c s₁ B hml hv
  obtain ⟨rfl, hsz, hP, hK, hD0, hN, hex⟩ := hv
  have hts := atoms_spec (ws := mws y b 1 none) B.pre
  have hin : meth.name = "<init>" := by rw [← hy]; exact (name_of_methodNamed B.named B.method).1
  have hlk := B.notSynchronized
  have hrt := B.returns
  subst hsz
  have hD := hD0.self (sz := s.heap.size)
  have hl := lv_entry ([Value.ref (ad 0)]) (n := 1) (Nat.le_of_ble_eq_true rfl)
  rw [lg_entry_eq]
  have C : mCtx p s m ([Value.ref (ad 0)] : List Value).toArray c dC dI cI cZ b y.cls 1 := ⟨B.exec, B.bytes, findClass_of_methodNamed B.named, fun w hw => hts w (List.mem_cons_of_mem _ hw), hK, hml, hN⟩
  refine body dC dI cI cZ ad (va_A (cW ad cI cZ [obj]) s.heap.size) p e s m _ below meth c _ (ad 0) C hex hin (fun q hq => Or.inr hq) ?_ rfl s.heap [] _ hP hD va_S.rf hl
  intro pc ad' hdg h0 H locs ls hP1 hD1 hS1 hl1
  exact W.vret C.1 C.2.1 hrt (fun t ht hW => ⟨⟨ad', rfl, h0, by rw [ht]; exact hP1, va_K.moved hW.alike hK, hD1⟩, hS1.F ht⟩) hS1.2.2 hdg hlk
theorem nFB {ex : State → Prop} (hex : ∀ (a : Array Value) (U : State) (g : JFrame) (mk : MethodId), ex U → ex (U.calling g mk a)) {dC : Nat → ClassId} {dI : Nat → Nat → Nat} {cI cZ : ClassId} {ad : Nat → Nat} {sz : Nat} {obj : mC} : FrameBlind (nPre ex dC dI cI cZ ad sz obj) := fun a U g mk q => by
  obtain ⟨q0, q1, qP, qK, qD, qN, qE⟩ := q
  exact ⟨q0, q1, qP, va_K.moved (u := U) (U := U.calling g mk a) (Vm.Alike.refl U.vm) qK, qD, ⟨va_Nw.same (U := U.calling g mk a) rfl rfl qN.1, va_Nw.same (U := U.calling g mk a) rfl rfl qN.2⟩, hex a U g mk qE⟩
section KI
variable {p : Program} {l : Launch} {e : Env} {R : Room} {s : State} {m : MethodId} {args : Array Value} {below : List Frame} {meth : Method} {c : Code} {Q : State → Prop}
variable {dC : Nat → ClassId} {dI : Nat → Nat → Nat} {cI cZ : ClassId} {A : Nat → Prop} {H0 : Heap} {cc : ByteArray} {own : String} {a0 k n pc : Nat} {st : List mV} {ad : Nat → Nat} {h : mH}
/-- what the tables say of a constructor -/
def cfA (y : MethodName) (b : ByteArray) : Prop := Cond.initialized y.cls ∈ mtb ∧ Cond.code y b 1 none ∈ mtb ∧ (y.cls ≠ "java/lang/invoke/MethodHandle" ∧ y.cls ≠ "java/lang/invoke/VarHandle" ∧ (parseMethodDescriptor y.desc).map (fun d => d.parameters.length) = some 0) ∧ y.name = "<init>" ∧ Cond.instanceMethod y ∈ mtb
/-- how it is linked -/
def cLk (own : String) (idx : Nat) (y : MethodName) (s : State) : Prop := Cond.methodLink own idx y ∈ mtb ∨ va_Nw (.methodLinkNest own idx y "TowerPrisoner") s
theorem kInit (C : mCtx p s m args c dC dI cI cZ cc own 1) (hA : ∀ q, H0.size ≤ q → A q) {j idx d' mc ms : Nat} {y : MethodName} {b : ByteArray} {obj o : mC} {r : mH} (hdg : decode cc pc = .ok (.invokespecial idx, 3)) (hf : cfA y b) (hlk : cLk own idx y s) (hR : d' + 1 ≤ R.frames ∧ 32 * d' + 32 ≤ R.locals) (hC : k + mc ≤ R.cells ∧ n + ms ≤ R.slots) (hj : h[j]? = some obj) (hj0 : 0 < h.length) (hobj : cref 0 obj = true) (hw : hwf h.length h = true) (hs : vwf h.length st = true) (hr : mcat st ≤ 8) (hsp : SpN l (fun _ => True) d' mc ms y b obj (o :: r))
    (kk : ∀ u : Nat → Nat, kG p l e R s m args below meth c Q dC dI cI cZ A H0 a0 (k + mc) (n + ms) (pc + 3) st (adJ ad u h.length) (insH h j (o :: r))) : kG p l e R s m args below meth c Q dC dI cI cZ A H0 a0 k n pc (mr j :: st) ad h := by
  obtain ⟨hx, hb, hown, hts, hK, hml, hnst⟩ := C
  obtain ⟨f1, f2, f3, f4, f5⟩ := hf
  intro h0 H locs ls hP hD hS hL
  have hjl : j < h.length := (List.getElem?_eq_some_iff.mp hj).1
  have ew : cW (fun _ => ad j) cI cZ [obj] = [(ad j, cC ad cI cZ obj)] := by
    show [(ad j, cC (fun _ => ad j) cI cZ obj)] = _
    rw [cC_cg (n := 0) (ad := ad) (ad' := fun _ => ad j) (fun i hi => absurd hi (Nat.not_lt_zero _)) hobj]
  have eP : va_P (dC, dI) mcl (cW (fun _ => ad j) cI cZ [obj]) H := by
    rw [ew]
    intro i x hx
    match i, hx with
    | 0, hx => cases hx; exact hP j _ (cW_get hj)
    | i + 1, hx => simp at hx
  have eD : va_D (fun _ => True) (cW (fun _ => ad j) cI cZ [obj]) := by
    rw [ew]
    refine ⟨fun i i2 x y hx hy _ => ?_, fun _ _ _ => trivial⟩
    have h1 := (List.getElem?_eq_some_iff.mp hx).1
    have h2 := (List.getElem?_eq_some_iff.mp hy).1
    simp at h1 h2; omega
  have hFc : ∀ q, va_A (cW (fun _ => ad j) cI cZ [obj]) H.size q → A q := by
    rw [ew]
    intro q hq
    rcases one_A hq with rfl | hq
    · exact hD.2 _ _ (cW_get hj)
    · exact hA q (Nat.le_trans hS.1 hq)
  have hG : GoodIn mtb (mws y b 1 none) := tbl_in (fun w hw => by
    rcases List.mem_cons.mp hw with rfl | hw
    · exact f2
    · exact hw)
  have hp : PreS s H (nPre (fun _ => True) dC dI cI cZ (fun _ => ad j) H.size obj) [Value.ref (ad j)] := ⟨nFB (fun _ _ _ _ _ => trivial), fun U hU hW => ⟨rfl, by rw [hU], by rw [hU]; exact eP, va_K.moved hW.alike hK, eD, hnst.warm hW, trivial⟩⟩
  have hrun : va_Run p l e R s m args below meth c H locs k n mc ms (F0 m pc ls ((mr j :: st).map (cV ad))) (st.map (cV ad)) (va_Qv (fun u : Nat → Nat => u 0 = ad j) (nB dC dI cI cZ (va_A (cW (fun _ => ad j) cI cZ [obj]) H.size) (o :: r)) (va_A (cW (fun _ => ad j) cI cZ [obj]) H.size) ([Value.ref (ad j)] : List Value).toArray) (va_A (cW (fun _ => ad j) cI cZ [obj]) H.size) := by
    rcases hlk with hlk | hlk
    · exact va_runI (As := []) (rest := st.map (cV ad)) (b := ad j) ⟨hx, hb, hml, hown, hts⟩ (hsp dC dI cI cZ (fun _ => ad j) H.size) ⟨callB_of 0 hts hG rfl rfl rfl (hts _ f1) (hts _ hlk) f3 (by show d' + 1 ≤ R.frames ∧ 8 + (1 + 11) + 32 * d' ≤ R.locals; omega), f4, hts _ f5⟩ hp rfl rfl hL.1 rfl (lv_room (by rw [cVlen]; exact hr)) hdg hC
    · exact va_runIN (As := []) (rest := st.map (cV ad)) (b := ad j) ⟨hx, hb, hml, hown, hts⟩ (hsp dC dI cI cZ (fun _ => ad j) H.size) ⟨va_cnB 0 hts hG rfl rfl rfl hlk (hts _ f1) f3 (by show d' + 1 ≤ R.frames ∧ 8 + (1 + 11) + 32 * d' ≤ R.locals; omega), f4, hts _ f5⟩ hp rfl rfl hL.1 rfl (lv_room (by rw [cVlen]; exact hr)) hdg hC
  refine va_callv hrun hS (fun q _ h => hFc q h) hFc (fun u t H1 locs1 ht hvm hu hB hz1 hk1 hS1 => ?_)
  obtain ⟨hP1, hK1, hD1⟩ := hB
  rw [ht] at hP1
  rw [ew] at hk1 hD1 hFc
  have hn := sub_new hj hw hP hD hP1 hD1 hu hk1 hFc
  have g := kk u (by rw [adJ_lt hj0]; exact h0) H1 locs1 ls hn.1 hn.2 hS1 hL
  rw [cV_cg (n := h.length) (ad := ad) (fun i hi => adJ_lt hi) hs] at g
  exact g
end KI
