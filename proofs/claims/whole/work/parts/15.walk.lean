/-! a contract out of a walk by the rules -/
theorem sfx_dec {cc : ByteArray} {nL pc len tg : Nat} {cd r0 : List mI} {i : Instr} (ho : okb cc nL 0 cd = true) (h : sfx 0 cd pc = (i, len, tg) :: r0) : decode cc pc = .ok (i, len) ∧ sane nL pc i len tg = true := by
  have h1 := okb_sfx (t := pc) ho
  rw [h] at h1
  obtain ⟨h2, h3, -⟩ := okb_head h1
  exact ⟨h2, h3⟩
theorem sfx_d3 {cc : ByteArray} {nL pc len tg : Nat} {cd r0 : List mI} {idx : Nat} (ho : okb cc nL 0 cd = true) (h : sfx 0 cd pc = (.invokevirtual idx, len, tg) :: r0) : decode cc pc = .ok (.invokevirtual idx, 3) := by
  obtain ⟨h1, h2⟩ := sfx_dec ho h
  obtain rfl : len = 3 := by simpa [sane] using h2
  exact h1
theorem sfx_s3 {cc : ByteArray} {nL pc len tg : Nat} {cd r0 : List mI} {idx : Nat} (ho : okb cc nL 0 cd = true) (h : sfx 0 cd pc = (.invokestatic idx, len, tg) :: r0) : decode cc pc = .ok (.invokestatic idx, 3) := by
  obtain ⟨h1, h2⟩ := sfx_dec ho h
  obtain rfl : len = 3 := by simpa [sane] using h2
  exact h1
theorem sfx_ir {cc : ByteArray} {nL pc len tg : Nat} {cd r0 : List mI} (ho : okb cc nL 0 cd = true) (h : sfx 0 cd pc = (.ireturn, len, tg) :: r0) : decode cc pc = .ok (.ireturn, 1) := by
  obtain ⟨h1, h2⟩ := sfx_dec ho h
  obtain rfl : len = 1 := by simpa [sane] using h2
  exact h1
theorem sfx_vr {cc : ByteArray} {nL pc len tg : Nat} {cd r0 : List mI} (ho : okb cc nL 0 cd = true) (h : sfx 0 cd pc = (.return_, len, tg) :: r0) : decode cc pc = .ok (.return_, 1) := by
  obtain ⟨h1, h2⟩ := sfx_dec ho h
  obtain rfl : len = 1 := by simpa [sane] using h2
  exact h1
theorem sfx_lr {cc : ByteArray} {nL pc len tg : Nat} {cd r0 : List mI} (ho : okb cc nL 0 cd = true) (h : sfx 0 cd pc = (.lreturn, len, tg) :: r0) : decode cc pc = .ok (.lreturn, 1) := by
  obtain ⟨h1, h2⟩ := sfx_dec ho h
  obtain rfl : len = 1 := by simpa [sane] using h2
  exact h1
theorem call_SN {p : Program} {l : Launch} {e : Env} {R : Room} {s : State} {m : MethodId} {args : Array Value} {below : List Frame} {meth : Method} {c : Code} {Q : State → Prop} {dC : Nat → ClassId} {dI : Nat → Nat → Nat} {cI cZ : ClassId} {ad : Nat → Nat} {A : Nat → Prop} {H0 : Heap} {nL : Nat} {cc : ByteArray} {own host : String} {pc : Nat} {L : mL} {h : mH} {idx : Nat} {y : MethodName} {b : ByteArray} {nL' : Nat} {ret : Option FieldType} {d d' : Nat} {As rest : List mV} (C : mCtx p s m args c dC dI cI cZ cc own nL) (hA : ∀ q, H0.size ≤ q → A q) (hR : R.frames = d ∧ R.locals = 32 * d) (hdg : decode cc pc = .ok (.invokestatic idx, 3)) (hf : mfS y b nL' ret As.length) (hl : mlN own idx y host) (hd : d' < d) (hr : mcat rest ≤ 8) {post : Int → mH → Prop} (hsp : SpI l d' y b nL' ret As h post)
    (kk : ∀ z h', post z h' → mG p l e R s m args below meth c Q dC dI cI cZ ad A H0 nL (pc + 3) L (mi z :: rest) h') : mG p l e R s m args below meth c Q dC dI cI cZ ad A H0 nL pc L (As.reverse ++ rest) h := by
  obtain ⟨hx, hb, hown, hts, hw, hml, hnst⟩ := C
  intro H locs ls hP hD hS hL
  have hFc := cw_free hD hS hA
  obtain ⟨⟨f1, f2, f3, f4, -⟩, f5⟩ := hf
  have hlk : (Cond.methodLinkNest own idx y host).before args s = true := by
    obtain ⟨q, rfl, rfl⟩ := hl
    rcases q with ⟨rfl, rfl⟩ | ⟨rfl, rfl⟩
    · exact va_Nw.use rfl hnst.1
    · exact va_Nw.use rfl hnst.2
  have hcn : va_CN R s args own idx y host b nL' ret (mws y b nL' ret) (rmD d') 0 0 As.length := by
    have hc : Cond.code y b nL' ret ∈ mws y b nL' ret := List.mem_cons_self
    have hG : GoodIn mtb (mws y b nL' ret) := tbl_in (fun w hw => by
      rcases List.mem_cons.mp hw with rfl | hw
      · exact f2
      · exact hw)
    refine ⟨⟨rfl, rfl, by show d' + 1 ≤ _; omega, by show 8 + (nL' + 11) + 32 * d' ≤ _; omega, pay_in hts hG, hc⟩, hts _ f2, hts _ f1, ⟨f3.1, f3.2.1⟩, fun sig h => ?_, hlk⟩
    have h2 := f3.2.2
    rw [h] at h2
    exact (Option.some.inj h2).symm
  have hrun := va_runSN (As := As.map (cV ad)) (rest := rest.map (cV ad)) (g := F0 m pc ls ((As.reverse ++ rest).map (cV ad))) (R := R) (locs := locs) (cells := 0) (slots := 0) (meth := meth) (below := below) (e := e) ⟨hx, hb, hml, hown, hts⟩ (hsp dC dI cI cZ ad H.size) ⟨hcn, hts _ f5, True.intro⟩ ⟨mFB, mpre_of hnst hw hP hD rfl⟩ rfl (List.length_map _) hL.2.1 map_revS (lv_room (by rw [cVlen]; exact hr)) hdg ⟨Nat.zero_le _, Nat.zero_le _⟩
  refine va_calli hrun hS (fun q _ h => hFc q h) hFc (fun r u t H1 locs1 ht hvm hz hB hz1 hk1 hS1 => ?_)
  obtain ⟨z, rfl, hpost⟩ := hz
  obtain ⟨hP1, hK1, hD1⟩ := hB
  rw [ht] at hP1
  exact kk z u hpost H1 locs1 ls hP1 (hD1.weaken (fun k q _ h => hFc q.1 h)) hS1 hL
/-- the rules hold of the machine's own walk -/
theorem mRul_of {p : Program} {l : Launch} {e : Env} {d : Nat} {s : State} {m : MethodId} {args : Array Value} {below : List Frame} {meth : Method} {c : Code} {Q : State → Prop} {dC : Nat → ClassId} {dI : Nat → Nat → Nat} {cI cZ : ClassId} {ad : Nat → Nat} {A : Nat → Prop} {nL : Nat} {cc : ByteArray} {own : String} {H0 : Heap}
    {ret : Option FieldType} {cd : List mI} {fT : Nat → Option (Nat × Nat × Nat)} {kT kJ : Nat → Option Int} {pI pJ : Int → mH → Prop} {pV : mH → Prop}
    (C : mCtx p s m args c dC dI cI cZ cc own nL) (hA : ∀ q, H0.size ≤ q → A q) (ho : okb cc nL 0 cd = true) (hF : mFT own fT) (hk : mKT own kT) (hJ : mKJ own kJ) (hj : mJdk)
    (rI : ∀ pc L z h, decode cc pc = .ok (.ireturn, 1) → mrt ret z → pI z h → mG p l e (rmD d) s m args below meth c Q dC dI cI cZ ad A H0 nL pc L [mi z] h)
    (rV : ∀ pc L h, decode cc pc = .ok (.return_, 1) → ret = none → pV h → mG p l e (rmD d) s m args below meth c Q dC dI cI cZ ad A H0 nL pc L [] h)
    (rJ : ∀ pc L z h, decode cc pc = .ok (.lreturn, 1) → ret = some .long → pJ z h → mG p l e (rmD d) s m args below meth c Q dC dI cI cZ ad A H0 nL pc L [ml z] h) :
    mRul l d own ret cd fT kT kJ (mG p l e (rmD d) s m args below meth c Q dC dI cI cZ ad A H0 nL) pI pJ pV := by
  obtain ⟨⟨j1, j2, j3⟩, j4, ⟨j5, j6, j7⟩, j8, j9, j10⟩ := hj
  refine ⟨fun pc t L st h q => blk_sound C hF hk hJ _ pc L st h (okb_mcut (okb_sfx ho)) q, fun pc L L' st h hl q => ?_, ?_, ?_, ?_, ?_, ?_, ?_, ?_, fun pc L z h len tg r0 hs h1 h2 => rI pc L z h (sfx_ir ho hs) h1 h2, fun pc L h len tg r0 hs h1 h2 => rV pc L h (sfx_vr ho hs) h1 h2, fun pc L z h len tg r0 hs h1 h2 => rJ pc L z h (sfx_lr ho hs) h1 h2, ?_⟩
  · intro H locs ls hP hD hS hL
    exact q H locs ls hP hD hS (hL.fewer hl)
  · intro pc L h idx y b nL' rt d' len tg r0 As a rest post hs hf hl hd hr hv hsp kk
    exact call_V C hA ⟨rfl, rfl⟩ (sfx_d3 ho hs) hf hl hd hr hv hsp kk
  · intro pc L h idx y b nL' rt d' len tg r0 As a rest post hs hf hl hd hr hv hsp kk
    exact call_VV C hA ⟨rfl, rfl⟩ (sfx_d3 ho hs) hf hl hd hr hv hsp kk
  · intro pc L h idx y b nL' rt d' len tg r0 As rest post hs hf hl hd hr hsp kk
    exact call_S C hA ⟨rfl, rfl⟩ (sfx_s3 ho hs) hf hl hd hr hsp kk
  · intro pc L h idx len tg r0 a b rest hs hl hd hr ha hb kk
    exact call_max C ⟨rfl, rfl⟩ (sfx_s3 ho hs) hl j1 j4 j5 hd hr ha hb kk
  · intro pc L h idx len tg r0 a b rest hs hl hd hr ha hb kk
    exact call_min C ⟨rfl, rfl⟩ (sfx_s3 ho hs) hl j2 j4 j6 hd hr ha hb kk
  · intro pc L h idx len tg r0 a rest hs hl hd hr ha kk
    exact call_abs C ⟨rfl, rfl⟩ (sfx_s3 ho hs) hl j3 j4 j7 hd hr ha kk
  · intro pc L h idx len tg r0 a0 a1 n0 n1 f g sp dp n rest hs hl hd hr e0 e1 hh kk
    obtain ⟨⟨h1, h2, h3⟩, h4, h5, h6⟩ := hh
    exact call_cpy C ⟨rfl, rfl⟩ (sfx_s3 ho hs) hl j8 j9 j10 hd hr e0 e1 h1 h2 h3 h4 h5 h6 kk
  · intro pc L h idx y host b nL' rt d' len tg r0 As rest post hs hf hl hd hr hsp kk
    exact call_SN C hA ⟨rfl, rfl⟩ (sfx_s3 ho hs) hf hl hd hr hsp kk
theorem mEntry {l : Launch} {d : Nat} {y : MethodName} {b : ByteArray} {nL : Nat} {ret : Option FieldType} {As : List mV} {h : mH} {dC : Nat → ClassId} {dI : Nat → Nat → Nat} {cI cZ : ClassId} {ad : Nat → Nat} {sz : Nat} {Qc : Array Value → State → Outcome → State → Prop}
    (hp : plainName y.cls = true) (h1 : mc1 As) (hn : As.length ≤ nL)
    (body : ∀ p e s m args below meth c, meth.sig.returnType = ret → meth.locks = false → s.heap.size = sz → mCtx p s m args c dC dI cI cZ b y.cls nL → (∀ q, s.heap.size ≤ q → va_A (cW ad cI cZ h) sz q) → mG p l e (rmD d) s m args below meth c (MQ below Qc args s 0 0 (va_A (cW ad cI cZ h) sz)) dC dI cI cZ ad (va_A (cW ad cI cZ h) sz) s.heap nL 0 (mL0 As nL) [] h) :
    Met l y (mws y b nL ret) (rmD d) (mPre dC dI cI cZ ad sz As h) Qc 0 0 (va_A (cW ad cI cZ h) sz) := by
  refine Met.ofW (cc := b) (maxL := nL) (ret := ret) hp rfl ?_
  intro p e s m args below meth c s₁ B hml hv
  obtain ⟨rfl, hsz, hP, hK, hD0, hN⟩ := hv
  have hts := atoms_spec (ws := mws y b nL ret) B.pre
  subst hsz
  have hD := hD0.self (sz := s.heap.size)
  have hl := lv_entry (As.map (cV ad)) (n := nL) (by rw [sl_len As h1]; exact hn)
  rw [lg_entry_eq]
  exact body p e s m _ below meth c B.returns B.notSynchronized rfl ⟨B.exec, B.bytes, findClass_of_methodNamed B.named, fun w hw => hts w (List.mem_cons_of_mem _ hw), hK, hml, hN⟩ (fun q hq => Or.inr hq) s.heap [] _ hP hD va_S.rf (mL0_of h1 hn hl)
theorem SpI.of {l : Launch} {d : Nat} {y : MethodName} {b : ByteArray} {nL : Nat} {ret : Option FieldType} {As : List mV} {h : mH} {post : Int → mH → Prop} {cd : List mI} {fT : Nat → Option (Nat × Nat × Nat)} {kT kJ : Nat → Option Int}
    {n : Nat} (hp : mfA y b nL ret n) (ho : okb b nL 0 cd = true) (hF : mFT y.cls fT) (hk : mKT y.cls kT) (hJ : mKJ y.cls kJ) (hj : mJdk) (h1 : mc1 As) (hn : As.length ≤ nL)
    (body : ∀ G, mRul l d y.cls ret cd fT kT kJ G post (fun _ _ => False) (fun _ => False) → G 0 (mL0 As nL) [] h) : SpI l d y b nL ret As h post := by
  intro dC dI cI cZ ad sz
  refine mEntry hp.2.2.2.2 h1 hn ?_
  intro p e s m args below meth c hr hlk hsz C hA
  refine body _ (mRul_of C hA ho hF hk hJ hj ?_ (fun pc L h _ _ q => q.elim) (fun pc L z h _ _ q => q.elim))
  intro pc L z h' hdg hrt hpost H locs ls hP hD hS hL
  obtain ⟨ty, hty, hnar⟩ : ∃ ty, ret = some ty ∧ narrow ty (.int (iN z)) = .int (iN z) := by
    unfold mrt at hrt
    split at hrt
    · exact ⟨_, rfl, rfl⟩
    · rcases hrt with rfl | rfl
      · exact ⟨_, rfl, by decide⟩
      · exact ⟨_, rfl, by decide⟩
    · exact hrt.elim
  have hK := C.2.2.2.2.1
  exact W.zret (v := iN z) C.1 C.2.1 (hr.trans hty) hnar (fun t ht hW => ⟨⟨iN z, h', rfl, ⟨z, rfl, hpost⟩, by rw [ht]; exact hP, va_K.moved hW.alike hK, hD⟩, hS.F ht⟩) hS.2.2 hdg hlk
theorem SpJ.of {l : Launch} {d : Nat} {y : MethodName} {b : ByteArray} {nL : Nat} {ret : Option FieldType} {As : List mV} {h : mH} {post : Int → mH → Prop} {cd : List mI} {fT : Nat → Option (Nat × Nat × Nat)} {kT kJ : Nat → Option Int}
    {n : Nat} (hp : mfA y b nL ret n) (ho : okb b nL 0 cd = true) (hF : mFT y.cls fT) (hk : mKT y.cls kT) (hJ : mKJ y.cls kJ) (hj : mJdk) (h1 : mc1 As) (hn : As.length ≤ nL)
    (body : ∀ G, mRul l d y.cls ret cd fT kT kJ G (fun _ _ => False) post (fun _ => False) → G 0 (mL0 As nL) [] h) : SpJ l d y b nL ret As h post := by
  intro dC dI cI cZ ad sz
  refine mEntry hp.2.2.2.2 h1 hn ?_
  intro p e s m args below meth c hr hlk hsz C hA
  refine body _ (mRul_of C hA ho hF hk hJ hj (fun pc L z h _ _ q => q.elim) (fun pc L h _ _ q => q.elim) ?_)
  intro pc L z h' hdg hrt hpost H locs ls hP hD hS hL
  have hK := C.2.2.2.2.1
  exact W.lret (v := jN z) C.1 C.2.1 (hr.trans hrt) (fun t ht hW => ⟨⟨jN z, h', rfl, ⟨z, rfl, hpost⟩, by rw [ht]; exact hP, va_K.moved hW.alike hK, hD⟩, hS.F ht⟩) hS.2.2 hdg hlk
theorem SpV.of {l : Launch} {d : Nat} {y : MethodName} {b : ByteArray} {nL : Nat} {ret : Option FieldType} {As : List mV} {h : mH} {post : mH → Prop} {cd : List mI} {fT : Nat → Option (Nat × Nat × Nat)} {kT kJ : Nat → Option Int}
    {n : Nat} (hp : mfA y b nL ret n) (ho : okb b nL 0 cd = true) (hF : mFT y.cls fT) (hk : mKT y.cls kT) (hJ : mKJ y.cls kJ) (hj : mJdk) (h1 : mc1 As) (hn : As.length ≤ nL)
    (body : ∀ G, mRul l d y.cls ret cd fT kT kJ G (fun _ _ => False) (fun _ _ => False) post → G 0 (mL0 As nL) [] h) : SpV l d y b nL ret As h post := by
  intro dC dI cI cZ ad sz
  refine mEntry hp.2.2.2.2 h1 hn ?_
  intro p e s m args below meth c hr hlk hsz C hA
  refine body _ (mRul_of C hA ho hF hk hJ hj (fun pc L z h _ _ q => q.elim) ?_ (fun pc L z h _ _ q => q.elim))
  intro pc L h' hdg hrt hpost H locs ls hP hD hS hL
  have hK := C.2.2.2.2.1
  exact W.vret C.1 C.2.1 (hr.trans hrt) (fun t ht hW => ⟨⟨h', rfl, hpost, by rw [ht]; exact hP, va_K.moved hW.alike hK, hD⟩, hS.F ht⟩) hS.2.2 hdg hlk
/-! the rules by name -/
section RUL
variable {l : Launch} {d : Nat} {own : String} {ret : Option FieldType} {cd : List mI} {fT : Nat → Option (Nat × Nat × Nat)} {kT kJ : Nat → Option Int} {G : Nat → mL → List mV → mH → Prop} {pI pJ : Int → mH → Prop} {pV : mH → Prop}
variable {pc : Nat} {L L' : mL} {st : List mV} {hh : mH} {idx : Nat} {y : MethodName} {b : ByteArray} {nL' : Nat} {rt : Option FieldType} {d' len tg : Nat} {r0 : List mI} {As rest : List mV} {a : Nat}
theorem rRun (h : mRul l d own ret cd fT kT kJ G pI pJ pV) (t : Nat) (q : blk fT kT kJ G pc (mcut t pc (sfx 0 cd pc)) L st hh) : G pc L st hh := h.1 _ t _ _ _ q
theorem rLess (h : mRul l d own ret cd fT kT kJ G pI pJ pV) (q : mle L' L) (g : G pc L' st hh) : G pc L st hh := h.2.1 _ _ _ _ _ q g
theorem rV (h : mRul l d own ret cd fT kT kJ G pI pJ pV) {post : Int → mH → Prop} (hsp : SpI l d' y b nL' rt (mr a :: As) hh post) (hst : st = As.reverse ++ mr a :: rest) (hs : sfx 0 cd pc = (.invokevirtual idx, len, tg) :: r0) (hl : mlk own idx y) (hf : mfV y b nL' rt As.length) (hd : d' < d) (hr : mcat rest ≤ 8) (hv : mrv hh a y.cls) (kk : ∀ z h', post z h' → G (pc + 3) L (mi z :: rest) h') : G pc L st hh := by
  subst hst
  exact h.2.2.1 _ _ _ _ _ _ _ _ _ _ _ _ _ _ _ _ hs hf hl hd hr hv hsp kk
theorem rVV (h : mRul l d own ret cd fT kT kJ G pI pJ pV) {post : mH → Prop} (hsp : SpV l d' y b nL' rt (mr a :: As) hh post) (hst : st = As.reverse ++ mr a :: rest) (hs : sfx 0 cd pc = (.invokevirtual idx, len, tg) :: r0) (hl : mlk own idx y) (hf : mfV y b nL' rt As.length) (hd : d' < d) (hr : mcat rest ≤ 8) (hv : mrv hh a y.cls) (kk : ∀ h', post h' → G (pc + 3) L rest h') : G pc L st hh := by
  subst hst
  exact h.2.2.2.1 _ _ _ _ _ _ _ _ _ _ _ _ _ _ _ _ hs hf hl hd hr hv hsp kk
theorem rS (h : mRul l d own ret cd fT kT kJ G pI pJ pV) {post : Int → mH → Prop} (hsp : SpI l d' y b nL' rt As hh post) (hst : st = As.reverse ++ rest) (hs : sfx 0 cd pc = (.invokestatic idx, len, tg) :: r0) (hl : mlk own idx y) (hf : mfS y b nL' rt As.length) (hd : d' < d) (hr : mcat rest ≤ 8) (kk : ∀ z h', post z h' → G (pc + 3) L (mi z :: rest) h') : G pc L st hh := by
  subst hst
  exact h.2.2.2.2.1 _ _ _ _ _ _ _ _ _ _ _ _ _ _ _ hs hf hl hd hr hsp kk
theorem rMax (h : mRul l d own ret cd fT kT kJ G pI pJ pV) {x z : Int} (hst : st = mi z :: mi x :: rest) (hs : sfx 0 cd pc = (.invokestatic idx, len, tg) :: r0) (hl : mlk own idx Lib.Math.max.name) (hd : 0 < d) (hr : mcat rest ≤ 8) (hx : inI x ∧ inI z) (kk : G (pc + 3) L (mi (max x z) :: rest) hh) : G pc L st hh := by
  subst hst
  exact h.2.2.2.2.2.1 _ _ _ _ _ _ _ _ _ _ hs hl hd hr hx.1 hx.2 kk
theorem rMin (h : mRul l d own ret cd fT kT kJ G pI pJ pV) {x z : Int} (hst : st = mi z :: mi x :: rest) (hs : sfx 0 cd pc = (.invokestatic idx, len, tg) :: r0) (hl : mlk own idx Lib.Math.min.name) (hd : 0 < d) (hr : mcat rest ≤ 8) (hx : inI x ∧ inI z) (kk : G (pc + 3) L (mi (min x z) :: rest) hh) : G pc L st hh := by
  subst hst
  exact h.2.2.2.2.2.2.1 _ _ _ _ _ _ _ _ _ _ hs hl hd hr hx.1 hx.2 kk
theorem rAbs (h : mRul l d own ret cd fT kT kJ G pI pJ pV) {x : Int} (hst : st = mi x :: rest) (hs : sfx 0 cd pc = (.invokestatic idx, len, tg) :: r0) (hl : mlk own idx Lib.Math.abs.name) (hd : 0 < d) (hr : mcat rest ≤ 8) (hx : inI x) (kk : G (pc + 3) L (mi (max x (-x)) :: rest) hh) : G pc L st hh := by
  subst hst
  exact h.2.2.2.2.2.2.2.1 _ _ _ _ _ _ _ _ _ hs hl hd hr hx kk
theorem rCpy (h : mRul l d own ret cd fT kT kJ G pI pJ pV) {a0 a1 n0 n1 : Nat} {f g : Nat → Int} {sp dp n : Int} (hst : st = mi n :: mi dp :: mr a1 :: mi sp :: mr a0 :: rest) (hs : sfx 0 cd pc = (.invokestatic idx, len, tg) :: r0) (hl : mlk own idx arraycopyName) (hd : 0 < d) (hr : mcat rest ≤ 8) (e0 : hh[a0]? = some (.inr (false, n0, f))) (e1 : hh[a1]? = some (.inr (false, n1, g))) (hx : (0 ≤ sp ∧ 0 ≤ dp ∧ 0 ≤ n) ∧ sp + n ≤ (n0 : Int) ∧ dp + n ≤ (n1 : Int) ∧ n0 < 65536 ∧ n1 < 65536) (kk : G (pc + 3) L rest (hh.set a1 (.inr (false, n1, mcpy f g sp.toNat dp.toNat n.toNat)))) : G pc L st hh := by
  subst hst
  exact h.2.2.2.2.2.2.2.2.1 _ _ _ _ _ _ _ _ _ _ _ _ _ _ _ _ _ hs hl hd hr e0 e1 hx kk
theorem rIR (h : mRul l d own ret cd fT kT kJ G pI pJ pV) {z : Int} (hst : st = [mi z]) (hs : sfx 0 cd pc = (.ireturn, len, tg) :: r0) (hr : mrt ret z) (q : pI z hh) : G pc L st hh := by
  subst hst
  exact h.2.2.2.2.2.2.2.2.2.1 _ _ _ _ _ _ _ hs hr q
theorem rVR (h : mRul l d own ret cd fT kT kJ G pI pJ pV) (hst : st = []) (hs : sfx 0 cd pc = (.return_, len, tg) :: r0) (hr : ret = none) (q : pV hh) : G pc L st hh := by
  subst hst
  exact h.2.2.2.2.2.2.2.2.2.2.1 _ _ _ _ _ _ hs hr q
theorem rLR (h : mRul l d own ret cd fT kT kJ G pI pJ pV) {z : Int} (hst : st = [ml z]) (hs : sfx 0 cd pc = (.lreturn, len, tg) :: r0) (hr : ret = some .long) (q : pJ z hh) : G pc L st hh := by
  subst hst
  exact h.2.2.2.2.2.2.2.2.2.2.2.1 _ _ _ _ _ _ _ hs hr q
theorem rSN (h : mRul l d own ret cd fT kT kJ G pI pJ pV) {host : String} {post : Int → mH → Prop} (hsp : SpI l d' y b nL' rt As hh post) (hst : st = As.reverse ++ rest) (hs : sfx 0 cd pc = (.invokestatic idx, len, tg) :: r0) (hl : mlN own idx y host) (hf : mfS y b nL' rt As.length) (hd : d' < d) (hr : mcat rest ≤ 8) (kk : ∀ z h', post z h' → G (pc + 3) L (mi z :: rest) h') : G pc L st hh := by
  subst hst
  exact h.2.2.2.2.2.2.2.2.2.2.2.2 _ _ _ _ _ _ _ _ _ _ _ _ _ _ _ _ hs hf hl hd hr hsp kk
end RUL
