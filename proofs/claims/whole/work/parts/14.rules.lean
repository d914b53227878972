/-! Math, arraycopy, ends; the rules in one bundle -/
def mcat : List mV → Nat
  | [] => 0
  | .inr (.inl _) :: r => 2 + mcat r
  | .inl _ :: r => 1 + mcat r
  | .inr (.inr _) :: r => 1 + mcat r
theorem cVlen {ad : Nat → Nat} : ∀ {st : List mV}, ((st.map (cV ad)).map fun v => v.category).sum = mcat st
  | [] => rfl
  | .inl a :: r => by
    have h1 := cVlen (ad := ad) (st := r)
    show 1 + _ = 1 + mcat r
    rw [← h1]; rfl
  | .inr (.inl a) :: r => by
    have h1 := cVlen (ad := ad) (st := r)
    show 2 + _ = 2 + mcat r
    rw [← h1]; rfl
  | .inr (.inr none) :: r => by
    have h1 := cVlen (ad := ad) (st := r)
    show 1 + _ = 1 + mcat r
    rw [← h1]; rfl
  | .inr (.inr (some a)) :: r => by
    have h1 := cVlen (ad := ad) (st := r)
    show 1 + _ = 1 + mcat r
    rw [← h1]; rfl
section CALL
variable {p : Program} {l : Launch} {e : Env} {R : Room} {s : State} {m : MethodId} {args : Array Value} {below : List Frame} {meth : Method} {c : Code} {Q : State → Prop}
variable {dC : Nat → ClassId} {dI : Nat → Nat → Nat} {cI cZ : ClassId} {ad : Nat → Nat} {A : Nat → Prop} {H0 : Heap} {nL : Nat} {cc : ByteArray} {own : String}
variable {pc : Nat} {L : mL} {h : mH} {idx : Nat} {y : MethodName} {b : ByteArray} {nL' : Nat} {ret : Option FieldType} {d d' : Nat} {As rest : List mV} {a : Nat}
theorem cw_free {H : Heap} {locs : List Loc} (hD : va_D A (cW ad cI cZ h)) (hS : va_S A H0 H locs) (hA : ∀ q, H0.size ≤ q → A q) : ∀ q, va_A (cW ad cI cZ h) H.size q → A q := by
  intro q hq
  rcases hq with ⟨k, e, he⟩ | hq
  · exact hD.2 k (q, e) he
  · exact hA q (Nat.le_trans hS.1 hq)
theorem cwB (hts : ∀ w ∈ mtb, w.before args s = true) (hf : mfA y b nL' ret As.length) (hl : mlk own idx y) (hd : d' < d) (hR : R.frames = d ∧ R.locals = 32 * d) : CallB R s args own idx y b nL' ret (mws y b nL' ret) (rmD d') 0 0 As.length := by
  obtain ⟨h1, h2, h3, h4, -⟩ := hf
  refine callB_of _ hts (tbl_in ?_) rfl rfl rfl (hts _ h1) (hts _ hl) h3 ?_
  · intro w hw
    rcases List.mem_cons.mp hw with rfl | hw
    · exact h2
    · exact hw
  · show d' + 1 ≤ R.frames ∧ 8 + (nL' + 11) + 32 * d' ≤ R.locals
    rw [hR.1, hR.2]; omega
theorem mpre_of {H : Heap} (hN : mNst s) (hK : va_K (dC, dI) mcl (mtys cI cZ) s) (hP : va_P (dC, dI) mcl (cW ad cI cZ h) H) (hD : va_D A (cW ad cI cZ h)) {v : Array Value} (hv : v = (As.map (cV ad)).toArray) : ∀ U : State, U.heap = H → s.WarmedH U.vm → mPre dC dI cI cZ ad H.size As h v U := fun U hU hW =>
  ⟨hv, by rw [hU], by rw [hU]; exact hP, va_K.moved hW.alike hK, hD.weaken (fun _ _ _ _ => trivial), hN.warm hW⟩
theorem map_rev {f : mV → Value} {As rest : List mV} {x : mV} : (As.reverse ++ x :: rest).map f = (As.map f).reverse ++ f x :: rest.map f := by simp
theorem map_revS {f : mV → Value} {As rest : List mV} : (As.reverse ++ rest).map f = (As.map f).reverse ++ rest.map f := by simp
theorem call_V (C : mCtx p s m args c dC dI cI cZ cc own nL) (hA : ∀ q, H0.size ≤ q → A q) (hR : R.frames = d ∧ R.locals = 32 * d) (hdg : decode cc pc = .ok (.invokevirtual idx, 3)) (hf : mfV y b nL' ret As.length) (hl : mlk own idx y) (hd : d' < d) (hr : mcat rest ≤ 8) (hv : mrv h a y.cls) {post : Int → mH → Prop} (hsp : SpI l d' y b nL' ret (mr a :: As) h post)
    (kk : ∀ z h', post z h' → mG p l e R s m args below meth c Q dC dI cI cZ ad A H0 nL (pc + 3) L (mi z :: rest) h') : mG p l e R s m args below meth c Q dC dI cI cZ ad A H0 nL pc L (As.reverse ++ mr a :: rest) h := by
  obtain ⟨hx, hb, hown, hts, hw, hml, hnst⟩ := C
  intro H locs ls hP hD hS hL
  have hFc := cw_free hD hS hA
  obtain ⟨ci, fs, q, v1, v2, v3⟩ := hv
  have hcw : CallW R s args own y.cls idx y b nL' ret (mws y b nL' ret) (rmD d') 0 0 As.length := ⟨cwB hts hf.1 hl hd hR, hts _ hf.2.1, hts _ hf.2.2⟩
  have hrc := va_recv hw hP v2 (cW_get v1)
  rw [v3] at hrc
  have hrun := va_runV (As := As.map (cV ad)) (rest := rest.map (cV ad)) (b := ad a) (g := F0 m pc ls ((As.reverse ++ mr a :: rest).map (cV ad))) (R := R) (locs := locs) (cells := 0) (slots := 0) (meth := meth) (below := below) (e := e) ⟨hx, hb, hml, hown, hts⟩ (hsp dC dI cI cZ ad H.size) hcw ⟨mFB, hrc, mpre_of hnst hw hP hD rfl⟩ rfl (List.length_map _) hL.2.1 map_rev (lv_room (by rw [cVlen]; exact hr)) hdg ⟨Nat.zero_le _, Nat.zero_le _⟩
  refine va_calli hrun hS (fun q _ h => hFc q h) hFc (fun r u t H1 locs1 ht hvm hz hB hz1 hk1 hS1 => ?_)
  obtain ⟨z, rfl, hpost⟩ := hz
  obtain ⟨hP1, hK1, hD1⟩ := hB
  rw [ht] at hP1
  exact kk z u hpost H1 locs1 ls hP1 (hD1.weaken (fun k q _ h => hFc q.1 h)) hS1 hL
theorem call_VV (C : mCtx p s m args c dC dI cI cZ cc own nL) (hA : ∀ q, H0.size ≤ q → A q) (hR : R.frames = d ∧ R.locals = 32 * d) (hdg : decode cc pc = .ok (.invokevirtual idx, 3)) (hf : mfV y b nL' ret As.length) (hl : mlk own idx y) (hd : d' < d) (hr : mcat rest ≤ 8) (hv : mrv h a y.cls) {post : mH → Prop} (hsp : SpV l d' y b nL' ret (mr a :: As) h post)
    (kk : ∀ h', post h' → mG p l e R s m args below meth c Q dC dI cI cZ ad A H0 nL (pc + 3) L rest h') : mG p l e R s m args below meth c Q dC dI cI cZ ad A H0 nL pc L (As.reverse ++ mr a :: rest) h := by
  obtain ⟨hx, hb, hown, hts, hw, hml, hnst⟩ := C
  intro H locs ls hP hD hS hL
  have hFc := cw_free hD hS hA
  obtain ⟨ci, fs, q, v1, v2, v3⟩ := hv
  have hcw : CallW R s args own y.cls idx y b nL' ret (mws y b nL' ret) (rmD d') 0 0 As.length := ⟨cwB hts hf.1 hl hd hR, hts _ hf.2.1, hts _ hf.2.2⟩
  have hrc := va_recv hw hP v2 (cW_get v1)
  rw [v3] at hrc
  have hrun := va_runV (As := As.map (cV ad)) (rest := rest.map (cV ad)) (b := ad a) (g := F0 m pc ls ((As.reverse ++ mr a :: rest).map (cV ad))) (R := R) (locs := locs) (cells := 0) (slots := 0) (meth := meth) (below := below) (e := e) ⟨hx, hb, hml, hown, hts⟩ (hsp dC dI cI cZ ad H.size) hcw ⟨mFB, hrc, mpre_of hnst hw hP hD rfl⟩ rfl (List.length_map _) hL.2.1 map_rev (lv_room (by rw [cVlen]; exact hr)) hdg ⟨Nat.zero_le _, Nat.zero_le _⟩
  refine va_callv hrun hS (fun q _ h => hFc q h) hFc (fun u t H1 locs1 ht hvm hpost hB hz1 hk1 hS1 => ?_)
  obtain ⟨hP1, hK1, hD1⟩ := hB
  rw [ht] at hP1
  exact kk u hpost H1 locs1 ls hP1 (hD1.weaken (fun k q _ h => hFc q.1 h)) hS1 hL
theorem call_S (C : mCtx p s m args c dC dI cI cZ cc own nL) (hA : ∀ q, H0.size ≤ q → A q) (hR : R.frames = d ∧ R.locals = 32 * d) (hdg : decode cc pc = .ok (.invokestatic idx, 3)) (hf : mfS y b nL' ret As.length) (hl : mlk own idx y) (hd : d' < d) (hr : mcat rest ≤ 8) {post : Int → mH → Prop} (hsp : SpI l d' y b nL' ret As h post)
    (kk : ∀ z h', post z h' → mG p l e R s m args below meth c Q dC dI cI cZ ad A H0 nL (pc + 3) L (mi z :: rest) h') : mG p l e R s m args below meth c Q dC dI cI cZ ad A H0 nL pc L (As.reverse ++ rest) h := by
  obtain ⟨hx, hb, hown, hts, hw, hml, hnst⟩ := C
  intro H locs ls hP hD hS hL
  have hFc := cw_free hD hS hA
  have hrun := va_runS (As := As.map (cV ad)) (rest := rest.map (cV ad)) (g := F0 m pc ls ((As.reverse ++ rest).map (cV ad))) (R := R) (locs := locs) (cells := 0) (slots := 0) (meth := meth) (below := below) (e := e) ⟨hx, hb, hml, hown, hts⟩ (hsp dC dI cI cZ ad H.size) ⟨cwB hts hf.1 hl hd hR, hts _ hf.2⟩ ⟨mFB, mpre_of hnst hw hP hD rfl⟩ rfl (List.length_map _) hL.2.1 map_revS (lv_room (by rw [cVlen]; exact hr)) hdg ⟨Nat.zero_le _, Nat.zero_le _⟩
  refine va_calli hrun hS (fun q _ h => hFc q h) hFc (fun r u t H1 locs1 ht hvm hz hB hz1 hk1 hS1 => ?_)
  obtain ⟨z, rfl, hpost⟩ := hz
  obtain ⟨hP1, hK1, hD1⟩ := hB
  rw [ht] at hP1
  exact kk z u hpost H1 locs1 ls hP1 (hD1.weaken (fun k q _ h => hFc q.1 h)) hS1 hL
end CALL
def mMx (own : String) (idx : Nat) (y : MethodName) : Prop := Cond.methodLink own idx y ∈ mtb
section CALM
variable {p : Program} {l : Launch} {e : Env} {R : Room} {s : State} {m : MethodId} {args : Array Value} {below : List Frame} {meth : Method} {c : Code} {Q : State → Prop}
variable {dC : Nat → ClassId} {dI : Nat → Nat → Nat} {cI cZ : ClassId} {ad : Nat → Nat} {A : Nat → Prop} {H0 : Heap} {nL : Nat} {cc : ByteArray} {own : String}
variable {pc : Nat} {L : mL} {h : mH} {idx : Nat} {d : Nat} {rest : List mV}
theorem if_max {a b : Int} (ha : inI a) (hb : inI b) : (if iN a < iN b then iN b else iN a) = iN (max a b) := by
  by_cases h : a < b
  · rw [if_pos ((iN_lt ha hb).mpr h), Int.max_eq_right (by omega)]
  · rw [if_neg (fun q => h ((iN_lt ha hb).mp q)), Int.max_eq_left (by omega)]
theorem call_max (C : mCtx p s m args c dC dI cI cZ cc own nL) (hR : R.frames = d ∧ R.locals = 32 * d) (hdg : decode cc pc = .ok (.invokestatic idx, 3)) (hl : mlk own idx Lib.Math.max.name) (h1 : Cond.static Lib.Math.max.name ∈ mtb) (h2 : Cond.initialized "java/lang/Math" ∈ mtb) (h3 : Cond.code Lib.Math.max.name Lib.Math.max.code 2 (some .int) ∈ mtb) (hd : 0 < d) (hr : mcat rest ≤ 8) {a b : Int} (ha : inI a) (hb2 : inI b)
    (kk : mG p l e R s m args below meth c Q dC dI cI cZ ad A H0 nL (pc + 3) L (mi (max a b) :: rest) h) : mG p l e R s m args below meth c Q dC dI cI cZ ad A H0 nL pc L (mi b :: mi a :: rest) h := by
  obtain ⟨hx, hb, hown, hts, hw, hml, hnst⟩ := C
  intro H locs ls hP hD hS hL
  refine va_mmax hx hb (by rw [hml]; exact hL.2.1.symm) hown (hts _ hl) (hts _ h1) (hts _ h2) (hts _ h3) (by omega) (by have := cVlen (ad := ad) (st := rest); omega) (Nat.zero_le _) (Nat.zero_le _) hdg ?_
  rw [if_max ha hb2]
  exact kk H locs ls hP hD hS hL
theorem if_min {a b : Int} (ha : inI a) (hb : inI b) : (if iN b < iN a then iN b else iN a) = iN (min a b) := by
  by_cases h : b < a
  · rw [if_pos ((iN_lt hb ha).mpr h), Int.min_eq_right (by omega)]
  · rw [if_neg (fun q => h ((iN_lt hb ha).mp q)), Int.min_eq_left (by omega)]
theorem call_min (C : mCtx p s m args c dC dI cI cZ cc own nL) (hR : R.frames = d ∧ R.locals = 32 * d) (hdg : decode cc pc = .ok (.invokestatic idx, 3)) (hl : mlk own idx Lib.Math.min.name) (h1 : Cond.static Lib.Math.min.name ∈ mtb) (h2 : Cond.initialized "java/lang/Math" ∈ mtb) (h3 : Cond.code Lib.Math.min.name Lib.Math.min.code 2 (some .int) ∈ mtb) (hd : 0 < d) (hr : mcat rest ≤ 8) {a b : Int} (ha : inI a) (hb2 : inI b)
    (kk : mG p l e R s m args below meth c Q dC dI cI cZ ad A H0 nL (pc + 3) L (mi (min a b) :: rest) h) : mG p l e R s m args below meth c Q dC dI cI cZ ad A H0 nL pc L (mi b :: mi a :: rest) h := by
  obtain ⟨hx, hb, hown, hts, hw, hml, hnst⟩ := C
  intro H locs ls hP hD hS hL
  refine va_mmin hx hb (by rw [hml]; exact hL.2.1.symm) hown (hts _ hl) (hts _ h1) (hts _ h2) (hts _ h3) (by omega) (by have := cVlen (ad := ad) (st := rest); omega) (Nat.zero_le _) (Nat.zero_le _) hdg ?_
  rw [if_min ha hb2]
  exact kk H locs ls hP hD hS hL
theorem call_abs (C : mCtx p s m args c dC dI cI cZ cc own nL) (hR : R.frames = d ∧ R.locals = 32 * d) (hdg : decode cc pc = .ok (.invokestatic idx, 3)) (hl : mlk own idx Lib.Math.abs.name) (h1 : Cond.static Lib.Math.abs.name ∈ mtb) (h2 : Cond.initialized "java/lang/Math" ∈ mtb) (h3 : Cond.code Lib.Math.abs.name Lib.Math.abs.code 1 (some .int) ∈ mtb) (hd : 0 < d) (hr : mcat rest ≤ 8) {a : Int} (ha : inI a)
    (kk : mG p l e R s m args below meth c Q dC dI cI cZ ad A H0 nL (pc + 3) L (mi (max a (-a)) :: rest) h) : mG p l e R s m args below meth c Q dC dI cI cZ ad A H0 nL pc L (mi a :: rest) h := by
  obtain ⟨hx, hb, hown, hts, hw, hml, hnst⟩ := C
  intro H locs ls hP hD hS hL
  refine va_mabs hx hb (by rw [hml]; exact hL.2.1.symm) hown (hts _ hl) (hts _ h1) (hts _ h2) (hts _ h3) (by omega) (by have := cVlen (ad := ad) (st := rest); omega) (Nat.zero_le _) (Nat.zero_le _) hdg ?_
  have h0 : inI 0 := ⟨by omega, by omega⟩
  have e : (if 0 ≤ iN a then iN a else 0 - iN a) = iN (max a (-a)) := by
    rw [← iN_0]
    by_cases q : 0 ≤ a
    · rw [if_pos ((iN_le h0 ha).mpr q), Int.max_eq_left (by omega)]
    · rw [if_neg (fun z => q ((iN_le h0 ha).mp z)), Int.max_eq_right (by omega), iN_sub]
      congr 1; omega
  rw [e]
  exact kk H locs ls hP hD hS hL
def mcpy (f g : Nat → Int) (sp dp n : Nat) : Nat → Int := fun k => if dp ≤ k ∧ k < dp + n then f (sp + (k - dp)) else g k
theorem mcpy_e {f g : Nat → Int} {sp dp n : Nat} : va_cpy (fun j => iN (f j)) (fun j => iN (g j)) sp dp n = fun j => iN (mcpy f g sp dp n j) := by
  funext k
  unfold va_cpy mcpy
  by_cases h : dp ≤ k ∧ k < dp + n
  · rw [if_pos h, if_pos h]
  · rw [if_neg h, if_neg h]
theorem call_cpy (C : mCtx p s m args c dC dI cI cZ cc own nL) (hR : R.frames = d ∧ R.locals = 32 * d) (hdg : decode cc pc = .ok (.invokestatic idx, 3)) (hl : mlk own idx arraycopyName) (g1 : Cond.native arraycopyName ∈ mtb) (g2 : Cond.static arraycopyName ∈ mtb) (g3 : Cond.initialized "java/lang/System" ∈ mtb) (hd : 0 < d) (hr : mcat rest ≤ 8) {a0 a1 n0 n1 : Nat} {f g : Nat → Int} {sp dp n : Int} (e0 : h[a0]? = some (.inr (false, n0, f))) (e1 : h[a1]? = some (.inr (false, n1, g))) (h1 : 0 ≤ sp) (h2 : 0 ≤ dp) (h3 : 0 ≤ n) (h4 : sp + n ≤ n0) (h5 : dp + n ≤ n1) (h6 : n0 < 65536 ∧ n1 < 65536)
    (kk : mG p l e R s m args below meth c Q dC dI cI cZ ad A H0 nL (pc + 3) L rest (h.set a1 (.inr (false, n1, mcpy f g sp.toNat dp.toNat n.toNat)))) : mG p l e R s m args below meth c Q dC dI cI cZ ad A H0 nL pc L (mi n :: mi dp :: mr a1 :: mi sp :: mr a0 :: rest) h := by
  obtain ⟨hx, hb, hown, hts, hw, hml, hnst⟩ := C
  intro H locs ls hP hD hS hL
  have z0 : inI 0 := ⟨by omega, by omega⟩
  have zs : inI sp := ⟨by omega, by omega⟩
  have zd : inI dp := ⟨by omega, by omega⟩
  have zn : inI n := ⟨by omega, by omega⟩
  have c1 := iN_cl zs
  have c2 := iN_cl zd
  have c3 := iN_cl zn
  refine va_copyi hx hb (by rw [hml]; exact hL.2.1.symm) hown (hts _ hl) (hts _ g1) (hts _ g2) (hts _ g3) hw hP hD hS a0 a1 0 0 (cW_get e0) (cW_get e1) rfl rfl rfl (by rw [← iN_0, iN_lt zs z0]; omega) (by rw [← iN_0, iN_lt zd z0]; omega) (by rw [← iN_0, iN_lt zn z0]; omega) (by rw [c1, c3]; omega) (by rw [c2, c3]; omega) (fun _ _ => rfl) (by omega) (by
    have hh := cVlen (ad := ad) (st := rest)
    have hh2 : nativeFrameWords "java/lang/System" "arraycopy" 5 = 7 := by decide +kernel
    rw [hh2]; omega) hdg (fun H1 locs1 hP1 hD1 hS1 => ?_)
  have e : (cW ad cI cZ h).set a1 (ad a1, .inl (cI, n1, .inl (va_cpy (fun j => iN (f j)) (fun j => iN (g j)) (iN sp).toNatClampNeg (iN dp).toNatClampNeg (iN n).toNatClampNeg))) = cW ad cI cZ (h.set a1 (.inr (false, n1, mcpy f g sp.toNat dp.toNat n.toNat))) := by
    rw [cW_set, c1, c2, c3, mcpy_e]; rfl
  rw [show cond false cZ cI = cI from rfl, e] at hP1 hD1
  exact kk H1 locs1 ls hP1 hD1 hS1 hL
end CALM
/-- a stretch, cut ahead of the place t -/
def mcut (t : Nat) : Nat → List mI → List mI
  | _, [] => []
  | pc, (i, len, tg) :: r => match Nat.beq pc t with
    | true => []
    | false => (i, len, tg) :: mcut t (pc + len) r
theorem okb_mcut {cc : ByteArray} {nL t : Nat} : ∀ {pc : Nat} {l : List mI}, okb cc nL pc l = true → okb cc nL pc (mcut t pc l) = true
  | _, [], _ => rfl
  | pc, (i, len, tg) :: r, h => by
    unfold mcut
    split
    · rfl
    · simp only [okb, Bool.and_eq_true] at h ⊢
      exact ⟨h.1, h.2.1, okb_mcut h.2.2⟩
def mrt (ret : Option FieldType) (z : Int) : Prop := match ret with
  | some .int => True
  | some .boolean => z = 0 ∨ z = 1
  | _ => False
def mlN (own : String) (idx : Nat) (y : MethodName) (host : String) : Prop := ((own = RX1 ∧ idx = 75) ∨ (own = RX3 ∧ idx = 100)) ∧ y = yX6_isBeyond ∧ host = "TowerPrisoner"
/-- what a walk may use: the run of a stretch, fewer locals, calls, Math, arraycopy, the ends -/
def mRul (l : Launch) (d : Nat) (own : String) (ret : Option FieldType) (cd : List mI) (fT : Nat → Option (Nat × Nat × Nat)) (kT kJ : Nat → Option Int) (G : Nat → mL → List mV → mH → Prop) (pI pJ : Int → mH → Prop) (pV : mH → Prop) : Prop :=
  (∀ pc t L st h, blk fT kT kJ G pc (mcut t pc (sfx 0 cd pc)) L st h → G pc L st h) ∧
  (∀ pc L L' st h, mle L' L → G pc L' st h → G pc L st h) ∧
  (∀ pc L h idx y b nL' rt d' len tg r0 As a rest post, sfx 0 cd pc = (.invokevirtual idx, len, tg) :: r0 → mfV y b nL' rt As.length → mlk own idx y → d' < d → mcat rest ≤ 8 → mrv h a y.cls → SpI l d' y b nL' rt (mr a :: As) h post → (∀ z h', post z h' → G (pc + 3) L (mi z :: rest) h') → G pc L (As.reverse ++ mr a :: rest) h) ∧
  (∀ pc L h idx y b nL' rt d' len tg r0 As a rest post, sfx 0 cd pc = (.invokevirtual idx, len, tg) :: r0 → mfV y b nL' rt As.length → mlk own idx y → d' < d → mcat rest ≤ 8 → mrv h a y.cls → SpV l d' y b nL' rt (mr a :: As) h post → (∀ h', post h' → G (pc + 3) L rest h') → G pc L (As.reverse ++ mr a :: rest) h) ∧
  (∀ pc L h idx y b nL' rt d' len tg r0 As rest post, sfx 0 cd pc = (.invokestatic idx, len, tg) :: r0 → mfS y b nL' rt As.length → mlk own idx y → d' < d → mcat rest ≤ 8 → SpI l d' y b nL' rt As h post → (∀ z h', post z h' → G (pc + 3) L (mi z :: rest) h') → G pc L (As.reverse ++ rest) h) ∧
  (∀ pc L h idx len tg r0 a b rest, sfx 0 cd pc = (.invokestatic idx, len, tg) :: r0 → mlk own idx Lib.Math.max.name → 0 < d → mcat rest ≤ 8 → inI a → inI b → G (pc + 3) L (mi (max a b) :: rest) h → G pc L (mi b :: mi a :: rest) h) ∧
  (∀ pc L h idx len tg r0 a b rest, sfx 0 cd pc = (.invokestatic idx, len, tg) :: r0 → mlk own idx Lib.Math.min.name → 0 < d → mcat rest ≤ 8 → inI a → inI b → G (pc + 3) L (mi (min a b) :: rest) h → G pc L (mi b :: mi a :: rest) h) ∧
  (∀ pc L h idx len tg r0 a rest, sfx 0 cd pc = (.invokestatic idx, len, tg) :: r0 → mlk own idx Lib.Math.abs.name → 0 < d → mcat rest ≤ 8 → inI a → G (pc + 3) L (mi (max a (-a)) :: rest) h → G pc L (mi a :: rest) h) ∧
  (∀ pc L h idx len tg r0 a0 a1 (n0 n1 : Nat) f g (sp dp n : Int) rest, sfx 0 cd pc = (.invokestatic idx, len, tg) :: r0 → mlk own idx arraycopyName → 0 < d → mcat rest ≤ 8 → h[a0]? = some (.inr (false, n0, f)) → h[a1]? = some (.inr (false, n1, g)) → ((0 ≤ sp ∧ 0 ≤ dp ∧ 0 ≤ n) ∧ sp + n ≤ (n0 : Int) ∧ dp + n ≤ (n1 : Int) ∧ n0 < 65536 ∧ n1 < 65536) → G (pc + 3) L rest (h.set a1 (.inr (false, n1, mcpy f g sp.toNat dp.toNat n.toNat))) → G pc L (mi n :: mi dp :: mr a1 :: mi sp :: mr a0 :: rest) h) ∧
  (∀ pc L z h len tg r0, sfx 0 cd pc = (.ireturn, len, tg) :: r0 → mrt ret z → pI z h → G pc L [mi z] h) ∧
  (∀ pc L h len tg r0, sfx 0 cd pc = (.return_, len, tg) :: r0 → ret = none → pV h → G pc L [] h) ∧
  (∀ pc L z h len tg r0, sfx 0 cd pc = (.lreturn, len, tg) :: r0 → ret = some .long → pJ z h → G pc L [ml z] h) ∧
  (∀ pc L h idx y host b nL' rt d' len tg r0 As rest post, sfx 0 cd pc = (.invokestatic idx, len, tg) :: r0 → mfS y b nL' rt As.length → mlN own idx y host → d' < d → mcat rest ≤ 8 → SpI l d' y b nL' rt As h post → (∀ z h', post z h' → G (pc + 3) L (mi z :: rest) h') → G pc L (As.reverse ++ rest) h)
def mL0 (As : List mV) (nL : Nat) : mL := As.map some ++ List.replicate (nL - As.length) none
def mc1 : List mV → Prop
  | [] => True
  | .inr (.inl _) :: _ => False
  | .inl _ :: r => mc1 r
  | .inr (.inr _) :: r => mc1 r
theorem mc1_h {x : mV} {r : List mV} (h : mc1 (x :: r)) : (∀ z, x ≠ .inr (.inl z)) ∧ mc1 r := by
  match x, h with
  | .inl a, h => exact ⟨(fun z q => by cases q), h⟩
  | .inr (.inr a), h => exact ⟨(fun z q => by cases q), h⟩
theorem args_at {ad : Nat → Nat} : ∀ (As : List mV) (i k : Nat) (v : mV), mc1 As → As[k]? = some v → (i + k, cV ad v) ∈ lv_args i (As.map (cV ad))
  | [], i, k, v, h, e => by cases e
  | x :: r, i, 0, v, h, e => by
    cases e
    exact List.mem_cons_self
  | x :: r, i, k + 1, v, h, e => by
    have hx : (cV ad x).category = 1 := cV_cat1 (mc1_h h).1
    show (i + (k + 1), cV ad v) ∈ (i, cV ad x) :: lv_args (if (cV ad x).category = 2 then i + 2 else i + 1) (r.map (cV ad))
    rw [hx]
    refine List.mem_cons_of_mem _ ?_
    have := args_at (ad := ad) r (i + 1) k v (mc1_h h).2 (by simpa using e)
    rw [show i + (k + 1) = i + 1 + k by omega]
    exact this
theorem sl_len {ad : Nat → Nat} : ∀ (As : List mV), mc1 As → (lg_sl (As.map (cV ad))).length = As.length
  | [], _ => rfl
  | x :: r, h => by
    have hx : (cV ad x).category = 1 := cV_cat1 (mc1_h h).1
    have ih := sl_len (ad := ad) r (mc1_h h).2
    simp [lg_sl, hx] at ih ⊢
    omega
theorem mL0_of {ad : Nat → Nat} {As : List mV} {nL : Nat} {ls : Array Slot} (h1 : mc1 As) (hn : As.length ≤ nL) (h : lv_has ls nL (lv_args 0 (As.map (cV ad)))) : mLs ad nL ls (mL0 As nL) := by
  refine ⟨by simp [mL0]; omega, h.1, h.2.1, ?_⟩
  rintro ⟨k, w⟩ hq
  obtain ⟨x, hx, rfl⟩ := mem_mll.mp hq
  unfold mL0 at hx
  rw [List.getElem?_append] at hx
  split at hx
  · rw [List.getElem?_map] at hx
    cases e : As[k]? with
    | none => rw [e] at hx; cases hx
    | some v =>
      rw [e] at hx
      cases hx
      have := args_at (ad := ad) As 0 k x h1 e
      rw [Nat.zero_add] at this
      exact h.2.2 _ this
  · have := List.eq_of_mem_replicate (List.mem_of_getElem? hx)
    cases this
