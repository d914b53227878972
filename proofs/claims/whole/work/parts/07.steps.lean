/-! every instruction of the small machine is sound -/
section SO
variable {p : Program} {l : Launch} {e : Env} {R : Room} {s : State} {m : MethodId} {args : Array Value} {below : List Frame} {meth : Method} {c : Code} {Q : State → Prop}
variable {dC : Nat → ClassId} {dI : Nat → Nat → Nat} {cI cZ : ClassId} {ad : Nat → Nat} {A : Nat → Prop} {H0 : Heap} {nL : Nat} {cc : ByteArray} {own : String}
variable {fT : Nat → Option (Nat × Nat × Nat)} {kT kJ : Nat → Option Int} {len tg pc : Nat} {L : mL} {st : List mV} {h : mH} {K : mL → List mV → mH → Prop} {G : Nat → mL → List mV → mH → Prop}
theorem so_iconst {n : Int} (C : mCtx p s m args c dC dI cI cZ cc own nL) (hF : mFT own fT) (hk : mKT own kT) (hJ : mKJ own kJ) (hd : decode cc pc = .ok (.iconst n, len)) (hs : sane nL pc (.iconst n) len tg = true) (hK : ∀ L st h, K L st h → mG p l e R s m args below meth c Q dC dI cI cZ ad A H0 nL (pc + len) L st h) (hG : ∀ t L st h, G t L st h → mG p l e R s m args below meth c Q dC dI cI cZ ad A H0 nL t L st h) (hyp : stp fT kT kJ (.iconst n) tg pc L st h K G) : mG p l e R s m args below meth c Q dC dI cI cZ ad A H0 nL pc L st h := by
  obtain ⟨hx, hb, hown, hts, hw, hml, hnst⟩ := C
  obtain rfl : len = 1 := by simpa [sane] using hs
  intro H locs ls hP hD hS hL
  exact lv_iconst hx hb hd rfl (hK _ _ _ hyp H locs ls hP hD hS hL)
theorem so_bipush {n : Int} (C : mCtx p s m args c dC dI cI cZ cc own nL) (hF : mFT own fT) (hk : mKT own kT) (hJ : mKJ own kJ) (hd : decode cc pc = .ok (.bipush n, len)) (hs : sane nL pc (.bipush n) len tg = true) (hK : ∀ L st h, K L st h → mG p l e R s m args below meth c Q dC dI cI cZ ad A H0 nL (pc + len) L st h) (hG : ∀ t L st h, G t L st h → mG p l e R s m args below meth c Q dC dI cI cZ ad A H0 nL t L st h) (hyp : stp fT kT kJ (.bipush n) tg pc L st h K G) : mG p l e R s m args below meth c Q dC dI cI cZ ad A H0 nL pc L st h := by
  obtain ⟨hx, hb, hown, hts, hw, hml, hnst⟩ := C
  obtain ⟨rfl, hs2⟩ : len = 2 ∧ (-128 ≤ n ∧ n ≤ 127) := by simpa [sane] using hs
  intro H locs ls hP hD hS hL
  exact lv_bipush hx hb hd (i8 hs2) (hK _ _ _ hyp H locs ls hP hD hS hL)
theorem so_sipush {n : Int} (C : mCtx p s m args c dC dI cI cZ cc own nL) (hF : mFT own fT) (hk : mKT own kT) (hJ : mKJ own kJ) (hd : decode cc pc = .ok (.sipush n, len)) (hs : sane nL pc (.sipush n) len tg = true) (hK : ∀ L st h, K L st h → mG p l e R s m args below meth c Q dC dI cI cZ ad A H0 nL (pc + len) L st h) (hG : ∀ t L st h, G t L st h → mG p l e R s m args below meth c Q dC dI cI cZ ad A H0 nL t L st h) (hyp : stp fT kT kJ (.sipush n) tg pc L st h K G) : mG p l e R s m args below meth c Q dC dI cI cZ ad A H0 nL pc L st h := by
  obtain ⟨hx, hb, hown, hts, hw, hml, hnst⟩ := C
  obtain ⟨rfl, hs2⟩ : len = 3 ∧ (-32768 ≤ n ∧ n ≤ 32767) := by simpa [sane] using hs
  intro H locs ls hP hD hS hL
  exact lv_sipush hx hb hd (i16 hs2) (hK _ _ _ hyp H locs ls hP hD hS hL)
theorem so_ldc {n : Nat} (C : mCtx p s m args c dC dI cI cZ cc own nL) (hF : mFT own fT) (hk : mKT own kT) (hJ : mKJ own kJ) (hd : decode cc pc = .ok (.ldc n, len)) (hs : sane nL pc (.ldc n) len tg = true) (hK : ∀ L st h, K L st h → mG p l e R s m args below meth c Q dC dI cI cZ ad A H0 nL (pc + len) L st h) (hG : ∀ t L st h, G t L st h → mG p l e R s m args below meth c Q dC dI cI cZ ad A H0 nL t L st h) (hyp : stp fT kT kJ (.ldc n) tg pc L st h K G) : mG p l e R s m args below meth c Q dC dI cI cZ ad A H0 nL pc L st h := by
  obtain ⟨hx, hb, hown, hts, hw, hml, hnst⟩ := C
  obtain rfl : len = 2 := by simpa [sane] using hs
  intro H locs ls hP hD hS hL
  unfold stp at hyp
  dsimp only at hyp
  split at hyp
  · rename_i z hz
    exact lv_ldc hx hb hown (hts _ (hk _ _ hz)) hd (hK _ _ _ hyp H locs ls hP hD hS hL)
  · exact hyp.elim
theorem so_ldcw {n : Nat} (C : mCtx p s m args c dC dI cI cZ cc own nL) (hF : mFT own fT) (hk : mKT own kT) (hJ : mKJ own kJ) (hd : decode cc pc = .ok (.ldc_w n, len)) (hs : sane nL pc (.ldc_w n) len tg = true) (hK : ∀ L st h, K L st h → mG p l e R s m args below meth c Q dC dI cI cZ ad A H0 nL (pc + len) L st h) (hG : ∀ t L st h, G t L st h → mG p l e R s m args below meth c Q dC dI cI cZ ad A H0 nL t L st h) (hyp : stp fT kT kJ (.ldc_w n) tg pc L st h K G) : mG p l e R s m args below meth c Q dC dI cI cZ ad A H0 nL pc L st h := by
  obtain ⟨hx, hb, hown, hts, hw, hml, hnst⟩ := C
  obtain rfl : len = 3 := by simpa [sane] using hs
  intro H locs ls hP hD hS hL
  unfold stp at hyp
  dsimp only at hyp
  split at hyp
  · rename_i z hz
    exact lv_ldcw hx hb hown (hts _ (hk _ _ hz)) hd (hK _ _ _ hyp H locs ls hP hD hS hL)
  · exact hyp.elim
theorem so_ldc2 {n : Nat} (C : mCtx p s m args c dC dI cI cZ cc own nL) (hF : mFT own fT) (hk : mKT own kT) (hJ : mKJ own kJ) (hd : decode cc pc = .ok (.ldc2_w n, len)) (hs : sane nL pc (.ldc2_w n) len tg = true) (hK : ∀ L st h, K L st h → mG p l e R s m args below meth c Q dC dI cI cZ ad A H0 nL (pc + len) L st h) (hG : ∀ t L st h, G t L st h → mG p l e R s m args below meth c Q dC dI cI cZ ad A H0 nL t L st h) (hyp : stp fT kT kJ (.ldc2_w n) tg pc L st h K G) : mG p l e R s m args below meth c Q dC dI cI cZ ad A H0 nL pc L st h := by
  obtain ⟨hx, hb, hown, hts, hw, hml, hnst⟩ := C
  obtain rfl : len = 3 := by simpa [sane] using hs
  intro H locs ls hP hD hS hL
  unfold stp at hyp
  dsimp only at hyp
  split at hyp
  · rename_i z hz
    exact lv_ldc2 hx hb hown (hts _ (hJ _ _ hz)) hd (hK _ _ _ hyp H locs ls hP hD hS hL)
  · exact hyp.elim
theorem so_lconst {n : Fin 2} (C : mCtx p s m args c dC dI cI cZ cc own nL) (hF : mFT own fT) (hk : mKT own kT) (hJ : mKJ own kJ) (hd : decode cc pc = .ok (.lconst n, len)) (hs : sane nL pc (.lconst n) len tg = true) (hK : ∀ L st h, K L st h → mG p l e R s m args below meth c Q dC dI cI cZ ad A H0 nL (pc + len) L st h) (hG : ∀ t L st h, G t L st h → mG p l e R s m args below meth c Q dC dI cI cZ ad A H0 nL t L st h) (hyp : stp fT kT kJ (.lconst n) tg pc L st h K G) : mG p l e R s m args below meth c Q dC dI cI cZ ad A H0 nL pc L st h := by
  obtain ⟨hx, hb, hown, hts, hw, hml, hnst⟩ := C
  obtain rfl : len = 1 := by simpa [sane] using hs
  intro H locs ls hP hD hS hL
  exact lv_lconst hx hb hd (jN_n _).symm (hK _ _ _ hyp H locs ls hP hD hS hL)
theorem so_iload {n : Nat} (C : mCtx p s m args c dC dI cI cZ cc own nL) (hF : mFT own fT) (hk : mKT own kT) (hJ : mKJ own kJ) (hd : decode cc pc = .ok (.iload n, len)) (hs : sane nL pc (.iload n) len tg = true) (hK : ∀ L st h, K L st h → mG p l e R s m args below meth c Q dC dI cI cZ ad A H0 nL (pc + len) L st h) (hG : ∀ t L st h, G t L st h → mG p l e R s m args below meth c Q dC dI cI cZ ad A H0 nL t L st h) (hyp : stp fT kT kJ (.iload n) tg pc L st h K G) : mG p l e R s m args below meth c Q dC dI cI cZ ad A H0 nL pc L st h := by
  obtain ⟨hx, hb, hown, hts, hw, hml, hnst⟩ := C
  obtain rfl : len = 2 := by simpa [sane] using hs
  intro H locs ls hP hD hS hL
  obtain ⟨z, hz, hyp⟩ := mldi_e hyp
  exact lv_iload hx hb hd (hL.at hz) (hK _ _ _ hyp H locs ls hP hD hS hL)
theorem so_iload_n {n : Fin 4} (C : mCtx p s m args c dC dI cI cZ cc own nL) (hF : mFT own fT) (hk : mKT own kT) (hJ : mKJ own kJ) (hd : decode cc pc = .ok (.iload_n n, len)) (hs : sane nL pc (.iload_n n) len tg = true) (hK : ∀ L st h, K L st h → mG p l e R s m args below meth c Q dC dI cI cZ ad A H0 nL (pc + len) L st h) (hG : ∀ t L st h, G t L st h → mG p l e R s m args below meth c Q dC dI cI cZ ad A H0 nL t L st h) (hyp : stp fT kT kJ (.iload_n n) tg pc L st h K G) : mG p l e R s m args below meth c Q dC dI cI cZ ad A H0 nL pc L st h := by
  obtain ⟨hx, hb, hown, hts, hw, hml, hnst⟩ := C
  obtain rfl : len = 1 := by simpa [sane] using hs
  intro H locs ls hP hD hS hL
  obtain ⟨z, hz, hyp⟩ := mldi_e hyp
  exact lv_iload_n hx hb hd rfl (hL.at hz) (hK _ _ _ hyp H locs ls hP hD hS hL)
theorem so_lload {n : Nat} (C : mCtx p s m args c dC dI cI cZ cc own nL) (hF : mFT own fT) (hk : mKT own kT) (hJ : mKJ own kJ) (hd : decode cc pc = .ok (.lload n, len)) (hs : sane nL pc (.lload n) len tg = true) (hK : ∀ L st h, K L st h → mG p l e R s m args below meth c Q dC dI cI cZ ad A H0 nL (pc + len) L st h) (hG : ∀ t L st h, G t L st h → mG p l e R s m args below meth c Q dC dI cI cZ ad A H0 nL t L st h) (hyp : stp fT kT kJ (.lload n) tg pc L st h K G) : mG p l e R s m args below meth c Q dC dI cI cZ ad A H0 nL pc L st h := by
  obtain ⟨hx, hb, hown, hts, hw, hml, hnst⟩ := C
  obtain rfl : len = 2 := by simpa [sane] using hs
  intro H locs ls hP hD hS hL
  obtain ⟨z, hz, hyp⟩ := mldl_e hyp
  exact lv_lload hx hb hd (hL.at hz) (hK _ _ _ hyp H locs ls hP hD hS hL)
theorem so_lload_n {n : Fin 4} (C : mCtx p s m args c dC dI cI cZ cc own nL) (hF : mFT own fT) (hk : mKT own kT) (hJ : mKJ own kJ) (hd : decode cc pc = .ok (.lload_n n, len)) (hs : sane nL pc (.lload_n n) len tg = true) (hK : ∀ L st h, K L st h → mG p l e R s m args below meth c Q dC dI cI cZ ad A H0 nL (pc + len) L st h) (hG : ∀ t L st h, G t L st h → mG p l e R s m args below meth c Q dC dI cI cZ ad A H0 nL t L st h) (hyp : stp fT kT kJ (.lload_n n) tg pc L st h K G) : mG p l e R s m args below meth c Q dC dI cI cZ ad A H0 nL pc L st h := by
  obtain ⟨hx, hb, hown, hts, hw, hml, hnst⟩ := C
  obtain rfl : len = 1 := by simpa [sane] using hs
  intro H locs ls hP hD hS hL
  obtain ⟨z, hz, hyp⟩ := mldl_e hyp
  exact lv_lload_n hx hb hd rfl (hL.at hz) (hK _ _ _ hyp H locs ls hP hD hS hL)
theorem so_aload {n : Nat} (C : mCtx p s m args c dC dI cI cZ cc own nL) (hF : mFT own fT) (hk : mKT own kT) (hJ : mKJ own kJ) (hd : decode cc pc = .ok (.aload n, len)) (hs : sane nL pc (.aload n) len tg = true) (hK : ∀ L st h, K L st h → mG p l e R s m args below meth c Q dC dI cI cZ ad A H0 nL (pc + len) L st h) (hG : ∀ t L st h, G t L st h → mG p l e R s m args below meth c Q dC dI cI cZ ad A H0 nL t L st h) (hyp : stp fT kT kJ (.aload n) tg pc L st h K G) : mG p l e R s m args below meth c Q dC dI cI cZ ad A H0 nL pc L st h := by
  obtain ⟨hx, hb, hown, hts, hw, hml, hnst⟩ := C
  obtain rfl : len = 2 := by simpa [sane] using hs
  intro H locs ls hP hD hS hL
  obtain ⟨z, hz, hyp⟩ := mlda_e hyp
  exact lv_aload hx hb hd (hL.at hz) (hK _ _ _ hyp H locs ls hP hD hS hL)
theorem so_aload_n {n : Fin 4} (C : mCtx p s m args c dC dI cI cZ cc own nL) (hF : mFT own fT) (hk : mKT own kT) (hJ : mKJ own kJ) (hd : decode cc pc = .ok (.aload_n n, len)) (hs : sane nL pc (.aload_n n) len tg = true) (hK : ∀ L st h, K L st h → mG p l e R s m args below meth c Q dC dI cI cZ ad A H0 nL (pc + len) L st h) (hG : ∀ t L st h, G t L st h → mG p l e R s m args below meth c Q dC dI cI cZ ad A H0 nL t L st h) (hyp : stp fT kT kJ (.aload_n n) tg pc L st h K G) : mG p l e R s m args below meth c Q dC dI cI cZ ad A H0 nL pc L st h := by
  obtain ⟨hx, hb, hown, hts, hw, hml, hnst⟩ := C
  obtain rfl : len = 1 := by simpa [sane] using hs
  intro H locs ls hP hD hS hL
  obtain ⟨z, hz, hyp⟩ := mlda_e hyp
  exact lv_aload_n hx hb hd rfl (hL.at hz) (hK _ _ _ hyp H locs ls hP hD hS hL)
theorem so_istore {n : Nat} (C : mCtx p s m args c dC dI cI cZ cc own nL) (hF : mFT own fT) (hk : mKT own kT) (hJ : mKJ own kJ) (hd : decode cc pc = .ok (.istore n, len)) (hs : sane nL pc (.istore n) len tg = true) (hK : ∀ L st h, K L st h → mG p l e R s m args below meth c Q dC dI cI cZ ad A H0 nL (pc + len) L st h) (hG : ∀ t L st h, G t L st h → mG p l e R s m args below meth c Q dC dI cI cZ ad A H0 nL t L st h) (hyp : stp fT kT kJ (.istore n) tg pc L st h K G) : mG p l e R s m args below meth c Q dC dI cI cZ ad A H0 nL pc L st h := by
  obtain ⟨hx, hb, hown, hts, hw, hml, hnst⟩ := C
  obtain ⟨rfl, hs2⟩ : len = 2 ∧ n < nL := by simpa [sane] using hs
  intro H locs ls hP hD hS hL
  obtain ⟨a, r, rfl, hyp⟩ := m1_e hyp
  exact lv_istore hx hb hd hL.2 hs2 rfl (fun ls' h' => hK _ _ _ hyp H locs ls' hP hD hS (mLs.st1 hL.1 h'))
theorem so_istore_n {n : Fin 4} (C : mCtx p s m args c dC dI cI cZ cc own nL) (hF : mFT own fT) (hk : mKT own kT) (hJ : mKJ own kJ) (hd : decode cc pc = .ok (.istore_n n, len)) (hs : sane nL pc (.istore_n n) len tg = true) (hK : ∀ L st h, K L st h → mG p l e R s m args below meth c Q dC dI cI cZ ad A H0 nL (pc + len) L st h) (hG : ∀ t L st h, G t L st h → mG p l e R s m args below meth c Q dC dI cI cZ ad A H0 nL t L st h) (hyp : stp fT kT kJ (.istore_n n) tg pc L st h K G) : mG p l e R s m args below meth c Q dC dI cI cZ ad A H0 nL pc L st h := by
  obtain ⟨hx, hb, hown, hts, hw, hml, hnst⟩ := C
  obtain ⟨rfl, hs2⟩ : len = 1 ∧ (n : Nat) < nL := by simpa [sane] using hs
  intro H locs ls hP hD hS hL
  obtain ⟨a, r, rfl, hyp⟩ := m1_e hyp
  exact lv_istore_n hx hb hd rfl hL.2 hs2 rfl (fun ls' h' => hK _ _ _ hyp H locs ls' hP hD hS (mLs.st1 hL.1 h'))
theorem so_lstore {n : Nat} (C : mCtx p s m args c dC dI cI cZ cc own nL) (hF : mFT own fT) (hk : mKT own kT) (hJ : mKJ own kJ) (hd : decode cc pc = .ok (.lstore n, len)) (hs : sane nL pc (.lstore n) len tg = true) (hK : ∀ L st h, K L st h → mG p l e R s m args below meth c Q dC dI cI cZ ad A H0 nL (pc + len) L st h) (hG : ∀ t L st h, G t L st h → mG p l e R s m args below meth c Q dC dI cI cZ ad A H0 nL t L st h) (hyp : stp fT kT kJ (.lstore n) tg pc L st h K G) : mG p l e R s m args below meth c Q dC dI cI cZ ad A H0 nL pc L st h := by
  obtain ⟨hx, hb, hown, hts, hw, hml, hnst⟩ := C
  obtain ⟨rfl, hs2⟩ : len = 2 ∧ n + 1 < nL := by simpa [sane] using hs
  intro H locs ls hP hD hS hL
  obtain ⟨a, r, rfl, hyp⟩ := n1_e hyp
  exact lv_lstore hx hb hd hL.2 hs2 rfl (fun ls' h' => hK _ _ _ hyp H locs ls' hP hD hS (mLs.st2 hL.1 h'))
theorem so_lstore_n {n : Fin 4} (C : mCtx p s m args c dC dI cI cZ cc own nL) (hF : mFT own fT) (hk : mKT own kT) (hJ : mKJ own kJ) (hd : decode cc pc = .ok (.lstore_n n, len)) (hs : sane nL pc (.lstore_n n) len tg = true) (hK : ∀ L st h, K L st h → mG p l e R s m args below meth c Q dC dI cI cZ ad A H0 nL (pc + len) L st h) (hG : ∀ t L st h, G t L st h → mG p l e R s m args below meth c Q dC dI cI cZ ad A H0 nL t L st h) (hyp : stp fT kT kJ (.lstore_n n) tg pc L st h K G) : mG p l e R s m args below meth c Q dC dI cI cZ ad A H0 nL pc L st h := by
  obtain ⟨hx, hb, hown, hts, hw, hml, hnst⟩ := C
  obtain ⟨rfl, hs2⟩ : len = 1 ∧ (n : Nat) + 1 < nL := by simpa [sane] using hs
  intro H locs ls hP hD hS hL
  obtain ⟨a, r, rfl, hyp⟩ := n1_e hyp
  exact lv_lstore_n hx hb hd rfl hL.2 hs2 rfl (fun ls' h' => hK _ _ _ hyp H locs ls' hP hD hS (mLs.st2 hL.1 h'))
theorem so_astore {n : Nat} (C : mCtx p s m args c dC dI cI cZ cc own nL) (hF : mFT own fT) (hk : mKT own kT) (hJ : mKJ own kJ) (hd : decode cc pc = .ok (.astore n, len)) (hs : sane nL pc (.astore n) len tg = true) (hK : ∀ L st h, K L st h → mG p l e R s m args below meth c Q dC dI cI cZ ad A H0 nL (pc + len) L st h) (hG : ∀ t L st h, G t L st h → mG p l e R s m args below meth c Q dC dI cI cZ ad A H0 nL t L st h) (hyp : stp fT kT kJ (.astore n) tg pc L st h K G) : mG p l e R s m args below meth c Q dC dI cI cZ ad A H0 nL pc L st h := by
  obtain ⟨hx, hb, hown, hts, hw, hml, hnst⟩ := C
  obtain ⟨rfl, hs2⟩ : len = 2 ∧ n < nL := by simpa [sane] using hs
  intro H locs ls hP hD hS hL
  unfold stp at hyp
  dsimp only at hyp
  split at hyp
  · exact lv_astore hx hb hd hL.2 hs2 rfl (fun ls' h' => hK _ _ _ hyp H locs ls' hP hD hS (mLs.st1 hL.1 h'))
  · exact hyp.elim
theorem so_astore_n {n : Fin 4} (C : mCtx p s m args c dC dI cI cZ cc own nL) (hF : mFT own fT) (hk : mKT own kT) (hJ : mKJ own kJ) (hd : decode cc pc = .ok (.astore_n n, len)) (hs : sane nL pc (.astore_n n) len tg = true) (hK : ∀ L st h, K L st h → mG p l e R s m args below meth c Q dC dI cI cZ ad A H0 nL (pc + len) L st h) (hG : ∀ t L st h, G t L st h → mG p l e R s m args below meth c Q dC dI cI cZ ad A H0 nL t L st h) (hyp : stp fT kT kJ (.astore_n n) tg pc L st h K G) : mG p l e R s m args below meth c Q dC dI cI cZ ad A H0 nL pc L st h := by
  obtain ⟨hx, hb, hown, hts, hw, hml, hnst⟩ := C
  obtain ⟨rfl, hs2⟩ : len = 1 ∧ (n : Nat) < nL := by simpa [sane] using hs
  intro H locs ls hP hD hS hL
  unfold stp at hyp
  dsimp only at hyp
  split at hyp
  · exact lv_astore_n hx hb hd rfl hL.2 hs2 rfl (fun ls' h' => hK _ _ _ hyp H locs ls' hP hD hS (mLs.st1 hL.1 h'))
  · exact hyp.elim
theorem so_iinc {n : Nat} {d : Int} (C : mCtx p s m args c dC dI cI cZ cc own nL) (hF : mFT own fT) (hk : mKT own kT) (hJ : mKJ own kJ) (hd : decode cc pc = .ok (.iinc n d, len)) (hs : sane nL pc (.iinc n d) len tg = true) (hK : ∀ L st h, K L st h → mG p l e R s m args below meth c Q dC dI cI cZ ad A H0 nL (pc + len) L st h) (hG : ∀ t L st h, G t L st h → mG p l e R s m args below meth c Q dC dI cI cZ ad A H0 nL t L st h) (hyp : stp fT kT kJ (.iinc n d) tg pc L st h K G) : mG p l e R s m args below meth c Q dC dI cI cZ ad A H0 nL pc L st h := by
  obtain ⟨hx, hb, hown, hts, hw, hml, hnst⟩ := C
  obtain ⟨rfl, hs2⟩ : len = 3 ∧ n < nL := by simpa [sane] using hs
  intro H locs ls hP hD hS hL
  obtain ⟨z, hz, hyp⟩ := mldi_e hyp
  obtain ⟨k, hk1⟩ := List.getElem?_of_mem (mem_mll.mpr ⟨_, hz, rfl⟩ : (n, cV ad (.inl z)) ∈ mll ad L)
  exact lv_iinc hx hb hd hL.2 hk1 (iN_add z d) hs2 rfl (fun ls' h' => hK _ _ _ hyp H locs ls' hP hD hS (mLs.st1 hL.1 h'))
theorem so_iadd (C : mCtx p s m args c dC dI cI cZ cc own nL) (hF : mFT own fT) (hk : mKT own kT) (hJ : mKJ own kJ) (hd : decode cc pc = .ok (.iadd, len)) (hs : sane nL pc (.iadd) len tg = true) (hK : ∀ L st h, K L st h → mG p l e R s m args below meth c Q dC dI cI cZ ad A H0 nL (pc + len) L st h) (hG : ∀ t L st h, G t L st h → mG p l e R s m args below meth c Q dC dI cI cZ ad A H0 nL t L st h) (hyp : stp fT kT kJ (.iadd) tg pc L st h K G) : mG p l e R s m args below meth c Q dC dI cI cZ ad A H0 nL pc L st h := by
  obtain ⟨hx, hb, hown, hts, hw, hml, hnst⟩ := C
  obtain rfl : len = 1 := by simpa [sane] using hs
  intro H locs ls hP hD hS hL
  obtain ⟨a, b, r, rfl, hyp⟩ := m2_e hyp
  refine lv_iadd hx hb hd ?_
  rw [iN_add]
  exact hK _ _ _ hyp H locs ls hP hD hS hL
theorem so_isub (C : mCtx p s m args c dC dI cI cZ cc own nL) (hF : mFT own fT) (hk : mKT own kT) (hJ : mKJ own kJ) (hd : decode cc pc = .ok (.isub, len)) (hs : sane nL pc (.isub) len tg = true) (hK : ∀ L st h, K L st h → mG p l e R s m args below meth c Q dC dI cI cZ ad A H0 nL (pc + len) L st h) (hG : ∀ t L st h, G t L st h → mG p l e R s m args below meth c Q dC dI cI cZ ad A H0 nL t L st h) (hyp : stp fT kT kJ (.isub) tg pc L st h K G) : mG p l e R s m args below meth c Q dC dI cI cZ ad A H0 nL pc L st h := by
  obtain ⟨hx, hb, hown, hts, hw, hml, hnst⟩ := C
  obtain rfl : len = 1 := by simpa [sane] using hs
  intro H locs ls hP hD hS hL
  obtain ⟨a, b, r, rfl, hyp⟩ := m2_e hyp
  refine lv_isub hx hb hd ?_
  rw [iN_sub]
  exact hK _ _ _ hyp H locs ls hP hD hS hL
theorem so_imul (C : mCtx p s m args c dC dI cI cZ cc own nL) (hF : mFT own fT) (hk : mKT own kT) (hJ : mKJ own kJ) (hd : decode cc pc = .ok (.imul, len)) (hs : sane nL pc (.imul) len tg = true) (hK : ∀ L st h, K L st h → mG p l e R s m args below meth c Q dC dI cI cZ ad A H0 nL (pc + len) L st h) (hG : ∀ t L st h, G t L st h → mG p l e R s m args below meth c Q dC dI cI cZ ad A H0 nL t L st h) (hyp : stp fT kT kJ (.imul) tg pc L st h K G) : mG p l e R s m args below meth c Q dC dI cI cZ ad A H0 nL pc L st h := by
  obtain ⟨hx, hb, hown, hts, hw, hml, hnst⟩ := C
  obtain rfl : len = 1 := by simpa [sane] using hs
  intro H locs ls hP hD hS hL
  obtain ⟨a, b, r, rfl, hyp⟩ := m2_e hyp
  refine lv_imul hx hb hd ?_
  rw [iN_mul]
  exact hK _ _ _ hyp H locs ls hP hD hS hL
theorem so_ineg (C : mCtx p s m args c dC dI cI cZ cc own nL) (hF : mFT own fT) (hk : mKT own kT) (hJ : mKJ own kJ) (hd : decode cc pc = .ok (.ineg, len)) (hs : sane nL pc (.ineg) len tg = true) (hK : ∀ L st h, K L st h → mG p l e R s m args below meth c Q dC dI cI cZ ad A H0 nL (pc + len) L st h) (hG : ∀ t L st h, G t L st h → mG p l e R s m args below meth c Q dC dI cI cZ ad A H0 nL t L st h) (hyp : stp fT kT kJ (.ineg) tg pc L st h K G) : mG p l e R s m args below meth c Q dC dI cI cZ ad A H0 nL pc L st h := by
  obtain ⟨hx, hb, hown, hts, hw, hml, hnst⟩ := C
  obtain rfl : len = 1 := by simpa [sane] using hs
  intro H locs ls hP hD hS hL
  obtain ⟨a, r, rfl, hyp⟩ := m1_e hyp
  refine lv_ineg hx hb hd ?_
  rw [iN_neg]
  exact hK _ _ _ hyp H locs ls hP hD hS hL
theorem so_idiv (C : mCtx p s m args c dC dI cI cZ cc own nL) (hF : mFT own fT) (hk : mKT own kT) (hJ : mKJ own kJ) (hd : decode cc pc = .ok (.idiv, len)) (hs : sane nL pc (.idiv) len tg = true) (hK : ∀ L st h, K L st h → mG p l e R s m args below meth c Q dC dI cI cZ ad A H0 nL (pc + len) L st h) (hG : ∀ t L st h, G t L st h → mG p l e R s m args below meth c Q dC dI cI cZ ad A H0 nL t L st h) (hyp : stp fT kT kJ (.idiv) tg pc L st h K G) : mG p l e R s m args below meth c Q dC dI cI cZ ad A H0 nL pc L st h := by
  obtain ⟨hx, hb, hown, hts, hw, hml, hnst⟩ := C
  obtain rfl : len = 1 := by simpa [sane] using hs
  intro H locs ls hP hD hS hL
  obtain ⟨a, b, r, rfl, ⟨h1, h2⟩, hyp⟩ := m2_e hyp
  refine lv_idiv hx hb hd (iN_ne0 h2) ?_
  rw [iN_div h1 h2]
  exact hK _ _ _ hyp H locs ls hP hD hS hL
theorem so_irem (C : mCtx p s m args c dC dI cI cZ cc own nL) (hF : mFT own fT) (hk : mKT own kT) (hJ : mKJ own kJ) (hd : decode cc pc = .ok (.irem, len)) (hs : sane nL pc (.irem) len tg = true) (hK : ∀ L st h, K L st h → mG p l e R s m args below meth c Q dC dI cI cZ ad A H0 nL (pc + len) L st h) (hG : ∀ t L st h, G t L st h → mG p l e R s m args below meth c Q dC dI cI cZ ad A H0 nL t L st h) (hyp : stp fT kT kJ (.irem) tg pc L st h K G) : mG p l e R s m args below meth c Q dC dI cI cZ ad A H0 nL pc L st h := by
  obtain ⟨hx, hb, hown, hts, hw, hml, hnst⟩ := C
  obtain rfl : len = 1 := by simpa [sane] using hs
  intro H locs ls hP hD hS hL
  obtain ⟨a, b, r, rfl, ⟨h1, h2⟩, hyp⟩ := m2_e hyp
  refine lv_irem hx hb hd (iN_ne0 h2) ?_
  rw [iN_rem h1 h2]
  exact hK _ _ _ hyp H locs ls hP hD hS hL
theorem so_ishl (C : mCtx p s m args c dC dI cI cZ cc own nL) (hF : mFT own fT) (hk : mKT own kT) (hJ : mKJ own kJ) (hd : decode cc pc = .ok (.ishl, len)) (hs : sane nL pc (.ishl) len tg = true) (hK : ∀ L st h, K L st h → mG p l e R s m args below meth c Q dC dI cI cZ ad A H0 nL (pc + len) L st h) (hG : ∀ t L st h, G t L st h → mG p l e R s m args below meth c Q dC dI cI cZ ad A H0 nL t L st h) (hyp : stp fT kT kJ (.ishl) tg pc L st h K G) : mG p l e R s m args below meth c Q dC dI cI cZ ad A H0 nL pc L st h := by
  obtain ⟨hx, hb, hown, hts, hw, hml, hnst⟩ := C
  obtain rfl : len = 1 := by simpa [sane] using hs
  intro H locs ls hP hD hS hL
  obtain ⟨a, b, r, rfl, ⟨h1, h2, h3⟩, hyp⟩ := m2_e hyp
  refine lv_ishl hx hb hd ?_
  rw [iN_shl h1 h2 h3]
  exact hK _ _ _ hyp H locs ls hP hD hS hL
theorem so_ishr (C : mCtx p s m args c dC dI cI cZ cc own nL) (hF : mFT own fT) (hk : mKT own kT) (hJ : mKJ own kJ) (hd : decode cc pc = .ok (.ishr, len)) (hs : sane nL pc (.ishr) len tg = true) (hK : ∀ L st h, K L st h → mG p l e R s m args below meth c Q dC dI cI cZ ad A H0 nL (pc + len) L st h) (hG : ∀ t L st h, G t L st h → mG p l e R s m args below meth c Q dC dI cI cZ ad A H0 nL t L st h) (hyp : stp fT kT kJ (.ishr) tg pc L st h K G) : mG p l e R s m args below meth c Q dC dI cI cZ ad A H0 nL pc L st h := by
  obtain ⟨hx, hb, hown, hts, hw, hml, hnst⟩ := C
  obtain rfl : len = 1 := by simpa [sane] using hs
  intro H locs ls hP hD hS hL
  obtain ⟨a, b, r, rfl, ⟨h1, h2⟩, hyp⟩ := m2_e hyp
  refine lv_ishr hx hb hd ?_
  rw [iN_shr h1 h2]
  exact hK _ _ _ hyp H locs ls hP hD hS hL
theorem so_iushr (C : mCtx p s m args c dC dI cI cZ cc own nL) (hF : mFT own fT) (hk : mKT own kT) (hJ : mKJ own kJ) (hd : decode cc pc = .ok (.iushr, len)) (hs : sane nL pc (.iushr) len tg = true) (hK : ∀ L st h, K L st h → mG p l e R s m args below meth c Q dC dI cI cZ ad A H0 nL (pc + len) L st h) (hG : ∀ t L st h, G t L st h → mG p l e R s m args below meth c Q dC dI cI cZ ad A H0 nL t L st h) (hyp : stp fT kT kJ (.iushr) tg pc L st h K G) : mG p l e R s m args below meth c Q dC dI cI cZ ad A H0 nL pc L st h := by
  obtain ⟨hx, hb, hown, hts, hw, hml, hnst⟩ := C
  obtain rfl : len = 1 := by simpa [sane] using hs
  intro H locs ls hP hD hS hL
  obtain ⟨a, b, r, rfl, ⟨h1, h2⟩, hyp⟩ := m2_e hyp
  exact lv_iushr hx hb hd (iN_ushr h1 h2) (hK _ _ _ hyp H locs ls hP hD hS hL)
theorem so_iand (C : mCtx p s m args c dC dI cI cZ cc own nL) (hF : mFT own fT) (hk : mKT own kT) (hJ : mKJ own kJ) (hd : decode cc pc = .ok (.iand, len)) (hs : sane nL pc (.iand) len tg = true) (hK : ∀ L st h, K L st h → mG p l e R s m args below meth c Q dC dI cI cZ ad A H0 nL (pc + len) L st h) (hG : ∀ t L st h, G t L st h → mG p l e R s m args below meth c Q dC dI cI cZ ad A H0 nL t L st h) (hyp : stp fT kT kJ (.iand) tg pc L st h K G) : mG p l e R s m args below meth c Q dC dI cI cZ ad A H0 nL pc L st h := by
  obtain ⟨hx, hb, hown, hts, hw, hml, hnst⟩ := C
  obtain rfl : len = 1 := by simpa [sane] using hs
  intro H locs ls hP hD hS hL
  obtain ⟨a, b, r, rfl, ⟨h1, h2⟩, hyp⟩ := m2_e hyp
  refine lv_iand hx hb hd ?_
  rw [iN_and h1 h2]
  exact hK _ _ _ hyp H locs ls hP hD hS hL
theorem so_ior (C : mCtx p s m args c dC dI cI cZ cc own nL) (hF : mFT own fT) (hk : mKT own kT) (hJ : mKJ own kJ) (hd : decode cc pc = .ok (.ior, len)) (hs : sane nL pc (.ior) len tg = true) (hK : ∀ L st h, K L st h → mG p l e R s m args below meth c Q dC dI cI cZ ad A H0 nL (pc + len) L st h) (hG : ∀ t L st h, G t L st h → mG p l e R s m args below meth c Q dC dI cI cZ ad A H0 nL t L st h) (hyp : stp fT kT kJ (.ior) tg pc L st h K G) : mG p l e R s m args below meth c Q dC dI cI cZ ad A H0 nL pc L st h := by
  obtain ⟨hx, hb, hown, hts, hw, hml, hnst⟩ := C
  obtain rfl : len = 1 := by simpa [sane] using hs
  intro H locs ls hP hD hS hL
  obtain ⟨a, b, r, rfl, ⟨h1, h2⟩, hyp⟩ := m2_e hyp
  refine lv_ior hx hb hd ?_
  rw [iN_or h1 h2]
  exact hK _ _ _ hyp H locs ls hP hD hS hL
theorem so_i2l (C : mCtx p s m args c dC dI cI cZ cc own nL) (hF : mFT own fT) (hk : mKT own kT) (hJ : mKJ own kJ) (hd : decode cc pc = .ok (.i2l, len)) (hs : sane nL pc (.i2l) len tg = true) (hK : ∀ L st h, K L st h → mG p l e R s m args below meth c Q dC dI cI cZ ad A H0 nL (pc + len) L st h) (hG : ∀ t L st h, G t L st h → mG p l e R s m args below meth c Q dC dI cI cZ ad A H0 nL t L st h) (hyp : stp fT kT kJ (.i2l) tg pc L st h K G) : mG p l e R s m args below meth c Q dC dI cI cZ ad A H0 nL pc L st h := by
  obtain ⟨hx, hb, hown, hts, hw, hml, hnst⟩ := C
  obtain rfl : len = 1 := by simpa [sane] using hs
  intro H locs ls hP hD hS hL
  obtain ⟨a, r, rfl, h1, hyp⟩ := m1_e hyp
  exact lv_i2l hx hb hd (jN_i h1) (hK _ _ _ hyp H locs ls hP hD hS hL)
theorem so_l2i (C : mCtx p s m args c dC dI cI cZ cc own nL) (hF : mFT own fT) (hk : mKT own kT) (hJ : mKJ own kJ) (hd : decode cc pc = .ok (.l2i, len)) (hs : sane nL pc (.l2i) len tg = true) (hK : ∀ L st h, K L st h → mG p l e R s m args below meth c Q dC dI cI cZ ad A H0 nL (pc + len) L st h) (hG : ∀ t L st h, G t L st h → mG p l e R s m args below meth c Q dC dI cI cZ ad A H0 nL t L st h) (hyp : stp fT kT kJ (.l2i) tg pc L st h K G) : mG p l e R s m args below meth c Q dC dI cI cZ ad A H0 nL pc L st h := by
  obtain ⟨hx, hb, hown, hts, hw, hml, hnst⟩ := C
  obtain rfl : len = 1 := by simpa [sane] using hs
  intro H locs ls hP hD hS hL
  obtain ⟨a, r, rfl, h1, hyp⟩ := n1_e hyp
  exact lv_l2i hx hb hd (jN_t32 h1) (hK _ _ _ hyp H locs ls hP hD hS hL)
theorem so_ladd (C : mCtx p s m args c dC dI cI cZ cc own nL) (hF : mFT own fT) (hk : mKT own kT) (hJ : mKJ own kJ) (hd : decode cc pc = .ok (.ladd, len)) (hs : sane nL pc (.ladd) len tg = true) (hK : ∀ L st h, K L st h → mG p l e R s m args below meth c Q dC dI cI cZ ad A H0 nL (pc + len) L st h) (hG : ∀ t L st h, G t L st h → mG p l e R s m args below meth c Q dC dI cI cZ ad A H0 nL t L st h) (hyp : stp fT kT kJ (.ladd) tg pc L st h K G) : mG p l e R s m args below meth c Q dC dI cI cZ ad A H0 nL pc L st h := by
  obtain ⟨hx, hb, hown, hts, hw, hml, hnst⟩ := C
  obtain rfl : len = 1 := by simpa [sane] using hs
  intro H locs ls hP hD hS hL
  obtain ⟨a, b, r, rfl, hyp⟩ := n2_e hyp
  refine lv_ladd hx hb hd ?_
  rw [jN_add]
  exact hK _ _ _ hyp H locs ls hP hD hS hL
theorem so_lmul (C : mCtx p s m args c dC dI cI cZ cc own nL) (hF : mFT own fT) (hk : mKT own kT) (hJ : mKJ own kJ) (hd : decode cc pc = .ok (.lmul, len)) (hs : sane nL pc (.lmul) len tg = true) (hK : ∀ L st h, K L st h → mG p l e R s m args below meth c Q dC dI cI cZ ad A H0 nL (pc + len) L st h) (hG : ∀ t L st h, G t L st h → mG p l e R s m args below meth c Q dC dI cI cZ ad A H0 nL t L st h) (hyp : stp fT kT kJ (.lmul) tg pc L st h K G) : mG p l e R s m args below meth c Q dC dI cI cZ ad A H0 nL pc L st h := by
  obtain ⟨hx, hb, hown, hts, hw, hml, hnst⟩ := C
  obtain rfl : len = 1 := by simpa [sane] using hs
  intro H locs ls hP hD hS hL
  obtain ⟨a, b, r, rfl, hyp⟩ := n2_e hyp
  refine lv_lmul hx hb hd ?_
  rw [jN_mul]
  exact hK _ _ _ hyp H locs ls hP hD hS hL
theorem so_ldiv (C : mCtx p s m args c dC dI cI cZ cc own nL) (hF : mFT own fT) (hk : mKT own kT) (hJ : mKJ own kJ) (hd : decode cc pc = .ok (.ldiv, len)) (hs : sane nL pc (.ldiv) len tg = true) (hK : ∀ L st h, K L st h → mG p l e R s m args below meth c Q dC dI cI cZ ad A H0 nL (pc + len) L st h) (hG : ∀ t L st h, G t L st h → mG p l e R s m args below meth c Q dC dI cI cZ ad A H0 nL t L st h) (hyp : stp fT kT kJ (.ldiv) tg pc L st h K G) : mG p l e R s m args below meth c Q dC dI cI cZ ad A H0 nL pc L st h := by
  obtain ⟨hx, hb, hown, hts, hw, hml, hnst⟩ := C
  obtain rfl : len = 1 := by simpa [sane] using hs
  intro H locs ls hP hD hS hL
  obtain ⟨a, b, r, rfl, ⟨h1, h2, h3⟩, hyp⟩ := n2_e hyp
  refine lv_ldiv hx hb hd (jN_ne0 h2 h3) ?_
  rw [jN_div h1 h2 h3]
  exact hK _ _ _ hyp H locs ls hP hD hS hL
theorem so_lrem (C : mCtx p s m args c dC dI cI cZ cc own nL) (hF : mFT own fT) (hk : mKT own kT) (hJ : mKJ own kJ) (hd : decode cc pc = .ok (.lrem, len)) (hs : sane nL pc (.lrem) len tg = true) (hK : ∀ L st h, K L st h → mG p l e R s m args below meth c Q dC dI cI cZ ad A H0 nL (pc + len) L st h) (hG : ∀ t L st h, G t L st h → mG p l e R s m args below meth c Q dC dI cI cZ ad A H0 nL t L st h) (hyp : stp fT kT kJ (.lrem) tg pc L st h K G) : mG p l e R s m args below meth c Q dC dI cI cZ ad A H0 nL pc L st h := by
  obtain ⟨hx, hb, hown, hts, hw, hml, hnst⟩ := C
  obtain rfl : len = 1 := by simpa [sane] using hs
  intro H locs ls hP hD hS hL
  obtain ⟨a, b, r, rfl, ⟨h1, h2, h3⟩, hyp⟩ := n2_e hyp
  refine lv_lrem hx hb hd (jN_ne0 h2 h3) ?_
  rw [jN_rem h1 h2 h3]
  exact hK _ _ _ hyp H locs ls hP hD hS hL
theorem so_dup (C : mCtx p s m args c dC dI cI cZ cc own nL) (hF : mFT own fT) (hk : mKT own kT) (hJ : mKJ own kJ) (hd : decode cc pc = .ok (.dup, len)) (hs : sane nL pc (.dup) len tg = true) (hK : ∀ L st h, K L st h → mG p l e R s m args below meth c Q dC dI cI cZ ad A H0 nL (pc + len) L st h) (hG : ∀ t L st h, G t L st h → mG p l e R s m args below meth c Q dC dI cI cZ ad A H0 nL t L st h) (hyp : stp fT kT kJ (.dup) tg pc L st h K G) : mG p l e R s m args below meth c Q dC dI cI cZ ad A H0 nL pc L st h := by
  obtain ⟨hx, hb, hown, hts, hw, hml, hnst⟩ := C
  obtain rfl : len = 1 := by simpa [sane] using hs
  intro H locs ls hP hD hS hL
  unfold stp at hyp
  dsimp only at hyp
  split at hyp
  · exact lv_dup hx hb hd rfl (hK _ _ _ hyp H locs ls hP hD hS hL)
  · exact lv_dup hx hb hd (cV_cat1 (fun z q => by cases q)) (hK _ _ _ hyp H locs ls hP hD hS hL)
  · exact hyp.elim
theorem so_dup2 (C : mCtx p s m args c dC dI cI cZ cc own nL) (hF : mFT own fT) (hk : mKT own kT) (hJ : mKJ own kJ) (hd : decode cc pc = .ok (.dup2, len)) (hs : sane nL pc (.dup2) len tg = true) (hK : ∀ L st h, K L st h → mG p l e R s m args below meth c Q dC dI cI cZ ad A H0 nL (pc + len) L st h) (hG : ∀ t L st h, G t L st h → mG p l e R s m args below meth c Q dC dI cI cZ ad A H0 nL t L st h) (hyp : stp fT kT kJ (.dup2) tg pc L st h K G) : mG p l e R s m args below meth c Q dC dI cI cZ ad A H0 nL pc L st h := by
  obtain ⟨hx, hb, hown, hts, hw, hml, hnst⟩ := C
  obtain rfl : len = 1 := by simpa [sane] using hs
  intro H locs ls hP hD hS hL
  unfold stp at hyp
  dsimp only at hyp
  split at hyp
  · exact lv_dup2_11 hx hb hd rfl (cV_cat1 (fun z q => by cases q)) (hK _ _ _ hyp H locs ls hP hD hS hL)
  · exact hyp.elim
theorem so_goto {o : Int} (C : mCtx p s m args c dC dI cI cZ cc own nL) (hF : mFT own fT) (hk : mKT own kT) (hJ : mKJ own kJ) (hd : decode cc pc = .ok (.goto o, len)) (hs : sane nL pc (.goto o) len tg = true) (hK : ∀ L st h, K L st h → mG p l e R s m args below meth c Q dC dI cI cZ ad A H0 nL (pc + len) L st h) (hG : ∀ t L st h, G t L st h → mG p l e R s m args below meth c Q dC dI cI cZ ad A H0 nL t L st h) (hyp : stp fT kT kJ (.goto o) tg pc L st h K G) : mG p l e R s m args below meth c Q dC dI cI cZ ad A H0 nL pc L st h := by
  obtain ⟨hx, hb, hown, hts, hw, hml, hnst⟩ := C
  obtain ⟨rfl, hs2⟩ : len = 3 ∧ (pc : Int) + o = (tg : Int) := by simpa [sane] using hs
  intro H locs ls hP hD hS hL
  exact lv_goto hx hb hd hs2 (hG _ _ _ _ hyp H locs ls hP hD hS hL)
theorem so_if {cd : Jvm.ClassFile.Cond} {o : Int} (C : mCtx p s m args c dC dI cI cZ cc own nL) (hF : mFT own fT) (hk : mKT own kT) (hJ : mKJ own kJ) (hd : decode cc pc = .ok (.ifCond cd o, len)) (hs : sane nL pc (.ifCond cd o) len tg = true) (hK : ∀ L st h, K L st h → mG p l e R s m args below meth c Q dC dI cI cZ ad A H0 nL (pc + len) L st h) (hG : ∀ t L st h, G t L st h → mG p l e R s m args below meth c Q dC dI cI cZ ad A H0 nL t L st h) (hyp : stp fT kT kJ (.ifCond cd o) tg pc L st h K G) : mG p l e R s m args below meth c Q dC dI cI cZ ad A H0 nL pc L st h := by
  obtain ⟨hx, hb, hown, hts, hw, hml, hnst⟩ := C
  obtain ⟨rfl, hs2⟩ : len = 3 ∧ (pc : Int) + o = (tg : Int) := by simpa [sane] using hs
  intro H locs ls hP hD hS hL
  obtain ⟨a, r, rfl, hI, hyp⟩ := m1_e hyp
  have h0 : inI 0 := ⟨by omega, by omega⟩
  cases cd with
  | eq => exact lv_if_eq hx hb hd hs2 (fun q => hG _ _ _ _ (hyp.1 ((iN_eq hI h0).mp q)) H locs ls hP hD hS hL) (fun q => hK _ _ _ (hyp.2 (fun z => q ((iN_eq hI h0).mpr z))) H locs ls hP hD hS hL)
  | ne => exact lv_if_ne hx hb hd hs2 (fun q => hG _ _ _ _ (hyp.1 (fun z => q ((iN_eq hI h0).mpr z))) H locs ls hP hD hS hL) (fun q => hK _ _ _ (hyp.2 ((iN_eq hI h0).mp q)) H locs ls hP hD hS hL)
  | lt => exact lv_if_lt hx hb hd hs2 (fun q => hG _ _ _ _ (hyp.1 ((iN_lt hI h0).mp q)) H locs ls hP hD hS hL) (fun q => hK _ _ _ (hyp.2 (fun z => q ((iN_lt hI h0).mpr z))) H locs ls hP hD hS hL)
  | ge => exact lv_if_ge hx hb hd hs2 (fun q => hG _ _ _ _ (hyp.1 ((iN_le h0 hI).mp q)) H locs ls hP hD hS hL) (fun q => hK _ _ _ (hyp.2 (fun z => q ((iN_le h0 hI).mpr z))) H locs ls hP hD hS hL)
  | gt => exact lv_if_gt hx hb hd hs2 (fun q => hG _ _ _ _ (hyp.1 ((iN_lt h0 hI).mp q)) H locs ls hP hD hS hL) (fun q => hK _ _ _ (hyp.2 (fun z => q ((iN_lt h0 hI).mpr z))) H locs ls hP hD hS hL)
  | le => exact lv_if_le hx hb hd hs2 (fun q => hG _ _ _ _ (hyp.1 ((iN_le hI h0).mp q)) H locs ls hP hD hS hL) (fun q => hK _ _ _ (hyp.2 (fun z => q ((iN_le hI h0).mpr z))) H locs ls hP hD hS hL)
theorem so_icmp {cd : Jvm.ClassFile.Cond} {o : Int} (C : mCtx p s m args c dC dI cI cZ cc own nL) (hF : mFT own fT) (hk : mKT own kT) (hJ : mKJ own kJ) (hd : decode cc pc = .ok (.if_icmp cd o, len)) (hs : sane nL pc (.if_icmp cd o) len tg = true) (hK : ∀ L st h, K L st h → mG p l e R s m args below meth c Q dC dI cI cZ ad A H0 nL (pc + len) L st h) (hG : ∀ t L st h, G t L st h → mG p l e R s m args below meth c Q dC dI cI cZ ad A H0 nL t L st h) (hyp : stp fT kT kJ (.if_icmp cd o) tg pc L st h K G) : mG p l e R s m args below meth c Q dC dI cI cZ ad A H0 nL pc L st h := by
  obtain ⟨hx, hb, hown, hts, hw, hml, hnst⟩ := C
  obtain ⟨rfl, hs2⟩ : len = 3 ∧ (pc : Int) + o = (tg : Int) := by simpa [sane] using hs
  intro H locs ls hP hD hS hL
  obtain ⟨a, b, r, rfl, ⟨hI, hJ2⟩, hyp⟩ := m2_e hyp
  cases cd with
  | eq => exact lv_icmp_eq hx hb hd hs2 (fun q => hG _ _ _ _ (hyp.1 ((iN_eq hI hJ2).mp q)) H locs ls hP hD hS hL) (fun q => hK _ _ _ (hyp.2 (fun z => q ((iN_eq hI hJ2).mpr z))) H locs ls hP hD hS hL)
  | ne => exact lv_icmp_ne hx hb hd hs2 (fun q => hG _ _ _ _ (hyp.1 (fun z => q ((iN_eq hI hJ2).mpr z))) H locs ls hP hD hS hL) (fun q => hK _ _ _ (hyp.2 ((iN_eq hI hJ2).mp q)) H locs ls hP hD hS hL)
  | lt => exact lv_icmp_lt hx hb hd hs2 (fun q => hG _ _ _ _ (hyp.1 ((iN_lt hI hJ2).mp q)) H locs ls hP hD hS hL) (fun q => hK _ _ _ (hyp.2 (fun z => q ((iN_lt hI hJ2).mpr z))) H locs ls hP hD hS hL)
  | ge => exact lv_icmp_ge hx hb hd hs2 (fun q => hG _ _ _ _ (hyp.1 ((iN_le hJ2 hI).mp q)) H locs ls hP hD hS hL) (fun q => hK _ _ _ (hyp.2 (fun z => q ((iN_le hJ2 hI).mpr z))) H locs ls hP hD hS hL)
  | gt => exact lv_icmp_gt hx hb hd hs2 (fun q => hG _ _ _ _ (hyp.1 ((iN_lt hJ2 hI).mp q)) H locs ls hP hD hS hL) (fun q => hK _ _ _ (hyp.2 (fun z => q ((iN_lt hJ2 hI).mpr z))) H locs ls hP hD hS hL)
  | le => exact lv_icmp_le hx hb hd hs2 (fun q => hG _ _ _ _ (hyp.1 ((iN_le hI hJ2).mp q)) H locs ls hP hD hS hL) (fun q => hK _ _ _ (hyp.2 (fun z => q ((iN_le hI hJ2).mpr z))) H locs ls hP hD hS hL)
theorem so_getfield {n : Nat} (C : mCtx p s m args c dC dI cI cZ cc own nL) (hF : mFT own fT) (hk : mKT own kT) (hJ : mKJ own kJ) (hd : decode cc pc = .ok (.getfield n, len)) (hs : sane nL pc (.getfield n) len tg = true) (hK : ∀ L st h, K L st h → mG p l e R s m args below meth c Q dC dI cI cZ ad A H0 nL (pc + len) L st h) (hG : ∀ t L st h, G t L st h → mG p l e R s m args below meth c Q dC dI cI cZ ad A H0 nL t L st h) (hyp : stp fT kT kJ (.getfield n) tg pc L st h K G) : mG p l e R s m args below meth c Q dC dI cI cZ ad A H0 nL pc L st h := by
  obtain ⟨hx, hb, hown, hts, hw, hml, hnst⟩ := C
  obtain rfl : len = 3 := by simpa [sane] using hs
  intro H locs ls hP hD hS hL
  unfold stp at hyp
  dsimp only at hyp
  split at hyp
  · rename_i ci k tk a r hf
    split at hyp
    · rename_i cj fs hc
      split at hyp
      · rename_i v hv
        obtain ⟨rfl, hyp⟩ := hyp
        obtain ⟨C, T, N, t0, ty, g1, g2, g3, g4, g5, g6, g7, g8⟩ := hF _ _ hf
        exact va_get (Ts := mtb) hx hb hts g3 hown hw hP a (cW_get hc) g1 k g2 (hts _ g6) (fun _ z => z) (by rw [List.getElem?_map, hv]; rfl) hd (hK _ _ _ hyp H locs ls hP hD hS hL)
      · exact hyp.elim
    · exact hyp.elim
  · exact hyp.elim
theorem so_putfield {n : Nat} (C : mCtx p s m args c dC dI cI cZ cc own nL) (hF : mFT own fT) (hk : mKT own kT) (hJ : mKJ own kJ) (hd : decode cc pc = .ok (.putfield n, len)) (hs : sane nL pc (.putfield n) len tg = true) (hK : ∀ L st h, K L st h → mG p l e R s m args below meth c Q dC dI cI cZ ad A H0 nL (pc + len) L st h) (hG : ∀ t L st h, G t L st h → mG p l e R s m args below meth c Q dC dI cI cZ ad A H0 nL t L st h) (hyp : stp fT kT kJ (.putfield n) tg pc L st h K G) : mG p l e R s m args below meth c Q dC dI cI cZ ad A H0 nL pc L st h := by
  obtain ⟨hx, hb, hown, hts, hw, hml, hnst⟩ := C
  obtain rfl : len = 3 := by simpa [sane] using hs
  intro H locs ls hP hD hS hL
  unfold stp at hyp
  dsimp only at hyp
  split at hyp
  · rename_i ci k tk v a r hf
    split at hyp
    · rename_i cj fs hc
      obtain ⟨⟨rfl, hlt, hfit⟩, hyp⟩ := hyp
      obtain ⟨C, T, N, t0, ty, g1, g2, g3, g4, g5, g6, g7, g8⟩ := hF _ _ hf
      have hn : narrow ty (cV ad v) = cV ad v ∧ fits ty (cV ad v) = true ∧ (T k).2.2.2 = false := by
        dsimp only at g8
        unfold mfit at hfit
        split at hfit
        · exact ⟨by rw [g8.1]; rfl, by rw [g8.1]; rfl, g8.2⟩
        · rcases hfit with rfl | rfl
          · exact ⟨by rw [g8.1]; exact (show narrow .boolean (.int (iN 0)) = .int (iN 0) by decide), by rw [g8.1]; rfl, g8.2⟩
          · exact ⟨by rw [g8.1]; exact (show narrow .boolean (.int (iN 1)) = .int (iN 1) by decide), by rw [g8.1]; rfl, g8.2⟩
        · exact ⟨by rw [g8.1]; rfl, by rw [g8.1]; rfl, g8.2⟩
        · rcases g8.1 with ⟨D, g9⟩ | g9
          · exact ⟨by rw [g9]; rfl, by rw [g9]; rfl, g8.2⟩
          · exact ⟨by rw [g9]; rfl, by rw [g9]; rfl, g8.2⟩
        · exact hfit.elim
      refine va_put (Ts := mtb) hx hb hts g3 t0 g4 g5 hown hw hP hD hS a (cW_get hc) g1 k g2 (hts _ g6) (fun _ z => z) hn.2.2 g7 hn.1 hn.2.1 (by rw [List.length_map]; exact hlt) hd (fun H1 locs1 hP1 hD1 hS1 => ?_)
      have e : (cW ad cI cZ h).set a (ad a, .inr (cj, (fs.map (cV ad)).set k (cV ad v))) = cW ad cI cZ (h.set a (.inl (cj, fs.set k v))) := by
        rw [cW_set, ← List.map_set]; rfl
      rw [e] at hP1 hD1
      exact hK _ _ _ hyp H1 locs1 ls hP1 hD1 hS1 hL
    · exact hyp.elim
  · exact hyp.elim
theorem so_iaload (C : mCtx p s m args c dC dI cI cZ cc own nL) (hF : mFT own fT) (hk : mKT own kT) (hJ : mKJ own kJ) (hd : decode cc pc = .ok (.iaload, len)) (hs : sane nL pc (.iaload) len tg = true) (hK : ∀ L st h, K L st h → mG p l e R s m args below meth c Q dC dI cI cZ ad A H0 nL (pc + len) L st h) (hG : ∀ t L st h, G t L st h → mG p l e R s m args below meth c Q dC dI cI cZ ad A H0 nL t L st h) (hyp : stp fT kT kJ (.iaload) tg pc L st h K G) : mG p l e R s m args below meth c Q dC dI cI cZ ad A H0 nL pc L st h := by
  obtain ⟨hx, hb, hown, hts, hw, hml, hnst⟩ := C
  obtain rfl : len = 1 := by simpa [sane] using hs
  intro H locs ls hP hD hS hL
  unfold stp at hyp
  dsimp only at hyp
  split at hyp
  · split at hyp
    · rename_i n f hc
      obtain ⟨⟨h1, h2, h3⟩, hyp⟩ := hyp
      obtain ⟨h4, h5⟩ := iN_in h2 h3 h1
      refine va_iald hx hb hw hP _ 0 (cW_get hc) rfl h4 hd ?_
      rw [h5]
      exact hK _ _ _ hyp H locs ls hP hD hS hL
    · exact hyp.elim
  · exact hyp.elim
theorem so_baload (C : mCtx p s m args c dC dI cI cZ cc own nL) (hF : mFT own fT) (hk : mKT own kT) (hJ : mKJ own kJ) (hd : decode cc pc = .ok (.baload, len)) (hs : sane nL pc (.baload) len tg = true) (hK : ∀ L st h, K L st h → mG p l e R s m args below meth c Q dC dI cI cZ ad A H0 nL (pc + len) L st h) (hG : ∀ t L st h, G t L st h → mG p l e R s m args below meth c Q dC dI cI cZ ad A H0 nL t L st h) (hyp : stp fT kT kJ (.baload) tg pc L st h K G) : mG p l e R s m args below meth c Q dC dI cI cZ ad A H0 nL pc L st h := by
  obtain ⟨hx, hb, hown, hts, hw, hml, hnst⟩ := C
  obtain rfl : len = 1 := by simpa [sane] using hs
  intro H locs ls hP hD hS hL
  unfold stp at hyp
  dsimp only at hyp
  split at hyp
  · split at hyp
    · rename_i n f hc
      obtain ⟨⟨h1, h2, h3⟩, hyp⟩ := hyp
      obtain ⟨h4, h5⟩ := iN_in h2 h3 h1
      refine va_zald hx hb hw hP _ 1 (cW_get hc) rfl h4 hd ?_
      rw [h5]
      exact hK _ _ _ hyp H locs ls hP hD hS hL
    · exact hyp.elim
  · exact hyp.elim
theorem so_iastore (C : mCtx p s m args c dC dI cI cZ cc own nL) (hF : mFT own fT) (hk : mKT own kT) (hJ : mKJ own kJ) (hd : decode cc pc = .ok (.iastore, len)) (hs : sane nL pc (.iastore) len tg = true) (hK : ∀ L st h, K L st h → mG p l e R s m args below meth c Q dC dI cI cZ ad A H0 nL (pc + len) L st h) (hG : ∀ t L st h, G t L st h → mG p l e R s m args below meth c Q dC dI cI cZ ad A H0 nL t L st h) (hyp : stp fT kT kJ (.iastore) tg pc L st h K G) : mG p l e R s m args below meth c Q dC dI cI cZ ad A H0 nL pc L st h := by
  obtain ⟨hx, hb, hown, hts, hw, hml, hnst⟩ := C
  obtain rfl : len = 1 := by simpa [sane] using hs
  intro H locs ls hP hD hS hL
  unfold stp at hyp
  dsimp only at hyp
  split at hyp
  · rename_i v i a r
    split at hyp
    · rename_i n f hc
      obtain ⟨⟨h1, h2, h3⟩, hyp⟩ := hyp
      obtain ⟨h4, h5⟩ := iN_in h2 h3 h1
      refine va_iast hx hb hw hP hD hS _ 0 (cW_get hc) rfl h4 hd (fun H1 locs1 hP1 hD1 hS1 => ?_)
      have e : (cW ad cI cZ h).set a (ad a, .inl (cond false cZ cI, n, .inl (upd (fun j => iN (f j)) (iN i).toNatClampNeg (iN v)))) = cW ad cI cZ (h.set a (.inr (false, n, mup f i.toNat v))) := by
        rw [cW_set, cC_arr, h5]
      rw [e] at hP1 hD1
      exact hK _ _ _ hyp H1 locs1 ls hP1 hD1 hS1 hL
    · exact hyp.elim
  · exact hyp.elim
theorem so_bastore (C : mCtx p s m args c dC dI cI cZ cc own nL) (hF : mFT own fT) (hk : mKT own kT) (hJ : mKJ own kJ) (hd : decode cc pc = .ok (.bastore, len)) (hs : sane nL pc (.bastore) len tg = true) (hK : ∀ L st h, K L st h → mG p l e R s m args below meth c Q dC dI cI cZ ad A H0 nL (pc + len) L st h) (hG : ∀ t L st h, G t L st h → mG p l e R s m args below meth c Q dC dI cI cZ ad A H0 nL t L st h) (hyp : stp fT kT kJ (.bastore) tg pc L st h K G) : mG p l e R s m args below meth c Q dC dI cI cZ ad A H0 nL pc L st h := by
  obtain ⟨hx, hb, hown, hts, hw, hml, hnst⟩ := C
  obtain rfl : len = 1 := by simpa [sane] using hs
  intro H locs ls hP hD hS hL
  unfold stp at hyp
  dsimp only at hyp
  split at hyp
  · rename_i v i a r
    split at hyp
    · rename_i n f hc
      obtain ⟨⟨h0, h1, h2, h3⟩, hyp⟩ := hyp
      obtain ⟨h4, h5⟩ := iN_in h2 h3 h1
      refine va_zast hx hb hw hP hD hS _ 1 (cW_get hc) rfl h4 hd (fun H1 locs1 hP1 hD1 hS1 => ?_)
      have e0 : vp_nar .boolean (iN v) = iN v := by rcases h0 with rfl | rfl <;> decide
      rw [e0] at hP1 hD1
      have e : (cW ad cI cZ h).set a (ad a, .inl (cond true cZ cI, n, .inl (upd (fun j => iN (f j)) (iN i).toNatClampNeg (iN v)))) = cW ad cI cZ (h.set a (.inr (true, n, mup f i.toNat v))) := by
        rw [cW_set, cC_arr, h5]
      rw [e] at hP1 hD1
      exact hK _ _ _ hyp H1 locs1 ls hP1 hD1 hS1 hL
    · exact hyp.elim
  · exact hyp.elim
theorem so_alen (C : mCtx p s m args c dC dI cI cZ cc own nL) (hF : mFT own fT) (hk : mKT own kT) (hJ : mKJ own kJ) (hd : decode cc pc = .ok (.arraylength, len)) (hs : sane nL pc (.arraylength) len tg = true) (hK : ∀ L st h, K L st h → mG p l e R s m args below meth c Q dC dI cI cZ ad A H0 nL (pc + len) L st h) (hG : ∀ t L st h, G t L st h → mG p l e R s m args below meth c Q dC dI cI cZ ad A H0 nL t L st h) (hyp : stp fT kT kJ (.arraylength) tg pc L st h K G) : mG p l e R s m args below meth c Q dC dI cI cZ ad A H0 nL pc L st h := by
  obtain ⟨hx, hb, hown, hts, hw, hml, hnst⟩ := C
  obtain rfl : len = 1 := by simpa [sane] using hs
  intro H locs ls hP hD hS hL
  unfold stp at hyp
  dsimp only at hyp
  split at hyp
  · split at hyp
    · rename_i b n f hc
      obtain ⟨h1, hyp⟩ := hyp
      cases b with
      | false => exact va_alen hx hb hw hP _ 0 (cW_get hc) rfl (iN_n n).symm hd (hK _ _ _ hyp H locs ls hP hD hS hL)
      | true => exact va_alen hx hb hw hP _ 1 (cW_get hc) rfl (iN_n n).symm hd (hK _ _ _ hyp H locs ls hP hD hS hL)
    · exact hyp.elim
  · exact hyp.elim
theorem so_tsw {d lo hi : Int} {os : Array Int} (C : mCtx p s m args c dC dI cI cZ cc own nL) (hF : mFT own fT) (hk : mKT own kT) (hJ : mKJ own kJ) (hd : decode cc pc = .ok (.tableswitch d lo hi os, len)) (hs : sane nL pc (.tableswitch d lo hi os) len tg = true) (hK : ∀ L st h, K L st h → mG p l e R s m args below meth c Q dC dI cI cZ ad A H0 nL (pc + len) L st h) (hG : ∀ t L st h, G t L st h → mG p l e R s m args below meth c Q dC dI cI cZ ad A H0 nL t L st h) (hyp : stp fT kT kJ (.tableswitch d lo hi os) tg pc L st h K G) : mG p l e R s m args below meth c Q dC dI cI cZ ad A H0 nL pc L st h := by
  obtain ⟨hx, hb, hown, hts, hw, hml, hnst⟩ := C
  intro H locs ls hP hD hS hL
  obtain ⟨z, r, rfl, hI, h1, h2⟩ := m1_e hyp
  obtain ⟨s1, s2, s3, s4, s5⟩ : 0 ≤ (pc : Int) + d ∧ inI lo ∧ inI hi ∧ hi - lo + 1 = os.size ∧ ∀ o ∈ os.toList, 0 ≤ (pc : Int) + o := by
    unfold sane at hs; exact of_decide_eq_true hs
  by_cases hz : z < lo ∨ hi < z
  · exact lv_tableOut (tgt := ((pc : Int) + d).toNat) hx hb hd (by rw [iN_t hI]; exact hz) (Int.toNat_of_nonneg s1).symm (hG _ _ _ _ (h1 hz) H locs ls hP hD hS hL)
  · have hb1 : (z - lo).toNat < os.toList.length := by rw [Array.length_toList]; omega
    have hg : os.toList[(z - lo).toNat]? = some (os.toList[(z - lo).toNat]) := List.getElem?_eq_getElem hb1
    have h0 := s5 _ (List.getElem_mem hb1)
    exact lv_tableIn (tgt := ((pc : Int) + os.toList[(z - lo).toNat]).toNat) hx hb hd (by rw [iN_t hI]; omega) (by rw [iN_t hI]; omega) (by rw [iN_t hI, ← Array.getElem?_toList]; exact hg) (Int.toNat_of_nonneg h0).symm (hG _ _ _ _ (mtsw_e h2 _ _ hg (by omega)) H locs ls hP hD hS hL)
theorem so_lsw {d : Int} {ps : Array (Int × Int)} (C : mCtx p s m args c dC dI cI cZ cc own nL) (hF : mFT own fT) (hk : mKT own kT) (hJ : mKJ own kJ) (hd : decode cc pc = .ok (.lookupswitch d ps, len)) (hs : sane nL pc (.lookupswitch d ps) len tg = true) (hK : ∀ L st h, K L st h → mG p l e R s m args below meth c Q dC dI cI cZ ad A H0 nL (pc + len) L st h) (hG : ∀ t L st h, G t L st h → mG p l e R s m args below meth c Q dC dI cI cZ ad A H0 nL t L st h) (hyp : stp fT kT kJ (.lookupswitch d ps) tg pc L st h K G) : mG p l e R s m args below meth c Q dC dI cI cZ ad A H0 nL pc L st h := by
  obtain ⟨hx, hb, hown, hts, hw, hml, hnst⟩ := C
  intro H locs ls hP hD hS hL
  obtain ⟨z, r, rfl, hI, h1, h2⟩ := m1_e hyp
  have hs' := hs
  unfold sane at hs'
  simp only [Bool.and_eq_true, decide_eq_true_eq] at hs'
  obtain ⟨⟨s1, s2⟩, s3⟩ := hs'
  have key : ∀ l : List (Int × Int), (∃ q ∈ l, z = q.1 ∧ Op.lookupswitch.offset l d z = q.2) ∨ ((∀ q ∈ l, z ≠ q.1) ∧ Op.lookupswitch.offset l d z = d) := by
    intro l
    induction l with
    | nil => exact Or.inr ⟨fun q hq => (List.not_mem_nil hq).elim, rfl⟩
    | cons a l ih =>
      obtain ⟨k, o⟩ := a
      show (∃ q ∈ (k, o) :: l, z = q.1 ∧ (if k = z then o else Op.lookupswitch.offset l d z) = q.2) ∨ ((∀ q ∈ (k, o) :: l, z ≠ q.1) ∧ (if k = z then o else Op.lookupswitch.offset l d z) = d)
      by_cases hk1 : k = z
      · exact Or.inl ⟨(k, o), List.mem_cons_self, hk1.symm, by rw [if_pos hk1]⟩
      · rw [if_neg hk1]
        rcases ih with ⟨q, hq, e1, e2⟩ | ⟨e1, e2⟩
        · exact Or.inl ⟨q, List.mem_cons_of_mem _ hq, e1, e2⟩
        · refine Or.inr ⟨fun q hq => ?_, e2⟩
          rcases List.mem_cons.mp hq with rfl | hq
          · exact fun z1 => hk1 z1.symm
          · exact e1 q hq
  rcases key ps.toList with ⟨q, hq, hz, ho⟩ | ⟨hz, ho⟩
  · exact lv_lookup (tgt := ((pc : Int) + q.2).toNat) hx hb hd s3 (by rw [iN_t hI]; exact ho) (Int.toNat_of_nonneg (s2 q hq).1).symm (hG _ _ _ _ (mlsw_e h2 q hq hz) H locs ls hP hD hS hL)
  · exact lv_lookup (tgt := ((pc : Int) + d).toNat) hx hb hd s3 (by rw [iN_t hI]; exact ho) (Int.toNat_of_nonneg s1).symm (hG _ _ _ _ (h1 hz) H locs ls hP hD hS hL)
theorem stp_sound {i : Instr} (C : mCtx p s m args c dC dI cI cZ cc own nL) (hF : mFT own fT) (hk : mKT own kT) (hJ : mKJ own kJ) (hd : decode cc pc = .ok (i, len)) (hs : sane nL pc i len tg = true) (hK : ∀ L st h, K L st h → mG p l e R s m args below meth c Q dC dI cI cZ ad A H0 nL (pc + len) L st h) (hG : ∀ t L st h, G t L st h → mG p l e R s m args below meth c Q dC dI cI cZ ad A H0 nL t L st h) (hyp : stp fT kT kJ i tg pc L st h K G) : mG p l e R s m args below meth c Q dC dI cI cZ ad A H0 nL pc L st h := by
  cases i with
  | iconst => exact so_iconst C hF hk hJ hd hs hK hG hyp
  | bipush => exact so_bipush C hF hk hJ hd hs hK hG hyp
  | sipush => exact so_sipush C hF hk hJ hd hs hK hG hyp
  | ldc => exact so_ldc C hF hk hJ hd hs hK hG hyp
  | ldc_w => exact so_ldcw C hF hk hJ hd hs hK hG hyp
  | lconst => exact so_lconst C hF hk hJ hd hs hK hG hyp
  | ldc2_w => exact so_ldc2 C hF hk hJ hd hs hK hG hyp
  | iload => exact so_iload C hF hk hJ hd hs hK hG hyp
  | iload_n => exact so_iload_n C hF hk hJ hd hs hK hG hyp
  | lload => exact so_lload C hF hk hJ hd hs hK hG hyp
  | lload_n => exact so_lload_n C hF hk hJ hd hs hK hG hyp
  | aload => exact so_aload C hF hk hJ hd hs hK hG hyp
  | aload_n => exact so_aload_n C hF hk hJ hd hs hK hG hyp
  | istore => exact so_istore C hF hk hJ hd hs hK hG hyp
  | istore_n => exact so_istore_n C hF hk hJ hd hs hK hG hyp
  | lstore => exact so_lstore C hF hk hJ hd hs hK hG hyp
  | lstore_n => exact so_lstore_n C hF hk hJ hd hs hK hG hyp
  | astore => exact so_astore C hF hk hJ hd hs hK hG hyp
  | astore_n => exact so_astore_n C hF hk hJ hd hs hK hG hyp
  | iinc => exact so_iinc C hF hk hJ hd hs hK hG hyp
  | iadd => exact so_iadd C hF hk hJ hd hs hK hG hyp
  | isub => exact so_isub C hF hk hJ hd hs hK hG hyp
  | imul => exact so_imul C hF hk hJ hd hs hK hG hyp
  | ineg => exact so_ineg C hF hk hJ hd hs hK hG hyp
  | idiv => exact so_idiv C hF hk hJ hd hs hK hG hyp
  | irem => exact so_irem C hF hk hJ hd hs hK hG hyp
  | ishl => exact so_ishl C hF hk hJ hd hs hK hG hyp
  | ishr => exact so_ishr C hF hk hJ hd hs hK hG hyp
  | iushr => exact so_iushr C hF hk hJ hd hs hK hG hyp
  | iand => exact so_iand C hF hk hJ hd hs hK hG hyp
  | ior => exact so_ior C hF hk hJ hd hs hK hG hyp
  | i2l => exact so_i2l C hF hk hJ hd hs hK hG hyp
  | l2i => exact so_l2i C hF hk hJ hd hs hK hG hyp
  | ladd => exact so_ladd C hF hk hJ hd hs hK hG hyp
  | lmul => exact so_lmul C hF hk hJ hd hs hK hG hyp
  | ldiv => exact so_ldiv C hF hk hJ hd hs hK hG hyp
  | lrem => exact so_lrem C hF hk hJ hd hs hK hG hyp
  | dup => exact so_dup C hF hk hJ hd hs hK hG hyp
  | dup2 => exact so_dup2 C hF hk hJ hd hs hK hG hyp
  | goto => exact so_goto C hF hk hJ hd hs hK hG hyp
  | ifCond => exact so_if C hF hk hJ hd hs hK hG hyp
  | if_icmp => exact so_icmp C hF hk hJ hd hs hK hG hyp
  | getfield => exact so_getfield C hF hk hJ hd hs hK hG hyp
  | putfield => exact so_putfield C hF hk hJ hd hs hK hG hyp
  | iaload => exact so_iaload C hF hk hJ hd hs hK hG hyp
  | baload => exact so_baload C hF hk hJ hd hs hK hG hyp
  | iastore => exact so_iastore C hF hk hJ hd hs hK hG hyp
  | bastore => exact so_bastore C hF hk hJ hd hs hK hG hyp
  | arraylength => exact so_alen C hF hk hJ hd hs hK hG hyp
  | tableswitch => exact so_tsw C hF hk hJ hd hs hK hG hyp
  | lookupswitch => exact so_lsw C hF hk hJ hd hs hK hG hyp
  | _ => exact hG _ _ _ _ hyp
theorem blk_sound (C : mCtx p s m args c dC dI cI cZ cc own nL) (hF : mFT own fT) (hk : mKT own kT) (hJ : mKJ own kJ) : ∀ (l1 : List mI) (pc : Nat) (L : mL) (st : List mV) (h : mH), okb cc nL pc l1 = true → blk fT kT kJ (mG p l e R s m args below meth c Q dC dI cI cZ ad A H0 nL) pc l1 L st h → mG p l e R s m args below meth c Q dC dI cI cZ ad A H0 nL pc L st h
  | [], _, _, _, _, _, hyp => hyp
  | (i, len, tg) :: r, pc, L, st, h, ho, hyp => by
    obtain ⟨h1, h2, h3⟩ := okb_head ho
    exact stp_sound C hF hk hJ h1 h2 (fun L st h q => blk_sound C hF hk hJ r (pc + len) L st h h3 q) (fun t L st h q => q) hyp
end SO
