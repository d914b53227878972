/-! the law's start -/
section LN
variable {p : Program} {l : Launch} {e : Env} {s : State} {m : MethodId} {below : List Frame} {meth : Method} {c : Code} {b L : Nat} {xs : Nat → Int32}
variable {dC : Nat → ClassId} {dI : Nat → Nat → Nat} {cI cZ : ClassId}
/-- an object made by the law -/
theorem lNew (C : lCtx p s m meth c b L xs dC dI cI cZ) {ex : State → Prop} {Cn : String} {T : u_T} {N ci idx1 idx2 d' mc ms k n pc : Nat} {fs : List mV} {y : MethodName} {b1 : ByteArray} {out : mH} (hcl : mcl[ci]? = some (Cn, T, N)) (hin : ∀ w ∈ u_ws Cn T N, w ∈ mtb) (ty : Nat → FieldType) (hty : ∀ k, k < N → parseFieldDescriptor (T k).2.2.1 = some (ty k)) (hclk : Cond.classLink R_law idx1 Cn ∈ mtb) (hinst : Cond.instantiable Cn N ∈ mtb) (hini : Cond.initialized Cn ∈ mtb) (hfs : ∀ ad : Nat → Nat, ∀ j, j < N → defaultValue (ty j) = vp_V (fs.map (cV ad)) j) (hc : cref 0 (.inl (ci, fs)) = true) (hf : cfA y b1) (hlk : Cond.methodLink R_law idx2 y ∈ mtb) (hex1 : ∀ (a : Array Value) (U : State) (g : JFrame) (mk : MethodId), ex U → ex (U.calling g mk a)) (hex2 : ∀ U, s.WarmedH U.vm → ex U) (hsp : SpN l ex d' mc ms y b1 (.inl (ci, fs)) out) (hR : d' + 1 ≤ 10 ∧ 32 * d' ≤ 366) (hR1 : k + 1 ≤ 43 ∧ n + N ≤ 7519) (hR2 : k + 1 + mc ≤ 43 ∧ n + N + ms ≤ 7519) (d0 : decode code pc = .ok (.new idx1, 3)) (d1 : decode code (pc + 3) = .ok (.dup, 1)) (d2 : decode code (pc + 3 + 1) = .ok (.invokespecial idx2, 3))
    {w : va_W} {H : Heap} {locs : List Loc} {ls : Array Slot} {lv : List (Nat × Value)} (hP : va_P (dC, dI) mcl w H) (hD : va_D (lA s) w) (hS : va_S (lA s) s.heap H locs) (hl : lv_has ls 4 lv)
    (kk : ∀ (u : Nat → Nat) (H1 : Heap) (locs1 : List Loc), va_P (dC, dI) mcl (w ++ cW u cI cZ out) H1 → va_D (lA s) (w ++ cW u cI cZ out) → va_S (lA s) s.heap H1 locs1 → W p l e room_1 s m #[Value.ref b] below meth c H1 locs1 (k + 1 + mc) (n + N + ms) (lw_Z below #[Value.ref b] s) (F0 m (pc + 3 + 1 + 3) ls [.ref (u 0)])) : W p l e room_1 s m #[Value.ref b] below meth c H locs k n (lw_Z below #[Value.ref b] s) (F0 m pc ls []) := by
  obtain ⟨hx, hb, hown, hts, hK, hml, hnst, hX, hbl⟩ := C
  obtain ⟨f1, f2, f3, f4, f5⟩ := hf
  refine va_new (ci := ci) (fs := fs.map (cV (fun _ => 0))) (C := Cn) (T := T) (N := N) hx hb hts hin ty hty hown (hts _ hclk) (hts _ hinst) (hts _ hini) hK hP hD hS (fun q h => h) hcl (hfs _) hR1.1 hR1.2 d0 (fun q H1 hP1 hD1 hS1 => ?_)
  have ew : ([(q, .inr (ci, fs.map (cV (fun _ => 0))))] : va_W) = cW (fun _ => q) cI cZ [.inl (ci, fs)] := by
    show [(q, cC (fun _ => 0) cI cZ (.inl (ci, fs)))] = [(q, cC (fun _ => q) cI cZ (.inl (ci, fs)))]
    rw [cC_cg (n := 0) (ad := fun _ => 0) (ad' := fun _ => q) (fun i hi => absurd hi (Nat.not_lt_zero _)) hc]
  rw [ew] at hP1 hD1
  refine lv_dup hx hb d1 rfl ?_
  have hFc := fr_free hD1.comm hS1 (fun q h => h)
  have hG : GoodIn mtb (mws y b1 1 none) := tbl_in (fun w hw => by
    rcases List.mem_cons.mp hw with rfl | hw
    · exact f2
    · exact hw)
  have hp : PreS s H1 (nPre ex dC dI cI cZ (fun _ => q) H1.size (.inl (ci, fs))) [Value.ref q] := ⟨nFB hex1, fun U hU hW => ⟨rfl, by rw [hU], by rw [hU]; exact hP1.comm.left, va_K.moved hW.alike hK, hD1.right.weaken (fun _ _ _ _ => trivial), hnst.warm hW, hex2 U hW⟩⟩
  refine va_callv (va_runI (As := []) (rest := [.ref q]) (b := q) ⟨hx, hb, hml, hown, hts⟩ (hsp dC dI cI cZ (fun _ => q) H1.size) ⟨callB_of 0 hts hG rfl rfl rfl (hts _ f1) (hts _ hlk) f3 (by show d' + 1 ≤ 10 ∧ 8 + (1 + 11) + 32 * d' ≤ 386; omega), f4, hts _ f5⟩ hp rfl rfl hl.1 rfl (lv_room (Nat.le_of_ble_eq_true rfl)) d2 hR2) hS1 (fun q _ h => hFc q h) hFc (fun u t H2 locs2 ht hvm hu hB hz1 hk1 hS2 => ?_)
  obtain ⟨hP2, hK2, hD2⟩ := hB
  rw [ht] at hP2
  have hn := fr_right hP1 hD1 hk1 hFc hP2 hD2
  have g := kk u H2 locs2 hn.1 hn.2 hS2
  rw [hu] at g
  exact g
end LN
theorem arr_known {args : Array Value} {s : State} {ty : FieldType} (h : (Cond.arrayClass ty).before args s = true) : ∃ cA, ArrOfT s cA ty ∧ s.vm.findClass ("[" ++ ty.toString) = some cA := by
  obtain ⟨cA, kA, comp, h1, h2, h3⟩ := Cond.arrayClass_spec h
  exact ⟨cA, fun n z => ⟨fun k h => (by cases h), kA, h2, comp, h3⟩, h1⟩
theorem mcl_known {args : Array Value} {s : State} (htm : ∀ w ∈ mtb, w.before args s = true) : ∃ (dC : Nat → ClassId) (dI : Nat → Nat → Nat), ∀ (k : Nat) (q : vw_C), (mcl : List vw_C)[k]? = some q → u_Kn s q.1 q.2.1 q.2.2 (dC k) (dI k) := by
  have h : ∀ k : Nat, ∃ x : ClassId × (Nat → Nat), ∀ q : vw_C, (mcl : List vw_C)[k]? = some q → u_Kn s q.1 q.2.1 q.2.2 x.1 x.2 := by
    intro k
    match k with
    | 0 =>
      obtain ⟨c0, i0, h0⟩ := u_known (C := RX0) (T := TX0) (N := 4) (n := 4) htm uw_X0 (htm _ (mtb_in (List.mem_of_getElem? (i := 252) (by decide +kernel)) rfl))
      exact ⟨(c0, i0), fun q hq => by cases hq; exact h0⟩
    | 1 =>
      obtain ⟨c0, i0, h0⟩ := u_known (C := RX1) (T := TX1) (N := 5) (n := 5) htm uw_X1 (htm _ (mtb_in (List.mem_of_getElem? (i := 227) (by decide +kernel)) rfl))
      exact ⟨(c0, i0), fun q hq => by cases hq; exact h0⟩
    | 2 =>
      obtain ⟨c0, i0, h0⟩ := u_known (C := RX2) (T := TX2) (N := 5) (n := 5) htm uw_X2 (htm _ (mtb_in (List.mem_of_getElem? (i := 203) (by decide +kernel)) rfl))
      exact ⟨(c0, i0), fun q hq => by cases hq; exact h0⟩
    | 3 =>
      obtain ⟨c0, i0, h0⟩ := u_known (C := RX3) (T := TX3) (N := 3) (n := 3) htm uw_X3 (htm _ (mtb_in (List.mem_of_getElem? (i := 185) (by decide +kernel)) rfl))
      exact ⟨(c0, i0), fun q hq => by cases hq; exact h0⟩
    | 4 =>
      obtain ⟨c0, i0, h0⟩ := u_known (C := RX4) (T := TX4) (N := 10) (n := 10) htm uw_X4 (htm _ (mtb_in (List.mem_of_getElem? (i := 89) (by decide +kernel)) rfl))
      exact ⟨(c0, i0), fun q hq => by cases hq; exact h0⟩
    | 5 =>
      obtain ⟨c0, i0, h0⟩ := u_known (C := RX5) (T := TX5) (N := 9) (n := 9) htm uw_X5 (htm _ (mtb_in (List.mem_of_getElem? (i := 128) (by decide +kernel)) rfl))
      exact ⟨(c0, i0), fun q hq => by cases hq; exact h0⟩
    | 6 =>
      obtain ⟨c0, i0, h0⟩ := u_known (C := RX6) (T := TX6) (N := 10) (n := 10) htm uw_X6 (htm _ (mtb_in (List.mem_of_getElem? (i := 81) (by decide +kernel)) rfl))
      exact ⟨(c0, i0), fun q hq => by cases hq; exact h0⟩
    | 7 =>
      obtain ⟨c0, i0, h0⟩ := u_known (C := RX7) (T := TX7) (N := 35) (n := 35) htm uw_X7 (htm _ (mtb_in (List.mem_of_getElem? (i := 830) (by decide +kernel)) rfl))
      exact ⟨(c0, i0), fun q hq => by cases hq; exact h0⟩
    | k + 8 => exact ⟨((0 : Nat), fun _ => 0), fun q hq => by simp [mcl] at hq⟩
  exact ⟨fun k => (Classical.choose (h k)).1, fun k => (Classical.choose (h k)).2, fun k q hq => Classical.choose_spec (h k) q hq⟩
theorem end_3 {p : Program} {l : Launch} {e : Env} {s : State} {m : MethodId} {below : List Frame} {meth : Method} {c : Code} {b L : Nat} {xs : Nat → Int32} {dC : Nat → ClassId} {dI : Nat → Nat → Nat} {cI cZ : ClassId} {H : Heap} {locs : List Loc} {ls : Array Slot} {u1 u2 : Nat → Nat} {h1 h2 : mH} (C : lCtx p s m meth c b L xs dC dI cI cZ) (C0 : lw_At p s m meth c b L xs) (hL : L ≤ 256) (hR : RH 0 h1 h2) (hP : va_P (dC, dI) mcl (cW u1 cI cZ h1 ++ cW u2 cI cZ h2) H) (hD : va_D (lA s) (cW u1 cI cZ h1 ++ cW u2 cI cZ h2)) (hS : va_S (lA s) s.heap H locs) (hl : lv_has ls 4 [(1, .ref (u1 0)), (0, .ref b)]) : W p l e room_1 s m #[Value.ref b] below meth c H locs 43 7519 (lw_Z below #[Value.ref b] s) (F0 m 15 ls [.ref (u2 0)]) := by
  obtain ⟨hx, hb, hr, hml, hown, hts, hX, hbl, hlocks, hgv⟩ := id C0
  refine lv_astore_n (k := 2) (i := 2) (lv' := [(2, .ref (u2 0)), (1, .ref (u1 0)), (0, .ref b)]) hx hb (by decide +kernel) rfl hl (by decide) rfl (fun ls hl => ?_)
  refine lv_iconst (n := 0) (v := nI 0) hx hb (by decide +kernel) rfl ?_
  refine lv_istore_n (k := 3) (i := 3) (lv' := [(3, .int (nI 0)), (2, .ref (u2 0)), (1, .ref (u1 0)), (0, .ref b)]) hx hb (by decide +kernel) rfl hl (by decide) rfl (fun ls hl => ?_)
  have g := law_loop (ad1 := u1) (ad2 := u2) (l := l) (e := e) (below := below) C C0 hL 65 0 h1 h2 hR (by decide) (by decide)
  exact g H locs ls hP hD hS hl
theorem end_2 {p : Program} {l : Launch} {e : Env} {s : State} {m : MethodId} {below : List Frame} {meth : Method} {c : Code} {b L : Nat} {xs : Nat → Int32} {dC : Nat → ClassId} {dI : Nat → Nat → Nat} {cI cZ : ClassId} {H : Heap} {locs : List Loc} {ls : Array Slot} {u1 : Nat → Nat} {h1 : mH} (C : lCtx p s m meth c b L xs dC dI cI cZ) (C0 : lw_At p s m meth c b L xs) (hL : L ≤ 256) (hR : RH 0 h1 (hM ((fun _ => 0), (fun _ => 0), (fun _ => 0), 0, 0, 0, 20, 2, 3) ((fun _ => 0), (fun _ => 0), (fun _ => 0), 0, 0, 0, 0, 0, 0) (mup (fun _ => 0) 1 20) (fun _ => 0) (fun _ => 0) 0 (fun _ => 0) 0 ((fun _ => 0), 0, 0, 0, 0, 0, 0, 0, 0, 0) (fun _ => 0) (fun _ => 0) (fun _ => 0) (fun _ => 0))) (hP : va_P (dC, dI) mcl (cW u1 cI cZ h1) H) (hD : va_D (lA s) (cW u1 cI cZ h1)) (hS : va_S (lA s) s.heap H locs) (hl : lv_has ls 4 [(0, .ref b)]) : W p l e room_1 s m #[Value.ref b] below meth c H locs 27 2590 (lw_Z below #[Value.ref b] s) (F0 m 7 ls [.ref (u1 0)]) := by
  obtain ⟨hx, hb, hr, hml, hown, hts, hX, hbl, hlocks, hgv⟩ := id C0
  refine lv_astore_n (k := 1) (i := 1) (lv' := [(1, .ref (u1 0)), (0, .ref b)]) hx hb (by decide +kernel) rfl hl (by decide) rfl (fun ls hl => ?_)
  have hsp := mk_X7 (l := l)
  generalize (hM ((fun _ => 0), (fun _ => 0), (fun _ => 0), 0, 0, 0, 20, 2, 3) ((fun _ => 0), (fun _ => 0), (fun _ => 0), 0, 0, 0, 0, 0, 0) (mup (fun _ => 0) 1 20) (fun _ => 0) (fun _ => 0) 0 (fun _ => 0) 0 ((fun _ => 0), 0, 0, 0, 0, 0, 0, 0, 0, 0) (fun _ => 0) (fun _ => 0) (fun _ => 0) (fun _ => 0)) = h2 at hR hsp
  refine lNew C (pc := 8) (k := 27) (n := 2590) (ex := fun _ => True) (d' := 1) (mc := 15) (ms := 4894) (out := h2) (w := cW u1 cI cZ h1) (lv := [(1, .ref (u1 0)), (0, .ref b)]) (idx1 := 10) (idx2 := 12) (rfl : mcl[7]? = some (RX7, TX7, 35)) uw_X7 tyX7 tyX7_ok (mtb_in (List.mem_of_getElem? (i := 829) (by decide +kernel)) rfl) (mtb_in (List.mem_of_getElem? (i := 830) (by decide +kernel)) rfl) ini_X7 (fun ad j hj => by rcases (show j = 0 ∨ j = 1 ∨ j = 2 ∨ j = 3 ∨ j = 4 ∨ j = 5 ∨ j = 6 ∨ j = 7 ∨ j = 8 ∨ j = 9 ∨ j = 10 ∨ j = 11 ∨ j = 12 ∨ j = 13 ∨ j = 14 ∨ j = 15 ∨ j = 16 ∨ j = 17 ∨ j = 18 ∨ j = 19 ∨ j = 20 ∨ j = 21 ∨ j = 22 ∨ j = 23 ∨ j = 24 ∨ j = 25 ∨ j = 26 ∨ j = 27 ∨ j = 28 ∨ j = 29 ∨ j = 30 ∨ j = 31 ∨ j = 32 ∨ j = 33 ∨ j = 34 by omega) with rfl | rfl | rfl | rfl | rfl | rfl | rfl | rfl | rfl | rfl | rfl | rfl | rfl | rfl | rfl | rfl | rfl | rfl | rfl | rfl | rfl | rfl | rfl | rfl | rfl | rfl | rfl | rfl | rfl | rfl | rfl | rfl | rfl | rfl | rfl <;> rfl) (by decide) cf_X7 (mtb_in (List.mem_of_getElem? (i := 831) (by decide +kernel)) rfl) (fun _ _ _ _ h => h) (fun _ _ => trivial) hsp ⟨Nat.le_of_ble_eq_true rfl, Nat.le_of_ble_eq_true rfl⟩ ⟨Nat.le_of_ble_eq_true rfl, Nat.le_of_ble_eq_true rfl⟩ ⟨Nat.le_of_ble_eq_true rfl, Nat.le_of_ble_eq_true rfl⟩ (by decide +kernel) (by decide +kernel) (by decide +kernel) hP hD hS hl (fun u2 H2 locs2 hP hD hS => ?_)
  exact end_3 C C0 hL hR hP hD hS hl
theorem whole_start {p : Program} {e : Env} {s : State} {m : MethodId} {below : List Frame} {meth : Method} {c : Code} (l : Launch) (hflags : l.flags = flags0) {b L : Nat} {xs : Nat → Int32} (hL : L ≤ 256) (C0 : lw_At p s m meth c b L xs) : W p l e room_1 s m #[Value.ref b] below meth c s.heap [] 0 0 (lw_Z below #[Value.ref b] s) (entryFrame m ([Value.ref b] : List Value).toArray 4) := by
  obtain ⟨hx, hb, hr, hml, hown, hts, hX, hbl, hlocks, hgv⟩ := id C0
  have htm : ∀ w ∈ mtb, w.before #[Value.ref b] s = true := fun w h => hts w (List.mem_filter.mp h).1
  obtain ⟨dC, dI, hKc⟩ := mcl_known htm
  obtain ⟨cI, aI, nI'⟩ := arr_known (htm _ arr_i)
  obtain ⟨cZ, aZ, nZ⟩ := arr_known (htm _ arr_z)
  have hK : va_K (dC, dI) mcl (mtys cI cZ) s := ⟨hKc, fun k q h => by
    match k, h with
    | 0, h => cases h; exact ⟨aI, nI'⟩
    | 1, h => cases h; exact ⟨aZ, nZ⟩
    | k + 2, h => simp [mtys] at h⟩
  have hnst : mNst s := ⟨va_Nw.of rfl (C0.2.2.2.2.2.1 _ (List.mem_of_getElem? (i := 617) (by decide +kernel))), va_Nw.of rfl (C0.2.2.2.2.2.1 _ (List.mem_of_getElem? (i := 702) (by decide +kernel)))⟩
  have hns6 : mNs6 s := ⟨va_Nw.of rfl (C0.2.2.2.2.2.1 _ (List.mem_of_getElem? (i := 90) (by decide +kernel))), va_Nw.of rfl (C0.2.2.2.2.2.1 _ (List.mem_of_getElem? (i := 186) (by decide +kernel))), va_Nw.of rfl (C0.2.2.2.2.2.1 _ (List.mem_of_getElem? (i := 204) (by decide +kernel))), va_Nw.of rfl (C0.2.2.2.2.2.1 _ (List.mem_of_getElem? (i := 228) (by decide +kernel)))⟩
  have C : lCtx p s m meth c b L xs dC dI cI cZ := ⟨hx, hb, hown, htm, hK, hml, hnst, hX, hbl⟩
  have hl := lv_entry ([.ref b]) (n := 4) (Nat.le_of_ble_eq_true rfl)
  rw [lg_entry_eq]
  generalize (lg_sl ([.ref b]) ++ List.replicate (4 - (lg_sl ([.ref b])).length) Slot.unset).toArray = ls at hl ⊢
  have hl : lv_has ls 4 [(0, .ref b)] := hl
  have hsp := mk_X6 (l := l)
  have hR := RH_0
  generalize (hC (false, 0) ((fun _ => 0), 0, 0, 0, 0, 0, -1, 0, 0, 0) ((fun _ => 0), (fun _ => 0), (fun _ => 0), 0, 0, 0, 20, 2, 3) ((fun _ => 0), (fun _ => 0), (fun _ => 0), 0, 0, 0, 20, 2, 3) (mup (begM (fun _ => 0) 9) 1 20, 0, 0) ((fun _ => 0), 0, 0) ((fun _ => 0), 0, 0) (false, (fun _ => 0), (fun _ => 0), 0, 0, -9) (false, (fun _ => 0), (fun _ => 0), 0, 1, -9) (false, drpA (fun _ => 0) 14, (fun _ => 0), (fun _ => 0), 0)) = h1 at hR hsp
  have P0 : va_P (dC, dI) mcl [] s.heap := fun k q h => by simp at h
  have D0 : va_D (lA s) [] := ⟨fun i j p q h => by simp at h, fun k q h => by simp at h⟩
  have nb : ∀ (a : Array Value) (U : State) (g : JFrame) (mk : MethodId), mNs6 U → mNs6 (U.calling g mk a) := fun a U g mk h => ⟨va_Nw.same (U := U.calling g mk a) rfl rfl h.1, va_Nw.same (U := U.calling g mk a) rfl rfl h.2.1, va_Nw.same (U := U.calling g mk a) rfl rfl h.2.2.1, va_Nw.same (U := U.calling g mk a) rfl rfl h.2.2.2⟩
  have nw : ∀ U, s.WarmedH U.vm → mNs6 U := fun U hW => ⟨va_Nw.warmM hW hns6.1, va_Nw.warmM hW hns6.2.1, va_Nw.warmM hW hns6.2.2.1, va_Nw.warmM hW hns6.2.2.2⟩
  refine lNew C (pc := 0) (w := []) (k := 0) (n := 0) (ex := mNs6) (d' := 3) (mc := 26) (ms := 2580) (out := h1) (lv := [(0, .ref b)]) (idx1 := 7) (idx2 := 9) (rfl : mcl[6]? = some (RX6, TX6, 10)) uw_X6 tyX6 tyX6_ok (mtb_in (List.mem_of_getElem? (i := 80) (by decide +kernel)) rfl) (mtb_in (List.mem_of_getElem? (i := 81) (by decide +kernel)) rfl) ini_X6 (fun ad j hj => by rcases (show j = 0 ∨ j = 1 ∨ j = 2 ∨ j = 3 ∨ j = 4 ∨ j = 5 ∨ j = 6 ∨ j = 7 ∨ j = 8 ∨ j = 9 by omega) with rfl | rfl | rfl | rfl | rfl | rfl | rfl | rfl | rfl | rfl <;> rfl) (by decide) cf_X6 (mtb_in (List.mem_of_getElem? (i := 82) (by decide +kernel)) rfl) nb nw hsp ⟨Nat.le_of_ble_eq_true rfl, Nat.le_of_ble_eq_true rfl⟩ ⟨Nat.le_of_ble_eq_true rfl, Nat.le_of_ble_eq_true rfl⟩ ⟨Nat.le_of_ble_eq_true rfl, Nat.le_of_ble_eq_true rfl⟩ (by decide +kernel) (by decide +kernel) (by decide +kernel) P0 D0 va_S.rf hl (fun u1 H1 locs1 hP hD hS => ?_)
  exact end_2 C C0 hL hR hP hD hS hl

-- ===== YOUR PART ENDS =====
set_option maxHeartbeats 4000000 in
theorem lw_walk (l : Launch) (hflags : l.flags = flags0) (b : Addr) (xs : List Int32) : MetFree l x (headSpec (Jvm.Cond.code x code maxLocals ret :: tables_1) room_1) (lw_P b xs) (fun _ _ _ _ _ => True) lw_Q := by
  refine MetFree.of_bodyS (code := code) (maxLocals := maxLocals) (ret := ret) (by decide) ?_ ?_
  · intro args s m h hn
    obtain ⟨meth, c, h1, h2, h3, h4, h5, h6, -, -⟩ := Cond.code_spec hn (atoms_spec (ws := Jvm.Cond.code x code maxLocals ret :: tables_1) h _ List.mem_cons_self)
    exact ⟨meth, c, h1, h2, h3, h4, h5, h6⟩
  · intro p e s m args below meth c s₁ B hml0 hP _
    obtain ⟨rfl, hx, hbd, hgv⟩ := hP
    obtain ⟨scr, harrAt, hlist, hof, hsmall⟩ := hx
    obtain ⟨hcb, hkn, -, -⟩ := State.arrayAt?_spec harrAt
    have hown : s.vm.findClass R_law = some m.cls := findClass_of_methodNamed B.named
    have hts0 : ∀ c ∈ (Jvm.Cond.code x code maxLocals ret :: tables_1), c.before #[Value.ref b] s = true := atoms_spec (ws := Jvm.Cond.code x code maxLocals ret :: tables_1) B.pre
    have hts : ∀ w ∈ lw_tbl, w.before #[Value.ref b] s = true := k2_hts_sels lw_privs (fun w hw => hts0 w (List.mem_cons_of_mem _ hw)) lw_privs_ok
    have hml : c.maxLocals = 4 := B.maxLocals_eq (hts0 _ List.mem_cons_self)
    have X₀ : Stand p l e room_1 s m #[Value.ref b] below meth c s₁ [] 0 0 := Stand.of_body B
    have hh0 : s₁.heap = s.heap := by rw [B.state]; rfl
    have hsz : scr.slots.size = xs.length := by rw [← Array.length_toList, hlist, List.length_map]
    have hval : ∀ j : Nat, j < xs.length → scr.slots[j]? = some (.int (xs.getD j 0)) := fun j hj => by
      rw [← Array.getElem?_toList, hlist]
      simp [hj]
    have hbl : b < s.heap.size := (Array.getElem?_eq_some_iff.mp hcb).1
    have hX : va_X b xs.length (fun j => xs.getD j 0) s s.heap := ⟨scr, hcb, hof, hkn, hsz, hval⟩
    have K : W p l e room_1 s m #[Value.ref b] below meth c s₁.heap [] 0 0 (lw_Z below #[Value.ref b] s) (entryFrame m ([Value.ref b] : List Value).toArray 4) := by
      rw [hh0]
      exact whole_start l hflags hbd ⟨B.exec, B.bytes, B.returns, hml, hown, hts, hX, hbl, B.notSynchronized, hgv⟩
    obtain ⟨t, a1, o, b1, b2, b3⟩ := K s₁ rfl X₀
    exact ⟨t, o, a1, b1, b2, b3⟩
theorem lw_pre_spec {args : Array Value} {s : State} (h : (Jvm.Cond.and given_1 narrow_1).before args s = true) (hr : rest_1_c.before args s = true) : ∃ (b : Addr) (xs : List Int32), lw_P b xs args s := by
  have hs := flat_of_before _ h
  have hq := flat_of_before _ hr
  have hc : (Cond.count 1).before args s = true := hs _ (by decide +kernel)
  have harr : (Cond.arrayOf (.arg 0) .int).before args s = true := hs _ (by decide +kernel)
  have hle : (Cond.le (.length (.arg 0)) (.int 256)).before args s = true := hs _ (by decide +kernel)
  have hlen : (Cond.isInt (.length (.arg 0))).before args s = true := hq _ (by decide +kernel)
  have hall : (Cond.all (.arg 0) (.isInt (.elem (.arg 0) (.index 0)))).before args s = true := hq _ (by decide +kernel)
  obtain ⟨b, xs, hb, hx⟩ := State.ints_of_pre rfl harr hlen hall
  have hsm : xs.length < 2 ^ 31 := hx.choose_spec.2.2.2
  have hev : (Term.length (.arg 0)).eval args s none [] s = some (.int xs.length.toInt32) := hx.length_eval hb
  have hv := Cond.le_ints hev (show (Term.int 256).eval args s none [] s = some (.int 256) from rfl)
  have hd : xs.length.toInt32 ≤ 256 := by
    simpa [Cond.before, Cond.holds, hv] using hle
  have hN : xs.length ≤ 256 := (Int32.ofNat_le_ofNat hsm (by decide)).mp (show Int32.ofNat xs.length ≤ Int32.ofNat 256 from hd)
  exact ⟨b, xs, Cond.one_arg hc (show args[0]? = some (.ref b) from hb), hx, hN, h⟩
theorem lw_comes (l : Launch) (hflags : l.flags = flags0) : Comes l x (Jvm.Cond.code x code maxLocals ret :: tables_1) room_1 (fun tb e args s => Calls_1 tb e args s ∧ rest_1 tb e args s ∧ Pre_1 tb e args s)
    (fun _ _ args s o t => lw_Q args s o t) := by
  intro p e ha hc hk s m args below hf hfit hheap happ hpre
  obtain ⟨b, xs, hP⟩ := lw_pre_spec hpre.2.2 hpre.2.1
  obtain ⟨k, o, h1, h2, h3, hQ⟩ := lw_walk l hflags b xs p e ha hc hk s m args below hf ((Spec.applies_iff_loose hf).mp happ).1 hP trivial
  exact ⟨k, o, h1, h2, h3, hQ⟩
theorem lw_frame {s t : State} {o : Outcome} {args : Array Value} (h : Framed s o t [] 43 7519) :
    Framed s o t (fieldLocs frame_1_writes args s ++ arrayLocs frame_1_arrays args s ++ staticLocs frame_1_statics s) 43 7519 := h
theorem lw_limb (L : Cond) (hL : ∀ (args : Array Value) (s t : State), L.after args s (.returned (some (.int 1))) t = true) :
    ArmFor flags0 classFile x code maxLocals ret World_1 tables_1 room_1 Calls_1 rest_1 Pre_1
      (fun tb e a s o t => postC L tb e a s o t ∧ Framed s o t (fieldLocs frame_1_writes a s ++ arrayLocs frame_1_arrays a s ++ staticLocs frame_1_statics s) 43 7519) := by
  intro l hflags _ _ p e ha hc hk s m args below hf hfit hheap happ hpre
  obtain ⟨k, o, h1, h2, h3, rfl, hF⟩ := lw_comes l hflags p e ha hc hk s m args below hf hfit hheap happ hpre
  exact ⟨k, _, h1, h2, h3, hL args s _, lw_frame hF⟩
theorem i_vc : Claimed_1_1 ∧ Claimed_1_2 := ⟨lw_limb limb_1_1 (fun args s t => by simp [limb_1_1, Cond.after, Cond.holds, Cond.value]), lw_limb limb_1_2 (fun args s t => Cond.after_iff.mpr (by
  first | (rw [show limb_1_2 = Cond.eq .result (.int 1) from rfl, Cond.eq_ints (x := 1) (y := 1) rfl rfl]; simp; done) | (simp [limb_1_2, Cond.value, Term.eval]; done)))⟩
