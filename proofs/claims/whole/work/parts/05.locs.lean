/-! the locals -/
def mll (ad : Nat → Nat) (L : mL) : List (Nat × Value) := (List.range L.length).filterMap (fun k => match L[k]? with
  | some (some v) => some (k, cV ad v)
  | _ => none)
theorem mem_mll {ad : Nat → Nat} {L : mL} {k : Nat} {w : Value} : (k, w) ∈ mll ad L ↔ ∃ v, L[k]? = some (some v) ∧ w = cV ad v := by
  unfold mll
  rw [List.mem_filterMap]
  constructor
  · rintro ⟨j, -, hj⟩
    split at hj
    · rename_i v hv
      cases hj
      exact ⟨v, hv, rfl⟩
    · cases hj
  · rintro ⟨v, hv, rfl⟩
    refine ⟨k, List.mem_range.mpr (List.getElem?_eq_some_iff.mp hv).1, ?_⟩
    rw [hv]
def mLs (ad : Nat → Nat) (nL : Nat) (ls : Array Slot) (L : mL) : Prop := L.length = nL ∧ lv_has ls nL (mll ad L)
theorem mLs.at {ad : Nat → Nat} {nL : Nat} {ls : Array Slot} {L : mL} (h : mLs ad nL ls L) {k : Nat} {v : mV} (e : L[k]? = some (some v)) : ls[k]? = some (.val (cV ad v)) := h.2.2.2 (k, cV ad v) (mem_mll.mpr ⟨v, e, rfl⟩)
theorem mclr_len {L : mL} {i : Nat} : (mclr L i).length = L.length := by
  unfold mclr
  split
  · rfl
  · split <;> simp
theorem mclr_get {L : mL} {i k : Nat} {w : mV} (hk : k ≠ i) (h : (mclr L i)[k]? = some (some w)) : L[k]? = some (some w) ∧ ¬ (k + 1 = i ∧ ∃ z, w = .inr (.inl z)) := by
  unfold mclr at h
  split at h
  · exact ⟨h, fun q => by omega⟩
  · rename_i j
    split at h
    · rename_i z hz
      rw [List.getElem?_set] at h
      by_cases hj : j = k
      · rw [if_pos hj] at h
        split at h <;> cases h
      · rw [if_neg hj] at h
        exact ⟨h, fun q => hj (by omega)⟩
    · rename_i hz
      refine ⟨h, ?_⟩
      rintro ⟨q, z, rfl⟩
      have e : k = j := by omega
      subst e
      exact hz z h
theorem cV_cat {ad : Nat → Nat} {v : mV} (h : (cV ad v).category = 2) : ∃ z, v = .inr (.inl z) := by
  match v with
  | .inl z => cases h
  | .inr (.inl z) => exact ⟨z, rfl⟩
  | .inr (.inr none) => cases h
  | .inr (.inr (some k)) => cases h
theorem cV_cat1 {ad : Nat → Nat} {v : mV} (h : ∀ z, v ≠ .inr (.inl z)) : (cV ad v).category = 1 := by
  match v with
  | .inl z => rfl
  | .inr (.inl z) => exact absurd rfl (h z)
  | .inr (.inr none) => rfl
  | .inr (.inr (some k)) => rfl
theorem mLs.st1 {ad : Nat → Nat} {nL : Nat} {ls : Array Slot} {L : mL} {i : Nat} {v : mV} (hL : L.length = nL) (h : lv_has ls nL ((i, cV ad v) :: (mll ad L).filter (fun q => !(q.1 == i) && !(q.1 + 1 == i && q.2.category == 2)))) : mLs ad nL ls (mst L i v) := by
  refine ⟨by rw [mst, List.length_set, mclr_len, hL], h.1, h.2.1, ?_⟩
  rintro ⟨k, w⟩ hq
  obtain ⟨x, hx, rfl⟩ := mem_mll.mp hq
  unfold mst at hx
  rw [List.getElem?_set] at hx
  by_cases hk : i = k
  · subst hk
    rw [if_pos rfl] at hx
    split at hx
    · cases hx
      exact h.2.2 (i, cV ad v) List.mem_cons_self
    · cases hx
  · rw [if_neg hk] at hx
    obtain ⟨h1, h2⟩ := mclr_get (fun q => hk q.symm) hx
    refine h.2.2 (k, cV ad x) (List.mem_cons_of_mem _ (List.mem_filter.mpr ⟨mem_mll.mpr ⟨x, h1, rfl⟩, ?_⟩))
    have hk' : ¬ k = i := fun q => hk q.symm
    by_cases hc : (cV ad x).category = 2
    · have h3 : ¬ k + 1 = i := fun q => h2 ⟨q, cV_cat hc⟩
      simp [h3, hk']
    · simp [hc, hk']
theorem mLs.st2 {ad : Nat → Nat} {nL : Nat} {ls : Array Slot} {L : mL} {i : Nat} {v : mV} (hL : L.length = nL) (h : lv_has ls nL ((i, cV ad v) :: (mll ad L).filter (fun q => !(q.1 == i) && (!(q.1 == i + 1) && !(q.1 + 1 == i && q.2.category == 2))))) : mLs ad nL ls (mstl L i v) := by
  refine ⟨by rw [mstl, List.length_set, List.length_set, mclr_len, hL], h.1, h.2.1, ?_⟩
  rintro ⟨k, w⟩ hq
  obtain ⟨x, hx, rfl⟩ := mem_mll.mp hq
  unfold mstl at hx
  rw [List.getElem?_set] at hx
  by_cases hk : i = k
  · subst hk
    rw [if_pos rfl] at hx
    split at hx
    · cases hx
      exact h.2.2 (i, cV ad v) List.mem_cons_self
    · cases hx
  · rw [if_neg hk, List.getElem?_set] at hx
    by_cases hk1 : i + 1 = k
    · rw [if_pos hk1] at hx
      split at hx <;> cases hx
    · rw [if_neg hk1] at hx
      obtain ⟨h1, h2⟩ := mclr_get (fun q => hk q.symm) hx
      refine h.2.2 (k, cV ad x) (List.mem_cons_of_mem _ (List.mem_filter.mpr ⟨mem_mll.mpr ⟨x, h1, rfl⟩, ?_⟩))
      have hk' : ¬ k = i := fun q => hk q.symm
      have hk1' : ¬ k = i + 1 := fun q => hk1 q.symm
      by_cases hc : (cV ad x).category = 2
      · have h3 : ¬ k + 1 = i := fun q => h2 ⟨q, cV_cat hc⟩
        simp [h3, hk', hk1']
      · simp [hc, hk', hk1']
/-- fewer locals -/
def mle : mL → mL → Prop
  | [], [] => True
  | none :: a, _ :: b => mle a b
  | some v :: a, some w :: b => v = w ∧ mle a b
  | _, _ => False
theorem mle_len : ∀ {a b : mL}, mle a b → a.length = b.length
  | [], [], _ => rfl
  | none :: a, _ :: b, h => by rw [List.length_cons, List.length_cons, mle_len (a := a) (b := b) h]
  | some v :: a, some w :: b, h => by rw [List.length_cons, List.length_cons, mle_len (a := a) (b := b) h.2]
theorem mle_get : ∀ {a b : mL}, mle a b → ∀ {k : Nat} {v : mV}, a[k]? = some (some v) → b[k]? = some (some v)
  | [], [], _, k, v, h => by cases h
  | none :: a, _ :: b, h, 0, v, e => by cases e
  | none :: a, _ :: b, h, k + 1, v, e => mle_get (a := a) (b := b) h (k := k) (by simpa using e)
  | some x :: a, some y :: b, h, 0, v, e => by
    obtain ⟨rfl, -⟩ := h
    simpa using e
  | some x :: a, some y :: b, h, k + 1, v, e => by
    have := mle_get (a := a) (b := b) h.2 (k := k) (v := v) (by simpa using e)
    simpa using this
theorem mLs.fewer {ad : Nat → Nat} {nL : Nat} {ls : Array Slot} {L L' : mL} (h : mLs ad nL ls L) (hl : mle L' L) : mLs ad nL ls L' := by
  refine ⟨by rw [mle_len hl]; exact h.1, h.2.1, h.2.2.1, ?_⟩
  rintro ⟨k, w⟩ hq
  obtain ⟨x, hx, rfl⟩ := mem_mll.mp hq
  exact h.at (mle_get hl hx)
