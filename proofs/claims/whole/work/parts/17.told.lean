/-! Told: what it answers -/
section WALKS
variable {l : Launch}
set_option maxRecDepth 20000 in
set_option maxHeartbeats 2000000 in
theorem sp_X5_hasTrade {uo : UD} {ux : XD} {ua ub : TD} {v0 v1 v2 : SD} {up uq : PD} {ur : HD} {k : Bool} {t : TD} (ht : t = tsel k ua ub) {i : Int} (h1 : inI i) (h2 : inI (tNT t)) : SpI l 1 yX5_hasTrade cX5_hasTrade 2 (some .boolean) [mr (tix k), mi i] (hC uo ux ua ub v0 v1 v2 up uq ur) (fun z h => z = (if 0 ≤ i ∧ i < tNT t then 1 else 0) ∧ h = hC uo ux ua ub v0 v1 v2 up uq ur) := by
  cases k
  · obtain rfl : t = ua := ht
    refine SpI.of (cd := kdX5_hasTrade) (fT := mlook flX5) (kT := mlook klX5) (kJ := mlook jlX5) mfA_X5_hasTrade ok_X5_hasTrade fT_X5 kT_X5 jT_X5 jdk_ok True.intro (Nat.le_of_ble_eq_true rfl) (fun G hG => ?_)
    refine rRun hG 99999 ?_
    refine And.intro (by omega) (And.intro (fun c1 => ?_) (fun c1 => ?_))
    · skip
      refine rRun hG 99999 ?_
      refine rIR hG rfl rfl (by first | exact Or.inl rfl | exact Or.inr rfl | (show _ ∨ _; omega)) ?_
      exact ⟨by first | (rw [if_pos (by omega)]) | (rw [if_neg (by omega)]), rfl⟩
    · skip
      refine And.intro rfl (And.intro (by omega) (And.intro (fun c2 => ?_) (fun c2 => ?_)))
      · skip
        refine rRun hG 99999 ?_
        refine rIR hG rfl rfl (by first | exact Or.inl rfl | exact Or.inr rfl | (show _ ∨ _; omega)) ?_
        exact ⟨by first | (rw [if_pos (by omega)]) | (rw [if_neg (by omega)]), rfl⟩
      · skip
        refine rIR hG rfl rfl (by first | exact Or.inl rfl | exact Or.inr rfl | (show _ ∨ _; omega)) ?_
        exact ⟨by first | (rw [if_pos (by omega)]) | (rw [if_neg (by omega)]), rfl⟩
  · obtain rfl : t = ub := ht
    refine SpI.of (cd := kdX5_hasTrade) (fT := mlook flX5) (kT := mlook klX5) (kJ := mlook jlX5) mfA_X5_hasTrade ok_X5_hasTrade fT_X5 kT_X5 jT_X5 jdk_ok True.intro (Nat.le_of_ble_eq_true rfl) (fun G hG => ?_)
    refine rRun hG 99999 ?_
    refine And.intro (by omega) (And.intro (fun c3 => ?_) (fun c3 => ?_))
    · skip
      refine rRun hG 99999 ?_
      refine rIR hG rfl rfl (by first | exact Or.inl rfl | exact Or.inr rfl | (show _ ∨ _; omega)) ?_
      exact ⟨by first | (rw [if_pos (by omega)]) | (rw [if_neg (by omega)]), rfl⟩
    · skip
      refine And.intro rfl (And.intro (by omega) (And.intro (fun c4 => ?_) (fun c4 => ?_)))
      · skip
        refine rRun hG 99999 ?_
        refine rIR hG rfl rfl (by first | exact Or.inl rfl | exact Or.inr rfl | (show _ ∨ _; omega)) ?_
        exact ⟨by first | (rw [if_pos (by omega)]) | (rw [if_neg (by omega)]), rfl⟩
      · skip
        refine rIR hG rfl rfl (by first | exact Or.inl rfl | exact Or.inr rfl | (show _ ∨ _; omega)) ?_
        exact ⟨by first | (rw [if_pos (by omega)]) | (rw [if_neg (by omega)]), rfl⟩
set_option maxRecDepth 20000 in
set_option maxHeartbeats 2000000 in
theorem sp_X5_sunOf {uo : UD} {ux : XD} {ua ub : TD} {v0 v1 v2 : SD} {up uq : PD} {ur : HD} {k : Bool} {t : TD} (ht : t = tsel k ua ub) {i : Int} (h1 : inI i) (h2 : inI (tDay t)) : SpI l 1 yX5_sunOf cX5_sunOf 2 (some .int) [mr (tix k), mi i] (hC uo ux ua ub v0 v1 v2 up uq ur) (fun z h => z = (if 0 ≤ i ∧ i < tDay t ∧ i < 14 then tSun t i.toNat else -1) ∧ h = hC uo ux ua ub v0 v1 v2 up uq ur) := by
  cases k
  · obtain rfl : t = ua := ht
    refine SpI.of (cd := kdX5_sunOf) (fT := mlook flX5) (kT := mlook klX5) (kJ := mlook jlX5) mfA_X5_sunOf ok_X5_sunOf fT_X5 kT_X5 jT_X5 jdk_ok True.intro (Nat.le_of_ble_eq_true rfl) (fun G hG => ?_)
    refine rRun hG 99999 ?_
    refine And.intro (by omega) (And.intro (fun c1 => ?_) (fun c1 => ?_))
    · skip
      refine rRun hG 99999 ?_
      refine rIR hG rfl rfl (True.intro) ?_
      exact ⟨by first | (rw [if_pos (by omega)]; done) | (rw [if_neg (by omega)]; done), rfl⟩
    · skip
      refine And.intro rfl (And.intro (by omega) (And.intro (fun c2 => ?_) (fun c2 => ?_)))
      · skip
        refine rRun hG 99999 ?_
        refine rIR hG rfl rfl (True.intro) ?_
        exact ⟨by first | (rw [if_pos (by omega)]; done) | (rw [if_neg (by omega)]; done), rfl⟩
      · skip
        refine And.intro rfl (And.intro (by decide) (And.intro (by omega) (And.intro (fun c3 => ?_) (fun c3 => ?_))))
        · skip
          refine rRun hG 99999 ?_
          refine rIR hG rfl rfl (True.intro) ?_
          exact ⟨by first | (rw [if_pos (by omega)]; done) | (rw [if_neg (by omega)]; done), rfl⟩
        · skip
          refine And.intro rfl (And.intro (by omega) (?_))
          refine rIR hG rfl rfl (True.intro) ?_
          exact ⟨by first | (rw [if_pos (by omega)]; done) | (rw [if_neg (by omega)]; done), rfl⟩
  · obtain rfl : t = ub := ht
    refine SpI.of (cd := kdX5_sunOf) (fT := mlook flX5) (kT := mlook klX5) (kJ := mlook jlX5) mfA_X5_sunOf ok_X5_sunOf fT_X5 kT_X5 jT_X5 jdk_ok True.intro (Nat.le_of_ble_eq_true rfl) (fun G hG => ?_)
    refine rRun hG 99999 ?_
    refine And.intro (by omega) (And.intro (fun c4 => ?_) (fun c4 => ?_))
    · skip
      refine rRun hG 99999 ?_
      refine rIR hG rfl rfl (True.intro) ?_
      exact ⟨by first | (rw [if_pos (by omega)]; done) | (rw [if_neg (by omega)]; done), rfl⟩
    · skip
      refine And.intro rfl (And.intro (by omega) (And.intro (fun c5 => ?_) (fun c5 => ?_)))
      · skip
        refine rRun hG 99999 ?_
        refine rIR hG rfl rfl (True.intro) ?_
        exact ⟨by first | (rw [if_pos (by omega)]; done) | (rw [if_neg (by omega)]; done), rfl⟩
      · skip
        refine And.intro rfl (And.intro (by decide) (And.intro (by omega) (And.intro (fun c6 => ?_) (fun c6 => ?_))))
        · skip
          refine rRun hG 99999 ?_
          refine rIR hG rfl rfl (True.intro) ?_
          exact ⟨by first | (rw [if_pos (by omega)]; done) | (rw [if_neg (by omega)]; done), rfl⟩
        · skip
          refine And.intro rfl (And.intro (by omega) (?_))
          refine rIR hG rfl rfl (True.intro) ?_
          exact ⟨by first | (rw [if_pos (by omega)]; done) | (rw [if_neg (by omega)]; done), rfl⟩
set_option maxRecDepth 20000 in
set_option maxHeartbeats 2000000 in
theorem sp_X5_ofBribe {uo : UD} {ux : XD} {ua ub : TD} {v0 v1 v2 : SD} {up uq : PD} {ur : HD} {k : Bool} {t : TD} (ht : t = tsel k ua ub) {b w : Int} (h1 : inI (4 * b + w)) : SpI l 1 yX5_ofBribe cX5_ofBribe 4 (some .int) [mr (tix k), mi b, mi w] (hC uo ux ua ub v0 v1 v2 up uq ur) (fun z h => z = (if 0 ≤ 4 * b + w ∧ 4 * b + w < 24 then tBri t (4 * b + w).toNat else -1000000) ∧ h = hC uo ux ua ub v0 v1 v2 up uq ur) := by
  cases k
  · obtain rfl : t = ua := ht
    refine SpI.of (cd := kdX5_ofBribe) (fT := mlook flX5) (kT := mlook klX5) (kJ := mlook jlX5) mfA_X5_ofBribe ok_X5_ofBribe fT_X5 kT_X5 jT_X5 jdk_ok True.intro (Nat.le_of_ble_eq_true rfl) (fun G hG => ?_)
    refine rRun hG 99999 ?_
    refine And.intro (by omega) (And.intro (fun c1 => ?_) (fun c1 => ?_))
    · skip
      refine rRun hG 99999 ?_
      refine rIR hG rfl rfl (True.intro) ?_
      exact ⟨by first | (rw [if_pos (by omega)]; done) | (rw [if_neg (by omega)]; done), rfl⟩
    · skip
      refine And.intro rfl (And.intro (by decide) (And.intro (by omega) (And.intro (fun c2 => ?_) (fun c2 => ?_))))
      · skip
        refine rRun hG 99999 ?_
        refine rIR hG rfl rfl (True.intro) ?_
        exact ⟨by first | (rw [if_pos (by omega)]; done) | (rw [if_neg (by omega)]; done), rfl⟩
      · skip
        refine And.intro rfl (And.intro (by omega) (?_))
        refine rIR hG rfl rfl (True.intro) ?_
        exact ⟨by first | (rw [if_pos (by omega)]; done) | (rw [if_neg (by omega)]; done), rfl⟩
  · obtain rfl : t = ub := ht
    refine SpI.of (cd := kdX5_ofBribe) (fT := mlook flX5) (kT := mlook klX5) (kJ := mlook jlX5) mfA_X5_ofBribe ok_X5_ofBribe fT_X5 kT_X5 jT_X5 jdk_ok True.intro (Nat.le_of_ble_eq_true rfl) (fun G hG => ?_)
    refine rRun hG 99999 ?_
    refine And.intro (by omega) (And.intro (fun c3 => ?_) (fun c3 => ?_))
    · skip
      refine rRun hG 99999 ?_
      refine rIR hG rfl rfl (True.intro) ?_
      exact ⟨by first | (rw [if_pos (by omega)]; done) | (rw [if_neg (by omega)]; done), rfl⟩
    · skip
      refine And.intro rfl (And.intro (by decide) (And.intro (by omega) (And.intro (fun c4 => ?_) (fun c4 => ?_))))
      · skip
        refine rRun hG 99999 ?_
        refine rIR hG rfl rfl (True.intro) ?_
        exact ⟨by first | (rw [if_pos (by omega)]; done) | (rw [if_neg (by omega)]; done), rfl⟩
      · skip
        refine And.intro rfl (And.intro (by omega) (?_))
        refine rIR hG rfl rfl (True.intro) ?_
        exact ⟨by first | (rw [if_pos (by omega)]; done) | (rw [if_neg (by omega)]; done), rfl⟩
set_option maxRecDepth 20000 in
set_option maxHeartbeats 2000000 in
theorem sp_X5_ofTrade {uo : UD} {ux : XD} {ua ub : TD} {v0 v1 v2 : SD} {up uq : PD} {ur : HD} {k : Bool} {t : TD} (ht : t = tsel k ua ub) {b w : Int} (h1 : inI (2 * b + w)) : SpI l 1 yX5_ofTrade cX5_ofTrade 4 (some .int) [mr (tix k), mi b, mi w] (hC uo ux ua ub v0 v1 v2 up uq ur) (fun z h => z = (if 0 ≤ 2 * b + w ∧ 2 * b + w < 8 then tTra t (2 * b + w).toNat else -1) ∧ h = hC uo ux ua ub v0 v1 v2 up uq ur) := by
  cases k
  · obtain rfl : t = ua := ht
    refine SpI.of (cd := kdX5_ofTrade) (fT := mlook flX5) (kT := mlook klX5) (kJ := mlook jlX5) mfA_X5_ofTrade ok_X5_ofTrade fT_X5 kT_X5 jT_X5 jdk_ok True.intro (Nat.le_of_ble_eq_true rfl) (fun G hG => ?_)
    refine rRun hG 99999 ?_
    refine And.intro (by omega) (And.intro (fun c1 => ?_) (fun c1 => ?_))
    · skip
      refine rRun hG 99999 ?_
      refine rIR hG rfl rfl (True.intro) ?_
      exact ⟨by first | (rw [if_pos (by omega)]; done) | (rw [if_neg (by omega)]; done), rfl⟩
    · skip
      refine And.intro rfl (And.intro (by decide) (And.intro (by omega) (And.intro (fun c2 => ?_) (fun c2 => ?_))))
      · skip
        refine rRun hG 99999 ?_
        refine rIR hG rfl rfl (True.intro) ?_
        exact ⟨by first | (rw [if_pos (by omega)]; done) | (rw [if_neg (by omega)]; done), rfl⟩
      · skip
        refine And.intro rfl (And.intro (by omega) (?_))
        refine rIR hG rfl rfl (True.intro) ?_
        exact ⟨by first | (rw [if_pos (by omega)]; done) | (rw [if_neg (by omega)]; done), rfl⟩
  · obtain rfl : t = ub := ht
    refine SpI.of (cd := kdX5_ofTrade) (fT := mlook flX5) (kT := mlook klX5) (kJ := mlook jlX5) mfA_X5_ofTrade ok_X5_ofTrade fT_X5 kT_X5 jT_X5 jdk_ok True.intro (Nat.le_of_ble_eq_true rfl) (fun G hG => ?_)
    refine rRun hG 99999 ?_
    refine And.intro (by omega) (And.intro (fun c3 => ?_) (fun c3 => ?_))
    · skip
      refine rRun hG 99999 ?_
      refine rIR hG rfl rfl (True.intro) ?_
      exact ⟨by first | (rw [if_pos (by omega)]; done) | (rw [if_neg (by omega)]; done), rfl⟩
    · skip
      refine And.intro rfl (And.intro (by decide) (And.intro (by omega) (And.intro (fun c4 => ?_) (fun c4 => ?_))))
      · skip
        refine rRun hG 99999 ?_
        refine rIR hG rfl rfl (True.intro) ?_
        exact ⟨by first | (rw [if_pos (by omega)]; done) | (rw [if_neg (by omega)]; done), rfl⟩
      · skip
        refine And.intro rfl (And.intro (by omega) (?_))
        refine rIR hG rfl rfl (True.intro) ?_
        exact ⟨by first | (rw [if_pos (by omega)]; done) | (rw [if_neg (by omega)]; done), rfl⟩
end WALKS
