/-! one instruction; a stretch of them -/
def m1 (st : List mV) (f : Int → List mV → Prop) : Prop := match st with
  | .inl a :: r => f a r
  | _ => False
def m2 (st : List mV) (f : Int → Int → List mV → Prop) : Prop := match st with
  | .inl b :: .inl a :: r => f a b r
  | _ => False
def n1 (st : List mV) (f : Int → List mV → Prop) : Prop := match st with
  | .inr (.inl a) :: r => f a r
  | _ => False
def n2 (st : List mV) (f : Int → Int → List mV → Prop) : Prop := match st with
  | .inr (.inl b) :: .inr (.inl a) :: r => f a b r
  | _ => False
def mclr (L : mL) (i : Nat) : mL := match i with
  | 0 => L
  | k + 1 => match L[k]? with
    | some (some (.inr (.inl _))) => L.set k none
    | _ => L
def mst (L : mL) (i : Nat) (v : mV) : mL := (mclr L i).set i (some v)
def mstl (L : mL) (i : Nat) (v : mV) : mL := ((mclr L i).set (i + 1) none).set i (some v)
def mldi (L : mL) (i : Nat) (f : Int → Prop) : Prop := match L[i]? with
  | some (some (.inl z)) => f z
  | _ => False
def mldl (L : mL) (i : Nat) (f : Int → Prop) : Prop := match L[i]? with
  | some (some (.inr (.inl z))) => f z
  | _ => False
def mlda (L : mL) (i : Nat) (f : Nat → Prop) : Prop := match L[i]? with
  | some (some (.inr (.inr (some z)))) => f z
  | _ => False
def mtsw (pc : Nat) (lo : Int) (z : Int) (g : Nat → Prop) : List Int → Prop
  | [] => True
  | o :: os => (z = lo → g ((pc : Int) + o).toNat) ∧ mtsw pc (lo + 1) z g os
def mlsw (pc : Nat) (z : Int) (g : Nat → Prop) : List (Int × Int) → Prop
  | [] => True
  | o :: os => (z = o.1 → g ((pc : Int) + o.2).toNat) ∧ mlsw pc z g os
def mfit (tg : Nat) (v : mV) : Prop := match tg, v with
  | 0, .inl _ => True
  | 1, .inl z => z = 0 ∨ z = 1
  | 2, .inr (.inl _) => True
  | 3, .inr (.inr (some _)) => True
  | _, _ => False
/-- one instruction: K goes on behind it, G at a place that is jumped to, and where the walk stops -/
def stp (fT : Nat → Option (Nat × Nat × Nat)) (kT kJ : Nat → Option Int) (i : Instr) (tg pc : Nat) (L : mL) (st : List mV) (h : mH) (K : mL → List mV → mH → Prop) (G : Nat → mL → List mV → mH → Prop) : Prop := match i with
  | .iconst n => K L (.inl n :: st) h
  | .bipush n => K L (.inl n :: st) h
  | .sipush n => K L (.inl n :: st) h
  | .ldc x => match kT x with
    | some z => K L (.inl z :: st) h
    | none => False
  | .ldc_w x => match kT x with
    | some z => K L (.inl z :: st) h
    | none => False
  | .lconst n => K L (.inr (.inl ((n : Nat) : Int)) :: st) h
  | .ldc2_w x => match kJ x with
    | some z => K L (.inr (.inl z) :: st) h
    | none => False
  | .iload n => mldi L n fun z => K L (.inl z :: st) h
  | .iload_n n => mldi L n fun z => K L (.inl z :: st) h
  | .lload n => mldl L n fun z => K L (.inr (.inl z) :: st) h
  | .lload_n n => mldl L n fun z => K L (.inr (.inl z) :: st) h
  | .aload n => mlda L n fun z => K L (.inr (.inr (some z)) :: st) h
  | .aload_n n => mlda L n fun z => K L (.inr (.inr (some z)) :: st) h
  | .istore n => m1 st fun a r => K (mst L n (.inl a)) r h
  | .istore_n n => m1 st fun a r => K (mst L n (.inl a)) r h
  | .lstore n => n1 st fun a r => K (mstl L n (.inr (.inl a))) r h
  | .lstore_n n => n1 st fun a r => K (mstl L n (.inr (.inl a))) r h
  | .astore n => match st with
    | .inr (.inr (some a)) :: r => K (mst L n (.inr (.inr (some a)))) r h
    | _ => False
  | .astore_n n => match st with
    | .inr (.inr (some a)) :: r => K (mst L n (.inr (.inr (some a)))) r h
    | _ => False
  | .iinc n d => mldi L n fun z => K (mst L n (.inl (z + d))) st h
  | .iadd => m2 st fun a b r => K L (.inl (a + b) :: r) h
  | .isub => m2 st fun a b r => K L (.inl (a - b) :: r) h
  | .imul => m2 st fun a b r => K L (.inl (a * b) :: r) h
  | .ineg => m1 st fun a r => K L (.inl (-a) :: r) h
  | .idiv => m2 st fun a b r => ((0 ≤ a ∧ a ≤ 2147483647) ∧ 0 < b ∧ b ≤ 2147483647) ∧ K L (.inl (a / b) :: r) h
  | .irem => m2 st fun a b r => ((0 ≤ a ∧ a ≤ 2147483647) ∧ 0 < b ∧ b ≤ 2147483647) ∧ K L (.inl (a % b) :: r) h
  | .ishl => m2 st fun a b r => (0 ≤ a ∧ (0 ≤ b ∧ b < 31) ∧ a * (2 : Int) ^ b.toNat ≤ 2147483647) ∧ K L (.inl (a * (2 : Int) ^ b.toNat) :: r) h
  | .ishr => m2 st fun a b r => ((0 ≤ a ∧ a ≤ 2147483647) ∧ 0 ≤ b ∧ b < 31) ∧ K L (.inl (a / (2 : Int) ^ b.toNat) :: r) h
  | .iushr => m2 st fun a b r => ((0 ≤ a ∧ a ≤ 2147483647) ∧ 0 ≤ b ∧ b < 31) ∧ K L (.inl (a / (2 : Int) ^ b.toNat) :: r) h
  | .iand => m2 st fun a b r => (0 ≤ a ∧ 0 ≤ b) ∧ K L (.inl (zand a b) :: r) h
  | .ior => m2 st fun a b r => (0 ≤ a ∧ 0 ≤ b) ∧ K L (.inl (zor a b) :: r) h
  | .i2l => m1 st fun a r => inI a ∧ K L (.inr (.inl a) :: r) h
  | .l2i => n1 st fun a r => inI a ∧ K L (.inl a :: r) h
  | .ladd => n2 st fun a b r => K L (.inr (.inl (a + b)) :: r) h
  | .lmul => n2 st fun a b r => K L (.inr (.inl (a * b)) :: r) h
  | .ldiv => n2 st fun a b r => (inJ a ∧ inJ b ∧ 0 < b) ∧ K L (.inr (.inl (a / b)) :: r) h
  | .lrem => n2 st fun a b r => (inJ a ∧ inJ b ∧ 0 < b) ∧ K L (.inr (.inl (a % b)) :: r) h
  | .dup => match st with
    | .inl a :: r => K L (.inl a :: .inl a :: r) h
    | .inr (.inr a) :: r => K L (.inr (.inr a) :: .inr (.inr a) :: r) h
    | _ => False
  | .dup2 => match st with
    | .inl b :: .inr (.inr a) :: r => K L (.inl b :: .inr (.inr a) :: .inl b :: .inr (.inr a) :: r) h
    | _ => False
  | .getfield x => match fT x, st with
    | some (ci, k, _), .inr (.inr (some a)) :: r => match h[a]? with
      | some (.inl (cj, fs)) => match fs[k]? with
        | some v => cj = ci ∧ K L (v :: r) h
        | none => False
      | _ => False
    | _, _ => False
  | .putfield x => match fT x, st with
    | some (ci, k, tg), v :: .inr (.inr (some a)) :: r => match h[a]? with
      | some (.inl (cj, fs)) => (cj = ci ∧ k < fs.length ∧ mfit tg v) ∧ K L r (h.set a (.inl (cj, fs.set k v)))
      | _ => False
    | _, _ => False
  | .iaload => match st with
    | .inl i :: .inr (.inr (some a)) :: r => match h[a]? with
      | some (.inr (false, n, f)) => (n < 65536 ∧ 0 ≤ i ∧ i < n) ∧ K L (.inl (f i.toNat) :: r) h
      | _ => False
    | _ => False
  | .iastore => match st with
    | .inl v :: .inl i :: .inr (.inr (some a)) :: r => match h[a]? with
      | some (.inr (false, n, f)) => (n < 65536 ∧ 0 ≤ i ∧ i < n) ∧ K L r (h.set a (.inr (false, n, mup f i.toNat v)))
      | _ => False
    | _ => False
  | .baload => match st with
    | .inl i :: .inr (.inr (some a)) :: r => match h[a]? with
      | some (.inr (true, n, f)) => (n < 65536 ∧ 0 ≤ i ∧ i < n) ∧ K L (.inl (f i.toNat) :: r) h
      | _ => False
    | _ => False
  | .bastore => match st with
    | .inl v :: .inl i :: .inr (.inr (some a)) :: r => match h[a]? with
      | some (.inr (true, n, f)) => ((v = 0 ∨ v = 1) ∧ n < 65536 ∧ 0 ≤ i ∧ i < n) ∧ K L r (h.set a (.inr (true, n, mup f i.toNat v)))
      | _ => False
    | _ => False
  | .arraylength => match st with
    | .inr (.inr (some a)) :: r => match h[a]? with
      | some (.inr (_, n, _)) => n < 65536 ∧ K L (.inl (n : Int) :: r) h
      | _ => False
    | _ => False
  | .goto _ => G tg L st h
  | .ifCond c _ => m1 st fun a r => inI a ∧ (match c with
    | .eq => (a = 0 → G tg L r h) ∧ (¬ a = 0 → K L r h)
    | .ne => (¬ a = 0 → G tg L r h) ∧ (a = 0 → K L r h)
    | .lt => (a < 0 → G tg L r h) ∧ (¬ a < 0 → K L r h)
    | .ge => (0 ≤ a → G tg L r h) ∧ (¬ 0 ≤ a → K L r h)
    | .gt => (0 < a → G tg L r h) ∧ (¬ 0 < a → K L r h)
    | .le => (a ≤ 0 → G tg L r h) ∧ (¬ a ≤ 0 → K L r h))
  | .if_icmp c _ => m2 st fun a b r => (inI a ∧ inI b) ∧ (match c with
    | .eq => (a = b → G tg L r h) ∧ (¬ a = b → K L r h)
    | .ne => (¬ a = b → G tg L r h) ∧ (a = b → K L r h)
    | .lt => (a < b → G tg L r h) ∧ (¬ a < b → K L r h)
    | .ge => (b ≤ a → G tg L r h) ∧ (¬ b ≤ a → K L r h)
    | .gt => (b < a → G tg L r h) ∧ (¬ b < a → K L r h)
    | .le => (a ≤ b → G tg L r h) ∧ (¬ a ≤ b → K L r h))
  | .tableswitch d lo hi os => m1 st fun z r => inI z ∧ (z < lo ∨ hi < z → G ((pc : Int) + d).toNat L r h) ∧ mtsw pc lo z (fun t => G t L r h) os.toList
  | .lookupswitch d ps => m1 st fun z r => inI z ∧ ((∀ q ∈ ps.toList, z ≠ q.1) → G ((pc : Int) + d).toNat L r h) ∧ mlsw pc z (fun t => G t L r h) ps.toList
  | _ => G pc L st h
def blk (fT : Nat → Option (Nat × Nat × Nat)) (kT kJ : Nat → Option Int) (G : Nat → mL → List mV → mH → Prop) : Nat → List mI → mL → List mV → mH → Prop
  | pc, [], L, st, h => G pc L st h
  | pc, (i, len, tg) :: r, L, st, h => stp fT kT kJ i tg pc L st h (fun L st h => blk fT kT kJ G (pc + len) r L st h) G
def sfx : Nat → List mI → Nat → List mI
  | _, [], _ => []
  | pc, (i, len, tg) :: r, t => match Nat.beq pc t with
    | true => (i, len, tg) :: r
    | false => sfx (pc + len) r t
/-- an instruction's length, its goal, its numbers, as the rows want them -/
def sane (nL pc : Nat) (i : Instr) (len tg : Nat) : Bool := match i with
  | .bipush n => len == 2 && decide (-128 ≤ n ∧ n ≤ 127)
  | .sipush n => len == 3 && decide (-32768 ≤ n ∧ n ≤ 32767)
  | .ldc _ => len == 2
  | .ldc2_w _ => len == 3
  | .ldc_w _ => len == 3
  | .iload _ => len == 2
  | .lload _ => len == 2
  | .aload _ => len == 2
  | .istore n => len == 2 && Nat.blt n nL
  | .istore_n n => len == 1 && Nat.blt n nL
  | .lstore n => len == 2 && Nat.blt (n + 1) nL
  | .lstore_n n => len == 1 && Nat.blt (n + 1) nL
  | .astore n => len == 2 && Nat.blt n nL
  | .astore_n n => len == 1 && Nat.blt n nL
  | .iinc n _ => len == 3 && Nat.blt n nL
  | .getfield _ => len == 3
  | .putfield _ => len == 3
  | .goto o => len == 3 && decide ((pc : Int) + o = (tg : Int))
  | .ifCond _ o => len == 3 && decide ((pc : Int) + o = (tg : Int))
  | .if_icmp _ o => len == 3 && decide ((pc : Int) + o = (tg : Int))
  | .tableswitch d lo hi os => decide (0 ≤ (pc : Int) + d ∧ inI lo ∧ inI hi ∧ hi - lo + 1 = os.size ∧ ∀ o ∈ os.toList, 0 ≤ (pc : Int) + o)
  | .lookupswitch d ps => decide (0 ≤ (pc : Int) + d ∧ ∀ o ∈ ps.toList, 0 ≤ (pc : Int) + o.2 ∧ inI o.1) && (ps.toList.zip (ps.toList.drop 1)).all (fun (a, next) => a.1 < next.1)
  | .invokevirtual _ => len == 3
  | .invokespecial _ => len == 3
  | .invokestatic _ => len == 3
  | .new _ => len == 3
  | .newarray _ => len == 2
  | _ => len == 1
def okb (cc : ByteArray) (nL : Nat) : Nat → List mI → Bool
  | _, [] => true
  | pc, (i, len, tg) :: r => decide (decode cc pc = .ok (i, len)) && (sane nL pc i len tg && okb cc nL (pc + len) r)
theorem okb_sfx {cc : ByteArray} {nL t : Nat} : ∀ {pc : Nat} {l : List mI}, okb cc nL pc l = true → okb cc nL t (sfx pc l t) = true
  | _, [], _ => rfl
  | pc, (i, len, tg) :: r, h => by
    unfold sfx
    split
    · rename_i e
      have e := Nat.eq_of_beq_eq_true e
      subst e; exact h
    · simp only [okb, Bool.and_eq_true] at h
      exact okb_sfx h.2.2
theorem okb_head {cc : ByteArray} {nL pc len tg : Nat} {i : Instr} {r : List mI} (h : okb cc nL pc ((i, len, tg) :: r) = true) : decode cc pc = .ok (i, len) ∧ sane nL pc i len tg = true ∧ okb cc nL (pc + len) r = true := by
  simp only [okb, Bool.and_eq_true, decide_eq_true_eq] at h
  exact h
