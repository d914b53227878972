/-! fields, constants -/
def mlook {β : Type} : List (Nat × β) → Nat → Option β
  | [], _ => none
  | (a, b) :: r, x => match Nat.beq a x with
    | true => some b
    | false => mlook r x
theorem mlook_mem {β : Type} : ∀ {l : List (Nat × β)} {x : Nat} {b : β}, mlook l x = some b → (x, b) ∈ l
  | (a, c) :: r, x, b, h => by
    unfold mlook at h
    split at h
    · rename_i e
      have e := Nat.eq_of_beq_eq_true e
      cases h; subst e; exact List.mem_cons_self
    · exact List.mem_cons_of_mem _ (mlook_mem h)
theorem mFT_of {own : String} {l : List (Nat × (Nat × Nat × Nat))} (h : ∀ q ∈ l, mfok own q.1 q.2) : mFT own (mlook l) := fun x q e => h _ (mlook_mem e)
theorem mKT_of {own : String} {l : List (Nat × Int)} (h : ∀ q ∈ l, Cond.constant own q.1 (iN q.2) ∈ mtb) : mKT own (mlook l) := fun x q e => h _ (mlook_mem e)
theorem mKJ_of {own : String} {l : List (Nat × Int)} (h : ∀ q ∈ l, Cond.constantLong own q.1 (jN q.2) ∈ mtb) : mKJ own (mlook l) := fun x q e => h _ (mlook_mem e)
theorem uw_X0 : ∀ w ∈ u_ws RX0 TX0 4, w ∈ mtb := by
  have h : GoodIn lw_tbl (u_ws RX0 TX0 4) := goodIn_r _ [267, 269, 271, 273] (by decide +kernel) (by decide +kernel)
  intro w hw
  refine List.mem_filter.mpr ⟨(h w hw).1, ?_⟩
  exact List.all_eq_true.mp (by decide +kernel : (u_ws RX0 TX0 4).all goodWord = true) w hw
theorem uw_X1 : ∀ w ∈ u_ws RX1 TX1 5, w ∈ mtb := by
  have h : GoodIn lw_tbl (u_ws RX1 TX1 5) := goodIn_r _ [240, 242, 244, 246, 248] (by decide +kernel) (by decide +kernel)
  intro w hw
  refine List.mem_filter.mpr ⟨(h w hw).1, ?_⟩
  exact List.all_eq_true.mp (by decide +kernel : (u_ws RX1 TX1 5).all goodWord = true) w hw
theorem uw_X2 : ∀ w ∈ u_ws RX2 TX2 5, w ∈ mtb := by
  have h : GoodIn lw_tbl (u_ws RX2 TX2 5) := goodIn_r _ [215, 217, 219, 221, 223] (by decide +kernel) (by decide +kernel)
  intro w hw
  refine List.mem_filter.mpr ⟨(h w hw).1, ?_⟩
  exact List.all_eq_true.mp (by decide +kernel : (u_ws RX2 TX2 5).all goodWord = true) w hw
theorem uw_X3 : ∀ w ∈ u_ws RX3 TX3 3, w ∈ mtb := by
  have h : GoodIn lw_tbl (u_ws RX3 TX3 3) := goodIn_r _ [195, 197, 199] (by decide +kernel) (by decide +kernel)
  intro w hw
  refine List.mem_filter.mpr ⟨(h w hw).1, ?_⟩
  exact List.all_eq_true.mp (by decide +kernel : (u_ws RX3 TX3 3).all goodWord = true) w hw
theorem uw_X4 : ∀ w ∈ u_ws RX4 TX4 10, w ∈ mtb := by
  have h : GoodIn lw_tbl (u_ws RX4 TX4 10) := goodIn_r _ [105, 107, 109, 111, 113, 115, 117, 119, 121, 123] (by decide +kernel) (by decide +kernel)
  intro w hw
  refine List.mem_filter.mpr ⟨(h w hw).1, ?_⟩
  exact List.all_eq_true.mp (by decide +kernel : (u_ws RX4 TX4 10).all goodWord = true) w hw
theorem uw_X5 : ∀ w ∈ u_ws RX5 TX5 9, w ∈ mtb := by
  have h : GoodIn lw_tbl (u_ws RX5 TX5 9) := goodIn_r _ [165, 167, 169, 171, 173, 175, 177, 179, 181] (by decide +kernel) (by decide +kernel)
  intro w hw
  refine List.mem_filter.mpr ⟨(h w hw).1, ?_⟩
  exact List.all_eq_true.mp (by decide +kernel : (u_ws RX5 TX5 9).all goodWord = true) w hw
theorem uw_X6 : ∀ w ∈ u_ws RX6 TX6 10, w ∈ mtb := by
  have h : GoodIn lw_tbl (u_ws RX6 TX6 10) := goodIn_r _ [290, 292, 294, 296, 298, 300, 302, 304, 306, 308] (by decide +kernel) (by decide +kernel)
  intro w hw
  refine List.mem_filter.mpr ⟨(h w hw).1, ?_⟩
  exact List.all_eq_true.mp (by decide +kernel : (u_ws RX6 TX6 10).all goodWord = true) w hw
theorem uw_X7 : ∀ w ∈ u_ws RX7 TX7 35, w ∈ mtb := by
  have h : GoodIn lw_tbl (u_ws RX7 TX7 35) := goodIn_r _ [870, 872, 874, 876, 878, 880, 882, 884, 886, 888, 890, 892, 894, 896, 898, 900, 902, 904, 906, 908, 910, 912, 914, 916, 918, 920, 922, 924, 926, 928, 930, 932, 934, 936, 938] (by decide +kernel) (by decide +kernel)
  intro w hw
  refine List.mem_filter.mpr ⟨(h w hw).1, ?_⟩
  exact List.all_eq_true.mp (by decide +kernel : (u_ws RX7 TX7 35).all goodWord = true) w hw
abbrev flX0 : List (Nat × (Nat × Nat × Nat)) := [(9, (0, 0, 4)), (15, (0, 1, 3)), (18, (0, 2, 3)), (21, (0, 3, 0))]
theorem fo_X0_9 : mfok RX0 9 (0, 0, 4) := ⟨RX0, TX0, 4, tyX0, (.array .int), rfl, by decide, uw_X0, tyX0_ok, nmX0, mtb_in (List.mem_of_getElem? (i := 262) (by decide +kernel)) rfl, by decide +kernel, trivial⟩
theorem fo_X0_15 : mfok RX0 15 (0, 1, 3) := ⟨RX0, TX0, 4, tyX0, (.array .int), rfl, by decide, uw_X0, tyX0_ok, nmX0, mtb_in (List.mem_of_getElem? (i := 263) (by decide +kernel)) rfl, by decide +kernel, ⟨Or.inr rfl, rfl⟩⟩
theorem fo_X0_18 : mfok RX0 18 (0, 2, 3) := ⟨RX0, TX0, 4, tyX0, (.array .int), rfl, by decide, uw_X0, tyX0_ok, nmX0, mtb_in (List.mem_of_getElem? (i := 264) (by decide +kernel)) rfl, by decide +kernel, ⟨Or.inr rfl, rfl⟩⟩
theorem fo_X0_21 : mfok RX0 21 (0, 3, 0) := ⟨RX0, TX0, 4, tyX0, .int, rfl, by decide, uw_X0, tyX0_ok, nmX0, mtb_in (List.mem_of_getElem? (i := 265) (by decide +kernel)) rfl, by decide +kernel, ⟨rfl, rfl⟩⟩
theorem fT_X0 : mFT RX0 (mlook flX0) := mFT_of (List.forall_mem_cons.mpr ⟨fo_X0_9, List.forall_mem_cons.mpr ⟨fo_X0_15, List.forall_mem_cons.mpr ⟨fo_X0_18, List.forall_mem_cons.mpr ⟨fo_X0_21, fun _ h => absurd h List.not_mem_nil⟩⟩⟩⟩)
abbrev klX0 : List (Nat × Int) := [(28, 524287), (64, 1000003)]
theorem kT_X0 : mKT RX0 (mlook klX0) := mKT_of (List.forall_mem_cons.mpr ⟨mtb_in (List.mem_of_getElem? (i := 261) (by decide +kernel)) rfl, List.forall_mem_cons.mpr ⟨mtb_in (List.mem_of_getElem? (i := 752) (by decide +kernel)) rfl, fun _ h => absurd h List.not_mem_nil⟩⟩)
abbrev jlX0 : List (Nat × Int) := []
theorem jT_X0 : mKJ RX0 (mlook jlX0) := mKJ_of (fun _ h => absurd h List.not_mem_nil)
abbrev flX1 : List (Nat × (Nat × Nat × Nat)) := [(11, (1, 0, 3)), (15, (1, 1, 3)), (18, (1, 2, 0)), (22, (1, 3, 0)), (25, (1, 4, 0)), (89, (5, 7, 0)), (97, (5, 8, 0))]
theorem fo_X1_11 : mfok RX1 11 (1, 0, 3) := ⟨RX1, TX1, 5, tyX1, (.array .int), rfl, by decide, uw_X1, tyX1_ok, nmX1, mtb_in (List.mem_of_getElem? (i := 232) (by decide +kernel)) rfl, by decide +kernel, ⟨Or.inr rfl, rfl⟩⟩
theorem fo_X1_15 : mfok RX1 15 (1, 1, 3) := ⟨RX1, TX1, 5, tyX1, (.array .int), rfl, by decide, uw_X1, tyX1_ok, nmX1, mtb_in (List.mem_of_getElem? (i := 233) (by decide +kernel)) rfl, by decide +kernel, ⟨Or.inr rfl, rfl⟩⟩
theorem fo_X1_18 : mfok RX1 18 (1, 2, 0) := ⟨RX1, TX1, 5, tyX1, .int, rfl, by decide, uw_X1, tyX1_ok, nmX1, mtb_in (List.mem_of_getElem? (i := 234) (by decide +kernel)) rfl, by decide +kernel, ⟨rfl, rfl⟩⟩
theorem fo_X1_22 : mfok RX1 22 (1, 3, 0) := ⟨RX1, TX1, 5, tyX1, .int, rfl, by decide, uw_X1, tyX1_ok, nmX1, mtb_in (List.mem_of_getElem? (i := 236) (by decide +kernel)) rfl, by decide +kernel, ⟨rfl, rfl⟩⟩
theorem fo_X1_25 : mfok RX1 25 (1, 4, 0) := ⟨RX1, TX1, 5, tyX1, .int, rfl, by decide, uw_X1, tyX1_ok, nmX1, mtb_in (List.mem_of_getElem? (i := 238) (by decide +kernel)) rfl, by decide +kernel, ⟨rfl, rfl⟩⟩
theorem fo_X1_89 : mfok RX1 89 (5, 7, 0) := ⟨RX5, TX5, 9, tyX5, .int, rfl, by decide, uw_X5, tyX5_ok, nmX5, mtb_in (List.mem_of_getElem? (i := 155) (by decide +kernel)) rfl, by decide +kernel, ⟨rfl, rfl⟩⟩
theorem fo_X1_97 : mfok RX1 97 (5, 8, 0) := ⟨RX5, TX5, 9, tyX5, .int, rfl, by decide, uw_X5, tyX5_ok, nmX5, mtb_in (List.mem_of_getElem? (i := 161) (by decide +kernel)) rfl, by decide +kernel, ⟨rfl, rfl⟩⟩
theorem fT_X1 : mFT RX1 (mlook flX1) := mFT_of (List.forall_mem_cons.mpr ⟨fo_X1_11, List.forall_mem_cons.mpr ⟨fo_X1_15, List.forall_mem_cons.mpr ⟨fo_X1_18, List.forall_mem_cons.mpr ⟨fo_X1_22, List.forall_mem_cons.mpr ⟨fo_X1_25, List.forall_mem_cons.mpr ⟨fo_X1_89, List.forall_mem_cons.mpr ⟨fo_X1_97, fun _ h => absurd h List.not_mem_nil⟩⟩⟩⟩⟩⟩⟩)
abbrev klX1 : List (Nat × Int) := []
theorem kT_X1 : mKT RX1 (mlook klX1) := mKT_of (fun _ h => absurd h List.not_mem_nil)
abbrev jlX1 : List (Nat × Int) := []
theorem jT_X1 : mKJ RX1 (mlook jlX1) := mKJ_of (fun _ h => absurd h List.not_mem_nil)
abbrev flX2 : List (Nat × (Nat × Nat × Nat)) := [(9, (2, 0, 3)), (15, (2, 1, 3)), (18, (2, 2, 1)), (22, (2, 3, 0)), (26, (2, 4, 0)), (79, (5, 7, 0))]
theorem fo_X2_9 : mfok RX2 9 (2, 0, 3) := ⟨RX2, TX2, 5, tyX2, (.array .int), rfl, by decide, uw_X2, tyX2_ok, nmX2, mtb_in (List.mem_of_getElem? (i := 208) (by decide +kernel)) rfl, by decide +kernel, ⟨Or.inr rfl, rfl⟩⟩
theorem fo_X2_15 : mfok RX2 15 (2, 1, 3) := ⟨RX2, TX2, 5, tyX2, (.array .int), rfl, by decide, uw_X2, tyX2_ok, nmX2, mtb_in (List.mem_of_getElem? (i := 209) (by decide +kernel)) rfl, by decide +kernel, ⟨Or.inr rfl, rfl⟩⟩
theorem fo_X2_18 : mfok RX2 18 (2, 2, 1) := ⟨RX2, TX2, 5, tyX2, .boolean, rfl, by decide, uw_X2, tyX2_ok, nmX2, mtb_in (List.mem_of_getElem? (i := 210) (by decide +kernel)) rfl, by decide +kernel, ⟨rfl, rfl⟩⟩
theorem fo_X2_22 : mfok RX2 22 (2, 3, 0) := ⟨RX2, TX2, 5, tyX2, .int, rfl, by decide, uw_X2, tyX2_ok, nmX2, mtb_in (List.mem_of_getElem? (i := 211) (by decide +kernel)) rfl, by decide +kernel, ⟨rfl, rfl⟩⟩
theorem fo_X2_26 : mfok RX2 26 (2, 4, 0) := ⟨RX2, TX2, 5, tyX2, .int, rfl, by decide, uw_X2, tyX2_ok, nmX2, mtb_in (List.mem_of_getElem? (i := 213) (by decide +kernel)) rfl, by decide +kernel, ⟨rfl, rfl⟩⟩
theorem fo_X2_79 : mfok RX2 79 (5, 7, 0) := ⟨RX5, TX5, 9, tyX5, .int, rfl, by decide, uw_X5, tyX5_ok, nmX5, mtb_in (List.mem_of_getElem? (i := 156) (by decide +kernel)) rfl, by decide +kernel, ⟨rfl, rfl⟩⟩
theorem fT_X2 : mFT RX2 (mlook flX2) := mFT_of (List.forall_mem_cons.mpr ⟨fo_X2_9, List.forall_mem_cons.mpr ⟨fo_X2_15, List.forall_mem_cons.mpr ⟨fo_X2_18, List.forall_mem_cons.mpr ⟨fo_X2_22, List.forall_mem_cons.mpr ⟨fo_X2_26, List.forall_mem_cons.mpr ⟨fo_X2_79, fun _ h => absurd h List.not_mem_nil⟩⟩⟩⟩⟩⟩)
abbrev klX2 : List (Nat × Int) := [(45, -1000000)]
theorem kT_X2 : mKT RX2 (mlook klX2) := mKT_of (List.forall_mem_cons.mpr ⟨mtb_in (List.mem_of_getElem? (i := 649) (by decide +kernel)) rfl, fun _ h => absurd h List.not_mem_nil⟩)
abbrev jlX2 : List (Nat × Int) := []
theorem jT_X2 : mKJ RX2 (mlook jlX2) := mKJ_of (fun _ h => absurd h List.not_mem_nil)
abbrev flX3 : List (Nat × (Nat × Nat × Nat)) := [(11, (3, 0, 4)), (15, (3, 1, 0)), (19, (3, 2, 1)), (37, (5, 3, 0)), (71, (5, 5, 0)), (107, (5, 7, 0)), (110, (5, 8, 0))]
theorem fo_X3_11 : mfok RX3 11 (3, 0, 4) := ⟨RX3, TX3, 3, tyX3, (.array .int), rfl, by decide, uw_X3, tyX3_ok, nmX3, mtb_in (List.mem_of_getElem? (i := 190) (by decide +kernel)) rfl, by decide +kernel, trivial⟩
theorem fo_X3_15 : mfok RX3 15 (3, 1, 0) := ⟨RX3, TX3, 3, tyX3, .int, rfl, by decide, uw_X3, tyX3_ok, nmX3, mtb_in (List.mem_of_getElem? (i := 191) (by decide +kernel)) rfl, by decide +kernel, ⟨rfl, rfl⟩⟩
theorem fo_X3_19 : mfok RX3 19 (3, 2, 1) := ⟨RX3, TX3, 3, tyX3, .boolean, rfl, by decide, uw_X3, tyX3_ok, nmX3, mtb_in (List.mem_of_getElem? (i := 193) (by decide +kernel)) rfl, by decide +kernel, ⟨rfl, rfl⟩⟩
theorem fo_X3_37 : mfok RX3 37 (5, 3, 0) := ⟨RX5, TX5, 9, tyX5, .int, rfl, by decide, uw_X5, tyX5_ok, nmX5, mtb_in (List.mem_of_getElem? (i := 142) (by decide +kernel)) rfl, by decide +kernel, ⟨rfl, rfl⟩⟩
theorem fo_X3_71 : mfok RX3 71 (5, 5, 0) := ⟨RX5, TX5, 9, tyX5, .int, rfl, by decide, uw_X5, tyX5_ok, nmX5, mtb_in (List.mem_of_getElem? (i := 149) (by decide +kernel)) rfl, by decide +kernel, ⟨rfl, rfl⟩⟩
theorem fo_X3_107 : mfok RX3 107 (5, 7, 0) := ⟨RX5, TX5, 9, tyX5, .int, rfl, by decide, uw_X5, tyX5_ok, nmX5, mtb_in (List.mem_of_getElem? (i := 158) (by decide +kernel)) rfl, by decide +kernel, ⟨rfl, rfl⟩⟩
theorem fo_X3_110 : mfok RX3 110 (5, 8, 0) := ⟨RX5, TX5, 9, tyX5, .int, rfl, by decide, uw_X5, tyX5_ok, nmX5, mtb_in (List.mem_of_getElem? (i := 163) (by decide +kernel)) rfl, by decide +kernel, ⟨rfl, rfl⟩⟩
theorem fT_X3 : mFT RX3 (mlook flX3) := mFT_of (List.forall_mem_cons.mpr ⟨fo_X3_11, List.forall_mem_cons.mpr ⟨fo_X3_15, List.forall_mem_cons.mpr ⟨fo_X3_19, List.forall_mem_cons.mpr ⟨fo_X3_37, List.forall_mem_cons.mpr ⟨fo_X3_71, List.forall_mem_cons.mpr ⟨fo_X3_107, List.forall_mem_cons.mpr ⟨fo_X3_110, fun _ h => absurd h List.not_mem_nil⟩⟩⟩⟩⟩⟩⟩)
abbrev klX3 : List (Nat × Int) := []
theorem kT_X3 : mKT RX3 (mlook klX3) := mKT_of (fun _ h => absurd h List.not_mem_nil)
abbrev jlX3 : List (Nat × Int) := [(113, 7919), (115, 6151), (117, 65521), (119, 8), (121, 10)]
theorem jT_X3 : mKJ RX3 (mlook jlX3) := mKJ_of (List.forall_mem_cons.mpr ⟨mtb_in (List.mem_of_getElem? (i := 516) (by decide +kernel)) rfl, List.forall_mem_cons.mpr ⟨mtb_in (List.mem_of_getElem? (i := 517) (by decide +kernel)) rfl, List.forall_mem_cons.mpr ⟨mtb_in (List.mem_of_getElem? (i := 518) (by decide +kernel)) rfl, List.forall_mem_cons.mpr ⟨mtb_in (List.mem_of_getElem? (i := 519) (by decide +kernel)) rfl, List.forall_mem_cons.mpr ⟨mtb_in (List.mem_of_getElem? (i := 520) (by decide +kernel)) rfl, fun _ h => absurd h List.not_mem_nil⟩⟩⟩⟩⟩)
abbrev flX4 : List (Nat × (Nat × Nat × Nat)) := [(9, (4, 0, 4)), (15, (4, 1, 0)), (19, (4, 2, 0)), (22, (4, 3, 0)), (25, (4, 4, 0)), (28, (4, 5, 0)), (31, (4, 6, 0)), (34, (4, 7, 1)), (38, (4, 8, 1)), (41, (4, 9, 1)), (74, (5, 3, 0)), (93, (5, 4, 0)), (100, (5, 5, 0)), (107, (5, 6, 0)), (110, (5, 7, 0)), (113, (5, 8, 0))]
theorem fo_X4_9 : mfok RX4 9 (4, 0, 4) := ⟨RX4, TX4, 10, tyX4, (.array .int), rfl, by decide, uw_X4, tyX4_ok, nmX4, mtb_in (List.mem_of_getElem? (i := 94) (by decide +kernel)) rfl, by decide +kernel, trivial⟩
theorem fo_X4_15 : mfok RX4 15 (4, 1, 0) := ⟨RX4, TX4, 10, tyX4, .int, rfl, by decide, uw_X4, tyX4_ok, nmX4, mtb_in (List.mem_of_getElem? (i := 95) (by decide +kernel)) rfl, by decide +kernel, ⟨rfl, rfl⟩⟩
theorem fo_X4_19 : mfok RX4 19 (4, 2, 0) := ⟨RX4, TX4, 10, tyX4, .int, rfl, by decide, uw_X4, tyX4_ok, nmX4, mtb_in (List.mem_of_getElem? (i := 97) (by decide +kernel)) rfl, by decide +kernel, ⟨rfl, rfl⟩⟩
theorem fo_X4_22 : mfok RX4 22 (4, 3, 0) := ⟨RX4, TX4, 10, tyX4, .int, rfl, by decide, uw_X4, tyX4_ok, nmX4, mtb_in (List.mem_of_getElem? (i := 98) (by decide +kernel)) rfl, by decide +kernel, ⟨rfl, rfl⟩⟩
theorem fo_X4_25 : mfok RX4 25 (4, 4, 0) := ⟨RX4, TX4, 10, tyX4, .int, rfl, by decide, uw_X4, tyX4_ok, nmX4, mtb_in (List.mem_of_getElem? (i := 99) (by decide +kernel)) rfl, by decide +kernel, ⟨rfl, rfl⟩⟩
theorem fo_X4_28 : mfok RX4 28 (4, 5, 0) := ⟨RX4, TX4, 10, tyX4, .int, rfl, by decide, uw_X4, tyX4_ok, nmX4, mtb_in (List.mem_of_getElem? (i := 100) (by decide +kernel)) rfl, by decide +kernel, ⟨rfl, rfl⟩⟩
theorem fo_X4_31 : mfok RX4 31 (4, 6, 0) := ⟨RX4, TX4, 10, tyX4, .int, rfl, by decide, uw_X4, tyX4_ok, nmX4, mtb_in (List.mem_of_getElem? (i := 101) (by decide +kernel)) rfl, by decide +kernel, ⟨rfl, rfl⟩⟩
theorem fo_X4_34 : mfok RX4 34 (4, 7, 1) := ⟨RX4, TX4, 10, tyX4, .boolean, rfl, by decide, uw_X4, tyX4_ok, nmX4, mtb_in (List.mem_of_getElem? (i := 102) (by decide +kernel)) rfl, by decide +kernel, ⟨rfl, rfl⟩⟩
theorem fo_X4_38 : mfok RX4 38 (4, 8, 1) := ⟨RX4, TX4, 10, tyX4, .boolean, rfl, by decide, uw_X4, tyX4_ok, nmX4, mtb_in (List.mem_of_getElem? (i := 103) (by decide +kernel)) rfl, by decide +kernel, ⟨rfl, rfl⟩⟩
theorem fo_X4_41 : mfok RX4 41 (4, 9, 1) := ⟨RX4, TX4, 10, tyX4, .boolean, rfl, by decide, uw_X4, tyX4_ok, nmX4, mtb_in (List.mem_of_getElem? (i := 104) (by decide +kernel)) rfl, by decide +kernel, ⟨rfl, rfl⟩⟩
theorem fo_X4_74 : mfok RX4 74 (5, 3, 0) := ⟨RX5, TX5, 9, tyX5, .int, rfl, by decide, uw_X5, tyX5_ok, nmX5, mtb_in (List.mem_of_getElem? (i := 141) (by decide +kernel)) rfl, by decide +kernel, ⟨rfl, rfl⟩⟩
theorem fo_X4_93 : mfok RX4 93 (5, 4, 0) := ⟨RX5, TX5, 9, tyX5, .int, rfl, by decide, uw_X5, tyX5_ok, nmX5, mtb_in (List.mem_of_getElem? (i := 145) (by decide +kernel)) rfl, by decide +kernel, ⟨rfl, rfl⟩⟩
theorem fo_X4_100 : mfok RX4 100 (5, 5, 0) := ⟨RX5, TX5, 9, tyX5, .int, rfl, by decide, uw_X5, tyX5_ok, nmX5, mtb_in (List.mem_of_getElem? (i := 148) (by decide +kernel)) rfl, by decide +kernel, ⟨rfl, rfl⟩⟩
theorem fo_X4_107 : mfok RX4 107 (5, 6, 0) := ⟨RX5, TX5, 9, tyX5, .int, rfl, by decide, uw_X5, tyX5_ok, nmX5, mtb_in (List.mem_of_getElem? (i := 153) (by decide +kernel)) rfl, by decide +kernel, ⟨rfl, rfl⟩⟩
theorem fo_X4_110 : mfok RX4 110 (5, 7, 0) := ⟨RX5, TX5, 9, tyX5, .int, rfl, by decide, uw_X5, tyX5_ok, nmX5, mtb_in (List.mem_of_getElem? (i := 157) (by decide +kernel)) rfl, by decide +kernel, ⟨rfl, rfl⟩⟩
theorem fo_X4_113 : mfok RX4 113 (5, 8, 0) := ⟨RX5, TX5, 9, tyX5, .int, rfl, by decide, uw_X5, tyX5_ok, nmX5, mtb_in (List.mem_of_getElem? (i := 162) (by decide +kernel)) rfl, by decide +kernel, ⟨rfl, rfl⟩⟩
theorem fT_X4 : mFT RX4 (mlook flX4) := mFT_of (List.forall_mem_cons.mpr ⟨fo_X4_9, List.forall_mem_cons.mpr ⟨fo_X4_15, List.forall_mem_cons.mpr ⟨fo_X4_19, List.forall_mem_cons.mpr ⟨fo_X4_22, List.forall_mem_cons.mpr ⟨fo_X4_25, List.forall_mem_cons.mpr ⟨fo_X4_28, List.forall_mem_cons.mpr ⟨fo_X4_31, List.forall_mem_cons.mpr ⟨fo_X4_34, List.forall_mem_cons.mpr ⟨fo_X4_38, List.forall_mem_cons.mpr ⟨fo_X4_41, List.forall_mem_cons.mpr ⟨fo_X4_74, List.forall_mem_cons.mpr ⟨fo_X4_93, List.forall_mem_cons.mpr ⟨fo_X4_100, List.forall_mem_cons.mpr ⟨fo_X4_107, List.forall_mem_cons.mpr ⟨fo_X4_110, List.forall_mem_cons.mpr ⟨fo_X4_113, fun _ h => absurd h List.not_mem_nil⟩⟩⟩⟩⟩⟩⟩⟩⟩⟩⟩⟩⟩⟩⟩⟩)
abbrev klX4 : List (Nat × Int) := []
theorem kT_X4 : mKT RX4 (mlook klX4) := mKT_of (fun _ h => absurd h List.not_mem_nil)
abbrev jlX4 : List (Nat × Int) := []
theorem jT_X4 : mKJ RX4 (mlook jlX4) := mKJ_of (fun _ h => absurd h List.not_mem_nil)
abbrev flX5 : List (Nat × (Nat × Nat × Nat)) := [(9, (5, 0, 4)), (15, (5, 1, 4)), (18, (5, 2, 4)), (24, (5, 3, 0)), (28, (5, 4, 0)), (31, (5, 5, 0)), (34, (5, 6, 0)), (37, (5, 7, 0)), (40, (5, 8, 0))]
theorem fo_X5_9 : mfok RX5 9 (5, 0, 4) := ⟨RX5, TX5, 9, tyX5, (.array .int), rfl, by decide, uw_X5, tyX5_ok, nmX5, mtb_in (List.mem_of_getElem? (i := 137) (by decide +kernel)) rfl, by decide +kernel, trivial⟩
theorem fo_X5_15 : mfok RX5 15 (5, 1, 4) := ⟨RX5, TX5, 9, tyX5, (.array .int), rfl, by decide, uw_X5, tyX5_ok, nmX5, mtb_in (List.mem_of_getElem? (i := 138) (by decide +kernel)) rfl, by decide +kernel, trivial⟩
theorem fo_X5_18 : mfok RX5 18 (5, 2, 4) := ⟨RX5, TX5, 9, tyX5, (.array .int), rfl, by decide, uw_X5, tyX5_ok, nmX5, mtb_in (List.mem_of_getElem? (i := 139) (by decide +kernel)) rfl, by decide +kernel, trivial⟩
theorem fo_X5_24 : mfok RX5 24 (5, 3, 0) := ⟨RX5, TX5, 9, tyX5, .int, rfl, by decide, uw_X5, tyX5_ok, nmX5, mtb_in (List.mem_of_getElem? (i := 140) (by decide +kernel)) rfl, by decide +kernel, ⟨rfl, rfl⟩⟩
theorem fo_X5_28 : mfok RX5 28 (5, 4, 0) := ⟨RX5, TX5, 9, tyX5, .int, rfl, by decide, uw_X5, tyX5_ok, nmX5, mtb_in (List.mem_of_getElem? (i := 144) (by decide +kernel)) rfl, by decide +kernel, ⟨rfl, rfl⟩⟩
theorem fo_X5_31 : mfok RX5 31 (5, 5, 0) := ⟨RX5, TX5, 9, tyX5, .int, rfl, by decide, uw_X5, tyX5_ok, nmX5, mtb_in (List.mem_of_getElem? (i := 147) (by decide +kernel)) rfl, by decide +kernel, ⟨rfl, rfl⟩⟩
theorem fo_X5_34 : mfok RX5 34 (5, 6, 0) := ⟨RX5, TX5, 9, tyX5, .int, rfl, by decide, uw_X5, tyX5_ok, nmX5, mtb_in (List.mem_of_getElem? (i := 152) (by decide +kernel)) rfl, by decide +kernel, ⟨rfl, rfl⟩⟩
theorem fo_X5_37 : mfok RX5 37 (5, 7, 0) := ⟨RX5, TX5, 9, tyX5, .int, rfl, by decide, uw_X5, tyX5_ok, nmX5, mtb_in (List.mem_of_getElem? (i := 154) (by decide +kernel)) rfl, by decide +kernel, ⟨rfl, rfl⟩⟩
theorem fo_X5_40 : mfok RX5 40 (5, 8, 0) := ⟨RX5, TX5, 9, tyX5, .int, rfl, by decide, uw_X5, tyX5_ok, nmX5, mtb_in (List.mem_of_getElem? (i := 160) (by decide +kernel)) rfl, by decide +kernel, ⟨rfl, rfl⟩⟩
theorem fT_X5 : mFT RX5 (mlook flX5) := mFT_of (List.forall_mem_cons.mpr ⟨fo_X5_9, List.forall_mem_cons.mpr ⟨fo_X5_15, List.forall_mem_cons.mpr ⟨fo_X5_18, List.forall_mem_cons.mpr ⟨fo_X5_24, List.forall_mem_cons.mpr ⟨fo_X5_28, List.forall_mem_cons.mpr ⟨fo_X5_31, List.forall_mem_cons.mpr ⟨fo_X5_34, List.forall_mem_cons.mpr ⟨fo_X5_37, List.forall_mem_cons.mpr ⟨fo_X5_40, fun _ h => absurd h List.not_mem_nil⟩⟩⟩⟩⟩⟩⟩⟩⟩)
abbrev klX5 : List (Nat × Int) := [(43, -1000000)]
theorem kT_X5 : mKT RX5 (mlook klX5) := mKT_of (List.forall_mem_cons.mpr ⟨mtb_in (List.mem_of_getElem? (i := 427) (by decide +kernel)) rfl, fun _ h => absurd h List.not_mem_nil⟩)
abbrev jlX5 : List (Nat × Int) := []
theorem jT_X5 : mKJ RX5 (mlook jlX5) := mKJ_of (fun _ h => absurd h List.not_mem_nil)
abbrev flX6 : List (Nat × (Nat × Nat × Nat)) := [(10, (6, 0, 4)), (19, (6, 1, 3)), (23, (6, 2, 3)), (29, (6, 3, 4)), (33, (6, 4, 4)), (36, (6, 5, 4)), (42, (6, 6, 4)), (49, (6, 7, 4)), (56, (6, 8, 4)), (60, (6, 9, 2)), (64, (5, 6, 0)), (76, (4, 1, 0)), (83, (3, 2, 1)), (94, (5, 4, 0)), (145, (3, 1, 0)), (172, (1, 4, 0)), (175, (1, 2, 0)), (178, (1, 3, 0)), (185, (2, 4, 0)), (186, (2, 3, 0)), (199, (0, 3, 0)), (233, (5, 3, 0)), (236, (5, 5, 0)), (239, (5, 7, 0)), (242, (5, 8, 0))]
theorem fo_X6_10 : mfok RX6 10 (6, 0, 4) := ⟨RX6, TX6, 10, tyX6, (.object "TowerPrisoner$Text"), rfl, by decide, uw_X6, tyX6_ok, nmX6, mtb_in (List.mem_of_getElem? (i := 280) (by decide +kernel)) rfl, by decide +kernel, trivial⟩
theorem fo_X6_19 : mfok RX6 19 (6, 1, 3) := ⟨RX6, TX6, 10, tyX6, (.object "TowerPrisoner$Told"), rfl, by decide, uw_X6, tyX6_ok, nmX6, mtb_in (List.mem_of_getElem? (i := 281) (by decide +kernel)) rfl, by decide +kernel, ⟨Or.inl ⟨_, rfl⟩, rfl⟩⟩
theorem fo_X6_23 : mfok RX6 23 (6, 2, 3) := ⟨RX6, TX6, 10, tyX6, (.object "TowerPrisoner$Told"), rfl, by decide, uw_X6, tyX6_ok, nmX6, mtb_in (List.mem_of_getElem? (i := 282) (by decide +kernel)) rfl, by decide +kernel, ⟨Or.inl ⟨_, rfl⟩, rfl⟩⟩
theorem fo_X6_29 : mfok RX6 29 (6, 3, 4) := ⟨RX6, TX6, 10, tyX6, (.object "TowerPrisoner$Story"), rfl, by decide, uw_X6, tyX6_ok, nmX6, mtb_in (List.mem_of_getElem? (i := 283) (by decide +kernel)) rfl, by decide +kernel, trivial⟩
theorem fo_X6_33 : mfok RX6 33 (6, 4, 4) := ⟨RX6, TX6, 10, tyX6, (.object "TowerPrisoner$Story"), rfl, by decide, uw_X6, tyX6_ok, nmX6, mtb_in (List.mem_of_getElem? (i := 284) (by decide +kernel)) rfl, by decide +kernel, trivial⟩
theorem fo_X6_36 : mfok RX6 36 (6, 5, 4) := ⟨RX6, TX6, 10, tyX6, (.object "TowerPrisoner$Story"), rfl, by decide, uw_X6, tyX6_ok, nmX6, mtb_in (List.mem_of_getElem? (i := 285) (by decide +kernel)) rfl, by decide +kernel, trivial⟩
theorem fo_X6_42 : mfok RX6 42 (6, 6, 4) := ⟨RX6, TX6, 10, tyX6, (.object "TowerPrisoner$Plan"), rfl, by decide, uw_X6, tyX6_ok, nmX6, mtb_in (List.mem_of_getElem? (i := 286) (by decide +kernel)) rfl, by decide +kernel, trivial⟩
theorem fo_X6_49 : mfok RX6 49 (6, 7, 4) := ⟨RX6, TX6, 10, tyX6, (.object "TowerPrisoner$Odds"), rfl, by decide, uw_X6, tyX6_ok, nmX6, mtb_in (List.mem_of_getElem? (i := 287) (by decide +kernel)) rfl, by decide +kernel, trivial⟩
theorem fo_X6_56 : mfok RX6 56 (6, 8, 4) := ⟨RX6, TX6, 10, tyX6, (.object "TowerPrisoner$Hearsay"), rfl, by decide, uw_X6, tyX6_ok, nmX6, mtb_in (List.mem_of_getElem? (i := 288) (by decide +kernel)) rfl, by decide +kernel, trivial⟩
theorem fo_X6_60 : mfok RX6 60 (6, 9, 2) := ⟨RX6, TX6, 10, tyX6, .long, rfl, by decide, uw_X6, tyX6_ok, nmX6, mtb_in (List.mem_of_getElem? (i := 289) (by decide +kernel)) rfl, by decide +kernel, ⟨rfl, rfl⟩⟩
theorem fo_X6_64 : mfok RX6 64 (5, 6, 0) := ⟨RX5, TX5, 9, tyX5, .int, rfl, by decide, uw_X5, tyX5_ok, nmX5, mtb_in (List.mem_of_getElem? (i := 151) (by decide +kernel)) rfl, by decide +kernel, ⟨rfl, rfl⟩⟩
theorem fo_X6_76 : mfok RX6 76 (4, 1, 0) := ⟨RX4, TX4, 10, tyX4, .int, rfl, by decide, uw_X4, tyX4_ok, nmX4, mtb_in (List.mem_of_getElem? (i := 96) (by decide +kernel)) rfl, by decide +kernel, ⟨rfl, rfl⟩⟩
theorem fo_X6_83 : mfok RX6 83 (3, 2, 1) := ⟨RX3, TX3, 3, tyX3, .boolean, rfl, by decide, uw_X3, tyX3_ok, nmX3, mtb_in (List.mem_of_getElem? (i := 194) (by decide +kernel)) rfl, by decide +kernel, ⟨rfl, rfl⟩⟩
theorem fo_X6_94 : mfok RX6 94 (5, 4, 0) := ⟨RX5, TX5, 9, tyX5, .int, rfl, by decide, uw_X5, tyX5_ok, nmX5, mtb_in (List.mem_of_getElem? (i := 146) (by decide +kernel)) rfl, by decide +kernel, ⟨rfl, rfl⟩⟩
theorem fo_X6_145 : mfok RX6 145 (3, 1, 0) := ⟨RX3, TX3, 3, tyX3, .int, rfl, by decide, uw_X3, tyX3_ok, nmX3, mtb_in (List.mem_of_getElem? (i := 192) (by decide +kernel)) rfl, by decide +kernel, ⟨rfl, rfl⟩⟩
theorem fo_X6_172 : mfok RX6 172 (1, 4, 0) := ⟨RX1, TX1, 5, tyX1, .int, rfl, by decide, uw_X1, tyX1_ok, nmX1, mtb_in (List.mem_of_getElem? (i := 239) (by decide +kernel)) rfl, by decide +kernel, ⟨rfl, rfl⟩⟩
theorem fo_X6_175 : mfok RX6 175 (1, 2, 0) := ⟨RX1, TX1, 5, tyX1, .int, rfl, by decide, uw_X1, tyX1_ok, nmX1, mtb_in (List.mem_of_getElem? (i := 235) (by decide +kernel)) rfl, by decide +kernel, ⟨rfl, rfl⟩⟩
theorem fo_X6_178 : mfok RX6 178 (1, 3, 0) := ⟨RX1, TX1, 5, tyX1, .int, rfl, by decide, uw_X1, tyX1_ok, nmX1, mtb_in (List.mem_of_getElem? (i := 237) (by decide +kernel)) rfl, by decide +kernel, ⟨rfl, rfl⟩⟩
theorem fo_X6_185 : mfok RX6 185 (2, 4, 0) := ⟨RX2, TX2, 5, tyX2, .int, rfl, by decide, uw_X2, tyX2_ok, nmX2, mtb_in (List.mem_of_getElem? (i := 214) (by decide +kernel)) rfl, by decide +kernel, ⟨rfl, rfl⟩⟩
theorem fo_X6_186 : mfok RX6 186 (2, 3, 0) := ⟨RX2, TX2, 5, tyX2, .int, rfl, by decide, uw_X2, tyX2_ok, nmX2, mtb_in (List.mem_of_getElem? (i := 212) (by decide +kernel)) rfl, by decide +kernel, ⟨rfl, rfl⟩⟩
theorem fo_X6_199 : mfok RX6 199 (0, 3, 0) := ⟨RX0, TX0, 4, tyX0, .int, rfl, by decide, uw_X0, tyX0_ok, nmX0, mtb_in (List.mem_of_getElem? (i := 266) (by decide +kernel)) rfl, by decide +kernel, ⟨rfl, rfl⟩⟩
theorem fo_X6_233 : mfok RX6 233 (5, 3, 0) := ⟨RX5, TX5, 9, tyX5, .int, rfl, by decide, uw_X5, tyX5_ok, nmX5, mtb_in (List.mem_of_getElem? (i := 143) (by decide +kernel)) rfl, by decide +kernel, ⟨rfl, rfl⟩⟩
theorem fo_X6_236 : mfok RX6 236 (5, 5, 0) := ⟨RX5, TX5, 9, tyX5, .int, rfl, by decide, uw_X5, tyX5_ok, nmX5, mtb_in (List.mem_of_getElem? (i := 150) (by decide +kernel)) rfl, by decide +kernel, ⟨rfl, rfl⟩⟩
theorem fo_X6_239 : mfok RX6 239 (5, 7, 0) := ⟨RX5, TX5, 9, tyX5, .int, rfl, by decide, uw_X5, tyX5_ok, nmX5, mtb_in (List.mem_of_getElem? (i := 159) (by decide +kernel)) rfl, by decide +kernel, ⟨rfl, rfl⟩⟩
theorem fo_X6_242 : mfok RX6 242 (5, 8, 0) := ⟨RX5, TX5, 9, tyX5, .int, rfl, by decide, uw_X5, tyX5_ok, nmX5, mtb_in (List.mem_of_getElem? (i := 164) (by decide +kernel)) rfl, by decide +kernel, ⟨rfl, rfl⟩⟩
theorem fT_X6 : mFT RX6 (mlook flX6) := mFT_of (List.forall_mem_cons.mpr ⟨fo_X6_10, List.forall_mem_cons.mpr ⟨fo_X6_19, List.forall_mem_cons.mpr ⟨fo_X6_23, List.forall_mem_cons.mpr ⟨fo_X6_29, List.forall_mem_cons.mpr ⟨fo_X6_33, List.forall_mem_cons.mpr ⟨fo_X6_36, List.forall_mem_cons.mpr ⟨fo_X6_42, List.forall_mem_cons.mpr ⟨fo_X6_49, List.forall_mem_cons.mpr ⟨fo_X6_56, List.forall_mem_cons.mpr ⟨fo_X6_60, List.forall_mem_cons.mpr ⟨fo_X6_64, List.forall_mem_cons.mpr ⟨fo_X6_76, List.forall_mem_cons.mpr ⟨fo_X6_83, List.forall_mem_cons.mpr ⟨fo_X6_94, List.forall_mem_cons.mpr ⟨fo_X6_145, List.forall_mem_cons.mpr ⟨fo_X6_172, List.forall_mem_cons.mpr ⟨fo_X6_175, List.forall_mem_cons.mpr ⟨fo_X6_178, List.forall_mem_cons.mpr ⟨fo_X6_185, List.forall_mem_cons.mpr ⟨fo_X6_186, List.forall_mem_cons.mpr ⟨fo_X6_199, List.forall_mem_cons.mpr ⟨fo_X6_233, List.forall_mem_cons.mpr ⟨fo_X6_236, List.forall_mem_cons.mpr ⟨fo_X6_239, List.forall_mem_cons.mpr ⟨fo_X6_242, fun _ h => absurd h List.not_mem_nil⟩⟩⟩⟩⟩⟩⟩⟩⟩⟩⟩⟩⟩⟩⟩⟩⟩⟩⟩⟩⟩⟩⟩⟩⟩)
abbrev klX6 : List (Nat × Int) := [(97, -1000000)]
theorem kT_X6 : mKT RX6 (mlook klX6) := mKT_of (List.forall_mem_cons.mpr ⟨mtb_in (List.mem_of_getElem? (i := 422) (by decide +kernel)) rfl, fun _ h => absurd h List.not_mem_nil⟩)
abbrev jlX6 : List (Nat × Int) := [(245, 10), (247, 100), (249, 1000), (251, 10000), (253, 100000)]
theorem jT_X6 : mKJ RX6 (mlook jlX6) := mKJ_of (List.forall_mem_cons.mpr ⟨mtb_in (List.mem_of_getElem? (i := 788) (by decide +kernel)) rfl, List.forall_mem_cons.mpr ⟨mtb_in (List.mem_of_getElem? (i := 793) (by decide +kernel)) rfl, List.forall_mem_cons.mpr ⟨mtb_in (List.mem_of_getElem? (i := 798) (by decide +kernel)) rfl, List.forall_mem_cons.mpr ⟨mtb_in (List.mem_of_getElem? (i := 803) (by decide +kernel)) rfl, List.forall_mem_cons.mpr ⟨mtb_in (List.mem_of_getElem? (i := 808) (by decide +kernel)) rfl, fun _ h => absurd h List.not_mem_nil⟩⟩⟩⟩⟩)
abbrev flX7 : List (Nat × (Nat × Nat × Nat)) := [(7, (7, 1, 4)), (13, (7, 3, 4)), (16, (7, 5, 4)), (19, (7, 6, 0)), (23, (7, 7, 0)), (26, (7, 8, 4)), (29, (7, 9, 4)), (32, (7, 10, 4)), (36, (7, 12, 4)), (39, (7, 14, 4)), (42, (7, 23, 4)), (45, (7, 25, 4)), (48, (7, 27, 4)), (51, (7, 31, 4)), (54, (7, 32, 4)), (57, (7, 33, 4)), (60, (7, 34, 4)), (63, (7, 4, 0)), (70, (7, 15, 0)), (73, (7, 16, 0)), (80, (7, 17, 0)), (83, (7, 19, 0)), (86, (7, 18, 0)), (96, (7, 20, 1)), (103, (7, 24, 0)), (110, (7, 22, 0)), (113, (7, 26, 0)), (116, (7, 28, 0)), (119, (7, 29, 0)), (122, (7, 30, 0)), (135, (7, 21, 0)), (144, (7, 0, 0)), (147, (7, 2, 0)), (150, (7, 11, 0)), (251, (7, 13, 2))]
theorem fo_X7_7 : mfok RX7 7 (7, 1, 4) := ⟨RX7, TX7, 35, tyX7, (.array .int), rfl, by decide, uw_X7, tyX7_ok, nmX7, mtb_in (List.mem_of_getElem? (i := 836) (by decide +kernel)) rfl, by decide +kernel, trivial⟩
theorem fo_X7_13 : mfok RX7 13 (7, 3, 4) := ⟨RX7, TX7, 35, tyX7, (.array .int), rfl, by decide, uw_X7, tyX7_ok, nmX7, mtb_in (List.mem_of_getElem? (i := 838) (by decide +kernel)) rfl, by decide +kernel, trivial⟩
theorem fo_X7_16 : mfok RX7 16 (7, 5, 4) := ⟨RX7, TX7, 35, tyX7, (.array .int), rfl, by decide, uw_X7, tyX7_ok, nmX7, mtb_in (List.mem_of_getElem? (i := 840) (by decide +kernel)) rfl, by decide +kernel, trivial⟩
theorem fo_X7_19 : mfok RX7 19 (7, 6, 0) := ⟨RX7, TX7, 35, tyX7, .int, rfl, by decide, uw_X7, tyX7_ok, nmX7, mtb_in (List.mem_of_getElem? (i := 841) (by decide +kernel)) rfl, by decide +kernel, ⟨rfl, rfl⟩⟩
theorem fo_X7_23 : mfok RX7 23 (7, 7, 0) := ⟨RX7, TX7, 35, tyX7, .int, rfl, by decide, uw_X7, tyX7_ok, nmX7, mtb_in (List.mem_of_getElem? (i := 842) (by decide +kernel)) rfl, by decide +kernel, ⟨rfl, rfl⟩⟩
theorem fo_X7_26 : mfok RX7 26 (7, 8, 4) := ⟨RX7, TX7, 35, tyX7, (.array .int), rfl, by decide, uw_X7, tyX7_ok, nmX7, mtb_in (List.mem_of_getElem? (i := 843) (by decide +kernel)) rfl, by decide +kernel, trivial⟩
theorem fo_X7_29 : mfok RX7 29 (7, 9, 4) := ⟨RX7, TX7, 35, tyX7, (.array .int), rfl, by decide, uw_X7, tyX7_ok, nmX7, mtb_in (List.mem_of_getElem? (i := 844) (by decide +kernel)) rfl, by decide +kernel, trivial⟩
theorem fo_X7_32 : mfok RX7 32 (7, 10, 4) := ⟨RX7, TX7, 35, tyX7, (.array .boolean), rfl, by decide, uw_X7, tyX7_ok, nmX7, mtb_in (List.mem_of_getElem? (i := 845) (by decide +kernel)) rfl, by decide +kernel, trivial⟩
theorem fo_X7_36 : mfok RX7 36 (7, 12, 4) := ⟨RX7, TX7, 35, tyX7, (.array .int), rfl, by decide, uw_X7, tyX7_ok, nmX7, mtb_in (List.mem_of_getElem? (i := 847) (by decide +kernel)) rfl, by decide +kernel, trivial⟩
theorem fo_X7_39 : mfok RX7 39 (7, 14, 4) := ⟨RX7, TX7, 35, tyX7, (.array .int), rfl, by decide, uw_X7, tyX7_ok, nmX7, mtb_in (List.mem_of_getElem? (i := 849) (by decide +kernel)) rfl, by decide +kernel, trivial⟩
theorem fo_X7_42 : mfok RX7 42 (7, 23, 4) := ⟨RX7, TX7, 35, tyX7, (.array .int), rfl, by decide, uw_X7, tyX7_ok, nmX7, mtb_in (List.mem_of_getElem? (i := 858) (by decide +kernel)) rfl, by decide +kernel, trivial⟩
theorem fo_X7_45 : mfok RX7 45 (7, 25, 4) := ⟨RX7, TX7, 35, tyX7, (.array .int), rfl, by decide, uw_X7, tyX7_ok, nmX7, mtb_in (List.mem_of_getElem? (i := 860) (by decide +kernel)) rfl, by decide +kernel, trivial⟩
theorem fo_X7_48 : mfok RX7 48 (7, 27, 4) := ⟨RX7, TX7, 35, tyX7, (.array .int), rfl, by decide, uw_X7, tyX7_ok, nmX7, mtb_in (List.mem_of_getElem? (i := 862) (by decide +kernel)) rfl, by decide +kernel, trivial⟩
theorem fo_X7_51 : mfok RX7 51 (7, 31, 4) := ⟨RX7, TX7, 35, tyX7, (.array .int), rfl, by decide, uw_X7, tyX7_ok, nmX7, mtb_in (List.mem_of_getElem? (i := 866) (by decide +kernel)) rfl, by decide +kernel, trivial⟩
theorem fo_X7_54 : mfok RX7 54 (7, 32, 4) := ⟨RX7, TX7, 35, tyX7, (.array .int), rfl, by decide, uw_X7, tyX7_ok, nmX7, mtb_in (List.mem_of_getElem? (i := 867) (by decide +kernel)) rfl, by decide +kernel, trivial⟩
theorem fo_X7_57 : mfok RX7 57 (7, 33, 4) := ⟨RX7, TX7, 35, tyX7, (.array .int), rfl, by decide, uw_X7, tyX7_ok, nmX7, mtb_in (List.mem_of_getElem? (i := 868) (by decide +kernel)) rfl, by decide +kernel, trivial⟩
theorem fo_X7_60 : mfok RX7 60 (7, 34, 4) := ⟨RX7, TX7, 35, tyX7, (.array .int), rfl, by decide, uw_X7, tyX7_ok, nmX7, mtb_in (List.mem_of_getElem? (i := 869) (by decide +kernel)) rfl, by decide +kernel, trivial⟩
theorem fo_X7_63 : mfok RX7 63 (7, 4, 0) := ⟨RX7, TX7, 35, tyX7, .int, rfl, by decide, uw_X7, tyX7_ok, nmX7, mtb_in (List.mem_of_getElem? (i := 839) (by decide +kernel)) rfl, by decide +kernel, ⟨rfl, rfl⟩⟩
theorem fo_X7_70 : mfok RX7 70 (7, 15, 0) := ⟨RX7, TX7, 35, tyX7, .int, rfl, by decide, uw_X7, tyX7_ok, nmX7, mtb_in (List.mem_of_getElem? (i := 850) (by decide +kernel)) rfl, by decide +kernel, ⟨rfl, rfl⟩⟩
theorem fo_X7_73 : mfok RX7 73 (7, 16, 0) := ⟨RX7, TX7, 35, tyX7, .int, rfl, by decide, uw_X7, tyX7_ok, nmX7, mtb_in (List.mem_of_getElem? (i := 851) (by decide +kernel)) rfl, by decide +kernel, ⟨rfl, rfl⟩⟩
theorem fo_X7_80 : mfok RX7 80 (7, 17, 0) := ⟨RX7, TX7, 35, tyX7, .int, rfl, by decide, uw_X7, tyX7_ok, nmX7, mtb_in (List.mem_of_getElem? (i := 852) (by decide +kernel)) rfl, by decide +kernel, ⟨rfl, rfl⟩⟩
theorem fo_X7_83 : mfok RX7 83 (7, 19, 0) := ⟨RX7, TX7, 35, tyX7, .int, rfl, by decide, uw_X7, tyX7_ok, nmX7, mtb_in (List.mem_of_getElem? (i := 854) (by decide +kernel)) rfl, by decide +kernel, ⟨rfl, rfl⟩⟩
theorem fo_X7_86 : mfok RX7 86 (7, 18, 0) := ⟨RX7, TX7, 35, tyX7, .int, rfl, by decide, uw_X7, tyX7_ok, nmX7, mtb_in (List.mem_of_getElem? (i := 853) (by decide +kernel)) rfl, by decide +kernel, ⟨rfl, rfl⟩⟩
theorem fo_X7_96 : mfok RX7 96 (7, 20, 1) := ⟨RX7, TX7, 35, tyX7, .boolean, rfl, by decide, uw_X7, tyX7_ok, nmX7, mtb_in (List.mem_of_getElem? (i := 855) (by decide +kernel)) rfl, by decide +kernel, ⟨rfl, rfl⟩⟩
theorem fo_X7_103 : mfok RX7 103 (7, 24, 0) := ⟨RX7, TX7, 35, tyX7, .int, rfl, by decide, uw_X7, tyX7_ok, nmX7, mtb_in (List.mem_of_getElem? (i := 859) (by decide +kernel)) rfl, by decide +kernel, ⟨rfl, rfl⟩⟩
theorem fo_X7_110 : mfok RX7 110 (7, 22, 0) := ⟨RX7, TX7, 35, tyX7, .int, rfl, by decide, uw_X7, tyX7_ok, nmX7, mtb_in (List.mem_of_getElem? (i := 857) (by decide +kernel)) rfl, by decide +kernel, ⟨rfl, rfl⟩⟩
theorem fo_X7_113 : mfok RX7 113 (7, 26, 0) := ⟨RX7, TX7, 35, tyX7, .int, rfl, by decide, uw_X7, tyX7_ok, nmX7, mtb_in (List.mem_of_getElem? (i := 861) (by decide +kernel)) rfl, by decide +kernel, ⟨rfl, rfl⟩⟩
theorem fo_X7_116 : mfok RX7 116 (7, 28, 0) := ⟨RX7, TX7, 35, tyX7, .int, rfl, by decide, uw_X7, tyX7_ok, nmX7, mtb_in (List.mem_of_getElem? (i := 863) (by decide +kernel)) rfl, by decide +kernel, ⟨rfl, rfl⟩⟩
theorem fo_X7_119 : mfok RX7 119 (7, 29, 0) := ⟨RX7, TX7, 35, tyX7, .int, rfl, by decide, uw_X7, tyX7_ok, nmX7, mtb_in (List.mem_of_getElem? (i := 864) (by decide +kernel)) rfl, by decide +kernel, ⟨rfl, rfl⟩⟩
theorem fo_X7_122 : mfok RX7 122 (7, 30, 0) := ⟨RX7, TX7, 35, tyX7, .int, rfl, by decide, uw_X7, tyX7_ok, nmX7, mtb_in (List.mem_of_getElem? (i := 865) (by decide +kernel)) rfl, by decide +kernel, ⟨rfl, rfl⟩⟩
theorem fo_X7_135 : mfok RX7 135 (7, 21, 0) := ⟨RX7, TX7, 35, tyX7, .int, rfl, by decide, uw_X7, tyX7_ok, nmX7, mtb_in (List.mem_of_getElem? (i := 856) (by decide +kernel)) rfl, by decide +kernel, ⟨rfl, rfl⟩⟩
theorem fo_X7_144 : mfok RX7 144 (7, 0, 0) := ⟨RX7, TX7, 35, tyX7, .int, rfl, by decide, uw_X7, tyX7_ok, nmX7, mtb_in (List.mem_of_getElem? (i := 835) (by decide +kernel)) rfl, by decide +kernel, ⟨rfl, rfl⟩⟩
theorem fo_X7_147 : mfok RX7 147 (7, 2, 0) := ⟨RX7, TX7, 35, tyX7, .int, rfl, by decide, uw_X7, tyX7_ok, nmX7, mtb_in (List.mem_of_getElem? (i := 837) (by decide +kernel)) rfl, by decide +kernel, ⟨rfl, rfl⟩⟩
theorem fo_X7_150 : mfok RX7 150 (7, 11, 0) := ⟨RX7, TX7, 35, tyX7, .int, rfl, by decide, uw_X7, tyX7_ok, nmX7, mtb_in (List.mem_of_getElem? (i := 846) (by decide +kernel)) rfl, by decide +kernel, ⟨rfl, rfl⟩⟩
theorem fo_X7_251 : mfok RX7 251 (7, 13, 2) := ⟨RX7, TX7, 35, tyX7, .long, rfl, by decide, uw_X7, tyX7_ok, nmX7, mtb_in (List.mem_of_getElem? (i := 848) (by decide +kernel)) rfl, by decide +kernel, ⟨rfl, rfl⟩⟩
theorem fT_X7 : mFT RX7 (mlook flX7) := mFT_of (List.forall_mem_cons.mpr ⟨fo_X7_7, List.forall_mem_cons.mpr ⟨fo_X7_13, List.forall_mem_cons.mpr ⟨fo_X7_16, List.forall_mem_cons.mpr ⟨fo_X7_19, List.forall_mem_cons.mpr ⟨fo_X7_23, List.forall_mem_cons.mpr ⟨fo_X7_26, List.forall_mem_cons.mpr ⟨fo_X7_29, List.forall_mem_cons.mpr ⟨fo_X7_32, List.forall_mem_cons.mpr ⟨fo_X7_36, List.forall_mem_cons.mpr ⟨fo_X7_39, List.forall_mem_cons.mpr ⟨fo_X7_42, List.forall_mem_cons.mpr ⟨fo_X7_45, List.forall_mem_cons.mpr ⟨fo_X7_48, List.forall_mem_cons.mpr ⟨fo_X7_51, List.forall_mem_cons.mpr ⟨fo_X7_54, List.forall_mem_cons.mpr ⟨fo_X7_57, List.forall_mem_cons.mpr ⟨fo_X7_60, List.forall_mem_cons.mpr ⟨fo_X7_63, List.forall_mem_cons.mpr ⟨fo_X7_70, List.forall_mem_cons.mpr ⟨fo_X7_73, List.forall_mem_cons.mpr ⟨fo_X7_80, List.forall_mem_cons.mpr ⟨fo_X7_83, List.forall_mem_cons.mpr ⟨fo_X7_86, List.forall_mem_cons.mpr ⟨fo_X7_96, List.forall_mem_cons.mpr ⟨fo_X7_103, List.forall_mem_cons.mpr ⟨fo_X7_110, List.forall_mem_cons.mpr ⟨fo_X7_113, List.forall_mem_cons.mpr ⟨fo_X7_116, List.forall_mem_cons.mpr ⟨fo_X7_119, List.forall_mem_cons.mpr ⟨fo_X7_122, List.forall_mem_cons.mpr ⟨fo_X7_135, List.forall_mem_cons.mpr ⟨fo_X7_144, List.forall_mem_cons.mpr ⟨fo_X7_147, List.forall_mem_cons.mpr ⟨fo_X7_150, List.forall_mem_cons.mpr ⟨fo_X7_251, fun _ h => absurd h List.not_mem_nil⟩⟩⟩⟩⟩⟩⟩⟩⟩⟩⟩⟩⟩⟩⟩⟩⟩⟩⟩⟩⟩⟩⟩⟩⟩⟩⟩⟩⟩⟩⟩⟩⟩⟩⟩)
abbrev klX7 : List (Nat × Int) := [(153, -1000000), (240, 1000003)]
theorem kT_X7 : mKT RX7 (mlook klX7) := mKT_of (List.forall_mem_cons.mpr ⟨mtb_in (List.mem_of_getElem? (i := 1003) (by decide +kernel)) rfl, List.forall_mem_cons.mpr ⟨mtb_in (List.mem_of_getElem? (i := 1158) (by decide +kernel)) rfl, fun _ h => absurd h List.not_mem_nil⟩⟩)
abbrev jlX7 : List (Nat × Int) := [(188, 7919), (190, 6151), (192, 65521), (194, 8), (196, 10), (255, 11), (257, 101), (259, 1011), (261, 10101), (263, 100001)]
theorem jT_X7 : mKJ RX7 (mlook jlX7) := mKJ_of (List.forall_mem_cons.mpr ⟨mtb_in (List.mem_of_getElem? (i := 1052) (by decide +kernel)) rfl, List.forall_mem_cons.mpr ⟨mtb_in (List.mem_of_getElem? (i := 1053) (by decide +kernel)) rfl, List.forall_mem_cons.mpr ⟨mtb_in (List.mem_of_getElem? (i := 1054) (by decide +kernel)) rfl, List.forall_mem_cons.mpr ⟨mtb_in (List.mem_of_getElem? (i := 1055) (by decide +kernel)) rfl, List.forall_mem_cons.mpr ⟨mtb_in (List.mem_of_getElem? (i := 1056) (by decide +kernel)) rfl, List.forall_mem_cons.mpr ⟨mtb_in (List.mem_of_getElem? (i := 1179) (by decide +kernel)) rfl, List.forall_mem_cons.mpr ⟨mtb_in (List.mem_of_getElem? (i := 1180) (by decide +kernel)) rfl, List.forall_mem_cons.mpr ⟨mtb_in (List.mem_of_getElem? (i := 1181) (by decide +kernel)) rfl, List.forall_mem_cons.mpr ⟨mtb_in (List.mem_of_getElem? (i := 1182) (by decide +kernel)) rfl, List.forall_mem_cons.mpr ⟨mtb_in (List.mem_of_getElem? (i := 1183) (by decide +kernel)) rfl, fun _ h => absurd h List.not_mem_nil⟩⟩⟩⟩⟩⟩⟩⟩⟩⟩)
abbrev flJ6 : List (Nat × (Nat × Nat × Nat)) := []
theorem fT_J6 : mFT RJ6 (mlook flJ6) := mFT_of (fun _ h => absurd h List.not_mem_nil)
abbrev klJ6 : List (Nat × Int) := [(265, 1431655765), (266, 858993459), (267, 252645135)]
theorem kT_J6 : mKT RJ6 (mlook klJ6) := mKT_of (List.forall_mem_cons.mpr ⟨mtb_in (List.mem_of_getElem? (i := 773) (by decide +kernel)) rfl, List.forall_mem_cons.mpr ⟨mtb_in (List.mem_of_getElem? (i := 774) (by decide +kernel)) rfl, List.forall_mem_cons.mpr ⟨mtb_in (List.mem_of_getElem? (i := 775) (by decide +kernel)) rfl, fun _ h => absurd h List.not_mem_nil⟩⟩⟩)
abbrev jlJ6 : List (Nat × Int) := []
theorem jT_J6 : mKJ RJ6 (mlook jlJ6) := mKJ_of (fun _ h => absurd h List.not_mem_nil)
