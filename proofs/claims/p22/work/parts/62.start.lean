/-! the law's own model: its start -/
def K11 (a b c d e f g h i j k : Nat) : Nat → Nat
  | 0 => a
  | 1 => b
  | 2 => c
  | 3 => d
  | 4 => e
  | 5 => f
  | 6 => g
  | 7 => h
  | 8 => i
  | 9 => j
  | _ => k
theorem fives : ∀ j, j < 8 → upd (upd (upd (upd (upd (upd (upd (upd (fun _ => (0 : Int32)) 0 5) 1 5) 2 5) 3 5) 4 5) 5 5) 6 5) 7 5 j = (fun _ => (5 : Int32)) j := by
  intro j hj
  rcases (show j = 0 ∨ j = 1 ∨ j = 2 ∨ j = 3 ∨ j = 4 ∨ j = 5 ∨ j = 6 ∨ j = 7 by omega) with rfl | rfl | rfl | rfl | rfl | rfl | rfl | rfl <;> rfl
set_option maxRecDepth 100000 in
set_option maxHeartbeats 4000000 in
theorem lp_X6_init {G : Cx} {Z : ZT} {v : Nat → Nat} (K : V G Y_X6_init Z 1 0 0 153 [some (.ref (v 0)), some (.int (nI 160))] [] ([eO 6 (v 0) [.int 0, .ref (v 1), .ref (v 2), .ref (v 3), .ref (v 4), .ref (v 5), .ref (v 6), .ref (v 7), .ref (v 8), .ref (v 9), .ref (v 10)], eI (v 1) 160 (fa_fill (fun _ => 30) (fun _ => 0) 160), eI (v 2) 160 (fa_fill (fun _ => 1) (fun _ => 0) 160), eI (v 3) 160 (fun _ => 0), eZ (v 4) 160 (fun _ => 0), eI (v 5) 8 (upd (upd (upd (upd (upd (upd (upd (upd (fun _ => (0 : Int32)) 0 5) 1 5) 2 5) 3 5) 4 5) 5 5) 6 5) 7 5), eI (v 6) 0 (fun _ => 0), eQ 2 (v 7) 0 (fun _ => none), eQ 5 (v 8) 0 (fun _ => none), eI (v 9) 160 (fun _ => 0), eZ (v 10) 160 (fun _ => 0)])) : ∀ (m i : Nat), m + i = 160 → V G Y_X6_init Z 1 0 0 125 [some (.ref (v 0)), some (.int (nI i))] [] ([eO 6 (v 0) [.int 0, .ref (v 1), .ref (v 2), .ref (v 3), .ref (v 4), .ref (v 5), .ref (v 6), .ref (v 7), .ref (v 8), .ref (v 9), .ref (v 10)], eI (v 1) 160 (fa_fill (fun _ => 30) (fun _ => 0) i), eI (v 2) 160 (fa_fill (fun _ => 1) (fun _ => 0) i), eI (v 3) 160 (fun _ => 0), eZ (v 4) 160 (fun _ => 0), eI (v 5) 8 (upd (upd (upd (upd (upd (upd (upd (upd (fun _ => (0 : Int32)) 0 5) 1 5) 2 5) 3 5) 4 5) 5 5) 6 5) 7 5), eI (v 6) 0 (fun _ => 0), eQ 2 (v 7) 0 (fun _ => none), eQ 5 (v 8) 0 (fun _ => none), eI (v 9) 160 (fun _ => 0), eZ (v 10) 160 (fun _ => 0)]) := by
  intro m
  induction m with
  | zero =>
    intro i hi
    obtain rfl : i = 160 := by omega
    refine v_iload_n (pc := 125) dX6_init_125 rfl rfl ?_
    refine v_sipush (pc := 126) (v := 160) dX6_init_126 rfl ?_
    refine v_icmp_ge (pc := 129) (tgt := 153) dX6_init_129 (by decide) (fun c129 => ?_) (fun c129 => absurd (nI_le (a := 160) (b := 160) (Nat.le_refl _) (by decide)) c129)
    have c129 : 160 ≤ 160 := (nI_leI (a := 160) (b := 160) (by omega) (by omega)).mp c129
    exact K
  | succ m ih =>
    intro i hi
    refine v_iload_n (pc := 125) dX6_init_125 rfl rfl ?_
    refine v_sipush (pc := 126) (v := 160) dX6_init_126 rfl ?_
    refine v_icmp_ge (pc := 129) (tgt := 153) dX6_init_129 (by decide) (fun c129 => absurd c129 (nI_ge (a := i) (b := 160) (by omega) (by decide))) (fun c129 => ?_)
    have c129 : ¬ 160 ≤ i := fun h => c129 ((nI_leI (a := 160) (b := i) (by omega) (by omega)).mpr h)
    refine v_aload_nR (pc := 132) dX6_init_132 rfl rfl ?_
    refine v_get (pc := 133) 1 0 fg_X6_7 rfl rfl dX6_init_133 ?_
    refine v_iload_n (pc := 136) dX6_init_136 rfl rfl ?_
    refine v_bipush (pc := 137) (v := 30) dX6_init_137 rfl ?_
    refine v_iastN (pc := 139) 1 (k := i) rfl (by omega) (by decide) dX6_init_139 ?_
    try dsimp only [wb, SimM, List.set_cons_succ, List.set_cons_zero, List.append_nil, List.nil_append, List.cons_append, Option.toList, Nat.sub_zero]
    rw [fill_up (f := fun _ => (30 : Int32)) rfl]
    refine v_aload_nR (pc := 140) dX6_init_140 rfl rfl ?_
    refine v_get (pc := 141) 2 0 fg_X6_13 rfl rfl dX6_init_141 ?_
    refine v_iload_n (pc := 144) dX6_init_144 rfl rfl ?_
    refine v_iconst (pc := 145) (v := 1) dX6_init_145 rfl ?_
    refine v_iastN (pc := 146) 2 (k := i) rfl (by omega) (by decide) dX6_init_146 ?_
    try dsimp only [wb, SimM, List.set_cons_succ, List.set_cons_zero, List.append_nil, List.nil_append, List.cons_append, Option.toList, Nat.sub_zero]
    rw [fill_up (f := fun _ => (1 : Int32)) rfl]
    refine v_iinc (pc := 147) (v := nI (i + 1)) dX6_init_147 rfl (nI_1 _) (by decide) rfl ?_
    refine v_goto (pc := 150) (tgt := 125) dX6_init_150 (by decide) ?_
    exact ih (i + 1) (by omega)
set_option maxRecDepth 100000 in
set_option maxHeartbeats 4000000 in
theorem c_X6_init {G : Cx} {a : Nat} : Mt G Y_X6_init 1 10 1300 [.ref a] [eO 6 a [.int 0, .null, .null, .null, .null, .null, .null, .null, .null, .null, .null]] (fun v' M' => v' = none ∧ ∃ v xs bs, v 0 = a ∧ M' = SimM v xs bs 0 (fun _ => 30) (fun _ => 1) (fun _ => 0) (fun _ => 0) (fun _ => 5) (fun _ => 0) 0 0 0 (fun _ _ => 0) (fun _ => 0) (fun _ _ => 0) (fun _ => 0) (fun _ => 0)) noX := by
  refine Mt.of (L := [some (.ref a), none]) rfl (by decide) (by simp [lg_sl, Value.category]) ⟨rfl, trivial⟩ (fun sz => ?_)
  refine v_aload_nR (pc := 0) dX6_init_0 rfl rfl ?_
  refine v_objInit (pc := 1) q634 q24 q25 (by decide) (Nat.le_of_ble_eq_true rfl) dX6_init_1 ?_
  refine v_aload_nR (pc := 4) dX6_init_4 rfl rfl ?_
  refine v_sipush (pc := 5) (v := 160) dX6_init_5 rfl ?_
  refine v_newa (pc := 8) (atype := .int) 0 (N := 160) (a0 := .inl (fun _ => 0)) q60 rfl (fun _ => rfl) (fun _ h => by cases h) (fun _ => rfl) (by decide) (by decide) (by decide) (by decide) (by decide) dX6_init_8 (fun z8 => ?_)
  try dsimp only [wb, SimM, List.set_cons_succ, List.set_cons_zero, List.append_nil, List.nil_append, List.cons_append, Option.toList, Nat.sub_zero]
  refine v_put (pc := 10) 1 0 fp_X6_init_7 rfl rfl rfl (Nat.le_of_ble_eq_true rfl) dX6_init_10 ?_
  try dsimp only [wb, SimM, List.set_cons_succ, List.set_cons_zero, List.append_nil, List.nil_append, List.cons_append, Option.toList, Nat.sub_zero]
  refine v_aload_nR (pc := 13) dX6_init_13 rfl rfl ?_
  refine v_sipush (pc := 14) (v := 160) dX6_init_14 rfl ?_
  refine v_newa (pc := 17) (atype := .int) 0 (N := 160) (a0 := .inl (fun _ => 0)) q60 rfl (fun _ => rfl) (fun _ h => by cases h) (fun _ => rfl) (by decide) (by decide) (by decide) (by decide) (by decide) dX6_init_17 (fun z17 => ?_)
  try dsimp only [wb, SimM, List.set_cons_succ, List.set_cons_zero, List.append_nil, List.nil_append, List.cons_append, Option.toList, Nat.sub_zero]
  refine v_put (pc := 19) 2 0 fp_X6_init_13 rfl rfl rfl (Nat.le_of_ble_eq_true rfl) dX6_init_19 ?_
  try dsimp only [wb, SimM, List.set_cons_succ, List.set_cons_zero, List.append_nil, List.nil_append, List.cons_append, Option.toList, Nat.sub_zero]
  refine v_aload_nR (pc := 22) dX6_init_22 rfl rfl ?_
  refine v_sipush (pc := 23) (v := 160) dX6_init_23 rfl ?_
  refine v_newa (pc := 26) (atype := .int) 0 (N := 160) (a0 := .inl (fun _ => 0)) q60 rfl (fun _ => rfl) (fun _ h => by cases h) (fun _ => rfl) (by decide) (by decide) (by decide) (by decide) (by decide) dX6_init_26 (fun z26 => ?_)
  try dsimp only [wb, SimM, List.set_cons_succ, List.set_cons_zero, List.append_nil, List.nil_append, List.cons_append, Option.toList, Nat.sub_zero]
  refine v_put (pc := 28) 3 0 fp_X6_init_16 rfl rfl rfl (Nat.le_of_ble_eq_true rfl) dX6_init_28 ?_
  try dsimp only [wb, SimM, List.set_cons_succ, List.set_cons_zero, List.append_nil, List.nil_append, List.cons_append, Option.toList, Nat.sub_zero]
  refine v_aload_nR (pc := 31) dX6_init_31 rfl rfl ?_
  refine v_sipush (pc := 32) (v := 160) dX6_init_32 rfl ?_
  refine v_newa (pc := 35) (atype := .boolean) 1 (N := 160) (a0 := .inl (fun _ => 0)) q94 rfl (fun _ => rfl) (fun _ h => by cases h) (fun _ => rfl) (by decide) (by decide) (by decide) (by decide) (by decide) dX6_init_35 (fun z35 => ?_)
  try dsimp only [wb, SimM, List.set_cons_succ, List.set_cons_zero, List.append_nil, List.nil_append, List.cons_append, Option.toList, Nat.sub_zero]
  refine v_put (pc := 37) 4 0 fp_X6_init_19 rfl rfl rfl (Nat.le_of_ble_eq_true rfl) dX6_init_37 ?_
  try dsimp only [wb, SimM, List.set_cons_succ, List.set_cons_zero, List.append_nil, List.nil_append, List.cons_append, Option.toList, Nat.sub_zero]
  refine v_aload_nR (pc := 40) dX6_init_40 rfl rfl ?_
  refine v_bipush (pc := 41) (v := 8) dX6_init_41 rfl ?_
  refine v_newa (pc := 43) (atype := .int) 0 (N := 8) (a0 := .inl (fun _ => 0)) q60 rfl (fun _ => rfl) (fun _ h => by cases h) (fun _ => rfl) (by decide) (by decide) (by decide) (by decide) (by decide) dX6_init_43 (fun z43 => ?_)
  try dsimp only [wb, SimM, List.set_cons_succ, List.set_cons_zero, List.append_nil, List.nil_append, List.cons_append, Option.toList, Nat.sub_zero]
  refine v_dup (pc := 45) dX6_init_45 rfl ?_
  refine v_iconst (pc := 46) (v := 0) dX6_init_46 rfl ?_
  refine v_iconst (pc := 47) (v := 5) dX6_init_47 rfl ?_
  refine v_iastN (pc := 48) 5 (k := 0) rfl (by omega) (by decide) dX6_init_48 ?_
  try dsimp only [wb, SimM, List.set_cons_succ, List.set_cons_zero, List.append_nil, List.nil_append, List.cons_append, Option.toList, Nat.sub_zero]
  refine v_dup (pc := 49) dX6_init_49 rfl ?_
  refine v_iconst (pc := 50) (v := 1) dX6_init_50 rfl ?_
  refine v_iconst (pc := 51) (v := 5) dX6_init_51 rfl ?_
  refine v_iastN (pc := 52) 5 (k := 1) rfl (by omega) (by decide) dX6_init_52 ?_
  try dsimp only [wb, SimM, List.set_cons_succ, List.set_cons_zero, List.append_nil, List.nil_append, List.cons_append, Option.toList, Nat.sub_zero]
  refine v_dup (pc := 53) dX6_init_53 rfl ?_
  refine v_iconst (pc := 54) (v := 2) dX6_init_54 rfl ?_
  refine v_iconst (pc := 55) (v := 5) dX6_init_55 rfl ?_
  refine v_iastN (pc := 56) 5 (k := 2) rfl (by omega) (by decide) dX6_init_56 ?_
  try dsimp only [wb, SimM, List.set_cons_succ, List.set_cons_zero, List.append_nil, List.nil_append, List.cons_append, Option.toList, Nat.sub_zero]
  refine v_dup (pc := 57) dX6_init_57 rfl ?_
  refine v_iconst (pc := 58) (v := 3) dX6_init_58 rfl ?_
  refine v_iconst (pc := 59) (v := 5) dX6_init_59 rfl ?_
  refine v_iastN (pc := 60) 5 (k := 3) rfl (by omega) (by decide) dX6_init_60 ?_
  try dsimp only [wb, SimM, List.set_cons_succ, List.set_cons_zero, List.append_nil, List.nil_append, List.cons_append, Option.toList, Nat.sub_zero]
  refine v_dup (pc := 61) dX6_init_61 rfl ?_
  refine v_iconst (pc := 62) (v := 4) dX6_init_62 rfl ?_
  refine v_iconst (pc := 63) (v := 5) dX6_init_63 rfl ?_
  refine v_iastN (pc := 64) 5 (k := 4) rfl (by omega) (by decide) dX6_init_64 ?_
  try dsimp only [wb, SimM, List.set_cons_succ, List.set_cons_zero, List.append_nil, List.nil_append, List.cons_append, Option.toList, Nat.sub_zero]
  refine v_dup (pc := 65) dX6_init_65 rfl ?_
  refine v_iconst (pc := 66) (v := 5) dX6_init_66 rfl ?_
  refine v_iconst (pc := 67) (v := 5) dX6_init_67 rfl ?_
  refine v_iastN (pc := 68) 5 (k := 5) rfl (by omega) (by decide) dX6_init_68 ?_
  try dsimp only [wb, SimM, List.set_cons_succ, List.set_cons_zero, List.append_nil, List.nil_append, List.cons_append, Option.toList, Nat.sub_zero]
  refine v_dup (pc := 69) dX6_init_69 rfl ?_
  refine v_bipush (pc := 70) (v := 6) dX6_init_70 rfl ?_
  refine v_iconst (pc := 72) (v := 5) dX6_init_72 rfl ?_
  refine v_iastN (pc := 73) 5 (k := 6) rfl (by omega) (by decide) dX6_init_73 ?_
  try dsimp only [wb, SimM, List.set_cons_succ, List.set_cons_zero, List.append_nil, List.nil_append, List.cons_append, Option.toList, Nat.sub_zero]
  refine v_dup (pc := 74) dX6_init_74 rfl ?_
  refine v_bipush (pc := 75) (v := 7) dX6_init_75 rfl ?_
  refine v_iconst (pc := 77) (v := 5) dX6_init_77 rfl ?_
  refine v_iastN (pc := 78) 5 (k := 7) rfl (by omega) (by decide) dX6_init_78 ?_
  try dsimp only [wb, SimM, List.set_cons_succ, List.set_cons_zero, List.append_nil, List.nil_append, List.cons_append, Option.toList, Nat.sub_zero]
  refine v_put (pc := 79) 5 0 fp_X6_init_23 rfl rfl rfl (Nat.le_of_ble_eq_true rfl) dX6_init_79 ?_
  try dsimp only [wb, SimM, List.set_cons_succ, List.set_cons_zero, List.append_nil, List.nil_append, List.cons_append, Option.toList, Nat.sub_zero]
  refine v_aload_nR (pc := 82) dX6_init_82 rfl rfl ?_
  refine v_iconst (pc := 83) (v := 0) dX6_init_83 rfl ?_
  refine v_newa (pc := 84) (atype := .int) 0 (N := 0) (a0 := .inl (fun _ => 0)) q60 rfl (fun _ => rfl) (fun _ h => by cases h) (fun _ => rfl) (by decide) (by decide) (by decide) (by decide) (by decide) dX6_init_84 (fun z84 => ?_)
  try dsimp only [wb, SimM, List.set_cons_succ, List.set_cons_zero, List.append_nil, List.nil_append, List.cons_append, Option.toList, Nat.sub_zero]
  refine v_put (pc := 86) 6 0 fp_X6_init_26 rfl rfl rfl (Nat.le_of_ble_eq_true rfl) dX6_init_86 ?_
  try dsimp only [wb, SimM, List.set_cons_succ, List.set_cons_zero, List.append_nil, List.nil_append, List.cons_append, Option.toList, Nat.sub_zero]
  refine v_aload_nR (pc := 89) dX6_init_89 rfl rfl ?_
  refine v_iconst (pc := 90) (v := 0) dX6_init_90 rfl ?_
  refine v_newq (pc := 91) 2 (N := 0) q635 q636 (fun _ => rfl) (by decide) (by decide) (by decide) (by decide) (by decide) dX6_init_91 (fun z91 => ?_)
  try dsimp only [wb, SimM, List.set_cons_succ, List.set_cons_zero, List.append_nil, List.nil_append, List.cons_append, Option.toList, Nat.sub_zero]
  refine v_put (pc := 94) 7 0 fp_X6_init_31 rfl rfl rfl (Nat.le_of_ble_eq_true rfl) dX6_init_94 ?_
  try dsimp only [wb, SimM, List.set_cons_succ, List.set_cons_zero, List.append_nil, List.nil_append, List.cons_append, Option.toList, Nat.sub_zero]
  refine v_aload_nR (pc := 97) dX6_init_97 rfl rfl ?_
  refine v_iconst (pc := 98) (v := 0) dX6_init_98 rfl ?_
  refine v_newA (pc := 99) (N := 0) q637 q638 (by decide) (by decide) (by decide) (by decide) (by decide) dX6_init_99 (fun z99 => ?_)
  try dsimp only [wb, SimM, List.set_cons_succ, List.set_cons_zero, List.append_nil, List.nil_append, List.cons_append, Option.toList, Nat.sub_zero]
  refine v_put (pc := 102) 8 0 fp_X6_init_36 rfl rfl rfl (Nat.le_of_ble_eq_true rfl) dX6_init_102 ?_
  try dsimp only [wb, SimM, List.set_cons_succ, List.set_cons_zero, List.append_nil, List.nil_append, List.cons_append, Option.toList, Nat.sub_zero]
  refine v_aload_nR (pc := 105) dX6_init_105 rfl rfl ?_
  refine v_sipush (pc := 106) (v := 160) dX6_init_106 rfl ?_
  refine v_newa (pc := 109) (atype := .int) 0 (N := 160) (a0 := .inl (fun _ => 0)) q60 rfl (fun _ => rfl) (fun _ h => by cases h) (fun _ => rfl) (by decide) (by decide) (by decide) (by decide) (by decide) dX6_init_109 (fun z109 => ?_)
  try dsimp only [wb, SimM, List.set_cons_succ, List.set_cons_zero, List.append_nil, List.nil_append, List.cons_append, Option.toList, Nat.sub_zero]
  refine v_put (pc := 111) 9 0 fp_X6_init_40 rfl rfl rfl (Nat.le_of_ble_eq_true rfl) dX6_init_111 ?_
  try dsimp only [wb, SimM, List.set_cons_succ, List.set_cons_zero, List.append_nil, List.nil_append, List.cons_append, Option.toList, Nat.sub_zero]
  refine v_aload_nR (pc := 114) dX6_init_114 rfl rfl ?_
  refine v_sipush (pc := 115) (v := 160) dX6_init_115 rfl ?_
  refine v_newa (pc := 118) (atype := .boolean) 1 (N := 160) (a0 := .inl (fun _ => 0)) q94 rfl (fun _ => rfl) (fun _ h => by cases h) (fun _ => rfl) (by decide) (by decide) (by decide) (by decide) (by decide) dX6_init_118 (fun z118 => ?_)
  try dsimp only [wb, SimM, List.set_cons_succ, List.set_cons_zero, List.append_nil, List.nil_append, List.cons_append, Option.toList, Nat.sub_zero]
  refine v_put (pc := 120) 10 0 fp_X6_init_43 rfl rfl rfl (Nat.le_of_ble_eq_true rfl) dX6_init_120 ?_
  try dsimp only [wb, SimM, List.set_cons_succ, List.set_cons_zero, List.append_nil, List.nil_append, List.cons_append, Option.toList, Nat.sub_zero]
  refine v_iconst (pc := 123) (v := 0) dX6_init_123 rfl ?_
  refine v_istore_n (pc := 124) dX6_init_124 rfl (by decide) rfl ?_
  refine v_cgI 1 (g := (fa_fill (fun _ => 30) (fun _ => 0) 0)) rfl (fun j _ => (if_neg (Nat.not_lt_zero j)).symm) ?_
  try dsimp only [wb, SimM, List.set_cons_succ, List.set_cons_zero, List.append_nil, List.nil_append, List.cons_append, Option.toList, Nat.sub_zero]
  refine v_cgI 2 (g := (fa_fill (fun _ => 1) (fun _ => 0) 0)) rfl (fun j _ => (if_neg (Nat.not_lt_zero j)).symm) ?_
  try dsimp only [wb, SimM, List.set_cons_succ, List.set_cons_zero, List.append_nil, List.nil_append, List.cons_append, Option.toList, Nat.sub_zero]
  refine v_room (ck' := 0) (sk' := 0) (Nat.zero_le _) (Nat.zero_le _) ?_
  refine v_sub (L' := [some (.ref ((K11 a z8 z17 z26 z35 z43 z84 z91 z99 z109 z118) 0)), some (.int (nI 0))]) ⟨rfl, rfl, trivial⟩ ?_
  refine lp_X6_init (v := K11 a z8 z17 z26 z35 z43 z84 z91 z99 z109 z118) ?_ 160 0 (by omega)
  refine v_cgI 1 (g := fun _ => 30) rfl (fun j hj => fa_fill_in hj) ?_
  try dsimp only [wb, SimM, List.set_cons_succ, List.set_cons_zero, List.append_nil, List.nil_append, List.cons_append, Option.toList, Nat.sub_zero]
  refine v_cgI 2 (g := fun _ => 1) rfl (fun j hj => fa_fill_in hj) ?_
  try dsimp only [wb, SimM, List.set_cons_succ, List.set_cons_zero, List.append_nil, List.nil_append, List.cons_append, Option.toList, Nat.sub_zero]
  refine v_cgI 5 (g := fun _ => 5) rfl fives ?_
  try dsimp only [wb, SimM, List.set_cons_succ, List.set_cons_zero, List.append_nil, List.nil_append, List.cons_append, Option.toList, Nat.sub_zero]
  refine v_cgQ 7 (g := fun j => some 0) rfl (fun j hj => absurd hj (Nat.not_lt_zero j)) ?_
  try dsimp only [wb, SimM, List.set_cons_succ, List.set_cons_zero, List.append_nil, List.nil_append, List.cons_append, Option.toList, Nat.sub_zero]
  refine v_cgQ 8 (g := fun j => some 0) rfl (fun j hj => absurd hj (Nat.not_lt_zero j)) ?_
  try dsimp only [wb, SimM, List.set_cons_succ, List.set_cons_zero, List.append_nil, List.nil_append, List.cons_append, Option.toList, Nat.sub_zero]
  refine v_fam0 7 7 ?_
  refine v_fam0G 5 ?_
  try dsimp only [wb, SimM, List.set_cons_succ, List.set_cons_zero, List.append_nil, List.nil_append, List.cons_append, Option.toList, Nat.sub_zero]
  refine v_cgS 11 (t := smX (fun _ _ => 0) (fun _ => 0)) rfl (fun i k hi => absurd hi (Nat.not_lt_zero i)) ?_
  try dsimp only [wb, SimM, List.set_cons_succ, List.set_cons_zero, List.append_nil, List.nil_append, List.cons_append, Option.toList, Nat.sub_zero]
  refine v_vret (pc := 153) rfl (Nat.le_of_ble_eq_true rfl) dX6_init_153 ?_
  exact ⟨rfl, K11 a z8 z17 z26 z35 z43 z84 z91 z99 z109 z118, fun _ => 0, fun _ => 0, rfl, rfl⟩
