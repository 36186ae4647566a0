/-! the reference, new -/
def mkZ (a0 a1 a2 a3 a4 a5 a6 a7 a8 a9 a10 a11 : Nat) : Nat → Nat
  | 0 => a0
  | 1 => a1
  | 2 => a2
  | 3 => a3
  | 4 => a4
  | 5 => a5
  | 6 => a6
  | 7 => a7
  | 8 => a8
  | 9 => a9
  | 10 => a10
  | _ => a11
set_option maxRecDepth 100000 in
set_option maxHeartbeats 4000000 in
theorem lp_X6_i2 {G : Cx} {a0 a1 a2 a3 a4 a5 a6 a7 a8 a9 a10 a11 sz : Nat} {M0 : List ME} (hM0 : M0.length = 1) : ∀ (m i : Nat), m + i = 8 → V G Y_X6_init (ZM G M0 sz (fun v M' => v = none ∧ ∃ z : Nat → Nat, z 0 = a0 ∧ M' = ModelM z 0 (fun _ => 1) (fun _ => 5) (fun _ => 0) 0 0 0 (fun _ => 30) (fun _ => 0) (fun _ => 0) (fun _ _ => 0) (fun _ => 0) (fun _ _ => 0) 0 (fun _ => 0) (fun _ => 0)) noX) 2 0 0 134 [some (.ref a0), some (.int (nI i))] [] [eO 6 a0 [.int 0, .ref a1, .ref a2, .int 0, .ref a3, .int 0, .int 0, .ref a4, .ref a5, .ref a6, .ref a7, .ref a8, .ref a9, .ref a10, .ref a11], eI a1 160 (fillU (fun _ => 1) (fun _ => 0) 160), eI a2 8 (fillU (fun _ => 5) (fun _ => 0) i), eI a3 8 (fun _ => 0), eI a4 160 (fillU (fun _ => 30) (fun _ => 0) 160), eI a5 160 (fun _ => 0), eI a6 160 (fun _ => 0), eI a7 35 (fun _ => 0), eI a8 200 (fun _ => 0), eI a9 1 (upd (fun _ => 0) 0 0), eI a10 160 (fun _ => 0), eZ a11 160 (fun _ => 0)] := by
  intro m
  induction m with
  | zero =>
    intro i hi
    obtain rfl : i = 8 := by omega
    refine v_iload_n (pc := 134) dX6_init_134 rfl rfl ?_
    refine v_bipush (pc := 135) (v := 8) dX6_init_135 rfl ?_
    refine v_icmp_ge (pc := 137) (tgt := 153) dX6_init_137 (by decide) (fun c137 => ?_) (fun c137 => absurd (nI_le (a := 8) (b := 8) (Nat.le_refl _) (by decide)) c137)
    have c137 : 8 ≤ 8 := (nI_leI (a := 8) (b := 8) (by omega) (by omega)).mp c137
    refine v_cgI 1 (g := fun _ => 1) rfl (fun j hj => fillU_in hj) ?_
    try dsimp only [wb, ModelM, List.set_cons_succ, List.set_cons_zero, List.append_nil, List.nil_append, List.cons_append, Option.toList, Nat.sub_zero, List.take_succ_cons, List.take_zero]
    refine v_cgI 2 (g := fun _ => 5) rfl (fun j hj => fillU_in hj) ?_
    try dsimp only [wb, ModelM, List.set_cons_succ, List.set_cons_zero, List.append_nil, List.nil_append, List.cons_append, Option.toList, Nat.sub_zero, List.take_succ_cons, List.take_zero]
    refine v_cgI 4 (g := fun _ => 30) rfl (fun j hj => fillU_in hj) ?_
    try dsimp only [wb, ModelM, List.set_cons_succ, List.set_cons_zero, List.append_nil, List.nil_append, List.cons_append, Option.toList, Nat.sub_zero, List.take_succ_cons, List.take_zero]
    refine v_cgI 7 (g := tblM (fun _ _ => 0) (fun _ => 0)) rfl (fun j hj => by unfold tblM; split <;> rfl) ?_
    try dsimp only [wb, ModelM, List.set_cons_succ, List.set_cons_zero, List.append_nil, List.nil_append, List.cons_append, Option.toList, Nat.sub_zero, List.take_succ_cons, List.take_zero]
    refine v_cgI 9 (g := fun _ => nI 0) rfl (fun j hj => by have hj2 : j < 1 := hj; have e0 : j = 0 := (by omega); subst e0; rfl) ?_
    try dsimp only [wb, ModelM, List.set_cons_succ, List.set_cons_zero, List.append_nil, List.nil_append, List.cons_append, Option.toList, Nat.sub_zero, List.take_succ_cons, List.take_zero]
    refine v_vret (pc := 153) rfl (by rw [hM0]; exact Nat.le_of_ble_eq_true rfl) dX6_init_153 ?_
    exact ⟨rfl, mkZ a0 a1 a2 a3 a4 a5 a6 a7 a8 a9 a10 a11, rfl, rfl⟩
  | succ m ih =>
    intro i hi
    refine v_iload_n (pc := 134) dX6_init_134 rfl rfl ?_
    refine v_bipush (pc := 135) (v := 8) dX6_init_135 rfl ?_
    refine v_icmp_ge (pc := 137) (tgt := 153) dX6_init_137 (by decide) (fun c137 => absurd c137 (nI_ge (a := i) (b := 8) (by omega) (by decide))) (fun c137 => ?_)
    have c137 : ¬ 8 ≤ i := fun h => c137 ((nI_leI (a := 8) (b := i) (by omega) (by omega)).mpr h)
    refine v_aload_nR (pc := 140) dX6_init_140 rfl rfl ?_
    refine v_get (pc := 141) 2 0 fg_X6_13 rfl rfl dX6_init_141 ?_
    refine v_iload_n (pc := 144) dX6_init_144 rfl rfl ?_
    refine v_iconst (pc := 145) (v := 5) dX6_init_145 rfl ?_
    refine v_iastN (pc := 146) 2 (k := i) rfl (by omega) (by decide) dX6_init_146 ?_
    try dsimp only [wb, ModelM, List.set_cons_succ, List.set_cons_zero, List.append_nil, List.nil_append, List.cons_append, Option.toList, Nat.sub_zero, List.take_succ_cons, List.take_zero]
    refine v_iinc (pc := 147) (v := nI (i + 1)) dX6_init_147 rfl (nI_1 _) (by decide) rfl ?_
    refine v_goto (pc := 150) (tgt := 134) dX6_init_150 (by decide) ?_
    rw [fillU_s (fun _ => 5) (fun _ => 0) i rfl]
    exact ih (i + 1) (by omega)
set_option maxRecDepth 100000 in
set_option maxHeartbeats 4000000 in
theorem lp_X6_i1 {G : Cx} {a0 a1 a2 a3 a4 a5 a6 a7 a8 a9 a10 a11 sz : Nat} {M0 : List ME} (hM0 : M0.length = 1) : ∀ (m i : Nat), m + i = 160 → V G Y_X6_init (ZM G M0 sz (fun v M' => v = none ∧ ∃ z : Nat → Nat, z 0 = a0 ∧ M' = ModelM z 0 (fun _ => 1) (fun _ => 5) (fun _ => 0) 0 0 0 (fun _ => 30) (fun _ => 0) (fun _ => 0) (fun _ _ => 0) (fun _ => 0) (fun _ _ => 0) 0 (fun _ => 0) (fun _ => 0)) noX) 2 0 0 104 [some (.ref a0), some (.int (nI i))] [] [eO 6 a0 [.int 0, .ref a1, .ref a2, .int 0, .ref a3, .int 0, .int 0, .ref a4, .ref a5, .ref a6, .ref a7, .ref a8, .ref a9, .ref a10, .ref a11], eI a1 160 (fillU (fun _ => 1) (fun _ => 0) i), eI a2 8 (fun _ => 0), eI a3 8 (fun _ => 0), eI a4 160 (fillU (fun _ => 30) (fun _ => 0) i), eI a5 160 (fun _ => 0), eI a6 160 (fun _ => 0), eI a7 35 (fun _ => 0), eI a8 200 (fun _ => 0), eI a9 1 (upd (fun _ => 0) 0 0), eI a10 160 (fun _ => 0), eZ a11 160 (fun _ => 0)] := by
  intro m
  induction m with
  | zero =>
    intro i hi
    obtain rfl : i = 160 := by omega
    refine v_iload_n (pc := 104) dX6_init_104 rfl rfl ?_
    refine v_sipush (pc := 105) (v := 160) dX6_init_105 rfl ?_
    refine v_icmp_ge (pc := 108) (tgt := 132) dX6_init_108 (by decide) (fun c108 => ?_) (fun c108 => absurd (nI_le (a := 160) (b := 160) (Nat.le_refl _) (by decide)) c108)
    have c108 : 160 ≤ 160 := (nI_leI (a := 160) (b := 160) (by omega) (by omega)).mp c108
    refine v_iconst (pc := 132) (v := 0) dX6_init_132 rfl ?_
    refine v_istore_n (pc := 133) dX6_init_133 rfl (by decide) rfl ?_
    refine v_sub (L' := [some (.ref a0), some (.int (nI 0))]) ⟨rfl, rfl, trivial⟩ ?_
    exact lp_X6_i2 hM0 8 0 (by omega)
  | succ m ih =>
    intro i hi
    refine v_iload_n (pc := 104) dX6_init_104 rfl rfl ?_
    refine v_sipush (pc := 105) (v := 160) dX6_init_105 rfl ?_
    refine v_icmp_ge (pc := 108) (tgt := 132) dX6_init_108 (by decide) (fun c108 => absurd c108 (nI_ge (a := i) (b := 160) (by omega) (by decide))) (fun c108 => ?_)
    have c108 : ¬ 160 ≤ i := fun h => c108 ((nI_leI (a := 160) (b := i) (by omega) (by omega)).mpr h)
    refine v_aload_nR (pc := 111) dX6_init_111 rfl rfl ?_
    refine v_get (pc := 112) 1 0 fg_X6_9 rfl rfl dX6_init_112 ?_
    refine v_iload_n (pc := 115) dX6_init_115 rfl rfl ?_
    refine v_iconst (pc := 116) (v := 1) dX6_init_116 rfl ?_
    refine v_iastN (pc := 117) 1 (k := i) rfl (by omega) (by decide) dX6_init_117 ?_
    try dsimp only [wb, ModelM, List.set_cons_succ, List.set_cons_zero, List.append_nil, List.nil_append, List.cons_append, Option.toList, Nat.sub_zero, List.take_succ_cons, List.take_zero]
    refine v_aload_nR (pc := 118) dX6_init_118 rfl rfl ?_
    refine v_get (pc := 119) 7 0 fg_X6_19 rfl rfl dX6_init_119 ?_
    refine v_iload_n (pc := 122) dX6_init_122 rfl rfl ?_
    refine v_bipush (pc := 123) (v := 30) dX6_init_123 rfl ?_
    refine v_iastN (pc := 125) 4 (k := i) rfl (by omega) (by decide) dX6_init_125 ?_
    try dsimp only [wb, ModelM, List.set_cons_succ, List.set_cons_zero, List.append_nil, List.nil_append, List.cons_append, Option.toList, Nat.sub_zero, List.take_succ_cons, List.take_zero]
    refine v_iinc (pc := 126) (v := nI (i + 1)) dX6_init_126 rfl (nI_1 _) (by decide) rfl ?_
    refine v_goto (pc := 129) (tgt := 104) dX6_init_129 (by decide) ?_
    rw [fillU_s (fun _ => 1) (fun _ => 0) i rfl, fillU_s (fun _ => 30) (fun _ => 0) i rfl]
    exact ih (i + 1) (by omega)
set_option maxRecDepth 100000 in
set_option maxHeartbeats 4000000 in
theorem c_X6_init {G : Cx} {a0 : Nat} : Mt G Y_X6_init 2 11 1212 [.ref a0] [eO 6 a0 [.int 0, .null, .null, .int 0, .null, .int 0, .int 0, .null, .null, .null, .null, .null, .null, .null, .null]] (fun v M' => v = none ∧ ∃ z : Nat → Nat, z 0 = a0 ∧ M' = ModelM z 0 (fun _ => 1) (fun _ => 5) (fun _ => 0) 0 0 0 (fun _ => 30) (fun _ => 0) (fun _ => 0) (fun _ _ => 0) (fun _ => 0) (fun _ _ => 0) 0 (fun _ => 0) (fun _ => 0)) noX := by
  refine Mt.of (L := [some (.ref a0), none]) rfl (by decide) (by simp [lg_sl, Value.category]) ⟨rfl, trivial⟩ (fun sz => ?_)
  refine v_aload_nR (pc := 0) dX6_init_0 rfl rfl ?_
  refine v_objInit (pc := 1) q801 q23 q24 (by decide) (Nat.le_of_ble_eq_true rfl) dX6_init_1 ?_
  refine v_aload_nR (pc := 4) dX6_init_4 rfl rfl ?_
  refine v_sipush (pc := 5) (v := 160) dX6_init_5 rfl ?_
  refine v_newa (pc := 8) (atype := .int) 0 (N := 160) (a0 := .inl (fun _ => 0)) q59 rfl (fun _ => rfl) (fun _ h => by cases h) (fun _ => rfl) (by decide) (by decide) (by decide) (by decide) (by decide) dX6_init_8 (fun z8 => ?_)
  try dsimp only [wb, ModelM, List.set_cons_succ, List.set_cons_zero, List.append_nil, List.nil_append, List.cons_append, Option.toList, Nat.sub_zero, List.take_succ_cons, List.take_zero]
  refine v_put (pc := 10) 1 0 fp_X6_init_9 rfl rfl rfl (Nat.le_of_ble_eq_true rfl) dX6_init_10 ?_
  try dsimp only [wb, ModelM, List.set_cons_succ, List.set_cons_zero, List.append_nil, List.nil_append, List.cons_append, Option.toList, Nat.sub_zero, List.take_succ_cons, List.take_zero]
  refine v_aload_nR (pc := 13) dX6_init_13 rfl rfl ?_
  refine v_bipush (pc := 14) (v := 8) dX6_init_14 rfl ?_
  refine v_newa (pc := 16) (atype := .int) 0 (N := 8) (a0 := .inl (fun _ => 0)) q59 rfl (fun _ => rfl) (fun _ h => by cases h) (fun _ => rfl) (by decide) (by decide) (by decide) (by decide) (by decide) dX6_init_16 (fun z16 => ?_)
  try dsimp only [wb, ModelM, List.set_cons_succ, List.set_cons_zero, List.append_nil, List.nil_append, List.cons_append, Option.toList, Nat.sub_zero, List.take_succ_cons, List.take_zero]
  refine v_put (pc := 18) 2 0 fp_X6_init_13 rfl rfl rfl (Nat.le_of_ble_eq_true rfl) dX6_init_18 ?_
  try dsimp only [wb, ModelM, List.set_cons_succ, List.set_cons_zero, List.append_nil, List.nil_append, List.cons_append, Option.toList, Nat.sub_zero, List.take_succ_cons, List.take_zero]
  refine v_aload_nR (pc := 21) dX6_init_21 rfl rfl ?_
  refine v_bipush (pc := 22) (v := 8) dX6_init_22 rfl ?_
  refine v_newa (pc := 24) (atype := .int) 0 (N := 8) (a0 := .inl (fun _ => 0)) q59 rfl (fun _ => rfl) (fun _ h => by cases h) (fun _ => rfl) (by decide) (by decide) (by decide) (by decide) (by decide) dX6_init_24 (fun z24 => ?_)
  try dsimp only [wb, ModelM, List.set_cons_succ, List.set_cons_zero, List.append_nil, List.nil_append, List.cons_append, Option.toList, Nat.sub_zero, List.take_succ_cons, List.take_zero]
  refine v_put (pc := 26) 4 0 fp_X6_init_16 rfl rfl rfl (Nat.le_of_ble_eq_true rfl) dX6_init_26 ?_
  try dsimp only [wb, ModelM, List.set_cons_succ, List.set_cons_zero, List.append_nil, List.nil_append, List.cons_append, Option.toList, Nat.sub_zero, List.take_succ_cons, List.take_zero]
  refine v_aload_nR (pc := 29) dX6_init_29 rfl rfl ?_
  refine v_sipush (pc := 30) (v := 160) dX6_init_30 rfl ?_
  refine v_newa (pc := 33) (atype := .int) 0 (N := 160) (a0 := .inl (fun _ => 0)) q59 rfl (fun _ => rfl) (fun _ h => by cases h) (fun _ => rfl) (by decide) (by decide) (by decide) (by decide) (by decide) dX6_init_33 (fun z33 => ?_)
  try dsimp only [wb, ModelM, List.set_cons_succ, List.set_cons_zero, List.append_nil, List.nil_append, List.cons_append, Option.toList, Nat.sub_zero, List.take_succ_cons, List.take_zero]
  refine v_put (pc := 35) 7 0 fp_X6_init_19 rfl rfl rfl (Nat.le_of_ble_eq_true rfl) dX6_init_35 ?_
  try dsimp only [wb, ModelM, List.set_cons_succ, List.set_cons_zero, List.append_nil, List.nil_append, List.cons_append, Option.toList, Nat.sub_zero, List.take_succ_cons, List.take_zero]
  refine v_aload_nR (pc := 38) dX6_init_38 rfl rfl ?_
  refine v_sipush (pc := 39) (v := 160) dX6_init_39 rfl ?_
  refine v_newa (pc := 42) (atype := .int) 0 (N := 160) (a0 := .inl (fun _ => 0)) q59 rfl (fun _ => rfl) (fun _ h => by cases h) (fun _ => rfl) (by decide) (by decide) (by decide) (by decide) (by decide) dX6_init_42 (fun z42 => ?_)
  try dsimp only [wb, ModelM, List.set_cons_succ, List.set_cons_zero, List.append_nil, List.nil_append, List.cons_append, Option.toList, Nat.sub_zero, List.take_succ_cons, List.take_zero]
  refine v_put (pc := 44) 8 0 fp_X6_init_22 rfl rfl rfl (Nat.le_of_ble_eq_true rfl) dX6_init_44 ?_
  try dsimp only [wb, ModelM, List.set_cons_succ, List.set_cons_zero, List.append_nil, List.nil_append, List.cons_append, Option.toList, Nat.sub_zero, List.take_succ_cons, List.take_zero]
  refine v_aload_nR (pc := 47) dX6_init_47 rfl rfl ?_
  refine v_sipush (pc := 48) (v := 160) dX6_init_48 rfl ?_
  refine v_newa (pc := 51) (atype := .int) 0 (N := 160) (a0 := .inl (fun _ => 0)) q59 rfl (fun _ => rfl) (fun _ h => by cases h) (fun _ => rfl) (by decide) (by decide) (by decide) (by decide) (by decide) dX6_init_51 (fun z51 => ?_)
  try dsimp only [wb, ModelM, List.set_cons_succ, List.set_cons_zero, List.append_nil, List.nil_append, List.cons_append, Option.toList, Nat.sub_zero, List.take_succ_cons, List.take_zero]
  refine v_put (pc := 53) 9 0 fp_X6_init_25 rfl rfl rfl (Nat.le_of_ble_eq_true rfl) dX6_init_53 ?_
  try dsimp only [wb, ModelM, List.set_cons_succ, List.set_cons_zero, List.append_nil, List.nil_append, List.cons_append, Option.toList, Nat.sub_zero, List.take_succ_cons, List.take_zero]
  refine v_aload_nR (pc := 56) dX6_init_56 rfl rfl ?_
  refine v_bipush (pc := 57) (v := 35) dX6_init_57 rfl ?_
  refine v_newa (pc := 59) (atype := .int) 0 (N := 35) (a0 := .inl (fun _ => 0)) q59 rfl (fun _ => rfl) (fun _ h => by cases h) (fun _ => rfl) (by decide) (by decide) (by decide) (by decide) (by decide) dX6_init_59 (fun z59 => ?_)
  try dsimp only [wb, ModelM, List.set_cons_succ, List.set_cons_zero, List.append_nil, List.nil_append, List.cons_append, Option.toList, Nat.sub_zero, List.take_succ_cons, List.take_zero]
  refine v_put (pc := 61) 10 0 fp_X6_init_28 rfl rfl rfl (Nat.le_of_ble_eq_true rfl) dX6_init_61 ?_
  try dsimp only [wb, ModelM, List.set_cons_succ, List.set_cons_zero, List.append_nil, List.nil_append, List.cons_append, Option.toList, Nat.sub_zero, List.take_succ_cons, List.take_zero]
  refine v_aload_nR (pc := 64) dX6_init_64 rfl rfl ?_
  refine v_sipush (pc := 65) (v := 200) dX6_init_65 rfl ?_
  refine v_newa (pc := 68) (atype := .int) 0 (N := 200) (a0 := .inl (fun _ => 0)) q59 rfl (fun _ => rfl) (fun _ h => by cases h) (fun _ => rfl) (by decide) (by decide) (by decide) (by decide) (by decide) dX6_init_68 (fun z68 => ?_)
  try dsimp only [wb, ModelM, List.set_cons_succ, List.set_cons_zero, List.append_nil, List.nil_append, List.cons_append, Option.toList, Nat.sub_zero, List.take_succ_cons, List.take_zero]
  refine v_put (pc := 70) 11 0 fp_X6_init_31 rfl rfl rfl (Nat.le_of_ble_eq_true rfl) dX6_init_70 ?_
  try dsimp only [wb, ModelM, List.set_cons_succ, List.set_cons_zero, List.append_nil, List.nil_append, List.cons_append, Option.toList, Nat.sub_zero, List.take_succ_cons, List.take_zero]
  refine v_aload_nR (pc := 73) dX6_init_73 rfl rfl ?_
  refine v_iconst (pc := 74) (v := 1) dX6_init_74 rfl ?_
  refine v_newa (pc := 75) (atype := .int) 0 (N := 1) (a0 := .inl (fun _ => 0)) q59 rfl (fun _ => rfl) (fun _ h => by cases h) (fun _ => rfl) (by decide) (by decide) (by decide) (by decide) (by decide) dX6_init_75 (fun z75 => ?_)
  try dsimp only [wb, ModelM, List.set_cons_succ, List.set_cons_zero, List.append_nil, List.nil_append, List.cons_append, Option.toList, Nat.sub_zero, List.take_succ_cons, List.take_zero]
  refine v_dup (pc := 77) dX6_init_77 rfl ?_
  refine v_iconst (pc := 78) (v := 0) dX6_init_78 rfl ?_
  refine v_iconst (pc := 79) (v := 0) dX6_init_79 rfl ?_
  refine v_iastN (pc := 80) 9 (k := 0) rfl (by omega) (by decide) dX6_init_80 ?_
  try dsimp only [wb, ModelM, List.set_cons_succ, List.set_cons_zero, List.append_nil, List.nil_append, List.cons_append, Option.toList, Nat.sub_zero, List.take_succ_cons, List.take_zero]
  refine v_put (pc := 81) 12 0 fp_X6_init_34 rfl rfl rfl (Nat.le_of_ble_eq_true rfl) dX6_init_81 ?_
  try dsimp only [wb, ModelM, List.set_cons_succ, List.set_cons_zero, List.append_nil, List.nil_append, List.cons_append, Option.toList, Nat.sub_zero, List.take_succ_cons, List.take_zero]
  refine v_aload_nR (pc := 84) dX6_init_84 rfl rfl ?_
  refine v_sipush (pc := 85) (v := 160) dX6_init_85 rfl ?_
  refine v_newa (pc := 88) (atype := .int) 0 (N := 160) (a0 := .inl (fun _ => 0)) q59 rfl (fun _ => rfl) (fun _ h => by cases h) (fun _ => rfl) (by decide) (by decide) (by decide) (by decide) (by decide) dX6_init_88 (fun z88 => ?_)
  try dsimp only [wb, ModelM, List.set_cons_succ, List.set_cons_zero, List.append_nil, List.nil_append, List.cons_append, Option.toList, Nat.sub_zero, List.take_succ_cons, List.take_zero]
  refine v_put (pc := 90) 13 0 fp_X6_init_37 rfl rfl rfl (Nat.le_of_ble_eq_true rfl) dX6_init_90 ?_
  try dsimp only [wb, ModelM, List.set_cons_succ, List.set_cons_zero, List.append_nil, List.nil_append, List.cons_append, Option.toList, Nat.sub_zero, List.take_succ_cons, List.take_zero]
  refine v_aload_nR (pc := 93) dX6_init_93 rfl rfl ?_
  refine v_sipush (pc := 94) (v := 160) dX6_init_94 rfl ?_
  refine v_newa (pc := 97) (atype := .boolean) 1 (N := 160) (a0 := .inl (fun _ => 0)) q93 rfl (fun _ => rfl) (fun _ h => by cases h) (fun _ => rfl) (by decide) (by decide) (by decide) (by decide) (by decide) dX6_init_97 (fun z97 => ?_)
  try dsimp only [wb, ModelM, List.set_cons_succ, List.set_cons_zero, List.append_nil, List.nil_append, List.cons_append, Option.toList, Nat.sub_zero, List.take_succ_cons, List.take_zero]
  refine v_put (pc := 99) 14 0 fp_X6_init_40 rfl rfl rfl (Nat.le_of_ble_eq_true rfl) dX6_init_99 ?_
  try dsimp only [wb, ModelM, List.set_cons_succ, List.set_cons_zero, List.append_nil, List.nil_append, List.cons_append, Option.toList, Nat.sub_zero, List.take_succ_cons, List.take_zero]
  refine v_iconst (pc := 102) (v := 0) dX6_init_102 rfl ?_
  refine v_istore_n (pc := 103) dX6_init_103 rfl (by decide) rfl ?_
  refine v_room (ck' := 0) (sk' := 0) (by decide) (by decide) ?_
  refine v_sub (L' := [some (.ref a0), some (.int (nI 0))]) ⟨rfl, rfl, trivial⟩ ?_
  exact lp_X6_i1 rfl 160 0 (by omega)
