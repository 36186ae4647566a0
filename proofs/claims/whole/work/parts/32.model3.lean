/-! the reference: frost; sinking, coming on -/
theorem thT_neg {f : Int32} {T : Nat → Int32} {j : Nat} : thT f T j < 0 ↔ T j < 0 := by
  unfold thT
  by_cases h : T j < 0
  · rw [if_pos h]
  · rw [if_neg h]
    split
    · rename_i h2
      rw [i_lt] at h2 h
      rw [i_lt, i_lt]
      omega
    · exact ⟨fun q => absurd q (by decide), fun q => absurd q h⟩
theorem thT_m {f : Int32} {T : Nat → Int32} {j : Nat} (h : ¬ T j < 0) : (if 0 < T j + 3 * f then T j + 3 * f else 0) = thT (-f) T j := by
  unfold thT
  rw [if_neg h, Int32.mul_neg, Int32.sub_neg]
theorem c1_iff {C : Nat → Int32} (hC : cOK C) (j : Nat) : bI (C j = 1) = C j := by
  rcases cOK01 hC j with h | h
  · rw [h]; decide
  · rw [h]; decide
theorem nI_nm1 {j : Nat} (h : j < 160) : ¬ nI j = -1 := by
  intro q
  have h2 : (nI j).toInt = -1 := by rw [q]; decide
  rw [nI_toInt (by omega)] at h2
  omega
set_option maxRecDepth 100000 in
set_option maxHeartbeats 4000000 in
theorem lp_X6_ibc {G : Cx} {z : Nat → Nat} {th : Int32} {N O PC T S C : Nat → Int32} {ps sc bc hh : Nat} {SF BF : Nat → Nat → Int32} {MX H W : Nat → Int32} (hps : ps ≤ 8) (hsc : sc ≤ 5) (hbc : bc ≤ 40) {sz : Nat} {k : Nat} (hk : k < 160) : ∀ (m i : Nat), m + i = 4 → wcb W k i = false → V G Y_X6_isBesideCrack (ZM G (ModelM z th N O PC ps sc bc T S C SF MX BF hh H W) sz (fun v M' => v = some (.int (bI (wcb W k 4 = true))) ∧ M' = ModelM z th N O PC ps sc bc T S C SF MX BF hh H W) noX) 3 0 0 2 [some (.ref (z 0)), some (.int (nI k)), some (.int (nI i))] [] (ModelM z th N O PC ps sc bc T S C SF MX BF hh H W) := by
  intro m
  induction m with
  | zero =>
    intro i hi
    obtain rfl : i = 4 := by omega
    intro hw
    refine v_iload_n (pc := 2) dX6_isBesideCrack_2 rfl rfl ?_
    refine v_iconst (pc := 3) (v := 4) dX6_isBesideCrack_3 rfl ?_
    refine v_icmp_ge (pc := 4) (tgt := 37) dX6_isBesideCrack_4 (by decide) (fun c4 => ?_) (fun c4 => absurd (nI_le (a := 4) (b := 4) (Nat.le_refl _) (by decide)) c4)
    have c4 : 4 ≤ 4 := (nI_leI (a := 4) (b := 4) (by omega) (by omega)).mp c4
    refine v_iconst (pc := 37) (v := 0) dX6_isBesideCrack_37 rfl ?_
    refine v_iret (pc := 38) rfl rfl (Nat.le_of_ble_eq_true rfl) dX6_isBesideCrack_38 ?_
    exact ⟨by rw [bI_f (by rw [hw]; decide)], rfl⟩
  | succ m ih =>
    intro i hi
    intro hw
    refine v_iload_n (pc := 2) dX6_isBesideCrack_2 rfl rfl ?_
    refine v_iconst (pc := 3) (v := 4) dX6_isBesideCrack_3 rfl ?_
    refine v_icmp_ge (pc := 4) (tgt := 37) dX6_isBesideCrack_4 (by decide) (fun c4 => absurd c4 (nI_ge (a := i) (b := 4) (by omega) (by decide))) (fun c4 => ?_)
    have c4 : ¬ 4 ≤ i := fun h => c4 ((nI_leI (a := 4) (b := i) (by omega) (by omega)).mpr h)
    refine v_iload_n (pc := 7) dX6_isBesideCrack_7 rfl rfl ?_
    refine v_iload_n (pc := 8) dX6_isBesideCrack_8 rfl rfl ?_
    refine v_callS2 (pc := 9) (c_X6_beside hk (by omega)) cm_X6_beside q960 q961 [] (by rfl) (by decide) (fun _ _ h => h) (by decide) (by decide) (by decide) (Nat.le_of_ble_eq_true rfl) dX6_isBesideCrack_9 (fun v9 M9 hQ9 => ?_)
    obtain ⟨rfl, rfl⟩ := hQ9
    try dsimp only [wb, ModelM, List.set_cons_succ, List.set_cons_zero, List.append_nil, List.nil_append, List.cons_append, Option.toList, Nat.sub_zero]
    refine v_iconst (pc := 12) (v := -1) dX6_isBesideCrack_12 rfl ?_
    refine v_icmp_eq (pc := 13) (tgt := 31) dX6_isBesideCrack_13 (by decide) (fun c13 => ?_) (fun c13 => ?_)
    · refine v_iinc (pc := 31) (v := nI (i + 1)) dX6_isBesideCrack_31 rfl (nI_1 _) (by decide) rfl ?_
      refine v_goto (pc := 34) (tgt := 2) dX6_isBesideCrack_34 (by decide) ?_
      have hw2 : wcb W k (i + 1) = false := wcb_s0 hw (fun j2 hj2 => absurd c13 (by rw [oI_some hj2]; exact nI_nm1 (nbr_lt hk hj2)))
      exact ih (i + 1) (by omega) hw2
    · refine v_aload_nR (pc := 16) dX6_isBesideCrack_16 rfl rfl ?_
      refine v_get (pc := 17) 14 0 fg_X6_40 rfl rfl dX6_isBesideCrack_17 ?_
      refine v_iload_n (pc := 20) dX6_isBesideCrack_20 rfl rfl ?_
      refine v_iload_n (pc := 21) dX6_isBesideCrack_21 rfl rfl ?_
      refine v_callS2 (pc := 22) (c_X6_beside hk (by omega)) cm_X6_beside q960 q961 [] (by rfl) (by decide) (fun _ _ h => h) (by decide) (by decide) (by decide) (Nat.le_of_ble_eq_true rfl) dX6_isBesideCrack_22 (fun v22 M22 hQ22 => ?_)
      obtain ⟨rfl, rfl⟩ := hQ22
      try dsimp only [wb, ModelM, List.set_cons_succ, List.set_cons_zero, List.append_nil, List.nil_append, List.cons_append, Option.toList, Nat.sub_zero]
      obtain ⟨j, hj⟩ : ∃ j, nbr k i = some j := by
        cases hn : nbr k i with
        | none => exact absurd (oI_none hn) c13
        | some j => exact ⟨j, rfl⟩
      have hj2 := nbr_lt hk hj
      rw [oI_some hj]
      refine v_zaldN (pc := 25) 11 (k := j) rfl (by omega) (by decide) dX6_isBesideCrack_25 ?_
      refine v_if_eq (pc := 26) (tgt := 31) dX6_isBesideCrack_26 (by decide) (fun c26 => ?_) (fun c26 => ?_)
      · refine v_iinc (pc := 31) (v := nI (i + 1)) dX6_isBesideCrack_31 rfl (nI_1 _) (by decide) rfl ?_
        refine v_goto (pc := 34) (tgt := 2) dX6_isBesideCrack_34 (by decide) ?_
        have hw2 : wcb W k (i + 1) = false := wcb_s0 hw (fun j2 hj2 => by rw [hj] at hj2; cases hj2; exact c26)
        exact ih (i + 1) (by omega) hw2
      · refine v_iconst (pc := 29) (v := 1) dX6_isBesideCrack_29 rfl ?_
        refine v_iret (pc := 30) rfl rfl (Nat.le_of_ble_eq_true rfl) dX6_isBesideCrack_30 ?_
        exact ⟨by rw [bI_t (wcb_up (by omega) (wcb_s1 hj c26))], rfl⟩
set_option maxRecDepth 100000 in
set_option maxHeartbeats 4000000 in
theorem c_X6_isBesideCrack {G : Cx} {z : Nat → Nat} {th : Int32} {N O PC T S C : Nat → Int32} {ps sc bc hh : Nat} {SF BF : Nat → Nat → Int32} {MX H W : Nat → Int32} (hps : ps ≤ 8) (hsc : sc ≤ 5) (hbc : bc ≤ 40) {k : Nat} (hk : k < 160) : Mt G Y_X6_isBesideCrack 3 0 0 [.ref (z 0), .int (nI k)] (ModelM z th N O PC ps sc bc T S C SF MX BF hh H W) (fun v M' => v = some (.int (bI (wcb W k 4 = true))) ∧ M' = ModelM z th N O PC ps sc bc T S C SF MX BF hh H W) noX := by
  refine Mt.of (L := [some (.ref (z 0)), some (.int (nI k)), none]) rfl (by decide) (by simp [lg_sl, Value.category]) ⟨rfl, rfl, trivial⟩ (fun sz => ?_)
  refine v_iconst (pc := 0) (v := 0) dX6_isBesideCrack_0 rfl ?_
  refine v_istore_n (pc := 1) dX6_isBesideCrack_1 rfl (by decide) rfl ?_
  exact lp_X6_ibc hps hsc hbc hk 4 0 (by omega) rfl
set_option maxRecDepth 100000 in
set_option maxHeartbeats 4000000 in
theorem lp_X6_frostP {G : Cx} {z : Nat → Nat} {th : Int32} {N O PC T S C : Nat → Int32} {ps sc bc hh : Nat} {SF BF : Nat → Nat → Int32} {MX H W : Nat → Int32} (hps : ps ≤ 8) (hsc : sc ≤ 5) (hbc : bc ≤ 40) {sz : Nat} {f : Int32} {M0 : List ME} (hM0 : M0.length = 12) (hT : tOK T) (hf : 0 < f) : ∀ (m i : Nat), m + i = 160 → V G Y_X6_frost (ZM G M0 sz (fun v M' => v = none ∧ M' = ModelM z th N O PC ps sc bc (fillU (fzT f T) T 160) (fillU (fzS T S) S 160) C SF MX BF hh H W) noX) 4 0 0 38 [some (.ref (z 0)), some (.int f), some (.int (nI i))] [] (ModelM z th N O PC ps sc bc (fillU (fzT f T) T i) (fillU (fzS T S) S i) C SF MX BF hh H W) := by
  intro m
  induction m with
  | zero =>
    intro i hi
    obtain rfl : i = 160 := by omega
    refine v_iload_n (pc := 38) dX6_frost_38 rfl rfl ?_
    refine v_sipush (pc := 39) (v := 160) dX6_frost_39 rfl ?_
    refine v_icmp_ge (pc := 42) (tgt := 173) dX6_frost_42 (by decide) (fun c42 => ?_) (fun c42 => absurd (nI_le (a := 160) (b := 160) (Nat.le_refl _) (by decide)) c42)
    have c42 : 160 ≤ 160 := (nI_leI (a := 160) (b := 160) (by omega) (by omega)).mp c42
    refine v_vret (pc := 173) rfl (by rw [hM0]; exact Nat.le_of_ble_eq_true rfl) dX6_frost_173 ?_
    exact ⟨rfl, rfl⟩
  | succ m ih =>
    intro i hi
    have eT : fillU (fzT f T) T i i = T i := fillU_out (Nat.lt_irrefl i)
    have eS : fillU (fzS T S) S i i = S i := fillU_out (Nat.lt_irrefl i)
    refine v_iload_n (pc := 38) dX6_frost_38 rfl rfl ?_
    refine v_sipush (pc := 39) (v := 160) dX6_frost_39 rfl ?_
    refine v_icmp_ge (pc := 42) (tgt := 173) dX6_frost_42 (by decide) (fun c42 => absurd c42 (nI_ge (a := i) (b := 160) (by omega) (by decide))) (fun c42 => ?_)
    have c42 : ¬ 160 ≤ i := fun h => c42 ((nI_leI (a := 160) (b := i) (by omega) (by omega)).mpr h)
    refine v_aload_nR (pc := 45) dX6_frost_45 rfl rfl ?_
    refine v_get (pc := 46) 7 0 fg_X6_19 rfl rfl dX6_frost_46 ?_
    refine v_iload_n (pc := 49) dX6_frost_49 rfl rfl ?_
    refine v_ialdN (pc := 50) 4 (k := i) rfl (by omega) (by decide) dX6_frost_50 ?_
    refine v_iconst (pc := 51) (v := -1) dX6_frost_51 rfl ?_
    rw [eT]
    refine v_icmp_ne (pc := 52) (tgt := 58) dX6_frost_52 (by decide) (fun c52 => ?_) (fun c52 => ?_)
    · have hneg : ¬ T i < 0 := fun q => c52 ((tOK_l hT (by omega)).mpr q)
      refine v_iload_n (pc := 58) dX6_frost_58 rfl rfl ?_
      refine v_if_le (pc := 59) (tgt := 119) dX6_frost_59 (by decide) (fun c59 => absurd hf (Int32.not_lt.mpr c59)) (fun c59 => ?_)
      refine v_aload_nR (pc := 62) dX6_frost_62 rfl rfl ?_
      refine v_get (pc := 63) 7 0 fg_X6_19 rfl rfl dX6_frost_63 ?_
      refine v_iload_n (pc := 66) dX6_frost_66 rfl rfl ?_
      refine v_sipush (pc := 67) (v := 200) dX6_frost_67 rfl ?_
      refine v_aload_nR (pc := 70) dX6_frost_70 rfl rfl ?_
      refine v_get (pc := 71) 7 0 fg_X6_19 rfl rfl dX6_frost_71 ?_
      refine v_iload_n (pc := 74) dX6_frost_74 rfl rfl ?_
      refine v_ialdN (pc := 75) 4 (k := i) rfl (by omega) (by decide) dX6_frost_75 ?_
      rw [eT]
      refine v_iload_n (pc := 76) dX6_frost_76 rfl rfl ?_
      refine v_bipush (pc := 77) (v := 12) dX6_frost_77 rfl ?_
      refine v_imul (pc := 79) dX6_frost_79 ?_
      refine v_bipush (pc := 80) (v := 6) dX6_frost_80 rfl ?_
      refine v_aload_nR (pc := 82) dX6_frost_82 rfl rfl ?_
      refine v_get (pc := 83) 7 0 fg_X6_19 rfl rfl dX6_frost_83 ?_
      refine v_iload_n (pc := 86) dX6_frost_86 rfl rfl ?_
      refine v_ialdN (pc := 87) 4 (k := i) rfl (by omega) (by decide) dX6_frost_87 ?_
      rw [eT]
      refine v_bipush (pc := 88) (v := 10) dX6_frost_88 rfl ?_
      refine v_idiv (pc := 90) dX6_frost_90 (by decide) ?_
      refine v_iadd (pc := 91) dX6_frost_91 ?_
      refine v_idiv (pc := 92) dX6_frost_92 (div10_ne hneg) ?_
      refine v_iadd (pc := 93) dX6_frost_93 ?_
      refine v_mmin (pc := 94) q991 q651 q16 q652 (by decide) (Nat.le_of_ble_eq_true rfl) dX6_frost_94 ?_
      refine v_iastN (pc := 97) 4 (k := i) rfl (by omega) (by decide) dX6_frost_97 ?_
      try dsimp only [wb, ModelM, List.set_cons_succ, List.set_cons_zero, List.append_nil, List.nil_append, List.cons_append, Option.toList, Nat.sub_zero]
      refine v_aload_nR (pc := 98) dX6_frost_98 rfl rfl ?_
      refine v_get (pc := 99) 8 0 fg_X6_22 rfl rfl dX6_frost_99 ?_
      refine v_iload_n (pc := 102) dX6_frost_102 rfl rfl ?_
      refine v_iconst (pc := 103) (v := 0) dX6_frost_103 rfl ?_
      refine v_aload_nR (pc := 104) dX6_frost_104 rfl rfl ?_
      refine v_get (pc := 105) 8 0 fg_X6_22 rfl rfl dX6_frost_105 ?_
      refine v_iload_n (pc := 108) dX6_frost_108 rfl rfl ?_
      refine v_ialdN (pc := 109) 5 (k := i) rfl (by omega) (by decide) dX6_frost_109 ?_
      rw [eS]
      refine v_iconst (pc := 110) (v := 2) dX6_frost_110 rfl ?_
      refine v_isub (pc := 111) dX6_frost_111 ?_
      refine v_mmax (pc := 112) q992 q221 q16 q222 (by decide) (Nat.le_of_ble_eq_true rfl) dX6_frost_112 ?_
      refine v_iastN (pc := 115) 5 (k := i) rfl (by omega) (by decide) dX6_frost_115 ?_
      try dsimp only [wb, ModelM, List.set_cons_succ, List.set_cons_zero, List.append_nil, List.nil_append, List.cons_append, Option.toList, Nat.sub_zero]
      refine v_goto (pc := 116) (tgt := 167) dX6_frost_116 (by decide) ?_
      refine v_iinc (pc := 167) (v := nI (i + 1)) dX6_frost_167 rfl (nI_1 _) (by decide) rfl ?_
      refine v_goto (pc := 170) (tgt := 38) dX6_frost_170 (by decide) ?_
      refine v_cgI 4 (g := fillU (fzT f T) T (i + 1)) rfl (fill_step (by unfold fzT; rw [if_neg hneg])) ?_
      refine v_cgI 5 (g := fillU (fzS T S) S (i + 1)) rfl (fill_step (by unfold fzS; rw [if_neg hneg])) ?_
      exact ih (i + 1) (by omega)
    · refine v_goto (pc := 55) (tgt := 167) dX6_frost_55 (by decide) ?_
      refine v_iinc (pc := 167) (v := nI (i + 1)) dX6_frost_167 rfl (nI_1 _) (by decide) rfl ?_
      refine v_goto (pc := 170) (tgt := 38) dX6_frost_170 (by decide) ?_
      have hneg : T i < 0 := (tOK_l hT (by omega)).mp c52
      have e1 : fillU (fzT f T) T i = fillU (fzT f T) T (i + 1) := fillU_k _ _ _ (by unfold fzT; rw [if_pos hneg])
      have e2 : fillU (fzS T S) S i = fillU (fzS T S) S (i + 1) := fillU_k _ _ _ (by unfold fzS; rw [if_pos hneg])
      rw [e1, e2]
      exact ih (i + 1) (by omega)
set_option maxRecDepth 100000 in
set_option maxHeartbeats 4000000 in
theorem lp_X6_frostN {G : Cx} {z : Nat → Nat} {th : Int32} {N O PC T S C : Nat → Int32} {ps sc bc hh : Nat} {SF BF : Nat → Nat → Int32} {MX H W : Nat → Int32} (hps : ps ≤ 8) (hsc : sc ≤ 5) (hbc : bc ≤ 40) {sz : Nat} {f : Int32} {M0 : List ME} (hM0 : M0.length = 12) (hT : tOK T) (hf : f < 0) (hW : ∀ j, j < 160 → W j = C j) (hd : ∀ j, j < 160 → (dT f T j < 0 ↔ T j < 0)) : ∀ (m i : Nat), m + i = 160 → V G Y_X6_frost (ZM G M0 sz (fun v M' => v = none ∧ M' = ModelM z th N O PC ps sc bc (fillU (thT (-f) T) T 160) S (fillU (spC (dT f T) S C) C 160) SF MX BF hh H W) noX) 4 0 0 38 [some (.ref (z 0)), some (.int f), some (.int (nI i))] [] (ModelM z th N O PC ps sc bc (fillU (thT (-f) T) T i) S (fillU (spC (dT f T) S C) C i) SF MX BF hh H W) := by
  intro m
  induction m with
  | zero =>
    intro i hi
    obtain rfl : i = 160 := by omega
    refine v_iload_n (pc := 38) dX6_frost_38 rfl rfl ?_
    refine v_sipush (pc := 39) (v := 160) dX6_frost_39 rfl ?_
    refine v_icmp_ge (pc := 42) (tgt := 173) dX6_frost_42 (by decide) (fun c42 => ?_) (fun c42 => absurd (nI_le (a := 160) (b := 160) (Nat.le_refl _) (by decide)) c42)
    have c42 : 160 ≤ 160 := (nI_leI (a := 160) (b := 160) (by omega) (by omega)).mp c42
    refine v_vret (pc := 173) rfl (by rw [hM0]; exact Nat.le_of_ble_eq_true rfl) dX6_frost_173 ?_
    exact ⟨rfl, rfl⟩
  | succ m ih =>
    intro i hi
    have eT : fillU (thT (-f) T) T i i = T i := fillU_out (Nat.lt_irrefl i)
    have eW : wcb W i 4 = wcb C i 4 := wcb_cong (by omega) hW 4
    refine v_iload_n (pc := 38) dX6_frost_38 rfl rfl ?_
    refine v_sipush (pc := 39) (v := 160) dX6_frost_39 rfl ?_
    refine v_icmp_ge (pc := 42) (tgt := 173) dX6_frost_42 (by decide) (fun c42 => absurd c42 (nI_ge (a := i) (b := 160) (by omega) (by decide))) (fun c42 => ?_)
    have c42 : ¬ 160 ≤ i := fun h => c42 ((nI_leI (a := 160) (b := i) (by omega) (by omega)).mpr h)
    refine v_aload_nR (pc := 45) dX6_frost_45 rfl rfl ?_
    refine v_get (pc := 46) 7 0 fg_X6_19 rfl rfl dX6_frost_46 ?_
    refine v_iload_n (pc := 49) dX6_frost_49 rfl rfl ?_
    refine v_ialdN (pc := 50) 4 (k := i) rfl (by omega) (by decide) dX6_frost_50 ?_
    refine v_iconst (pc := 51) (v := -1) dX6_frost_51 rfl ?_
    rw [eT]
    refine v_icmp_ne (pc := 52) (tgt := 58) dX6_frost_52 (by decide) (fun c52 => ?_) (fun c52 => ?_)
    · have hneg : ¬ T i < 0 := fun q => c52 ((tOK_l hT (by omega)).mpr q)
      refine v_iload_n (pc := 58) dX6_frost_58 rfl rfl ?_
      refine v_if_le (pc := 59) (tgt := 119) dX6_frost_59 (by decide) (fun c59 => ?_) (fun c59 => absurd (fa_of_lt hf).1 c59)
      refine v_iload_n (pc := 119) dX6_frost_119 rfl rfl ?_
      refine v_if_ge (pc := 120) (tgt := 167) dX6_frost_120 (by decide) (fun c120 => absurd hf (Int32.not_lt.mpr c120)) (fun c120 => ?_)
      refine v_aload_nR (pc := 123) dX6_frost_123 rfl rfl ?_
      refine v_get (pc := 124) 7 0 fg_X6_19 rfl rfl dX6_frost_124 ?_
      refine v_iload_n (pc := 127) dX6_frost_127 rfl rfl ?_
      refine v_iconst (pc := 128) (v := 0) dX6_frost_128 rfl ?_
      refine v_aload_nR (pc := 129) dX6_frost_129 rfl rfl ?_
      refine v_get (pc := 130) 7 0 fg_X6_19 rfl rfl dX6_frost_130 ?_
      refine v_iload_n (pc := 133) dX6_frost_133 rfl rfl ?_
      refine v_ialdN (pc := 134) 4 (k := i) rfl (by omega) (by decide) dX6_frost_134 ?_
      rw [eT]
      refine v_iconst (pc := 135) (v := 3) dX6_frost_135 rfl ?_
      refine v_iload_n (pc := 136) dX6_frost_136 rfl rfl ?_
      refine v_imul (pc := 137) dX6_frost_137 ?_
      refine v_iadd (pc := 138) dX6_frost_138 ?_
      refine v_mmax (pc := 139) q992 q221 q16 q222 (by decide) (Nat.le_of_ble_eq_true rfl) dX6_frost_139 ?_
      refine v_iastN (pc := 142) 4 (k := i) rfl (by omega) (by decide) dX6_frost_142 ?_
      try dsimp only [wb, ModelM, List.set_cons_succ, List.set_cons_zero, List.append_nil, List.nil_append, List.cons_append, Option.toList, Nat.sub_zero]
      refine v_aload_nR (pc := 143) dX6_frost_143 rfl rfl ?_
      refine v_get (pc := 144) 8 0 fg_X6_22 rfl rfl dX6_frost_144 ?_
      refine v_iload_n (pc := 147) dX6_frost_147 rfl rfl ?_
      refine v_ialdN (pc := 148) 5 (k := i) rfl (by omega) (by decide) dX6_frost_148 ?_
      refine v_if_le (pc := 149) (tgt := 167) dX6_frost_149 (by decide) (fun c149 => ?_) (fun c149 => ?_)
      · refine v_iinc (pc := 167) (v := nI (i + 1)) dX6_frost_167 rfl (nI_1 _) (by decide) rfl ?_
        refine v_goto (pc := 170) (tgt := 38) dX6_frost_170 (by decide) ?_
        refine v_cgI 4 (g := fillU (thT (-f) T) T (i + 1)) rfl (fill_step (thT_m hneg)) ?_
        have e2 : fillU (spC (dT f T) S C) C i = fillU (spC (dT f T) S C) C (i + 1) := fillU_k _ _ _ (by unfold spC; rw [if_neg (fun h => absurd h.2.1 (fun h2 => by rw [i_le] at h2 c149; rw [i_1] at h2; rw [i_0] at c149; omega))])
        rw [e2]
        exact ih (i + 1) (by omega)
      · refine v_aload_nR (pc := 152) dX6_frost_152 rfl rfl ?_
        refine v_iload_n (pc := 153) dX6_frost_153 rfl rfl ?_
        refine v_callV1 (pc := 154) (c_X6_isBesideCrack hps hsc hbc (by omega)) cm_X6_isBesideCrack q993 q995 qs36 (ci := 6) rfl rfl (orcO 0 rfl) [0, 1, 2, 3, 4, 5, 6, 7, 8, 9, 10, 11] (by rfl) (by decide) (fun _ _ h => h) (by decide) (by decide) (by decide) (Nat.le_of_ble_eq_true rfl) dX6_frost_154 (fun v154 M154 hQ154 => ?_)
        obtain ⟨rfl, rfl⟩ := hQ154
        try dsimp only [wb, ModelM, List.set_cons_succ, List.set_cons_zero, List.append_nil, List.nil_append, List.cons_append, Option.toList, Nat.sub_zero]
        rw [eW]
        refine v_if_eq (pc := 157) (tgt := 167) dX6_frost_157 (by decide) (fun c157 => ?_) (fun c157 => ?_)
        · have c157 := bI_0.mp c157
          refine v_iinc (pc := 167) (v := nI (i + 1)) dX6_frost_167 rfl (nI_1 _) (by decide) rfl ?_
          refine v_goto (pc := 170) (tgt := 38) dX6_frost_170 (by decide) ?_
          refine v_cgI 4 (g := fillU (thT (-f) T) T (i + 1)) rfl (fill_step (thT_m hneg)) ?_
          have e2 : fillU (spC (dT f T) S C) C i = fillU (spC (dT f T) S C) C (i + 1) := fillU_k _ _ _ (by unfold spC; rw [if_neg (fun h => c157 h.2.2)])
          rw [e2]
          exact ih (i + 1) (by omega)
        · have c157 := bI_n.mp c157
          refine v_aload_nR (pc := 160) dX6_frost_160 rfl rfl ?_
          refine v_get (pc := 161) 9 0 fg_X6_25 rfl rfl dX6_frost_161 ?_
          refine v_iload_n (pc := 164) dX6_frost_164 rfl rfl ?_
          refine v_iconst (pc := 165) (v := 1) dX6_frost_165 rfl ?_
          refine v_iastN (pc := 166) 6 (k := i) rfl (by omega) (by decide) dX6_frost_166 ?_
          try dsimp only [wb, ModelM, List.set_cons_succ, List.set_cons_zero, List.append_nil, List.nil_append, List.cons_append, Option.toList, Nat.sub_zero]
          refine v_iinc (pc := 167) (v := nI (i + 1)) dX6_frost_167 rfl (nI_1 _) (by decide) rfl ?_
          refine v_goto (pc := 170) (tgt := 38) dX6_frost_170 (by decide) ?_
          refine v_cgI 4 (g := fillU (thT (-f) T) T (i + 1)) rfl (fill_step (thT_m hneg)) ?_
          refine v_cgI 6 (g := fillU (spC (dT f T) S C) C (i + 1)) rfl (fill_step (by unfold spC; rw [if_pos ⟨fun q => hneg ((hd i (by omega)).mp q), (by rw [i_le] at c149 ⊢; rw [i_1]; rw [i_0] at c149; omega), c157⟩])) ?_
          exact ih (i + 1) (by omega)
    · refine v_goto (pc := 55) (tgt := 167) dX6_frost_55 (by decide) ?_
      refine v_iinc (pc := 167) (v := nI (i + 1)) dX6_frost_167 rfl (nI_1 _) (by decide) rfl ?_
      refine v_goto (pc := 170) (tgt := 38) dX6_frost_170 (by decide) ?_
      have hneg : T i < 0 := (tOK_l hT (by omega)).mp c52
      have e1 : fillU (thT (-f) T) T i = fillU (thT (-f) T) T (i + 1) := fillU_k _ _ _ (by unfold thT; rw [if_pos hneg])
      have e2 : fillU (spC (dT f T) S C) C i = fillU (spC (dT f T) S C) C (i + 1) := fillU_k _ _ _ (by unfold spC; rw [if_neg (fun h => h.1 ((hd i (by omega)).mpr hneg))])
      rw [e1, e2]
      exact ih (i + 1) (by omega)
set_option maxRecDepth 100000 in
set_option maxHeartbeats 4000000 in
theorem lp_X6_frost0 {G : Cx} {z : Nat → Nat} {th : Int32} {N O PC T S C : Nat → Int32} {ps sc bc hh : Nat} {SF BF : Nat → Nat → Int32} {MX H W : Nat → Int32} (hps : ps ≤ 8) (hsc : sc ≤ 5) (hbc : bc ≤ 40) {sz : Nat} {f : Int32} {M0 : List ME} (hM0 : M0.length = 12) (hf : f = 0) : ∀ (m i : Nat), m + i = 160 → V G Y_X6_frost (ZM G M0 sz (fun v M' => v = none ∧ M' = ModelM z th N O PC ps sc bc T S C SF MX BF hh H W) noX) 4 0 0 38 [some (.ref (z 0)), some (.int f), some (.int (nI i))] [] (ModelM z th N O PC ps sc bc T S C SF MX BF hh H W) := by
  intro m
  induction m with
  | zero =>
    intro i hi
    obtain rfl : i = 160 := by omega
    refine v_iload_n (pc := 38) dX6_frost_38 rfl rfl ?_
    refine v_sipush (pc := 39) (v := 160) dX6_frost_39 rfl ?_
    refine v_icmp_ge (pc := 42) (tgt := 173) dX6_frost_42 (by decide) (fun c42 => ?_) (fun c42 => absurd (nI_le (a := 160) (b := 160) (Nat.le_refl _) (by decide)) c42)
    have c42 : 160 ≤ 160 := (nI_leI (a := 160) (b := 160) (by omega) (by omega)).mp c42
    refine v_vret (pc := 173) rfl (by rw [hM0]; exact Nat.le_of_ble_eq_true rfl) dX6_frost_173 ?_
    exact ⟨rfl, rfl⟩
  | succ m ih =>
    intro i hi
    refine v_iload_n (pc := 38) dX6_frost_38 rfl rfl ?_
    refine v_sipush (pc := 39) (v := 160) dX6_frost_39 rfl ?_
    refine v_icmp_ge (pc := 42) (tgt := 173) dX6_frost_42 (by decide) (fun c42 => absurd c42 (nI_ge (a := i) (b := 160) (by omega) (by decide))) (fun c42 => ?_)
    have c42 : ¬ 160 ≤ i := fun h => c42 ((nI_leI (a := 160) (b := i) (by omega) (by omega)).mpr h)
    refine v_aload_nR (pc := 45) dX6_frost_45 rfl rfl ?_
    refine v_get (pc := 46) 7 0 fg_X6_19 rfl rfl dX6_frost_46 ?_
    refine v_iload_n (pc := 49) dX6_frost_49 rfl rfl ?_
    refine v_ialdN (pc := 50) 4 (k := i) rfl (by omega) (by decide) dX6_frost_50 ?_
    refine v_iconst (pc := 51) (v := -1) dX6_frost_51 rfl ?_
    refine v_icmp_ne (pc := 52) (tgt := 58) dX6_frost_52 (by decide) (fun c52 => ?_) (fun c52 => ?_)
    · refine v_iload_n (pc := 58) dX6_frost_58 rfl rfl ?_
      refine v_if_le (pc := 59) (tgt := 119) dX6_frost_59 (by decide) (fun c59 => ?_) (fun c59 => absurd (show f ≤ 0 by rw [hf]; decide) c59)
      refine v_iload_n (pc := 119) dX6_frost_119 rfl rfl ?_
      refine v_if_ge (pc := 120) (tgt := 167) dX6_frost_120 (by decide) (fun c120 => ?_) (fun c120 => absurd (show 0 ≤ f by rw [hf]; decide) c120)
      refine v_iinc (pc := 167) (v := nI (i + 1)) dX6_frost_167 rfl (nI_1 _) (by decide) rfl ?_
      refine v_goto (pc := 170) (tgt := 38) dX6_frost_170 (by decide) ?_
      exact ih (i + 1) (by omega)
    · refine v_goto (pc := 55) (tgt := 167) dX6_frost_55 (by decide) ?_
      refine v_iinc (pc := 167) (v := nI (i + 1)) dX6_frost_167 rfl (nI_1 _) (by decide) rfl ?_
      refine v_goto (pc := 170) (tgt := 38) dX6_frost_170 (by decide) ?_
      exact ih (i + 1) (by omega)
set_option maxRecDepth 100000 in
set_option maxHeartbeats 4000000 in
theorem lp_X6_frost {G : Cx} {z : Nat → Nat} {th : Int32} {N O PC T S C : Nat → Int32} {ps sc bc hh : Nat} {SF BF : Nat → Nat → Int32} {MX H W : Nat → Int32} (hps : ps ≤ 8) (hsc : sc ≤ 5) (hbc : bc ≤ 40) {sz : Nat} {f : Int32} {M0 : List ME} (hM0 : M0.length = 12) (K : V G Y_X6_frost (ZM G M0 sz (fun v M' => v = none ∧ M' = ModelM z th N O PC ps sc bc (dT f T) (dS f T S) (dC f T S C) SF MX BF hh H (fillU (fun j => bI (C j = 1)) W 160)) noX) 4 0 0 36 [some (.ref (z 0)), some (.int f), none] [] (ModelM z th N O PC ps sc bc T S C SF MX BF hh H (fillU (fun j => bI (C j = 1)) W 160))) : ∀ (m i : Nat), m + i = 160 → V G Y_X6_frost (ZM G M0 sz (fun v M' => v = none ∧ M' = ModelM z th N O PC ps sc bc (dT f T) (dS f T S) (dC f T S C) SF MX BF hh H (fillU (fun j => bI (C j = 1)) W 160)) noX) 4 0 0 2 [some (.ref (z 0)), some (.int f), some (.int (nI i))] [] (ModelM z th N O PC ps sc bc T S C SF MX BF hh H (fillU (fun j => bI (C j = 1)) W i)) := by
  intro m
  induction m with
  | zero =>
    intro i hi
    obtain rfl : i = 160 := by omega
    refine v_iload_n (pc := 2) dX6_frost_2 rfl rfl ?_
    refine v_sipush (pc := 3) (v := 160) dX6_frost_3 rfl ?_
    refine v_icmp_ge (pc := 6) (tgt := 36) dX6_frost_6 (by decide) (fun c6 => ?_) (fun c6 => absurd (nI_le (a := 160) (b := 160) (Nat.le_refl _) (by decide)) c6)
    have c6 : 160 ≤ 160 := (nI_leI (a := 160) (b := 160) (by omega) (by omega)).mp c6
    refine v_sub ?_ K
    exact ⟨rfl, rfl, trivial⟩
  | succ m ih =>
    intro i hi
    refine v_iload_n (pc := 2) dX6_frost_2 rfl rfl ?_
    refine v_sipush (pc := 3) (v := 160) dX6_frost_3 rfl ?_
    refine v_icmp_ge (pc := 6) (tgt := 36) dX6_frost_6 (by decide) (fun c6 => absurd c6 (nI_ge (a := i) (b := 160) (by omega) (by decide))) (fun c6 => ?_)
    have c6 : ¬ 160 ≤ i := fun h => c6 ((nI_leI (a := 160) (b := i) (by omega) (by omega)).mpr h)
    refine v_aload_nR (pc := 9) dX6_frost_9 rfl rfl ?_
    refine v_get (pc := 10) 14 0 fg_X6_40 rfl rfl dX6_frost_10 ?_
    refine v_iload_n (pc := 13) dX6_frost_13 rfl rfl ?_
    refine v_aload_nR (pc := 14) dX6_frost_14 rfl rfl ?_
    refine v_get (pc := 15) 9 0 fg_X6_25 rfl rfl dX6_frost_15 ?_
    refine v_iload_n (pc := 18) dX6_frost_18 rfl rfl ?_
    refine v_ialdN (pc := 19) 6 (k := i) rfl (by omega) (by decide) dX6_frost_19 ?_
    refine v_iconst (pc := 20) (v := 1) dX6_frost_20 rfl ?_
    refine v_icmp_ne (pc := 21) (tgt := 28) dX6_frost_21 (by decide) (fun c21 => ?_) (fun c21 => ?_)
    · refine v_iconst (pc := 28) (v := 0) dX6_frost_28 rfl ?_
      refine v_zastN (pc := 29) 11 (k := i) rfl (by omega) (by decide) rfl dX6_frost_29 ?_
      try dsimp only [wb, ModelM, List.set_cons_succ, List.set_cons_zero, List.append_nil, List.nil_append, List.cons_append, Option.toList, Nat.sub_zero]
      refine v_iinc (pc := 30) (v := nI (i + 1)) dX6_frost_30 rfl (nI_1 _) (by decide) rfl ?_
      refine v_goto (pc := 33) (tgt := 2) dX6_frost_33 (by decide) ?_
      refine v_cgZ 11 (g := (fillU (fun j => bI (C j = 1)) W (i + 1))) rfl (fill_step (by rw [bI_f c21])) ?_
      exact ih (i + 1) (by omega)
    · refine v_iconst (pc := 24) (v := 1) dX6_frost_24 rfl ?_
      refine v_goto (pc := 25) (tgt := 29) dX6_frost_25 (by decide) ?_
      refine v_zastN (pc := 29) 11 (k := i) rfl (by omega) (by decide) rfl dX6_frost_29 ?_
      try dsimp only [wb, ModelM, List.set_cons_succ, List.set_cons_zero, List.append_nil, List.nil_append, List.cons_append, Option.toList, Nat.sub_zero]
      refine v_iinc (pc := 30) (v := nI (i + 1)) dX6_frost_30 rfl (nI_1 _) (by decide) rfl ?_
      refine v_goto (pc := 33) (tgt := 2) dX6_frost_33 (by decide) ?_
      refine v_cgZ 11 (g := (fillU (fun j => bI (C j = 1)) W (i + 1))) rfl (fill_step (by rw [bI_t c21])) ?_
      exact ih (i + 1) (by omega)
theorem dT_p {f : Int32} {T : Nat → Int32} (h : 0 < f) : dT f T = fillU (fzT f T) T 160 := if_pos h
theorem dS_p {f : Int32} {T S : Nat → Int32} (h : 0 < f) : dS f T S = fillU (fzS T S) S 160 := if_pos h
theorem dC_p {f : Int32} {T S C : Nat → Int32} (h : 0 < f) : dC f T S C = C := if_pos h
theorem ng_p {f : Int32} (h : f < 0) : ¬ 0 < f := (fa_of_lt h).2.2.1
theorem dT_n {f : Int32} {T : Nat → Int32} (h : f < 0) : dT f T = fillU (thT (-f) T) T 160 := by unfold dT; rw [if_neg (ng_p h), if_pos h]
theorem dS_n {f : Int32} {T S : Nat → Int32} (h : f < 0) : dS f T S = S := if_neg (ng_p h)
theorem dC_n {f : Int32} {T S C : Nat → Int32} (h : f < 0) : dC f T S C = fillU (spC (dT f T) S C) C 160 := by unfold dC; rw [if_neg (ng_p h), if_pos h]
theorem dT_z {T : Nat → Int32} : dT 0 T = T := by unfold dT; rw [if_neg (by decide), if_neg (by decide)]
theorem dS_z {T S : Nat → Int32} : dS 0 T S = S := if_neg (by decide)
theorem dC_z {T S C : Nat → Int32} : dC 0 T S C = C := by unfold dC; rw [if_neg (by decide), if_neg (by decide)]
theorem dT_neg {f : Int32} {T : Nat → Int32} (h : f < 0) {j : Nat} (hj : j < 160) : dT f T j < 0 ↔ T j < 0 := by rw [dT_n h, fillU_in hj]; exact thT_neg
set_option maxRecDepth 100000 in
set_option maxHeartbeats 4000000 in
theorem c_X6_frost {G : Cx} {z : Nat → Nat} {th : Int32} {N O PC T S C : Nat → Int32} {ps sc bc hh : Nat} {SF BF : Nat → Nat → Int32} {MX H W : Nat → Int32} (hps : ps ≤ 8) (hsc : sc ≤ 5) (hbc : bc ≤ 40) {f : Int32} (hT : tOK T) (hC : cOK C) : Mt G Y_X6_frost 4 0 0 [.ref (z 0), .int f] (ModelM z th N O PC ps sc bc T S C SF MX BF hh H W) (fun v M' => v = none ∧ M' = ModelM z th N O PC ps sc bc (dT f T) (dS f T S) (dC f T S C) SF MX BF hh H (fillU (fun j => bI (C j = 1)) W 160)) noX := by
  refine Mt.of (L := [some (.ref (z 0)), some (.int f), none]) rfl (by decide) (by simp [lg_sl, Value.category]) ⟨rfl, rfl, trivial⟩ (fun sz => ?_)
  refine v_iconst (pc := 0) (v := 0) dX6_frost_0 rfl ?_
  refine v_istore_n (pc := 1) dX6_frost_1 rfl (by decide) rfl ?_
  have hW : ∀ j, j < 160 → (fillU (fun j => bI (C j = 1)) W 160) j = C j := fun j hj => by rw [fillU_in hj]; exact c1_iff hC j
  refine v_sub (L' := [some (.ref (z 0)), some (.int f), some (.int (nI 0))]) ⟨rfl, rfl, rfl, trivial⟩ ?_
  refine lp_X6_frost hps hsc hbc rfl ?_ 160 0 (by omega)
  rcases fa_three f 0 with hf | hf | hf
  · rw [dT_n hf, dS_n hf, dC_n hf]
    refine v_iconst (pc := 36) (v := 0) dX6_frost_36 rfl ?_
    refine v_istore_n (pc := 37) dX6_frost_37 rfl (by decide) rfl ?_
    refine v_sub (L' := [some (.ref (z 0)), some (.int f), some (.int (nI 0))]) ⟨rfl, rfl, rfl, trivial⟩ ?_
    exact lp_X6_frostN hps hsc hbc rfl hT hf hW (fun j hj => dT_neg hf hj) 160 0 (by omega)
  · subst hf
    rw [dT_z, dS_z, dC_z]
    refine v_iconst (pc := 36) (v := 0) dX6_frost_36 rfl ?_
    refine v_istore_n (pc := 37) dX6_frost_37 rfl (by decide) rfl ?_
    refine v_sub (L' := [some (.ref (z 0)), some (.int 0), some (.int (nI 0))]) ⟨rfl, rfl, rfl, trivial⟩ ?_
    exact lp_X6_frost0 hps hsc hbc rfl rfl 160 0 (by omega)
  · rw [dT_p hf, dS_p hf, dC_p hf]
    refine v_iconst (pc := 36) (v := 0) dX6_frost_36 rfl ?_
    refine v_istore_n (pc := 37) dX6_frost_37 rfl (by decide) rfl ?_
    refine v_sub (L' := [some (.ref (z 0)), some (.int f), some (.int (nI 0))]) ⟨rfl, rfl, rfl, trivial⟩ ?_
    exact lp_X6_frostP hps hsc hbc rfl hT hf 160 0 (by omega)
