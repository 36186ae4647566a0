/-! what the reference keeps and brings back; looking ahead -/
abbrev KP (q : Nat) (k : Nat → Nat) (T S C : Nat → Int32) (SF : Nat → Nat → Int32) (MX : Nat → Int32) (BF : Nat → Nat → Int32) (hh : Nat) : List ME := [eQ 5 q 6 (kpF (k 0) (k 1) (k 2) (k 3) (k 4) (k 5)), eI (k 0) 160 T, eI (k 1) 160 S, eI (k 2) 160 C, eI (k 3) 35 (tblM SF MX), eI (k 4) 200 (malM BF), eI (k 5) 1 (fun _ => nI hh)]
def KN (a b c d e f : Nat) : Nat → Nat
  | 0 => a
  | 1 => b
  | 2 => c
  | 3 => d
  | 4 => e
  | _ => f
theorem clamp35 : (35 : Int32).toNatClampNeg = 35 := by decide
theorem clamp200 : (200 : Int32).toNatClampNeg = 200 := by decide
theorem clamp1 : (1 : Int32).toNatClampNeg = 1 := by decide
set_option maxRecDepth 100000 in
set_option maxHeartbeats 4000000 in
theorem c_X6_kept {G : Cx} {z : Nat → Nat} {th : Int32} {N O PC T S C : Nat → Int32} {ps sc bc hh : Nat} {SF BF : Nat → Nat → Int32} {MX H W : Nat → Int32} (hps : ps ≤ 8) (hsc : sc ≤ 5) (hbc : bc ≤ 40) : Mt G Y_X6_kept 1 7 722 [.ref (z 0)] (ModelM z th N O PC ps sc bc T S C SF MX BF hh H W) (fun v M' => ∃ (q : Nat) (k : Nat → Nat), v = some (.ref q) ∧ M' = ModelM z th N O PC ps sc bc T S C SF MX BF hh H W ++ KP q k T S C SF MX BF hh) noX := by
  refine Mt.of (L := [some (.ref (z 0))]) rfl (by decide) (by simp [lg_sl, Value.category]) ⟨rfl, trivial⟩ (fun sz => ?_)
  refine v_bipush (pc := 0) (v := 6) dX6_kept_0 rfl ?_
  refine v_newA (pc := 2) (N := 6) q1041 q1042 (by decide) (by decide) (by decide) (by decide) (by decide) dX6_kept_2 (fun z2 => ?_)
  try dsimp only [wb, ModelM, KP, KN, List.set_cons_succ, List.set_cons_zero, List.append_nil, List.nil_append, List.cons_append, Option.toList, Nat.sub_zero, List.take_succ_cons, List.take_zero]
  refine v_dup (pc := 5) dX6_kept_5 rfl ?_
  refine v_iconst (pc := 6) (v := 0) dX6_kept_6 rfl ?_
  refine v_aload_nR (pc := 7) dX6_kept_7 rfl rfl ?_
  refine v_get (pc := 8) 7 0 fg_X6_19 rfl rfl dX6_kept_8 ?_
  refine v_clone (pc := 11) 4 rfl q1043 q1044 q1045 q1046 q1047 q1048 (by decide) (Nat.le_of_ble_eq_true rfl) (by decide) (by decide) dX6_kept_11 (fun z11 => ?_)
  try dsimp only [wb, ModelM, KP, KN, List.set_cons_succ, List.set_cons_zero, List.append_nil, List.nil_append, List.cons_append, Option.toList, Nat.sub_zero, List.take_succ_cons, List.take_zero]
  refine v_castA (pc := 14) 13 rfl q1041 dX6_kept_14 ?_
  refine v_aastA (pc := 17) 12 13 rfl rfl q1042 (by unfold vp_in; decide) dX6_kept_17 ?_
  try dsimp only [wb, ModelM, KP, KN, List.set_cons_succ, List.set_cons_zero, List.append_nil, List.nil_append, List.cons_append, Option.toList, Nat.sub_zero, List.take_succ_cons, List.take_zero]
  refine v_dup (pc := 18) dX6_kept_18 rfl ?_
  refine v_iconst (pc := 19) (v := 1) dX6_kept_19 rfl ?_
  refine v_aload_nR (pc := 20) dX6_kept_20 rfl rfl ?_
  refine v_get (pc := 21) 8 0 fg_X6_22 rfl rfl dX6_kept_21 ?_
  refine v_clone (pc := 24) 5 rfl q1043 q1044 q1045 q1046 q1047 q1048 (by decide) (Nat.le_of_ble_eq_true rfl) (by decide) (by decide) dX6_kept_24 (fun z24 => ?_)
  try dsimp only [wb, ModelM, KP, KN, List.set_cons_succ, List.set_cons_zero, List.append_nil, List.nil_append, List.cons_append, Option.toList, Nat.sub_zero, List.take_succ_cons, List.take_zero]
  refine v_castA (pc := 27) 14 rfl q1041 dX6_kept_27 ?_
  refine v_aastA (pc := 30) 12 14 rfl rfl q1042 (by unfold vp_in; decide) dX6_kept_30 ?_
  try dsimp only [wb, ModelM, KP, KN, List.set_cons_succ, List.set_cons_zero, List.append_nil, List.nil_append, List.cons_append, Option.toList, Nat.sub_zero, List.take_succ_cons, List.take_zero]
  refine v_dup (pc := 31) dX6_kept_31 rfl ?_
  refine v_iconst (pc := 32) (v := 2) dX6_kept_32 rfl ?_
  refine v_aload_nR (pc := 33) dX6_kept_33 rfl rfl ?_
  refine v_get (pc := 34) 9 0 fg_X6_25 rfl rfl dX6_kept_34 ?_
  refine v_clone (pc := 37) 6 rfl q1043 q1044 q1045 q1046 q1047 q1048 (by decide) (Nat.le_of_ble_eq_true rfl) (by decide) (by decide) dX6_kept_37 (fun z37 => ?_)
  try dsimp only [wb, ModelM, KP, KN, List.set_cons_succ, List.set_cons_zero, List.append_nil, List.nil_append, List.cons_append, Option.toList, Nat.sub_zero, List.take_succ_cons, List.take_zero]
  refine v_castA (pc := 40) 15 rfl q1041 dX6_kept_40 ?_
  refine v_aastA (pc := 43) 12 15 rfl rfl q1042 (by unfold vp_in; decide) dX6_kept_43 ?_
  try dsimp only [wb, ModelM, KP, KN, List.set_cons_succ, List.set_cons_zero, List.append_nil, List.nil_append, List.cons_append, Option.toList, Nat.sub_zero, List.take_succ_cons, List.take_zero]
  refine v_dup (pc := 44) dX6_kept_44 rfl ?_
  refine v_iconst (pc := 45) (v := 3) dX6_kept_45 rfl ?_
  refine v_aload_nR (pc := 46) dX6_kept_46 rfl rfl ?_
  refine v_get (pc := 47) 10 0 fg_X6_28 rfl rfl dX6_kept_47 ?_
  refine v_clone (pc := 50) 7 rfl q1043 q1044 q1045 q1046 q1047 q1048 (by decide) (Nat.le_of_ble_eq_true rfl) (by decide) (by decide) dX6_kept_50 (fun z50 => ?_)
  try dsimp only [wb, ModelM, KP, KN, List.set_cons_succ, List.set_cons_zero, List.append_nil, List.nil_append, List.cons_append, Option.toList, Nat.sub_zero, List.take_succ_cons, List.take_zero]
  refine v_castA (pc := 53) 16 rfl q1041 dX6_kept_53 ?_
  refine v_aastA (pc := 56) 12 16 rfl rfl q1042 (by unfold vp_in; decide) dX6_kept_56 ?_
  try dsimp only [wb, ModelM, KP, KN, List.set_cons_succ, List.set_cons_zero, List.append_nil, List.nil_append, List.cons_append, Option.toList, Nat.sub_zero, List.take_succ_cons, List.take_zero]
  refine v_dup (pc := 57) dX6_kept_57 rfl ?_
  refine v_iconst (pc := 58) (v := 4) dX6_kept_58 rfl ?_
  refine v_aload_nR (pc := 59) dX6_kept_59 rfl rfl ?_
  refine v_get (pc := 60) 11 0 fg_X6_31 rfl rfl dX6_kept_60 ?_
  refine v_clone (pc := 63) 8 rfl q1043 q1044 q1045 q1046 q1047 q1048 (by decide) (Nat.le_of_ble_eq_true rfl) (by decide) (by decide) dX6_kept_63 (fun z63 => ?_)
  try dsimp only [wb, ModelM, KP, KN, List.set_cons_succ, List.set_cons_zero, List.append_nil, List.nil_append, List.cons_append, Option.toList, Nat.sub_zero, List.take_succ_cons, List.take_zero]
  refine v_castA (pc := 66) 17 rfl q1041 dX6_kept_66 ?_
  refine v_aastA (pc := 69) 12 17 rfl rfl q1042 (by unfold vp_in; decide) dX6_kept_69 ?_
  try dsimp only [wb, ModelM, KP, KN, List.set_cons_succ, List.set_cons_zero, List.append_nil, List.nil_append, List.cons_append, Option.toList, Nat.sub_zero, List.take_succ_cons, List.take_zero]
  refine v_dup (pc := 70) dX6_kept_70 rfl ?_
  refine v_iconst (pc := 71) (v := 5) dX6_kept_71 rfl ?_
  refine v_aload_nR (pc := 72) dX6_kept_72 rfl rfl ?_
  refine v_get (pc := 73) 12 0 fg_X6_34 rfl rfl dX6_kept_73 ?_
  refine v_clone (pc := 76) 9 rfl q1043 q1044 q1045 q1046 q1047 q1048 (by decide) (Nat.le_of_ble_eq_true rfl) (by decide) (by decide) dX6_kept_76 (fun z76 => ?_)
  try dsimp only [wb, ModelM, KP, KN, List.set_cons_succ, List.set_cons_zero, List.append_nil, List.nil_append, List.cons_append, Option.toList, Nat.sub_zero, List.take_succ_cons, List.take_zero]
  refine v_castA (pc := 79) 18 rfl q1041 dX6_kept_79 ?_
  refine v_aastA (pc := 82) 12 18 rfl rfl q1042 (by unfold vp_in; decide) dX6_kept_82 ?_
  try dsimp only [wb, ModelM, KP, KN, List.set_cons_succ, List.set_cons_zero, List.append_nil, List.nil_append, List.cons_append, Option.toList, Nat.sub_zero, List.take_succ_cons, List.take_zero]
  simp only [cl0, cl1, cl2, cl3, cl4, cl5]
  refine v_cgQ 12 (g := kpF z11 z24 z37 z50 z63 z76) rfl kpF_up ?_
  try dsimp only [wb, ModelM, KP, KN, List.set_cons_succ, List.set_cons_zero, List.append_nil, List.nil_append, List.cons_append, Option.toList, Nat.sub_zero, List.take_succ_cons, List.take_zero]
  refine v_aret (pc := 83) rfl (Or.inr ⟨_, rfl⟩) (Or.inr ⟨_, rfl⟩) (Nat.le_of_ble_eq_true rfl) dX6_kept_83 ?_
  exact ⟨z2, KN z11 z24 z37 z50 z63 z76, rfl, rfl⟩
set_option maxRecDepth 100000 in
set_option maxHeartbeats 4000000 in
theorem c_X6_bringBack {G : Cx} {z : Nat → Nat} {th : Int32} {N O PC T S C : Nat → Int32} {ps sc bc hh : Nat} {SF BF : Nat → Nat → Int32} {MX H W : Nat → Int32} {q : Nat} {k : Nat → Nat} {T0 S0 C0 : Nat → Int32} {SF0 BF0 : Nat → Nat → Int32} {MX0 : Nat → Int32} {hh0 : Nat} (hps : ps ≤ 8) (hsc : sc ≤ 5) (hbc : bc ≤ 40) : Mt G Y_X6_bringBack 1 1 6 [.ref (z 0), .ref q] (ModelM z th N O PC ps sc bc T S C SF MX BF hh H W ++ KP q k T0 S0 C0 SF0 MX0 BF0 hh0) (fun v M' => v = none ∧ M' = ModelM z th N O PC ps sc bc T0 S0 C0 SF0 MX0 BF0 hh0 H W ++ KP q k T0 S0 C0 SF0 MX0 BF0 hh0) noX := by
  refine Mt.of (L := [some (.ref (z 0)), some (.ref q), none, none]) rfl (by decide) (by simp [lg_sl, Value.category]) ⟨rfl, rfl, trivial⟩ (fun sz => ?_)
  refine v_bipush (pc := 0) (v := 6) dX6_bringBack_0 rfl ?_
  refine v_newA (pc := 2) (N := 6) q1041 q1042 (by decide) (by decide) (by decide) (by decide) (by decide) dX6_bringBack_2 (fun z2 => ?_)
  try dsimp only [wb, ModelM, KP, KN, List.set_cons_succ, List.set_cons_zero, List.append_nil, List.nil_append, List.cons_append, Option.toList, Nat.sub_zero, List.take_succ_cons, List.take_zero]
  refine v_dup (pc := 5) dX6_bringBack_5 rfl ?_
  refine v_iconst (pc := 6) (v := 0) dX6_bringBack_6 rfl ?_
  refine v_aload_nR (pc := 7) dX6_bringBack_7 rfl rfl ?_
  refine v_get (pc := 8) 7 0 fg_X6_19 rfl rfl dX6_bringBack_8 ?_
  refine v_aastA (pc := 11) 19 4 rfl rfl q1042 (by unfold vp_in; decide) dX6_bringBack_11 ?_
  try dsimp only [wb, ModelM, KP, KN, List.set_cons_succ, List.set_cons_zero, List.append_nil, List.nil_append, List.cons_append, Option.toList, Nat.sub_zero, List.take_succ_cons, List.take_zero]
  refine v_dup (pc := 12) dX6_bringBack_12 rfl ?_
  refine v_iconst (pc := 13) (v := 1) dX6_bringBack_13 rfl ?_
  refine v_aload_nR (pc := 14) dX6_bringBack_14 rfl rfl ?_
  refine v_get (pc := 15) 8 0 fg_X6_22 rfl rfl dX6_bringBack_15 ?_
  refine v_aastA (pc := 18) 19 5 rfl rfl q1042 (by unfold vp_in; decide) dX6_bringBack_18 ?_
  try dsimp only [wb, ModelM, KP, KN, List.set_cons_succ, List.set_cons_zero, List.append_nil, List.nil_append, List.cons_append, Option.toList, Nat.sub_zero, List.take_succ_cons, List.take_zero]
  refine v_dup (pc := 19) dX6_bringBack_19 rfl ?_
  refine v_iconst (pc := 20) (v := 2) dX6_bringBack_20 rfl ?_
  refine v_aload_nR (pc := 21) dX6_bringBack_21 rfl rfl ?_
  refine v_get (pc := 22) 9 0 fg_X6_25 rfl rfl dX6_bringBack_22 ?_
  refine v_aastA (pc := 25) 19 6 rfl rfl q1042 (by unfold vp_in; decide) dX6_bringBack_25 ?_
  try dsimp only [wb, ModelM, KP, KN, List.set_cons_succ, List.set_cons_zero, List.append_nil, List.nil_append, List.cons_append, Option.toList, Nat.sub_zero, List.take_succ_cons, List.take_zero]
  refine v_dup (pc := 26) dX6_bringBack_26 rfl ?_
  refine v_iconst (pc := 27) (v := 3) dX6_bringBack_27 rfl ?_
  refine v_aload_nR (pc := 28) dX6_bringBack_28 rfl rfl ?_
  refine v_get (pc := 29) 10 0 fg_X6_28 rfl rfl dX6_bringBack_29 ?_
  refine v_aastA (pc := 32) 19 7 rfl rfl q1042 (by unfold vp_in; decide) dX6_bringBack_32 ?_
  try dsimp only [wb, ModelM, KP, KN, List.set_cons_succ, List.set_cons_zero, List.append_nil, List.nil_append, List.cons_append, Option.toList, Nat.sub_zero, List.take_succ_cons, List.take_zero]
  refine v_dup (pc := 33) dX6_bringBack_33 rfl ?_
  refine v_iconst (pc := 34) (v := 4) dX6_bringBack_34 rfl ?_
  refine v_aload_nR (pc := 35) dX6_bringBack_35 rfl rfl ?_
  refine v_get (pc := 36) 11 0 fg_X6_31 rfl rfl dX6_bringBack_36 ?_
  refine v_aastA (pc := 39) 19 8 rfl rfl q1042 (by unfold vp_in; decide) dX6_bringBack_39 ?_
  try dsimp only [wb, ModelM, KP, KN, List.set_cons_succ, List.set_cons_zero, List.append_nil, List.nil_append, List.cons_append, Option.toList, Nat.sub_zero, List.take_succ_cons, List.take_zero]
  refine v_dup (pc := 40) dX6_bringBack_40 rfl ?_
  refine v_iconst (pc := 41) (v := 5) dX6_bringBack_41 rfl ?_
  refine v_aload_nR (pc := 42) dX6_bringBack_42 rfl rfl ?_
  refine v_get (pc := 43) 12 0 fg_X6_34 rfl rfl dX6_bringBack_43 ?_
  refine v_aastA (pc := 46) 19 9 rfl rfl q1042 (by unfold vp_in; decide) dX6_bringBack_46 ?_
  try dsimp only [wb, ModelM, KP, KN, List.set_cons_succ, List.set_cons_zero, List.append_nil, List.nil_append, List.cons_append, Option.toList, Nat.sub_zero, List.take_succ_cons, List.take_zero]
  simp only [cl0, cl1, cl2, cl3, cl4, cl5]
  refine v_cgQ 19 (g := kpF (z 4) (z 5) (z 6) (z 7) (z 8) (z 9)) rfl kpF_up ?_
  try dsimp only [wb, ModelM, KP, KN, List.set_cons_succ, List.set_cons_zero, List.append_nil, List.nil_append, List.cons_append, Option.toList, Nat.sub_zero, List.take_succ_cons, List.take_zero]
  refine v_astore_nR (pc := 47) dX6_bringBack_47 rfl (by decide) rfl ?_
  refine v_iconst (pc := 48) (v := 0) dX6_bringBack_48 rfl ?_
  refine v_istore_n (pc := 49) dX6_bringBack_49 rfl (by decide) rfl ?_
  refine v_iload_n (pc := 50) dX6_bringBack_50 rfl rfl ?_
  refine v_bipush (pc := 51) (v := 6) dX6_bringBack_51 rfl ?_
  refine v_icmp_ge (pc := 53) (tgt := 77) dX6_bringBack_53 (by decide) (fun c53 => absurd c53 (by decide)) (fun c53 => ?_)
  refine v_aload_nR (pc := 56) dX6_bringBack_56 rfl rfl ?_
  refine v_iload_n (pc := 57) dX6_bringBack_57 rfl rfl ?_
  refine v_aaldA (pc := 58) 12 rfl (by unfold vp_in; decide) rfl dX6_bringBack_58 ?_
  refine v_iconst (pc := 59) (v := 0) dX6_bringBack_59 rfl ?_
  refine v_aload_nR (pc := 60) dX6_bringBack_60 rfl rfl ?_
  refine v_iload_n (pc := 61) dX6_bringBack_61 rfl rfl ?_
  refine v_aaldA (pc := 62) 19 rfl (by unfold vp_in; decide) rfl dX6_bringBack_62 ?_
  refine v_iconst (pc := 63) (v := 0) dX6_bringBack_63 rfl ?_
  refine v_aload_nR (pc := 64) dX6_bringBack_64 rfl rfl ?_
  refine v_iload_n (pc := 65) dX6_bringBack_65 rfl rfl ?_
  refine v_aaldA (pc := 66) 19 rfl (by unfold vp_in; decide) rfl dX6_bringBack_66 ?_
  refine v_alen (pc := 67) 4 (v := 160) rfl (fun _ => rfl) rfl dX6_bringBack_67 ?_
  refine v_copyi (pc := 68) 13 4 rfl rfl q906 q782 q781 q15 (by decide) (by decide) (by decide) (by decide) (by decide) (by decide) (Nat.le_of_ble_eq_true rfl) dX6_bringBack_68 ?_
  simp only [clamp0, clamp160]
  refine v_cgI 4 (g := T0) rfl cpy_all ?_
  try dsimp only [wb, ModelM, KP, KN, List.set_cons_succ, List.set_cons_zero, List.append_nil, List.nil_append, List.cons_append, Option.toList, Nat.sub_zero, List.take_succ_cons, List.take_zero]
  refine v_iinc (pc := 71) (v := 1) dX6_bringBack_71 rfl (by decide) (by decide) rfl ?_
  refine v_goto (pc := 74) (tgt := 50) dX6_bringBack_74 (by decide) ?_
  refine v_iload_n (pc := 50) dX6_bringBack_50 rfl rfl ?_
  refine v_bipush (pc := 51) (v := 6) dX6_bringBack_51 rfl ?_
  refine v_icmp_ge (pc := 53) (tgt := 77) dX6_bringBack_53 (by decide) (fun c53 => absurd c53 (by decide)) (fun c53 => ?_)
  refine v_aload_nR (pc := 56) dX6_bringBack_56 rfl rfl ?_
  refine v_iload_n (pc := 57) dX6_bringBack_57 rfl rfl ?_
  refine v_aaldA (pc := 58) 12 rfl (by unfold vp_in; decide) rfl dX6_bringBack_58 ?_
  refine v_iconst (pc := 59) (v := 0) dX6_bringBack_59 rfl ?_
  refine v_aload_nR (pc := 60) dX6_bringBack_60 rfl rfl ?_
  refine v_iload_n (pc := 61) dX6_bringBack_61 rfl rfl ?_
  refine v_aaldA (pc := 62) 19 rfl (by unfold vp_in; decide) rfl dX6_bringBack_62 ?_
  refine v_iconst (pc := 63) (v := 0) dX6_bringBack_63 rfl ?_
  refine v_aload_nR (pc := 64) dX6_bringBack_64 rfl rfl ?_
  refine v_iload_n (pc := 65) dX6_bringBack_65 rfl rfl ?_
  refine v_aaldA (pc := 66) 19 rfl (by unfold vp_in; decide) rfl dX6_bringBack_66 ?_
  refine v_alen (pc := 67) 5 (v := 160) rfl (fun _ => rfl) rfl dX6_bringBack_67 ?_
  refine v_copyi (pc := 68) 14 5 rfl rfl q906 q782 q781 q15 (by decide) (by decide) (by decide) (by decide) (by decide) (by decide) (Nat.le_of_ble_eq_true rfl) dX6_bringBack_68 ?_
  simp only [clamp0, clamp160]
  refine v_cgI 5 (g := S0) rfl cpy_all ?_
  try dsimp only [wb, ModelM, KP, KN, List.set_cons_succ, List.set_cons_zero, List.append_nil, List.nil_append, List.cons_append, Option.toList, Nat.sub_zero, List.take_succ_cons, List.take_zero]
  refine v_iinc (pc := 71) (v := 2) dX6_bringBack_71 rfl (by decide) (by decide) rfl ?_
  refine v_goto (pc := 74) (tgt := 50) dX6_bringBack_74 (by decide) ?_
  refine v_iload_n (pc := 50) dX6_bringBack_50 rfl rfl ?_
  refine v_bipush (pc := 51) (v := 6) dX6_bringBack_51 rfl ?_
  refine v_icmp_ge (pc := 53) (tgt := 77) dX6_bringBack_53 (by decide) (fun c53 => absurd c53 (by decide)) (fun c53 => ?_)
  refine v_aload_nR (pc := 56) dX6_bringBack_56 rfl rfl ?_
  refine v_iload_n (pc := 57) dX6_bringBack_57 rfl rfl ?_
  refine v_aaldA (pc := 58) 12 rfl (by unfold vp_in; decide) rfl dX6_bringBack_58 ?_
  refine v_iconst (pc := 59) (v := 0) dX6_bringBack_59 rfl ?_
  refine v_aload_nR (pc := 60) dX6_bringBack_60 rfl rfl ?_
  refine v_iload_n (pc := 61) dX6_bringBack_61 rfl rfl ?_
  refine v_aaldA (pc := 62) 19 rfl (by unfold vp_in; decide) rfl dX6_bringBack_62 ?_
  refine v_iconst (pc := 63) (v := 0) dX6_bringBack_63 rfl ?_
  refine v_aload_nR (pc := 64) dX6_bringBack_64 rfl rfl ?_
  refine v_iload_n (pc := 65) dX6_bringBack_65 rfl rfl ?_
  refine v_aaldA (pc := 66) 19 rfl (by unfold vp_in; decide) rfl dX6_bringBack_66 ?_
  refine v_alen (pc := 67) 6 (v := 160) rfl (fun _ => rfl) rfl dX6_bringBack_67 ?_
  refine v_copyi (pc := 68) 15 6 rfl rfl q906 q782 q781 q15 (by decide) (by decide) (by decide) (by decide) (by decide) (by decide) (Nat.le_of_ble_eq_true rfl) dX6_bringBack_68 ?_
  simp only [clamp0, clamp160]
  refine v_cgI 6 (g := C0) rfl cpy_all ?_
  try dsimp only [wb, ModelM, KP, KN, List.set_cons_succ, List.set_cons_zero, List.append_nil, List.nil_append, List.cons_append, Option.toList, Nat.sub_zero, List.take_succ_cons, List.take_zero]
  refine v_iinc (pc := 71) (v := 3) dX6_bringBack_71 rfl (by decide) (by decide) rfl ?_
  refine v_goto (pc := 74) (tgt := 50) dX6_bringBack_74 (by decide) ?_
  refine v_iload_n (pc := 50) dX6_bringBack_50 rfl rfl ?_
  refine v_bipush (pc := 51) (v := 6) dX6_bringBack_51 rfl ?_
  refine v_icmp_ge (pc := 53) (tgt := 77) dX6_bringBack_53 (by decide) (fun c53 => absurd c53 (by decide)) (fun c53 => ?_)
  refine v_aload_nR (pc := 56) dX6_bringBack_56 rfl rfl ?_
  refine v_iload_n (pc := 57) dX6_bringBack_57 rfl rfl ?_
  refine v_aaldA (pc := 58) 12 rfl (by unfold vp_in; decide) rfl dX6_bringBack_58 ?_
  refine v_iconst (pc := 59) (v := 0) dX6_bringBack_59 rfl ?_
  refine v_aload_nR (pc := 60) dX6_bringBack_60 rfl rfl ?_
  refine v_iload_n (pc := 61) dX6_bringBack_61 rfl rfl ?_
  refine v_aaldA (pc := 62) 19 rfl (by unfold vp_in; decide) rfl dX6_bringBack_62 ?_
  refine v_iconst (pc := 63) (v := 0) dX6_bringBack_63 rfl ?_
  refine v_aload_nR (pc := 64) dX6_bringBack_64 rfl rfl ?_
  refine v_iload_n (pc := 65) dX6_bringBack_65 rfl rfl ?_
  refine v_aaldA (pc := 66) 19 rfl (by unfold vp_in; decide) rfl dX6_bringBack_66 ?_
  refine v_alen (pc := 67) 7 (v := 35) rfl (fun _ => rfl) rfl dX6_bringBack_67 ?_
  refine v_copyi (pc := 68) 16 7 rfl rfl q906 q782 q781 q15 (by decide) (by decide) (by decide) (by decide) (by decide) (by decide) (Nat.le_of_ble_eq_true rfl) dX6_bringBack_68 ?_
  simp only [clamp0, clamp35]
  refine v_cgI 7 (g := (tblM SF0 MX0)) rfl cpy_all ?_
  try dsimp only [wb, ModelM, KP, KN, List.set_cons_succ, List.set_cons_zero, List.append_nil, List.nil_append, List.cons_append, Option.toList, Nat.sub_zero, List.take_succ_cons, List.take_zero]
  refine v_iinc (pc := 71) (v := 4) dX6_bringBack_71 rfl (by decide) (by decide) rfl ?_
  refine v_goto (pc := 74) (tgt := 50) dX6_bringBack_74 (by decide) ?_
  refine v_iload_n (pc := 50) dX6_bringBack_50 rfl rfl ?_
  refine v_bipush (pc := 51) (v := 6) dX6_bringBack_51 rfl ?_
  refine v_icmp_ge (pc := 53) (tgt := 77) dX6_bringBack_53 (by decide) (fun c53 => absurd c53 (by decide)) (fun c53 => ?_)
  refine v_aload_nR (pc := 56) dX6_bringBack_56 rfl rfl ?_
  refine v_iload_n (pc := 57) dX6_bringBack_57 rfl rfl ?_
  refine v_aaldA (pc := 58) 12 rfl (by unfold vp_in; decide) rfl dX6_bringBack_58 ?_
  refine v_iconst (pc := 59) (v := 0) dX6_bringBack_59 rfl ?_
  refine v_aload_nR (pc := 60) dX6_bringBack_60 rfl rfl ?_
  refine v_iload_n (pc := 61) dX6_bringBack_61 rfl rfl ?_
  refine v_aaldA (pc := 62) 19 rfl (by unfold vp_in; decide) rfl dX6_bringBack_62 ?_
  refine v_iconst (pc := 63) (v := 0) dX6_bringBack_63 rfl ?_
  refine v_aload_nR (pc := 64) dX6_bringBack_64 rfl rfl ?_
  refine v_iload_n (pc := 65) dX6_bringBack_65 rfl rfl ?_
  refine v_aaldA (pc := 66) 19 rfl (by unfold vp_in; decide) rfl dX6_bringBack_66 ?_
  refine v_alen (pc := 67) 8 (v := 200) rfl (fun _ => rfl) rfl dX6_bringBack_67 ?_
  refine v_copyi (pc := 68) 17 8 rfl rfl q906 q782 q781 q15 (by decide) (by decide) (by decide) (by decide) (by decide) (by decide) (Nat.le_of_ble_eq_true rfl) dX6_bringBack_68 ?_
  simp only [clamp0, clamp200]
  refine v_cgI 8 (g := (malM BF0)) rfl cpy_all ?_
  try dsimp only [wb, ModelM, KP, KN, List.set_cons_succ, List.set_cons_zero, List.append_nil, List.nil_append, List.cons_append, Option.toList, Nat.sub_zero, List.take_succ_cons, List.take_zero]
  refine v_iinc (pc := 71) (v := 5) dX6_bringBack_71 rfl (by decide) (by decide) rfl ?_
  refine v_goto (pc := 74) (tgt := 50) dX6_bringBack_74 (by decide) ?_
  refine v_iload_n (pc := 50) dX6_bringBack_50 rfl rfl ?_
  refine v_bipush (pc := 51) (v := 6) dX6_bringBack_51 rfl ?_
  refine v_icmp_ge (pc := 53) (tgt := 77) dX6_bringBack_53 (by decide) (fun c53 => absurd c53 (by decide)) (fun c53 => ?_)
  refine v_aload_nR (pc := 56) dX6_bringBack_56 rfl rfl ?_
  refine v_iload_n (pc := 57) dX6_bringBack_57 rfl rfl ?_
  refine v_aaldA (pc := 58) 12 rfl (by unfold vp_in; decide) rfl dX6_bringBack_58 ?_
  refine v_iconst (pc := 59) (v := 0) dX6_bringBack_59 rfl ?_
  refine v_aload_nR (pc := 60) dX6_bringBack_60 rfl rfl ?_
  refine v_iload_n (pc := 61) dX6_bringBack_61 rfl rfl ?_
  refine v_aaldA (pc := 62) 19 rfl (by unfold vp_in; decide) rfl dX6_bringBack_62 ?_
  refine v_iconst (pc := 63) (v := 0) dX6_bringBack_63 rfl ?_
  refine v_aload_nR (pc := 64) dX6_bringBack_64 rfl rfl ?_
  refine v_iload_n (pc := 65) dX6_bringBack_65 rfl rfl ?_
  refine v_aaldA (pc := 66) 19 rfl (by unfold vp_in; decide) rfl dX6_bringBack_66 ?_
  refine v_alen (pc := 67) 9 (v := 1) rfl (fun _ => rfl) rfl dX6_bringBack_67 ?_
  refine v_copyi (pc := 68) 18 9 rfl rfl q906 q782 q781 q15 (by decide) (by decide) (by decide) (by decide) (by decide) (by decide) (Nat.le_of_ble_eq_true rfl) dX6_bringBack_68 ?_
  simp only [clamp0, clamp1]
  refine v_cgI 9 (g := (fun _ => nI hh0)) rfl cpy_all ?_
  try dsimp only [wb, ModelM, KP, KN, List.set_cons_succ, List.set_cons_zero, List.append_nil, List.nil_append, List.cons_append, Option.toList, Nat.sub_zero, List.take_succ_cons, List.take_zero]
  refine v_iinc (pc := 71) (v := 6) dX6_bringBack_71 rfl (by decide) (by decide) rfl ?_
  refine v_goto (pc := 74) (tgt := 50) dX6_bringBack_74 (by decide) ?_
  refine v_iload_n (pc := 50) dX6_bringBack_50 rfl rfl ?_
  refine v_bipush (pc := 51) (v := 6) dX6_bringBack_51 rfl ?_
  refine v_icmp_ge (pc := 53) (tgt := 77) dX6_bringBack_53 (by decide) (fun c53 => ?_) (fun c53 => absurd c53 (by decide))
  refine v_take 19 ?_
  try dsimp only [wb, ModelM, KP, KN, List.set_cons_succ, List.set_cons_zero, List.append_nil, List.nil_append, List.cons_append, Option.toList, Nat.sub_zero, List.take_succ_cons, List.take_zero]
  refine v_vret (pc := 77) rfl (Nat.le_of_ble_eq_true rfl) dX6_bringBack_77 ?_
  exact ⟨rfl, rfl⟩
/-- the same rows of the sleighs that there are -/
def rwE (sc : Nat) (a b : Nat → Nat → Int32) : Prop := ∀ i, i < sc → ∀ k, a i k = b i k
/-- two worlds that are the same but for their bags, and for sleighs that there are not -/
def eqB (sc : Nat) (x y : HW) : Prop := rwE sc x.1 y.1 ∧ x.2.2 = y.2.2
theorem upS_rw {sc i k : Nat} {v : Int32} {a b : Nat → Nat → Int32} (h : rwE sc a b) : rwE sc (upS a i k v) (upS b i k v) := fun j hj c => by
  unfold upS
  rw [h j hj c]
theorem slN_rw {sc n : Nat} {a b : Nat → Nat → Int32} (h : rwE sc a b) (hn : n < sc) : slN a n = slN b n := by
  unfold slN slW
  rw [h n hn 0, h n hn 1]
theorem slD_rw {sc n : Nat} {a b : Nat → Nat → Int32} (h : rwE sc a b) (hn : n < sc) : slD a n = slD b n := by
  unfold slD slW
  rw [h n hn 0, h n hn 1, h n hn 2]
theorem skT_bc {T C : Nat → Int32} {sc bc bc' n : Nat} {x y : SB} (h : rwE sc x.1 y.1) : rwE sc (skT T C sc bc n x).1 (skT T C sc bc' n y).1 := by
  unfold skT
  by_cases hn : n < sc
  · rw [slN_rw h hn, h n hn 3, h n hn 4]
    by_cases hc : n < sc ∧ ¬ y.1 n 3 = 2 ∧ ¬ hoB T C (cN (y.1 n 4)) (slN y.1 n) = true
    · rw [if_pos hc, if_pos hc]
      exact upS_rw (upS_rw (upS_rw (upS_rw (upS_rw h))))
    · rw [if_neg hc, if_neg hc]
      exact h
  · rw [if_neg (fun q => hn q.1), if_neg (fun q => hn q.1)]
    exact h
theorem skL_bc {T C : Nat → Int32} {sc bc bc' : Nat} : ∀ (m i : Nat) {x y : SB}, rwE sc x.1 y.1 → rwE sc (skL T C sc bc m i x).1 (skL T C sc bc' m i y).1
  | 0, _, _, _, h => h
  | m + 1, i, _, _, h => skL_bc m (i + 1) (skT_bc h)
theorem coS_rw {sc n : Nat} {a b : Nat → Nat → Int32} (h : rwE sc a b) (hn : n < sc) : rwE sc (coS a n) (coS b n) := by
  unfold coS
  rw [h n hn 7, h n hn 6, h n hn 2]
  by_cases hc : 0 < b n 7 - 1
  · rw [if_pos hc, if_pos hc]
    exact upS_rw h
  · rw [if_neg hc, if_neg hc]
    exact upS_rw (upS_rw (upS_rw (upS_rw h)))
theorem mvT_bc {PC : Nat → Int32} {ps sc bc bc' hh n : Nat} {x y : SBC} (h : rwE sc x.1 y.1) : rwE sc (mvT PC ps sc bc hh n x).1 (mvT PC ps sc bc' hh n y).1 := by
  unfold mvT
  by_cases hn : n < sc
  · have hk := coS_rw h hn
    rw [h n hn 3, h n hn 7, hk n hn 4, hk n hn 5]
    by_cases hc : n < sc ∧ (y.1 n 3 = 1 ∧ 0 < y.1 n 7)
    · rw [if_pos hc, if_pos hc]
      by_cases h2 : ¬ 0 < y.1 n 7 - 1 ∧ coS y.1 n n 4 = cop PC ps (coS y.1 n n 5)
      · rw [if_pos h2, if_pos h2]
        exact upS_rw (upS_rw hk)
      · rw [if_neg h2, if_neg h2]
        exact hk
    · rw [if_neg hc, if_neg hc]
      exact h
  · rw [if_neg (fun q => hn q.1), if_neg (fun q => hn q.1)]
    exact h
theorem mvL_bc {PC : Nat → Int32} {ps sc bc bc' hh : Nat} : ∀ (m i : Nat) {x y : SBC}, rwE sc x.1 y.1 → rwE sc (mvL PC ps sc bc hh m i x).1 (mvL PC ps sc bc' hh m i y).1
  | 0, _, _, _, h => h
  | m + 1, i, _, _, h => mvL_bc m (i + 1) (mvT_bc h)
theorem soT_bc {l5 : Value} {T N PC : Nat → Int32} {ps sc n : Nat} {x y : SO} (h : rwE sc x.1 y.1) (h2 : x.2 = y.2) : rwE sc (soT l5 T N PC ps sc n x).1 (soT l5 T N PC ps sc n y).1 ∧ (soT l5 T N PC ps sc n x).2 = (soT l5 T N PC ps sc n y).2 := by
  obtain ⟨xs, r⟩ := x
  obtain ⟨ys, r'⟩ := y
  have h2 : r = r' := h2
  subst h2
  have h : rwE sc xs ys := h
  by_cases hn : n < sc
  · have eN := slN_rw h hn
    have eD := slD_rw h hn
    have eQ : soQ T N PC ps n (xs, r) = soQ T N PC ps n (ys, r) := by
      show lkq (fun k => hoB T r.2.2.2.2.2.1 k (slN xs n)) N (slD xs n) (cN (xs n 4)) (cpo PC ps (xs n 5)) r.1.2.2.1 = lkq (fun k => hoB T r.2.2.2.2.2.1 k (slN ys n)) N (slD ys n) (cN (ys n 4)) (cpo PC ps (ys n 5)) r.1.2.2.1
      rw [eN, eD, h n hn 4, h n hn 5]
    have eX : soX T N PC ps n (xs, r) = soX T N PC ps n (ys, r) := by
      show ffq (fun k => hoB T r.2.2.2.2.2.1 k (slN xs n)) N (slD xs n) (soQ T N PC ps n (xs, r)).1 (cN (xs n 4)) = ffq (fun k => hoB T r.2.2.2.2.2.1 k (slN ys n)) N (slD ys n) (soQ T N PC ps n (ys, r)).1 (cN (ys n 4))
      rw [eQ, eN, eD, h n hn 4]
    by_cases hc : n < sc ∧ ys n 3 = 1 ∧ ¬ 0 < ys n 7 ∧ ¬ ys n 8 = r.2.2.2.2.2.2
    · have hcx : n < sc ∧ xs n 3 = 1 ∧ ¬ 0 < xs n 7 ∧ ¬ xs n 8 = r.2.2.2.2.2.2 := by
        rw [h n hn 3, h n hn 7, h n hn 8]
        exact hc
      cases hX : soX T N PC ps n (ys, r) with
      | none =>
        have ex : soT l5 T N PC ps sc n (xs, r) = (upS xs n 8 r.2.2.2.2.2.2, soQ T N PC ps n (xs, r), l5, slN xs n, slD xs n, r.2.2.2.2) := by
          unfold soT
          rw [if_pos hcx, eX, hX]
        have ey : soT l5 T N PC ps sc n (ys, r) = (upS ys n 8 r.2.2.2.2.2.2, soQ T N PC ps n (ys, r), l5, slN ys n, slD ys n, r.2.2.2.2) := by
          unfold soT
          rw [if_pos hc, hX]
        rw [ex, ey]
        refine ⟨upS_rw h, ?_⟩
        show (soQ T N PC ps n (xs, r), l5, slN xs n, slD xs n, r.2.2.2.2) = (soQ T N PC ps n (ys, r), l5, slN ys n, slD ys n, r.2.2.2.2)
        rw [eQ, eN, eD]
      | some j =>
        have ex : soT l5 T N PC ps sc n (xs, r) = (upS (upS xs n 6 (nI j)) n 7 (N j + slD xs n), soQ T N PC ps n (xs, r), l5, slN xs n, slD xs n, stU T r.2.2.2.2.1 r.2.2.2.2.2.1 (cN (xs n 4)) (slN xs n) r.2.2.2.2.2.2) := by
          unfold soT
          rw [if_pos hcx, eX, hX]
        have ey : soT l5 T N PC ps sc n (ys, r) = (upS (upS ys n 6 (nI j)) n 7 (N j + slD ys n), soQ T N PC ps n (ys, r), l5, slN ys n, slD ys n, stU T r.2.2.2.2.1 r.2.2.2.2.2.1 (cN (ys n 4)) (slN ys n) r.2.2.2.2.2.2) := by
          unfold soT
          rw [if_pos hc, hX]
        rw [ex, ey, eD]
        refine ⟨upS_rw (upS_rw h), ?_⟩
        show (soQ T N PC ps n (xs, r), l5, slN xs n, slD ys n, stU T r.2.2.2.2.1 r.2.2.2.2.2.1 (cN (xs n 4)) (slN xs n) r.2.2.2.2.2.2) = (soQ T N PC ps n (ys, r), l5, slN ys n, slD ys n, stU T r.2.2.2.2.1 r.2.2.2.2.2.1 (cN (ys n 4)) (slN ys n) r.2.2.2.2.2.2)
        rw [eQ, eN, h n hn 4]
    · have hcx : ¬ (n < sc ∧ xs n 3 = 1 ∧ ¬ 0 < xs n 7 ∧ ¬ xs n 8 = r.2.2.2.2.2.2) := by
        rw [h n hn 3, h n hn 7, h n hn 8]
        exact hc
      rw [show soT l5 T N PC ps sc n (xs, r) = (xs, r) from if_neg hcx, show soT l5 T N PC ps sc n (ys, r) = (ys, r) from if_neg hc]
      exact ⟨h, rfl⟩
  · unfold soT
    rw [if_neg (fun q => hn q.1), if_neg (fun q => hn q.1)]
    exact ⟨h, rfl⟩
theorem soL_bc {l5 : Value} {T N PC : Nat → Int32} {ps sc : Nat} : ∀ (m i : Nat) {x y : SO}, rwE sc x.1 y.1 → x.2 = y.2 → rwE sc (soL l5 T N PC ps sc m i x).1 (soL l5 T N PC ps sc m i y).1 ∧ (soL l5 T N PC ps sc m i x).2 = (soL l5 T N PC ps sc m i y).2
  | 0, _, _, _, h, h2 => ⟨h, h2⟩
  | m + 1, i, _, _, h, h2 => soL_bc m (i + 1) (soT_bc h h2).1 (soT_bc h h2).2
theorem reT_bc {sc n : Nat} {a b : Nat → Nat → Int32} (h : rwE sc a b) : rwE sc (reT sc n a) (reT sc n b) := by
  unfold reT
  by_cases hn : n < sc
  · rw [h n hn 3, h n hn 2]
    by_cases hc : n < sc ∧ b n 3 = 0
    · rw [if_pos hc, if_pos hc]
      exact upS_rw h
    · rw [if_neg hc, if_neg hc]
      exact h
  · rw [if_neg (fun q => hn q.1), if_neg (fun q => hn q.1)]
    exact h
theorem reL_bc {sc : Nat} : ∀ (m i : Nat) {a b : Nat → Nat → Int32}, rwE sc a b → rwE sc (reL sc m i a) (reL sc m i b)
  | 0, _, _, _, h => h
  | m + 1, i, _, _, h => reL_bc m (i + 1) (reT_bc h)
theorem hrA_bc {O : Nat → Int32} {hh sc : Nat} {x y : HW} (h : eqB sc x y) : eqB sc (hrA O hh x) (hrA O hh y) := by
  obtain ⟨xs, xb, xr⟩ := x
  obtain ⟨ys, yb, yr⟩ := y
  obtain ⟨h1, h2⟩ := h
  have h2 : xr = yr := h2
  subst h2
  unfold hrA
  by_cases hc : hh % 24 = 0
  · rw [if_pos hc, if_pos hc]
    exact ⟨h1, rfl⟩
  · rw [if_neg hc, if_neg hc]
    exact ⟨h1, rfl⟩
theorem hrW_bc {n5 : Nat} {l5 : Value} {N O PC : Nat → Int32} {ps sc bc bc' hh : Nat} {x y : HW} (h : eqB sc x y) : eqB sc (hrW n5 l5 N O PC ps sc bc hh x) (hrW n5 l5 N O PC ps sc bc' hh y) := by
  have hB : ∀ {x y : HW}, eqB sc x y → eqB sc (hrB n5 sc bc x) (hrB n5 sc bc' y) := by
    intro x y h
    obtain ⟨xs, xb, xr⟩ := x
    obtain ⟨ys, yb, yr⟩ := y
    obtain ⟨h1, h2⟩ := h
    have h2 : xr = yr := h2
    subst h2
    exact ⟨skL_bc n5 0 h1, rfl⟩
  have hC : ∀ {x y : HW}, eqB sc x y → eqB sc (hrC n5 PC ps sc bc hh x) (hrC n5 PC ps sc bc' hh y) := by
    intro x y h
    obtain ⟨xs, xb, xr⟩ := x
    obtain ⟨ys, yb, yr⟩ := y
    obtain ⟨h1, h2⟩ := h
    have h2 : xr = yr := h2
    subst h2
    exact ⟨mvL_bc n5 0 h1, rfl⟩
  have hE : ∀ {x y : HW}, eqB sc x y → eqB sc (hrR n5 sc (hrE n5 l5 N PC ps sc x)) (hrR n5 sc (hrE n5 l5 N PC ps sc y)) := by
    intro x y h
    obtain ⟨xs, xb, xt, xk, xr⟩ := x
    obtain ⟨ys, yb, yr⟩ := y
    obtain ⟨h1, h2⟩ := h
    have h2 : (xt, xk, xr) = yr := h2
    subst h2
    have h9 := soL_bc (l5 := l5) (T := xt) (N := N) (PC := PC) (ps := ps) (x := (xs, xr)) (y := (ys, xr)) n5 0 h1 rfl
    refine ⟨reL_bc n5 0 h9.1, ?_⟩
    show (xt, xk, (soL l5 xt N PC ps sc n5 0 (xs, xr)).2) = (xt, xk, (soL l5 xt N PC ps sc n5 0 (ys, xr)).2)
    rw [h9.2]
  exact hE (hC (hB (hrA_bc h)))
/-- a sleigh that is under stays under -/
theorem skT_2 {T C : Nat → Int32} {sc bc n i : Nat} {x : SB} (h : x.1 i 3 = 2) : (skT T C sc bc n x).1 i 3 = 2 := by
  unfold skT
  split
  · rename_i h1
    show skS x.1 n i 3 = 2
    rw [skS_same i 3 (fun e => h1.2.1 (by rw [← e]; exact h))]
    exact h
  · exact h
theorem skL_2 {T C : Nat → Int32} {sc bc i : Nat} : ∀ (m j : Nat) {x : SB}, x.1 i 3 = 2 → (skL T C sc bc m j x).1 i 3 = 2
  | 0, _, _, h => h
  | m + 1, j, _, h => skL_2 m (j + 1) (skT_2 h)
theorem mvT_2 {PC : Nat → Int32} {ps sc bc hh n i : Nat} {x : SBC} (h : x.1 i 3 = 2) : (mvT PC ps sc bc hh n x).1 i 3 = 2 := by
  unfold mvT
  split
  · rename_i h1
    have hne : ¬ i = n := fun e => absurd (h1.2.1.symm.trans (by rw [← e]; exact h)) (by decide : ¬ (1 : Int32) = 2)
    split
    · show rsS (coS x.1 n) n i 3 = 2
      rw [rsS_same i 3 hne, coS_same i 3 hne]
      exact h
    · show coS x.1 n i 3 = 2
      rw [coS_same i 3 hne]
      exact h
  · exact h
theorem mvL_2 {PC : Nat → Int32} {ps sc bc hh i : Nat} : ∀ (m j : Nat) {x : SBC}, x.1 i 3 = 2 → (mvL PC ps sc bc hh m j x).1 i 3 = 2
  | 0, _, _, h => h
  | m + 1, j, _, h => mvL_2 m (j + 1) (mvT_2 h)
theorem soT_3 {l5 : Value} {T N PC : Nat → Int32} {ps sc n i : Nat} {x : SO} : (soT l5 T N PC ps sc n x).1 i 3 = x.1 i 3 := by
  unfold soT
  split
  · split
    · exact upS_n _ _ (by omega)
    · show upS (upS x.1 n 6 _) n 7 _ i 3 = _
      rw [upS_n _ _ (by omega), upS_n _ _ (by omega)]
  · rfl
theorem soL_3 {l5 : Value} {T N PC : Nat → Int32} {ps sc i : Nat} : ∀ (m j : Nat) {x : SO}, (soL l5 T N PC ps sc m j x).1 i 3 = x.1 i 3
  | 0, _, _ => rfl
  | m + 1, j, _ => (soL_3 m (j + 1)).trans soT_3
theorem reT_3 {sc n i : Nat} {x : Nat → Nat → Int32} : reT sc n x i 3 = x i 3 := by
  unfold reT
  split
  · exact upS_n _ _ (by omega)
  · rfl
theorem reL_3 {sc i : Nat} : ∀ (m j : Nat) {x : Nat → Nat → Int32}, reL sc m j x i 3 = x i 3
  | 0, _, _ => rfl
  | m + 1, j, _ => (reL_3 m (j + 1)).trans reT_3
theorem hrW_2 {n5 : Nat} {l5 : Value} {N O PC : Nat → Int32} {ps sc bc hh i : Nat} {x : HW} (h : x.1 i 3 = 2) : (hrW n5 l5 N O PC ps sc bc hh x).1 i 3 = 2 := by
  have hA : (hrA O hh x).1 i 3 = 2 := by
    unfold hrA
    split
    · exact h
    · exact h
  have h1 : (hrC n5 PC ps sc bc hh (hrB n5 sc bc (hrA O hh x))).1 i 3 = 2 := mvL_2 n5 0 (skL_2 n5 0 hA)
  show reL sc n5 0 (soL l5 _ N PC ps sc n5 0 ((hrC n5 PC ps sc bc hh (hrB n5 sc bc (hrA O hh x))).1, _)).1 i 3 = 2
  rw [reL_3, soL_3]
  exact h1
theorem psL_2 {n5 : Nat} {l5 : Value} {N O PC : Nat → Int32} {ps sc bc i : Nat} : ∀ (n hh : Nat) {x : HW} {c : Int32}, x.1 i 3 = 2 → (psL n5 l5 N O PC ps sc bc n hh x c).1.1 i 3 = 2
  | 0, _, _, _, h => h
  | n + 1, hh, _, _, h => psL_2 n (hh + 1) (hrW_2 h)
theorem fo_ps {n5 : Nat} {l5 : Value} {N O PC : Nat → Int32} {ps sc bc i : Nat} (hi : i < sc) : ∀ (n hh : Nat) {x y : HW} {c : Int32}, eqB sc x y → foV i (foL n5 l5 N O PC ps sc i n hh y) = (if (psL n5 l5 N O PC ps sc bc n hh x c).1.1 i 3 = 2 then -1 else (psL n5 l5 N O PC ps sc bc n hh x c).1.1 i 4)
  | 0, _, x, y, _, h => by
    show foV i y = if x.1 i 3 = 2 then -1 else x.1 i 4
    unfold foV
    rw [h.1 i hi 3, h.1 i hi 4]
  | n + 1, hh, x, y, c, h => by
    have e : foL n5 l5 N O PC ps sc i (n + 1) hh y = if y.1 i 3 = 2 then y else foL n5 l5 N O PC ps sc i n (hh + 1) (hrW n5 l5 N O PC ps sc 0 hh y) := rfl
    rw [e]
    by_cases h2 : y.1 i 3 = 2
    · rw [if_pos h2, if_pos (psL_2 (n + 1) hh (by rw [h.1 i hi 3]; exact h2))]
      exact if_pos h2
    · rw [if_neg h2]
      exact fo_ps hi n (hh + 1) (hrW_bc h)
def rFo (n5 : Nat) (l5 : Value) (N O PC : Nat → Int32) (ps sc hh : Nat) (x : HW) (s q : Int32) : Int32 × Int32 := if isP sc s then (if 1 ≤ q ∧ q ≤ 200 then (0, foV (cN s) (foL n5 l5 N O PC ps sc (cN s) (cN q) hh x)) else (2, 0)) else (1, 0)
def rAr (n5 : Nat) (l5 : Value) (N O PC : Nat → Int32) (ps sc hh : Nat) (x : HW) (s : Int32) : Int32 × Int32 := if isP sc s then (if x.1 (cN s) 3 = 1 then (0, arV (cN s) (arL n5 l5 N O PC ps sc (cN s) 300 hh x)) else (2, 0)) else (1, 0)
set_option maxRecDepth 100000 in
set_option maxHeartbeats 4000000 in
theorem lp_X6_fo {G : Cx} {z : Nat → Nat} {th : Int32} {N O PC : Nat → Int32} {ps sc bc hh : Nat} {MX H W : Nat → Int32} {q : Nat} {k : Nat → Nat} {T0 S0 C0 : Nat → Int32} {SF0 BF0 : Nat → Nat → Int32} {MX0 : Nat → Int32} {hh0 : Nat} (hps : ps ≤ 8) (hsc : sc ≤ 5) (hbc : bc ≤ 40) {n5 : Nat} (h5 : n5 = 5) {Z : ZT} {l5 : Value} {i n B : Nat} {r : HW × Int32} (hB : B + 6 * n < 2 ^ 30 - 40) (hhh : hh + n < 2 ^ 31 - 1) (hPC : ∀ k, k < 8 → 0 ≤ PC k ∧ PC k < 160) (hN : nOK N) (hO : oOK O) (K : ∀ MX H W : Nat → Int32, V G Y_X6_foresee Z 7 1 6 61 [some (.ref (z 0)), some (.int (nI i)), some (.int (nI n)), some (.ref q), none] [] (ModelM z 0 N O PC ps sc bc r.1.2.2.1 r.1.2.2.2.2.2.2.2.2.1 r.1.2.2.2.2.2.2.2.2.2.1 r.1.1 MX r.1.2.1 (hh + n) H W ++ KP q k T0 S0 C0 SF0 MX0 BF0 hh0)) : ∀ (m j : Nat), m + j = n → ∀ (x : HW) (c : Int32) (MX H W : Nat → Int32), hIV PC ps sc bc x.2.2.1 x.2.2.2.2.2.2.2.2.2.1 x.2.2.2.2.2.2.2.2.2.2 x.1 x.2.1 MX (B + 6 * j) → psL n5 l5 N O PC ps sc bc m (hh + j) x c = r → V G Y_X6_foresee Z 7 1 6 44 [some (.ref (z 0)), some (.int (nI i)), some (.int (nI n)), some (.ref q), some (.int (nI j))] [] (ModelM z 0 N O PC ps sc bc x.2.2.1 x.2.2.2.2.2.2.2.2.1 x.2.2.2.2.2.2.2.2.2.1 x.1 MX x.2.1 (hh + j) H W ++ KP q k T0 S0 C0 SF0 MX0 BF0 hh0) := by
  intro m
  induction m with
  | zero =>
    intro j hi
    have hi2 : j = n := by omega
    intro x c MX H W hI hr
    obtain rfl : (x, c) = r := hr
    rw [show hh + j = hh + n by omega]
    refine v_iload (pc := 44) dX6_foresee_44 rfl ?_
    refine v_iload_n (pc := 46) dX6_foresee_46 rfl rfl ?_
    refine v_icmp_ge (pc := 47) (tgt := 61) dX6_foresee_47 (by decide) (fun c47 => ?_) (fun c47 => absurd (nI_le (a := n) (b := j) (by omega) (by omega)) c47)
    have c47 : n ≤ j := (nI_leI (a := n) (b := j) (by omega) (by omega)).mp c47
    refine v_sub ?_ (K MX H W)
    exact ⟨rfl, rfl, rfl, rfl, trivial⟩
  | succ m ih =>
    intro j hi
    intro x c MX H W hI hr
    refine v_iload (pc := 44) dX6_foresee_44 rfl ?_
    refine v_iload_n (pc := 46) dX6_foresee_46 rfl rfl ?_
    refine v_icmp_ge (pc := 47) (tgt := 61) dX6_foresee_47 (by decide) (fun c47 => absurd c47 (nI_ge (a := j) (b := n) (by omega) (by omega))) (fun c47 => ?_)
    have c47 : ¬ n ≤ j := fun h => c47 ((nI_leI (a := n) (b := j) (by omega) (by omega)).mpr h)
    refine v_aload_nR (pc := 50) dX6_foresee_50 rfl rfl ?_
    refine v_callV0 (pc := 51) (c_X6_hourY hps hsc hbc h5 (l5 := l5) (hh := hh + j) (x := x) (B := B + 6 * j) (by omega) (by omega) hPC hN hO hI) cm_X6_hourOn q983 q985 qs34 (ci := 6) rfl rfl (orcO 0 rfl) [0, 1, 2, 3, 4, 5, 6, 7, 8, 9, 10, 11] (by rfl) (by decide) (fun _ _ h => h) (by decide) (by decide) (by decide) (Nat.le_of_ble_eq_true rfl) dX6_foresee_51 (fun v51 M51 hQ51 => ?_)
    obtain ⟨rfl, MY51, HY51, WY51, rfl, hY51⟩ := hQ51
    try dsimp only [wb, ModelM, KP, KN, List.set_cons_succ, List.set_cons_zero, List.append_nil, List.nil_append, List.cons_append, Option.toList, Nat.sub_zero, List.take_succ_cons, List.take_zero]
    refine v_pop (pc := 54) dX6_foresee_54 rfl ?_
    refine v_iinc (pc := 55) (v := nI (j + 1)) dX6_foresee_55 rfl (nI_1 _) (by decide) rfl ?_
    refine v_goto (pc := 58) (tgt := 44) dX6_foresee_58 (by decide) ?_
    exact ih (j + 1) (by omega) _ _ MY51 HY51 WY51 (hY51.more (by omega)) hr
set_option maxRecDepth 100000 in
set_option maxHeartbeats 4000000 in
theorem c_X6_foresee {G : Cx} {z : Nat → Nat} {th : Int32} {N O PC T S C : Nat → Int32} {ps sc bc hh : Nat} {SF BF : Nat → Nat → Int32} {MX H W : Nat → Int32} (hps : ps ≤ 8) (hsc : sc ≤ 5) (hbc : bc ≤ 40) {s q : Int32} {n5 : Nat} (h5 : n5 = 5) {Bk : Nat → Int32} {qs : QS} {lr l5 : Value} {nd dg ch : Int32} {B : Nat} (hB : B < 2 ^ 30 - 2000) (hhh : hh + 300 < 2 ^ 31 - 1) (hPC : ∀ k, k < 8 → 0 ≤ PC k ∧ PC k < 160) (hN : nOK N) (hO : oOK O) (hI : hIV PC ps sc bc T C ch SF BF MX B) {y : HW} (hy : eqB sc (SF, BF, T, Bk, qs, lr, nd, dg, S, C, ch) y) : Mt G Y_X6_foresee 7 8 728 [.ref (z 0), .int s, .int q] (ModelM z th N O PC ps sc bc T S C SF MX BF hh H W) (fun v M' => v = some (.int ((rFo n5 l5 N O PC ps sc hh y s q).2)) ∧ ∃ H' W' : Nat → Int32, M' = ModelM z (rFo n5 l5 N O PC ps sc hh y s q).1 N O PC ps sc bc T S C SF MX BF hh H' W') noX := by
  refine Mt.of (L := [some (.ref (z 0)), some (.int s), some (.int q), none, none]) rfl (by decide) (by simp [lg_sl, Value.category]) ⟨rfl, rfl, rfl, trivial⟩ (fun sz => ?_)
  refine v_aload_nR (pc := 0) dX6_foresee_0 rfl rfl ?_
  refine v_iconst (pc := 1) (v := 0) dX6_foresee_1 rfl ?_
  refine v_put (pc := 2) 0 0 fp_X6_foresee_44 rfl rfl rfl (Nat.le_of_ble_eq_true rfl) dX6_foresee_2 ?_
  try dsimp only [wb, ModelM, KP, KN, List.set_cons_succ, List.set_cons_zero, List.append_nil, List.nil_append, List.cons_append, Option.toList, Nat.sub_zero, List.take_succ_cons, List.take_zero]
  refine v_aload_nR (pc := 5) dX6_foresee_5 rfl rfl ?_
  refine v_iload_n (pc := 6) dX6_foresee_6 rfl rfl ?_
  refine v_callV1 (pc := 7) (c_X6_isSleigh hps hsc hbc) cm_X6_isSleigh q915 q917 qs22 (ci := 6) rfl rfl (orcO 0 rfl) [0, 1, 2, 3, 4, 5, 6, 7, 8, 9, 10, 11] (by rfl) (by decide) (fun _ _ h => h) (by decide) (by decide) (by decide) (Nat.le_of_ble_eq_true rfl) dX6_foresee_7 (fun v7 M7 hQ7 => ?_)
  obtain ⟨rfl, rfl⟩ := hQ7
  try dsimp only [wb, ModelM, KP, KN, List.set_cons_succ, List.set_cons_zero, List.append_nil, List.nil_append, List.cons_append, Option.toList, Nat.sub_zero, List.take_succ_cons, List.take_zero]
  refine v_if_ne (pc := 10) (tgt := 19) dX6_foresee_10 (by decide) (fun c10 => ?_) (fun c10 => ?_)
  · have c10 := bI_n.mp c10
    refine v_iload_n (pc := 19) dX6_foresee_19 rfl rfl ?_
    refine v_iconst (pc := 20) (v := 1) dX6_foresee_20 rfl ?_
    refine v_sipush (pc := 21) (v := 200) dX6_foresee_21 rfl ?_
    refine v_callS3 (pc := 24) (c_X6_isIn ) cm_X6_isIn q859 q860 [] (by rfl) (by decide) (fun _ _ h => h) (by decide) (by decide) (by decide) (Nat.le_of_ble_eq_true rfl) dX6_foresee_24 (fun v24 M24 hQ24 => ?_)
    obtain ⟨rfl, rfl⟩ := hQ24
    try dsimp only [wb, ModelM, KP, KN, List.set_cons_succ, List.set_cons_zero, List.append_nil, List.nil_append, List.cons_append, Option.toList, Nat.sub_zero, List.take_succ_cons, List.take_zero]
    refine v_if_ne (pc := 27) (tgt := 36) dX6_foresee_27 (by decide) (fun c27 => ?_) (fun c27 => ?_)
    · have c27 := bI_n.mp c27
      refine v_aload_nR (pc := 36) dX6_foresee_36 rfl rfl ?_
      refine v_callV0 (pc := 37) (c_X6_kept hps hsc hbc) cm_X6_kept q1037 q1039 qs43 (ci := 6) rfl rfl (orcO 0 rfl) [0, 1, 2, 3, 4, 5, 6, 7, 8, 9, 10, 11] (by rfl) (by decide) (fun _ _ h => h) (by decide) (by decide) (by decide) (Nat.le_of_ble_eq_true rfl) dX6_foresee_37 (fun v37 M37 hQ37 => ?_)
      obtain ⟨q37, k37, rfl, rfl⟩ := hQ37
      try dsimp only [wb, ModelM, KP, KN, List.set_cons_succ, List.set_cons_zero, List.append_nil, List.nil_append, List.cons_append, Option.toList, Nat.sub_zero, List.take_succ_cons, List.take_zero]
      refine v_astore_nR (pc := 40) dX6_foresee_40 rfl (by decide) rfl ?_
      refine v_iconst (pc := 41) (v := 0) dX6_foresee_41 rfl ?_
      refine v_istore (pc := 42) dX6_foresee_42 (by decide) rfl ?_
      obtain ⟨i, hi, rfl⟩ := kOf c10 (by omega)
      obtain ⟨n, hn, rfl⟩ := le_nI 200 (by decide) ⟨i_le.mpr (by have := c27.1; rw [i_le, i_1] at this; rw [i_0]; omega), c27.2⟩
      have e9 : (rFo n5 l5 N O PC ps sc hh y (nI i) (nI n)) = (0, foV i (foL n5 l5 N O PC ps sc i n hh y)) := by unfold rFo; rw [if_pos (isP_k hi (by omega)), if_pos c27, cN_nI (by omega), cN_nI (by omega)]
      rw [e9]
      have hfo : foV i (foL n5 l5 N O PC ps sc i n hh y) = (if (psL n5 l5 N O PC ps sc bc n hh (SF, BF, T, Bk, qs, lr, nd, dg, S, C, ch) 0).1.1 i 3 = 2 then -1 else (psL n5 l5 N O PC ps sc bc n hh (SF, BF, T, Bk, qs, lr, nd, dg, S, C, ch) 0).1.1 i 4) := fo_ps hi n hh hy
      refine v_sub (L' := [some (.ref (z 0)), some (.int (nI i)), some (.int (nI n)), some (.ref q37), some (.int (nI 0))]) ⟨rfl, rfl, rfl, rfl, rfl, trivial⟩ ?_
      refine lp_X6_fo (th := th) (MX := MX) (H := H) (W := W) (B := B) hps hsc hbc h5 (l5 := l5) (r := (psL n5 l5 N O PC ps sc bc n hh (SF, BF, T, Bk, qs, lr, nd, dg, S, C, ch) 0)) (by omega) (by omega) hPC hN hO (fun MX2 H2 W2 => ?_) n 0 (by omega) (SF, BF, T, Bk, qs, lr, nd, dg, S, C, ch) 0 MX H W hI rfl
      refine v_aload_nR (pc := 61) dX6_foresee_61 rfl rfl ?_
      refine v_iload_n (pc := 62) dX6_foresee_62 rfl rfl ?_
      refine v_iconst (pc := 63) (v := 2) dX6_foresee_63 rfl ?_
      refine v_callV2 (pc := 64) (c_X6_sl2 hps hsc hbc (by omega)) cm_X6_sl q874 q876 qs19 (ci := 6) rfl rfl (orcO 0 rfl) [0, 1, 2, 3, 4, 5, 6, 7, 8, 9, 10, 11] (by rfl) (by decide) (fun _ _ h => h) (by decide) (by decide) (by decide) (Nat.le_of_ble_eq_true rfl) dX6_foresee_64 (fun v64 M64 hQ64 => ?_)
      obtain ⟨rfl, rfl⟩ := hQ64
      try dsimp only [wb, ModelM, KP, KN, List.set_cons_succ, List.set_cons_zero, List.append_nil, List.nil_append, List.cons_append, Option.toList, Nat.sub_zero, List.take_succ_cons, List.take_zero]
      refine v_iconst (pc := 67) (v := 2) dX6_foresee_67 rfl ?_
      refine v_icmp_ne (pc := 68) (tgt := 75) dX6_foresee_68 (by decide) (fun c68 => ?_) (fun c68 => ?_)
      · refine v_aload_nR (pc := 75) dX6_foresee_75 rfl rfl ?_
        refine v_iload_n (pc := 76) dX6_foresee_76 rfl rfl ?_
        refine v_iconst (pc := 77) (v := 3) dX6_foresee_77 rfl ?_
        refine v_callV2 (pc := 78) (c_X6_sl3 hps hsc hbc (by omega)) cm_X6_sl q874 q876 qs19 (ci := 6) rfl rfl (orcO 0 rfl) [0, 1, 2, 3, 4, 5, 6, 7, 8, 9, 10, 11] (by rfl) (by decide) (fun _ _ h => h) (by decide) (by decide) (by decide) (Nat.le_of_ble_eq_true rfl) dX6_foresee_78 (fun v78 M78 hQ78 => ?_)
        obtain ⟨rfl, rfl⟩ := hQ78
        try dsimp only [wb, ModelM, KP, KN, List.set_cons_succ, List.set_cons_zero, List.append_nil, List.nil_append, List.cons_append, Option.toList, Nat.sub_zero, List.take_succ_cons, List.take_zero]
        refine v_istore (pc := 81) dX6_foresee_81 (by decide) rfl ?_
        refine v_aload_nR (pc := 83) dX6_foresee_83 rfl rfl ?_
        refine v_aload_nR (pc := 84) dX6_foresee_84 rfl rfl ?_
        refine v_callV1 (pc := 85) (c_X6_bringBack hps hsc hbc) cm_X6_bringBack q1049 q1051 qs44 (ci := 6) rfl rfl (orcO 0 rfl) [0, 1, 2, 3, 4, 5, 6, 7, 8, 9, 10, 11, 12, 13, 14, 15, 16, 17, 18] (by rfl) (by decide) (fun _ _ h => h) (by decide) (by decide) (by decide) (Nat.le_of_ble_eq_true rfl) dX6_foresee_85 (fun v85 M85 hQ85 => ?_)
        obtain ⟨rfl, rfl⟩ := hQ85
        try dsimp only [wb, ModelM, KP, KN, List.set_cons_succ, List.set_cons_zero, List.append_nil, List.nil_append, List.cons_append, Option.toList, Nat.sub_zero, List.take_succ_cons, List.take_zero]
        refine v_take 12 ?_
        try dsimp only [wb, ModelM, KP, KN, List.set_cons_succ, List.set_cons_zero, List.append_nil, List.nil_append, List.cons_append, Option.toList, Nat.sub_zero, List.take_succ_cons, List.take_zero]
        refine v_iload (pc := 88) dX6_foresee_88 rfl ?_
        refine v_iret (pc := 90) rfl rfl (Nat.le_of_ble_eq_true rfl) dX6_foresee_90 ?_
        exact ⟨by (show _ = some (Value.int (foV i (foL n5 l5 N O PC ps sc i n hh y))); rw [hfo, if_neg c68]), H2, W2, rfl⟩
      · refine v_iconst (pc := 71) (v := -1) dX6_foresee_71 rfl ?_
        refine v_goto (pc := 72) (tgt := 81) dX6_foresee_72 (by decide) ?_
        refine v_istore (pc := 81) dX6_foresee_81 (by decide) rfl ?_
        refine v_aload_nR (pc := 83) dX6_foresee_83 rfl rfl ?_
        refine v_aload_nR (pc := 84) dX6_foresee_84 rfl rfl ?_
        refine v_callV1 (pc := 85) (c_X6_bringBack hps hsc hbc) cm_X6_bringBack q1049 q1051 qs44 (ci := 6) rfl rfl (orcO 0 rfl) [0, 1, 2, 3, 4, 5, 6, 7, 8, 9, 10, 11, 12, 13, 14, 15, 16, 17, 18] (by rfl) (by decide) (fun _ _ h => h) (by decide) (by decide) (by decide) (Nat.le_of_ble_eq_true rfl) dX6_foresee_85 (fun v85 M85 hQ85 => ?_)
        obtain ⟨rfl, rfl⟩ := hQ85
        try dsimp only [wb, ModelM, KP, KN, List.set_cons_succ, List.set_cons_zero, List.append_nil, List.nil_append, List.cons_append, Option.toList, Nat.sub_zero, List.take_succ_cons, List.take_zero]
        refine v_take 12 ?_
        try dsimp only [wb, ModelM, KP, KN, List.set_cons_succ, List.set_cons_zero, List.append_nil, List.nil_append, List.cons_append, Option.toList, Nat.sub_zero, List.take_succ_cons, List.take_zero]
        refine v_iload (pc := 88) dX6_foresee_88 rfl ?_
        refine v_iret (pc := 90) rfl rfl (Nat.le_of_ble_eq_true rfl) dX6_foresee_90 ?_
        exact ⟨by (show _ = some (Value.int (foV i (foL n5 l5 N O PC ps sc i n hh y))); rw [hfo, if_pos c68]), H2, W2, rfl⟩
    · have c27 := bI_0.mp c27
      refine v_aload_nR (pc := 30) dX6_foresee_30 rfl rfl ?_
      refine v_iconst (pc := 31) (v := 2) dX6_foresee_31 rfl ?_
      refine v_callV1 (pc := 32) (c_X6_fail hps hsc hbc) cm_X6_fail q862 q864 qs16 (ci := 6) rfl rfl (orcO 0 rfl) [0, 1, 2, 3, 4, 5, 6, 7, 8, 9, 10, 11] (by rfl) (by decide) (fun _ _ h => h) (by decide) (by decide) (by decide) (Nat.le_of_ble_eq_true rfl) dX6_foresee_32 (fun v32 M32 hQ32 => ?_)
      obtain ⟨rfl, rfl⟩ := hQ32
      try dsimp only [wb, ModelM, KP, KN, List.set_cons_succ, List.set_cons_zero, List.append_nil, List.nil_append, List.cons_append, Option.toList, Nat.sub_zero, List.take_succ_cons, List.take_zero]
      refine v_iret (pc := 35) rfl rfl (Nat.le_of_ble_eq_true rfl) dX6_foresee_35 ?_
      have e9 : (rFo n5 l5 N O PC ps sc hh y s q) = (2, 0) := by exact (if_pos c10).trans (if_neg c27)
      rw [e9]
      exact ⟨rfl, H, W, rfl⟩
  · have c10 := bI_0.mp c10
    refine v_aload_nR (pc := 13) dX6_foresee_13 rfl rfl ?_
    refine v_iconst (pc := 14) (v := 1) dX6_foresee_14 rfl ?_
    refine v_callV1 (pc := 15) (c_X6_fail hps hsc hbc) cm_X6_fail q862 q864 qs16 (ci := 6) rfl rfl (orcO 0 rfl) [0, 1, 2, 3, 4, 5, 6, 7, 8, 9, 10, 11] (by rfl) (by decide) (fun _ _ h => h) (by decide) (by decide) (by decide) (Nat.le_of_ble_eq_true rfl) dX6_foresee_15 (fun v15 M15 hQ15 => ?_)
    obtain ⟨rfl, rfl⟩ := hQ15
    try dsimp only [wb, ModelM, KP, KN, List.set_cons_succ, List.set_cons_zero, List.append_nil, List.nil_append, List.cons_append, Option.toList, Nat.sub_zero, List.take_succ_cons, List.take_zero]
    refine v_iret (pc := 18) rfl rfl (Nat.le_of_ble_eq_true rfl) dX6_foresee_18 ?_
    have e9 : (rFo n5 l5 N O PC ps sc hh y s q) = (1, 0) := by exact if_neg c10
    rw [e9]
    exact ⟨rfl, H, W, rfl⟩
theorem nI_sub1 {n : Nat} : nI (n + 1) - 1 = nI n := pk_sub (a := n + 1) (b := 1) (by omega)
set_option maxRecDepth 100000 in
set_option maxHeartbeats 4000000 in
theorem lp_X6_ar {G : Cx} {z : Nat → Nat} {th : Int32} {N O PC : Nat → Int32} {ps sc bc hh : Nat} {MX H W : Nat → Int32} {q : Nat} {k : Nat → Nat} {T0 S0 C0 : Nat → Int32} {SF0 BF0 : Nat → Nat → Int32} {MX0 : Nat → Int32} {hh0 : Nat} (hps : ps ≤ 8) (hsc : sc ≤ 5) (hbc : bc ≤ 40) {n5 : Nat} (h5 : n5 = 5) {Z : ZT} {l5 : Value} {i B : Nat} {r : Nat × HW} (hi : i < 5) (his : i < sc) (hB : B + 1800 < 2 ^ 30 - 40) (hhh : hh + 300 < 2 ^ 31 - 1) (hPC : ∀ k, k < 8 → 0 ≤ PC k ∧ PC k < 160) (hN : nOK N) (hO : oOK O) (K : ∀ (x : HW) (h2 : Nat) (MX H W : Nat → Int32), V G Y_X6_arrives Z 7 1 6 94 [some (.ref (z 0)), some (.int (nI i)), some (.ref q), some (.int (arV i r)), none, none] [] (ModelM z 0 N O PC ps sc bc x.2.2.1 x.2.2.2.2.2.2.2.2.1 x.2.2.2.2.2.2.2.2.2.1 x.1 MX x.2.1 h2 H W ++ KP q k T0 S0 C0 SF0 MX0 BF0 hh0)) : ∀ (m j : Nat), m + j = 300 → ∀ (x y : HW) (a : Int32) (MX H W : Nat → Int32), eqB sc x y → a = (if x.1 i 3 = 0 then nI (hh + j) - 1 else -1) → hIV PC ps sc bc x.2.2.1 x.2.2.2.2.2.2.2.2.2.1 x.2.2.2.2.2.2.2.2.2.2 x.1 x.2.1 MX (B + 6 * j) → arL n5 l5 N O PC ps sc i m (hh + j) y = r → V G Y_X6_arrives Z 7 1 6 45 [some (.ref (z 0)), some (.int (nI i)), some (.ref q), some (.int a), some (.int (nI j)), none] [] (ModelM z 0 N O PC ps sc bc x.2.2.1 x.2.2.2.2.2.2.2.2.1 x.2.2.2.2.2.2.2.2.2.1 x.1 MX x.2.1 (hh + j) H W ++ KP q k T0 S0 C0 SF0 MX0 BF0 hh0) := by
  intro m
  induction m with
  | zero =>
    intro j hi9
    obtain rfl : j = 300 := by omega
    intro x y a MX H W hxy ha hI hr
    obtain rfl : (hh + 300, y) = r := hr
    refine v_iload (pc := 45) dX6_arrives_45 rfl ?_
    refine v_sipush (pc := 47) (v := 300) dX6_arrives_47 rfl ?_
    refine v_icmp_ge (pc := 50) (tgt := 94) dX6_arrives_50 (by decide) (fun c50 => ?_) (fun c50 => absurd (nI_le (a := 300) (b := 300) (Nat.le_refl _) (by decide)) c50)
    have e : a = arV i (hh + 300, y) := by rw [ha, hxy.1 i his 3]; rfl
    rw [e]
    refine v_sub ?_ (K x _ MX H W)
    exact ⟨rfl, rfl, rfl, rfl, trivial⟩
  | succ m ih =>
    intro j hi9
    intro x y a MX H W hxy ha hI hr
    have hr2 : (if ¬ y.1 i 3 = 1 then (hh + j, y) else arL n5 l5 N O PC ps sc i m (hh + j + 1) (hrW n5 l5 N O PC ps sc 0 (hh + j) y)) = r := hr
    have hr := hr2
    refine v_iload (pc := 45) dX6_arrives_45 rfl ?_
    refine v_sipush (pc := 47) (v := 300) dX6_arrives_47 rfl ?_
    refine v_icmp_ge (pc := 50) (tgt := 94) dX6_arrives_50 (by decide) (fun c50 => absurd c50 (nI_ge (a := j) (b := 300) (by omega) (by decide))) (fun c50 => ?_)
    have c50 : ¬ 300 ≤ j := fun h => c50 ((nI_leI (a := 300) (b := j) (by omega) (by omega)).mpr h)
    refine v_aload_nR (pc := 53) dX6_arrives_53 rfl rfl ?_
    refine v_iload_n (pc := 54) dX6_arrives_54 rfl rfl ?_
    refine v_iconst (pc := 55) (v := 2) dX6_arrives_55 rfl ?_
    refine v_callV2 (pc := 56) (c_X6_sl2 hps hsc hbc (by omega)) cm_X6_sl q874 q876 qs19 (ci := 6) rfl rfl (orcO 0 rfl) [0, 1, 2, 3, 4, 5, 6, 7, 8, 9, 10, 11] (by rfl) (by decide) (fun _ _ h => h) (by decide) (by decide) (by decide) (Nat.le_of_ble_eq_true rfl) dX6_arrives_56 (fun v56 M56 hQ56 => ?_)
    obtain ⟨rfl, rfl⟩ := hQ56
    try dsimp only [wb, ModelM, KP, KN, List.set_cons_succ, List.set_cons_zero, List.append_nil, List.nil_append, List.cons_append, Option.toList, Nat.sub_zero, List.take_succ_cons, List.take_zero]
    refine v_iconst (pc := 59) (v := 1) dX6_arrives_59 rfl ?_
    refine v_icmp_ne (pc := 60) (tgt := 94) dX6_arrives_60 (by decide) (fun c60 => ?_) (fun c60 => ?_)
    · have e : a = arV i r := by rw [← hr, if_pos (by rw [← hxy.1 i his 3]; exact c60), ha, hxy.1 i his 3]; rfl
      rw [e]
      refine v_sub ?_ (K x _ MX H W)
      exact ⟨rfl, rfl, rfl, rfl, trivial⟩
    · refine v_aload_nR (pc := 63) dX6_arrives_63 rfl rfl ?_
      refine v_get (pc := 64) 12 0 fg_X6_34 rfl rfl dX6_arrives_64 ?_
      refine v_iconst (pc := 67) (v := 0) dX6_arrives_67 rfl ?_
      refine v_ialdN (pc := 68) 9 (k := 0) rfl (by omega) (by decide) dX6_arrives_68 ?_
      refine v_istore (pc := 69) dX6_arrives_69 (by decide) rfl ?_
      refine v_aload_nR (pc := 71) dX6_arrives_71 rfl rfl ?_
      refine v_callV0 (pc := 72) (c_X6_hourY hps hsc hbc h5 (l5 := l5) (hh := hh + j) (x := x) (B := B + 6 * j) (by omega) (by omega) hPC hN hO hI) cm_X6_hourOn q983 q985 qs34 (ci := 6) rfl rfl (orcO 0 rfl) [0, 1, 2, 3, 4, 5, 6, 7, 8, 9, 10, 11] (by rfl) (by decide) (fun _ _ h => h) (by decide) (by decide) (by decide) (Nat.le_of_ble_eq_true rfl) dX6_arrives_72 (fun v72 M72 hQ72 => ?_)
      obtain ⟨rfl, MY72, HY72, WY72, rfl, hY72⟩ := hQ72
      try dsimp only [wb, ModelM, KP, KN, List.set_cons_succ, List.set_cons_zero, List.append_nil, List.nil_append, List.cons_append, Option.toList, Nat.sub_zero, List.take_succ_cons, List.take_zero]
      refine v_pop (pc := 75) dX6_arrives_75 rfl ?_
      refine v_aload_nR (pc := 76) dX6_arrives_76 rfl rfl ?_
      refine v_iload_n (pc := 77) dX6_arrives_77 rfl rfl ?_
      refine v_iconst (pc := 78) (v := 2) dX6_arrives_78 rfl ?_
      refine v_callV2 (pc := 79) (c_X6_sl2 hps hsc hbc (by omega)) cm_X6_sl q874 q876 qs19 (ci := 6) rfl rfl (orcO 0 rfl) [0, 1, 2, 3, 4, 5, 6, 7, 8, 9, 10, 11] (by rfl) (by decide) (fun _ _ h => h) (by decide) (by decide) (by decide) (Nat.le_of_ble_eq_true rfl) dX6_arrives_79 (fun v79 M79 hQ79 => ?_)
      obtain ⟨rfl, rfl⟩ := hQ79
      try dsimp only [wb, ModelM, KP, KN, List.set_cons_succ, List.set_cons_zero, List.append_nil, List.nil_append, List.cons_append, Option.toList, Nat.sub_zero, List.take_succ_cons, List.take_zero]
      refine v_if_ne (pc := 82) (tgt := 88) dX6_arrives_82 (by decide) (fun c82 => ?_) (fun c82 => ?_)
      · refine v_iinc (pc := 88) (v := nI (j + 1)) dX6_arrives_88 rfl (nI_1 _) (by decide) rfl ?_
        refine v_goto (pc := 91) (tgt := 45) dX6_arrives_91 (by decide) ?_
        have e2 : a = -1 := by rw [ha, if_neg (fun q9 => absurd (c60.symm.trans q9) (by decide : ¬ (1 : Int32) = 0))]
        have hr3 := (if_neg (fun q9 : ¬ y.1 i 3 = 1 => q9 (by rw [← hxy.1 i his 3]; exact c60))).symm.trans hr
        refine v_sub ?_ (ih (j + 1) (by omega) _ _ a MY72 HY72 WY72 (hrW_bc hxy) (by rw [e2, if_neg c82]) (hY72.more (by omega)) hr3)
        exact ⟨rfl, rfl, rfl, rfl, rfl, trivial⟩
      · refine v_iload (pc := 85) dX6_arrives_85 rfl ?_
        refine v_istore_n (pc := 87) dX6_arrives_87 rfl (by decide) rfl ?_
        refine v_iinc (pc := 88) (v := nI (j + 1)) dX6_arrives_88 rfl (nI_1 _) (by decide) rfl ?_
        refine v_goto (pc := 91) (tgt := 45) dX6_arrives_91 (by decide) ?_
        have e2 : a = -1 := by rw [ha, if_neg (fun q9 => absurd (c60.symm.trans q9) (by decide : ¬ (1 : Int32) = 0))]
        have hr3 := (if_neg (fun q9 : ¬ y.1 i 3 = 1 => q9 (by rw [← hxy.1 i his 3]; exact c60))).symm.trans hr
        refine v_sub ?_ (ih (j + 1) (by omega) _ _ (nI (hh + j)) MY72 HY72 WY72 (hrW_bc hxy) (by rw [if_pos c82]; exact nI_sub1.symm) (hY72.more (by omega)) hr3)
        exact ⟨rfl, rfl, rfl, rfl, rfl, trivial⟩
set_option maxRecDepth 100000 in
set_option maxHeartbeats 4000000 in
theorem c_X6_arrives {G : Cx} {z : Nat → Nat} {th : Int32} {N O PC T S C : Nat → Int32} {ps sc bc hh : Nat} {SF BF : Nat → Nat → Int32} {MX H W : Nat → Int32} (hps : ps ≤ 8) (hsc : sc ≤ 5) (hbc : bc ≤ 40) {s : Int32} {n5 : Nat} (h5 : n5 = 5) {Bk : Nat → Int32} {qs : QS} {lr l5 : Value} {nd dg ch : Int32} {B : Nat} (hB : B < 2 ^ 30 - 2000) (hhh : hh + 300 < 2 ^ 31 - 1) (hPC : ∀ k, k < 8 → 0 ≤ PC k ∧ PC k < 160) (hN : nOK N) (hO : oOK O) (hI : hIV PC ps sc bc T C ch SF BF MX B) {y : HW} (hy : eqB sc (SF, BF, T, Bk, qs, lr, nd, dg, S, C, ch) y) : Mt G Y_X6_arrives 7 8 728 [.ref (z 0), .int s] (ModelM z th N O PC ps sc bc T S C SF MX BF hh H W) (fun v M' => v = some (.int ((rAr n5 l5 N O PC ps sc hh y s).2)) ∧ ∃ H' W' : Nat → Int32, M' = ModelM z (rAr n5 l5 N O PC ps sc hh y s).1 N O PC ps sc bc T S C SF MX BF hh H' W') noX := by
  refine Mt.of (L := [some (.ref (z 0)), some (.int s), none, none, none, none]) rfl (by decide) (by simp [lg_sl, Value.category]) ⟨rfl, rfl, trivial⟩ (fun sz => ?_)
  refine v_aload_nR (pc := 0) dX6_arrives_0 rfl rfl ?_
  refine v_iconst (pc := 1) (v := 0) dX6_arrives_1 rfl ?_
  refine v_put (pc := 2) 0 0 fp_X6_arrives_44 rfl rfl rfl (Nat.le_of_ble_eq_true rfl) dX6_arrives_2 ?_
  try dsimp only [wb, ModelM, KP, KN, List.set_cons_succ, List.set_cons_zero, List.append_nil, List.nil_append, List.cons_append, Option.toList, Nat.sub_zero, List.take_succ_cons, List.take_zero]
  refine v_aload_nR (pc := 5) dX6_arrives_5 rfl rfl ?_
  refine v_iload_n (pc := 6) dX6_arrives_6 rfl rfl ?_
  refine v_callV1 (pc := 7) (c_X6_isSleigh hps hsc hbc) cm_X6_isSleigh q915 q917 qs22 (ci := 6) rfl rfl (orcO 0 rfl) [0, 1, 2, 3, 4, 5, 6, 7, 8, 9, 10, 11] (by rfl) (by decide) (fun _ _ h => h) (by decide) (by decide) (by decide) (Nat.le_of_ble_eq_true rfl) dX6_arrives_7 (fun v7 M7 hQ7 => ?_)
  obtain ⟨rfl, rfl⟩ := hQ7
  try dsimp only [wb, ModelM, KP, KN, List.set_cons_succ, List.set_cons_zero, List.append_nil, List.nil_append, List.cons_append, Option.toList, Nat.sub_zero, List.take_succ_cons, List.take_zero]
  refine v_if_ne (pc := 10) (tgt := 19) dX6_arrives_10 (by decide) (fun c10 => ?_) (fun c10 => ?_)
  · have c10 := bI_n.mp c10
    obtain ⟨i, hi, rfl⟩ := kOf c10 (by omega)
    refine v_aload_nR (pc := 19) dX6_arrives_19 rfl rfl ?_
    refine v_iload_n (pc := 20) dX6_arrives_20 rfl rfl ?_
    refine v_iconst (pc := 21) (v := 2) dX6_arrives_21 rfl ?_
    refine v_callV2 (pc := 22) (c_X6_sl2 hps hsc hbc (by omega)) cm_X6_sl q874 q876 qs19 (ci := 6) rfl rfl (orcO 0 rfl) [0, 1, 2, 3, 4, 5, 6, 7, 8, 9, 10, 11] (by rfl) (by decide) (fun _ _ h => h) (by decide) (by decide) (by decide) (Nat.le_of_ble_eq_true rfl) dX6_arrives_22 (fun v22 M22 hQ22 => ?_)
    obtain ⟨rfl, rfl⟩ := hQ22
    try dsimp only [wb, ModelM, KP, KN, List.set_cons_succ, List.set_cons_zero, List.append_nil, List.nil_append, List.cons_append, Option.toList, Nat.sub_zero, List.take_succ_cons, List.take_zero]
    refine v_iconst (pc := 25) (v := 1) dX6_arrives_25 rfl ?_
    refine v_icmp_eq (pc := 26) (tgt := 35) dX6_arrives_26 (by decide) (fun c26 => ?_) (fun c26 => ?_)
    · refine v_aload_nR (pc := 35) dX6_arrives_35 rfl rfl ?_
      refine v_callV0 (pc := 36) (c_X6_kept hps hsc hbc) cm_X6_kept q1037 q1039 qs43 (ci := 6) rfl rfl (orcO 0 rfl) [0, 1, 2, 3, 4, 5, 6, 7, 8, 9, 10, 11] (by rfl) (by decide) (fun _ _ h => h) (by decide) (by decide) (by decide) (Nat.le_of_ble_eq_true rfl) dX6_arrives_36 (fun v36 M36 hQ36 => ?_)
      obtain ⟨q36, k36, rfl, rfl⟩ := hQ36
      try dsimp only [wb, ModelM, KP, KN, List.set_cons_succ, List.set_cons_zero, List.append_nil, List.nil_append, List.cons_append, Option.toList, Nat.sub_zero, List.take_succ_cons, List.take_zero]
      refine v_astore_nR (pc := 39) dX6_arrives_39 rfl (by decide) rfl ?_
      refine v_iconst (pc := 40) (v := -1) dX6_arrives_40 rfl ?_
      refine v_istore_n (pc := 41) dX6_arrives_41 rfl (by decide) rfl ?_
      refine v_iconst (pc := 42) (v := 0) dX6_arrives_42 rfl ?_
      refine v_istore (pc := 43) dX6_arrives_43 (by decide) rfl ?_
      have e9 : (rAr n5 l5 N O PC ps sc hh y (nI i)) = (0, arV i (arL n5 l5 N O PC ps sc i 300 hh y)) := by unfold rAr; rw [if_pos (isP_k hi (by omega)), cN_nI (by omega), if_pos ((hy.1 i hi 3).symm.trans c26)]
      rw [e9]
      refine v_sub (L' := [some (.ref (z 0)), some (.int (nI i)), some (.ref q36), some (.int (-1)), some (.int (nI 0)), none]) ⟨rfl, rfl, rfl, rfl, rfl, trivial⟩ ?_
      refine lp_X6_ar (th := th) (MX := MX) (H := H) (W := W) (B := B) hps hsc hbc h5 (l5 := l5) (by omega) hi (by omega) (by omega) hPC hN hO (fun x2 h2 MX2 H2 W2 => ?_) 300 0 (by omega) (SF, BF, T, Bk, qs, lr, nd, dg, S, C, ch) y _ MX H W hy (if_neg (fun q9 => absurd (c26.symm.trans q9) (by decide : ¬ (1 : Int32) = 0))).symm hI rfl
      refine v_aload_nR (pc := 94) dX6_arrives_94 rfl rfl ?_
      refine v_aload_nR (pc := 95) dX6_arrives_95 rfl rfl ?_
      refine v_callV1 (pc := 96) (c_X6_bringBack hps hsc hbc) cm_X6_bringBack q1049 q1051 qs44 (ci := 6) rfl rfl (orcO 0 rfl) [0, 1, 2, 3, 4, 5, 6, 7, 8, 9, 10, 11, 12, 13, 14, 15, 16, 17, 18] (by rfl) (by decide) (fun _ _ h => h) (by decide) (by decide) (by decide) (Nat.le_of_ble_eq_true rfl) dX6_arrives_96 (fun v96 M96 hQ96 => ?_)
      obtain ⟨rfl, rfl⟩ := hQ96
      try dsimp only [wb, ModelM, KP, KN, List.set_cons_succ, List.set_cons_zero, List.append_nil, List.nil_append, List.cons_append, Option.toList, Nat.sub_zero, List.take_succ_cons, List.take_zero]
      refine v_take 12 ?_
      try dsimp only [wb, ModelM, KP, KN, List.set_cons_succ, List.set_cons_zero, List.append_nil, List.nil_append, List.cons_append, Option.toList, Nat.sub_zero, List.take_succ_cons, List.take_zero]
      refine v_iload_n (pc := 99) dX6_arrives_99 rfl rfl ?_
      refine v_iret (pc := 100) rfl rfl (Nat.le_of_ble_eq_true rfl) dX6_arrives_100 ?_
      exact ⟨rfl, H2, W2, rfl⟩
    · refine v_aload_nR (pc := 29) dX6_arrives_29 rfl rfl ?_
      refine v_iconst (pc := 30) (v := 2) dX6_arrives_30 rfl ?_
      refine v_callV1 (pc := 31) (c_X6_fail hps hsc hbc) cm_X6_fail q862 q864 qs16 (ci := 6) rfl rfl (orcO 0 rfl) [0, 1, 2, 3, 4, 5, 6, 7, 8, 9, 10, 11] (by rfl) (by decide) (fun _ _ h => h) (by decide) (by decide) (by decide) (Nat.le_of_ble_eq_true rfl) dX6_arrives_31 (fun v31 M31 hQ31 => ?_)
      obtain ⟨rfl, rfl⟩ := hQ31
      try dsimp only [wb, ModelM, KP, KN, List.set_cons_succ, List.set_cons_zero, List.append_nil, List.nil_append, List.cons_append, Option.toList, Nat.sub_zero, List.take_succ_cons, List.take_zero]
      refine v_iret (pc := 34) rfl rfl (Nat.le_of_ble_eq_true rfl) dX6_arrives_34 ?_
      have e9 : (rAr n5 l5 N O PC ps sc hh y (nI i)) = (2, 0) := by unfold rAr; rw [if_pos (isP_k hi (by omega)), cN_nI (by omega), if_neg (fun h => c26 ((hy.1 i hi 3).trans h))]
      rw [e9]
      exact ⟨rfl, H, W, rfl⟩
  · have c10 := bI_0.mp c10
    refine v_aload_nR (pc := 13) dX6_arrives_13 rfl rfl ?_
    refine v_iconst (pc := 14) (v := 1) dX6_arrives_14 rfl ?_
    refine v_callV1 (pc := 15) (c_X6_fail hps hsc hbc) cm_X6_fail q862 q864 qs16 (ci := 6) rfl rfl (orcO 0 rfl) [0, 1, 2, 3, 4, 5, 6, 7, 8, 9, 10, 11] (by rfl) (by decide) (fun _ _ h => h) (by decide) (by decide) (by decide) (Nat.le_of_ble_eq_true rfl) dX6_arrives_15 (fun v15 M15 hQ15 => ?_)
    obtain ⟨rfl, rfl⟩ := hQ15
    try dsimp only [wb, ModelM, KP, KN, List.set_cons_succ, List.set_cons_zero, List.append_nil, List.nil_append, List.cons_append, Option.toList, Nat.sub_zero, List.take_succ_cons, List.take_zero]
    refine v_iret (pc := 18) rfl rfl (Nat.le_of_ble_eq_true rfl) dX6_arrives_18 ?_
    have e9 : (rAr n5 l5 N O PC ps sc hh y s) = (1, 0) := by exact if_neg c10
    rw [e9]
    exact ⟨rfl, H, W, rfl⟩
def nwS (SF : Nat → Nat → Int32) : Nat → Nat → Int32 := fun j k => if k = 8 then -1 else SF j k
theorem hIV.nw {PC T C : Nat → Int32} {ps sc bc B B2 : Nat} {SF BF : Nat → Nat → Int32} {MX : Nat → Int32} {ch ch2 : Int32} (h : hIV PC ps sc bc T C ch SF BF MX B) (h2 : chB ch2 B2) : hIV PC ps sc bc T C ch2 (nwS SF) BF MX B2 := by
  obtain ⟨a1, a2, a3, a4, a5, a6, a7, a8⟩ := h
  have e : ∀ i k, ¬ k = 8 → nwS SF i k = SF i k := fun i k hk => if_neg hk
  refine ⟨fun i hi => ?_, fun i hi => ?_, fun i hi h1 => ?_, fun i hi => ?_, a5, a6, fun i hi h1 h3 => ?_, h2⟩
  · rw [e i 0 (by decide), e i 4 (by decide), e i 6 (by decide), e i 7 (by decide)]
    exact a1 i hi
  · rw [e i 3 (by decide), e i 4 (by decide), e i 5 (by decide), e i 7 (by decide)]
    exact a2 i hi
  · left
    rw [show nwS SF i 8 = -1 from if_pos rfl, i_lt, i_m1]
    have := h2.1
    omega
  · rw [e i 1 (by decide)]
    exact a4 i hi
  · rw [e i 3 (by decide)] at h1
    rw [e i 7 (by decide)] at h3
    rw [e i 6 (by decide)]
    exact a7 i hi h1 h3
theorem nw_y {sc : Nat} {S U BF BF2 : Nat → Nat → Int32} {z : (Nat → Int32) × (Nat → Int32) × QS × Value × Int32 × Int32 × (Nat → Int32) × (Nat → Int32) × Int32} : eqB sc (nwS U, BF, z) (cpN S U sc, BF2, z) := ⟨fun i hi k => by
  show nwS U i k = cpN S U sc i k
  unfold nwS cpN
  rw [if_pos hi], rfl⟩
theorem nw_t {SF : Nat → Nat → Int32} {MX : Nat → Int32} : tblM (nwS SF) MX = tblM SF MX := tblM_cong (fun i k hk => by
  rcases hk with rfl | rfl | rfl | rfl | rfl | rfl <;> exact if_neg (by decide))
theorem c_X6_foreseeN {G : Cx} {z : Nat → Nat} {th : Int32} {N O PC T S C : Nat → Int32} {ps sc bc hh : Nat} {SF BF : Nat → Nat → Int32} {MX H W : Nat → Int32} (hps : ps ≤ 8) (hsc : sc ≤ 5) (hbc : bc ≤ 40) {s q : Int32} {n5 : Nat} (h5 : n5 = 5) {Bk : Nat → Int32} {BF2 SF2 : Nat → Nat → Int32} {qs : QS} {lr l5 : Value} {nd dg ch ch2 : Int32} {B B2 : Nat} (hB : B2 < 2 ^ 30 - 2000) (hhh : hh + 300 < 2 ^ 31 - 1) (hPC : ∀ k, k < 8 → 0 ≤ PC k ∧ PC k < 160) (hN : nOK N) (hO : oOK O) (hI : hIV PC ps sc bc T C ch SF BF MX B) (hc2 : chB ch2 B2) : Mt G Y_X6_foresee 7 8 728 [.ref (z 0), .int s, .int q] (ModelM z th N O PC ps sc bc T S C SF MX BF hh H W) (fun v M' => v = some (.int ((rFo n5 l5 N O PC ps sc hh (cpN SF2 SF sc, BF2, T, Bk, qs, lr, nd, dg, S, C, ch2) s q).2)) ∧ ∃ H' W' : Nat → Int32, M' = ModelM z (rFo n5 l5 N O PC ps sc hh (cpN SF2 SF sc, BF2, T, Bk, qs, lr, nd, dg, S, C, ch2) s q).1 N O PC ps sc bc T S C SF MX BF hh H' W') noX := by
  have h := c_X6_foresee (G := G) (z := z) (th := th) (H := H) (W := W) (SF := nwS SF) (s := s) (q := q) hps hsc hbc h5 (Bk := Bk) (qs := qs) (lr := lr) (l5 := l5) (nd := nd) (dg := dg) (ch := ch2) (S := S) hB hhh hPC hN hO (hI.nw hc2) (nw_y (S := SF2) (BF2 := BF2))
  dsimp only [ModelM] at h ⊢
  rw [nw_t] at h
  exact h
theorem c_X6_arrivesN {G : Cx} {z : Nat → Nat} {th : Int32} {N O PC T S C : Nat → Int32} {ps sc bc hh : Nat} {SF BF : Nat → Nat → Int32} {MX H W : Nat → Int32} (hps : ps ≤ 8) (hsc : sc ≤ 5) (hbc : bc ≤ 40) {s : Int32} {n5 : Nat} (h5 : n5 = 5) {Bk : Nat → Int32} {BF2 SF2 : Nat → Nat → Int32} {qs : QS} {lr l5 : Value} {nd dg ch ch2 : Int32} {B B2 : Nat} (hB : B2 < 2 ^ 30 - 2000) (hhh : hh + 300 < 2 ^ 31 - 1) (hPC : ∀ k, k < 8 → 0 ≤ PC k ∧ PC k < 160) (hN : nOK N) (hO : oOK O) (hI : hIV PC ps sc bc T C ch SF BF MX B) (hc2 : chB ch2 B2) : Mt G Y_X6_arrives 7 8 728 [.ref (z 0), .int s] (ModelM z th N O PC ps sc bc T S C SF MX BF hh H W) (fun v M' => v = some (.int ((rAr n5 l5 N O PC ps sc hh (cpN SF2 SF sc, BF2, T, Bk, qs, lr, nd, dg, S, C, ch2) s).2)) ∧ ∃ H' W' : Nat → Int32, M' = ModelM z (rAr n5 l5 N O PC ps sc hh (cpN SF2 SF sc, BF2, T, Bk, qs, lr, nd, dg, S, C, ch2) s).1 N O PC ps sc bc T S C SF MX BF hh H' W') noX := by
  have h := c_X6_arrives (G := G) (z := z) (th := th) (H := H) (W := W) (SF := nwS SF) (s := s) hps hsc hbc h5 (Bk := Bk) (qs := qs) (lr := lr) (l5 := l5) (nd := nd) (dg := dg) (ch := ch2) (S := S) hB hhh hPC hN hO (hI.nw hc2) (nw_y (S := SF2) (BF2 := BF2))
  dsimp only [ModelM] at h ⊢
  rw [nw_t] at h
  exact h
