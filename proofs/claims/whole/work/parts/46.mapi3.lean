/-! what the reference keeps and brings back; looking ahead -/
abbrev KP (q : Nat) (k : Nat → Nat) (T S C : Nat → Int32) (SF : Nat → Nat → Int32) (MX : Nat → Int32) (BF : Nat → Nat → Int32) (hh : Nat) : List ME := [eQ 5 q 6 (kpF (k 0) (k 1) (k 2) (k 3) (k 4) (k 5)), eI (k 0) 160 T, eI (k 1) 160 S, eI (k 2) 160 C, eI (k 3) 35 (tblM SF MX), eI (k 4) 200 (malM BF), eI (k 5) 1 (fun _ => nI hh)]
def KN (a b c d e f : Nat) : Nat → Nat
  | 0 => a
  | 1 => b
  | 2 => c
  | 3 => d
  | 4 => e
  | _ => f
theorem clamp35 : (35 : Int32).toNatClampNeg = 35 := by decide
theorem clamp200 : (200 : Int32).toNatClampNeg = 200 := by decide
theorem clamp1 : (1 : Int32).toNatClampNeg = 1 := by decide
set_option maxRecDepth 100000 in
set_option maxHeartbeats 4000000 in
theorem c_X6_kept {G : Cx} {z : Nat → Nat} {th : Int32} {N O PC T S C : Nat → Int32} {ps sc bc hh : Nat} {SF BF : Nat → Nat → Int32} {MX H W : Nat → Int32} (hps : ps ≤ 8) (hsc : sc ≤ 5) (hbc : bc ≤ 40) : Mt G Y_X6_kept 1 7 722 [.ref (z 0)] (ModelM z th N O PC ps sc bc T S C SF MX BF hh H W) (fun v M' => ∃ (q : Nat) (k : Nat → Nat), v = some (.ref q) ∧ M' = ModelM z th N O PC ps sc bc T S C SF MX BF hh H W ++ KP q k T S C SF MX BF hh) noX := by
  refine Mt.of (L := [some (.ref (z 0))]) rfl (by decide) (by simp [lg_sl, Value.category]) ⟨rfl, trivial⟩ (fun sz => ?_)
  refine v_bipush (pc := 0) (v := 6) dX6_kept_0 rfl ?_
  refine v_newA (pc := 2) (N := 6) q1041 q1042 (by decide) (by decide) (by decide) (by decide) (by decide) dX6_kept_2 (fun z2 => ?_)
  try dsimp only [wb, ModelM, KP, KN, List.set_cons_succ, List.set_cons_zero, List.append_nil, List.nil_append, List.cons_append, Option.toList, Nat.sub_zero, List.take_succ_cons, List.take_zero]
  refine v_dup (pc := 5) dX6_kept_5 rfl ?_
  refine v_iconst (pc := 6) (v := 0) dX6_kept_6 rfl ?_
  refine v_aload_nR (pc := 7) dX6_kept_7 rfl rfl ?_
  refine v_get (pc := 8) 7 0 fg_X6_19 rfl rfl dX6_kept_8 ?_
  refine v_clone (pc := 11) 4 rfl q1043 q1044 q1045 q1046 q1047 q1048 (by decide) (Nat.le_of_ble_eq_true rfl) (by decide) (by decide) dX6_kept_11 (fun z11 => ?_)
  try dsimp only [wb, ModelM, KP, KN, List.set_cons_succ, List.set_cons_zero, List.append_nil, List.nil_append, List.cons_append, Option.toList, Nat.sub_zero, List.take_succ_cons, List.take_zero]
  refine v_castA (pc := 14) 13 rfl q1041 dX6_kept_14 ?_
  refine v_aastA (pc := 17) 12 13 rfl rfl q1042 (by unfold vp_in; decide) dX6_kept_17 ?_
  try dsimp only [wb, ModelM, KP, KN, List.set_cons_succ, List.set_cons_zero, List.append_nil, List.nil_append, List.cons_append, Option.toList, Nat.sub_zero, List.take_succ_cons, List.take_zero]
  refine v_dup (pc := 18) dX6_kept_18 rfl ?_
  refine v_iconst (pc := 19) (v := 1) dX6_kept_19 rfl ?_
  refine v_aload_nR (pc := 20) dX6_kept_20 rfl rfl ?_
  refine v_get (pc := 21) 8 0 fg_X6_22 rfl rfl dX6_kept_21 ?_
  refine v_clone (pc := 24) 5 rfl q1043 q1044 q1045 q1046 q1047 q1048 (by decide) (Nat.le_of_ble_eq_true rfl) (by decide) (by decide) dX6_kept_24 (fun z24 => ?_)
  try dsimp only [wb, ModelM, KP, KN, List.set_cons_succ, List.set_cons_zero, List.append_nil, List.nil_append, List.cons_append, Option.toList, Nat.sub_zero, List.take_succ_cons, List.take_zero]
  refine v_castA (pc := 27) 14 rfl q1041 dX6_kept_27 ?_
  refine v_aastA (pc := 30) 12 14 rfl rfl q1042 (by unfold vp_in; decide) dX6_kept_30 ?_
  try dsimp only [wb, ModelM, KP, KN, List.set_cons_succ, List.set_cons_zero, List.append_nil, List.nil_append, List.cons_append, Option.toList, Nat.sub_zero, List.take_succ_cons, List.take_zero]
  refine v_dup (pc := 31) dX6_kept_31 rfl ?_
  refine v_iconst (pc := 32) (v := 2) dX6_kept_32 rfl ?_
  refine v_aload_nR (pc := 33) dX6_kept_33 rfl rfl ?_
  refine v_get (pc := 34) 9 0 fg_X6_25 rfl rfl dX6_kept_34 ?_
  refine v_clone (pc := 37) 6 rfl q1043 q1044 q1045 q1046 q1047 q1048 (by decide) (Nat.le_of_ble_eq_true rfl) (by decide) (by decide) dX6_kept_37 (fun z37 => ?_)
  try dsimp only [wb, ModelM, KP, KN, List.set_cons_succ, List.set_cons_zero, List.append_nil, List.nil_append, List.cons_append, Option.toList, Nat.sub_zero, List.take_succ_cons, List.take_zero]
  refine v_castA (pc := 40) 15 rfl q1041 dX6_kept_40 ?_
  refine v_aastA (pc := 43) 12 15 rfl rfl q1042 (by unfold vp_in; decide) dX6_kept_43 ?_
  try dsimp only [wb, ModelM, KP, KN, List.set_cons_succ, List.set_cons_zero, List.append_nil, List.nil_append, List.cons_append, Option.toList, Nat.sub_zero, List.take_succ_cons, List.take_zero]
  refine v_dup (pc := 44) dX6_kept_44 rfl ?_
  refine v_iconst (pc := 45) (v := 3) dX6_kept_45 rfl ?_
  refine v_aload_nR (pc := 46) dX6_kept_46 rfl rfl ?_
  refine v_get (pc := 47) 10 0 fg_X6_28 rfl rfl dX6_kept_47 ?_
  refine v_clone (pc := 50) 7 rfl q1043 q1044 q1045 q1046 q1047 q1048 (by decide) (Nat.le_of_ble_eq_true rfl) (by decide) (by decide) dX6_kept_50 (fun z50 => ?_)
  try dsimp only [wb, ModelM, KP, KN, List.set_cons_succ, List.set_cons_zero, List.append_nil, List.nil_append, List.cons_append, Option.toList, Nat.sub_zero, List.take_succ_cons, List.take_zero]
  refine v_castA (pc := 53) 16 rfl q1041 dX6_kept_53 ?_
  refine v_aastA (pc := 56) 12 16 rfl rfl q1042 (by unfold vp_in; decide) dX6_kept_56 ?_
  try dsimp only [wb, ModelM, KP, KN, List.set_cons_succ, List.set_cons_zero, List.append_nil, List.nil_append, List.cons_append, Option.toList, Nat.sub_zero, List.take_succ_cons, List.take_zero]
  refine v_dup (pc := 57) dX6_kept_57 rfl ?_
  refine v_iconst (pc := 58) (v := 4) dX6_kept_58 rfl ?_
  refine v_aload_nR (pc := 59) dX6_kept_59 rfl rfl ?_
  refine v_get (pc := 60) 11 0 fg_X6_31 rfl rfl dX6_kept_60 ?_
  refine v_clone (pc := 63) 8 rfl q1043 q1044 q1045 q1046 q1047 q1048 (by decide) (Nat.le_of_ble_eq_true rfl) (by decide) (by decide) dX6_kept_63 (fun z63 => ?_)
  try dsimp only [wb, ModelM, KP, KN, List.set_cons_succ, List.set_cons_zero, List.append_nil, List.nil_append, List.cons_append, Option.toList, Nat.sub_zero, List.take_succ_cons, List.take_zero]
  refine v_castA (pc := 66) 17 rfl q1041 dX6_kept_66 ?_
  refine v_aastA (pc := 69) 12 17 rfl rfl q1042 (by unfold vp_in; decide) dX6_kept_69 ?_
  try dsimp only [wb, ModelM, KP, KN, List.set_cons_succ, List.set_cons_zero, List.append_nil, List.nil_append, List.cons_append, Option.toList, Nat.sub_zero, List.take_succ_cons, List.take_zero]
  refine v_dup (pc := 70) dX6_kept_70 rfl ?_
  refine v_iconst (pc := 71) (v := 5) dX6_kept_71 rfl ?_
  refine v_aload_nR (pc := 72) dX6_kept_72 rfl rfl ?_
  refine v_get (pc := 73) 12 0 fg_X6_34 rfl rfl dX6_kept_73 ?_
  refine v_clone (pc := 76) 9 rfl q1043 q1044 q1045 q1046 q1047 q1048 (by decide) (Nat.le_of_ble_eq_true rfl) (by decide) (by decide) dX6_kept_76 (fun z76 => ?_)
  try dsimp only [wb, ModelM, KP, KN, List.set_cons_succ, List.set_cons_zero, List.append_nil, List.nil_append, List.cons_append, Option.toList, Nat.sub_zero, List.take_succ_cons, List.take_zero]
  refine v_castA (pc := 79) 18 rfl q1041 dX6_kept_79 ?_
  refine v_aastA (pc := 82) 12 18 rfl rfl q1042 (by unfold vp_in; decide) dX6_kept_82 ?_
  try dsimp only [wb, ModelM, KP, KN, List.set_cons_succ, List.set_cons_zero, List.append_nil, List.nil_append, List.cons_append, Option.toList, Nat.sub_zero, List.take_succ_cons, List.take_zero]
  simp only [cl0, cl1, cl2, cl3, cl4, cl5]
  refine v_cgQ 12 (g := kpF z11 z24 z37 z50 z63 z76) rfl kpF_up ?_
  try dsimp only [wb, ModelM, KP, KN, List.set_cons_succ, List.set_cons_zero, List.append_nil, List.nil_append, List.cons_append, Option.toList, Nat.sub_zero, List.take_succ_cons, List.take_zero]
  refine v_aret (pc := 83) rfl (Or.inr ⟨_, rfl⟩) (Or.inr ⟨_, rfl⟩) (Nat.le_of_ble_eq_true rfl) dX6_kept_83 ?_
  exact ⟨z2, KN z11 z24 z37 z50 z63 z76, rfl, rfl⟩
set_option maxRecDepth 100000 in
set_option maxHeartbeats 4000000 in
theorem c_X6_bringBack {G : Cx} {z : Nat → Nat} {th : Int32} {N O PC T S C : Nat → Int32} {ps sc bc hh : Nat} {SF BF : Nat → Nat → Int32} {MX H W : Nat → Int32} {q : Nat} {k : Nat → Nat} {T0 S0 C0 : Nat → Int32} {SF0 BF0 : Nat → Nat → Int32} {MX0 : Nat → Int32} {hh0 : Nat} (hps : ps ≤ 8) (hsc : sc ≤ 5) (hbc : bc ≤ 40) : Mt G Y_X6_bringBack 1 1 6 [.ref (z 0), .ref q] (ModelM z th N O PC ps sc bc T S C SF MX BF hh H W ++ KP q k T0 S0 C0 SF0 MX0 BF0 hh0) (fun v M' => v = none ∧ M' = ModelM z th N O PC ps sc bc T0 S0 C0 SF0 MX0 BF0 hh0 H W ++ KP q k T0 S0 C0 SF0 MX0 BF0 hh0) noX := by
  refine Mt.of (L := [some (.ref (z 0)), some (.ref q), none, none]) rfl (by decide) (by simp [lg_sl, Value.category]) ⟨rfl, rfl, trivial⟩ (fun sz => ?_)
  refine v_bipush (pc := 0) (v := 6) dX6_bringBack_0 rfl ?_
  refine v_newA (pc := 2) (N := 6) q1041 q1042 (by decide) (by decide) (by decide) (by decide) (by decide) dX6_bringBack_2 (fun z2 => ?_)
  try dsimp only [wb, ModelM, KP, KN, List.set_cons_succ, List.set_cons_zero, List.append_nil, List.nil_append, List.cons_append, Option.toList, Nat.sub_zero, List.take_succ_cons, List.take_zero]
  refine v_dup (pc := 5) dX6_bringBack_5 rfl ?_
  refine v_iconst (pc := 6) (v := 0) dX6_bringBack_6 rfl ?_
  refine v_aload_nR (pc := 7) dX6_bringBack_7 rfl rfl ?_
  refine v_get (pc := 8) 7 0 fg_X6_19 rfl rfl dX6_bringBack_8 ?_
  refine v_aastA (pc := 11) 19 4 rfl rfl q1042 (by unfold vp_in; decide) dX6_bringBack_11 ?_
  try dsimp only [wb, ModelM, KP, KN, List.set_cons_succ, List.set_cons_zero, List.append_nil, List.nil_append, List.cons_append, Option.toList, Nat.sub_zero, List.take_succ_cons, List.take_zero]
  refine v_dup (pc := 12) dX6_bringBack_12 rfl ?_
  refine v_iconst (pc := 13) (v := 1) dX6_bringBack_13 rfl ?_
  refine v_aload_nR (pc := 14) dX6_bringBack_14 rfl rfl ?_
  refine v_get (pc := 15) 8 0 fg_X6_22 rfl rfl dX6_bringBack_15 ?_
  refine v_aastA (pc := 18) 19 5 rfl rfl q1042 (by unfold vp_in; decide) dX6_bringBack_18 ?_
  try dsimp only [wb, ModelM, KP, KN, List.set_cons_succ, List.set_cons_zero, List.append_nil, List.nil_append, List.cons_append, Option.toList, Nat.sub_zero, List.take_succ_cons, List.take_zero]
  refine v_dup (pc := 19) dX6_bringBack_19 rfl ?_
  refine v_iconst (pc := 20) (v := 2) dX6_bringBack_20 rfl ?_
  refine v_aload_nR (pc := 21) dX6_bringBack_21 rfl rfl ?_
  refine v_get (pc := 22) 9 0 fg_X6_25 rfl rfl dX6_bringBack_22 ?_
  refine v_aastA (pc := 25) 19 6 rfl rfl q1042 (by unfold vp_in; decide) dX6_bringBack_25 ?_
  try dsimp only [wb, ModelM, KP, KN, List.set_cons_succ, List.set_cons_zero, List.append_nil, List.nil_append, List.cons_append, Option.toList, Nat.sub_zero, List.take_succ_cons, List.take_zero]
  refine v_dup (pc := 26) dX6_bringBack_26 rfl ?_
  refine v_iconst (pc := 27) (v := 3) dX6_bringBack_27 rfl ?_
  refine v_aload_nR (pc := 28) dX6_bringBack_28 rfl rfl ?_
  refine v_get (pc := 29) 10 0 fg_X6_28 rfl rfl dX6_bringBack_29 ?_
  refine v_aastA (pc := 32) 19 7 rfl rfl q1042 (by unfold vp_in; decide) dX6_bringBack_32 ?_
  try dsimp only [wb, ModelM, KP, KN, List.set_cons_succ, List.set_cons_zero, List.append_nil, List.nil_append, List.cons_append, Option.toList, Nat.sub_zero, List.take_succ_cons, List.take_zero]
  refine v_dup (pc := 33) dX6_bringBack_33 rfl ?_
  refine v_iconst (pc := 34) (v := 4) dX6_bringBack_34 rfl ?_
  refine v_aload_nR (pc := 35) dX6_bringBack_35 rfl rfl ?_
  refine v_get (pc := 36) 11 0 fg_X6_31 rfl rfl dX6_bringBack_36 ?_
  refine v_aastA (pc := 39) 19 8 rfl rfl q1042 (by unfold vp_in; decide) dX6_bringBack_39 ?_
  try dsimp only [wb, ModelM, KP, KN, List.set_cons_succ, List.set_cons_zero, List.append_nil, List.nil_append, List.cons_append, Option.toList, Nat.sub_zero, List.take_succ_cons, List.take_zero]
  refine v_dup (pc := 40) dX6_bringBack_40 rfl ?_
  refine v_iconst (pc := 41) (v := 5) dX6_bringBack_41 rfl ?_
  refine v_aload_nR (pc := 42) dX6_bringBack_42 rfl rfl ?_
  refine v_get (pc := 43) 12 0 fg_X6_34 rfl rfl dX6_bringBack_43 ?_
  refine v_aastA (pc := 46) 19 9 rfl rfl q1042 (by unfold vp_in; decide) dX6_bringBack_46 ?_
  try dsimp only [wb, ModelM, KP, KN, List.set_cons_succ, List.set_cons_zero, List.append_nil, List.nil_append, List.cons_append, Option.toList, Nat.sub_zero, List.take_succ_cons, List.take_zero]
  simp only [cl0, cl1, cl2, cl3, cl4, cl5]
  refine v_cgQ 19 (g := kpF (z 4) (z 5) (z 6) (z 7) (z 8) (z 9)) rfl kpF_up ?_
  try dsimp only [wb, ModelM, KP, KN, List.set_cons_succ, List.set_cons_zero, List.append_nil, List.nil_append, List.cons_append, Option.toList, Nat.sub_zero, List.take_succ_cons, List.take_zero]
  refine v_astore_nR (pc := 47) dX6_bringBack_47 rfl (by decide) rfl ?_
  refine v_iconst (pc := 48) (v := 0) dX6_bringBack_48 rfl ?_
  refine v_istore_n (pc := 49) dX6_bringBack_49 rfl (by decide) rfl ?_
  refine v_iload_n (pc := 50) dX6_bringBack_50 rfl rfl ?_
  refine v_bipush (pc := 51) (v := 6) dX6_bringBack_51 rfl ?_
  refine v_icmp_ge (pc := 53) (tgt := 77) dX6_bringBack_53 (by decide) (fun c53 => absurd c53 (by decide)) (fun c53 => ?_)
  refine v_aload_nR (pc := 56) dX6_bringBack_56 rfl rfl ?_
  refine v_iload_n (pc := 57) dX6_bringBack_57 rfl rfl ?_
  refine v_aaldA (pc := 58) 12 rfl (by unfold vp_in; decide) rfl dX6_bringBack_58 ?_
  refine v_iconst (pc := 59) (v := 0) dX6_bringBack_59 rfl ?_
  refine v_aload_nR (pc := 60) dX6_bringBack_60 rfl rfl ?_
  refine v_iload_n (pc := 61) dX6_bringBack_61 rfl rfl ?_
  refine v_aaldA (pc := 62) 19 rfl (by unfold vp_in; decide) rfl dX6_bringBack_62 ?_
  refine v_iconst (pc := 63) (v := 0) dX6_bringBack_63 rfl ?_
  refine v_aload_nR (pc := 64) dX6_bringBack_64 rfl rfl ?_
  refine v_iload_n (pc := 65) dX6_bringBack_65 rfl rfl ?_
  refine v_aaldA (pc := 66) 19 rfl (by unfold vp_in; decide) rfl dX6_bringBack_66 ?_
  refine v_alen (pc := 67) 4 (v := 160) rfl (fun _ => rfl) rfl dX6_bringBack_67 ?_
  refine v_copyi (pc := 68) 13 4 rfl rfl q906 q782 q781 q15 (by decide) (by decide) (by decide) (by decide) (by decide) (by decide) (Nat.le_of_ble_eq_true rfl) dX6_bringBack_68 ?_
  simp only [clamp0, clamp160]
  refine v_cgI 4 (g := T0) rfl cpy_all ?_
  try dsimp only [wb, ModelM, KP, KN, List.set_cons_succ, List.set_cons_zero, List.append_nil, List.nil_append, List.cons_append, Option.toList, Nat.sub_zero, List.take_succ_cons, List.take_zero]
  refine v_iinc (pc := 71) (v := 1) dX6_bringBack_71 rfl (by decide) (by decide) rfl ?_
  refine v_goto (pc := 74) (tgt := 50) dX6_bringBack_74 (by decide) ?_
  refine v_iload_n (pc := 50) dX6_bringBack_50 rfl rfl ?_
  refine v_bipush (pc := 51) (v := 6) dX6_bringBack_51 rfl ?_
  refine v_icmp_ge (pc := 53) (tgt := 77) dX6_bringBack_53 (by decide) (fun c53 => absurd c53 (by decide)) (fun c53 => ?_)
  refine v_aload_nR (pc := 56) dX6_bringBack_56 rfl rfl ?_
  refine v_iload_n (pc := 57) dX6_bringBack_57 rfl rfl ?_
  refine v_aaldA (pc := 58) 12 rfl (by unfold vp_in; decide) rfl dX6_bringBack_58 ?_
  refine v_iconst (pc := 59) (v := 0) dX6_bringBack_59 rfl ?_
  refine v_aload_nR (pc := 60) dX6_bringBack_60 rfl rfl ?_
  refine v_iload_n (pc := 61) dX6_bringBack_61 rfl rfl ?_
  refine v_aaldA (pc := 62) 19 rfl (by unfold vp_in; decide) rfl dX6_bringBack_62 ?_
  refine v_iconst (pc := 63) (v := 0) dX6_bringBack_63 rfl ?_
  refine v_aload_nR (pc := 64) dX6_bringBack_64 rfl rfl ?_
  refine v_iload_n (pc := 65) dX6_bringBack_65 rfl rfl ?_
  refine v_aaldA (pc := 66) 19 rfl (by unfold vp_in; decide) rfl dX6_bringBack_66 ?_
  refine v_alen (pc := 67) 5 (v := 160) rfl (fun _ => rfl) rfl dX6_bringBack_67 ?_
  refine v_copyi (pc := 68) 14 5 rfl rfl q906 q782 q781 q15 (by decide) (by decide) (by decide) (by decide) (by decide) (by decide) (Nat.le_of_ble_eq_true rfl) dX6_bringBack_68 ?_
  simp only [clamp0, clamp160]
  refine v_cgI 5 (g := S0) rfl cpy_all ?_
  try dsimp only [wb, ModelM, KP, KN, List.set_cons_succ, List.set_cons_zero, List.append_nil, List.nil_append, List.cons_append, Option.toList, Nat.sub_zero, List.take_succ_cons, List.take_zero]
  refine v_iinc (pc := 71) (v := 2) dX6_bringBack_71 rfl (by decide) (by decide) rfl ?_
  refine v_goto (pc := 74) (tgt := 50) dX6_bringBack_74 (by decide) ?_
  refine v_iload_n (pc := 50) dX6_bringBack_50 rfl rfl ?_
  refine v_bipush (pc := 51) (v := 6) dX6_bringBack_51 rfl ?_
  refine v_icmp_ge (pc := 53) (tgt := 77) dX6_bringBack_53 (by decide) (fun c53 => absurd c53 (by decide)) (fun c53 => ?_)
  refine v_aload_nR (pc := 56) dX6_bringBack_56 rfl rfl ?_
  refine v_iload_n (pc := 57) dX6_bringBack_57 rfl rfl ?_
  refine v_aaldA (pc := 58) 12 rfl (by unfold vp_in; decide) rfl dX6_bringBack_58 ?_
  refine v_iconst (pc := 59) (v := 0) dX6_bringBack_59 rfl ?_
  refine v_aload_nR (pc := 60) dX6_bringBack_60 rfl rfl ?_
  refine v_iload_n (pc := 61) dX6_bringBack_61 rfl rfl ?_
  refine v_aaldA (pc := 62) 19 rfl (by unfold vp_in; decide) rfl dX6_bringBack_62 ?_
  refine v_iconst (pc := 63) (v := 0) dX6_bringBack_63 rfl ?_
  refine v_aload_nR (pc := 64) dX6_bringBack_64 rfl rfl ?_
  refine v_iload_n (pc := 65) dX6_bringBack_65 rfl rfl ?_
  refine v_aaldA (pc := 66) 19 rfl (by unfold vp_in; decide) rfl dX6_bringBack_66 ?_
  refine v_alen (pc := 67) 6 (v := 160) rfl (fun _ => rfl) rfl dX6_bringBack_67 ?_
  refine v_copyi (pc := 68) 15 6 rfl rfl q906 q782 q781 q15 (by decide) (by decide) (by decide) (by decide) (by decide) (by decide) (Nat.le_of_ble_eq_true rfl) dX6_bringBack_68 ?_
  simp only [clamp0, clamp160]
  refine v_cgI 6 (g := C0) rfl cpy_all ?_
  try dsimp only [wb, ModelM, KP, KN, List.set_cons_succ, List.set_cons_zero, List.append_nil, List.nil_append, List.cons_append, Option.toList, Nat.sub_zero, List.take_succ_cons, List.take_zero]
  refine v_iinc (pc := 71) (v := 3) dX6_bringBack_71 rfl (by decide) (by decide) rfl ?_
  refine v_goto (pc := 74) (tgt := 50) dX6_bringBack_74 (by decide) ?_
  refine v_iload_n (pc := 50) dX6_bringBack_50 rfl rfl ?_
  refine v_bipush (pc := 51) (v := 6) dX6_bringBack_51 rfl ?_
  refine v_icmp_ge (pc := 53) (tgt := 77) dX6_bringBack_53 (by decide) (fun c53 => absurd c53 (by decide)) (fun c53 => ?_)
  refine v_aload_nR (pc := 56) dX6_bringBack_56 rfl rfl ?_
  refine v_iload_n (pc := 57) dX6_bringBack_57 rfl rfl ?_
  refine v_aaldA (pc := 58) 12 rfl (by unfold vp_in; decide) rfl dX6_bringBack_58 ?_
  refine v_iconst (pc := 59) (v := 0) dX6_bringBack_59 rfl ?_
  refine v_aload_nR (pc := 60) dX6_bringBack_60 rfl rfl ?_
  refine v_iload_n (pc := 61) dX6_bringBack_61 rfl rfl ?_
  refine v_aaldA (pc := 62) 19 rfl (by unfold vp_in; decide) rfl dX6_bringBack_62 ?_
  refine v_iconst (pc := 63) (v := 0) dX6_bringBack_63 rfl ?_
  refine v_aload_nR (pc := 64) dX6_bringBack_64 rfl rfl ?_
  refine v_iload_n (pc := 65) dX6_bringBack_65 rfl rfl ?_
  refine v_aaldA (pc := 66) 19 rfl (by unfold vp_in; decide) rfl dX6_bringBack_66 ?_
  refine v_alen (pc := 67) 7 (v := 35) rfl (fun _ => rfl) rfl dX6_bringBack_67 ?_
  refine v_copyi (pc := 68) 16 7 rfl rfl q906 q782 q781 q15 (by decide) (by decide) (by decide) (by decide) (by decide) (by decide) (Nat.le_of_ble_eq_true rfl) dX6_bringBack_68 ?_
  simp only [clamp0, clamp35]
  refine v_cgI 7 (g := (tblM SF0 MX0)) rfl cpy_all ?_
  try dsimp only [wb, ModelM, KP, KN, List.set_cons_succ, List.set_cons_zero, List.append_nil, List.nil_append, List.cons_append, Option.toList, Nat.sub_zero, List.take_succ_cons, List.take_zero]
  refine v_iinc (pc := 71) (v := 4) dX6_bringBack_71 rfl (by decide) (by decide) rfl ?_
  refine v_goto (pc := 74) (tgt := 50) dX6_bringBack_74 (by decide) ?_
  refine v_iload_n (pc := 50) dX6_bringBack_50 rfl rfl ?_
  refine v_bipush (pc := 51) (v := 6) dX6_bringBack_51 rfl ?_
  refine v_icmp_ge (pc := 53) (tgt := 77) dX6_bringBack_53 (by decide) (fun c53 => absurd c53 (by decide)) (fun c53 => ?_)
  refine v_aload_nR (pc := 56) dX6_bringBack_56 rfl rfl ?_
  refine v_iload_n (pc := 57) dX6_bringBack_57 rfl rfl ?_
  refine v_aaldA (pc := 58) 12 rfl (by unfold vp_in; decide) rfl dX6_bringBack_58 ?_
  refine v_iconst (pc := 59) (v := 0) dX6_bringBack_59 rfl ?_
  refine v_aload_nR (pc := 60) dX6_bringBack_60 rfl rfl ?_
  refine v_iload_n (pc := 61) dX6_bringBack_61 rfl rfl ?_
  refine v_aaldA (pc := 62) 19 rfl (by unfold vp_in; decide) rfl dX6_bringBack_62 ?_
  refine v_iconst (pc := 63) (v := 0) dX6_bringBack_63 rfl ?_
  refine v_aload_nR (pc := 64) dX6_bringBack_64 rfl rfl ?_
  refine v_iload_n (pc := 65) dX6_bringBack_65 rfl rfl ?_
  refine v_aaldA (pc := 66) 19 rfl (by unfold vp_in; decide) rfl dX6_bringBack_66 ?_
  refine v_alen (pc := 67) 8 (v := 200) rfl (fun _ => rfl) rfl dX6_bringBack_67 ?_
  refine v_copyi (pc := 68) 17 8 rfl rfl q906 q782 q781 q15 (by decide) (by decide) (by decide) (by decide) (by decide) (by decide) (Nat.le_of_ble_eq_true rfl) dX6_bringBack_68 ?_
  simp only [clamp0, clamp200]
  refine v_cgI 8 (g := (malM BF0)) rfl cpy_all ?_
  try dsimp only [wb, ModelM, KP, KN, List.set_cons_succ, List.set_cons_zero, List.append_nil, List.nil_append, List.cons_append, Option.toList, Nat.sub_zero, List.take_succ_cons, List.take_zero]
  refine v_iinc (pc := 71) (v := 5) dX6_bringBack_71 rfl (by decide) (by decide) rfl ?_
  refine v_goto (pc := 74) (tgt := 50) dX6_bringBack_74 (by decide) ?_
  refine v_iload_n (pc := 50) dX6_bringBack_50 rfl rfl ?_
  refine v_bipush (pc := 51) (v := 6) dX6_bringBack_51 rfl ?_
  refine v_icmp_ge (pc := 53) (tgt := 77) dX6_bringBack_53 (by decide) (fun c53 => absurd c53 (by decide)) (fun c53 => ?_)
  refine v_aload_nR (pc := 56) dX6_bringBack_56 rfl rfl ?_
  refine v_iload_n (pc := 57) dX6_bringBack_57 rfl rfl ?_
  refine v_aaldA (pc := 58) 12 rfl (by unfold vp_in; decide) rfl dX6_bringBack_58 ?_
  refine v_iconst (pc := 59) (v := 0) dX6_bringBack_59 rfl ?_
  refine v_aload_nR (pc := 60) dX6_bringBack_60 rfl rfl ?_
  refine v_iload_n (pc := 61) dX6_bringBack_61 rfl rfl ?_
  refine v_aaldA (pc := 62) 19 rfl (by unfold vp_in; decide) rfl dX6_bringBack_62 ?_
  refine v_iconst (pc := 63) (v := 0) dX6_bringBack_63 rfl ?_
  refine v_aload_nR (pc := 64) dX6_bringBack_64 rfl rfl ?_
  refine v_iload_n (pc := 65) dX6_bringBack_65 rfl rfl ?_
  refine v_aaldA (pc := 66) 19 rfl (by unfold vp_in; decide) rfl dX6_bringBack_66 ?_
  refine v_alen (pc := 67) 9 (v := 1) rfl (fun _ => rfl) rfl dX6_bringBack_67 ?_
  refine v_copyi (pc := 68) 18 9 rfl rfl q906 q782 q781 q15 (by decide) (by decide) (by decide) (by decide) (by decide) (by decide) (Nat.le_of_ble_eq_true rfl) dX6_bringBack_68 ?_
  simp only [clamp0, clamp1]
  refine v_cgI 9 (g := (fun _ => nI hh0)) rfl cpy_all ?_
  try dsimp only [wb, ModelM, KP, KN, List.set_cons_succ, List.set_cons_zero, List.append_nil, List.nil_append, List.cons_append, Option.toList, Nat.sub_zero, List.take_succ_cons, List.take_zero]
  refine v_iinc (pc := 71) (v := 6) dX6_bringBack_71 rfl (by decide) (by decide) rfl ?_
  refine v_goto (pc := 74) (tgt := 50) dX6_bringBack_74 (by decide) ?_
  refine v_iload_n (pc := 50) dX6_bringBack_50 rfl rfl ?_
  refine v_bipush (pc := 51) (v := 6) dX6_bringBack_51 rfl ?_
  refine v_icmp_ge (pc := 53) (tgt := 77) dX6_bringBack_53 (by decide) (fun c53 => ?_) (fun c53 => absurd c53 (by decide))
  refine v_take 19 ?_
  try dsimp only [wb, ModelM, KP, KN, List.set_cons_succ, List.set_cons_zero, List.append_nil, List.nil_append, List.cons_append, Option.toList, Nat.sub_zero, List.take_succ_cons, List.take_zero]
  refine v_vret (pc := 77) rfl (Nat.le_of_ble_eq_true rfl) dX6_bringBack_77 ?_
  exact ⟨rfl, rfl⟩
