/-! the law's loop, and all of it -/
set_option maxRecDepth 100000 in
set_option maxHeartbeats 4000000 in
theorem lw_loop {G : Cx} {sz : Nat} {nm : String} {hd9 : List (Nat × Nat × Nat × Nat)} {g0 : Nat} {w u v xs bs : Nat → Nat} {n5 : Nat} (h5 : n5 = 5) (hL31 : G.2.2.2.2.2.1 < 2 ^ 31) : ∀ (m : Nat), ∀ (t0 : Nat) (a : Nat → Int32) (b : Nat → Int32) (f : Nat → Int32) (wa : Int32) (lr : Value) (nd : Int32) (dg : Int32) (T : Nat → Int32) (N : Nat → Int32) (S : Nat → Int32) (C : Nat → Int32) (B : Nat → Int32) (O : Nat → Int32) (ch : Int32) (PC : Nat → Int32) (SF : Nat → Nat → Int32) (BF : Nat → Nat → Int32) (ps : Nat) (sc : Nat) (bc : Nat) (a2 : Nat → Int32) (b2 : Nat → Int32) (f2 : Nat → Int32) (wa2 : Int32) (lr2 : Value) (nd2 : Int32) (dg2 : Int32) (T2 : Nat → Int32) (N2 : Nat → Int32) (S2 : Nat → Int32) (C2 : Nat → Int32) (B2 : Nat → Int32) (O2 : Nat → Int32) (ch2 : Int32) (PC2 : Nat → Int32) (SF2 : Nat → Nat → Int32) (BF2 : Nat → Nat → Int32) (ps2 : Nat) (sc2 : Nat) (hh2 : Nat) (MX : Nat → Int32) (H : Nat → Int32) (D : Nat → Int32), m + t0 = 48 → (1 ≤ ps ∧ (1 ≤ sc ∧ sc ≤ 4) ∧ bc ≤ 8) → LI N O PC ps sc bc T S C ch SF BF MX (2000 + 10 * t0) → V G (YL nm hd9) (ZM G [] sz (fun v _ => v = some (.int 1)) noX) 9 (3000 * m) (20000 * m) 36 [some (.ref G.2.2.2.1), some (.ref g0), some (.ref (v 0)), some (.int (nI sc)), some (.int (nI bc)), some (.int (nI t0)), none, none, none, none, none, none, none, none, none, none, none, none, none, none, none, none, none, none, none, none] [] (LawM g0 w u v xs bs a b f wa lr nd dg T N S C B O ch PC SF BF ps sc bc t0 a2 b2 f2 wa2 lr2 nd2 dg2 T2 N2 S2 C2 B2 O2 ch2 PC2 SF2 BF2 ps2 sc2 hh2 MX H D) := by
  intro m
  induction m with
  | zero =>
    intro t0 a b f wa lr nd dg T N S C B O ch PC SF BF ps sc bc a2 b2 f2 wa2 lr2 nd2 dg2 T2 N2 S2 C2 B2 O2 ch2 PC2 SF2 BF2 ps2 sc2 hh2 MX H D hmt hB9 hI
    obtain ⟨hps, hsc, hbc⟩ := hI.1.1
    refine v_iload (pc := 36) dL_law_36 rfl ?_
    refine v_bipush (pc := 38) (v := 48) dL_law_38 rfl ?_
    refine v_icmp_ge (pc := 40) (tgt := 1671) dL_law_40 (by decide) (fun c40 => ?_) (fun c40 => absurd (nI_le (a := 48) (b := t0) (by omega) (by omega)) c40)
    have c40 : 48 ≤ t0 := (nI_leI (a := 48) (b := t0) (by omega) (by omega)).mp c40
    refine v_iconst (pc := 1671) (v := 1) dL_law_1671 rfl ?_
    refine v_iret (pc := 1672) rfl rfl (Nat.le_of_ble_eq_true rfl) dL_law_1672 ?_
    exact rfl
  | succ m ih =>
    intro t0 a b f wa lr nd dg T N S C B O ch PC SF BF ps sc bc a2 b2 f2 wa2 lr2 nd2 dg2 T2 N2 S2 C2 B2 O2 ch2 PC2 SF2 BF2 ps2 sc2 hh2 MX H D hmt hB9 hI
    obtain ⟨hps, hsc, hbc⟩ := hI.1.1
    obtain ⟨hp1, hs14, hb8⟩ := hB9
    have hs1 : 1 ≤ sc := hs14.1
    refine v_iload (pc := 36) dL_law_36 rfl ?_
    refine v_bipush (pc := 38) (v := 48) dL_law_38 rfl ?_
    refine v_icmp_ge (pc := 40) (tgt := 1671) dL_law_40 (by decide) (fun c40 => absurd c40 (nI_ge (a := t0) (b := 48) (by omega) (by omega))) (fun c40 => ?_)
    have c40 : ¬ 48 ≤ t0 := fun h => c40 ((nI_leI (a := 48) (b := t0) (by omega) (by omega)).mpr h)
    refine v_aload_nR (pc := 43) dL_law_43 rfl rfl ?_
    refine v_iload (pc := 44) dL_law_44 rfl ?_
    refine v_bipush (pc := 46) (v := 16) dL_law_46 rfl ?_
    refine v_irem (pc := 48) dL_law_48 (by decide) ?_
    rw [show nI t0 - nI t0 / 16 * 16 = nI (t0 % 16) from pk_rem (d := 16) (by omega) (by decide) (by decide)]
    refine v_callS2 (pc := 49) (c_L_cell hL31 (k := (t0 % 16)) (by omega)) cm_L_cell q622 q623 [] (by rfl) (by decide) (fun _ _ h => h) (by omega) (by omega) (by decide) (Nat.le_of_ble_eq_true rfl) dL_law_49 (fun v49 M49 hQ49 => ?_)
    obtain ⟨r49, rfl, rfl⟩ := hQ49
    try dsimp only [wb, WH, tlS_0, tlS_1, tlS_2, tlS_3, tlS_4, tlS_5, tlS_6, tlS_7, tlS_8, tlC_0, tlC_1, tlC_2, tlC_3, LawM, LakeM, WaysM, WorldM, SimM, List.set_cons_succ, List.set_cons_zero, List.append_nil, List.nil_append, List.cons_append, Option.toList, Nat.sub_zero, List.take_succ_cons, List.take_zero]
    refine v_iload (pc := 52) dL_law_52 rfl ?_
    refine v_bipush (pc := 54) (v := 16) dL_law_54 rfl ?_
    refine v_idiv (pc := 56) dL_law_56 (by decide) ?_
    refine v_iconst (pc := 57) (v := 3) dL_law_57 rfl ?_
    refine v_imul (pc := 58) dL_law_58 ?_
    refine v_ishr (pc := 59) dL_law_59 ?_
    refine v_bipush (pc := 60) (v := 37) dL_law_60 rfl ?_
    refine v_iload (pc := 62) dL_law_62 rfl ?_
    refine v_imul (pc := 64) dL_law_64 ?_
    refine v_iadd (pc := 65) dL_law_65 ?_
    refine v_topi (fun x6 hx6 => ?_)
    refine v_istore (pc := 66) dL_law_66 (by show _ < 26; decide) rfl ?_
    refine v_aload_nR (pc := 68) dL_law_68 rfl rfl ?_
    refine v_aload_nR (pc := 69) dL_law_69 rfl rfl ?_
    refine v_iload (pc := 70) dL_law_70 rfl ?_
    refine v_callS3 (pc := 72) (c_L_act hps hsc hbc hs1 hp1 hI) cm_L_act q823 q824 [0, 1, 2, 3, 4, 5, 6, 7, 8, 9, 10, 11, 12, 13, 14, 15, 16, 17, 35, 36, 37, 38, 39, 40, 41, 42, 43, 44, 45, 46, 47] (by rfl) (by decide) (fun _ _ h => h) (by omega) (by omega) (by decide) (Nat.le_of_ble_eq_true rfl) dL_law_72 (fun v72 M72 hQ72 => ?_)
    obtain ⟨rfl, a1, b1, f1, wa1, lr1, nd1, dg1, N1, O1, SF1, BF1, H1, D1, hI1, rfl⟩ := hQ72
    try dsimp only [wb, WH, tlS_0, tlS_1, tlS_2, tlS_3, tlS_4, tlS_5, tlS_6, tlS_7, tlS_8, tlC_0, tlC_1, tlC_2, tlC_3, LawM, LakeM, WaysM, WorldM, SimM, List.set_cons_succ, List.set_cons_zero, List.append_nil, List.nil_append, List.cons_append, Option.toList, Nat.sub_zero, List.take_succ_cons, List.take_zero]
    refine v_if_ne (pc := 75) (tgt := 80) dL_law_75 (by decide) (fun c75 => ?_) (fun c75 => absurd c75 (by decide))
    refine v_sipush (pc := 80) (v := 160) dL_law_80 rfl ?_
    refine v_iconst (pc := 83) (v := 4) dL_law_83 rfl ?_
    refine v_newG (pc := 84) (N := 160) (K := 4) q852 q638 q60 (by decide) (by decide) (by decide) (by decide) (by omega) (by omega) (by omega) (by omega) dL_law_84 (fun z84 r84 => ?_)
    try dsimp only [wb, WH, tlS_0, tlS_1, tlS_2, tlS_3, tlS_4, tlS_5, tlS_6, tlS_7, tlS_8, tlC_0, tlC_1, tlC_2, tlC_3, LawM, LakeM, WaysM, WorldM, SimM, List.set_cons_succ, List.set_cons_zero, List.append_nil, List.nil_append, List.cons_append, Option.toList, Nat.sub_zero, List.take_succ_cons, List.take_zero]
    refine v_cgQ 48 (g := fun j => some (r84 j)) rfl (fun j hj => if_pos hj) ?_
    try dsimp only [wb, WH, tlS_0, tlS_1, tlS_2, tlS_3, tlS_4, tlS_5, tlS_6, tlS_7, tlS_8, tlC_0, tlC_1, tlC_2, tlC_3, LawM, LakeM, WaysM, WorldM, SimM, List.set_cons_succ, List.set_cons_zero, List.append_nil, List.nil_append, List.cons_append, Option.toList, Nat.sub_zero, List.take_succ_cons, List.take_zero]
    refine v_astoreR (pc := 88) dL_law_88 (by show _ < 26; decide) rfl ?_
    refine v_iconst (pc := 90) (v := 0) dL_law_90 rfl ?_
    refine v_istore (pc := 91) dL_law_91 (by show _ < 26; decide) rfl ?_
    refine v_room (ck' := 3000 * m + 1800 + 4 * 160) (sk' := 20000 * m + 12000 + 6 * 4 * 160) (by omega) (by omega) ?_
    refine v_sub (L' := [some (.ref G.2.2.2.1), some (.ref g0), some (.ref (v 0)), some (.int (nI sc)), some (.int (nI bc)), some (.int (nI t0)), some (.int x6), some (.ref z84), some (.int (nI 0)), none, none, none, none, none, none, none, none, none, none, none, none, none, none, none, none, none]) ⟨rfl, rfl, rfl, rfl, rfl, rfl, rfl, rfl, rfl, trivial⟩ ?_
    refine lw_ce hps hsc hbc (fun F7 h7 => ?_) 160 0 (by omega) _ upTo_0
    try dsimp only [wb, WH, tlS_0, tlS_1, tlS_2, tlS_3, tlS_4, tlS_5, tlS_6, tlS_7, tlS_8, tlC_0, tlC_1, tlC_2, tlC_3, LawM, LakeM, WaysM, WorldM, SimM, List.set_cons_succ, List.set_cons_zero, List.append_nil, List.nil_append, List.cons_append, Option.toList, Nat.sub_zero, List.take_succ_cons, List.take_zero]
    refine v_cgG 49 (t := tlC T N1 S C PC SF1 ps sc) rfl (fun i k hi hk => h7 i hi k hk) ?_
    try dsimp only [wb, WH, tlS_0, tlS_1, tlS_2, tlS_3, tlS_4, tlS_5, tlS_6, tlS_7, tlS_8, tlC_0, tlC_1, tlC_2, tlC_3, LawM, LakeM, WaysM, WorldM, SimM, List.set_cons_succ, List.set_cons_zero, List.append_nil, List.nil_append, List.cons_append, Option.toList, Nat.sub_zero, List.take_succ_cons, List.take_zero]
    refine v_iload_n (pc := 146) dL_law_146 rfl rfl ?_
    refine v_bipush (pc := 147) (v := 9) dL_law_147 rfl ?_
    refine v_newG (pc := 149) (N := sc) (K := 9) q852 q638 q60 (nI_pos (by omega)) (by decide) (nI_clamp (by omega)) (by decide) (by omega) (by omega) (by omega) (by omega) dL_law_149 (fun z149 r149 => ?_)
    try dsimp only [wb, WH, tlS_0, tlS_1, tlS_2, tlS_3, tlS_4, tlS_5, tlS_6, tlS_7, tlS_8, tlC_0, tlC_1, tlC_2, tlC_3, LawM, LakeM, WaysM, WorldM, SimM, List.set_cons_succ, List.set_cons_zero, List.append_nil, List.nil_append, List.cons_append, Option.toList, Nat.sub_zero, List.take_succ_cons, List.take_zero]
    refine v_cgQ 50 (g := fun j => some (r149 j)) rfl (fun j hj => if_pos hj) ?_
    try dsimp only [wb, WH, tlS_0, tlS_1, tlS_2, tlS_3, tlS_4, tlS_5, tlS_6, tlS_7, tlS_8, tlC_0, tlC_1, tlC_2, tlC_3, LawM, LakeM, WaysM, WorldM, SimM, List.set_cons_succ, List.set_cons_zero, List.append_nil, List.nil_append, List.cons_append, Option.toList, Nat.sub_zero, List.take_succ_cons, List.take_zero]
    refine v_astoreR (pc := 153) dL_law_153 (by show _ < 26; decide) rfl ?_
    refine v_iconst (pc := 155) (v := 0) dL_law_155 rfl ?_
    refine v_istore (pc := 156) dL_law_156 (by show _ < 26; decide) rfl ?_
    refine v_room (ck' := 3000 * m + 1700 + 9 * sc) (sk' := 20000 * m + 11000 + 6 * 9 * sc) (by omega) (by omega) ?_
    refine v_sub (L' := [some (.ref G.2.2.2.1), some (.ref g0), some (.ref (v 0)), some (.int (nI sc)), some (.int (nI bc)), some (.int (nI t0)), some (.int x6), some (.ref z84), some (.ref z149), some (.int (nI 0)), none, none, none, none, none, none, none, none, none, none, none, none, none, none, none, none]) ⟨rfl, rfl, rfl, rfl, rfl, rfl, rfl, rfl, rfl, rfl, trivial⟩ ?_
    refine lw_wa hps hsc hbc (fun F8 h8 => ?_) sc 0 (by omega) _ upTo_0
    try dsimp only [wb, WH, tlS_0, tlS_1, tlS_2, tlS_3, tlS_4, tlS_5, tlS_6, tlS_7, tlS_8, tlC_0, tlC_1, tlC_2, tlC_3, LawM, LakeM, WaysM, WorldM, SimM, List.set_cons_succ, List.set_cons_zero, List.append_nil, List.nil_append, List.cons_append, Option.toList, Nat.sub_zero, List.take_succ_cons, List.take_zero]
    refine v_cgG 51 (t := tlS SF1 BF1 bc) rfl (fun i k hi hk => h8 i hi k hk) ?_
    try dsimp only [wb, WH, tlS_0, tlS_1, tlS_2, tlS_3, tlS_4, tlS_5, tlS_6, tlS_7, tlS_8, tlC_0, tlC_1, tlC_2, tlC_3, LawM, LakeM, WaysM, WorldM, SimM, List.set_cons_succ, List.set_cons_zero, List.append_nil, List.nil_append, List.cons_append, Option.toList, Nat.sub_zero, List.take_succ_cons, List.take_zero]
    refine v_iload (pc := 202) dL_law_202 rfl ?_
    refine v_iconst (pc := 204) (v := 5) dL_law_204 rfl ?_
    refine v_newG (pc := 205) (N := bc) (K := 5) q852 q638 q60 (nI_pos (by omega)) (by decide) (nI_clamp (by omega)) (by decide) (by omega) (by omega) (by omega) (by omega) dL_law_205 (fun z205 r205 => ?_)
    try dsimp only [wb, WH, tlS_0, tlS_1, tlS_2, tlS_3, tlS_4, tlS_5, tlS_6, tlS_7, tlS_8, tlC_0, tlC_1, tlC_2, tlC_3, LawM, LakeM, WaysM, WorldM, SimM, List.set_cons_succ, List.set_cons_zero, List.append_nil, List.nil_append, List.cons_append, Option.toList, Nat.sub_zero, List.take_succ_cons, List.take_zero]
    refine v_cgQ 52 (g := fun j => some (r205 j)) rfl (fun j hj => if_pos hj) ?_
    try dsimp only [wb, WH, tlS_0, tlS_1, tlS_2, tlS_3, tlS_4, tlS_5, tlS_6, tlS_7, tlS_8, tlC_0, tlC_1, tlC_2, tlC_3, LawM, LakeM, WaysM, WorldM, SimM, List.set_cons_succ, List.set_cons_zero, List.append_nil, List.nil_append, List.cons_append, Option.toList, Nat.sub_zero, List.take_succ_cons, List.take_zero]
    refine v_astoreR (pc := 209) dL_law_209 (by show _ < 26; decide) rfl ?_
    refine v_iconst (pc := 211) (v := 0) dL_law_211 rfl ?_
    refine v_istore (pc := 212) dL_law_212 (by show _ < 26; decide) rfl ?_
    refine v_room (ck' := 3000 * m + 1600 + 5 * bc) (sk' := 20000 * m + 10000 + 6 * 5 * bc) (by omega) (by omega) ?_
    refine v_sub (L' := [some (.ref G.2.2.2.1), some (.ref g0), some (.ref (v 0)), some (.int (nI sc)), some (.int (nI bc)), some (.int (nI t0)), some (.int x6), some (.ref z84), some (.ref z149), some (.ref z205), some (.int (nI 0)), none, none, none, none, none, none, none, none, none, none, none, none, none, none, none]) ⟨rfl, rfl, rfl, rfl, rfl, rfl, rfl, rfl, rfl, rfl, rfl, trivial⟩ ?_
    refine lw_ba hps hsc hbc (fun F9 h9 => ?_) bc 0 (by omega) _ upTo_0
    try dsimp only [wb, WH, tlS_0, tlS_1, tlS_2, tlS_3, tlS_4, tlS_5, tlS_6, tlS_7, tlS_8, tlC_0, tlC_1, tlC_2, tlC_3, LawM, LakeM, WaysM, WorldM, SimM, List.set_cons_succ, List.set_cons_zero, List.append_nil, List.nil_append, List.cons_append, Option.toList, Nat.sub_zero, List.take_succ_cons, List.take_zero]
    refine v_cgG 53 (t := BF1) rfl (fun i k hi hk => h9 i hi k hk) ?_
    try dsimp only [wb, WH, tlS_0, tlS_1, tlS_2, tlS_3, tlS_4, tlS_5, tlS_6, tlS_7, tlS_8, tlC_0, tlC_1, tlC_2, tlC_3, LawM, LakeM, WaysM, WorldM, SimM, List.set_cons_succ, List.set_cons_zero, List.append_nil, List.nil_append, List.cons_append, Option.toList, Nat.sub_zero, List.take_succ_cons, List.take_zero]
    refine v_iload (pc := 258) dL_law_258 rfl ?_
    refine v_iload_n (pc := 260) dL_law_260 rfl rfl ?_
    refine v_callS2 (pc := 261) (c_L_below (n := sc) (by omega) (by omega)) cm_L_below q618 q619 [] (by rfl) (by decide) (fun _ _ h => h) (by omega) (by omega) (by decide) (Nat.le_of_ble_eq_true rfl) dL_law_261 (fun v261 M261 hQ261 => ?_)
    obtain ⟨r261, hr261, rfl, rfl⟩ := hQ261
    try dsimp only [wb, WH, tlS_0, tlS_1, tlS_2, tlS_3, tlS_4, tlS_5, tlS_6, tlS_7, tlS_8, tlC_0, tlC_1, tlC_2, tlC_3, LawM, LakeM, WaysM, WorldM, SimM, List.set_cons_succ, List.set_cons_zero, List.append_nil, List.nil_append, List.cons_append, Option.toList, Nat.sub_zero, List.take_succ_cons, List.take_zero]
    refine v_istore (pc := 264) dL_law_264 (by show _ < 26; decide) rfl ?_
    refine v_aload_nR (pc := 266) dL_law_266 rfl rfl ?_
    refine v_iload (pc := 267) dL_law_267 rfl ?_
    refine v_iconst (pc := 269) (v := 1) dL_law_269 rfl ?_
    refine v_callV2 (pc := 270) (c7_foresee (hh := t0) hps hsc hbc h5 hr261 hI1.1.2.1 hI1.1.2.2.2.1.1 hI1.1.2.2.2.1.2.2.2.2.2.1.2.1 (by omega)) cm_X5_foresee q550 q551 q552 (ci := 5) rfl rfl (orcO 0 rfl) [0, 1, 2, 3, 4, 5, 6, 7, 8, 9, 10, 11, 12, 13, 14, 15, 16, 17, 18, 19, 20, 21, 22, 23, 24, 25, 26, 27, 28, 29, 30, 31, 32, 33, 34] (by rfl) (by decide) (fun _ _ h => h) (by omega) (by omega) (by decide) (Nat.le_of_ble_eq_true rfl) dL_law_270 (fun v270 M270 hQ270 => ?_)
    obtain ⟨rfl, h2x, z2x, rfl⟩ := hQ270
    try dsimp only [wb, WH, tlS_0, tlS_1, tlS_2, tlS_3, tlS_4, tlS_5, tlS_6, tlS_7, tlS_8, tlC_0, tlC_1, tlC_2, tlC_3, LawM, LakeM, WaysM, WorldM, SimM, List.set_cons_succ, List.set_cons_zero, List.append_nil, List.nil_append, List.cons_append, Option.toList, Nat.sub_zero, List.take_succ_cons, List.take_zero]
    refine v_topi (fun sn hsn0 => ?_)
    refine v_istore (pc := 273) dL_law_273 (by show _ < 26; decide) rfl ?_
    refine v_aload_nR (pc := 275) dL_law_275 rfl rfl ?_
    refine v_iconst (pc := 276) (v := 1) dL_law_276 rfl ?_
    refine v_callV1 (pc := 277) (c7_pass (hh := t0) hps hsc hbc h5 (by omega) hI1.1.2.1 hI1.1.2.2.2.1.1 hI1.1.2.2.2.1.2.2.2.2.2.1.2.1) cm_X5_pass q367 q368 q369 (ci := 5) rfl rfl (orcO 0 rfl) [0, 1, 2, 3, 4, 5, 6, 7, 8, 9, 10, 11, 12, 13, 14, 15, 16, 17] (by rfl) (by decide) (fun _ _ h => h) (by omega) (by omega) (by decide) (Nat.le_of_ble_eq_true rfl) dL_law_277 (fun v277 M277 hQ277 => ?_)
    obtain ⟨rfl, rfl⟩ := hQ277
    try dsimp only [wb, WH, tlS_0, tlS_1, tlS_2, tlS_3, tlS_4, tlS_5, tlS_6, tlS_7, tlS_8, tlC_0, tlC_1, tlC_2, tlC_3, LawM, LakeM, WaysM, WorldM, SimM, List.set_cons_succ, List.set_cons_zero, List.append_nil, List.nil_append, List.cons_append, Option.toList, Nat.sub_zero, List.take_succ_cons, List.take_zero]
    refine v_topi (fun cm hcm => ?_)
    refine v_istore (pc := 280) dL_law_280 (by show _ < 26; decide) rfl ?_
    refine v_aload_nR (pc := 282) dL_law_282 rfl rfl ?_
    refine v_get (pc := 283) 5 35 fg_L_43 rfl rfl dL_law_283 ?_
    refine v_iload (pc := 286) dL_law_286 rfl ?_
    refine v_bipush (pc := 288) (v := 24) dL_law_288 rfl ?_
    refine v_idiv (pc := 290) dL_law_290 (by decide) ?_
    rw [show nI t0 / 24 = nI (t0 / 24) from pk_div (d := 24) (by omega) (by decide) (by decide)]
    refine v_bipush (pc := 291) (v := 8) dL_law_291 rfl ?_
    refine v_irem (pc := 293) dL_law_293 (by decide) ?_
    rw [show nI (t0 / 24) - nI (t0 / 24) / 8 * 8 = nI (t0 / 24 % 8) from pk_rem (d := 8) (by omega) (by decide) (by decide)]
    refine v_ialdN (pc := 294) 40 (k := (t0 / 24 % 8)) rfl (by omega) (by omega) dL_law_294 ?_
    refine v_istore (pc := 295) dL_law_295 (by show _ < 26; decide) rfl ?_
    refine v_aload_nR (pc := 297) dL_law_297 rfl rfl ?_
    refine v_callV0 (pc := 298) (c_X6_pass (hh := t0) hps hsc hbc h5 (l5 := .ref (w 5)) (Bk := B) (qs := (a1, b1, f1, wa1)) (lr := lr1) (nd := nd1) (dg := dg1) (ch := ch) (B := 2000 + 10 * t0) (by omega) (by omega) hI1.1.2.1 hI1.1.2.2.1.1 hI1.1.2.2.1.2 hI1.1.2.2.2.1 hI1.2.1 hI1.2.2.1) cm_X6_pass q577 q578 q579 (ci := 6) rfl rfl (orcO 35 rfl) [35, 36, 37, 38, 39, 40, 41, 42, 43, 44, 45, 46, 47] (by rfl) (by decide) (fun _ _ h => h) (by omega) (by omega) (by decide) (Nat.le_of_ble_eq_true rfl) dL_law_298 (fun v298 M298 hQ298 => ?_)
    obtain ⟨rfl, MX2, H2, D2, rfl, hI2, hJ2, hS2⟩ := hQ298
    try dsimp only [wb, WH, tlS_0, tlS_1, tlS_2, tlS_3, tlS_4, tlS_5, tlS_6, tlS_7, tlS_8, tlC_0, tlC_1, tlC_2, tlC_3, LawM, LakeM, WaysM, WorldM, SimM, List.set_cons_succ, List.set_cons_zero, List.append_nil, List.nil_append, List.cons_append, Option.toList, Nat.sub_zero, List.take_succ_cons, List.take_zero]
    have hF0 := hour_f (n5 := n5) (l5 := .ref (w 5)) (x := (SF1, BF1, T, B, (a1, b1, f1, wa1), lr1, nd1, dg1, S, C, ch)) h5 (by omega) (by omega) hI1 hI2 hJ2 hS2
    have hsn : sn = foV r261 (hrW n5 (.ref (w 5)) N1 O1 PC ps sc bc t0 (SF1, BF1, T, B, (a1, b1, f1, wa1), lr1, nd1, dg1, S, C, ch)) := hsn0.trans (fo_f h5 hr261 hsc (fun k hk => cpN_at hr261 hk) rfl rfl rfl)
    clear hI2 hJ2 hS2
    generalize hrW n5 (.ref (w 5)) N1 O1 PC ps sc bc t0 (SF1, BF1, T, B, (a1, b1, f1, wa1), lr1, nd1, dg1, S, C, ch) = W at hF0 hsn ⊢
    obtain ⟨SE, BE, TE, BkE, ⟨aE, bE, fE, waE⟩, lrE, ndE, dgE, SSE, CE, chE⟩ := W
    obtain ⟨⟨fS, fB, fN, fC, fK⟩, hLI⟩ := hF0
    try dsimp only [wb, WH, tlS_0, tlS_1, tlS_2, tlS_3, tlS_4, tlS_5, tlS_6, tlS_7, tlS_8, tlC_0, tlC_1, tlC_2, tlC_3, LawM, LakeM, WaysM, WorldM, SimM, List.set_cons_succ, List.set_cons_zero, List.append_nil, List.nil_append, List.cons_append, Option.toList, Nat.sub_zero, List.take_succ_cons, List.take_zero]
    refine v_pop (pc := 301) dL_law_301 rfl ?_
    refine v_iload (pc := 302) dL_law_302 rfl ?_
    refine v_bipush (pc := 304) (v := 24) dL_law_304 rfl ?_
    refine v_irem (pc := 306) dL_law_306 (by decide) ?_
    rw [show nI t0 - nI t0 / 24 * 24 = nI (t0 % 24) from pk_rem (d := 24) (by omega) (by decide) (by decide)]
    refine v_if_ne (pc := 307) (tgt := 314) dL_law_307 (by decide) (fun c307 => ?_) (fun c307 => ?_)
    · have c307 : ¬ (t0 % 24) = 0 := fun h => c307 ((nI_eq (a := (t0 % 24)) (b := 0) (by omega) (by omega)).mpr h)
      refine v_iconst (pc := 314) (v := 0) dL_law_314 rfl ?_
      refine v_istore (pc := 315) dL_law_315 (by show _ < 26; decide) rfl ?_
      refine v_sipush (pc := 317) (v := 160) dL_law_317 rfl ?_
      refine v_newa (pc := 320) (atype := .int) 0 (N := 160) (a0 := .inl (fun _ => 0)) q60 rfl (fun _ => rfl) (fun _ h => by cases h) (fun _ => rfl) (by decide) (by decide) (by decide) (by omega) (by omega) dL_law_320 (fun z320 => ?_)
      try dsimp only [wb, WH, tlS_0, tlS_1, tlS_2, tlS_3, tlS_4, tlS_5, tlS_6, tlS_7, tlS_8, tlC_0, tlC_1, tlC_2, tlC_3, LawM, LakeM, WaysM, WorldM, SimM, List.set_cons_succ, List.set_cons_zero, List.append_nil, List.nil_append, List.cons_append, Option.toList, Nat.sub_zero, List.take_succ_cons, List.take_zero]
      refine v_astoreR (pc := 322) dL_law_322 (by show _ < 26; decide) rfl ?_
      refine v_iconst (pc := 324) (v := 0) dL_law_324 rfl ?_
      refine v_istore (pc := 325) dL_law_325 (by show _ < 26; decide) rfl ?_
      refine v_iconst (pc := 327) (v := 0) dL_law_327 rfl ?_
      refine v_istore (pc := 328) dL_law_328 (by show _ < 26; decide) rfl ?_
      refine v_room (ck' := 3000 * m + 1400 + 20 * sc) (sk' := 20000 * m + 8000 + 120 * sc) (by omega) (by omega) ?_
      refine v_sub (L' := [some (.ref G.2.2.2.1), some (.ref g0), some (.ref (v 0)), some (.int (nI sc)), some (.int (nI bc)), some (.int (nI t0)), none, some (.ref z84), some (.ref z149), some (.ref z205), some (.int (nI r261)), some (.int sn), some (.int cm), some (.int (O1 (t0 / 24 % 8))), some (.int 0), some (.ref z320), some (.int 0), some (.int (nI 0)), none, none, none, none, none, none, none, none]) ⟨rfl, rfl, rfl, rfl, rfl, rfl, rfl, rfl, rfl, rfl, rfl, rfl, rfl, rfl, rfl, rfl, rfl, trivial⟩ ?_
      refine lw_sl (ch0 := ch) (MX0 := MX) hps hsc hbc hLI hI1 fS fK hsn hr261 (fun LF hL => ?_) sc 0 (by omega) _ (fun _ _ => rfl)
      try dsimp only [wb, WH, tlS_0, tlS_1, tlS_2, tlS_3, tlS_4, tlS_5, tlS_6, tlS_7, tlS_8, tlC_0, tlC_1, tlC_2, tlC_3, LawM, LakeM, WaysM, WorldM, SimM, List.set_cons_succ, List.set_cons_zero, List.append_nil, List.nil_append, List.cons_append, Option.toList, Nat.sub_zero, List.take_succ_cons, List.take_zero]
      refine v_iconst (pc := 891) (v := 0) dL_law_891 rfl ?_
      refine v_istore (pc := 892) dL_law_892 (by show _ < 26; decide) rfl ?_
      refine v_room (ck' := 3000 * m + 1200 + 12 * bc) (sk' := 20000 * m + 7000 + 72 * bc) (by omega) (by omega) ?_
      refine v_sub (L' := [some (.ref G.2.2.2.1), some (.ref g0), some (.ref (v 0)), some (.int (nI sc)), some (.int (nI bc)), some (.int (nI t0)), none, some (.ref z84), some (.ref z149), some (.ref z205), none, none, some (.int cm), some (.int (O1 (t0 / 24 % 8))), some (.int 0), some (.ref z320), some (.int (sumN (cmF BF1 BE bc) 0)), some (.int (nI 0)), none, none, none, none, none, none, none, none]) ⟨rfl, rfl, rfl, rfl, rfl, rfl, rfl, rfl, rfl, rfl, rfl, rfl, rfl, rfl, rfl, trivial⟩ ?_
      refine lw_bg (ch0 := 0) (MX0 := fun _ => 0) (B1 := 0) (wo := 0) (sn := 0) hps hsc hbc hLI fB ?_ bc 0 (by omega)
      try dsimp only [wb, WH, tlS_0, tlS_1, tlS_2, tlS_3, tlS_4, tlS_5, tlS_6, tlS_7, tlS_8, tlC_0, tlC_1, tlC_2, tlC_3, LawM, LakeM, WaysM, WorldM, SimM, List.set_cons_succ, List.set_cons_zero, List.append_nil, List.nil_append, List.cons_append, Option.toList, Nat.sub_zero, List.take_succ_cons, List.take_zero]
      refine v_iload (pc := 1200) dL_law_1200 rfl ?_
      refine v_iload (pc := 1202) dL_law_1202 rfl ?_
      refine v_icmp_eq (pc := 1204) (tgt := 1209) dL_law_1204 (by decide) (fun c1204 => ?_) (fun c1204 => absurd (by rw [hcm]; exact fN.symm) c1204)
      refine v_iconst (pc := 1209) (v := 0) dL_law_1209 rfl ?_
      refine v_istore (pc := 1210) dL_law_1210 (by show _ < 26; decide) rfl ?_
      refine v_iconst (pc := 1212) (v := 0) dL_law_1212 rfl ?_
      refine v_istore (pc := 1213) dL_law_1213 (by show _ < 26; decide) rfl ?_
      refine v_room (ck' := 3000 * m + 500 + 4 * 160) (sk' := 20000 * m + 2500 + 24 * 160) (by omega) (by omega) ?_
      refine v_sub (L' := [some (.ref G.2.2.2.1), some (.ref g0), some (.ref (v 0)), some (.int (nI sc)), some (.int (nI bc)), some (.int (nI t0)), none, some (.ref z84), some (.ref z149), some (.ref z205), none, none, some (.int cm), some (.int (O1 (t0 / 24 % 8))), some (.int 0), some (.ref z320), some (.int (sumN (cmF BF1 BE bc) bc)), some (.int (sumN (fun j => bI (¬ CE j = 0)) 0)), some (.int (nI 0)), none, none, none, none, none, none, none]) ⟨rfl, rfl, rfl, rfl, rfl, rfl, rfl, rfl, rfl, rfl, rfl, rfl, rfl, rfl, rfl, rfl, trivial⟩ ?_
      refine lw_cl (ch0 := 0) (MX0 := fun _ => 0) (B0 := 0) (B1 := 0) (wo := 0) (sn := 0) hps hsc hbc hI1.2.2.1 fC hL (fun q => absurd rfl q) (fun _ => c307) ?_ 160 0 (by omega)
      try dsimp only [wb, WH, tlS_0, tlS_1, tlS_2, tlS_3, tlS_4, tlS_5, tlS_6, tlS_7, tlS_8, tlC_0, tlC_1, tlC_2, tlC_3, LawM, LakeM, WaysM, WorldM, SimM, List.set_cons_succ, List.set_cons_zero, List.append_nil, List.nil_append, List.cons_append, Option.toList, Nat.sub_zero, List.take_succ_cons, List.take_zero]
      have e7 : sumN (fun j => if CE j = 0 then (0 : Int32) else 1) 160 = sumN (fun j => bI (¬ CE j = 0)) 160 := sum_cong 160 (fun j _ => by by_cases h : CE j = 0 <;> simp [bI, h])
      refine v_aload_nR (pc := 1640) dL_law_1640 rfl rfl ?_
      refine v_bipush (pc := 1641) (v := 7) dL_law_1641 rfl ?_
      refine v_callV1 (pc := 1643) (c7_count hps hsc hbc (q := 7) (by decide)) cm_X5_count q525 q526 q527 (ci := 5) rfl rfl (orcO 0 rfl) [0, 1, 2, 3, 4, 5, 6, 7, 8, 9, 10, 11, 12, 13, 14, 15, 16, 17] (by rfl) (by decide) (fun _ _ h => h) (by omega) (by omega) (by decide) (Nat.le_of_ble_eq_true rfl) dL_law_1643 (fun v1643 M1643 hQ1643 => ?_)
      obtain ⟨rfl, rfl⟩ := hQ1643
      try dsimp only [wb, WH, tlS_0, tlS_1, tlS_2, tlS_3, tlS_4, tlS_5, tlS_6, tlS_7, tlS_8, tlC_0, tlC_1, tlC_2, tlC_3, LawM, LakeM, WaysM, WorldM, SimM, List.set_cons_succ, List.set_cons_zero, List.append_nil, List.nil_append, List.cons_append, Option.toList, Nat.sub_zero, List.take_succ_cons, List.take_zero]
      refine v_iload (pc := 1646) dL_law_1646 rfl ?_
      refine v_icmp_ne (pc := 1648) (tgt := 1663) dL_law_1648 (by decide) (fun c1648 => absurd e7 c1648) (fun c1648 => ?_)
      refine v_aload_nR (pc := 1651) dL_law_1651 rfl rfl ?_
      refine v_iconst (pc := 1652) (v := 0) dL_law_1652 rfl ?_
      refine v_callV1 (pc := 1653) (c7_count hps hsc hbc (q := 0) (by decide)) cm_X5_count q525 q526 q527 (ci := 5) rfl rfl (orcO 0 rfl) [0, 1, 2, 3, 4, 5, 6, 7, 8, 9, 10, 11, 12, 13, 14, 15, 16, 17] (by rfl) (by decide) (fun _ _ h => h) (by omega) (by omega) (by decide) (Nat.le_of_ble_eq_true rfl) dL_law_1653 (fun v1653 M1653 hQ1653 => ?_)
      obtain ⟨rfl, rfl⟩ := hQ1653
      try dsimp only [wb, WH, tlS_0, tlS_1, tlS_2, tlS_3, tlS_4, tlS_5, tlS_6, tlS_7, tlS_8, tlC_0, tlC_1, tlC_2, tlC_3, LawM, LakeM, WaysM, WorldM, SimM, List.set_cons_succ, List.set_cons_zero, List.append_nil, List.nil_append, List.cons_append, Option.toList, Nat.sub_zero, List.take_succ_cons, List.take_zero]
      refine v_iload (pc := 1656) dL_law_1656 rfl ?_
      refine v_iconst (pc := 1658) (v := 1) dL_law_1658 rfl ?_
      refine v_iadd (pc := 1659) dL_law_1659 ?_
      rw [show nI t0 + 1 = nI (t0 + 1) from nI_add t0 1]
      refine v_icmp_eq (pc := 1660) (tgt := 1665) dL_law_1660 (by decide) (fun c1660 => ?_) (fun c1660 => absurd rfl c1660)
      refine v_iinc (pc := 1665) (v := nI (t0 + 1)) dL_law_1665 rfl (nI_1 _) (by show _ < 26; decide) rfl ?_
      refine v_goto (pc := 1668) (tgt := 36) dL_law_1668 (by decide) ?_
      refine v_take 48 ?_
      try dsimp only [wb, WH, tlS_0, tlS_1, tlS_2, tlS_3, tlS_4, tlS_5, tlS_6, tlS_7, tlS_8, tlC_0, tlC_1, tlC_2, tlC_3, LawM, LakeM, WaysM, WorldM, SimM, List.set_cons_succ, List.set_cons_zero, List.append_nil, List.nil_append, List.cons_append, Option.toList, Nat.sub_zero, List.take_succ_cons, List.take_zero]
      refine v_room (ck' := 3000 * m) (sk' := 20000 * m) (by omega) (by omega) ?_
      have k9 := ih (t0 + 1) aE bE fE waE lrE ndE dgE TE N1 SSE CE BkE O1 chE PC SE BE ps sc bc z2x.2.2.2.2.1.1 z2x.2.2.2.2.1.2.1 z2x.2.2.2.2.1.2.2.1 z2x.2.2.2.2.1.2.2.2 z2x.2.2.2.2.2.1 z2x.2.2.2.2.2.2.1 z2x.2.2.2.2.2.2.2.1 z2x.2.2.1 N1 z2x.2.2.2.2.2.2.2.2.1 z2x.2.2.2.2.2.2.2.2.2.1 z2x.2.2.2.1 O1 z2x.2.2.2.2.2.2.2.2.2.2 PC z2x.1 z2x.2.1 ps sc h2x MX2 H2 D2 (by omega) ⟨hp1, hs14, hb8⟩ (hLI.more (by omega))
      refine v_sub ?_ k9
      exact ⟨rfl, rfl, rfl, rfl, rfl, rfl, trivial⟩
    · have c307 : (t0 % 24) = 0 := (nI_eq (a := (t0 % 24)) (b := 0) (by omega) (by omega)).mp c307
      refine v_iconst (pc := 310) (v := 1) dL_law_310 rfl ?_
      refine v_goto (pc := 311) (tgt := 315) dL_law_311 (by decide) ?_
      refine v_istore (pc := 315) dL_law_315 (by show _ < 26; decide) rfl ?_
      refine v_sipush (pc := 317) (v := 160) dL_law_317 rfl ?_
      refine v_newa (pc := 320) (atype := .int) 0 (N := 160) (a0 := .inl (fun _ => 0)) q60 rfl (fun _ => rfl) (fun _ h => by cases h) (fun _ => rfl) (by decide) (by decide) (by decide) (by omega) (by omega) dL_law_320 (fun z320 => ?_)
      try dsimp only [wb, WH, tlS_0, tlS_1, tlS_2, tlS_3, tlS_4, tlS_5, tlS_6, tlS_7, tlS_8, tlC_0, tlC_1, tlC_2, tlC_3, LawM, LakeM, WaysM, WorldM, SimM, List.set_cons_succ, List.set_cons_zero, List.append_nil, List.nil_append, List.cons_append, Option.toList, Nat.sub_zero, List.take_succ_cons, List.take_zero]
      refine v_astoreR (pc := 322) dL_law_322 (by show _ < 26; decide) rfl ?_
      refine v_iconst (pc := 324) (v := 0) dL_law_324 rfl ?_
      refine v_istore (pc := 325) dL_law_325 (by show _ < 26; decide) rfl ?_
      refine v_iconst (pc := 327) (v := 0) dL_law_327 rfl ?_
      refine v_istore (pc := 328) dL_law_328 (by show _ < 26; decide) rfl ?_
      refine v_room (ck' := 3000 * m + 1400 + 20 * sc) (sk' := 20000 * m + 8000 + 120 * sc) (by omega) (by omega) ?_
      refine v_sub (L' := [some (.ref G.2.2.2.1), some (.ref g0), some (.ref (v 0)), some (.int (nI sc)), some (.int (nI bc)), some (.int (nI t0)), none, some (.ref z84), some (.ref z149), some (.ref z205), some (.int (nI r261)), some (.int sn), some (.int cm), some (.int (O1 (t0 / 24 % 8))), some (.int 1), some (.ref z320), some (.int 0), some (.int (nI 0)), none, none, none, none, none, none, none, none]) ⟨rfl, rfl, rfl, rfl, rfl, rfl, rfl, rfl, rfl, rfl, rfl, rfl, rfl, rfl, rfl, rfl, rfl, trivial⟩ ?_
      refine lw_sl (ch0 := ch) (MX0 := MX) hps hsc hbc hLI hI1 fS fK hsn hr261 (fun LF hL => ?_) sc 0 (by omega) _ (fun _ _ => rfl)
      try dsimp only [wb, WH, tlS_0, tlS_1, tlS_2, tlS_3, tlS_4, tlS_5, tlS_6, tlS_7, tlS_8, tlC_0, tlC_1, tlC_2, tlC_3, LawM, LakeM, WaysM, WorldM, SimM, List.set_cons_succ, List.set_cons_zero, List.append_nil, List.nil_append, List.cons_append, Option.toList, Nat.sub_zero, List.take_succ_cons, List.take_zero]
      refine v_iconst (pc := 891) (v := 0) dL_law_891 rfl ?_
      refine v_istore (pc := 892) dL_law_892 (by show _ < 26; decide) rfl ?_
      refine v_room (ck' := 3000 * m + 1200 + 12 * bc) (sk' := 20000 * m + 7000 + 72 * bc) (by omega) (by omega) ?_
      refine v_sub (L' := [some (.ref G.2.2.2.1), some (.ref g0), some (.ref (v 0)), some (.int (nI sc)), some (.int (nI bc)), some (.int (nI t0)), none, some (.ref z84), some (.ref z149), some (.ref z205), none, none, some (.int cm), some (.int (O1 (t0 / 24 % 8))), some (.int 1), some (.ref z320), some (.int (sumN (cmF BF1 BE bc) 0)), some (.int (nI 0)), none, none, none, none, none, none, none, none]) ⟨rfl, rfl, rfl, rfl, rfl, rfl, rfl, rfl, rfl, rfl, rfl, rfl, rfl, rfl, rfl, trivial⟩ ?_
      refine lw_bg (ch0 := 0) (MX0 := fun _ => 0) (B1 := 0) (wo := 0) (sn := 0) hps hsc hbc hLI fB ?_ bc 0 (by omega)
      try dsimp only [wb, WH, tlS_0, tlS_1, tlS_2, tlS_3, tlS_4, tlS_5, tlS_6, tlS_7, tlS_8, tlC_0, tlC_1, tlC_2, tlC_3, LawM, LakeM, WaysM, WorldM, SimM, List.set_cons_succ, List.set_cons_zero, List.append_nil, List.nil_append, List.cons_append, Option.toList, Nat.sub_zero, List.take_succ_cons, List.take_zero]
      refine v_iload (pc := 1200) dL_law_1200 rfl ?_
      refine v_iload (pc := 1202) dL_law_1202 rfl ?_
      refine v_icmp_eq (pc := 1204) (tgt := 1209) dL_law_1204 (by decide) (fun c1204 => ?_) (fun c1204 => absurd (by rw [hcm]; exact fN.symm) c1204)
      refine v_iconst (pc := 1209) (v := 0) dL_law_1209 rfl ?_
      refine v_istore (pc := 1210) dL_law_1210 (by show _ < 26; decide) rfl ?_
      refine v_iconst (pc := 1212) (v := 0) dL_law_1212 rfl ?_
      refine v_istore (pc := 1213) dL_law_1213 (by show _ < 26; decide) rfl ?_
      refine v_room (ck' := 3000 * m + 500 + 4 * 160) (sk' := 20000 * m + 2500 + 24 * 160) (by omega) (by omega) ?_
      refine v_sub (L' := [some (.ref G.2.2.2.1), some (.ref g0), some (.ref (v 0)), some (.int (nI sc)), some (.int (nI bc)), some (.int (nI t0)), none, some (.ref z84), some (.ref z149), some (.ref z205), none, none, some (.int cm), some (.int (O1 (t0 / 24 % 8))), some (.int 1), some (.ref z320), some (.int (sumN (cmF BF1 BE bc) bc)), some (.int (sumN (fun j => bI (¬ CE j = 0)) 0)), some (.int (nI 0)), none, none, none, none, none, none, none]) ⟨rfl, rfl, rfl, rfl, rfl, rfl, rfl, rfl, rfl, rfl, rfl, rfl, rfl, rfl, rfl, rfl, trivial⟩ ?_
      refine lw_cl (ch0 := 0) (MX0 := fun _ => 0) (B0 := 0) (B1 := 0) (wo := 0) (sn := 0) hps hsc hbc hI1.2.2.1 fC hL (fun _ => c307) (fun q => absurd q (by decide)) ?_ 160 0 (by omega)
      try dsimp only [wb, WH, tlS_0, tlS_1, tlS_2, tlS_3, tlS_4, tlS_5, tlS_6, tlS_7, tlS_8, tlC_0, tlC_1, tlC_2, tlC_3, LawM, LakeM, WaysM, WorldM, SimM, List.set_cons_succ, List.set_cons_zero, List.append_nil, List.nil_append, List.cons_append, Option.toList, Nat.sub_zero, List.take_succ_cons, List.take_zero]
      have e7 : sumN (fun j => if CE j = 0 then (0 : Int32) else 1) 160 = sumN (fun j => bI (¬ CE j = 0)) 160 := sum_cong 160 (fun j _ => by by_cases h : CE j = 0 <;> simp [bI, h])
      refine v_aload_nR (pc := 1640) dL_law_1640 rfl rfl ?_
      refine v_bipush (pc := 1641) (v := 7) dL_law_1641 rfl ?_
      refine v_callV1 (pc := 1643) (c7_count hps hsc hbc (q := 7) (by decide)) cm_X5_count q525 q526 q527 (ci := 5) rfl rfl (orcO 0 rfl) [0, 1, 2, 3, 4, 5, 6, 7, 8, 9, 10, 11, 12, 13, 14, 15, 16, 17] (by rfl) (by decide) (fun _ _ h => h) (by omega) (by omega) (by decide) (Nat.le_of_ble_eq_true rfl) dL_law_1643 (fun v1643 M1643 hQ1643 => ?_)
      obtain ⟨rfl, rfl⟩ := hQ1643
      try dsimp only [wb, WH, tlS_0, tlS_1, tlS_2, tlS_3, tlS_4, tlS_5, tlS_6, tlS_7, tlS_8, tlC_0, tlC_1, tlC_2, tlC_3, LawM, LakeM, WaysM, WorldM, SimM, List.set_cons_succ, List.set_cons_zero, List.append_nil, List.nil_append, List.cons_append, Option.toList, Nat.sub_zero, List.take_succ_cons, List.take_zero]
      refine v_iload (pc := 1646) dL_law_1646 rfl ?_
      refine v_icmp_ne (pc := 1648) (tgt := 1663) dL_law_1648 (by decide) (fun c1648 => absurd e7 c1648) (fun c1648 => ?_)
      refine v_aload_nR (pc := 1651) dL_law_1651 rfl rfl ?_
      refine v_iconst (pc := 1652) (v := 0) dL_law_1652 rfl ?_
      refine v_callV1 (pc := 1653) (c7_count hps hsc hbc (q := 0) (by decide)) cm_X5_count q525 q526 q527 (ci := 5) rfl rfl (orcO 0 rfl) [0, 1, 2, 3, 4, 5, 6, 7, 8, 9, 10, 11, 12, 13, 14, 15, 16, 17] (by rfl) (by decide) (fun _ _ h => h) (by omega) (by omega) (by decide) (Nat.le_of_ble_eq_true rfl) dL_law_1653 (fun v1653 M1653 hQ1653 => ?_)
      obtain ⟨rfl, rfl⟩ := hQ1653
      try dsimp only [wb, WH, tlS_0, tlS_1, tlS_2, tlS_3, tlS_4, tlS_5, tlS_6, tlS_7, tlS_8, tlC_0, tlC_1, tlC_2, tlC_3, LawM, LakeM, WaysM, WorldM, SimM, List.set_cons_succ, List.set_cons_zero, List.append_nil, List.nil_append, List.cons_append, Option.toList, Nat.sub_zero, List.take_succ_cons, List.take_zero]
      refine v_iload (pc := 1656) dL_law_1656 rfl ?_
      refine v_iconst (pc := 1658) (v := 1) dL_law_1658 rfl ?_
      refine v_iadd (pc := 1659) dL_law_1659 ?_
      rw [show nI t0 + 1 = nI (t0 + 1) from nI_add t0 1]
      refine v_icmp_eq (pc := 1660) (tgt := 1665) dL_law_1660 (by decide) (fun c1660 => ?_) (fun c1660 => absurd rfl c1660)
      refine v_iinc (pc := 1665) (v := nI (t0 + 1)) dL_law_1665 rfl (nI_1 _) (by show _ < 26; decide) rfl ?_
      refine v_goto (pc := 1668) (tgt := 36) dL_law_1668 (by decide) ?_
      refine v_take 48 ?_
      try dsimp only [wb, WH, tlS_0, tlS_1, tlS_2, tlS_3, tlS_4, tlS_5, tlS_6, tlS_7, tlS_8, tlC_0, tlC_1, tlC_2, tlC_3, LawM, LakeM, WaysM, WorldM, SimM, List.set_cons_succ, List.set_cons_zero, List.append_nil, List.nil_append, List.cons_append, Option.toList, Nat.sub_zero, List.take_succ_cons, List.take_zero]
      refine v_room (ck' := 3000 * m) (sk' := 20000 * m) (by omega) (by omega) ?_
      have k9 := ih (t0 + 1) aE bE fE waE lrE ndE dgE TE N1 SSE CE BkE O1 chE PC SE BE ps sc bc z2x.2.2.2.2.1.1 z2x.2.2.2.2.1.2.1 z2x.2.2.2.2.1.2.2.1 z2x.2.2.2.2.1.2.2.2 z2x.2.2.2.2.2.1 z2x.2.2.2.2.2.2.1 z2x.2.2.2.2.2.2.2.1 z2x.2.2.1 N1 z2x.2.2.2.2.2.2.2.2.1 z2x.2.2.2.2.2.2.2.2.2.1 z2x.2.2.2.1 O1 z2x.2.2.2.2.2.2.2.2.2.2 PC z2x.1 z2x.2.1 ps sc h2x MX2 H2 D2 (by omega) ⟨hp1, hs14, hb8⟩ (hLI.more (by omega))
      refine v_sub ?_ k9
      exact ⟨rfl, rfl, rfl, rfl, rfl, rfl, trivial⟩
