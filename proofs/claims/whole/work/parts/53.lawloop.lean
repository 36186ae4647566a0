/-! the law's loop -/
set_option maxRecDepth 100000 in
set_option maxHeartbeats 4000000 in
theorem lw_loop {G : Cx} {sz : Nat} {g0 y0 : Nat} {w u z : Nat → Nat} {nm : String} {hd9 : List (Nat × Nat × Nat × Nat)} {n5 : Nat} (h5 : n5 = 5) (hL : G.2.2.2.2.2.1 ≤ 3072) (hL31 : G.2.2.2.2.2.1 < 2 ^ 31) : ∀ (m : Nat), ∀ (i k : Nat) (a b f : Nat → Int32) (wa : Int32) (lr : Value) (nd dg : Int32) (B : Nat → Int32) (T N S C O : Nat → Int32) (ch : Int32) (PC : Nat → Int32) (SF BF : Nat → Nat → Int32) (ps sc bc hh : Nat) (a2 b2 f2 : Nat → Int32) (wa2 : Int32) (lr2 : Value) (nd2 dg2 : Int32) (T2 N2 S2 C2 B2 O2 : Nat → Int32) (ch2 : Int32) (PC2 : Nat → Int32) (SF2 BF2 : Nat → Nat → Int32) (ps2 sc2 hh2 : Nat) (th : Int32) (MX H W : Nat → Int32) (o : Nat → Int64), G.2.2.2.2.2.1 < i + 6 * m + 6 → k + m ≤ 514 → i ≤ 6 * k → gI N O PC ps sc bc T C ch SF BF MX (2000 * k) → hh ≤ 200 * k → chB ch2 (2000 * k) → V G (YL nm hd9) (ZM G [] sz (fun v _ => v = some (.int 1)) noX) 10 (10 * m) (750 * m) 23 [some (.ref G.2.2.2.1), some (.ref g0), some (.ref (z 0)), some (.ref y0), some (.int (nI i)), none, none, none, none] [] (LawM g0 y0 w u z a b f wa lr nd dg B T N S C O ch PC SF BF ps sc bc hh a2 b2 f2 wa2 lr2 nd2 dg2 T2 N2 S2 C2 B2 O2 ch2 PC2 SF2 BF2 ps2 sc2 hh2 th MX H W o) := by
  intro m
  induction m with
  | zero =>
    intro i k a b f wa lr nd dg B T N S C O ch PC SF BF ps sc bc hh a2 b2 f2 wa2 lr2 nd2 dg2 T2 N2 S2 C2 B2 O2 ch2 PC2 SF2 BF2 ps2 sc2 hh2 th MX H W o h1 h2 h3 hG hhk hA2
    refine v_iload (pc := 23) dL_law_23 rfl ?_
    refine v_aload_nR (pc := 25) dL_law_25 rfl rfl ?_
    refine v_slen (pc := 26) dL_law_26 ?_
    refine v_bipush (pc := 27) (v := 6) dL_law_27 rfl ?_
    refine v_isub (pc := 29) dL_law_29 ?_
    refine v_icmp_gt (pc := 30) (tgt := 1409) dL_law_30 (by decide) (fun c30 => ?_) (fun c30 => ?_)
    · refine v_iconst (pc := 1409) (v := 1) dL_law_1409 rfl ?_
      refine v_iret (pc := 1410) rfl rfl (Nat.le_of_ble_eq_true rfl) dL_law_1410 ?_
      exact rfl
    · have hi : i + 6 ≤ G.2.2.2.2.2.1 := Classical.byContradiction fun q9 => c30 (i_lt.mpr (by rw [show (Int32.ofNat G.2.2.2.2.2.1 - 6).toInt = (G.2.2.2.2.2.1 : Int) - 6 from pk_sub_toInt (a := G.2.2.2.2.2.1) (b := 6) (by omega) (by omega), nI_toInt (by omega)]; omega))
      exact absurd hi (by omega)
  | succ m ih =>
    intro i k a b f wa lr nd dg B T N S C O ch PC SF BF ps sc bc hh a2 b2 f2 wa2 lr2 nd2 dg2 T2 N2 S2 C2 B2 O2 ch2 PC2 SF2 BF2 ps2 sc2 hh2 th MX H W o h1 h2 h3 hG hhk hA2
    have K : ∀ (a b f : Nat → Int32) (wa : Int32) (lr : Value) (nd dg : Int32) (B : Nat → Int32) (T N S C O : Nat → Int32) (ch : Int32) (PC : Nat → Int32) (SF BF : Nat → Nat → Int32) (ps sc bc hh : Nat) (a2 b2 f2 : Nat → Int32) (wa2 : Int32) (lr2 : Value) (nd2 dg2 : Int32) (T2 N2 S2 C2 B2 O2 : Nat → Int32) (ch2 : Int32) (PC2 : Nat → Int32) (SF2 BF2 : Nat → Nat → Int32) (ps2 sc2 hh2 : Nat) (th : Int32) (MX H W : Nat → Int32) (o : Nat → Int64), gI N O PC ps sc bc T C ch SF BF MX (2000 * (k + 1)) → hh ≤ 200 * (k + 1) → chB ch2 (2000 * (k + 1)) → V G (YL nm hd9) (ZM G [] sz (fun v _ => v = some (.int 1)) noX) 10 (10 * m) (750 * m) 1403 [some (.ref G.2.2.2.1), some (.ref g0), some (.ref (z 0)), some (.ref y0), some (.int (nI i)), none, none, none, none] [] (LawM g0 y0 w u z a b f wa lr nd dg B T N S C O ch PC SF BF ps sc bc hh a2 b2 f2 wa2 lr2 nd2 dg2 T2 N2 S2 C2 B2 O2 ch2 PC2 SF2 BF2 ps2 sc2 hh2 th MX H W o) := by
      intro a b f wa lr nd dg B T N S C O ch PC SF BF ps sc bc hh a2 b2 f2 wa2 lr2 nd2 dg2 T2 N2 S2 C2 B2 O2 ch2 PC2 SF2 BF2 ps2 sc2 hh2 th MX H W o hG2 hh9 hA9
      refine v_iinc (pc := 1403) (v := nI (i + 6)) dL_law_1403 rfl (nI_add i 6) (by show _ < 9; decide) rfl ?_
      refine v_goto (pc := 1406) (tgt := 23) dL_law_1406 (by decide) ?_
      exact ih (i + 6) (k + 1) a b f wa lr nd dg B T N S C O ch PC SF BF ps sc bc hh a2 b2 f2 wa2 lr2 nd2 dg2 T2 N2 S2 C2 B2 O2 ch2 PC2 SF2 BF2 ps2 sc2 hh2 th MX H W o (by omega) (by omega) (by omega) hG2 hh9 hA9
    clear ih
    refine v_iload (pc := 23) dL_law_23 rfl ?_
    refine v_aload_nR (pc := 25) dL_law_25 rfl rfl ?_
    refine v_slen (pc := 26) dL_law_26 ?_
    refine v_bipush (pc := 27) (v := 6) dL_law_27 rfl ?_
    refine v_isub (pc := 29) dL_law_29 ?_
    refine v_icmp_gt (pc := 30) (tgt := 1409) dL_law_30 (by decide) (fun c30 => ?_) (fun c30 => ?_)
    · refine v_iconst (pc := 1409) (v := 1) dL_law_1409 rfl ?_
      refine v_iret (pc := 1410) rfl rfl (Nat.le_of_ble_eq_true rfl) dL_law_1410 ?_
      exact rfl
    · have hi : i + 6 ≤ G.2.2.2.2.2.1 := Classical.byContradiction fun q9 => c30 (i_lt.mpr (by rw [show (Int32.ofNat G.2.2.2.2.2.1 - 6).toInt = (G.2.2.2.2.2.1 : Int) - 6 from pk_sub_toInt (a := G.2.2.2.2.2.1) (b := 6) (by omega) (by omega), nI_toInt (by omega)]; omega))
      refine v_aload_nR (pc := 33) dL_law_33 rfl rfl ?_
      refine v_iload (pc := 34) dL_law_34 rfl ?_
      refine v_sld (pc := 36) (k := i) (by omega) hL31 dL_law_36 ?_
      refine v_bipush (pc := 37) (v := 31) dL_law_37 rfl ?_
      refine v_iand (pc := 39) dL_law_39 ?_
      by_cases w40_0 : (G.2.2.2.2.2.2 i &&& 31) = nI 0
      · refine v_tsIn (pc := 40) (tgt := 132) dL_law_40 (sw_in (n := 18) w40_0 (by decide) (by decide)).1 (sw_in (n := 18) w40_0 (by decide) (by decide)).2.1 (off := 92) (by rw [(sw_in (n := 18) w40_0 (by decide) (by decide)).2.2]; rfl) (by decide) ?_
        exact lw_c0 h5 (by omega) hi hL31 hG hhk hA2 K
      by_cases w40_1 : (G.2.2.2.2.2.2 i &&& 31) = nI 1
      · refine v_tsIn (pc := 40) (tgt := 236) dL_law_40 (sw_in (n := 18) w40_1 (by decide) (by decide)).1 (sw_in (n := 18) w40_1 (by decide) (by decide)).2.1 (off := 196) (by rw [(sw_in (n := 18) w40_1 (by decide) (by decide)).2.2]; rfl) (by decide) ?_
        exact lw_c1 h5 (by omega) hi hL31 hG hhk hA2 K
      by_cases w40_2 : (G.2.2.2.2.2.2 i &&& 31) = nI 2
      · refine v_tsIn (pc := 40) (tgt := 316) dL_law_40 (sw_in (n := 18) w40_2 (by decide) (by decide)).1 (sw_in (n := 18) w40_2 (by decide) (by decide)).2.1 (off := 276) (by rw [(sw_in (n := 18) w40_2 (by decide) (by decide)).2.2]; rfl) (by decide) ?_
        exact lw_c2 h5 (by omega) hi hL31 hG hhk hA2 K
      by_cases w40_3 : (G.2.2.2.2.2.2 i &&& 31) = nI 3
      · refine v_tsIn (pc := 40) (tgt := 384) dL_law_40 (sw_in (n := 18) w40_3 (by decide) (by decide)).1 (sw_in (n := 18) w40_3 (by decide) (by decide)).2.1 (off := 344) (by rw [(sw_in (n := 18) w40_3 (by decide) (by decide)).2.2]; rfl) (by decide) ?_
        exact lw_c3 h5 (by omega) hi hL31 hG hhk hA2 K
      by_cases w40_4 : (G.2.2.2.2.2.2 i &&& 31) = nI 4
      · refine v_tsIn (pc := 40) (tgt := 464) dL_law_40 (sw_in (n := 18) w40_4 (by decide) (by decide)).1 (sw_in (n := 18) w40_4 (by decide) (by decide)).2.1 (off := 424) (by rw [(sw_in (n := 18) w40_4 (by decide) (by decide)).2.2]; rfl) (by decide) ?_
        exact lw_c4 h5 (by omega) hi hL31 hG hhk hA2 K
      by_cases w40_5 : (G.2.2.2.2.2.2 i &&& 31) = nI 5
      · refine v_tsIn (pc := 40) (tgt := 532) dL_law_40 (sw_in (n := 18) w40_5 (by decide) (by decide)).1 (sw_in (n := 18) w40_5 (by decide) (by decide)).2.1 (off := 492) (by rw [(sw_in (n := 18) w40_5 (by decide) (by decide)).2.2]; rfl) (by decide) ?_
        exact lw_c5 h5 (by omega) hi hL31 hG hhk hA2 K
      by_cases w40_6 : (G.2.2.2.2.2.2 i &&& 31) = nI 6
      · refine v_tsIn (pc := 40) (tgt := 600) dL_law_40 (sw_in (n := 18) w40_6 (by decide) (by decide)).1 (sw_in (n := 18) w40_6 (by decide) (by decide)).2.1 (off := 560) (by rw [(sw_in (n := 18) w40_6 (by decide) (by decide)).2.2]; rfl) (by decide) ?_
        exact lw_c6 h5 (by omega) hi hL31 hG hhk hA2 K
      by_cases w40_7 : (G.2.2.2.2.2.2 i &&& 31) = nI 7
      · refine v_tsIn (pc := 40) (tgt := 680) dL_law_40 (sw_in (n := 18) w40_7 (by decide) (by decide)).1 (sw_in (n := 18) w40_7 (by decide) (by decide)).2.1 (off := 640) (by rw [(sw_in (n := 18) w40_7 (by decide) (by decide)).2.2]; rfl) (by decide) ?_
        exact lw_c7 h5 (by omega) hi hL31 hG hhk hA2 K
      by_cases w40_8 : (G.2.2.2.2.2.2 i &&& 31) = nI 8
      · refine v_tsIn (pc := 40) (tgt := 748) dL_law_40 (sw_in (n := 18) w40_8 (by decide) (by decide)).1 (sw_in (n := 18) w40_8 (by decide) (by decide)).2.1 (off := 708) (by rw [(sw_in (n := 18) w40_8 (by decide) (by decide)).2.2]; rfl) (by decide) ?_
        exact lw_c8 h5 (by omega) hi hL31 hG hhk hA2 K
      by_cases w40_9 : (G.2.2.2.2.2.2 i &&& 31) = nI 9
      · refine v_tsIn (pc := 40) (tgt := 816) dL_law_40 (sw_in (n := 18) w40_9 (by decide) (by decide)).1 (sw_in (n := 18) w40_9 (by decide) (by decide)).2.1 (off := 776) (by rw [(sw_in (n := 18) w40_9 (by decide) (by decide)).2.2]; rfl) (by decide) ?_
        exact lw_c9 h5 (by omega) hi hL31 hG hhk hA2 K
      by_cases w40_10 : (G.2.2.2.2.2.2 i &&& 31) = nI 10
      · refine v_tsIn (pc := 40) (tgt := 884) dL_law_40 (sw_in (n := 18) w40_10 (by decide) (by decide)).1 (sw_in (n := 18) w40_10 (by decide) (by decide)).2.1 (off := 844) (by rw [(sw_in (n := 18) w40_10 (by decide) (by decide)).2.2]; rfl) (by decide) ?_
        exact lw_c10 h5 (by omega) hi hL31 hG hhk hA2 K
      by_cases w40_11 : (G.2.2.2.2.2.2 i &&& 31) = nI 11
      · refine v_tsIn (pc := 40) (tgt := 952) dL_law_40 (sw_in (n := 18) w40_11 (by decide) (by decide)).1 (sw_in (n := 18) w40_11 (by decide) (by decide)).2.1 (off := 912) (by rw [(sw_in (n := 18) w40_11 (by decide) (by decide)).2.2]; rfl) (by decide) ?_
        exact lw_c11 h5 (by omega) hi hL31 hG hhk hA2 K
      by_cases w40_12 : (G.2.2.2.2.2.2 i &&& 31) = nI 12
      · refine v_tsIn (pc := 40) (tgt := 1008) dL_law_40 (sw_in (n := 18) w40_12 (by decide) (by decide)).1 (sw_in (n := 18) w40_12 (by decide) (by decide)).2.1 (off := 968) (by rw [(sw_in (n := 18) w40_12 (by decide) (by decide)).2.2]; rfl) (by decide) ?_
        exact lw_c12 h5 (by omega) hi hL31 hG hhk hA2 K
      by_cases w40_13 : (G.2.2.2.2.2.2 i &&& 31) = nI 13
      · refine v_tsIn (pc := 40) (tgt := 1064) dL_law_40 (sw_in (n := 18) w40_13 (by decide) (by decide)).1 (sw_in (n := 18) w40_13 (by decide) (by decide)).2.1 (off := 1024) (by rw [(sw_in (n := 18) w40_13 (by decide) (by decide)).2.2]; rfl) (by decide) ?_
        exact lw_c13 h5 (by omega) hi hL31 hG hhk hA2 K
      by_cases w40_14 : (G.2.2.2.2.2.2 i &&& 31) = nI 14
      · refine v_tsIn (pc := 40) (tgt := 1156) dL_law_40 (sw_in (n := 18) w40_14 (by decide) (by decide)).1 (sw_in (n := 18) w40_14 (by decide) (by decide)).2.1 (off := 1116) (by rw [(sw_in (n := 18) w40_14 (by decide) (by decide)).2.2]; rfl) (by decide) ?_
        exact lw_c14 h5 (by omega) hi hL31 hG hhk hA2 K
      by_cases w40_15 : (G.2.2.2.2.2.2 i &&& 31) = nI 15
      · refine v_tsIn (pc := 40) (tgt := 1224) dL_law_40 (sw_in (n := 18) w40_15 (by decide) (by decide)).1 (sw_in (n := 18) w40_15 (by decide) (by decide)).2.1 (off := 1184) (by rw [(sw_in (n := 18) w40_15 (by decide) (by decide)).2.2]; rfl) (by decide) ?_
        exact lw_c15 h5 (by omega) hi hL31 hG hhk hA2 K
      by_cases w40_16 : (G.2.2.2.2.2.2 i &&& 31) = nI 16
      · refine v_tsIn (pc := 40) (tgt := 1292) dL_law_40 (sw_in (n := 18) w40_16 (by decide) (by decide)).1 (sw_in (n := 18) w40_16 (by decide) (by decide)).2.1 (off := 1252) (by rw [(sw_in (n := 18) w40_16 (by decide) (by decide)).2.2]; rfl) (by decide) ?_
        exact lw_c16 h5 (by omega) hi hL31 hG hhk hA2 K
      by_cases w40_17 : (G.2.2.2.2.2.2 i &&& 31) = nI 17
      · refine v_tsIn (pc := 40) (tgt := 1348) dL_law_40 (sw_in (n := 18) w40_17 (by decide) (by decide)).1 (sw_in (n := 18) w40_17 (by decide) (by decide)).2.1 (off := 1308) (by rw [(sw_in (n := 18) w40_17 (by decide) (by decide)).2.2]; rfl) (by decide) ?_
        exact lw_c17 h5 (by omega) hi hL31 hG hhk hA2 K
      by_cases w40_18 : (G.2.2.2.2.2.2 i &&& 31) = nI 18
      · refine v_tsIn (pc := 40) (tgt := 1389) dL_law_40 (sw_in (n := 18) w40_18 (by decide) (by decide)).1 (sw_in (n := 18) w40_18 (by decide) (by decide)).2.1 (off := 1349) (by rw [(sw_in (n := 18) w40_18 (by decide) (by decide)).2.2]; rfl) (by decide) ?_
        exact lw_c18 h5 (by omega) hi hL31 hG hhk hA2 K
      refine v_tsOut (pc := 40) (tgt := 1403) dL_law_40 (sw_out 18 (fun k hk h => by
        have hk2 : k = 0 ∨ k = 1 ∨ k = 2 ∨ k = 3 ∨ k = 4 ∨ k = 5 ∨ k = 6 ∨ k = 7 ∨ k = 8 ∨ k = 9 ∨ k = 10 ∨ k = 11 ∨ k = 12 ∨ k = 13 ∨ k = 14 ∨ k = 15 ∨ k = 16 ∨ k = 17 ∨ k = 18 := by omega
        rcases hk2 with rfl | rfl | rfl | rfl | rfl | rfl | rfl | rfl | rfl | rfl | rfl | rfl | rfl | rfl | rfl | rfl | rfl | rfl | rfl
        · exact w40_0 h
        · exact w40_1 h
        · exact w40_2 h
        · exact w40_3 h
        · exact w40_4 h
        · exact w40_5 h
        · exact w40_6 h
        · exact w40_7 h
        · exact w40_8 h
        · exact w40_9 h
        · exact w40_10 h
        · exact w40_11 h
        · exact w40_12 h
        · exact w40_13 h
        · exact w40_14 h
        · exact w40_15 h
        · exact w40_16 h
        · exact w40_17 h
        · exact w40_18 h)) (by decide) ?_
      refine v_room (ck' := 10 * m) (sk' := 750 * m) (by omega) (by omega) ?_
      exact K _ _ _ _ _ _ _ _ _ _ _ _ _ _ _ _ _ _ _ _ _ _ _ _ _ _ _ _ _ _ _ _ _ _ _ _ _ _ _ _ _ _ _ _ _ _ (hG.more (by omega)) (by omega) (hA2.up (by omega))
set_option maxRecDepth 100000 in
set_option maxHeartbeats 4000000 in
theorem lw_body {G : Cx} {nm : String} {hd9 : List (Nat × Nat × Nat × Nat)} {sz : Nat} (hL : G.2.2.2.2.2.1 ≤ 3072) (hL31 : G.2.2.2.2.2.1 < 2 ^ 31) : V G (YL nm hd9) (ZM G [] sz (fun v _ => v = some (.int 1)) noX) 10 (601024) (7293034) 0 [some (.ref G.2.2.2.1), none, none, none, none, none, none, none, none] [] ([]) := by
  refine v_new (pc := 0) (ci := 5) (fs := [.null, .null]) rfl layX5 tyX5_ok q17 q18 q1 (fun j hj => by (have hj2 : j = 0 ∨ j = 1 := by omega); rcases hj2 with rfl | rfl <;> rfl) (by decide) (by decide) dL_law_0 (fun z0 => ?_)
  try dsimp only [wb, LawM, ModelM, LakeM, WaysM, WorldM, List.set_cons_succ, List.set_cons_zero, List.append_nil, List.nil_append, List.cons_append, Option.toList, Nat.sub_zero, List.take_succ_cons, List.take_zero]
  refine v_dup (pc := 3) dL_law_3 rfl ?_
  refine v_callI0 (pc := 4) (c_X5_init ) cm_X5_init rfl rfl q19 q20 [0] (by rfl) (by decide) (fun _ _ h => h) (by decide) (by decide) (by decide) (Nat.le_of_ble_eq_true rfl) dL_law_4 (fun v4 M4 hQ4 => ?_)
  obtain ⟨rfl, w4, u4, rfl⟩ := hQ4
  try dsimp only [wb, LawM, ModelM, LakeM, WaysM, WorldM, List.set_cons_succ, List.set_cons_zero, List.append_nil, List.nil_append, List.cons_append, Option.toList, Nat.sub_zero, List.take_succ_cons, List.take_zero]
  refine v_astore_nR (pc := 7) dL_law_7 rfl (by show _ < 9; decide) rfl ?_
  refine v_new (pc := 8) (ci := 6) (fs := [.int 0, .null, .null, .int 0, .null, .int 0, .int 0, .null, .null, .null, .null, .null, .null, .null, .null]) rfl layX6 tyX6_ok q796 q797 q8 (fun j hj => by (have hj2 : j = 0 ∨ j = 1 ∨ j = 2 ∨ j = 3 ∨ j = 4 ∨ j = 5 ∨ j = 6 ∨ j = 7 ∨ j = 8 ∨ j = 9 ∨ j = 10 ∨ j = 11 ∨ j = 12 ∨ j = 13 ∨ j = 14 := by omega); rcases hj2 with rfl | rfl | rfl | rfl | rfl | rfl | rfl | rfl | rfl | rfl | rfl | rfl | rfl | rfl | rfl <;> rfl) (by decide) (by decide) dL_law_8 (fun z8 => ?_)
  try dsimp only [wb, LawM, ModelM, LakeM, WaysM, WorldM, List.set_cons_succ, List.set_cons_zero, List.append_nil, List.nil_append, List.cons_append, Option.toList, Nat.sub_zero, List.take_succ_cons, List.take_zero]
  refine v_dup (pc := 11) dL_law_11 rfl ?_
  refine v_callI0 (pc := 12) (c_X6_init ) cm_X6_init rfl rfl q798 q799 [35] (by rfl) (by decide) (fun _ _ h => h) (by decide) (by decide) (by decide) (Nat.le_of_ble_eq_true rfl) dL_law_12 (fun v12 M12 hQ12 => ?_)
  obtain ⟨rfl, z12, hz12, rfl⟩ := hQ12
  try dsimp only [wb, LawM, ModelM, LakeM, WaysM, WorldM, List.set_cons_succ, List.set_cons_zero, List.append_nil, List.nil_append, List.cons_append, Option.toList, Nat.sub_zero, List.take_succ_cons, List.take_zero]
  subst hz12
  refine v_astore_nR (pc := 15) dL_law_15 rfl (by show _ < 9; decide) rfl ?_
  refine v_iconst (pc := 16) (v := 1) dL_law_16 rfl ?_
  refine v_newa (pc := 17) (atype := .long) 2 (N := 1) (a0 := .inr (.inl (fun _ => 0))) q1067 rfl (fun _ => rfl) (fun _ h => by cases h) (fun _ => rfl) (by decide) (by decide) (by decide) (by decide) (by decide) dL_law_17 (fun z17 => ?_)
  try dsimp only [wb, LawM, ModelM, LakeM, WaysM, WorldM, List.set_cons_succ, List.set_cons_zero, List.append_nil, List.nil_append, List.cons_append, Option.toList, Nat.sub_zero, List.take_succ_cons, List.take_zero]
  refine v_astore_nR (pc := 19) dL_law_19 rfl (by show _ < 9; decide) rfl ?_
  refine v_iconst (pc := 20) (v := 0) dL_law_20 rfl ?_
  refine v_istore (pc := 21) dL_law_21 (by show _ < 9; decide) rfl ?_
  refine v_room (ck' := 10 * 513) (sk' := 750 * 513) (by decide) (by decide) ?_
  refine v_sub (L' := [some (.ref G.2.2.2.1), some (.ref z0), some (.ref (z12 0)), some (.ref z17), some (.int (nI 0)), none, none, none, none]) ⟨rfl, rfl, rfl, rfl, rfl, trivial⟩ ?_
  exact lw_loop rfl hL hL31 513 0 0 _ _ _ _ _ _ _ _ _ _ _ _ _ _ _ _ _ _ _ _ _ _ _ _ _ _ _ _ _ _ _ _ _ _ _ _ _ _ _ _ _ _ _ _ _ _ (by omega) (by omega) (by omega) gI_init (Nat.zero_le _) ⟨by decide, by decide⟩
