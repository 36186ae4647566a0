/-! the law: what became of each bag -/
set_option maxRecDepth 100000 in
set_option maxHeartbeats 4000000 in
theorem lw_bg {G : Cx} {nm : String} {hd9 : List (Nat × Nat × Nat × Nat)} {Z : ZT} {ck sk : Nat} {g0 : Nat} {w u v xs bs : Nat → Nat} {a b f : Nat → Int32} {wa : Int32} {lr : Value} {nd dg : Int32} {T N S C B O : Nat → Int32} {ch : Int32} {PC : Nat → Int32} {SF BF : Nat → Nat → Int32} {ps sc bc hh : Nat} {a2 b2 f2 : Nat → Int32} {wa2 : Int32} {lr2 : Value} {nd2 dg2 : Int32} {T2 N2 S2 C2 B2 O2 : Nat → Int32} {ch2 : Int32} {PC2 : Nat → Int32} {SF2 BF2 : Nat → Nat → Int32} {ps2 sc2 hh2 : Nat} {MX H D : Nat → Int32} (hps : ps ≤ 8) (hsc : sc ≤ 5) (hbc : bc ≤ 40) {T0 S0 C0 : Nat → Int32} {ch0 : Int32} {SF0 BF0 : Nat → Nat → Int32} {MX0 : Nat → Int32} {B0 B1 t0 : Nat} {r7 r8 r9 : Nat → Nat} {a7 a8 a9 a15 wo : Nat} {sn cm cd im : Int32} {LF : Nat → Int32} (hI : LI N O PC ps sc bc T S C ch SF BF MX B0) (fB : ∀ b, b < bc → bgR SF0 SF BF0 BF t0 sc b) (K : V G (YL nm hd9) Z 9 (ck) (sk) 1200 [some (.ref G.2.2.2.1), some (.ref g0), some (.ref (v 0)), some (.int (nI sc)), some (.int (nI bc)), some (.int (nI t0)), none, some (.ref a7), some (.ref a8), some (.ref a9), none, none, some (.int cm), some (.int cd), some (.int im), some (.ref a15), some (.int (sumN (cmF BF0 BF bc) bc)), none, none, none, none, none, none, none, none, none] [] (LawM g0 w u v xs bs a b f wa lr nd dg T N S C B O ch PC SF BF ps sc bc hh a2 b2 f2 wa2 lr2 nd2 dg2 T2 N2 S2 C2 B2 O2 ch2 PC2 SF2 BF2 ps2 sc2 hh2 MX H D ++ [eQ 5 a7 160 (fun j => some (r7 j)), eG r7 160 4 (tlC T0 N S0 C0 PC SF0 ps sc), eQ 5 a8 sc (fun j => some (r8 j)), eG r8 sc 9 (tlS SF0 BF0 bc), eQ 5 a9 bc (fun j => some (r9 j)), eG r9 bc 5 BF0, eI a15 160 LF])) : ∀ (m i : Nat), m + i = bc → V G (YL nm hd9) Z 9 (ck + 12 * m) (sk + 72 * m) 894 [some (.ref G.2.2.2.1), some (.ref g0), some (.ref (v 0)), some (.int (nI sc)), some (.int (nI bc)), some (.int (nI t0)), none, some (.ref a7), some (.ref a8), some (.ref a9), none, none, some (.int cm), some (.int cd), some (.int im), some (.ref a15), some (.int (sumN (cmF BF0 BF bc) i)), some (.int (nI i)), none, none, none, none, none, none, none, none] [] (LawM g0 w u v xs bs a b f wa lr nd dg T N S C B O ch PC SF BF ps sc bc hh a2 b2 f2 wa2 lr2 nd2 dg2 T2 N2 S2 C2 B2 O2 ch2 PC2 SF2 BF2 ps2 sc2 hh2 MX H D ++ [eQ 5 a7 160 (fun j => some (r7 j)), eG r7 160 4 (tlC T0 N S0 C0 PC SF0 ps sc), eQ 5 a8 sc (fun j => some (r8 j)), eG r8 sc 9 (tlS SF0 BF0 bc), eQ 5 a9 bc (fun j => some (r9 j)), eG r9 bc 5 BF0, eI a15 160 LF]) := by
  intro m
  induction m with
  | zero =>
    intro i him
    refine v_iload (pc := 894) dL_law_894 rfl ?_
    refine v_iload (pc := 896) dL_law_896 rfl ?_
    refine v_icmp_ge (pc := 898) (tgt := 1200) dL_law_898 (by decide) (fun c898 => ?_) (fun c898 => absurd (nI_le (a := bc) (b := i) (by omega) (by omega)) c898)
    have c898 : bc ≤ i := (nI_leI (a := bc) (b := i) (by omega) (by omega)).mp c898
    have hi9 : i = bc := by omega
    rw [hi9]
    refine v_room (ck' := ck) (sk' := sk) (by omega) (by omega) ?_
    refine v_sub ?_ K
    exact ⟨rfl, rfl, rfl, rfl, rfl, rfl, rfl, rfl, rfl, rfl, rfl, rfl, rfl, rfl, trivial⟩
  | succ m ih =>
    intro i him
    have hi : i < bc := by omega
    obtain ⟨g0, g1, g24, g33, g5, g6⟩ := fB i hi
    refine v_iload (pc := 894) dL_law_894 rfl ?_
    refine v_iload (pc := 896) dL_law_896 rfl ?_
    refine v_icmp_ge (pc := 898) (tgt := 1200) dL_law_898 (by decide) (fun c898 => absurd c898 (nI_ge (a := i) (b := bc) (by omega) (by omega))) (fun c898 => ?_)
    have c898 : ¬ bc ≤ i := fun h => c898 ((nI_leI (a := bc) (b := i) (by omega) (by omega)).mpr h)
    refine v_aload_nR (pc := 901) dL_law_901 rfl rfl ?_
    refine v_iload (pc := 902) dL_law_902 rfl ?_
    refine v_iconst (pc := 904) (v := 2) dL_law_904 rfl ?_
    refine v_callV2 (pc := 905) (c7_bag hps hsc hbc (b9 := i) (q := 2) hi (by decide)) cm_X5_bag q357 q358 q359 (ci := 5) rfl rfl (orcO 0 rfl) [0, 1, 2, 3, 4, 5, 6, 7, 8, 9, 10, 11, 12, 13, 14, 15, 16, 17] (by rfl) (by decide) (fun _ _ h => h) (by omega) (by omega) (by decide) (Nat.le_of_ble_eq_true rfl) dL_law_905 (fun v905 M905 hQ905 => ?_)
    obtain ⟨rfl, rfl⟩ := hQ905
    try dsimp only [wb, tlS_0, tlS_1, tlS_2, tlS_3, tlS_4, tlS_5, tlS_6, tlS_7, tlS_8, tlC_0, tlC_1, tlC_2, tlC_3, LawM, LakeM, WaysM, WorldM, SimM, List.set_cons_succ, List.set_cons_zero, List.append_nil, List.nil_append, List.cons_append, Option.toList, Nat.sub_zero]
    refine v_istore (pc := 908) dL_law_908 (by show _ < 26; decide) rfl ?_
    refine v_aloadR (pc := 910) dL_law_910 rfl ?_
    refine v_iload (pc := 912) dL_law_912 rfl ?_
    refine v_aaldS (pc := 914) 52 (k := i) (by decide) rfl (by omega) (by omega) dL_law_914 ?_
    refine v_iconst (pc := 915) (v := 3) dL_law_915 rfl ?_
    refine v_ialdGN (pc := 916) 53 (j := 3) rfl (by omega) (by decide) (by decide) dL_law_916 ?_
    try dsimp only [wb, tlS_0, tlS_1, tlS_2, tlS_3, tlS_4, tlS_5, tlS_6, tlS_7, tlS_8, tlC_0, tlC_1, tlC_2, tlC_3, LawM, LakeM, WaysM, WorldM, SimM, List.set_cons_succ, List.set_cons_zero, List.append_nil, List.nil_append, List.cons_append, Option.toList, Nat.sub_zero]
    refine v_istore (pc := 917) dL_law_917 (by show _ < 26; decide) rfl ?_
    refine v_aload_nR (pc := 919) dL_law_919 rfl rfl ?_
    refine v_iload (pc := 920) dL_law_920 rfl ?_
    refine v_iconst (pc := 922) (v := 0) dL_law_922 rfl ?_
    refine v_callV2 (pc := 923) (c7_bag hps hsc hbc (b9 := i) (q := 0) hi (by decide)) cm_X5_bag q357 q358 q359 (ci := 5) rfl rfl (orcO 0 rfl) [0, 1, 2, 3, 4, 5, 6, 7, 8, 9, 10, 11, 12, 13, 14, 15, 16, 17] (by rfl) (by decide) (fun _ _ h => h) (by omega) (by omega) (by decide) (Nat.le_of_ble_eq_true rfl) dL_law_923 (fun v923 M923 hQ923 => ?_)
    obtain ⟨rfl, rfl⟩ := hQ923
    try dsimp only [wb, tlS_0, tlS_1, tlS_2, tlS_3, tlS_4, tlS_5, tlS_6, tlS_7, tlS_8, tlC_0, tlC_1, tlC_2, tlC_3, LawM, LakeM, WaysM, WorldM, SimM, List.set_cons_succ, List.set_cons_zero, List.append_nil, List.nil_append, List.cons_append, Option.toList, Nat.sub_zero]
    refine v_aloadR (pc := 926) dL_law_926 rfl ?_
    refine v_iload (pc := 928) dL_law_928 rfl ?_
    refine v_aaldS (pc := 930) 52 (k := i) (by decide) rfl (by omega) (by omega) dL_law_930 ?_
    refine v_iconst (pc := 931) (v := 0) dL_law_931 rfl ?_
    refine v_ialdGN (pc := 932) 53 (j := 0) rfl (by omega) (by decide) (by decide) dL_law_932 ?_
    try dsimp only [wb, tlS_0, tlS_1, tlS_2, tlS_3, tlS_4, tlS_5, tlS_6, tlS_7, tlS_8, tlC_0, tlC_1, tlC_2, tlC_3, LawM, LakeM, WaysM, WorldM, SimM, List.set_cons_succ, List.set_cons_zero, List.append_nil, List.nil_append, List.cons_append, Option.toList, Nat.sub_zero]
    refine v_icmp_ne (pc := 933) (tgt := 1011) dL_law_933 (by decide) (fun c933 => absurd g0 c933) (fun c933 => ?_)
    refine v_aload_nR (pc := 936) dL_law_936 rfl rfl ?_
    refine v_iload (pc := 937) dL_law_937 rfl ?_
    refine v_iconst (pc := 939) (v := 1) dL_law_939 rfl ?_
    refine v_callV2 (pc := 940) (c7_bag hps hsc hbc (b9 := i) (q := 1) hi (by decide)) cm_X5_bag q357 q358 q359 (ci := 5) rfl rfl (orcO 0 rfl) [0, 1, 2, 3, 4, 5, 6, 7, 8, 9, 10, 11, 12, 13, 14, 15, 16, 17] (by rfl) (by decide) (fun _ _ h => h) (by omega) (by omega) (by decide) (Nat.le_of_ble_eq_true rfl) dL_law_940 (fun v940 M940 hQ940 => ?_)
    obtain ⟨rfl, rfl⟩ := hQ940
    try dsimp only [wb, tlS_0, tlS_1, tlS_2, tlS_3, tlS_4, tlS_5, tlS_6, tlS_7, tlS_8, tlC_0, tlC_1, tlC_2, tlC_3, LawM, LakeM, WaysM, WorldM, SimM, List.set_cons_succ, List.set_cons_zero, List.append_nil, List.nil_append, List.cons_append, Option.toList, Nat.sub_zero]
    refine v_aloadR (pc := 943) dL_law_943 rfl ?_
    refine v_iload (pc := 945) dL_law_945 rfl ?_
    refine v_aaldS (pc := 947) 52 (k := i) (by decide) rfl (by omega) (by omega) dL_law_947 ?_
    refine v_iconst (pc := 948) (v := 1) dL_law_948 rfl ?_
    refine v_ialdGN (pc := 949) 53 (j := 1) rfl (by omega) (by decide) (by decide) dL_law_949 ?_
    try dsimp only [wb, tlS_0, tlS_1, tlS_2, tlS_3, tlS_4, tlS_5, tlS_6, tlS_7, tlS_8, tlC_0, tlC_1, tlC_2, tlC_3, LawM, LakeM, WaysM, WorldM, SimM, List.set_cons_succ, List.set_cons_zero, List.append_nil, List.nil_append, List.cons_append, Option.toList, Nat.sub_zero]
    refine v_icmp_ne (pc := 950) (tgt := 1011) dL_law_950 (by decide) (fun c950 => absurd g1 c950) (fun c950 => ?_)
    refine v_iload (pc := 953) dL_law_953 rfl ?_
    refine v_iconst (pc := 955) (v := 2) dL_law_955 rfl ?_
    refine v_icmp_ne (pc := 956) (tgt := 963) dL_law_956 (by decide) (fun c956 => ?_) (fun c956 => ?_)
    · refine v_iconst (pc := 963) (v := 0) dL_law_963 rfl ?_
      refine v_aload_nR (pc := 964) dL_law_964 rfl rfl ?_
      refine v_iload (pc := 965) dL_law_965 rfl ?_
      refine v_iconst (pc := 967) (v := 4) dL_law_967 rfl ?_
      refine v_callV2 (pc := 968) (c7_bag hps hsc hbc (b9 := i) (q := 4) hi (by decide)) cm_X5_bag q357 q358 q359 (ci := 5) rfl rfl (orcO 0 rfl) [0, 1, 2, 3, 4, 5, 6, 7, 8, 9, 10, 11, 12, 13, 14, 15, 16, 17] (by rfl) (by decide) (fun _ _ h => h) (by omega) (by omega) (by decide) (Nat.le_of_ble_eq_true rfl) dL_law_968 (fun v968 M968 hQ968 => ?_)
      obtain ⟨rfl, rfl⟩ := hQ968
      try dsimp only [wb, tlS_0, tlS_1, tlS_2, tlS_3, tlS_4, tlS_5, tlS_6, tlS_7, tlS_8, tlC_0, tlC_1, tlC_2, tlC_3, LawM, LakeM, WaysM, WorldM, SimM, List.set_cons_succ, List.set_cons_zero, List.append_nil, List.nil_append, List.cons_append, Option.toList, Nat.sub_zero]
      refine v_if_lt (pc := 971) (tgt := 978) dL_law_971 (by decide) (fun c971 => ?_) (fun c971 => absurd (g24.mpr (Int32.not_lt.mp c971)) c956)
      refine v_iconst (pc := 978) (v := 0) dL_law_978 rfl ?_
      refine v_icmp_ne (pc := 979) (tgt := 1011) dL_law_979 (by decide) (fun c979 => absurd c979 (by decide)) (fun c979 => ?_)
      refine v_iload (pc := 982) dL_law_982 rfl ?_
      refine v_iconst (pc := 984) (v := 3) dL_law_984 rfl ?_
      refine v_icmp_ne (pc := 985) (tgt := 992) dL_law_985 (by decide) (fun c985 => ?_) (fun c985 => ?_)
      · refine v_iconst (pc := 992) (v := 0) dL_law_992 rfl ?_
        refine v_aload_nR (pc := 993) dL_law_993 rfl rfl ?_
        refine v_iload (pc := 994) dL_law_994 rfl ?_
        refine v_iconst (pc := 996) (v := 3) dL_law_996 rfl ?_
        refine v_callV2 (pc := 997) (c7_bag hps hsc hbc (b9 := i) (q := 3) hi (by decide)) cm_X5_bag q357 q358 q359 (ci := 5) rfl rfl (orcO 0 rfl) [0, 1, 2, 3, 4, 5, 6, 7, 8, 9, 10, 11, 12, 13, 14, 15, 16, 17] (by rfl) (by decide) (fun _ _ h => h) (by omega) (by omega) (by decide) (Nat.le_of_ble_eq_true rfl) dL_law_997 (fun v997 M997 hQ997 => ?_)
        obtain ⟨rfl, rfl⟩ := hQ997
        try dsimp only [wb, tlS_0, tlS_1, tlS_2, tlS_3, tlS_4, tlS_5, tlS_6, tlS_7, tlS_8, tlC_0, tlC_1, tlC_2, tlC_3, LawM, LakeM, WaysM, WorldM, SimM, List.set_cons_succ, List.set_cons_zero, List.append_nil, List.nil_append, List.cons_append, Option.toList, Nat.sub_zero]
        refine v_if_ge (pc := 1000) (tgt := 1007) dL_law_1000 (by decide) (fun c1000 => ?_) (fun c1000 => absurd (g33.mpr (Int32.not_le.mp c1000)) c985)
        refine v_iconst (pc := 1007) (v := 0) dL_law_1007 rfl ?_
        refine v_icmp_eq (pc := 1008) (tgt := 1013) dL_law_1008 (by decide) (fun c1008 => ?_) (fun c1008 => absurd c1008 (by decide))
        refine v_aloadR (pc := 1013) dL_law_1013 rfl ?_
        refine v_iload (pc := 1015) dL_law_1015 rfl ?_
        refine v_aaldS (pc := 1017) 52 (k := i) (by decide) rfl (by omega) (by omega) dL_law_1017 ?_
        refine v_iconst (pc := 1018) (v := 2) dL_law_1018 rfl ?_
        refine v_ialdGN (pc := 1019) 53 (j := 2) rfl (by omega) (by decide) (by decide) dL_law_1019 ?_
        try dsimp only [wb, tlS_0, tlS_1, tlS_2, tlS_3, tlS_4, tlS_5, tlS_6, tlS_7, tlS_8, tlC_0, tlC_1, tlC_2, tlC_3, LawM, LakeM, WaysM, WorldM, SimM, List.set_cons_succ, List.set_cons_zero, List.append_nil, List.nil_append, List.cons_append, Option.toList, Nat.sub_zero]
        refine v_iconst (pc := 1020) (v := 1) dL_law_1020 rfl ?_
        refine v_icmp_eq (pc := 1021) (tgt := 1050) dL_law_1021 (by decide) (fun c1021 => ?_) (fun c1021 => ?_)
        · obtain ⟨n9, hn9, e9, h3a, h3b, h3c, h3d⟩ := g6 c1021
          rw [e9]
          refine v_aload_nR (pc := 1050) dL_law_1050 rfl rfl ?_
          refine v_iload (pc := 1051) dL_law_1051 rfl ?_
          refine v_iconst (pc := 1053) (v := 3) dL_law_1053 rfl ?_
          refine v_callV2 (pc := 1054) (c7_sleigh hps hsc hbc (s := n9) (q := 3) hn9 (by decide)) cm_X5_sleigh q323 q324 q325 (ci := 5) rfl rfl (orcO 0 rfl) [0, 1, 2, 3, 4, 5, 6, 7, 8, 9, 10, 11, 12, 13, 14, 15, 16, 17] (by rfl) (by decide) (fun _ _ h => h) (by omega) (by omega) (by decide) (Nat.le_of_ble_eq_true rfl) dL_law_1054 (fun v1054 M1054 hQ1054 => ?_)
          obtain ⟨rfl, rfl⟩ := hQ1054
          try dsimp only [wb, tlS_0, tlS_1, tlS_2, tlS_3, tlS_4, tlS_5, tlS_6, tlS_7, tlS_8, tlC_0, tlC_1, tlC_2, tlC_3, LawM, LakeM, WaysM, WorldM, SimM, List.set_cons_succ, List.set_cons_zero, List.append_nil, List.nil_append, List.cons_append, Option.toList, Nat.sub_zero]
          refine v_istore (pc := 1057) dL_law_1057 (by show _ < 26; decide) rfl ?_
          refine v_iload (pc := 1059) dL_law_1059 rfl ?_
          refine v_if_ne (pc := 1061) (tgt := 1079) dL_law_1061 (by decide) (fun c1061 => ?_) (fun c1061 => ?_)
          · refine v_iconst (pc := 1079) (v := 0) dL_law_1079 rfl ?_
            refine v_istore (pc := 1080) dL_law_1080 (by show _ < 26; decide) rfl ?_
            refine v_iload (pc := 1082) dL_law_1082 rfl ?_
            refine v_if_eq (pc := 1084) (tgt := 1097) dL_law_1084 (by decide) (fun c1084 => ?_) (fun c1084 => absurd c1084 (by decide))
            refine v_iconst (pc := 1097) (v := -1) dL_law_1097 rfl ?_
            refine v_istore (pc := 1098) dL_law_1098 (by show _ < 26; decide) rfl ?_
            refine v_iload (pc := 1100) dL_law_1100 rfl ?_
            refine v_iload (pc := 1102) dL_law_1102 rfl ?_
            refine v_iconst (pc := 1104) (v := 2) dL_law_1104 rfl ?_
            refine v_icmp_ne (pc := 1105) (tgt := 1112) dL_law_1105 (by decide) (fun c1105 => ?_) (fun c1105 => ?_)
            · refine v_iload (pc := 1112) dL_law_1112 rfl ?_
              refine v_if_eq (pc := 1114) (tgt := 1137) dL_law_1114 (by decide) (fun c1114 => ?_) (fun c1114 => absurd c1114 (by decide))
              refine v_iconst (pc := 1137) (v := 1) dL_law_1137 rfl ?_
              refine v_icmp_ne (pc := 1138) (tgt := 1176) dL_law_1138 (by decide) (fun c1138 => absurd (h3c c1105 (fun q => c1061 q.1)) c1138) (fun c1138 => ?_)
              refine v_iload (pc := 1141) dL_law_1141 rfl ?_
              refine v_if_eq (pc := 1143) (tgt := 1158) dL_law_1143 (by decide) (fun c1143 => ?_) (fun c1143 => absurd c1143 (by decide))
              refine v_iload (pc := 1158) dL_law_1158 rfl ?_
              refine v_iconst (pc := 1160) (v := 2) dL_law_1160 rfl ?_
              refine v_icmp_ne (pc := 1161) (tgt := 1178) dL_law_1161 (by decide) (fun c1161 => ?_) (fun c1161 => ?_)
              · refine v_iload (pc := 1178) dL_law_1178 rfl ?_
                refine v_iload (pc := 1180) dL_law_1180 rfl ?_
                refine v_iconst (pc := 1182) (v := 2) dL_law_1182 rfl ?_
                refine v_icmp_ne (pc := 1183) (tgt := 1190) dL_law_1183 (by decide) (fun c1183 => ?_) (fun c1183 => ?_)
                · refine v_iconst (pc := 1190) (v := 0) dL_law_1190 rfl ?_
                  refine v_iadd (pc := 1191) dL_law_1191 ?_
                  refine v_istore (pc := 1192) dL_law_1192 (by show _ < 26; decide) rfl ?_
                  have e8 : cmF BF0 BF bc i = 0 := if_neg (fun q => c1183 q.2.2)
                  have es : (sumN (cmF BF0 BF bc) (i + 1)) = (sumN (cmF BF0 BF bc) i) + 0 := by
                    show (sumN (cmF BF0 BF bc) i) + cmF BF0 BF bc i = _
                    rw [e8]
                  refine v_iinc (pc := 1194) (v := nI (i + 1)) dL_law_1194 rfl (nI_1 _) (by show _ < 26; decide) rfl ?_
                  refine v_goto (pc := 1197) (tgt := 894) dL_law_1197 (by decide) ?_
                  refine v_room (ck' := ck + 12 * m) (sk' := sk + 72 * m) (by omega) (by omega) ?_
                  have k9 := ih (i + 1) (by omega)
                  rw [es] at k9
                  refine v_sub ?_ k9
                  exact ⟨rfl, rfl, rfl, rfl, rfl, rfl, rfl, rfl, rfl, rfl, rfl, rfl, rfl, rfl, rfl, trivial⟩
                · refine v_iconst (pc := 1186) (v := 1) dL_law_1186 rfl ?_
                  refine v_goto (pc := 1187) (tgt := 1191) dL_law_1187 (by decide) ?_
                  refine v_iadd (pc := 1191) dL_law_1191 ?_
                  refine v_istore (pc := 1192) dL_law_1192 (by show _ < 26; decide) rfl ?_
                  have e8 : cmF BF0 BF bc i = 1 := if_pos ⟨hi, c1021, c1183⟩
                  have es : (sumN (cmF BF0 BF bc) (i + 1)) = (sumN (cmF BF0 BF bc) i) + 1 := by
                    show (sumN (cmF BF0 BF bc) i) + cmF BF0 BF bc i = _
                    rw [e8]
                  refine v_iinc (pc := 1194) (v := nI (i + 1)) dL_law_1194 rfl (nI_1 _) (by show _ < 26; decide) rfl ?_
                  refine v_goto (pc := 1197) (tgt := 894) dL_law_1197 (by decide) ?_
                  refine v_room (ck' := ck + 12 * m) (sk' := sk + 72 * m) (by omega) (by omega) ?_
                  have k9 := ih (i + 1) (by omega)
                  rw [es] at k9
                  refine v_sub ?_ k9
                  exact ⟨rfl, rfl, rfl, rfl, rfl, rfl, rfl, rfl, rfl, rfl, rfl, rfl, rfl, rfl, rfl, trivial⟩
              · refine v_aload_nR (pc := 1164) dL_law_1164 rfl rfl ?_
                refine v_iload (pc := 1165) dL_law_1165 rfl ?_
                refine v_iconst (pc := 1167) (v := 4) dL_law_1167 rfl ?_
                refine v_callV2 (pc := 1168) (c7_bag hps hsc hbc (b9 := i) (q := 4) hi (by decide)) cm_X5_bag q357 q358 q359 (ci := 5) rfl rfl (orcO 0 rfl) [0, 1, 2, 3, 4, 5, 6, 7, 8, 9, 10, 11, 12, 13, 14, 15, 16, 17] (by rfl) (by decide) (fun _ _ h => h) (by omega) (by omega) (by decide) (Nat.le_of_ble_eq_true rfl) dL_law_1168 (fun v1168 M1168 hQ1168 => ?_)
                obtain ⟨rfl, rfl⟩ := hQ1168
                try dsimp only [wb, tlS_0, tlS_1, tlS_2, tlS_3, tlS_4, tlS_5, tlS_6, tlS_7, tlS_8, tlC_0, tlC_1, tlC_2, tlC_3, LawM, LakeM, WaysM, WorldM, SimM, List.set_cons_succ, List.set_cons_zero, List.append_nil, List.nil_append, List.cons_append, Option.toList, Nat.sub_zero]
                refine v_iload (pc := 1171) dL_law_1171 rfl ?_
                refine v_icmp_eq (pc := 1173) (tgt := 1178) dL_law_1173 (by decide) (fun c1173 => ?_) (fun c1173 => absurd (h3d c1161) c1173)
                refine v_iload (pc := 1178) dL_law_1178 rfl ?_
                refine v_iload (pc := 1180) dL_law_1180 rfl ?_
                refine v_iconst (pc := 1182) (v := 2) dL_law_1182 rfl ?_
                refine v_icmp_ne (pc := 1183) (tgt := 1190) dL_law_1183 (by decide) (fun c1183 => ?_) (fun c1183 => ?_)
                · refine v_iconst (pc := 1190) (v := 0) dL_law_1190 rfl ?_
                  refine v_iadd (pc := 1191) dL_law_1191 ?_
                  refine v_istore (pc := 1192) dL_law_1192 (by show _ < 26; decide) rfl ?_
                  have e8 : cmF BF0 BF bc i = 0 := if_neg (fun q => c1183 q.2.2)
                  have es : (sumN (cmF BF0 BF bc) (i + 1)) = (sumN (cmF BF0 BF bc) i) + 0 := by
                    show (sumN (cmF BF0 BF bc) i) + cmF BF0 BF bc i = _
                    rw [e8]
                  refine v_iinc (pc := 1194) (v := nI (i + 1)) dL_law_1194 rfl (nI_1 _) (by show _ < 26; decide) rfl ?_
                  refine v_goto (pc := 1197) (tgt := 894) dL_law_1197 (by decide) ?_
                  refine v_room (ck' := ck + 12 * m) (sk' := sk + 72 * m) (by omega) (by omega) ?_
                  have k9 := ih (i + 1) (by omega)
                  rw [es] at k9
                  refine v_sub ?_ k9
                  exact ⟨rfl, rfl, rfl, rfl, rfl, rfl, rfl, rfl, rfl, rfl, rfl, rfl, rfl, rfl, rfl, trivial⟩
                · refine v_iconst (pc := 1186) (v := 1) dL_law_1186 rfl ?_
                  refine v_goto (pc := 1187) (tgt := 1191) dL_law_1187 (by decide) ?_
                  refine v_iadd (pc := 1191) dL_law_1191 ?_
                  refine v_istore (pc := 1192) dL_law_1192 (by show _ < 26; decide) rfl ?_
                  have e8 : cmF BF0 BF bc i = 1 := if_pos ⟨hi, c1021, c1183⟩
                  have es : (sumN (cmF BF0 BF bc) (i + 1)) = (sumN (cmF BF0 BF bc) i) + 1 := by
                    show (sumN (cmF BF0 BF bc) i) + cmF BF0 BF bc i = _
                    rw [e8]
                  refine v_iinc (pc := 1194) (v := nI (i + 1)) dL_law_1194 rfl (nI_1 _) (by show _ < 26; decide) rfl ?_
                  refine v_goto (pc := 1197) (tgt := 894) dL_law_1197 (by decide) ?_
                  refine v_room (ck' := ck + 12 * m) (sk' := sk + 72 * m) (by omega) (by omega) ?_
                  have k9 := ih (i + 1) (by omega)
                  rw [es] at k9
                  refine v_sub ?_ k9
                  exact ⟨rfl, rfl, rfl, rfl, rfl, rfl, rfl, rfl, rfl, rfl, rfl, rfl, rfl, rfl, rfl, trivial⟩
            · refine v_iconst (pc := 1108) (v := 3) dL_law_1108 rfl ?_
              refine v_goto (pc := 1109) (tgt := 1138) dL_law_1109 (by decide) ?_
              refine v_icmp_ne (pc := 1138) (tgt := 1176) dL_law_1138 (by decide) (fun c1138 => absurd (h3a c1105) c1138) (fun c1138 => ?_)
              refine v_iload (pc := 1141) dL_law_1141 rfl ?_
              refine v_if_eq (pc := 1143) (tgt := 1158) dL_law_1143 (by decide) (fun c1143 => ?_) (fun c1143 => absurd c1143 (by decide))
              refine v_iload (pc := 1158) dL_law_1158 rfl ?_
              refine v_iconst (pc := 1160) (v := 2) dL_law_1160 rfl ?_
              refine v_icmp_ne (pc := 1161) (tgt := 1178) dL_law_1161 (by decide) (fun c1161 => ?_) (fun c1161 => ?_)
              · refine v_iload (pc := 1178) dL_law_1178 rfl ?_
                refine v_iload (pc := 1180) dL_law_1180 rfl ?_
                refine v_iconst (pc := 1182) (v := 2) dL_law_1182 rfl ?_
                refine v_icmp_ne (pc := 1183) (tgt := 1190) dL_law_1183 (by decide) (fun c1183 => ?_) (fun c1183 => ?_)
                · refine v_iconst (pc := 1190) (v := 0) dL_law_1190 rfl ?_
                  refine v_iadd (pc := 1191) dL_law_1191 ?_
                  refine v_istore (pc := 1192) dL_law_1192 (by show _ < 26; decide) rfl ?_
                  have e8 : cmF BF0 BF bc i = 0 := if_neg (fun q => c1183 q.2.2)
                  have es : (sumN (cmF BF0 BF bc) (i + 1)) = (sumN (cmF BF0 BF bc) i) + 0 := by
                    show (sumN (cmF BF0 BF bc) i) + cmF BF0 BF bc i = _
                    rw [e8]
                  refine v_iinc (pc := 1194) (v := nI (i + 1)) dL_law_1194 rfl (nI_1 _) (by show _ < 26; decide) rfl ?_
                  refine v_goto (pc := 1197) (tgt := 894) dL_law_1197 (by decide) ?_
                  refine v_room (ck' := ck + 12 * m) (sk' := sk + 72 * m) (by omega) (by omega) ?_
                  have k9 := ih (i + 1) (by omega)
                  rw [es] at k9
                  refine v_sub ?_ k9
                  exact ⟨rfl, rfl, rfl, rfl, rfl, rfl, rfl, rfl, rfl, rfl, rfl, rfl, rfl, rfl, rfl, trivial⟩
                · refine v_iconst (pc := 1186) (v := 1) dL_law_1186 rfl ?_
                  refine v_goto (pc := 1187) (tgt := 1191) dL_law_1187 (by decide) ?_
                  refine v_iadd (pc := 1191) dL_law_1191 ?_
                  refine v_istore (pc := 1192) dL_law_1192 (by show _ < 26; decide) rfl ?_
                  have e8 : cmF BF0 BF bc i = 1 := if_pos ⟨hi, c1021, c1183⟩
                  have es : (sumN (cmF BF0 BF bc) (i + 1)) = (sumN (cmF BF0 BF bc) i) + 1 := by
                    show (sumN (cmF BF0 BF bc) i) + cmF BF0 BF bc i = _
                    rw [e8]
                  refine v_iinc (pc := 1194) (v := nI (i + 1)) dL_law_1194 rfl (nI_1 _) (by show _ < 26; decide) rfl ?_
                  refine v_goto (pc := 1197) (tgt := 894) dL_law_1197 (by decide) ?_
                  refine v_room (ck' := ck + 12 * m) (sk' := sk + 72 * m) (by omega) (by omega) ?_
                  have k9 := ih (i + 1) (by omega)
                  rw [es] at k9
                  refine v_sub ?_ k9
                  exact ⟨rfl, rfl, rfl, rfl, rfl, rfl, rfl, rfl, rfl, rfl, rfl, rfl, rfl, rfl, rfl, trivial⟩
              · refine v_aload_nR (pc := 1164) dL_law_1164 rfl rfl ?_
                refine v_iload (pc := 1165) dL_law_1165 rfl ?_
                refine v_iconst (pc := 1167) (v := 4) dL_law_1167 rfl ?_
                refine v_callV2 (pc := 1168) (c7_bag hps hsc hbc (b9 := i) (q := 4) hi (by decide)) cm_X5_bag q357 q358 q359 (ci := 5) rfl rfl (orcO 0 rfl) [0, 1, 2, 3, 4, 5, 6, 7, 8, 9, 10, 11, 12, 13, 14, 15, 16, 17] (by rfl) (by decide) (fun _ _ h => h) (by omega) (by omega) (by decide) (Nat.le_of_ble_eq_true rfl) dL_law_1168 (fun v1168 M1168 hQ1168 => ?_)
                obtain ⟨rfl, rfl⟩ := hQ1168
                try dsimp only [wb, tlS_0, tlS_1, tlS_2, tlS_3, tlS_4, tlS_5, tlS_6, tlS_7, tlS_8, tlC_0, tlC_1, tlC_2, tlC_3, LawM, LakeM, WaysM, WorldM, SimM, List.set_cons_succ, List.set_cons_zero, List.append_nil, List.nil_append, List.cons_append, Option.toList, Nat.sub_zero]
                refine v_iload (pc := 1171) dL_law_1171 rfl ?_
                refine v_icmp_eq (pc := 1173) (tgt := 1178) dL_law_1173 (by decide) (fun c1173 => ?_) (fun c1173 => absurd (h3d c1161) c1173)
                refine v_iload (pc := 1178) dL_law_1178 rfl ?_
                refine v_iload (pc := 1180) dL_law_1180 rfl ?_
                refine v_iconst (pc := 1182) (v := 2) dL_law_1182 rfl ?_
                refine v_icmp_ne (pc := 1183) (tgt := 1190) dL_law_1183 (by decide) (fun c1183 => ?_) (fun c1183 => ?_)
                · refine v_iconst (pc := 1190) (v := 0) dL_law_1190 rfl ?_
                  refine v_iadd (pc := 1191) dL_law_1191 ?_
                  refine v_istore (pc := 1192) dL_law_1192 (by show _ < 26; decide) rfl ?_
                  have e8 : cmF BF0 BF bc i = 0 := if_neg (fun q => c1183 q.2.2)
                  have es : (sumN (cmF BF0 BF bc) (i + 1)) = (sumN (cmF BF0 BF bc) i) + 0 := by
                    show (sumN (cmF BF0 BF bc) i) + cmF BF0 BF bc i = _
                    rw [e8]
                  refine v_iinc (pc := 1194) (v := nI (i + 1)) dL_law_1194 rfl (nI_1 _) (by show _ < 26; decide) rfl ?_
                  refine v_goto (pc := 1197) (tgt := 894) dL_law_1197 (by decide) ?_
                  refine v_room (ck' := ck + 12 * m) (sk' := sk + 72 * m) (by omega) (by omega) ?_
                  have k9 := ih (i + 1) (by omega)
                  rw [es] at k9
                  refine v_sub ?_ k9
                  exact ⟨rfl, rfl, rfl, rfl, rfl, rfl, rfl, rfl, rfl, rfl, rfl, rfl, rfl, rfl, rfl, trivial⟩
                · refine v_iconst (pc := 1186) (v := 1) dL_law_1186 rfl ?_
                  refine v_goto (pc := 1187) (tgt := 1191) dL_law_1187 (by decide) ?_
                  refine v_iadd (pc := 1191) dL_law_1191 ?_
                  refine v_istore (pc := 1192) dL_law_1192 (by show _ < 26; decide) rfl ?_
                  have e8 : cmF BF0 BF bc i = 1 := if_pos ⟨hi, c1021, c1183⟩
                  have es : (sumN (cmF BF0 BF bc) (i + 1)) = (sumN (cmF BF0 BF bc) i) + 1 := by
                    show (sumN (cmF BF0 BF bc) i) + cmF BF0 BF bc i = _
                    rw [e8]
                  refine v_iinc (pc := 1194) (v := nI (i + 1)) dL_law_1194 rfl (nI_1 _) (by show _ < 26; decide) rfl ?_
                  refine v_goto (pc := 1197) (tgt := 894) dL_law_1197 (by decide) ?_
                  refine v_room (ck' := ck + 12 * m) (sk' := sk + 72 * m) (by omega) (by omega) ?_
                  have k9 := ih (i + 1) (by omega)
                  rw [es] at k9
                  refine v_sub ?_ k9
                  exact ⟨rfl, rfl, rfl, rfl, rfl, rfl, rfl, rfl, rfl, rfl, rfl, rfl, rfl, rfl, rfl, trivial⟩
          · refine v_aloadR (pc := 1064) dL_law_1064 rfl ?_
            refine v_iload (pc := 1066) dL_law_1066 rfl ?_
            refine v_aaldS (pc := 1068) 50 (k := n9) (by decide) rfl (by omega) (by omega) dL_law_1068 ?_
            refine v_iconst (pc := 1069) (v := 3) dL_law_1069 rfl ?_
            refine v_ialdGN (pc := 1070) 51 (j := 3) rfl (by omega) (by decide) (by decide) dL_law_1070 ?_
            try dsimp only [wb, tlS_0, tlS_1, tlS_2, tlS_3, tlS_4, tlS_5, tlS_6, tlS_7, tlS_8, tlC_0, tlC_1, tlC_2, tlC_3, LawM, LakeM, WaysM, WorldM, SimM, List.set_cons_succ, List.set_cons_zero, List.append_nil, List.nil_append, List.cons_append, Option.toList, Nat.sub_zero]
            refine v_iconst (pc := 1071) (v := 1) dL_law_1071 rfl ?_
            refine v_icmp_ne (pc := 1072) (tgt := 1079) dL_law_1072 (by decide) (fun c1072 => ?_) (fun c1072 => ?_)
            · refine v_iconst (pc := 1079) (v := 0) dL_law_1079 rfl ?_
              refine v_istore (pc := 1080) dL_law_1080 (by show _ < 26; decide) rfl ?_
              refine v_iload (pc := 1082) dL_law_1082 rfl ?_
              refine v_if_eq (pc := 1084) (tgt := 1097) dL_law_1084 (by decide) (fun c1084 => ?_) (fun c1084 => absurd c1084 (by decide))
              refine v_iconst (pc := 1097) (v := -1) dL_law_1097 rfl ?_
              refine v_istore (pc := 1098) dL_law_1098 (by show _ < 26; decide) rfl ?_
              refine v_iload (pc := 1100) dL_law_1100 rfl ?_
              refine v_iload (pc := 1102) dL_law_1102 rfl ?_
              refine v_iconst (pc := 1104) (v := 2) dL_law_1104 rfl ?_
              refine v_icmp_ne (pc := 1105) (tgt := 1112) dL_law_1105 (by decide) (fun c1105 => ?_) (fun c1105 => ?_)
              · refine v_iload (pc := 1112) dL_law_1112 rfl ?_
                refine v_if_eq (pc := 1114) (tgt := 1137) dL_law_1114 (by decide) (fun c1114 => ?_) (fun c1114 => absurd c1114 (by decide))
                refine v_iconst (pc := 1137) (v := 1) dL_law_1137 rfl ?_
                refine v_icmp_ne (pc := 1138) (tgt := 1176) dL_law_1138 (by decide) (fun c1138 => absurd (h3c c1105 (fun q => c1072 q.2)) c1138) (fun c1138 => ?_)
                refine v_iload (pc := 1141) dL_law_1141 rfl ?_
                refine v_if_eq (pc := 1143) (tgt := 1158) dL_law_1143 (by decide) (fun c1143 => ?_) (fun c1143 => absurd c1143 (by decide))
                refine v_iload (pc := 1158) dL_law_1158 rfl ?_
                refine v_iconst (pc := 1160) (v := 2) dL_law_1160 rfl ?_
                refine v_icmp_ne (pc := 1161) (tgt := 1178) dL_law_1161 (by decide) (fun c1161 => ?_) (fun c1161 => ?_)
                · refine v_iload (pc := 1178) dL_law_1178 rfl ?_
                  refine v_iload (pc := 1180) dL_law_1180 rfl ?_
                  refine v_iconst (pc := 1182) (v := 2) dL_law_1182 rfl ?_
                  refine v_icmp_ne (pc := 1183) (tgt := 1190) dL_law_1183 (by decide) (fun c1183 => ?_) (fun c1183 => ?_)
                  · refine v_iconst (pc := 1190) (v := 0) dL_law_1190 rfl ?_
                    refine v_iadd (pc := 1191) dL_law_1191 ?_
                    refine v_istore (pc := 1192) dL_law_1192 (by show _ < 26; decide) rfl ?_
                    have e8 : cmF BF0 BF bc i = 0 := if_neg (fun q => c1183 q.2.2)
                    have es : (sumN (cmF BF0 BF bc) (i + 1)) = (sumN (cmF BF0 BF bc) i) + 0 := by
                      show (sumN (cmF BF0 BF bc) i) + cmF BF0 BF bc i = _
                      rw [e8]
                    refine v_iinc (pc := 1194) (v := nI (i + 1)) dL_law_1194 rfl (nI_1 _) (by show _ < 26; decide) rfl ?_
                    refine v_goto (pc := 1197) (tgt := 894) dL_law_1197 (by decide) ?_
                    refine v_room (ck' := ck + 12 * m) (sk' := sk + 72 * m) (by omega) (by omega) ?_
                    have k9 := ih (i + 1) (by omega)
                    rw [es] at k9
                    refine v_sub ?_ k9
                    exact ⟨rfl, rfl, rfl, rfl, rfl, rfl, rfl, rfl, rfl, rfl, rfl, rfl, rfl, rfl, rfl, trivial⟩
                  · refine v_iconst (pc := 1186) (v := 1) dL_law_1186 rfl ?_
                    refine v_goto (pc := 1187) (tgt := 1191) dL_law_1187 (by decide) ?_
                    refine v_iadd (pc := 1191) dL_law_1191 ?_
                    refine v_istore (pc := 1192) dL_law_1192 (by show _ < 26; decide) rfl ?_
                    have e8 : cmF BF0 BF bc i = 1 := if_pos ⟨hi, c1021, c1183⟩
                    have es : (sumN (cmF BF0 BF bc) (i + 1)) = (sumN (cmF BF0 BF bc) i) + 1 := by
                      show (sumN (cmF BF0 BF bc) i) + cmF BF0 BF bc i = _
                      rw [e8]
                    refine v_iinc (pc := 1194) (v := nI (i + 1)) dL_law_1194 rfl (nI_1 _) (by show _ < 26; decide) rfl ?_
                    refine v_goto (pc := 1197) (tgt := 894) dL_law_1197 (by decide) ?_
                    refine v_room (ck' := ck + 12 * m) (sk' := sk + 72 * m) (by omega) (by omega) ?_
                    have k9 := ih (i + 1) (by omega)
                    rw [es] at k9
                    refine v_sub ?_ k9
                    exact ⟨rfl, rfl, rfl, rfl, rfl, rfl, rfl, rfl, rfl, rfl, rfl, rfl, rfl, rfl, rfl, trivial⟩
                · refine v_aload_nR (pc := 1164) dL_law_1164 rfl rfl ?_
                  refine v_iload (pc := 1165) dL_law_1165 rfl ?_
                  refine v_iconst (pc := 1167) (v := 4) dL_law_1167 rfl ?_
                  refine v_callV2 (pc := 1168) (c7_bag hps hsc hbc (b9 := i) (q := 4) hi (by decide)) cm_X5_bag q357 q358 q359 (ci := 5) rfl rfl (orcO 0 rfl) [0, 1, 2, 3, 4, 5, 6, 7, 8, 9, 10, 11, 12, 13, 14, 15, 16, 17] (by rfl) (by decide) (fun _ _ h => h) (by omega) (by omega) (by decide) (Nat.le_of_ble_eq_true rfl) dL_law_1168 (fun v1168 M1168 hQ1168 => ?_)
                  obtain ⟨rfl, rfl⟩ := hQ1168
                  try dsimp only [wb, tlS_0, tlS_1, tlS_2, tlS_3, tlS_4, tlS_5, tlS_6, tlS_7, tlS_8, tlC_0, tlC_1, tlC_2, tlC_3, LawM, LakeM, WaysM, WorldM, SimM, List.set_cons_succ, List.set_cons_zero, List.append_nil, List.nil_append, List.cons_append, Option.toList, Nat.sub_zero]
                  refine v_iload (pc := 1171) dL_law_1171 rfl ?_
                  refine v_icmp_eq (pc := 1173) (tgt := 1178) dL_law_1173 (by decide) (fun c1173 => ?_) (fun c1173 => absurd (h3d c1161) c1173)
                  refine v_iload (pc := 1178) dL_law_1178 rfl ?_
                  refine v_iload (pc := 1180) dL_law_1180 rfl ?_
                  refine v_iconst (pc := 1182) (v := 2) dL_law_1182 rfl ?_
                  refine v_icmp_ne (pc := 1183) (tgt := 1190) dL_law_1183 (by decide) (fun c1183 => ?_) (fun c1183 => ?_)
                  · refine v_iconst (pc := 1190) (v := 0) dL_law_1190 rfl ?_
                    refine v_iadd (pc := 1191) dL_law_1191 ?_
                    refine v_istore (pc := 1192) dL_law_1192 (by show _ < 26; decide) rfl ?_
                    have e8 : cmF BF0 BF bc i = 0 := if_neg (fun q => c1183 q.2.2)
                    have es : (sumN (cmF BF0 BF bc) (i + 1)) = (sumN (cmF BF0 BF bc) i) + 0 := by
                      show (sumN (cmF BF0 BF bc) i) + cmF BF0 BF bc i = _
                      rw [e8]
                    refine v_iinc (pc := 1194) (v := nI (i + 1)) dL_law_1194 rfl (nI_1 _) (by show _ < 26; decide) rfl ?_
                    refine v_goto (pc := 1197) (tgt := 894) dL_law_1197 (by decide) ?_
                    refine v_room (ck' := ck + 12 * m) (sk' := sk + 72 * m) (by omega) (by omega) ?_
                    have k9 := ih (i + 1) (by omega)
                    rw [es] at k9
                    refine v_sub ?_ k9
                    exact ⟨rfl, rfl, rfl, rfl, rfl, rfl, rfl, rfl, rfl, rfl, rfl, rfl, rfl, rfl, rfl, trivial⟩
                  · refine v_iconst (pc := 1186) (v := 1) dL_law_1186 rfl ?_
                    refine v_goto (pc := 1187) (tgt := 1191) dL_law_1187 (by decide) ?_
                    refine v_iadd (pc := 1191) dL_law_1191 ?_
                    refine v_istore (pc := 1192) dL_law_1192 (by show _ < 26; decide) rfl ?_
                    have e8 : cmF BF0 BF bc i = 1 := if_pos ⟨hi, c1021, c1183⟩
                    have es : (sumN (cmF BF0 BF bc) (i + 1)) = (sumN (cmF BF0 BF bc) i) + 1 := by
                      show (sumN (cmF BF0 BF bc) i) + cmF BF0 BF bc i = _
                      rw [e8]
                    refine v_iinc (pc := 1194) (v := nI (i + 1)) dL_law_1194 rfl (nI_1 _) (by show _ < 26; decide) rfl ?_
                    refine v_goto (pc := 1197) (tgt := 894) dL_law_1197 (by decide) ?_
                    refine v_room (ck' := ck + 12 * m) (sk' := sk + 72 * m) (by omega) (by omega) ?_
                    have k9 := ih (i + 1) (by omega)
                    rw [es] at k9
                    refine v_sub ?_ k9
                    exact ⟨rfl, rfl, rfl, rfl, rfl, rfl, rfl, rfl, rfl, rfl, rfl, rfl, rfl, rfl, rfl, trivial⟩
              · refine v_iconst (pc := 1108) (v := 3) dL_law_1108 rfl ?_
                refine v_goto (pc := 1109) (tgt := 1138) dL_law_1109 (by decide) ?_
                refine v_icmp_ne (pc := 1138) (tgt := 1176) dL_law_1138 (by decide) (fun c1138 => absurd (h3a c1105) c1138) (fun c1138 => ?_)
                refine v_iload (pc := 1141) dL_law_1141 rfl ?_
                refine v_if_eq (pc := 1143) (tgt := 1158) dL_law_1143 (by decide) (fun c1143 => ?_) (fun c1143 => absurd c1143 (by decide))
                refine v_iload (pc := 1158) dL_law_1158 rfl ?_
                refine v_iconst (pc := 1160) (v := 2) dL_law_1160 rfl ?_
                refine v_icmp_ne (pc := 1161) (tgt := 1178) dL_law_1161 (by decide) (fun c1161 => ?_) (fun c1161 => ?_)
                · refine v_iload (pc := 1178) dL_law_1178 rfl ?_
                  refine v_iload (pc := 1180) dL_law_1180 rfl ?_
                  refine v_iconst (pc := 1182) (v := 2) dL_law_1182 rfl ?_
                  refine v_icmp_ne (pc := 1183) (tgt := 1190) dL_law_1183 (by decide) (fun c1183 => ?_) (fun c1183 => ?_)
                  · refine v_iconst (pc := 1190) (v := 0) dL_law_1190 rfl ?_
                    refine v_iadd (pc := 1191) dL_law_1191 ?_
                    refine v_istore (pc := 1192) dL_law_1192 (by show _ < 26; decide) rfl ?_
                    have e8 : cmF BF0 BF bc i = 0 := if_neg (fun q => c1183 q.2.2)
                    have es : (sumN (cmF BF0 BF bc) (i + 1)) = (sumN (cmF BF0 BF bc) i) + 0 := by
                      show (sumN (cmF BF0 BF bc) i) + cmF BF0 BF bc i = _
                      rw [e8]
                    refine v_iinc (pc := 1194) (v := nI (i + 1)) dL_law_1194 rfl (nI_1 _) (by show _ < 26; decide) rfl ?_
                    refine v_goto (pc := 1197) (tgt := 894) dL_law_1197 (by decide) ?_
                    refine v_room (ck' := ck + 12 * m) (sk' := sk + 72 * m) (by omega) (by omega) ?_
                    have k9 := ih (i + 1) (by omega)
                    rw [es] at k9
                    refine v_sub ?_ k9
                    exact ⟨rfl, rfl, rfl, rfl, rfl, rfl, rfl, rfl, rfl, rfl, rfl, rfl, rfl, rfl, rfl, trivial⟩
                  · refine v_iconst (pc := 1186) (v := 1) dL_law_1186 rfl ?_
                    refine v_goto (pc := 1187) (tgt := 1191) dL_law_1187 (by decide) ?_
                    refine v_iadd (pc := 1191) dL_law_1191 ?_
                    refine v_istore (pc := 1192) dL_law_1192 (by show _ < 26; decide) rfl ?_
                    have e8 : cmF BF0 BF bc i = 1 := if_pos ⟨hi, c1021, c1183⟩
                    have es : (sumN (cmF BF0 BF bc) (i + 1)) = (sumN (cmF BF0 BF bc) i) + 1 := by
                      show (sumN (cmF BF0 BF bc) i) + cmF BF0 BF bc i = _
                      rw [e8]
                    refine v_iinc (pc := 1194) (v := nI (i + 1)) dL_law_1194 rfl (nI_1 _) (by show _ < 26; decide) rfl ?_
                    refine v_goto (pc := 1197) (tgt := 894) dL_law_1197 (by decide) ?_
                    refine v_room (ck' := ck + 12 * m) (sk' := sk + 72 * m) (by omega) (by omega) ?_
                    have k9 := ih (i + 1) (by omega)
                    rw [es] at k9
                    refine v_sub ?_ k9
                    exact ⟨rfl, rfl, rfl, rfl, rfl, rfl, rfl, rfl, rfl, rfl, rfl, rfl, rfl, rfl, rfl, trivial⟩
                · refine v_aload_nR (pc := 1164) dL_law_1164 rfl rfl ?_
                  refine v_iload (pc := 1165) dL_law_1165 rfl ?_
                  refine v_iconst (pc := 1167) (v := 4) dL_law_1167 rfl ?_
                  refine v_callV2 (pc := 1168) (c7_bag hps hsc hbc (b9 := i) (q := 4) hi (by decide)) cm_X5_bag q357 q358 q359 (ci := 5) rfl rfl (orcO 0 rfl) [0, 1, 2, 3, 4, 5, 6, 7, 8, 9, 10, 11, 12, 13, 14, 15, 16, 17] (by rfl) (by decide) (fun _ _ h => h) (by omega) (by omega) (by decide) (Nat.le_of_ble_eq_true rfl) dL_law_1168 (fun v1168 M1168 hQ1168 => ?_)
                  obtain ⟨rfl, rfl⟩ := hQ1168
                  try dsimp only [wb, tlS_0, tlS_1, tlS_2, tlS_3, tlS_4, tlS_5, tlS_6, tlS_7, tlS_8, tlC_0, tlC_1, tlC_2, tlC_3, LawM, LakeM, WaysM, WorldM, SimM, List.set_cons_succ, List.set_cons_zero, List.append_nil, List.nil_append, List.cons_append, Option.toList, Nat.sub_zero]
                  refine v_iload (pc := 1171) dL_law_1171 rfl ?_
                  refine v_icmp_eq (pc := 1173) (tgt := 1178) dL_law_1173 (by decide) (fun c1173 => ?_) (fun c1173 => absurd (h3d c1161) c1173)
                  refine v_iload (pc := 1178) dL_law_1178 rfl ?_
                  refine v_iload (pc := 1180) dL_law_1180 rfl ?_
                  refine v_iconst (pc := 1182) (v := 2) dL_law_1182 rfl ?_
                  refine v_icmp_ne (pc := 1183) (tgt := 1190) dL_law_1183 (by decide) (fun c1183 => ?_) (fun c1183 => ?_)
                  · refine v_iconst (pc := 1190) (v := 0) dL_law_1190 rfl ?_
                    refine v_iadd (pc := 1191) dL_law_1191 ?_
                    refine v_istore (pc := 1192) dL_law_1192 (by show _ < 26; decide) rfl ?_
                    have e8 : cmF BF0 BF bc i = 0 := if_neg (fun q => c1183 q.2.2)
                    have es : (sumN (cmF BF0 BF bc) (i + 1)) = (sumN (cmF BF0 BF bc) i) + 0 := by
                      show (sumN (cmF BF0 BF bc) i) + cmF BF0 BF bc i = _
                      rw [e8]
                    refine v_iinc (pc := 1194) (v := nI (i + 1)) dL_law_1194 rfl (nI_1 _) (by show _ < 26; decide) rfl ?_
                    refine v_goto (pc := 1197) (tgt := 894) dL_law_1197 (by decide) ?_
                    refine v_room (ck' := ck + 12 * m) (sk' := sk + 72 * m) (by omega) (by omega) ?_
                    have k9 := ih (i + 1) (by omega)
                    rw [es] at k9
                    refine v_sub ?_ k9
                    exact ⟨rfl, rfl, rfl, rfl, rfl, rfl, rfl, rfl, rfl, rfl, rfl, rfl, rfl, rfl, rfl, trivial⟩
                  · refine v_iconst (pc := 1186) (v := 1) dL_law_1186 rfl ?_
                    refine v_goto (pc := 1187) (tgt := 1191) dL_law_1187 (by decide) ?_
                    refine v_iadd (pc := 1191) dL_law_1191 ?_
                    refine v_istore (pc := 1192) dL_law_1192 (by show _ < 26; decide) rfl ?_
                    have e8 : cmF BF0 BF bc i = 1 := if_pos ⟨hi, c1021, c1183⟩
                    have es : (sumN (cmF BF0 BF bc) (i + 1)) = (sumN (cmF BF0 BF bc) i) + 1 := by
                      show (sumN (cmF BF0 BF bc) i) + cmF BF0 BF bc i = _
                      rw [e8]
                    refine v_iinc (pc := 1194) (v := nI (i + 1)) dL_law_1194 rfl (nI_1 _) (by show _ < 26; decide) rfl ?_
                    refine v_goto (pc := 1197) (tgt := 894) dL_law_1197 (by decide) ?_
                    refine v_room (ck' := ck + 12 * m) (sk' := sk + 72 * m) (by omega) (by omega) ?_
                    have k9 := ih (i + 1) (by omega)
                    rw [es] at k9
                    refine v_sub ?_ k9
                    exact ⟨rfl, rfl, rfl, rfl, rfl, rfl, rfl, rfl, rfl, rfl, rfl, rfl, rfl, rfl, rfl, trivial⟩
            · refine v_iconst (pc := 1075) (v := 1) dL_law_1075 rfl ?_
              refine v_goto (pc := 1076) (tgt := 1080) dL_law_1076 (by decide) ?_
              refine v_istore (pc := 1080) dL_law_1080 (by show _ < 26; decide) rfl ?_
              refine v_iload (pc := 1082) dL_law_1082 rfl ?_
              refine v_if_eq (pc := 1084) (tgt := 1097) dL_law_1084 (by decide) (fun c1084 => absurd c1084 (by decide)) (fun c1084 => ?_)
              refine v_aload_nR (pc := 1087) dL_law_1087 rfl rfl ?_
              refine v_iload (pc := 1088) dL_law_1088 rfl ?_
              refine v_iconst (pc := 1090) (v := 5) dL_law_1090 rfl ?_
              refine v_callV2 (pc := 1091) (c7_sleigh hps hsc hbc (s := n9) (q := 5) hn9 (by decide)) cm_X5_sleigh q323 q324 q325 (ci := 5) rfl rfl (orcO 0 rfl) [0, 1, 2, 3, 4, 5, 6, 7, 8, 9, 10, 11, 12, 13, 14, 15, 16, 17] (by rfl) (by decide) (fun _ _ h => h) (by omega) (by omega) (by decide) (Nat.le_of_ble_eq_true rfl) dL_law_1091 (fun v1091 M1091 hQ1091 => ?_)
              obtain ⟨rfl, rfl⟩ := hQ1091
              try dsimp only [wb, tlS_0, tlS_1, tlS_2, tlS_3, tlS_4, tlS_5, tlS_6, tlS_7, tlS_8, tlC_0, tlC_1, tlC_2, tlC_3, LawM, LakeM, WaysM, WorldM, SimM, List.set_cons_succ, List.set_cons_zero, List.append_nil, List.nil_append, List.cons_append, Option.toList, Nat.sub_zero]
              refine v_goto (pc := 1094) (tgt := 1098) dL_law_1094 (by decide) ?_
              refine v_istore (pc := 1098) dL_law_1098 (by show _ < 26; decide) rfl ?_
              refine v_iload (pc := 1100) dL_law_1100 rfl ?_
              refine v_iload (pc := 1102) dL_law_1102 rfl ?_
              refine v_iconst (pc := 1104) (v := 2) dL_law_1104 rfl ?_
              refine v_icmp_ne (pc := 1105) (tgt := 1112) dL_law_1105 (by decide) (fun c1105 => ?_) (fun c1105 => ?_)
              · refine v_iload (pc := 1112) dL_law_1112 rfl ?_
                refine v_if_eq (pc := 1114) (tgt := 1137) dL_law_1114 (by decide) (fun c1114 => absurd c1114 (by decide)) (fun c1114 => ?_)
                refine v_iload (pc := 1117) dL_law_1117 rfl ?_
                refine v_aloadR (pc := 1119) dL_law_1119 rfl ?_
                refine v_iload (pc := 1121) dL_law_1121 rfl ?_
                refine v_aaldS (pc := 1123) 52 (k := i) (by decide) rfl (by omega) (by omega) dL_law_1123 ?_
                refine v_iconst (pc := 1124) (v := 1) dL_law_1124 rfl ?_
                refine v_ialdGN (pc := 1125) 53 (j := 1) rfl (by omega) (by decide) (by decide) dL_law_1125 ?_
                try dsimp only [wb, tlS_0, tlS_1, tlS_2, tlS_3, tlS_4, tlS_5, tlS_6, tlS_7, tlS_8, tlC_0, tlC_1, tlC_2, tlC_3, LawM, LakeM, WaysM, WorldM, SimM, List.set_cons_succ, List.set_cons_zero, List.append_nil, List.nil_append, List.cons_append, Option.toList, Nat.sub_zero]
                refine v_icmp_ne (pc := 1126) (tgt := 1133) dL_law_1126 (by decide) (fun c1126 => ?_) (fun c1126 => ?_)
                · refine v_iconst (pc := 1133) (v := 0) dL_law_1133 rfl ?_
                  refine v_goto (pc := 1134) (tgt := 1138) dL_law_1134 (by decide) ?_
                  refine v_icmp_ne (pc := 1138) (tgt := 1176) dL_law_1138 (by decide) (fun c1138 => absurd ((h3b (fun q => absurd (c1061.symm.trans q) (by decide)) ⟨c1061, c1072⟩).1.trans (if_neg c1126)) c1138) (fun c1138 => ?_)
                  refine v_iload (pc := 1141) dL_law_1141 rfl ?_
                  refine v_if_eq (pc := 1143) (tgt := 1158) dL_law_1143 (by decide) (fun c1143 => absurd c1143 (by decide)) (fun c1143 => ?_)
                  refine v_aload_nR (pc := 1146) dL_law_1146 rfl rfl ?_
                  refine v_iload (pc := 1147) dL_law_1147 rfl ?_
                  refine v_iconst (pc := 1149) (v := 3) dL_law_1149 rfl ?_
                  refine v_callV2 (pc := 1150) (c7_bag hps hsc hbc (b9 := i) (q := 3) hi (by decide)) cm_X5_bag q357 q358 q359 (ci := 5) rfl rfl (orcO 0 rfl) [0, 1, 2, 3, 4, 5, 6, 7, 8, 9, 10, 11, 12, 13, 14, 15, 16, 17] (by rfl) (by decide) (fun _ _ h => h) (by omega) (by omega) (by decide) (Nat.le_of_ble_eq_true rfl) dL_law_1150 (fun v1150 M1150 hQ1150 => ?_)
                  obtain ⟨rfl, rfl⟩ := hQ1150
                  try dsimp only [wb, tlS_0, tlS_1, tlS_2, tlS_3, tlS_4, tlS_5, tlS_6, tlS_7, tlS_8, tlC_0, tlC_1, tlC_2, tlC_3, LawM, LakeM, WaysM, WorldM, SimM, List.set_cons_succ, List.set_cons_zero, List.append_nil, List.nil_append, List.cons_append, Option.toList, Nat.sub_zero]
                  refine v_iload (pc := 1153) dL_law_1153 rfl ?_
                  refine v_icmp_ne (pc := 1155) (tgt := 1176) dL_law_1155 (by decide) (fun c1155 => absurd (h3b (fun q => absurd (c1061.symm.trans q) (by decide)) ⟨c1061, c1072⟩).2 c1155) (fun c1155 => ?_)
                  refine v_iload (pc := 1158) dL_law_1158 rfl ?_
                  refine v_iconst (pc := 1160) (v := 2) dL_law_1160 rfl ?_
                  refine v_icmp_ne (pc := 1161) (tgt := 1178) dL_law_1161 (by decide) (fun c1161 => ?_) (fun c1161 => ?_)
                  · refine v_iload (pc := 1178) dL_law_1178 rfl ?_
                    refine v_iload (pc := 1180) dL_law_1180 rfl ?_
                    refine v_iconst (pc := 1182) (v := 2) dL_law_1182 rfl ?_
                    refine v_icmp_ne (pc := 1183) (tgt := 1190) dL_law_1183 (by decide) (fun c1183 => ?_) (fun c1183 => ?_)
                    · refine v_iconst (pc := 1190) (v := 0) dL_law_1190 rfl ?_
                      refine v_iadd (pc := 1191) dL_law_1191 ?_
                      refine v_istore (pc := 1192) dL_law_1192 (by show _ < 26; decide) rfl ?_
                      have e8 : cmF BF0 BF bc i = 0 := if_neg (fun q => c1183 q.2.2)
                      have es : (sumN (cmF BF0 BF bc) (i + 1)) = (sumN (cmF BF0 BF bc) i) + 0 := by
                        show (sumN (cmF BF0 BF bc) i) + cmF BF0 BF bc i = _
                        rw [e8]
                      refine v_iinc (pc := 1194) (v := nI (i + 1)) dL_law_1194 rfl (nI_1 _) (by show _ < 26; decide) rfl ?_
                      refine v_goto (pc := 1197) (tgt := 894) dL_law_1197 (by decide) ?_
                      refine v_room (ck' := ck + 12 * m) (sk' := sk + 72 * m) (by omega) (by omega) ?_
                      have k9 := ih (i + 1) (by omega)
                      rw [es] at k9
                      refine v_sub ?_ k9
                      exact ⟨rfl, rfl, rfl, rfl, rfl, rfl, rfl, rfl, rfl, rfl, rfl, rfl, rfl, rfl, rfl, trivial⟩
                    · refine v_iconst (pc := 1186) (v := 1) dL_law_1186 rfl ?_
                      refine v_goto (pc := 1187) (tgt := 1191) dL_law_1187 (by decide) ?_
                      refine v_iadd (pc := 1191) dL_law_1191 ?_
                      refine v_istore (pc := 1192) dL_law_1192 (by show _ < 26; decide) rfl ?_
                      have e8 : cmF BF0 BF bc i = 1 := if_pos ⟨hi, c1021, c1183⟩
                      have es : (sumN (cmF BF0 BF bc) (i + 1)) = (sumN (cmF BF0 BF bc) i) + 1 := by
                        show (sumN (cmF BF0 BF bc) i) + cmF BF0 BF bc i = _
                        rw [e8]
                      refine v_iinc (pc := 1194) (v := nI (i + 1)) dL_law_1194 rfl (nI_1 _) (by show _ < 26; decide) rfl ?_
                      refine v_goto (pc := 1197) (tgt := 894) dL_law_1197 (by decide) ?_
                      refine v_room (ck' := ck + 12 * m) (sk' := sk + 72 * m) (by omega) (by omega) ?_
                      have k9 := ih (i + 1) (by omega)
                      rw [es] at k9
                      refine v_sub ?_ k9
                      exact ⟨rfl, rfl, rfl, rfl, rfl, rfl, rfl, rfl, rfl, rfl, rfl, rfl, rfl, rfl, rfl, trivial⟩
                  · refine v_aload_nR (pc := 1164) dL_law_1164 rfl rfl ?_
                    refine v_iload (pc := 1165) dL_law_1165 rfl ?_
                    refine v_iconst (pc := 1167) (v := 4) dL_law_1167 rfl ?_
                    refine v_callV2 (pc := 1168) (c7_bag hps hsc hbc (b9 := i) (q := 4) hi (by decide)) cm_X5_bag q357 q358 q359 (ci := 5) rfl rfl (orcO 0 rfl) [0, 1, 2, 3, 4, 5, 6, 7, 8, 9, 10, 11, 12, 13, 14, 15, 16, 17] (by rfl) (by decide) (fun _ _ h => h) (by omega) (by omega) (by decide) (Nat.le_of_ble_eq_true rfl) dL_law_1168 (fun v1168 M1168 hQ1168 => ?_)
                    obtain ⟨rfl, rfl⟩ := hQ1168
                    try dsimp only [wb, tlS_0, tlS_1, tlS_2, tlS_3, tlS_4, tlS_5, tlS_6, tlS_7, tlS_8, tlC_0, tlC_1, tlC_2, tlC_3, LawM, LakeM, WaysM, WorldM, SimM, List.set_cons_succ, List.set_cons_zero, List.append_nil, List.nil_append, List.cons_append, Option.toList, Nat.sub_zero]
                    refine v_iload (pc := 1171) dL_law_1171 rfl ?_
                    refine v_icmp_eq (pc := 1173) (tgt := 1178) dL_law_1173 (by decide) (fun c1173 => ?_) (fun c1173 => absurd (h3d c1161) c1173)
                    refine v_iload (pc := 1178) dL_law_1178 rfl ?_
                    refine v_iload (pc := 1180) dL_law_1180 rfl ?_
                    refine v_iconst (pc := 1182) (v := 2) dL_law_1182 rfl ?_
                    refine v_icmp_ne (pc := 1183) (tgt := 1190) dL_law_1183 (by decide) (fun c1183 => ?_) (fun c1183 => ?_)
                    · refine v_iconst (pc := 1190) (v := 0) dL_law_1190 rfl ?_
                      refine v_iadd (pc := 1191) dL_law_1191 ?_
                      refine v_istore (pc := 1192) dL_law_1192 (by show _ < 26; decide) rfl ?_
                      have e8 : cmF BF0 BF bc i = 0 := if_neg (fun q => c1183 q.2.2)
                      have es : (sumN (cmF BF0 BF bc) (i + 1)) = (sumN (cmF BF0 BF bc) i) + 0 := by
                        show (sumN (cmF BF0 BF bc) i) + cmF BF0 BF bc i = _
                        rw [e8]
                      refine v_iinc (pc := 1194) (v := nI (i + 1)) dL_law_1194 rfl (nI_1 _) (by show _ < 26; decide) rfl ?_
                      refine v_goto (pc := 1197) (tgt := 894) dL_law_1197 (by decide) ?_
                      refine v_room (ck' := ck + 12 * m) (sk' := sk + 72 * m) (by omega) (by omega) ?_
                      have k9 := ih (i + 1) (by omega)
                      rw [es] at k9
                      refine v_sub ?_ k9
                      exact ⟨rfl, rfl, rfl, rfl, rfl, rfl, rfl, rfl, rfl, rfl, rfl, rfl, rfl, rfl, rfl, trivial⟩
                    · refine v_iconst (pc := 1186) (v := 1) dL_law_1186 rfl ?_
                      refine v_goto (pc := 1187) (tgt := 1191) dL_law_1187 (by decide) ?_
                      refine v_iadd (pc := 1191) dL_law_1191 ?_
                      refine v_istore (pc := 1192) dL_law_1192 (by show _ < 26; decide) rfl ?_
                      have e8 : cmF BF0 BF bc i = 1 := if_pos ⟨hi, c1021, c1183⟩
                      have es : (sumN (cmF BF0 BF bc) (i + 1)) = (sumN (cmF BF0 BF bc) i) + 1 := by
                        show (sumN (cmF BF0 BF bc) i) + cmF BF0 BF bc i = _
                        rw [e8]
                      refine v_iinc (pc := 1194) (v := nI (i + 1)) dL_law_1194 rfl (nI_1 _) (by show _ < 26; decide) rfl ?_
                      refine v_goto (pc := 1197) (tgt := 894) dL_law_1197 (by decide) ?_
                      refine v_room (ck' := ck + 12 * m) (sk' := sk + 72 * m) (by omega) (by omega) ?_
                      have k9 := ih (i + 1) (by omega)
                      rw [es] at k9
                      refine v_sub ?_ k9
                      exact ⟨rfl, rfl, rfl, rfl, rfl, rfl, rfl, rfl, rfl, rfl, rfl, rfl, rfl, rfl, rfl, trivial⟩
                · refine v_iconst (pc := 1129) (v := 2) dL_law_1129 rfl ?_
                  refine v_goto (pc := 1130) (tgt := 1138) dL_law_1130 (by decide) ?_
                  refine v_icmp_ne (pc := 1138) (tgt := 1176) dL_law_1138 (by decide) (fun c1138 => absurd ((h3b (fun q => absurd (c1061.symm.trans q) (by decide)) ⟨c1061, c1072⟩).1.trans (if_pos c1126)) c1138) (fun c1138 => ?_)
                  refine v_iload (pc := 1141) dL_law_1141 rfl ?_
                  refine v_if_eq (pc := 1143) (tgt := 1158) dL_law_1143 (by decide) (fun c1143 => absurd c1143 (by decide)) (fun c1143 => ?_)
                  refine v_aload_nR (pc := 1146) dL_law_1146 rfl rfl ?_
                  refine v_iload (pc := 1147) dL_law_1147 rfl ?_
                  refine v_iconst (pc := 1149) (v := 3) dL_law_1149 rfl ?_
                  refine v_callV2 (pc := 1150) (c7_bag hps hsc hbc (b9 := i) (q := 3) hi (by decide)) cm_X5_bag q357 q358 q359 (ci := 5) rfl rfl (orcO 0 rfl) [0, 1, 2, 3, 4, 5, 6, 7, 8, 9, 10, 11, 12, 13, 14, 15, 16, 17] (by rfl) (by decide) (fun _ _ h => h) (by omega) (by omega) (by decide) (Nat.le_of_ble_eq_true rfl) dL_law_1150 (fun v1150 M1150 hQ1150 => ?_)
                  obtain ⟨rfl, rfl⟩ := hQ1150
                  try dsimp only [wb, tlS_0, tlS_1, tlS_2, tlS_3, tlS_4, tlS_5, tlS_6, tlS_7, tlS_8, tlC_0, tlC_1, tlC_2, tlC_3, LawM, LakeM, WaysM, WorldM, SimM, List.set_cons_succ, List.set_cons_zero, List.append_nil, List.nil_append, List.cons_append, Option.toList, Nat.sub_zero]
                  refine v_iload (pc := 1153) dL_law_1153 rfl ?_
                  refine v_icmp_ne (pc := 1155) (tgt := 1176) dL_law_1155 (by decide) (fun c1155 => absurd (h3b (fun q => absurd (c1061.symm.trans q) (by decide)) ⟨c1061, c1072⟩).2 c1155) (fun c1155 => ?_)
                  refine v_iload (pc := 1158) dL_law_1158 rfl ?_
                  refine v_iconst (pc := 1160) (v := 2) dL_law_1160 rfl ?_
                  refine v_icmp_ne (pc := 1161) (tgt := 1178) dL_law_1161 (by decide) (fun c1161 => ?_) (fun c1161 => ?_)
                  · refine v_iload (pc := 1178) dL_law_1178 rfl ?_
                    refine v_iload (pc := 1180) dL_law_1180 rfl ?_
                    refine v_iconst (pc := 1182) (v := 2) dL_law_1182 rfl ?_
                    refine v_icmp_ne (pc := 1183) (tgt := 1190) dL_law_1183 (by decide) (fun c1183 => ?_) (fun c1183 => ?_)
                    · refine v_iconst (pc := 1190) (v := 0) dL_law_1190 rfl ?_
                      refine v_iadd (pc := 1191) dL_law_1191 ?_
                      refine v_istore (pc := 1192) dL_law_1192 (by show _ < 26; decide) rfl ?_
                      have e8 : cmF BF0 BF bc i = 0 := if_neg (fun q => c1183 q.2.2)
                      have es : (sumN (cmF BF0 BF bc) (i + 1)) = (sumN (cmF BF0 BF bc) i) + 0 := by
                        show (sumN (cmF BF0 BF bc) i) + cmF BF0 BF bc i = _
                        rw [e8]
                      refine v_iinc (pc := 1194) (v := nI (i + 1)) dL_law_1194 rfl (nI_1 _) (by show _ < 26; decide) rfl ?_
                      refine v_goto (pc := 1197) (tgt := 894) dL_law_1197 (by decide) ?_
                      refine v_room (ck' := ck + 12 * m) (sk' := sk + 72 * m) (by omega) (by omega) ?_
                      have k9 := ih (i + 1) (by omega)
                      rw [es] at k9
                      refine v_sub ?_ k9
                      exact ⟨rfl, rfl, rfl, rfl, rfl, rfl, rfl, rfl, rfl, rfl, rfl, rfl, rfl, rfl, rfl, trivial⟩
                    · refine v_iconst (pc := 1186) (v := 1) dL_law_1186 rfl ?_
                      refine v_goto (pc := 1187) (tgt := 1191) dL_law_1187 (by decide) ?_
                      refine v_iadd (pc := 1191) dL_law_1191 ?_
                      refine v_istore (pc := 1192) dL_law_1192 (by show _ < 26; decide) rfl ?_
                      have e8 : cmF BF0 BF bc i = 1 := if_pos ⟨hi, c1021, c1183⟩
                      have es : (sumN (cmF BF0 BF bc) (i + 1)) = (sumN (cmF BF0 BF bc) i) + 1 := by
                        show (sumN (cmF BF0 BF bc) i) + cmF BF0 BF bc i = _
                        rw [e8]
                      refine v_iinc (pc := 1194) (v := nI (i + 1)) dL_law_1194 rfl (nI_1 _) (by show _ < 26; decide) rfl ?_
                      refine v_goto (pc := 1197) (tgt := 894) dL_law_1197 (by decide) ?_
                      refine v_room (ck' := ck + 12 * m) (sk' := sk + 72 * m) (by omega) (by omega) ?_
                      have k9 := ih (i + 1) (by omega)
                      rw [es] at k9
                      refine v_sub ?_ k9
                      exact ⟨rfl, rfl, rfl, rfl, rfl, rfl, rfl, rfl, rfl, rfl, rfl, rfl, rfl, rfl, rfl, trivial⟩
                  · refine v_aload_nR (pc := 1164) dL_law_1164 rfl rfl ?_
                    refine v_iload (pc := 1165) dL_law_1165 rfl ?_
                    refine v_iconst (pc := 1167) (v := 4) dL_law_1167 rfl ?_
                    refine v_callV2 (pc := 1168) (c7_bag hps hsc hbc (b9 := i) (q := 4) hi (by decide)) cm_X5_bag q357 q358 q359 (ci := 5) rfl rfl (orcO 0 rfl) [0, 1, 2, 3, 4, 5, 6, 7, 8, 9, 10, 11, 12, 13, 14, 15, 16, 17] (by rfl) (by decide) (fun _ _ h => h) (by omega) (by omega) (by decide) (Nat.le_of_ble_eq_true rfl) dL_law_1168 (fun v1168 M1168 hQ1168 => ?_)
                    obtain ⟨rfl, rfl⟩ := hQ1168
                    try dsimp only [wb, tlS_0, tlS_1, tlS_2, tlS_3, tlS_4, tlS_5, tlS_6, tlS_7, tlS_8, tlC_0, tlC_1, tlC_2, tlC_3, LawM, LakeM, WaysM, WorldM, SimM, List.set_cons_succ, List.set_cons_zero, List.append_nil, List.nil_append, List.cons_append, Option.toList, Nat.sub_zero]
                    refine v_iload (pc := 1171) dL_law_1171 rfl ?_
                    refine v_icmp_eq (pc := 1173) (tgt := 1178) dL_law_1173 (by decide) (fun c1173 => ?_) (fun c1173 => absurd (h3d c1161) c1173)
                    refine v_iload (pc := 1178) dL_law_1178 rfl ?_
                    refine v_iload (pc := 1180) dL_law_1180 rfl ?_
                    refine v_iconst (pc := 1182) (v := 2) dL_law_1182 rfl ?_
                    refine v_icmp_ne (pc := 1183) (tgt := 1190) dL_law_1183 (by decide) (fun c1183 => ?_) (fun c1183 => ?_)
                    · refine v_iconst (pc := 1190) (v := 0) dL_law_1190 rfl ?_
                      refine v_iadd (pc := 1191) dL_law_1191 ?_
                      refine v_istore (pc := 1192) dL_law_1192 (by show _ < 26; decide) rfl ?_
                      have e8 : cmF BF0 BF bc i = 0 := if_neg (fun q => c1183 q.2.2)
                      have es : (sumN (cmF BF0 BF bc) (i + 1)) = (sumN (cmF BF0 BF bc) i) + 0 := by
                        show (sumN (cmF BF0 BF bc) i) + cmF BF0 BF bc i = _
                        rw [e8]
                      refine v_iinc (pc := 1194) (v := nI (i + 1)) dL_law_1194 rfl (nI_1 _) (by show _ < 26; decide) rfl ?_
                      refine v_goto (pc := 1197) (tgt := 894) dL_law_1197 (by decide) ?_
                      refine v_room (ck' := ck + 12 * m) (sk' := sk + 72 * m) (by omega) (by omega) ?_
                      have k9 := ih (i + 1) (by omega)
                      rw [es] at k9
                      refine v_sub ?_ k9
                      exact ⟨rfl, rfl, rfl, rfl, rfl, rfl, rfl, rfl, rfl, rfl, rfl, rfl, rfl, rfl, rfl, trivial⟩
                    · refine v_iconst (pc := 1186) (v := 1) dL_law_1186 rfl ?_
                      refine v_goto (pc := 1187) (tgt := 1191) dL_law_1187 (by decide) ?_
                      refine v_iadd (pc := 1191) dL_law_1191 ?_
                      refine v_istore (pc := 1192) dL_law_1192 (by show _ < 26; decide) rfl ?_
                      have e8 : cmF BF0 BF bc i = 1 := if_pos ⟨hi, c1021, c1183⟩
                      have es : (sumN (cmF BF0 BF bc) (i + 1)) = (sumN (cmF BF0 BF bc) i) + 1 := by
                        show (sumN (cmF BF0 BF bc) i) + cmF BF0 BF bc i = _
                        rw [e8]
                      refine v_iinc (pc := 1194) (v := nI (i + 1)) dL_law_1194 rfl (nI_1 _) (by show _ < 26; decide) rfl ?_
                      refine v_goto (pc := 1197) (tgt := 894) dL_law_1197 (by decide) ?_
                      refine v_room (ck' := ck + 12 * m) (sk' := sk + 72 * m) (by omega) (by omega) ?_
                      have k9 := ih (i + 1) (by omega)
                      rw [es] at k9
                      refine v_sub ?_ k9
                      exact ⟨rfl, rfl, rfl, rfl, rfl, rfl, rfl, rfl, rfl, rfl, rfl, rfl, rfl, rfl, rfl, trivial⟩
              · refine v_iconst (pc := 1108) (v := 3) dL_law_1108 rfl ?_
                refine v_goto (pc := 1109) (tgt := 1138) dL_law_1109 (by decide) ?_
                refine v_icmp_ne (pc := 1138) (tgt := 1176) dL_law_1138 (by decide) (fun c1138 => absurd (h3a c1105) c1138) (fun c1138 => ?_)
                refine v_iload (pc := 1141) dL_law_1141 rfl ?_
                refine v_if_eq (pc := 1143) (tgt := 1158) dL_law_1143 (by decide) (fun c1143 => absurd c1143 (by decide)) (fun c1143 => ?_)
                refine v_aload_nR (pc := 1146) dL_law_1146 rfl rfl ?_
                refine v_iload (pc := 1147) dL_law_1147 rfl ?_
                refine v_iconst (pc := 1149) (v := 3) dL_law_1149 rfl ?_
                refine v_callV2 (pc := 1150) (c7_bag hps hsc hbc (b9 := i) (q := 3) hi (by decide)) cm_X5_bag q357 q358 q359 (ci := 5) rfl rfl (orcO 0 rfl) [0, 1, 2, 3, 4, 5, 6, 7, 8, 9, 10, 11, 12, 13, 14, 15, 16, 17] (by rfl) (by decide) (fun _ _ h => h) (by omega) (by omega) (by decide) (Nat.le_of_ble_eq_true rfl) dL_law_1150 (fun v1150 M1150 hQ1150 => ?_)
                obtain ⟨rfl, rfl⟩ := hQ1150
                try dsimp only [wb, tlS_0, tlS_1, tlS_2, tlS_3, tlS_4, tlS_5, tlS_6, tlS_7, tlS_8, tlC_0, tlC_1, tlC_2, tlC_3, LawM, LakeM, WaysM, WorldM, SimM, List.set_cons_succ, List.set_cons_zero, List.append_nil, List.nil_append, List.cons_append, Option.toList, Nat.sub_zero]
                refine v_iload (pc := 1153) dL_law_1153 rfl ?_
                refine v_icmp_ne (pc := 1155) (tgt := 1176) dL_law_1155 (by decide) (fun c1155 => absurd (h3b (fun q => absurd (c1061.symm.trans q) (by decide)) ⟨c1061, c1072⟩).2 c1155) (fun c1155 => ?_)
                refine v_iload (pc := 1158) dL_law_1158 rfl ?_
                refine v_iconst (pc := 1160) (v := 2) dL_law_1160 rfl ?_
                refine v_icmp_ne (pc := 1161) (tgt := 1178) dL_law_1161 (by decide) (fun c1161 => ?_) (fun c1161 => ?_)
                · refine v_iload (pc := 1178) dL_law_1178 rfl ?_
                  refine v_iload (pc := 1180) dL_law_1180 rfl ?_
                  refine v_iconst (pc := 1182) (v := 2) dL_law_1182 rfl ?_
                  refine v_icmp_ne (pc := 1183) (tgt := 1190) dL_law_1183 (by decide) (fun c1183 => ?_) (fun c1183 => ?_)
                  · refine v_iconst (pc := 1190) (v := 0) dL_law_1190 rfl ?_
                    refine v_iadd (pc := 1191) dL_law_1191 ?_
                    refine v_istore (pc := 1192) dL_law_1192 (by show _ < 26; decide) rfl ?_
                    have e8 : cmF BF0 BF bc i = 0 := if_neg (fun q => c1183 q.2.2)
                    have es : (sumN (cmF BF0 BF bc) (i + 1)) = (sumN (cmF BF0 BF bc) i) + 0 := by
                      show (sumN (cmF BF0 BF bc) i) + cmF BF0 BF bc i = _
                      rw [e8]
                    refine v_iinc (pc := 1194) (v := nI (i + 1)) dL_law_1194 rfl (nI_1 _) (by show _ < 26; decide) rfl ?_
                    refine v_goto (pc := 1197) (tgt := 894) dL_law_1197 (by decide) ?_
                    refine v_room (ck' := ck + 12 * m) (sk' := sk + 72 * m) (by omega) (by omega) ?_
                    have k9 := ih (i + 1) (by omega)
                    rw [es] at k9
                    refine v_sub ?_ k9
                    exact ⟨rfl, rfl, rfl, rfl, rfl, rfl, rfl, rfl, rfl, rfl, rfl, rfl, rfl, rfl, rfl, trivial⟩
                  · refine v_iconst (pc := 1186) (v := 1) dL_law_1186 rfl ?_
                    refine v_goto (pc := 1187) (tgt := 1191) dL_law_1187 (by decide) ?_
                    refine v_iadd (pc := 1191) dL_law_1191 ?_
                    refine v_istore (pc := 1192) dL_law_1192 (by show _ < 26; decide) rfl ?_
                    have e8 : cmF BF0 BF bc i = 1 := if_pos ⟨hi, c1021, c1183⟩
                    have es : (sumN (cmF BF0 BF bc) (i + 1)) = (sumN (cmF BF0 BF bc) i) + 1 := by
                      show (sumN (cmF BF0 BF bc) i) + cmF BF0 BF bc i = _
                      rw [e8]
                    refine v_iinc (pc := 1194) (v := nI (i + 1)) dL_law_1194 rfl (nI_1 _) (by show _ < 26; decide) rfl ?_
                    refine v_goto (pc := 1197) (tgt := 894) dL_law_1197 (by decide) ?_
                    refine v_room (ck' := ck + 12 * m) (sk' := sk + 72 * m) (by omega) (by omega) ?_
                    have k9 := ih (i + 1) (by omega)
                    rw [es] at k9
                    refine v_sub ?_ k9
                    exact ⟨rfl, rfl, rfl, rfl, rfl, rfl, rfl, rfl, rfl, rfl, rfl, rfl, rfl, rfl, rfl, trivial⟩
                · refine v_aload_nR (pc := 1164) dL_law_1164 rfl rfl ?_
                  refine v_iload (pc := 1165) dL_law_1165 rfl ?_
                  refine v_iconst (pc := 1167) (v := 4) dL_law_1167 rfl ?_
                  refine v_callV2 (pc := 1168) (c7_bag hps hsc hbc (b9 := i) (q := 4) hi (by decide)) cm_X5_bag q357 q358 q359 (ci := 5) rfl rfl (orcO 0 rfl) [0, 1, 2, 3, 4, 5, 6, 7, 8, 9, 10, 11, 12, 13, 14, 15, 16, 17] (by rfl) (by decide) (fun _ _ h => h) (by omega) (by omega) (by decide) (Nat.le_of_ble_eq_true rfl) dL_law_1168 (fun v1168 M1168 hQ1168 => ?_)
                  obtain ⟨rfl, rfl⟩ := hQ1168
                  try dsimp only [wb, tlS_0, tlS_1, tlS_2, tlS_3, tlS_4, tlS_5, tlS_6, tlS_7, tlS_8, tlC_0, tlC_1, tlC_2, tlC_3, LawM, LakeM, WaysM, WorldM, SimM, List.set_cons_succ, List.set_cons_zero, List.append_nil, List.nil_append, List.cons_append, Option.toList, Nat.sub_zero]
                  refine v_iload (pc := 1171) dL_law_1171 rfl ?_
                  refine v_icmp_eq (pc := 1173) (tgt := 1178) dL_law_1173 (by decide) (fun c1173 => ?_) (fun c1173 => absurd (h3d c1161) c1173)
                  refine v_iload (pc := 1178) dL_law_1178 rfl ?_
                  refine v_iload (pc := 1180) dL_law_1180 rfl ?_
                  refine v_iconst (pc := 1182) (v := 2) dL_law_1182 rfl ?_
                  refine v_icmp_ne (pc := 1183) (tgt := 1190) dL_law_1183 (by decide) (fun c1183 => ?_) (fun c1183 => ?_)
                  · refine v_iconst (pc := 1190) (v := 0) dL_law_1190 rfl ?_
                    refine v_iadd (pc := 1191) dL_law_1191 ?_
                    refine v_istore (pc := 1192) dL_law_1192 (by show _ < 26; decide) rfl ?_
                    have e8 : cmF BF0 BF bc i = 0 := if_neg (fun q => c1183 q.2.2)
                    have es : (sumN (cmF BF0 BF bc) (i + 1)) = (sumN (cmF BF0 BF bc) i) + 0 := by
                      show (sumN (cmF BF0 BF bc) i) + cmF BF0 BF bc i = _
                      rw [e8]
                    refine v_iinc (pc := 1194) (v := nI (i + 1)) dL_law_1194 rfl (nI_1 _) (by show _ < 26; decide) rfl ?_
                    refine v_goto (pc := 1197) (tgt := 894) dL_law_1197 (by decide) ?_
                    refine v_room (ck' := ck + 12 * m) (sk' := sk + 72 * m) (by omega) (by omega) ?_
                    have k9 := ih (i + 1) (by omega)
                    rw [es] at k9
                    refine v_sub ?_ k9
                    exact ⟨rfl, rfl, rfl, rfl, rfl, rfl, rfl, rfl, rfl, rfl, rfl, rfl, rfl, rfl, rfl, trivial⟩
                  · refine v_iconst (pc := 1186) (v := 1) dL_law_1186 rfl ?_
                    refine v_goto (pc := 1187) (tgt := 1191) dL_law_1187 (by decide) ?_
                    refine v_iadd (pc := 1191) dL_law_1191 ?_
                    refine v_istore (pc := 1192) dL_law_1192 (by show _ < 26; decide) rfl ?_
                    have e8 : cmF BF0 BF bc i = 1 := if_pos ⟨hi, c1021, c1183⟩
                    have es : (sumN (cmF BF0 BF bc) (i + 1)) = (sumN (cmF BF0 BF bc) i) + 1 := by
                      show (sumN (cmF BF0 BF bc) i) + cmF BF0 BF bc i = _
                      rw [e8]
                    refine v_iinc (pc := 1194) (v := nI (i + 1)) dL_law_1194 rfl (nI_1 _) (by show _ < 26; decide) rfl ?_
                    refine v_goto (pc := 1197) (tgt := 894) dL_law_1197 (by decide) ?_
                    refine v_room (ck' := ck + 12 * m) (sk' := sk + 72 * m) (by omega) (by omega) ?_
                    have k9 := ih (i + 1) (by omega)
                    rw [es] at k9
                    refine v_sub ?_ k9
                    exact ⟨rfl, rfl, rfl, rfl, rfl, rfl, rfl, rfl, rfl, rfl, rfl, rfl, rfl, rfl, rfl, trivial⟩
        · refine v_iload (pc := 1024) dL_law_1024 rfl ?_
          refine v_aloadR (pc := 1026) dL_law_1026 rfl ?_
          refine v_iload (pc := 1028) dL_law_1028 rfl ?_
          refine v_aaldS (pc := 1030) 52 (k := i) (by decide) rfl (by omega) (by omega) dL_law_1030 ?_
          refine v_iconst (pc := 1031) (v := 2) dL_law_1031 rfl ?_
          refine v_ialdGN (pc := 1032) 53 (j := 2) rfl (by omega) (by decide) (by decide) dL_law_1032 ?_
          try dsimp only [wb, tlS_0, tlS_1, tlS_2, tlS_3, tlS_4, tlS_5, tlS_6, tlS_7, tlS_8, tlC_0, tlC_1, tlC_2, tlC_3, LawM, LakeM, WaysM, WorldM, SimM, List.set_cons_succ, List.set_cons_zero, List.append_nil, List.nil_append, List.cons_append, Option.toList, Nat.sub_zero]
          refine v_icmp_ne (pc := 1033) (tgt := 1048) dL_law_1033 (by decide) (fun c1033 => absurd (g5 c1021).1 c1033) (fun c1033 => ?_)
          refine v_aload_nR (pc := 1036) dL_law_1036 rfl rfl ?_
          refine v_iload (pc := 1037) dL_law_1037 rfl ?_
          refine v_iconst (pc := 1039) (v := 3) dL_law_1039 rfl ?_
          refine v_callV2 (pc := 1040) (c7_bag hps hsc hbc (b9 := i) (q := 3) hi (by decide)) cm_X5_bag q357 q358 q359 (ci := 5) rfl rfl (orcO 0 rfl) [0, 1, 2, 3, 4, 5, 6, 7, 8, 9, 10, 11, 12, 13, 14, 15, 16, 17] (by rfl) (by decide) (fun _ _ h => h) (by omega) (by omega) (by decide) (Nat.le_of_ble_eq_true rfl) dL_law_1040 (fun v1040 M1040 hQ1040 => ?_)
          obtain ⟨rfl, rfl⟩ := hQ1040
          try dsimp only [wb, tlS_0, tlS_1, tlS_2, tlS_3, tlS_4, tlS_5, tlS_6, tlS_7, tlS_8, tlC_0, tlC_1, tlC_2, tlC_3, LawM, LakeM, WaysM, WorldM, SimM, List.set_cons_succ, List.set_cons_zero, List.append_nil, List.nil_append, List.cons_append, Option.toList, Nat.sub_zero]
          refine v_iload (pc := 1043) dL_law_1043 rfl ?_
          refine v_icmp_eq (pc := 1045) (tgt := 1194) dL_law_1045 (by decide) (fun c1045 => ?_) (fun c1045 => absurd (g5 c1021).2 c1045)
          have e8 : cmF BF0 BF bc i = 0 := if_neg (fun q => c1021 q.2.1)
          have es : (sumN (cmF BF0 BF bc) (i + 1)) = (sumN (cmF BF0 BF bc) i) := by
            show (sumN (cmF BF0 BF bc) i) + cmF BF0 BF bc i = _
            rw [e8, Int32.add_zero]
          refine v_iinc (pc := 1194) (v := nI (i + 1)) dL_law_1194 rfl (nI_1 _) (by show _ < 26; decide) rfl ?_
          refine v_goto (pc := 1197) (tgt := 894) dL_law_1197 (by decide) ?_
          refine v_room (ck' := ck + 12 * m) (sk' := sk + 72 * m) (by omega) (by omega) ?_
          have k9 := ih (i + 1) (by omega)
          rw [es] at k9
          refine v_sub ?_ k9
          exact ⟨rfl, rfl, rfl, rfl, rfl, rfl, rfl, rfl, rfl, rfl, rfl, rfl, rfl, rfl, rfl, trivial⟩
      · refine v_iconst (pc := 988) (v := 1) dL_law_988 rfl ?_
        refine v_goto (pc := 989) (tgt := 993) dL_law_989 (by decide) ?_
        refine v_aload_nR (pc := 993) dL_law_993 rfl rfl ?_
        refine v_iload (pc := 994) dL_law_994 rfl ?_
        refine v_iconst (pc := 996) (v := 3) dL_law_996 rfl ?_
        refine v_callV2 (pc := 997) (c7_bag hps hsc hbc (b9 := i) (q := 3) hi (by decide)) cm_X5_bag q357 q358 q359 (ci := 5) rfl rfl (orcO 0 rfl) [0, 1, 2, 3, 4, 5, 6, 7, 8, 9, 10, 11, 12, 13, 14, 15, 16, 17] (by rfl) (by decide) (fun _ _ h => h) (by omega) (by omega) (by decide) (Nat.le_of_ble_eq_true rfl) dL_law_997 (fun v997 M997 hQ997 => ?_)
        obtain ⟨rfl, rfl⟩ := hQ997
        try dsimp only [wb, tlS_0, tlS_1, tlS_2, tlS_3, tlS_4, tlS_5, tlS_6, tlS_7, tlS_8, tlC_0, tlC_1, tlC_2, tlC_3, LawM, LakeM, WaysM, WorldM, SimM, List.set_cons_succ, List.set_cons_zero, List.append_nil, List.nil_append, List.cons_append, Option.toList, Nat.sub_zero]
        refine v_if_ge (pc := 1000) (tgt := 1007) dL_law_1000 (by decide) (fun c1000 => absurd (g33.mp c985) (Int32.not_lt.mpr c1000)) (fun c1000 => ?_)
        refine v_iconst (pc := 1003) (v := 1) dL_law_1003 rfl ?_
        refine v_goto (pc := 1004) (tgt := 1008) dL_law_1004 (by decide) ?_
        refine v_icmp_eq (pc := 1008) (tgt := 1013) dL_law_1008 (by decide) (fun c1008 => ?_) (fun c1008 => absurd c1008 (by decide))
        refine v_aloadR (pc := 1013) dL_law_1013 rfl ?_
        refine v_iload (pc := 1015) dL_law_1015 rfl ?_
        refine v_aaldS (pc := 1017) 52 (k := i) (by decide) rfl (by omega) (by omega) dL_law_1017 ?_
        refine v_iconst (pc := 1018) (v := 2) dL_law_1018 rfl ?_
        refine v_ialdGN (pc := 1019) 53 (j := 2) rfl (by omega) (by decide) (by decide) dL_law_1019 ?_
        try dsimp only [wb, tlS_0, tlS_1, tlS_2, tlS_3, tlS_4, tlS_5, tlS_6, tlS_7, tlS_8, tlC_0, tlC_1, tlC_2, tlC_3, LawM, LakeM, WaysM, WorldM, SimM, List.set_cons_succ, List.set_cons_zero, List.append_nil, List.nil_append, List.cons_append, Option.toList, Nat.sub_zero]
        refine v_iconst (pc := 1020) (v := 1) dL_law_1020 rfl ?_
        refine v_icmp_eq (pc := 1021) (tgt := 1050) dL_law_1021 (by decide) (fun c1021 => ?_) (fun c1021 => ?_)
        · obtain ⟨n9, hn9, e9, h3a, h3b, h3c, h3d⟩ := g6 c1021
          rw [e9]
          refine v_aload_nR (pc := 1050) dL_law_1050 rfl rfl ?_
          refine v_iload (pc := 1051) dL_law_1051 rfl ?_
          refine v_iconst (pc := 1053) (v := 3) dL_law_1053 rfl ?_
          refine v_callV2 (pc := 1054) (c7_sleigh hps hsc hbc (s := n9) (q := 3) hn9 (by decide)) cm_X5_sleigh q323 q324 q325 (ci := 5) rfl rfl (orcO 0 rfl) [0, 1, 2, 3, 4, 5, 6, 7, 8, 9, 10, 11, 12, 13, 14, 15, 16, 17] (by rfl) (by decide) (fun _ _ h => h) (by omega) (by omega) (by decide) (Nat.le_of_ble_eq_true rfl) dL_law_1054 (fun v1054 M1054 hQ1054 => ?_)
          obtain ⟨rfl, rfl⟩ := hQ1054
          try dsimp only [wb, tlS_0, tlS_1, tlS_2, tlS_3, tlS_4, tlS_5, tlS_6, tlS_7, tlS_8, tlC_0, tlC_1, tlC_2, tlC_3, LawM, LakeM, WaysM, WorldM, SimM, List.set_cons_succ, List.set_cons_zero, List.append_nil, List.nil_append, List.cons_append, Option.toList, Nat.sub_zero]
          refine v_istore (pc := 1057) dL_law_1057 (by show _ < 26; decide) rfl ?_
          refine v_iload (pc := 1059) dL_law_1059 rfl ?_
          refine v_if_ne (pc := 1061) (tgt := 1079) dL_law_1061 (by decide) (fun c1061 => ?_) (fun c1061 => ?_)
          · refine v_iconst (pc := 1079) (v := 0) dL_law_1079 rfl ?_
            refine v_istore (pc := 1080) dL_law_1080 (by show _ < 26; decide) rfl ?_
            refine v_iload (pc := 1082) dL_law_1082 rfl ?_
            refine v_if_eq (pc := 1084) (tgt := 1097) dL_law_1084 (by decide) (fun c1084 => ?_) (fun c1084 => absurd c1084 (by decide))
            refine v_iconst (pc := 1097) (v := -1) dL_law_1097 rfl ?_
            refine v_istore (pc := 1098) dL_law_1098 (by show _ < 26; decide) rfl ?_
            refine v_iload (pc := 1100) dL_law_1100 rfl ?_
            refine v_iload (pc := 1102) dL_law_1102 rfl ?_
            refine v_iconst (pc := 1104) (v := 2) dL_law_1104 rfl ?_
            refine v_icmp_ne (pc := 1105) (tgt := 1112) dL_law_1105 (by decide) (fun c1105 => ?_) (fun c1105 => ?_)
            · refine v_iload (pc := 1112) dL_law_1112 rfl ?_
              refine v_if_eq (pc := 1114) (tgt := 1137) dL_law_1114 (by decide) (fun c1114 => ?_) (fun c1114 => absurd c1114 (by decide))
              refine v_iconst (pc := 1137) (v := 1) dL_law_1137 rfl ?_
              refine v_icmp_ne (pc := 1138) (tgt := 1176) dL_law_1138 (by decide) (fun c1138 => absurd (h3c c1105 (fun q => c1061 q.1)) c1138) (fun c1138 => ?_)
              refine v_iload (pc := 1141) dL_law_1141 rfl ?_
              refine v_if_eq (pc := 1143) (tgt := 1158) dL_law_1143 (by decide) (fun c1143 => ?_) (fun c1143 => absurd c1143 (by decide))
              refine v_iload (pc := 1158) dL_law_1158 rfl ?_
              refine v_iconst (pc := 1160) (v := 2) dL_law_1160 rfl ?_
              refine v_icmp_ne (pc := 1161) (tgt := 1178) dL_law_1161 (by decide) (fun c1161 => ?_) (fun c1161 => ?_)
              · refine v_iload (pc := 1178) dL_law_1178 rfl ?_
                refine v_iload (pc := 1180) dL_law_1180 rfl ?_
                refine v_iconst (pc := 1182) (v := 2) dL_law_1182 rfl ?_
                refine v_icmp_ne (pc := 1183) (tgt := 1190) dL_law_1183 (by decide) (fun c1183 => ?_) (fun c1183 => ?_)
                · refine v_iconst (pc := 1190) (v := 0) dL_law_1190 rfl ?_
                  refine v_iadd (pc := 1191) dL_law_1191 ?_
                  refine v_istore (pc := 1192) dL_law_1192 (by show _ < 26; decide) rfl ?_
                  have e8 : cmF BF0 BF bc i = 0 := if_neg (fun q => c1183 q.2.2)
                  have es : (sumN (cmF BF0 BF bc) (i + 1)) = (sumN (cmF BF0 BF bc) i) + 0 := by
                    show (sumN (cmF BF0 BF bc) i) + cmF BF0 BF bc i = _
                    rw [e8]
                  refine v_iinc (pc := 1194) (v := nI (i + 1)) dL_law_1194 rfl (nI_1 _) (by show _ < 26; decide) rfl ?_
                  refine v_goto (pc := 1197) (tgt := 894) dL_law_1197 (by decide) ?_
                  refine v_room (ck' := ck + 12 * m) (sk' := sk + 72 * m) (by omega) (by omega) ?_
                  have k9 := ih (i + 1) (by omega)
                  rw [es] at k9
                  refine v_sub ?_ k9
                  exact ⟨rfl, rfl, rfl, rfl, rfl, rfl, rfl, rfl, rfl, rfl, rfl, rfl, rfl, rfl, rfl, trivial⟩
                · refine v_iconst (pc := 1186) (v := 1) dL_law_1186 rfl ?_
                  refine v_goto (pc := 1187) (tgt := 1191) dL_law_1187 (by decide) ?_
                  refine v_iadd (pc := 1191) dL_law_1191 ?_
                  refine v_istore (pc := 1192) dL_law_1192 (by show _ < 26; decide) rfl ?_
                  have e8 : cmF BF0 BF bc i = 1 := if_pos ⟨hi, c1021, c1183⟩
                  have es : (sumN (cmF BF0 BF bc) (i + 1)) = (sumN (cmF BF0 BF bc) i) + 1 := by
                    show (sumN (cmF BF0 BF bc) i) + cmF BF0 BF bc i = _
                    rw [e8]
                  refine v_iinc (pc := 1194) (v := nI (i + 1)) dL_law_1194 rfl (nI_1 _) (by show _ < 26; decide) rfl ?_
                  refine v_goto (pc := 1197) (tgt := 894) dL_law_1197 (by decide) ?_
                  refine v_room (ck' := ck + 12 * m) (sk' := sk + 72 * m) (by omega) (by omega) ?_
                  have k9 := ih (i + 1) (by omega)
                  rw [es] at k9
                  refine v_sub ?_ k9
                  exact ⟨rfl, rfl, rfl, rfl, rfl, rfl, rfl, rfl, rfl, rfl, rfl, rfl, rfl, rfl, rfl, trivial⟩
              · refine v_aload_nR (pc := 1164) dL_law_1164 rfl rfl ?_
                refine v_iload (pc := 1165) dL_law_1165 rfl ?_
                refine v_iconst (pc := 1167) (v := 4) dL_law_1167 rfl ?_
                refine v_callV2 (pc := 1168) (c7_bag hps hsc hbc (b9 := i) (q := 4) hi (by decide)) cm_X5_bag q357 q358 q359 (ci := 5) rfl rfl (orcO 0 rfl) [0, 1, 2, 3, 4, 5, 6, 7, 8, 9, 10, 11, 12, 13, 14, 15, 16, 17] (by rfl) (by decide) (fun _ _ h => h) (by omega) (by omega) (by decide) (Nat.le_of_ble_eq_true rfl) dL_law_1168 (fun v1168 M1168 hQ1168 => ?_)
                obtain ⟨rfl, rfl⟩ := hQ1168
                try dsimp only [wb, tlS_0, tlS_1, tlS_2, tlS_3, tlS_4, tlS_5, tlS_6, tlS_7, tlS_8, tlC_0, tlC_1, tlC_2, tlC_3, LawM, LakeM, WaysM, WorldM, SimM, List.set_cons_succ, List.set_cons_zero, List.append_nil, List.nil_append, List.cons_append, Option.toList, Nat.sub_zero]
                refine v_iload (pc := 1171) dL_law_1171 rfl ?_
                refine v_icmp_eq (pc := 1173) (tgt := 1178) dL_law_1173 (by decide) (fun c1173 => ?_) (fun c1173 => absurd (h3d c1161) c1173)
                refine v_iload (pc := 1178) dL_law_1178 rfl ?_
                refine v_iload (pc := 1180) dL_law_1180 rfl ?_
                refine v_iconst (pc := 1182) (v := 2) dL_law_1182 rfl ?_
                refine v_icmp_ne (pc := 1183) (tgt := 1190) dL_law_1183 (by decide) (fun c1183 => ?_) (fun c1183 => ?_)
                · refine v_iconst (pc := 1190) (v := 0) dL_law_1190 rfl ?_
                  refine v_iadd (pc := 1191) dL_law_1191 ?_
                  refine v_istore (pc := 1192) dL_law_1192 (by show _ < 26; decide) rfl ?_
                  have e8 : cmF BF0 BF bc i = 0 := if_neg (fun q => c1183 q.2.2)
                  have es : (sumN (cmF BF0 BF bc) (i + 1)) = (sumN (cmF BF0 BF bc) i) + 0 := by
                    show (sumN (cmF BF0 BF bc) i) + cmF BF0 BF bc i = _
                    rw [e8]
                  refine v_iinc (pc := 1194) (v := nI (i + 1)) dL_law_1194 rfl (nI_1 _) (by show _ < 26; decide) rfl ?_
                  refine v_goto (pc := 1197) (tgt := 894) dL_law_1197 (by decide) ?_
                  refine v_room (ck' := ck + 12 * m) (sk' := sk + 72 * m) (by omega) (by omega) ?_
                  have k9 := ih (i + 1) (by omega)
                  rw [es] at k9
                  refine v_sub ?_ k9
                  exact ⟨rfl, rfl, rfl, rfl, rfl, rfl, rfl, rfl, rfl, rfl, rfl, rfl, rfl, rfl, rfl, trivial⟩
                · refine v_iconst (pc := 1186) (v := 1) dL_law_1186 rfl ?_
                  refine v_goto (pc := 1187) (tgt := 1191) dL_law_1187 (by decide) ?_
                  refine v_iadd (pc := 1191) dL_law_1191 ?_
                  refine v_istore (pc := 1192) dL_law_1192 (by show _ < 26; decide) rfl ?_
                  have e8 : cmF BF0 BF bc i = 1 := if_pos ⟨hi, c1021, c1183⟩
                  have es : (sumN (cmF BF0 BF bc) (i + 1)) = (sumN (cmF BF0 BF bc) i) + 1 := by
                    show (sumN (cmF BF0 BF bc) i) + cmF BF0 BF bc i = _
                    rw [e8]
                  refine v_iinc (pc := 1194) (v := nI (i + 1)) dL_law_1194 rfl (nI_1 _) (by show _ < 26; decide) rfl ?_
                  refine v_goto (pc := 1197) (tgt := 894) dL_law_1197 (by decide) ?_
                  refine v_room (ck' := ck + 12 * m) (sk' := sk + 72 * m) (by omega) (by omega) ?_
                  have k9 := ih (i + 1) (by omega)
                  rw [es] at k9
                  refine v_sub ?_ k9
                  exact ⟨rfl, rfl, rfl, rfl, rfl, rfl, rfl, rfl, rfl, rfl, rfl, rfl, rfl, rfl, rfl, trivial⟩
            · refine v_iconst (pc := 1108) (v := 3) dL_law_1108 rfl ?_
              refine v_goto (pc := 1109) (tgt := 1138) dL_law_1109 (by decide) ?_
              refine v_icmp_ne (pc := 1138) (tgt := 1176) dL_law_1138 (by decide) (fun c1138 => absurd (h3a c1105) c1138) (fun c1138 => ?_)
              refine v_iload (pc := 1141) dL_law_1141 rfl ?_
              refine v_if_eq (pc := 1143) (tgt := 1158) dL_law_1143 (by decide) (fun c1143 => ?_) (fun c1143 => absurd c1143 (by decide))
              refine v_iload (pc := 1158) dL_law_1158 rfl ?_
              refine v_iconst (pc := 1160) (v := 2) dL_law_1160 rfl ?_
              refine v_icmp_ne (pc := 1161) (tgt := 1178) dL_law_1161 (by decide) (fun c1161 => ?_) (fun c1161 => ?_)
              · refine v_iload (pc := 1178) dL_law_1178 rfl ?_
                refine v_iload (pc := 1180) dL_law_1180 rfl ?_
                refine v_iconst (pc := 1182) (v := 2) dL_law_1182 rfl ?_
                refine v_icmp_ne (pc := 1183) (tgt := 1190) dL_law_1183 (by decide) (fun c1183 => ?_) (fun c1183 => ?_)
                · refine v_iconst (pc := 1190) (v := 0) dL_law_1190 rfl ?_
                  refine v_iadd (pc := 1191) dL_law_1191 ?_
                  refine v_istore (pc := 1192) dL_law_1192 (by show _ < 26; decide) rfl ?_
                  have e8 : cmF BF0 BF bc i = 0 := if_neg (fun q => c1183 q.2.2)
                  have es : (sumN (cmF BF0 BF bc) (i + 1)) = (sumN (cmF BF0 BF bc) i) + 0 := by
                    show (sumN (cmF BF0 BF bc) i) + cmF BF0 BF bc i = _
                    rw [e8]
                  refine v_iinc (pc := 1194) (v := nI (i + 1)) dL_law_1194 rfl (nI_1 _) (by show _ < 26; decide) rfl ?_
                  refine v_goto (pc := 1197) (tgt := 894) dL_law_1197 (by decide) ?_
                  refine v_room (ck' := ck + 12 * m) (sk' := sk + 72 * m) (by omega) (by omega) ?_
                  have k9 := ih (i + 1) (by omega)
                  rw [es] at k9
                  refine v_sub ?_ k9
                  exact ⟨rfl, rfl, rfl, rfl, rfl, rfl, rfl, rfl, rfl, rfl, rfl, rfl, rfl, rfl, rfl, trivial⟩
                · refine v_iconst (pc := 1186) (v := 1) dL_law_1186 rfl ?_
                  refine v_goto (pc := 1187) (tgt := 1191) dL_law_1187 (by decide) ?_
                  refine v_iadd (pc := 1191) dL_law_1191 ?_
                  refine v_istore (pc := 1192) dL_law_1192 (by show _ < 26; decide) rfl ?_
                  have e8 : cmF BF0 BF bc i = 1 := if_pos ⟨hi, c1021, c1183⟩
                  have es : (sumN (cmF BF0 BF bc) (i + 1)) = (sumN (cmF BF0 BF bc) i) + 1 := by
                    show (sumN (cmF BF0 BF bc) i) + cmF BF0 BF bc i = _
                    rw [e8]
                  refine v_iinc (pc := 1194) (v := nI (i + 1)) dL_law_1194 rfl (nI_1 _) (by show _ < 26; decide) rfl ?_
                  refine v_goto (pc := 1197) (tgt := 894) dL_law_1197 (by decide) ?_
                  refine v_room (ck' := ck + 12 * m) (sk' := sk + 72 * m) (by omega) (by omega) ?_
                  have k9 := ih (i + 1) (by omega)
                  rw [es] at k9
                  refine v_sub ?_ k9
                  exact ⟨rfl, rfl, rfl, rfl, rfl, rfl, rfl, rfl, rfl, rfl, rfl, rfl, rfl, rfl, rfl, trivial⟩
              · refine v_aload_nR (pc := 1164) dL_law_1164 rfl rfl ?_
                refine v_iload (pc := 1165) dL_law_1165 rfl ?_
                refine v_iconst (pc := 1167) (v := 4) dL_law_1167 rfl ?_
                refine v_callV2 (pc := 1168) (c7_bag hps hsc hbc (b9 := i) (q := 4) hi (by decide)) cm_X5_bag q357 q358 q359 (ci := 5) rfl rfl (orcO 0 rfl) [0, 1, 2, 3, 4, 5, 6, 7, 8, 9, 10, 11, 12, 13, 14, 15, 16, 17] (by rfl) (by decide) (fun _ _ h => h) (by omega) (by omega) (by decide) (Nat.le_of_ble_eq_true rfl) dL_law_1168 (fun v1168 M1168 hQ1168 => ?_)
                obtain ⟨rfl, rfl⟩ := hQ1168
                try dsimp only [wb, tlS_0, tlS_1, tlS_2, tlS_3, tlS_4, tlS_5, tlS_6, tlS_7, tlS_8, tlC_0, tlC_1, tlC_2, tlC_3, LawM, LakeM, WaysM, WorldM, SimM, List.set_cons_succ, List.set_cons_zero, List.append_nil, List.nil_append, List.cons_append, Option.toList, Nat.sub_zero]
                refine v_iload (pc := 1171) dL_law_1171 rfl ?_
                refine v_icmp_eq (pc := 1173) (tgt := 1178) dL_law_1173 (by decide) (fun c1173 => ?_) (fun c1173 => absurd (h3d c1161) c1173)
                refine v_iload (pc := 1178) dL_law_1178 rfl ?_
                refine v_iload (pc := 1180) dL_law_1180 rfl ?_
                refine v_iconst (pc := 1182) (v := 2) dL_law_1182 rfl ?_
                refine v_icmp_ne (pc := 1183) (tgt := 1190) dL_law_1183 (by decide) (fun c1183 => ?_) (fun c1183 => ?_)
                · refine v_iconst (pc := 1190) (v := 0) dL_law_1190 rfl ?_
                  refine v_iadd (pc := 1191) dL_law_1191 ?_
                  refine v_istore (pc := 1192) dL_law_1192 (by show _ < 26; decide) rfl ?_
                  have e8 : cmF BF0 BF bc i = 0 := if_neg (fun q => c1183 q.2.2)
                  have es : (sumN (cmF BF0 BF bc) (i + 1)) = (sumN (cmF BF0 BF bc) i) + 0 := by
                    show (sumN (cmF BF0 BF bc) i) + cmF BF0 BF bc i = _
                    rw [e8]
                  refine v_iinc (pc := 1194) (v := nI (i + 1)) dL_law_1194 rfl (nI_1 _) (by show _ < 26; decide) rfl ?_
                  refine v_goto (pc := 1197) (tgt := 894) dL_law_1197 (by decide) ?_
                  refine v_room (ck' := ck + 12 * m) (sk' := sk + 72 * m) (by omega) (by omega) ?_
                  have k9 := ih (i + 1) (by omega)
                  rw [es] at k9
                  refine v_sub ?_ k9
                  exact ⟨rfl, rfl, rfl, rfl, rfl, rfl, rfl, rfl, rfl, rfl, rfl, rfl, rfl, rfl, rfl, trivial⟩
                · refine v_iconst (pc := 1186) (v := 1) dL_law_1186 rfl ?_
                  refine v_goto (pc := 1187) (tgt := 1191) dL_law_1187 (by decide) ?_
                  refine v_iadd (pc := 1191) dL_law_1191 ?_
                  refine v_istore (pc := 1192) dL_law_1192 (by show _ < 26; decide) rfl ?_
                  have e8 : cmF BF0 BF bc i = 1 := if_pos ⟨hi, c1021, c1183⟩
                  have es : (sumN (cmF BF0 BF bc) (i + 1)) = (sumN (cmF BF0 BF bc) i) + 1 := by
                    show (sumN (cmF BF0 BF bc) i) + cmF BF0 BF bc i = _
                    rw [e8]
                  refine v_iinc (pc := 1194) (v := nI (i + 1)) dL_law_1194 rfl (nI_1 _) (by show _ < 26; decide) rfl ?_
                  refine v_goto (pc := 1197) (tgt := 894) dL_law_1197 (by decide) ?_
                  refine v_room (ck' := ck + 12 * m) (sk' := sk + 72 * m) (by omega) (by omega) ?_
                  have k9 := ih (i + 1) (by omega)
                  rw [es] at k9
                  refine v_sub ?_ k9
                  exact ⟨rfl, rfl, rfl, rfl, rfl, rfl, rfl, rfl, rfl, rfl, rfl, rfl, rfl, rfl, rfl, trivial⟩
          · refine v_aloadR (pc := 1064) dL_law_1064 rfl ?_
            refine v_iload (pc := 1066) dL_law_1066 rfl ?_
            refine v_aaldS (pc := 1068) 50 (k := n9) (by decide) rfl (by omega) (by omega) dL_law_1068 ?_
            refine v_iconst (pc := 1069) (v := 3) dL_law_1069 rfl ?_
            refine v_ialdGN (pc := 1070) 51 (j := 3) rfl (by omega) (by decide) (by decide) dL_law_1070 ?_
            try dsimp only [wb, tlS_0, tlS_1, tlS_2, tlS_3, tlS_4, tlS_5, tlS_6, tlS_7, tlS_8, tlC_0, tlC_1, tlC_2, tlC_3, LawM, LakeM, WaysM, WorldM, SimM, List.set_cons_succ, List.set_cons_zero, List.append_nil, List.nil_append, List.cons_append, Option.toList, Nat.sub_zero]
            refine v_iconst (pc := 1071) (v := 1) dL_law_1071 rfl ?_
            refine v_icmp_ne (pc := 1072) (tgt := 1079) dL_law_1072 (by decide) (fun c1072 => ?_) (fun c1072 => ?_)
            · refine v_iconst (pc := 1079) (v := 0) dL_law_1079 rfl ?_
              refine v_istore (pc := 1080) dL_law_1080 (by show _ < 26; decide) rfl ?_
              refine v_iload (pc := 1082) dL_law_1082 rfl ?_
              refine v_if_eq (pc := 1084) (tgt := 1097) dL_law_1084 (by decide) (fun c1084 => ?_) (fun c1084 => absurd c1084 (by decide))
              refine v_iconst (pc := 1097) (v := -1) dL_law_1097 rfl ?_
              refine v_istore (pc := 1098) dL_law_1098 (by show _ < 26; decide) rfl ?_
              refine v_iload (pc := 1100) dL_law_1100 rfl ?_
              refine v_iload (pc := 1102) dL_law_1102 rfl ?_
              refine v_iconst (pc := 1104) (v := 2) dL_law_1104 rfl ?_
              refine v_icmp_ne (pc := 1105) (tgt := 1112) dL_law_1105 (by decide) (fun c1105 => ?_) (fun c1105 => ?_)
              · refine v_iload (pc := 1112) dL_law_1112 rfl ?_
                refine v_if_eq (pc := 1114) (tgt := 1137) dL_law_1114 (by decide) (fun c1114 => ?_) (fun c1114 => absurd c1114 (by decide))
                refine v_iconst (pc := 1137) (v := 1) dL_law_1137 rfl ?_
                refine v_icmp_ne (pc := 1138) (tgt := 1176) dL_law_1138 (by decide) (fun c1138 => absurd (h3c c1105 (fun q => c1072 q.2)) c1138) (fun c1138 => ?_)
                refine v_iload (pc := 1141) dL_law_1141 rfl ?_
                refine v_if_eq (pc := 1143) (tgt := 1158) dL_law_1143 (by decide) (fun c1143 => ?_) (fun c1143 => absurd c1143 (by decide))
                refine v_iload (pc := 1158) dL_law_1158 rfl ?_
                refine v_iconst (pc := 1160) (v := 2) dL_law_1160 rfl ?_
                refine v_icmp_ne (pc := 1161) (tgt := 1178) dL_law_1161 (by decide) (fun c1161 => ?_) (fun c1161 => ?_)
                · refine v_iload (pc := 1178) dL_law_1178 rfl ?_
                  refine v_iload (pc := 1180) dL_law_1180 rfl ?_
                  refine v_iconst (pc := 1182) (v := 2) dL_law_1182 rfl ?_
                  refine v_icmp_ne (pc := 1183) (tgt := 1190) dL_law_1183 (by decide) (fun c1183 => ?_) (fun c1183 => ?_)
                  · refine v_iconst (pc := 1190) (v := 0) dL_law_1190 rfl ?_
                    refine v_iadd (pc := 1191) dL_law_1191 ?_
                    refine v_istore (pc := 1192) dL_law_1192 (by show _ < 26; decide) rfl ?_
                    have e8 : cmF BF0 BF bc i = 0 := if_neg (fun q => c1183 q.2.2)
                    have es : (sumN (cmF BF0 BF bc) (i + 1)) = (sumN (cmF BF0 BF bc) i) + 0 := by
                      show (sumN (cmF BF0 BF bc) i) + cmF BF0 BF bc i = _
                      rw [e8]
                    refine v_iinc (pc := 1194) (v := nI (i + 1)) dL_law_1194 rfl (nI_1 _) (by show _ < 26; decide) rfl ?_
                    refine v_goto (pc := 1197) (tgt := 894) dL_law_1197 (by decide) ?_
                    refine v_room (ck' := ck + 12 * m) (sk' := sk + 72 * m) (by omega) (by omega) ?_
                    have k9 := ih (i + 1) (by omega)
                    rw [es] at k9
                    refine v_sub ?_ k9
                    exact ⟨rfl, rfl, rfl, rfl, rfl, rfl, rfl, rfl, rfl, rfl, rfl, rfl, rfl, rfl, rfl, trivial⟩
                  · refine v_iconst (pc := 1186) (v := 1) dL_law_1186 rfl ?_
                    refine v_goto (pc := 1187) (tgt := 1191) dL_law_1187 (by decide) ?_
                    refine v_iadd (pc := 1191) dL_law_1191 ?_
                    refine v_istore (pc := 1192) dL_law_1192 (by show _ < 26; decide) rfl ?_
                    have e8 : cmF BF0 BF bc i = 1 := if_pos ⟨hi, c1021, c1183⟩
                    have es : (sumN (cmF BF0 BF bc) (i + 1)) = (sumN (cmF BF0 BF bc) i) + 1 := by
                      show (sumN (cmF BF0 BF bc) i) + cmF BF0 BF bc i = _
                      rw [e8]
                    refine v_iinc (pc := 1194) (v := nI (i + 1)) dL_law_1194 rfl (nI_1 _) (by show _ < 26; decide) rfl ?_
                    refine v_goto (pc := 1197) (tgt := 894) dL_law_1197 (by decide) ?_
                    refine v_room (ck' := ck + 12 * m) (sk' := sk + 72 * m) (by omega) (by omega) ?_
                    have k9 := ih (i + 1) (by omega)
                    rw [es] at k9
                    refine v_sub ?_ k9
                    exact ⟨rfl, rfl, rfl, rfl, rfl, rfl, rfl, rfl, rfl, rfl, rfl, rfl, rfl, rfl, rfl, trivial⟩
                · refine v_aload_nR (pc := 1164) dL_law_1164 rfl rfl ?_
                  refine v_iload (pc := 1165) dL_law_1165 rfl ?_
                  refine v_iconst (pc := 1167) (v := 4) dL_law_1167 rfl ?_
                  refine v_callV2 (pc := 1168) (c7_bag hps hsc hbc (b9 := i) (q := 4) hi (by decide)) cm_X5_bag q357 q358 q359 (ci := 5) rfl rfl (orcO 0 rfl) [0, 1, 2, 3, 4, 5, 6, 7, 8, 9, 10, 11, 12, 13, 14, 15, 16, 17] (by rfl) (by decide) (fun _ _ h => h) (by omega) (by omega) (by decide) (Nat.le_of_ble_eq_true rfl) dL_law_1168 (fun v1168 M1168 hQ1168 => ?_)
                  obtain ⟨rfl, rfl⟩ := hQ1168
                  try dsimp only [wb, tlS_0, tlS_1, tlS_2, tlS_3, tlS_4, tlS_5, tlS_6, tlS_7, tlS_8, tlC_0, tlC_1, tlC_2, tlC_3, LawM, LakeM, WaysM, WorldM, SimM, List.set_cons_succ, List.set_cons_zero, List.append_nil, List.nil_append, List.cons_append, Option.toList, Nat.sub_zero]
                  refine v_iload (pc := 1171) dL_law_1171 rfl ?_
                  refine v_icmp_eq (pc := 1173) (tgt := 1178) dL_law_1173 (by decide) (fun c1173 => ?_) (fun c1173 => absurd (h3d c1161) c1173)
                  refine v_iload (pc := 1178) dL_law_1178 rfl ?_
                  refine v_iload (pc := 1180) dL_law_1180 rfl ?_
                  refine v_iconst (pc := 1182) (v := 2) dL_law_1182 rfl ?_
                  refine v_icmp_ne (pc := 1183) (tgt := 1190) dL_law_1183 (by decide) (fun c1183 => ?_) (fun c1183 => ?_)
                  · refine v_iconst (pc := 1190) (v := 0) dL_law_1190 rfl ?_
                    refine v_iadd (pc := 1191) dL_law_1191 ?_
                    refine v_istore (pc := 1192) dL_law_1192 (by show _ < 26; decide) rfl ?_
                    have e8 : cmF BF0 BF bc i = 0 := if_neg (fun q => c1183 q.2.2)
                    have es : (sumN (cmF BF0 BF bc) (i + 1)) = (sumN (cmF BF0 BF bc) i) + 0 := by
                      show (sumN (cmF BF0 BF bc) i) + cmF BF0 BF bc i = _
                      rw [e8]
                    refine v_iinc (pc := 1194) (v := nI (i + 1)) dL_law_1194 rfl (nI_1 _) (by show _ < 26; decide) rfl ?_
                    refine v_goto (pc := 1197) (tgt := 894) dL_law_1197 (by decide) ?_
                    refine v_room (ck' := ck + 12 * m) (sk' := sk + 72 * m) (by omega) (by omega) ?_
                    have k9 := ih (i + 1) (by omega)
                    rw [es] at k9
                    refine v_sub ?_ k9
                    exact ⟨rfl, rfl, rfl, rfl, rfl, rfl, rfl, rfl, rfl, rfl, rfl, rfl, rfl, rfl, rfl, trivial⟩
                  · refine v_iconst (pc := 1186) (v := 1) dL_law_1186 rfl ?_
                    refine v_goto (pc := 1187) (tgt := 1191) dL_law_1187 (by decide) ?_
                    refine v_iadd (pc := 1191) dL_law_1191 ?_
                    refine v_istore (pc := 1192) dL_law_1192 (by show _ < 26; decide) rfl ?_
                    have e8 : cmF BF0 BF bc i = 1 := if_pos ⟨hi, c1021, c1183⟩
                    have es : (sumN (cmF BF0 BF bc) (i + 1)) = (sumN (cmF BF0 BF bc) i) + 1 := by
                      show (sumN (cmF BF0 BF bc) i) + cmF BF0 BF bc i = _
                      rw [e8]
                    refine v_iinc (pc := 1194) (v := nI (i + 1)) dL_law_1194 rfl (nI_1 _) (by show _ < 26; decide) rfl ?_
                    refine v_goto (pc := 1197) (tgt := 894) dL_law_1197 (by decide) ?_
                    refine v_room (ck' := ck + 12 * m) (sk' := sk + 72 * m) (by omega) (by omega) ?_
                    have k9 := ih (i + 1) (by omega)
                    rw [es] at k9
                    refine v_sub ?_ k9
                    exact ⟨rfl, rfl, rfl, rfl, rfl, rfl, rfl, rfl, rfl, rfl, rfl, rfl, rfl, rfl, rfl, trivial⟩
              · refine v_iconst (pc := 1108) (v := 3) dL_law_1108 rfl ?_
                refine v_goto (pc := 1109) (tgt := 1138) dL_law_1109 (by decide) ?_
                refine v_icmp_ne (pc := 1138) (tgt := 1176) dL_law_1138 (by decide) (fun c1138 => absurd (h3a c1105) c1138) (fun c1138 => ?_)
                refine v_iload (pc := 1141) dL_law_1141 rfl ?_
                refine v_if_eq (pc := 1143) (tgt := 1158) dL_law_1143 (by decide) (fun c1143 => ?_) (fun c1143 => absurd c1143 (by decide))
                refine v_iload (pc := 1158) dL_law_1158 rfl ?_
                refine v_iconst (pc := 1160) (v := 2) dL_law_1160 rfl ?_
                refine v_icmp_ne (pc := 1161) (tgt := 1178) dL_law_1161 (by decide) (fun c1161 => ?_) (fun c1161 => ?_)
                · refine v_iload (pc := 1178) dL_law_1178 rfl ?_
                  refine v_iload (pc := 1180) dL_law_1180 rfl ?_
                  refine v_iconst (pc := 1182) (v := 2) dL_law_1182 rfl ?_
                  refine v_icmp_ne (pc := 1183) (tgt := 1190) dL_law_1183 (by decide) (fun c1183 => ?_) (fun c1183 => ?_)
                  · refine v_iconst (pc := 1190) (v := 0) dL_law_1190 rfl ?_
                    refine v_iadd (pc := 1191) dL_law_1191 ?_
                    refine v_istore (pc := 1192) dL_law_1192 (by show _ < 26; decide) rfl ?_
                    have e8 : cmF BF0 BF bc i = 0 := if_neg (fun q => c1183 q.2.2)
                    have es : (sumN (cmF BF0 BF bc) (i + 1)) = (sumN (cmF BF0 BF bc) i) + 0 := by
                      show (sumN (cmF BF0 BF bc) i) + cmF BF0 BF bc i = _
                      rw [e8]
                    refine v_iinc (pc := 1194) (v := nI (i + 1)) dL_law_1194 rfl (nI_1 _) (by show _ < 26; decide) rfl ?_
                    refine v_goto (pc := 1197) (tgt := 894) dL_law_1197 (by decide) ?_
                    refine v_room (ck' := ck + 12 * m) (sk' := sk + 72 * m) (by omega) (by omega) ?_
                    have k9 := ih (i + 1) (by omega)
                    rw [es] at k9
                    refine v_sub ?_ k9
                    exact ⟨rfl, rfl, rfl, rfl, rfl, rfl, rfl, rfl, rfl, rfl, rfl, rfl, rfl, rfl, rfl, trivial⟩
                  · refine v_iconst (pc := 1186) (v := 1) dL_law_1186 rfl ?_
                    refine v_goto (pc := 1187) (tgt := 1191) dL_law_1187 (by decide) ?_
                    refine v_iadd (pc := 1191) dL_law_1191 ?_
                    refine v_istore (pc := 1192) dL_law_1192 (by show _ < 26; decide) rfl ?_
                    have e8 : cmF BF0 BF bc i = 1 := if_pos ⟨hi, c1021, c1183⟩
                    have es : (sumN (cmF BF0 BF bc) (i + 1)) = (sumN (cmF BF0 BF bc) i) + 1 := by
                      show (sumN (cmF BF0 BF bc) i) + cmF BF0 BF bc i = _
                      rw [e8]
                    refine v_iinc (pc := 1194) (v := nI (i + 1)) dL_law_1194 rfl (nI_1 _) (by show _ < 26; decide) rfl ?_
                    refine v_goto (pc := 1197) (tgt := 894) dL_law_1197 (by decide) ?_
                    refine v_room (ck' := ck + 12 * m) (sk' := sk + 72 * m) (by omega) (by omega) ?_
                    have k9 := ih (i + 1) (by omega)
                    rw [es] at k9
                    refine v_sub ?_ k9
                    exact ⟨rfl, rfl, rfl, rfl, rfl, rfl, rfl, rfl, rfl, rfl, rfl, rfl, rfl, rfl, rfl, trivial⟩
                · refine v_aload_nR (pc := 1164) dL_law_1164 rfl rfl ?_
                  refine v_iload (pc := 1165) dL_law_1165 rfl ?_
                  refine v_iconst (pc := 1167) (v := 4) dL_law_1167 rfl ?_
                  refine v_callV2 (pc := 1168) (c7_bag hps hsc hbc (b9 := i) (q := 4) hi (by decide)) cm_X5_bag q357 q358 q359 (ci := 5) rfl rfl (orcO 0 rfl) [0, 1, 2, 3, 4, 5, 6, 7, 8, 9, 10, 11, 12, 13, 14, 15, 16, 17] (by rfl) (by decide) (fun _ _ h => h) (by omega) (by omega) (by decide) (Nat.le_of_ble_eq_true rfl) dL_law_1168 (fun v1168 M1168 hQ1168 => ?_)
                  obtain ⟨rfl, rfl⟩ := hQ1168
                  try dsimp only [wb, tlS_0, tlS_1, tlS_2, tlS_3, tlS_4, tlS_5, tlS_6, tlS_7, tlS_8, tlC_0, tlC_1, tlC_2, tlC_3, LawM, LakeM, WaysM, WorldM, SimM, List.set_cons_succ, List.set_cons_zero, List.append_nil, List.nil_append, List.cons_append, Option.toList, Nat.sub_zero]
                  refine v_iload (pc := 1171) dL_law_1171 rfl ?_
                  refine v_icmp_eq (pc := 1173) (tgt := 1178) dL_law_1173 (by decide) (fun c1173 => ?_) (fun c1173 => absurd (h3d c1161) c1173)
                  refine v_iload (pc := 1178) dL_law_1178 rfl ?_
                  refine v_iload (pc := 1180) dL_law_1180 rfl ?_
                  refine v_iconst (pc := 1182) (v := 2) dL_law_1182 rfl ?_
                  refine v_icmp_ne (pc := 1183) (tgt := 1190) dL_law_1183 (by decide) (fun c1183 => ?_) (fun c1183 => ?_)
                  · refine v_iconst (pc := 1190) (v := 0) dL_law_1190 rfl ?_
                    refine v_iadd (pc := 1191) dL_law_1191 ?_
                    refine v_istore (pc := 1192) dL_law_1192 (by show _ < 26; decide) rfl ?_
                    have e8 : cmF BF0 BF bc i = 0 := if_neg (fun q => c1183 q.2.2)
                    have es : (sumN (cmF BF0 BF bc) (i + 1)) = (sumN (cmF BF0 BF bc) i) + 0 := by
                      show (sumN (cmF BF0 BF bc) i) + cmF BF0 BF bc i = _
                      rw [e8]
                    refine v_iinc (pc := 1194) (v := nI (i + 1)) dL_law_1194 rfl (nI_1 _) (by show _ < 26; decide) rfl ?_
                    refine v_goto (pc := 1197) (tgt := 894) dL_law_1197 (by decide) ?_
                    refine v_room (ck' := ck + 12 * m) (sk' := sk + 72 * m) (by omega) (by omega) ?_
                    have k9 := ih (i + 1) (by omega)
                    rw [es] at k9
                    refine v_sub ?_ k9
                    exact ⟨rfl, rfl, rfl, rfl, rfl, rfl, rfl, rfl, rfl, rfl, rfl, rfl, rfl, rfl, rfl, trivial⟩
                  · refine v_iconst (pc := 1186) (v := 1) dL_law_1186 rfl ?_
                    refine v_goto (pc := 1187) (tgt := 1191) dL_law_1187 (by decide) ?_
                    refine v_iadd (pc := 1191) dL_law_1191 ?_
                    refine v_istore (pc := 1192) dL_law_1192 (by show _ < 26; decide) rfl ?_
                    have e8 : cmF BF0 BF bc i = 1 := if_pos ⟨hi, c1021, c1183⟩
                    have es : (sumN (cmF BF0 BF bc) (i + 1)) = (sumN (cmF BF0 BF bc) i) + 1 := by
                      show (sumN (cmF BF0 BF bc) i) + cmF BF0 BF bc i = _
                      rw [e8]
                    refine v_iinc (pc := 1194) (v := nI (i + 1)) dL_law_1194 rfl (nI_1 _) (by show _ < 26; decide) rfl ?_
                    refine v_goto (pc := 1197) (tgt := 894) dL_law_1197 (by decide) ?_
                    refine v_room (ck' := ck + 12 * m) (sk' := sk + 72 * m) (by omega) (by omega) ?_
                    have k9 := ih (i + 1) (by omega)
                    rw [es] at k9
                    refine v_sub ?_ k9
                    exact ⟨rfl, rfl, rfl, rfl, rfl, rfl, rfl, rfl, rfl, rfl, rfl, rfl, rfl, rfl, rfl, trivial⟩
            · refine v_iconst (pc := 1075) (v := 1) dL_law_1075 rfl ?_
              refine v_goto (pc := 1076) (tgt := 1080) dL_law_1076 (by decide) ?_
              refine v_istore (pc := 1080) dL_law_1080 (by show _ < 26; decide) rfl ?_
              refine v_iload (pc := 1082) dL_law_1082 rfl ?_
              refine v_if_eq (pc := 1084) (tgt := 1097) dL_law_1084 (by decide) (fun c1084 => absurd c1084 (by decide)) (fun c1084 => ?_)
              refine v_aload_nR (pc := 1087) dL_law_1087 rfl rfl ?_
              refine v_iload (pc := 1088) dL_law_1088 rfl ?_
              refine v_iconst (pc := 1090) (v := 5) dL_law_1090 rfl ?_
              refine v_callV2 (pc := 1091) (c7_sleigh hps hsc hbc (s := n9) (q := 5) hn9 (by decide)) cm_X5_sleigh q323 q324 q325 (ci := 5) rfl rfl (orcO 0 rfl) [0, 1, 2, 3, 4, 5, 6, 7, 8, 9, 10, 11, 12, 13, 14, 15, 16, 17] (by rfl) (by decide) (fun _ _ h => h) (by omega) (by omega) (by decide) (Nat.le_of_ble_eq_true rfl) dL_law_1091 (fun v1091 M1091 hQ1091 => ?_)
              obtain ⟨rfl, rfl⟩ := hQ1091
              try dsimp only [wb, tlS_0, tlS_1, tlS_2, tlS_3, tlS_4, tlS_5, tlS_6, tlS_7, tlS_8, tlC_0, tlC_1, tlC_2, tlC_3, LawM, LakeM, WaysM, WorldM, SimM, List.set_cons_succ, List.set_cons_zero, List.append_nil, List.nil_append, List.cons_append, Option.toList, Nat.sub_zero]
              refine v_goto (pc := 1094) (tgt := 1098) dL_law_1094 (by decide) ?_
              refine v_istore (pc := 1098) dL_law_1098 (by show _ < 26; decide) rfl ?_
              refine v_iload (pc := 1100) dL_law_1100 rfl ?_
              refine v_iload (pc := 1102) dL_law_1102 rfl ?_
              refine v_iconst (pc := 1104) (v := 2) dL_law_1104 rfl ?_
              refine v_icmp_ne (pc := 1105) (tgt := 1112) dL_law_1105 (by decide) (fun c1105 => ?_) (fun c1105 => ?_)
              · refine v_iload (pc := 1112) dL_law_1112 rfl ?_
                refine v_if_eq (pc := 1114) (tgt := 1137) dL_law_1114 (by decide) (fun c1114 => absurd c1114 (by decide)) (fun c1114 => ?_)
                refine v_iload (pc := 1117) dL_law_1117 rfl ?_
                refine v_aloadR (pc := 1119) dL_law_1119 rfl ?_
                refine v_iload (pc := 1121) dL_law_1121 rfl ?_
                refine v_aaldS (pc := 1123) 52 (k := i) (by decide) rfl (by omega) (by omega) dL_law_1123 ?_
                refine v_iconst (pc := 1124) (v := 1) dL_law_1124 rfl ?_
                refine v_ialdGN (pc := 1125) 53 (j := 1) rfl (by omega) (by decide) (by decide) dL_law_1125 ?_
                try dsimp only [wb, tlS_0, tlS_1, tlS_2, tlS_3, tlS_4, tlS_5, tlS_6, tlS_7, tlS_8, tlC_0, tlC_1, tlC_2, tlC_3, LawM, LakeM, WaysM, WorldM, SimM, List.set_cons_succ, List.set_cons_zero, List.append_nil, List.nil_append, List.cons_append, Option.toList, Nat.sub_zero]
                refine v_icmp_ne (pc := 1126) (tgt := 1133) dL_law_1126 (by decide) (fun c1126 => ?_) (fun c1126 => ?_)
                · refine v_iconst (pc := 1133) (v := 0) dL_law_1133 rfl ?_
                  refine v_goto (pc := 1134) (tgt := 1138) dL_law_1134 (by decide) ?_
                  refine v_icmp_ne (pc := 1138) (tgt := 1176) dL_law_1138 (by decide) (fun c1138 => absurd ((h3b (fun q => absurd (c1061.symm.trans q) (by decide)) ⟨c1061, c1072⟩).1.trans (if_neg c1126)) c1138) (fun c1138 => ?_)
                  refine v_iload (pc := 1141) dL_law_1141 rfl ?_
                  refine v_if_eq (pc := 1143) (tgt := 1158) dL_law_1143 (by decide) (fun c1143 => absurd c1143 (by decide)) (fun c1143 => ?_)
                  refine v_aload_nR (pc := 1146) dL_law_1146 rfl rfl ?_
                  refine v_iload (pc := 1147) dL_law_1147 rfl ?_
                  refine v_iconst (pc := 1149) (v := 3) dL_law_1149 rfl ?_
                  refine v_callV2 (pc := 1150) (c7_bag hps hsc hbc (b9 := i) (q := 3) hi (by decide)) cm_X5_bag q357 q358 q359 (ci := 5) rfl rfl (orcO 0 rfl) [0, 1, 2, 3, 4, 5, 6, 7, 8, 9, 10, 11, 12, 13, 14, 15, 16, 17] (by rfl) (by decide) (fun _ _ h => h) (by omega) (by omega) (by decide) (Nat.le_of_ble_eq_true rfl) dL_law_1150 (fun v1150 M1150 hQ1150 => ?_)
                  obtain ⟨rfl, rfl⟩ := hQ1150
                  try dsimp only [wb, tlS_0, tlS_1, tlS_2, tlS_3, tlS_4, tlS_5, tlS_6, tlS_7, tlS_8, tlC_0, tlC_1, tlC_2, tlC_3, LawM, LakeM, WaysM, WorldM, SimM, List.set_cons_succ, List.set_cons_zero, List.append_nil, List.nil_append, List.cons_append, Option.toList, Nat.sub_zero]
                  refine v_iload (pc := 1153) dL_law_1153 rfl ?_
                  refine v_icmp_ne (pc := 1155) (tgt := 1176) dL_law_1155 (by decide) (fun c1155 => absurd (h3b (fun q => absurd (c1061.symm.trans q) (by decide)) ⟨c1061, c1072⟩).2 c1155) (fun c1155 => ?_)
                  refine v_iload (pc := 1158) dL_law_1158 rfl ?_
                  refine v_iconst (pc := 1160) (v := 2) dL_law_1160 rfl ?_
                  refine v_icmp_ne (pc := 1161) (tgt := 1178) dL_law_1161 (by decide) (fun c1161 => ?_) (fun c1161 => ?_)
                  · refine v_iload (pc := 1178) dL_law_1178 rfl ?_
                    refine v_iload (pc := 1180) dL_law_1180 rfl ?_
                    refine v_iconst (pc := 1182) (v := 2) dL_law_1182 rfl ?_
                    refine v_icmp_ne (pc := 1183) (tgt := 1190) dL_law_1183 (by decide) (fun c1183 => ?_) (fun c1183 => ?_)
                    · refine v_iconst (pc := 1190) (v := 0) dL_law_1190 rfl ?_
                      refine v_iadd (pc := 1191) dL_law_1191 ?_
                      refine v_istore (pc := 1192) dL_law_1192 (by show _ < 26; decide) rfl ?_
                      have e8 : cmF BF0 BF bc i = 0 := if_neg (fun q => c1183 q.2.2)
                      have es : (sumN (cmF BF0 BF bc) (i + 1)) = (sumN (cmF BF0 BF bc) i) + 0 := by
                        show (sumN (cmF BF0 BF bc) i) + cmF BF0 BF bc i = _
                        rw [e8]
                      refine v_iinc (pc := 1194) (v := nI (i + 1)) dL_law_1194 rfl (nI_1 _) (by show _ < 26; decide) rfl ?_
                      refine v_goto (pc := 1197) (tgt := 894) dL_law_1197 (by decide) ?_
                      refine v_room (ck' := ck + 12 * m) (sk' := sk + 72 * m) (by omega) (by omega) ?_
                      have k9 := ih (i + 1) (by omega)
                      rw [es] at k9
                      refine v_sub ?_ k9
                      exact ⟨rfl, rfl, rfl, rfl, rfl, rfl, rfl, rfl, rfl, rfl, rfl, rfl, rfl, rfl, rfl, trivial⟩
                    · refine v_iconst (pc := 1186) (v := 1) dL_law_1186 rfl ?_
                      refine v_goto (pc := 1187) (tgt := 1191) dL_law_1187 (by decide) ?_
                      refine v_iadd (pc := 1191) dL_law_1191 ?_
                      refine v_istore (pc := 1192) dL_law_1192 (by show _ < 26; decide) rfl ?_
                      have e8 : cmF BF0 BF bc i = 1 := if_pos ⟨hi, c1021, c1183⟩
                      have es : (sumN (cmF BF0 BF bc) (i + 1)) = (sumN (cmF BF0 BF bc) i) + 1 := by
                        show (sumN (cmF BF0 BF bc) i) + cmF BF0 BF bc i = _
                        rw [e8]
                      refine v_iinc (pc := 1194) (v := nI (i + 1)) dL_law_1194 rfl (nI_1 _) (by show _ < 26; decide) rfl ?_
                      refine v_goto (pc := 1197) (tgt := 894) dL_law_1197 (by decide) ?_
                      refine v_room (ck' := ck + 12 * m) (sk' := sk + 72 * m) (by omega) (by omega) ?_
                      have k9 := ih (i + 1) (by omega)
                      rw [es] at k9
                      refine v_sub ?_ k9
                      exact ⟨rfl, rfl, rfl, rfl, rfl, rfl, rfl, rfl, rfl, rfl, rfl, rfl, rfl, rfl, rfl, trivial⟩
                  · refine v_aload_nR (pc := 1164) dL_law_1164 rfl rfl ?_
                    refine v_iload (pc := 1165) dL_law_1165 rfl ?_
                    refine v_iconst (pc := 1167) (v := 4) dL_law_1167 rfl ?_
                    refine v_callV2 (pc := 1168) (c7_bag hps hsc hbc (b9 := i) (q := 4) hi (by decide)) cm_X5_bag q357 q358 q359 (ci := 5) rfl rfl (orcO 0 rfl) [0, 1, 2, 3, 4, 5, 6, 7, 8, 9, 10, 11, 12, 13, 14, 15, 16, 17] (by rfl) (by decide) (fun _ _ h => h) (by omega) (by omega) (by decide) (Nat.le_of_ble_eq_true rfl) dL_law_1168 (fun v1168 M1168 hQ1168 => ?_)
                    obtain ⟨rfl, rfl⟩ := hQ1168
                    try dsimp only [wb, tlS_0, tlS_1, tlS_2, tlS_3, tlS_4, tlS_5, tlS_6, tlS_7, tlS_8, tlC_0, tlC_1, tlC_2, tlC_3, LawM, LakeM, WaysM, WorldM, SimM, List.set_cons_succ, List.set_cons_zero, List.append_nil, List.nil_append, List.cons_append, Option.toList, Nat.sub_zero]
                    refine v_iload (pc := 1171) dL_law_1171 rfl ?_
                    refine v_icmp_eq (pc := 1173) (tgt := 1178) dL_law_1173 (by decide) (fun c1173 => ?_) (fun c1173 => absurd (h3d c1161) c1173)
                    refine v_iload (pc := 1178) dL_law_1178 rfl ?_
                    refine v_iload (pc := 1180) dL_law_1180 rfl ?_
                    refine v_iconst (pc := 1182) (v := 2) dL_law_1182 rfl ?_
                    refine v_icmp_ne (pc := 1183) (tgt := 1190) dL_law_1183 (by decide) (fun c1183 => ?_) (fun c1183 => ?_)
                    · refine v_iconst (pc := 1190) (v := 0) dL_law_1190 rfl ?_
                      refine v_iadd (pc := 1191) dL_law_1191 ?_
                      refine v_istore (pc := 1192) dL_law_1192 (by show _ < 26; decide) rfl ?_
                      have e8 : cmF BF0 BF bc i = 0 := if_neg (fun q => c1183 q.2.2)
                      have es : (sumN (cmF BF0 BF bc) (i + 1)) = (sumN (cmF BF0 BF bc) i) + 0 := by
                        show (sumN (cmF BF0 BF bc) i) + cmF BF0 BF bc i = _
                        rw [e8]
                      refine v_iinc (pc := 1194) (v := nI (i + 1)) dL_law_1194 rfl (nI_1 _) (by show _ < 26; decide) rfl ?_
                      refine v_goto (pc := 1197) (tgt := 894) dL_law_1197 (by decide) ?_
                      refine v_room (ck' := ck + 12 * m) (sk' := sk + 72 * m) (by omega) (by omega) ?_
                      have k9 := ih (i + 1) (by omega)
                      rw [es] at k9
                      refine v_sub ?_ k9
                      exact ⟨rfl, rfl, rfl, rfl, rfl, rfl, rfl, rfl, rfl, rfl, rfl, rfl, rfl, rfl, rfl, trivial⟩
                    · refine v_iconst (pc := 1186) (v := 1) dL_law_1186 rfl ?_
                      refine v_goto (pc := 1187) (tgt := 1191) dL_law_1187 (by decide) ?_
                      refine v_iadd (pc := 1191) dL_law_1191 ?_
                      refine v_istore (pc := 1192) dL_law_1192 (by show _ < 26; decide) rfl ?_
                      have e8 : cmF BF0 BF bc i = 1 := if_pos ⟨hi, c1021, c1183⟩
                      have es : (sumN (cmF BF0 BF bc) (i + 1)) = (sumN (cmF BF0 BF bc) i) + 1 := by
                        show (sumN (cmF BF0 BF bc) i) + cmF BF0 BF bc i = _
                        rw [e8]
                      refine v_iinc (pc := 1194) (v := nI (i + 1)) dL_law_1194 rfl (nI_1 _) (by show _ < 26; decide) rfl ?_
                      refine v_goto (pc := 1197) (tgt := 894) dL_law_1197 (by decide) ?_
                      refine v_room (ck' := ck + 12 * m) (sk' := sk + 72 * m) (by omega) (by omega) ?_
                      have k9 := ih (i + 1) (by omega)
                      rw [es] at k9
                      refine v_sub ?_ k9
                      exact ⟨rfl, rfl, rfl, rfl, rfl, rfl, rfl, rfl, rfl, rfl, rfl, rfl, rfl, rfl, rfl, trivial⟩
                · refine v_iconst (pc := 1129) (v := 2) dL_law_1129 rfl ?_
                  refine v_goto (pc := 1130) (tgt := 1138) dL_law_1130 (by decide) ?_
                  refine v_icmp_ne (pc := 1138) (tgt := 1176) dL_law_1138 (by decide) (fun c1138 => absurd ((h3b (fun q => absurd (c1061.symm.trans q) (by decide)) ⟨c1061, c1072⟩).1.trans (if_pos c1126)) c1138) (fun c1138 => ?_)
                  refine v_iload (pc := 1141) dL_law_1141 rfl ?_
                  refine v_if_eq (pc := 1143) (tgt := 1158) dL_law_1143 (by decide) (fun c1143 => absurd c1143 (by decide)) (fun c1143 => ?_)
                  refine v_aload_nR (pc := 1146) dL_law_1146 rfl rfl ?_
                  refine v_iload (pc := 1147) dL_law_1147 rfl ?_
                  refine v_iconst (pc := 1149) (v := 3) dL_law_1149 rfl ?_
                  refine v_callV2 (pc := 1150) (c7_bag hps hsc hbc (b9 := i) (q := 3) hi (by decide)) cm_X5_bag q357 q358 q359 (ci := 5) rfl rfl (orcO 0 rfl) [0, 1, 2, 3, 4, 5, 6, 7, 8, 9, 10, 11, 12, 13, 14, 15, 16, 17] (by rfl) (by decide) (fun _ _ h => h) (by omega) (by omega) (by decide) (Nat.le_of_ble_eq_true rfl) dL_law_1150 (fun v1150 M1150 hQ1150 => ?_)
                  obtain ⟨rfl, rfl⟩ := hQ1150
                  try dsimp only [wb, tlS_0, tlS_1, tlS_2, tlS_3, tlS_4, tlS_5, tlS_6, tlS_7, tlS_8, tlC_0, tlC_1, tlC_2, tlC_3, LawM, LakeM, WaysM, WorldM, SimM, List.set_cons_succ, List.set_cons_zero, List.append_nil, List.nil_append, List.cons_append, Option.toList, Nat.sub_zero]
                  refine v_iload (pc := 1153) dL_law_1153 rfl ?_
                  refine v_icmp_ne (pc := 1155) (tgt := 1176) dL_law_1155 (by decide) (fun c1155 => absurd (h3b (fun q => absurd (c1061.symm.trans q) (by decide)) ⟨c1061, c1072⟩).2 c1155) (fun c1155 => ?_)
                  refine v_iload (pc := 1158) dL_law_1158 rfl ?_
                  refine v_iconst (pc := 1160) (v := 2) dL_law_1160 rfl ?_
                  refine v_icmp_ne (pc := 1161) (tgt := 1178) dL_law_1161 (by decide) (fun c1161 => ?_) (fun c1161 => ?_)
                  · refine v_iload (pc := 1178) dL_law_1178 rfl ?_
                    refine v_iload (pc := 1180) dL_law_1180 rfl ?_
                    refine v_iconst (pc := 1182) (v := 2) dL_law_1182 rfl ?_
                    refine v_icmp_ne (pc := 1183) (tgt := 1190) dL_law_1183 (by decide) (fun c1183 => ?_) (fun c1183 => ?_)
                    · refine v_iconst (pc := 1190) (v := 0) dL_law_1190 rfl ?_
                      refine v_iadd (pc := 1191) dL_law_1191 ?_
                      refine v_istore (pc := 1192) dL_law_1192 (by show _ < 26; decide) rfl ?_
                      have e8 : cmF BF0 BF bc i = 0 := if_neg (fun q => c1183 q.2.2)
                      have es : (sumN (cmF BF0 BF bc) (i + 1)) = (sumN (cmF BF0 BF bc) i) + 0 := by
                        show (sumN (cmF BF0 BF bc) i) + cmF BF0 BF bc i = _
                        rw [e8]
                      refine v_iinc (pc := 1194) (v := nI (i + 1)) dL_law_1194 rfl (nI_1 _) (by show _ < 26; decide) rfl ?_
                      refine v_goto (pc := 1197) (tgt := 894) dL_law_1197 (by decide) ?_
                      refine v_room (ck' := ck + 12 * m) (sk' := sk + 72 * m) (by omega) (by omega) ?_
                      have k9 := ih (i + 1) (by omega)
                      rw [es] at k9
                      refine v_sub ?_ k9
                      exact ⟨rfl, rfl, rfl, rfl, rfl, rfl, rfl, rfl, rfl, rfl, rfl, rfl, rfl, rfl, rfl, trivial⟩
                    · refine v_iconst (pc := 1186) (v := 1) dL_law_1186 rfl ?_
                      refine v_goto (pc := 1187) (tgt := 1191) dL_law_1187 (by decide) ?_
                      refine v_iadd (pc := 1191) dL_law_1191 ?_
                      refine v_istore (pc := 1192) dL_law_1192 (by show _ < 26; decide) rfl ?_
                      have e8 : cmF BF0 BF bc i = 1 := if_pos ⟨hi, c1021, c1183⟩
                      have es : (sumN (cmF BF0 BF bc) (i + 1)) = (sumN (cmF BF0 BF bc) i) + 1 := by
                        show (sumN (cmF BF0 BF bc) i) + cmF BF0 BF bc i = _
                        rw [e8]
                      refine v_iinc (pc := 1194) (v := nI (i + 1)) dL_law_1194 rfl (nI_1 _) (by show _ < 26; decide) rfl ?_
                      refine v_goto (pc := 1197) (tgt := 894) dL_law_1197 (by decide) ?_
                      refine v_room (ck' := ck + 12 * m) (sk' := sk + 72 * m) (by omega) (by omega) ?_
                      have k9 := ih (i + 1) (by omega)
                      rw [es] at k9
                      refine v_sub ?_ k9
                      exact ⟨rfl, rfl, rfl, rfl, rfl, rfl, rfl, rfl, rfl, rfl, rfl, rfl, rfl, rfl, rfl, trivial⟩
                  · refine v_aload_nR (pc := 1164) dL_law_1164 rfl rfl ?_
                    refine v_iload (pc := 1165) dL_law_1165 rfl ?_
                    refine v_iconst (pc := 1167) (v := 4) dL_law_1167 rfl ?_
                    refine v_callV2 (pc := 1168) (c7_bag hps hsc hbc (b9 := i) (q := 4) hi (by decide)) cm_X5_bag q357 q358 q359 (ci := 5) rfl rfl (orcO 0 rfl) [0, 1, 2, 3, 4, 5, 6, 7, 8, 9, 10, 11, 12, 13, 14, 15, 16, 17] (by rfl) (by decide) (fun _ _ h => h) (by omega) (by omega) (by decide) (Nat.le_of_ble_eq_true rfl) dL_law_1168 (fun v1168 M1168 hQ1168 => ?_)
                    obtain ⟨rfl, rfl⟩ := hQ1168
                    try dsimp only [wb, tlS_0, tlS_1, tlS_2, tlS_3, tlS_4, tlS_5, tlS_6, tlS_7, tlS_8, tlC_0, tlC_1, tlC_2, tlC_3, LawM, LakeM, WaysM, WorldM, SimM, List.set_cons_succ, List.set_cons_zero, List.append_nil, List.nil_append, List.cons_append, Option.toList, Nat.sub_zero]
                    refine v_iload (pc := 1171) dL_law_1171 rfl ?_
                    refine v_icmp_eq (pc := 1173) (tgt := 1178) dL_law_1173 (by decide) (fun c1173 => ?_) (fun c1173 => absurd (h3d c1161) c1173)
                    refine v_iload (pc := 1178) dL_law_1178 rfl ?_
                    refine v_iload (pc := 1180) dL_law_1180 rfl ?_
                    refine v_iconst (pc := 1182) (v := 2) dL_law_1182 rfl ?_
                    refine v_icmp_ne (pc := 1183) (tgt := 1190) dL_law_1183 (by decide) (fun c1183 => ?_) (fun c1183 => ?_)
                    · refine v_iconst (pc := 1190) (v := 0) dL_law_1190 rfl ?_
                      refine v_iadd (pc := 1191) dL_law_1191 ?_
                      refine v_istore (pc := 1192) dL_law_1192 (by show _ < 26; decide) rfl ?_
                      have e8 : cmF BF0 BF bc i = 0 := if_neg (fun q => c1183 q.2.2)
                      have es : (sumN (cmF BF0 BF bc) (i + 1)) = (sumN (cmF BF0 BF bc) i) + 0 := by
                        show (sumN (cmF BF0 BF bc) i) + cmF BF0 BF bc i = _
                        rw [e8]
                      refine v_iinc (pc := 1194) (v := nI (i + 1)) dL_law_1194 rfl (nI_1 _) (by show _ < 26; decide) rfl ?_
                      refine v_goto (pc := 1197) (tgt := 894) dL_law_1197 (by decide) ?_
                      refine v_room (ck' := ck + 12 * m) (sk' := sk + 72 * m) (by omega) (by omega) ?_
                      have k9 := ih (i + 1) (by omega)
                      rw [es] at k9
                      refine v_sub ?_ k9
                      exact ⟨rfl, rfl, rfl, rfl, rfl, rfl, rfl, rfl, rfl, rfl, rfl, rfl, rfl, rfl, rfl, trivial⟩
                    · refine v_iconst (pc := 1186) (v := 1) dL_law_1186 rfl ?_
                      refine v_goto (pc := 1187) (tgt := 1191) dL_law_1187 (by decide) ?_
                      refine v_iadd (pc := 1191) dL_law_1191 ?_
                      refine v_istore (pc := 1192) dL_law_1192 (by show _ < 26; decide) rfl ?_
                      have e8 : cmF BF0 BF bc i = 1 := if_pos ⟨hi, c1021, c1183⟩
                      have es : (sumN (cmF BF0 BF bc) (i + 1)) = (sumN (cmF BF0 BF bc) i) + 1 := by
                        show (sumN (cmF BF0 BF bc) i) + cmF BF0 BF bc i = _
                        rw [e8]
                      refine v_iinc (pc := 1194) (v := nI (i + 1)) dL_law_1194 rfl (nI_1 _) (by show _ < 26; decide) rfl ?_
                      refine v_goto (pc := 1197) (tgt := 894) dL_law_1197 (by decide) ?_
                      refine v_room (ck' := ck + 12 * m) (sk' := sk + 72 * m) (by omega) (by omega) ?_
                      have k9 := ih (i + 1) (by omega)
                      rw [es] at k9
                      refine v_sub ?_ k9
                      exact ⟨rfl, rfl, rfl, rfl, rfl, rfl, rfl, rfl, rfl, rfl, rfl, rfl, rfl, rfl, rfl, trivial⟩
              · refine v_iconst (pc := 1108) (v := 3) dL_law_1108 rfl ?_
                refine v_goto (pc := 1109) (tgt := 1138) dL_law_1109 (by decide) ?_
                refine v_icmp_ne (pc := 1138) (tgt := 1176) dL_law_1138 (by decide) (fun c1138 => absurd (h3a c1105) c1138) (fun c1138 => ?_)
                refine v_iload (pc := 1141) dL_law_1141 rfl ?_
                refine v_if_eq (pc := 1143) (tgt := 1158) dL_law_1143 (by decide) (fun c1143 => absurd c1143 (by decide)) (fun c1143 => ?_)
                refine v_aload_nR (pc := 1146) dL_law_1146 rfl rfl ?_
                refine v_iload (pc := 1147) dL_law_1147 rfl ?_
                refine v_iconst (pc := 1149) (v := 3) dL_law_1149 rfl ?_
                refine v_callV2 (pc := 1150) (c7_bag hps hsc hbc (b9 := i) (q := 3) hi (by decide)) cm_X5_bag q357 q358 q359 (ci := 5) rfl rfl (orcO 0 rfl) [0, 1, 2, 3, 4, 5, 6, 7, 8, 9, 10, 11, 12, 13, 14, 15, 16, 17] (by rfl) (by decide) (fun _ _ h => h) (by omega) (by omega) (by decide) (Nat.le_of_ble_eq_true rfl) dL_law_1150 (fun v1150 M1150 hQ1150 => ?_)
                obtain ⟨rfl, rfl⟩ := hQ1150
                try dsimp only [wb, tlS_0, tlS_1, tlS_2, tlS_3, tlS_4, tlS_5, tlS_6, tlS_7, tlS_8, tlC_0, tlC_1, tlC_2, tlC_3, LawM, LakeM, WaysM, WorldM, SimM, List.set_cons_succ, List.set_cons_zero, List.append_nil, List.nil_append, List.cons_append, Option.toList, Nat.sub_zero]
                refine v_iload (pc := 1153) dL_law_1153 rfl ?_
                refine v_icmp_ne (pc := 1155) (tgt := 1176) dL_law_1155 (by decide) (fun c1155 => absurd (h3b (fun q => absurd (c1061.symm.trans q) (by decide)) ⟨c1061, c1072⟩).2 c1155) (fun c1155 => ?_)
                refine v_iload (pc := 1158) dL_law_1158 rfl ?_
                refine v_iconst (pc := 1160) (v := 2) dL_law_1160 rfl ?_
                refine v_icmp_ne (pc := 1161) (tgt := 1178) dL_law_1161 (by decide) (fun c1161 => ?_) (fun c1161 => ?_)
                · refine v_iload (pc := 1178) dL_law_1178 rfl ?_
                  refine v_iload (pc := 1180) dL_law_1180 rfl ?_
                  refine v_iconst (pc := 1182) (v := 2) dL_law_1182 rfl ?_
                  refine v_icmp_ne (pc := 1183) (tgt := 1190) dL_law_1183 (by decide) (fun c1183 => ?_) (fun c1183 => ?_)
                  · refine v_iconst (pc := 1190) (v := 0) dL_law_1190 rfl ?_
                    refine v_iadd (pc := 1191) dL_law_1191 ?_
                    refine v_istore (pc := 1192) dL_law_1192 (by show _ < 26; decide) rfl ?_
                    have e8 : cmF BF0 BF bc i = 0 := if_neg (fun q => c1183 q.2.2)
                    have es : (sumN (cmF BF0 BF bc) (i + 1)) = (sumN (cmF BF0 BF bc) i) + 0 := by
                      show (sumN (cmF BF0 BF bc) i) + cmF BF0 BF bc i = _
                      rw [e8]
                    refine v_iinc (pc := 1194) (v := nI (i + 1)) dL_law_1194 rfl (nI_1 _) (by show _ < 26; decide) rfl ?_
                    refine v_goto (pc := 1197) (tgt := 894) dL_law_1197 (by decide) ?_
                    refine v_room (ck' := ck + 12 * m) (sk' := sk + 72 * m) (by omega) (by omega) ?_
                    have k9 := ih (i + 1) (by omega)
                    rw [es] at k9
                    refine v_sub ?_ k9
                    exact ⟨rfl, rfl, rfl, rfl, rfl, rfl, rfl, rfl, rfl, rfl, rfl, rfl, rfl, rfl, rfl, trivial⟩
                  · refine v_iconst (pc := 1186) (v := 1) dL_law_1186 rfl ?_
                    refine v_goto (pc := 1187) (tgt := 1191) dL_law_1187 (by decide) ?_
                    refine v_iadd (pc := 1191) dL_law_1191 ?_
                    refine v_istore (pc := 1192) dL_law_1192 (by show _ < 26; decide) rfl ?_
                    have e8 : cmF BF0 BF bc i = 1 := if_pos ⟨hi, c1021, c1183⟩
                    have es : (sumN (cmF BF0 BF bc) (i + 1)) = (sumN (cmF BF0 BF bc) i) + 1 := by
                      show (sumN (cmF BF0 BF bc) i) + cmF BF0 BF bc i = _
                      rw [e8]
                    refine v_iinc (pc := 1194) (v := nI (i + 1)) dL_law_1194 rfl (nI_1 _) (by show _ < 26; decide) rfl ?_
                    refine v_goto (pc := 1197) (tgt := 894) dL_law_1197 (by decide) ?_
                    refine v_room (ck' := ck + 12 * m) (sk' := sk + 72 * m) (by omega) (by omega) ?_
                    have k9 := ih (i + 1) (by omega)
                    rw [es] at k9
                    refine v_sub ?_ k9
                    exact ⟨rfl, rfl, rfl, rfl, rfl, rfl, rfl, rfl, rfl, rfl, rfl, rfl, rfl, rfl, rfl, trivial⟩
                · refine v_aload_nR (pc := 1164) dL_law_1164 rfl rfl ?_
                  refine v_iload (pc := 1165) dL_law_1165 rfl ?_
                  refine v_iconst (pc := 1167) (v := 4) dL_law_1167 rfl ?_
                  refine v_callV2 (pc := 1168) (c7_bag hps hsc hbc (b9 := i) (q := 4) hi (by decide)) cm_X5_bag q357 q358 q359 (ci := 5) rfl rfl (orcO 0 rfl) [0, 1, 2, 3, 4, 5, 6, 7, 8, 9, 10, 11, 12, 13, 14, 15, 16, 17] (by rfl) (by decide) (fun _ _ h => h) (by omega) (by omega) (by decide) (Nat.le_of_ble_eq_true rfl) dL_law_1168 (fun v1168 M1168 hQ1168 => ?_)
                  obtain ⟨rfl, rfl⟩ := hQ1168
                  try dsimp only [wb, tlS_0, tlS_1, tlS_2, tlS_3, tlS_4, tlS_5, tlS_6, tlS_7, tlS_8, tlC_0, tlC_1, tlC_2, tlC_3, LawM, LakeM, WaysM, WorldM, SimM, List.set_cons_succ, List.set_cons_zero, List.append_nil, List.nil_append, List.cons_append, Option.toList, Nat.sub_zero]
                  refine v_iload (pc := 1171) dL_law_1171 rfl ?_
                  refine v_icmp_eq (pc := 1173) (tgt := 1178) dL_law_1173 (by decide) (fun c1173 => ?_) (fun c1173 => absurd (h3d c1161) c1173)
                  refine v_iload (pc := 1178) dL_law_1178 rfl ?_
                  refine v_iload (pc := 1180) dL_law_1180 rfl ?_
                  refine v_iconst (pc := 1182) (v := 2) dL_law_1182 rfl ?_
                  refine v_icmp_ne (pc := 1183) (tgt := 1190) dL_law_1183 (by decide) (fun c1183 => ?_) (fun c1183 => ?_)
                  · refine v_iconst (pc := 1190) (v := 0) dL_law_1190 rfl ?_
                    refine v_iadd (pc := 1191) dL_law_1191 ?_
                    refine v_istore (pc := 1192) dL_law_1192 (by show _ < 26; decide) rfl ?_
                    have e8 : cmF BF0 BF bc i = 0 := if_neg (fun q => c1183 q.2.2)
                    have es : (sumN (cmF BF0 BF bc) (i + 1)) = (sumN (cmF BF0 BF bc) i) + 0 := by
                      show (sumN (cmF BF0 BF bc) i) + cmF BF0 BF bc i = _
                      rw [e8]
                    refine v_iinc (pc := 1194) (v := nI (i + 1)) dL_law_1194 rfl (nI_1 _) (by show _ < 26; decide) rfl ?_
                    refine v_goto (pc := 1197) (tgt := 894) dL_law_1197 (by decide) ?_
                    refine v_room (ck' := ck + 12 * m) (sk' := sk + 72 * m) (by omega) (by omega) ?_
                    have k9 := ih (i + 1) (by omega)
                    rw [es] at k9
                    refine v_sub ?_ k9
                    exact ⟨rfl, rfl, rfl, rfl, rfl, rfl, rfl, rfl, rfl, rfl, rfl, rfl, rfl, rfl, rfl, trivial⟩
                  · refine v_iconst (pc := 1186) (v := 1) dL_law_1186 rfl ?_
                    refine v_goto (pc := 1187) (tgt := 1191) dL_law_1187 (by decide) ?_
                    refine v_iadd (pc := 1191) dL_law_1191 ?_
                    refine v_istore (pc := 1192) dL_law_1192 (by show _ < 26; decide) rfl ?_
                    have e8 : cmF BF0 BF bc i = 1 := if_pos ⟨hi, c1021, c1183⟩
                    have es : (sumN (cmF BF0 BF bc) (i + 1)) = (sumN (cmF BF0 BF bc) i) + 1 := by
                      show (sumN (cmF BF0 BF bc) i) + cmF BF0 BF bc i = _
                      rw [e8]
                    refine v_iinc (pc := 1194) (v := nI (i + 1)) dL_law_1194 rfl (nI_1 _) (by show _ < 26; decide) rfl ?_
                    refine v_goto (pc := 1197) (tgt := 894) dL_law_1197 (by decide) ?_
                    refine v_room (ck' := ck + 12 * m) (sk' := sk + 72 * m) (by omega) (by omega) ?_
                    have k9 := ih (i + 1) (by omega)
                    rw [es] at k9
                    refine v_sub ?_ k9
                    exact ⟨rfl, rfl, rfl, rfl, rfl, rfl, rfl, rfl, rfl, rfl, rfl, rfl, rfl, rfl, rfl, trivial⟩
        · refine v_iload (pc := 1024) dL_law_1024 rfl ?_
          refine v_aloadR (pc := 1026) dL_law_1026 rfl ?_
          refine v_iload (pc := 1028) dL_law_1028 rfl ?_
          refine v_aaldS (pc := 1030) 52 (k := i) (by decide) rfl (by omega) (by omega) dL_law_1030 ?_
          refine v_iconst (pc := 1031) (v := 2) dL_law_1031 rfl ?_
          refine v_ialdGN (pc := 1032) 53 (j := 2) rfl (by omega) (by decide) (by decide) dL_law_1032 ?_
          try dsimp only [wb, tlS_0, tlS_1, tlS_2, tlS_3, tlS_4, tlS_5, tlS_6, tlS_7, tlS_8, tlC_0, tlC_1, tlC_2, tlC_3, LawM, LakeM, WaysM, WorldM, SimM, List.set_cons_succ, List.set_cons_zero, List.append_nil, List.nil_append, List.cons_append, Option.toList, Nat.sub_zero]
          refine v_icmp_ne (pc := 1033) (tgt := 1048) dL_law_1033 (by decide) (fun c1033 => absurd (g5 c1021).1 c1033) (fun c1033 => ?_)
          refine v_aload_nR (pc := 1036) dL_law_1036 rfl rfl ?_
          refine v_iload (pc := 1037) dL_law_1037 rfl ?_
          refine v_iconst (pc := 1039) (v := 3) dL_law_1039 rfl ?_
          refine v_callV2 (pc := 1040) (c7_bag hps hsc hbc (b9 := i) (q := 3) hi (by decide)) cm_X5_bag q357 q358 q359 (ci := 5) rfl rfl (orcO 0 rfl) [0, 1, 2, 3, 4, 5, 6, 7, 8, 9, 10, 11, 12, 13, 14, 15, 16, 17] (by rfl) (by decide) (fun _ _ h => h) (by omega) (by omega) (by decide) (Nat.le_of_ble_eq_true rfl) dL_law_1040 (fun v1040 M1040 hQ1040 => ?_)
          obtain ⟨rfl, rfl⟩ := hQ1040
          try dsimp only [wb, tlS_0, tlS_1, tlS_2, tlS_3, tlS_4, tlS_5, tlS_6, tlS_7, tlS_8, tlC_0, tlC_1, tlC_2, tlC_3, LawM, LakeM, WaysM, WorldM, SimM, List.set_cons_succ, List.set_cons_zero, List.append_nil, List.nil_append, List.cons_append, Option.toList, Nat.sub_zero]
          refine v_iload (pc := 1043) dL_law_1043 rfl ?_
          refine v_icmp_eq (pc := 1045) (tgt := 1194) dL_law_1045 (by decide) (fun c1045 => ?_) (fun c1045 => absurd (g5 c1021).2 c1045)
          have e8 : cmF BF0 BF bc i = 0 := if_neg (fun q => c1021 q.2.1)
          have es : (sumN (cmF BF0 BF bc) (i + 1)) = (sumN (cmF BF0 BF bc) i) := by
            show (sumN (cmF BF0 BF bc) i) + cmF BF0 BF bc i = _
            rw [e8, Int32.add_zero]
          refine v_iinc (pc := 1194) (v := nI (i + 1)) dL_law_1194 rfl (nI_1 _) (by show _ < 26; decide) rfl ?_
          refine v_goto (pc := 1197) (tgt := 894) dL_law_1197 (by decide) ?_
          refine v_room (ck' := ck + 12 * m) (sk' := sk + 72 * m) (by omega) (by omega) ?_
          have k9 := ih (i + 1) (by omega)
          rw [es] at k9
          refine v_sub ?_ k9
          exact ⟨rfl, rfl, rfl, rfl, rfl, rfl, rfl, rfl, rfl, rfl, rfl, rfl, rfl, rfl, rfl, trivial⟩
    · refine v_iconst (pc := 959) (v := 1) dL_law_959 rfl ?_
      refine v_goto (pc := 960) (tgt := 964) dL_law_960 (by decide) ?_
      refine v_aload_nR (pc := 964) dL_law_964 rfl rfl ?_
      refine v_iload (pc := 965) dL_law_965 rfl ?_
      refine v_iconst (pc := 967) (v := 4) dL_law_967 rfl ?_
      refine v_callV2 (pc := 968) (c7_bag hps hsc hbc (b9 := i) (q := 4) hi (by decide)) cm_X5_bag q357 q358 q359 (ci := 5) rfl rfl (orcO 0 rfl) [0, 1, 2, 3, 4, 5, 6, 7, 8, 9, 10, 11, 12, 13, 14, 15, 16, 17] (by rfl) (by decide) (fun _ _ h => h) (by omega) (by omega) (by decide) (Nat.le_of_ble_eq_true rfl) dL_law_968 (fun v968 M968 hQ968 => ?_)
      obtain ⟨rfl, rfl⟩ := hQ968
      try dsimp only [wb, tlS_0, tlS_1, tlS_2, tlS_3, tlS_4, tlS_5, tlS_6, tlS_7, tlS_8, tlC_0, tlC_1, tlC_2, tlC_3, LawM, LakeM, WaysM, WorldM, SimM, List.set_cons_succ, List.set_cons_zero, List.append_nil, List.nil_append, List.cons_append, Option.toList, Nat.sub_zero]
      refine v_if_lt (pc := 971) (tgt := 978) dL_law_971 (by decide) (fun c971 => absurd c971 (Int32.not_lt.mpr (g24.mp c956))) (fun c971 => ?_)
      refine v_iconst (pc := 974) (v := 1) dL_law_974 rfl ?_
      refine v_goto (pc := 975) (tgt := 979) dL_law_975 (by decide) ?_
      refine v_icmp_ne (pc := 979) (tgt := 1011) dL_law_979 (by decide) (fun c979 => absurd c979 (by decide)) (fun c979 => ?_)
      refine v_iload (pc := 982) dL_law_982 rfl ?_
      refine v_iconst (pc := 984) (v := 3) dL_law_984 rfl ?_
      refine v_icmp_ne (pc := 985) (tgt := 992) dL_law_985 (by decide) (fun c985 => ?_) (fun c985 => ?_)
      · refine v_iconst (pc := 992) (v := 0) dL_law_992 rfl ?_
        refine v_aload_nR (pc := 993) dL_law_993 rfl rfl ?_
        refine v_iload (pc := 994) dL_law_994 rfl ?_
        refine v_iconst (pc := 996) (v := 3) dL_law_996 rfl ?_
        refine v_callV2 (pc := 997) (c7_bag hps hsc hbc (b9 := i) (q := 3) hi (by decide)) cm_X5_bag q357 q358 q359 (ci := 5) rfl rfl (orcO 0 rfl) [0, 1, 2, 3, 4, 5, 6, 7, 8, 9, 10, 11, 12, 13, 14, 15, 16, 17] (by rfl) (by decide) (fun _ _ h => h) (by omega) (by omega) (by decide) (Nat.le_of_ble_eq_true rfl) dL_law_997 (fun v997 M997 hQ997 => ?_)
        obtain ⟨rfl, rfl⟩ := hQ997
        try dsimp only [wb, tlS_0, tlS_1, tlS_2, tlS_3, tlS_4, tlS_5, tlS_6, tlS_7, tlS_8, tlC_0, tlC_1, tlC_2, tlC_3, LawM, LakeM, WaysM, WorldM, SimM, List.set_cons_succ, List.set_cons_zero, List.append_nil, List.nil_append, List.cons_append, Option.toList, Nat.sub_zero]
        refine v_if_ge (pc := 1000) (tgt := 1007) dL_law_1000 (by decide) (fun c1000 => ?_) (fun c1000 => absurd (g33.mpr (Int32.not_le.mp c1000)) c985)
        refine v_iconst (pc := 1007) (v := 0) dL_law_1007 rfl ?_
        refine v_icmp_eq (pc := 1008) (tgt := 1013) dL_law_1008 (by decide) (fun c1008 => ?_) (fun c1008 => absurd c1008 (by decide))
        refine v_aloadR (pc := 1013) dL_law_1013 rfl ?_
        refine v_iload (pc := 1015) dL_law_1015 rfl ?_
        refine v_aaldS (pc := 1017) 52 (k := i) (by decide) rfl (by omega) (by omega) dL_law_1017 ?_
        refine v_iconst (pc := 1018) (v := 2) dL_law_1018 rfl ?_
        refine v_ialdGN (pc := 1019) 53 (j := 2) rfl (by omega) (by decide) (by decide) dL_law_1019 ?_
        try dsimp only [wb, tlS_0, tlS_1, tlS_2, tlS_3, tlS_4, tlS_5, tlS_6, tlS_7, tlS_8, tlC_0, tlC_1, tlC_2, tlC_3, LawM, LakeM, WaysM, WorldM, SimM, List.set_cons_succ, List.set_cons_zero, List.append_nil, List.nil_append, List.cons_append, Option.toList, Nat.sub_zero]
        refine v_iconst (pc := 1020) (v := 1) dL_law_1020 rfl ?_
        refine v_icmp_eq (pc := 1021) (tgt := 1050) dL_law_1021 (by decide) (fun c1021 => ?_) (fun c1021 => ?_)
        · obtain ⟨n9, hn9, e9, h3a, h3b, h3c, h3d⟩ := g6 c1021
          rw [e9]
          refine v_aload_nR (pc := 1050) dL_law_1050 rfl rfl ?_
          refine v_iload (pc := 1051) dL_law_1051 rfl ?_
          refine v_iconst (pc := 1053) (v := 3) dL_law_1053 rfl ?_
          refine v_callV2 (pc := 1054) (c7_sleigh hps hsc hbc (s := n9) (q := 3) hn9 (by decide)) cm_X5_sleigh q323 q324 q325 (ci := 5) rfl rfl (orcO 0 rfl) [0, 1, 2, 3, 4, 5, 6, 7, 8, 9, 10, 11, 12, 13, 14, 15, 16, 17] (by rfl) (by decide) (fun _ _ h => h) (by omega) (by omega) (by decide) (Nat.le_of_ble_eq_true rfl) dL_law_1054 (fun v1054 M1054 hQ1054 => ?_)
          obtain ⟨rfl, rfl⟩ := hQ1054
          try dsimp only [wb, tlS_0, tlS_1, tlS_2, tlS_3, tlS_4, tlS_5, tlS_6, tlS_7, tlS_8, tlC_0, tlC_1, tlC_2, tlC_3, LawM, LakeM, WaysM, WorldM, SimM, List.set_cons_succ, List.set_cons_zero, List.append_nil, List.nil_append, List.cons_append, Option.toList, Nat.sub_zero]
          refine v_istore (pc := 1057) dL_law_1057 (by show _ < 26; decide) rfl ?_
          refine v_iload (pc := 1059) dL_law_1059 rfl ?_
          refine v_if_ne (pc := 1061) (tgt := 1079) dL_law_1061 (by decide) (fun c1061 => ?_) (fun c1061 => ?_)
          · refine v_iconst (pc := 1079) (v := 0) dL_law_1079 rfl ?_
            refine v_istore (pc := 1080) dL_law_1080 (by show _ < 26; decide) rfl ?_
            refine v_iload (pc := 1082) dL_law_1082 rfl ?_
            refine v_if_eq (pc := 1084) (tgt := 1097) dL_law_1084 (by decide) (fun c1084 => ?_) (fun c1084 => absurd c1084 (by decide))
            refine v_iconst (pc := 1097) (v := -1) dL_law_1097 rfl ?_
            refine v_istore (pc := 1098) dL_law_1098 (by show _ < 26; decide) rfl ?_
            refine v_iload (pc := 1100) dL_law_1100 rfl ?_
            refine v_iload (pc := 1102) dL_law_1102 rfl ?_
            refine v_iconst (pc := 1104) (v := 2) dL_law_1104 rfl ?_
            refine v_icmp_ne (pc := 1105) (tgt := 1112) dL_law_1105 (by decide) (fun c1105 => ?_) (fun c1105 => ?_)
            · refine v_iload (pc := 1112) dL_law_1112 rfl ?_
              refine v_if_eq (pc := 1114) (tgt := 1137) dL_law_1114 (by decide) (fun c1114 => ?_) (fun c1114 => absurd c1114 (by decide))
              refine v_iconst (pc := 1137) (v := 1) dL_law_1137 rfl ?_
              refine v_icmp_ne (pc := 1138) (tgt := 1176) dL_law_1138 (by decide) (fun c1138 => absurd (h3c c1105 (fun q => c1061 q.1)) c1138) (fun c1138 => ?_)
              refine v_iload (pc := 1141) dL_law_1141 rfl ?_
              refine v_if_eq (pc := 1143) (tgt := 1158) dL_law_1143 (by decide) (fun c1143 => ?_) (fun c1143 => absurd c1143 (by decide))
              refine v_iload (pc := 1158) dL_law_1158 rfl ?_
              refine v_iconst (pc := 1160) (v := 2) dL_law_1160 rfl ?_
              refine v_icmp_ne (pc := 1161) (tgt := 1178) dL_law_1161 (by decide) (fun c1161 => ?_) (fun c1161 => ?_)
              · refine v_iload (pc := 1178) dL_law_1178 rfl ?_
                refine v_iload (pc := 1180) dL_law_1180 rfl ?_
                refine v_iconst (pc := 1182) (v := 2) dL_law_1182 rfl ?_
                refine v_icmp_ne (pc := 1183) (tgt := 1190) dL_law_1183 (by decide) (fun c1183 => ?_) (fun c1183 => ?_)
                · refine v_iconst (pc := 1190) (v := 0) dL_law_1190 rfl ?_
                  refine v_iadd (pc := 1191) dL_law_1191 ?_
                  refine v_istore (pc := 1192) dL_law_1192 (by show _ < 26; decide) rfl ?_
                  have e8 : cmF BF0 BF bc i = 0 := if_neg (fun q => c1183 q.2.2)
                  have es : (sumN (cmF BF0 BF bc) (i + 1)) = (sumN (cmF BF0 BF bc) i) + 0 := by
                    show (sumN (cmF BF0 BF bc) i) + cmF BF0 BF bc i = _
                    rw [e8]
                  refine v_iinc (pc := 1194) (v := nI (i + 1)) dL_law_1194 rfl (nI_1 _) (by show _ < 26; decide) rfl ?_
                  refine v_goto (pc := 1197) (tgt := 894) dL_law_1197 (by decide) ?_
                  refine v_room (ck' := ck + 12 * m) (sk' := sk + 72 * m) (by omega) (by omega) ?_
                  have k9 := ih (i + 1) (by omega)
                  rw [es] at k9
                  refine v_sub ?_ k9
                  exact ⟨rfl, rfl, rfl, rfl, rfl, rfl, rfl, rfl, rfl, rfl, rfl, rfl, rfl, rfl, rfl, trivial⟩
                · refine v_iconst (pc := 1186) (v := 1) dL_law_1186 rfl ?_
                  refine v_goto (pc := 1187) (tgt := 1191) dL_law_1187 (by decide) ?_
                  refine v_iadd (pc := 1191) dL_law_1191 ?_
                  refine v_istore (pc := 1192) dL_law_1192 (by show _ < 26; decide) rfl ?_
                  have e8 : cmF BF0 BF bc i = 1 := if_pos ⟨hi, c1021, c1183⟩
                  have es : (sumN (cmF BF0 BF bc) (i + 1)) = (sumN (cmF BF0 BF bc) i) + 1 := by
                    show (sumN (cmF BF0 BF bc) i) + cmF BF0 BF bc i = _
                    rw [e8]
                  refine v_iinc (pc := 1194) (v := nI (i + 1)) dL_law_1194 rfl (nI_1 _) (by show _ < 26; decide) rfl ?_
                  refine v_goto (pc := 1197) (tgt := 894) dL_law_1197 (by decide) ?_
                  refine v_room (ck' := ck + 12 * m) (sk' := sk + 72 * m) (by omega) (by omega) ?_
                  have k9 := ih (i + 1) (by omega)
                  rw [es] at k9
                  refine v_sub ?_ k9
                  exact ⟨rfl, rfl, rfl, rfl, rfl, rfl, rfl, rfl, rfl, rfl, rfl, rfl, rfl, rfl, rfl, trivial⟩
              · refine v_aload_nR (pc := 1164) dL_law_1164 rfl rfl ?_
                refine v_iload (pc := 1165) dL_law_1165 rfl ?_
                refine v_iconst (pc := 1167) (v := 4) dL_law_1167 rfl ?_
                refine v_callV2 (pc := 1168) (c7_bag hps hsc hbc (b9 := i) (q := 4) hi (by decide)) cm_X5_bag q357 q358 q359 (ci := 5) rfl rfl (orcO 0 rfl) [0, 1, 2, 3, 4, 5, 6, 7, 8, 9, 10, 11, 12, 13, 14, 15, 16, 17] (by rfl) (by decide) (fun _ _ h => h) (by omega) (by omega) (by decide) (Nat.le_of_ble_eq_true rfl) dL_law_1168 (fun v1168 M1168 hQ1168 => ?_)
                obtain ⟨rfl, rfl⟩ := hQ1168
                try dsimp only [wb, tlS_0, tlS_1, tlS_2, tlS_3, tlS_4, tlS_5, tlS_6, tlS_7, tlS_8, tlC_0, tlC_1, tlC_2, tlC_3, LawM, LakeM, WaysM, WorldM, SimM, List.set_cons_succ, List.set_cons_zero, List.append_nil, List.nil_append, List.cons_append, Option.toList, Nat.sub_zero]
                refine v_iload (pc := 1171) dL_law_1171 rfl ?_
                refine v_icmp_eq (pc := 1173) (tgt := 1178) dL_law_1173 (by decide) (fun c1173 => ?_) (fun c1173 => absurd (h3d c1161) c1173)
                refine v_iload (pc := 1178) dL_law_1178 rfl ?_
                refine v_iload (pc := 1180) dL_law_1180 rfl ?_
                refine v_iconst (pc := 1182) (v := 2) dL_law_1182 rfl ?_
                refine v_icmp_ne (pc := 1183) (tgt := 1190) dL_law_1183 (by decide) (fun c1183 => ?_) (fun c1183 => ?_)
                · refine v_iconst (pc := 1190) (v := 0) dL_law_1190 rfl ?_
                  refine v_iadd (pc := 1191) dL_law_1191 ?_
                  refine v_istore (pc := 1192) dL_law_1192 (by show _ < 26; decide) rfl ?_
                  have e8 : cmF BF0 BF bc i = 0 := if_neg (fun q => c1183 q.2.2)
                  have es : (sumN (cmF BF0 BF bc) (i + 1)) = (sumN (cmF BF0 BF bc) i) + 0 := by
                    show (sumN (cmF BF0 BF bc) i) + cmF BF0 BF bc i = _
                    rw [e8]
                  refine v_iinc (pc := 1194) (v := nI (i + 1)) dL_law_1194 rfl (nI_1 _) (by show _ < 26; decide) rfl ?_
                  refine v_goto (pc := 1197) (tgt := 894) dL_law_1197 (by decide) ?_
                  refine v_room (ck' := ck + 12 * m) (sk' := sk + 72 * m) (by omega) (by omega) ?_
                  have k9 := ih (i + 1) (by omega)
                  rw [es] at k9
                  refine v_sub ?_ k9
                  exact ⟨rfl, rfl, rfl, rfl, rfl, rfl, rfl, rfl, rfl, rfl, rfl, rfl, rfl, rfl, rfl, trivial⟩
                · refine v_iconst (pc := 1186) (v := 1) dL_law_1186 rfl ?_
                  refine v_goto (pc := 1187) (tgt := 1191) dL_law_1187 (by decide) ?_
                  refine v_iadd (pc := 1191) dL_law_1191 ?_
                  refine v_istore (pc := 1192) dL_law_1192 (by show _ < 26; decide) rfl ?_
                  have e8 : cmF BF0 BF bc i = 1 := if_pos ⟨hi, c1021, c1183⟩
                  have es : (sumN (cmF BF0 BF bc) (i + 1)) = (sumN (cmF BF0 BF bc) i) + 1 := by
                    show (sumN (cmF BF0 BF bc) i) + cmF BF0 BF bc i = _
                    rw [e8]
                  refine v_iinc (pc := 1194) (v := nI (i + 1)) dL_law_1194 rfl (nI_1 _) (by show _ < 26; decide) rfl ?_
                  refine v_goto (pc := 1197) (tgt := 894) dL_law_1197 (by decide) ?_
                  refine v_room (ck' := ck + 12 * m) (sk' := sk + 72 * m) (by omega) (by omega) ?_
                  have k9 := ih (i + 1) (by omega)
                  rw [es] at k9
                  refine v_sub ?_ k9
                  exact ⟨rfl, rfl, rfl, rfl, rfl, rfl, rfl, rfl, rfl, rfl, rfl, rfl, rfl, rfl, rfl, trivial⟩
            · refine v_iconst (pc := 1108) (v := 3) dL_law_1108 rfl ?_
              refine v_goto (pc := 1109) (tgt := 1138) dL_law_1109 (by decide) ?_
              refine v_icmp_ne (pc := 1138) (tgt := 1176) dL_law_1138 (by decide) (fun c1138 => absurd (h3a c1105) c1138) (fun c1138 => ?_)
              refine v_iload (pc := 1141) dL_law_1141 rfl ?_
              refine v_if_eq (pc := 1143) (tgt := 1158) dL_law_1143 (by decide) (fun c1143 => ?_) (fun c1143 => absurd c1143 (by decide))
              refine v_iload (pc := 1158) dL_law_1158 rfl ?_
              refine v_iconst (pc := 1160) (v := 2) dL_law_1160 rfl ?_
              refine v_icmp_ne (pc := 1161) (tgt := 1178) dL_law_1161 (by decide) (fun c1161 => ?_) (fun c1161 => ?_)
              · refine v_iload (pc := 1178) dL_law_1178 rfl ?_
                refine v_iload (pc := 1180) dL_law_1180 rfl ?_
                refine v_iconst (pc := 1182) (v := 2) dL_law_1182 rfl ?_
                refine v_icmp_ne (pc := 1183) (tgt := 1190) dL_law_1183 (by decide) (fun c1183 => ?_) (fun c1183 => ?_)
                · refine v_iconst (pc := 1190) (v := 0) dL_law_1190 rfl ?_
                  refine v_iadd (pc := 1191) dL_law_1191 ?_
                  refine v_istore (pc := 1192) dL_law_1192 (by show _ < 26; decide) rfl ?_
                  have e8 : cmF BF0 BF bc i = 0 := if_neg (fun q => c1183 q.2.2)
                  have es : (sumN (cmF BF0 BF bc) (i + 1)) = (sumN (cmF BF0 BF bc) i) + 0 := by
                    show (sumN (cmF BF0 BF bc) i) + cmF BF0 BF bc i = _
                    rw [e8]
                  refine v_iinc (pc := 1194) (v := nI (i + 1)) dL_law_1194 rfl (nI_1 _) (by show _ < 26; decide) rfl ?_
                  refine v_goto (pc := 1197) (tgt := 894) dL_law_1197 (by decide) ?_
                  refine v_room (ck' := ck + 12 * m) (sk' := sk + 72 * m) (by omega) (by omega) ?_
                  have k9 := ih (i + 1) (by omega)
                  rw [es] at k9
                  refine v_sub ?_ k9
                  exact ⟨rfl, rfl, rfl, rfl, rfl, rfl, rfl, rfl, rfl, rfl, rfl, rfl, rfl, rfl, rfl, trivial⟩
                · refine v_iconst (pc := 1186) (v := 1) dL_law_1186 rfl ?_
                  refine v_goto (pc := 1187) (tgt := 1191) dL_law_1187 (by decide) ?_
                  refine v_iadd (pc := 1191) dL_law_1191 ?_
                  refine v_istore (pc := 1192) dL_law_1192 (by show _ < 26; decide) rfl ?_
                  have e8 : cmF BF0 BF bc i = 1 := if_pos ⟨hi, c1021, c1183⟩
                  have es : (sumN (cmF BF0 BF bc) (i + 1)) = (sumN (cmF BF0 BF bc) i) + 1 := by
                    show (sumN (cmF BF0 BF bc) i) + cmF BF0 BF bc i = _
                    rw [e8]
                  refine v_iinc (pc := 1194) (v := nI (i + 1)) dL_law_1194 rfl (nI_1 _) (by show _ < 26; decide) rfl ?_
                  refine v_goto (pc := 1197) (tgt := 894) dL_law_1197 (by decide) ?_
                  refine v_room (ck' := ck + 12 * m) (sk' := sk + 72 * m) (by omega) (by omega) ?_
                  have k9 := ih (i + 1) (by omega)
                  rw [es] at k9
                  refine v_sub ?_ k9
                  exact ⟨rfl, rfl, rfl, rfl, rfl, rfl, rfl, rfl, rfl, rfl, rfl, rfl, rfl, rfl, rfl, trivial⟩
              · refine v_aload_nR (pc := 1164) dL_law_1164 rfl rfl ?_
                refine v_iload (pc := 1165) dL_law_1165 rfl ?_
                refine v_iconst (pc := 1167) (v := 4) dL_law_1167 rfl ?_
                refine v_callV2 (pc := 1168) (c7_bag hps hsc hbc (b9 := i) (q := 4) hi (by decide)) cm_X5_bag q357 q358 q359 (ci := 5) rfl rfl (orcO 0 rfl) [0, 1, 2, 3, 4, 5, 6, 7, 8, 9, 10, 11, 12, 13, 14, 15, 16, 17] (by rfl) (by decide) (fun _ _ h => h) (by omega) (by omega) (by decide) (Nat.le_of_ble_eq_true rfl) dL_law_1168 (fun v1168 M1168 hQ1168 => ?_)
                obtain ⟨rfl, rfl⟩ := hQ1168
                try dsimp only [wb, tlS_0, tlS_1, tlS_2, tlS_3, tlS_4, tlS_5, tlS_6, tlS_7, tlS_8, tlC_0, tlC_1, tlC_2, tlC_3, LawM, LakeM, WaysM, WorldM, SimM, List.set_cons_succ, List.set_cons_zero, List.append_nil, List.nil_append, List.cons_append, Option.toList, Nat.sub_zero]
                refine v_iload (pc := 1171) dL_law_1171 rfl ?_
                refine v_icmp_eq (pc := 1173) (tgt := 1178) dL_law_1173 (by decide) (fun c1173 => ?_) (fun c1173 => absurd (h3d c1161) c1173)
                refine v_iload (pc := 1178) dL_law_1178 rfl ?_
                refine v_iload (pc := 1180) dL_law_1180 rfl ?_
                refine v_iconst (pc := 1182) (v := 2) dL_law_1182 rfl ?_
                refine v_icmp_ne (pc := 1183) (tgt := 1190) dL_law_1183 (by decide) (fun c1183 => ?_) (fun c1183 => ?_)
                · refine v_iconst (pc := 1190) (v := 0) dL_law_1190 rfl ?_
                  refine v_iadd (pc := 1191) dL_law_1191 ?_
                  refine v_istore (pc := 1192) dL_law_1192 (by show _ < 26; decide) rfl ?_
                  have e8 : cmF BF0 BF bc i = 0 := if_neg (fun q => c1183 q.2.2)
                  have es : (sumN (cmF BF0 BF bc) (i + 1)) = (sumN (cmF BF0 BF bc) i) + 0 := by
                    show (sumN (cmF BF0 BF bc) i) + cmF BF0 BF bc i = _
                    rw [e8]
                  refine v_iinc (pc := 1194) (v := nI (i + 1)) dL_law_1194 rfl (nI_1 _) (by show _ < 26; decide) rfl ?_
                  refine v_goto (pc := 1197) (tgt := 894) dL_law_1197 (by decide) ?_
                  refine v_room (ck' := ck + 12 * m) (sk' := sk + 72 * m) (by omega) (by omega) ?_
                  have k9 := ih (i + 1) (by omega)
                  rw [es] at k9
                  refine v_sub ?_ k9
                  exact ⟨rfl, rfl, rfl, rfl, rfl, rfl, rfl, rfl, rfl, rfl, rfl, rfl, rfl, rfl, rfl, trivial⟩
                · refine v_iconst (pc := 1186) (v := 1) dL_law_1186 rfl ?_
                  refine v_goto (pc := 1187) (tgt := 1191) dL_law_1187 (by decide) ?_
                  refine v_iadd (pc := 1191) dL_law_1191 ?_
                  refine v_istore (pc := 1192) dL_law_1192 (by show _ < 26; decide) rfl ?_
                  have e8 : cmF BF0 BF bc i = 1 := if_pos ⟨hi, c1021, c1183⟩
                  have es : (sumN (cmF BF0 BF bc) (i + 1)) = (sumN (cmF BF0 BF bc) i) + 1 := by
                    show (sumN (cmF BF0 BF bc) i) + cmF BF0 BF bc i = _
                    rw [e8]
                  refine v_iinc (pc := 1194) (v := nI (i + 1)) dL_law_1194 rfl (nI_1 _) (by show _ < 26; decide) rfl ?_
                  refine v_goto (pc := 1197) (tgt := 894) dL_law_1197 (by decide) ?_
                  refine v_room (ck' := ck + 12 * m) (sk' := sk + 72 * m) (by omega) (by omega) ?_
                  have k9 := ih (i + 1) (by omega)
                  rw [es] at k9
                  refine v_sub ?_ k9
                  exact ⟨rfl, rfl, rfl, rfl, rfl, rfl, rfl, rfl, rfl, rfl, rfl, rfl, rfl, rfl, rfl, trivial⟩
          · refine v_aloadR (pc := 1064) dL_law_1064 rfl ?_
            refine v_iload (pc := 1066) dL_law_1066 rfl ?_
            refine v_aaldS (pc := 1068) 50 (k := n9) (by decide) rfl (by omega) (by omega) dL_law_1068 ?_
            refine v_iconst (pc := 1069) (v := 3) dL_law_1069 rfl ?_
            refine v_ialdGN (pc := 1070) 51 (j := 3) rfl (by omega) (by decide) (by decide) dL_law_1070 ?_
            try dsimp only [wb, tlS_0, tlS_1, tlS_2, tlS_3, tlS_4, tlS_5, tlS_6, tlS_7, tlS_8, tlC_0, tlC_1, tlC_2, tlC_3, LawM, LakeM, WaysM, WorldM, SimM, List.set_cons_succ, List.set_cons_zero, List.append_nil, List.nil_append, List.cons_append, Option.toList, Nat.sub_zero]
            refine v_iconst (pc := 1071) (v := 1) dL_law_1071 rfl ?_
            refine v_icmp_ne (pc := 1072) (tgt := 1079) dL_law_1072 (by decide) (fun c1072 => ?_) (fun c1072 => ?_)
            · refine v_iconst (pc := 1079) (v := 0) dL_law_1079 rfl ?_
              refine v_istore (pc := 1080) dL_law_1080 (by show _ < 26; decide) rfl ?_
              refine v_iload (pc := 1082) dL_law_1082 rfl ?_
              refine v_if_eq (pc := 1084) (tgt := 1097) dL_law_1084 (by decide) (fun c1084 => ?_) (fun c1084 => absurd c1084 (by decide))
              refine v_iconst (pc := 1097) (v := -1) dL_law_1097 rfl ?_
              refine v_istore (pc := 1098) dL_law_1098 (by show _ < 26; decide) rfl ?_
              refine v_iload (pc := 1100) dL_law_1100 rfl ?_
              refine v_iload (pc := 1102) dL_law_1102 rfl ?_
              refine v_iconst (pc := 1104) (v := 2) dL_law_1104 rfl ?_
              refine v_icmp_ne (pc := 1105) (tgt := 1112) dL_law_1105 (by decide) (fun c1105 => ?_) (fun c1105 => ?_)
              · refine v_iload (pc := 1112) dL_law_1112 rfl ?_
                refine v_if_eq (pc := 1114) (tgt := 1137) dL_law_1114 (by decide) (fun c1114 => ?_) (fun c1114 => absurd c1114 (by decide))
                refine v_iconst (pc := 1137) (v := 1) dL_law_1137 rfl ?_
                refine v_icmp_ne (pc := 1138) (tgt := 1176) dL_law_1138 (by decide) (fun c1138 => absurd (h3c c1105 (fun q => c1072 q.2)) c1138) (fun c1138 => ?_)
                refine v_iload (pc := 1141) dL_law_1141 rfl ?_
                refine v_if_eq (pc := 1143) (tgt := 1158) dL_law_1143 (by decide) (fun c1143 => ?_) (fun c1143 => absurd c1143 (by decide))
                refine v_iload (pc := 1158) dL_law_1158 rfl ?_
                refine v_iconst (pc := 1160) (v := 2) dL_law_1160 rfl ?_
                refine v_icmp_ne (pc := 1161) (tgt := 1178) dL_law_1161 (by decide) (fun c1161 => ?_) (fun c1161 => ?_)
                · refine v_iload (pc := 1178) dL_law_1178 rfl ?_
                  refine v_iload (pc := 1180) dL_law_1180 rfl ?_
                  refine v_iconst (pc := 1182) (v := 2) dL_law_1182 rfl ?_
                  refine v_icmp_ne (pc := 1183) (tgt := 1190) dL_law_1183 (by decide) (fun c1183 => ?_) (fun c1183 => ?_)
                  · refine v_iconst (pc := 1190) (v := 0) dL_law_1190 rfl ?_
                    refine v_iadd (pc := 1191) dL_law_1191 ?_
                    refine v_istore (pc := 1192) dL_law_1192 (by show _ < 26; decide) rfl ?_
                    have e8 : cmF BF0 BF bc i = 0 := if_neg (fun q => c1183 q.2.2)
                    have es : (sumN (cmF BF0 BF bc) (i + 1)) = (sumN (cmF BF0 BF bc) i) + 0 := by
                      show (sumN (cmF BF0 BF bc) i) + cmF BF0 BF bc i = _
                      rw [e8]
                    refine v_iinc (pc := 1194) (v := nI (i + 1)) dL_law_1194 rfl (nI_1 _) (by show _ < 26; decide) rfl ?_
                    refine v_goto (pc := 1197) (tgt := 894) dL_law_1197 (by decide) ?_
                    refine v_room (ck' := ck + 12 * m) (sk' := sk + 72 * m) (by omega) (by omega) ?_
                    have k9 := ih (i + 1) (by omega)
                    rw [es] at k9
                    refine v_sub ?_ k9
                    exact ⟨rfl, rfl, rfl, rfl, rfl, rfl, rfl, rfl, rfl, rfl, rfl, rfl, rfl, rfl, rfl, trivial⟩
                  · refine v_iconst (pc := 1186) (v := 1) dL_law_1186 rfl ?_
                    refine v_goto (pc := 1187) (tgt := 1191) dL_law_1187 (by decide) ?_
                    refine v_iadd (pc := 1191) dL_law_1191 ?_
                    refine v_istore (pc := 1192) dL_law_1192 (by show _ < 26; decide) rfl ?_
                    have e8 : cmF BF0 BF bc i = 1 := if_pos ⟨hi, c1021, c1183⟩
                    have es : (sumN (cmF BF0 BF bc) (i + 1)) = (sumN (cmF BF0 BF bc) i) + 1 := by
                      show (sumN (cmF BF0 BF bc) i) + cmF BF0 BF bc i = _
                      rw [e8]
                    refine v_iinc (pc := 1194) (v := nI (i + 1)) dL_law_1194 rfl (nI_1 _) (by show _ < 26; decide) rfl ?_
                    refine v_goto (pc := 1197) (tgt := 894) dL_law_1197 (by decide) ?_
                    refine v_room (ck' := ck + 12 * m) (sk' := sk + 72 * m) (by omega) (by omega) ?_
                    have k9 := ih (i + 1) (by omega)
                    rw [es] at k9
                    refine v_sub ?_ k9
                    exact ⟨rfl, rfl, rfl, rfl, rfl, rfl, rfl, rfl, rfl, rfl, rfl, rfl, rfl, rfl, rfl, trivial⟩
                · refine v_aload_nR (pc := 1164) dL_law_1164 rfl rfl ?_
                  refine v_iload (pc := 1165) dL_law_1165 rfl ?_
                  refine v_iconst (pc := 1167) (v := 4) dL_law_1167 rfl ?_
                  refine v_callV2 (pc := 1168) (c7_bag hps hsc hbc (b9 := i) (q := 4) hi (by decide)) cm_X5_bag q357 q358 q359 (ci := 5) rfl rfl (orcO 0 rfl) [0, 1, 2, 3, 4, 5, 6, 7, 8, 9, 10, 11, 12, 13, 14, 15, 16, 17] (by rfl) (by decide) (fun _ _ h => h) (by omega) (by omega) (by decide) (Nat.le_of_ble_eq_true rfl) dL_law_1168 (fun v1168 M1168 hQ1168 => ?_)
                  obtain ⟨rfl, rfl⟩ := hQ1168
                  try dsimp only [wb, tlS_0, tlS_1, tlS_2, tlS_3, tlS_4, tlS_5, tlS_6, tlS_7, tlS_8, tlC_0, tlC_1, tlC_2, tlC_3, LawM, LakeM, WaysM, WorldM, SimM, List.set_cons_succ, List.set_cons_zero, List.append_nil, List.nil_append, List.cons_append, Option.toList, Nat.sub_zero]
                  refine v_iload (pc := 1171) dL_law_1171 rfl ?_
                  refine v_icmp_eq (pc := 1173) (tgt := 1178) dL_law_1173 (by decide) (fun c1173 => ?_) (fun c1173 => absurd (h3d c1161) c1173)
                  refine v_iload (pc := 1178) dL_law_1178 rfl ?_
                  refine v_iload (pc := 1180) dL_law_1180 rfl ?_
                  refine v_iconst (pc := 1182) (v := 2) dL_law_1182 rfl ?_
                  refine v_icmp_ne (pc := 1183) (tgt := 1190) dL_law_1183 (by decide) (fun c1183 => ?_) (fun c1183 => ?_)
                  · refine v_iconst (pc := 1190) (v := 0) dL_law_1190 rfl ?_
                    refine v_iadd (pc := 1191) dL_law_1191 ?_
                    refine v_istore (pc := 1192) dL_law_1192 (by show _ < 26; decide) rfl ?_
                    have e8 : cmF BF0 BF bc i = 0 := if_neg (fun q => c1183 q.2.2)
                    have es : (sumN (cmF BF0 BF bc) (i + 1)) = (sumN (cmF BF0 BF bc) i) + 0 := by
                      show (sumN (cmF BF0 BF bc) i) + cmF BF0 BF bc i = _
                      rw [e8]
                    refine v_iinc (pc := 1194) (v := nI (i + 1)) dL_law_1194 rfl (nI_1 _) (by show _ < 26; decide) rfl ?_
                    refine v_goto (pc := 1197) (tgt := 894) dL_law_1197 (by decide) ?_
                    refine v_room (ck' := ck + 12 * m) (sk' := sk + 72 * m) (by omega) (by omega) ?_
                    have k9 := ih (i + 1) (by omega)
                    rw [es] at k9
                    refine v_sub ?_ k9
                    exact ⟨rfl, rfl, rfl, rfl, rfl, rfl, rfl, rfl, rfl, rfl, rfl, rfl, rfl, rfl, rfl, trivial⟩
                  · refine v_iconst (pc := 1186) (v := 1) dL_law_1186 rfl ?_
                    refine v_goto (pc := 1187) (tgt := 1191) dL_law_1187 (by decide) ?_
                    refine v_iadd (pc := 1191) dL_law_1191 ?_
                    refine v_istore (pc := 1192) dL_law_1192 (by show _ < 26; decide) rfl ?_
                    have e8 : cmF BF0 BF bc i = 1 := if_pos ⟨hi, c1021, c1183⟩
                    have es : (sumN (cmF BF0 BF bc) (i + 1)) = (sumN (cmF BF0 BF bc) i) + 1 := by
                      show (sumN (cmF BF0 BF bc) i) + cmF BF0 BF bc i = _
                      rw [e8]
                    refine v_iinc (pc := 1194) (v := nI (i + 1)) dL_law_1194 rfl (nI_1 _) (by show _ < 26; decide) rfl ?_
                    refine v_goto (pc := 1197) (tgt := 894) dL_law_1197 (by decide) ?_
                    refine v_room (ck' := ck + 12 * m) (sk' := sk + 72 * m) (by omega) (by omega) ?_
                    have k9 := ih (i + 1) (by omega)
                    rw [es] at k9
                    refine v_sub ?_ k9
                    exact ⟨rfl, rfl, rfl, rfl, rfl, rfl, rfl, rfl, rfl, rfl, rfl, rfl, rfl, rfl, rfl, trivial⟩
              · refine v_iconst (pc := 1108) (v := 3) dL_law_1108 rfl ?_
                refine v_goto (pc := 1109) (tgt := 1138) dL_law_1109 (by decide) ?_
                refine v_icmp_ne (pc := 1138) (tgt := 1176) dL_law_1138 (by decide) (fun c1138 => absurd (h3a c1105) c1138) (fun c1138 => ?_)
                refine v_iload (pc := 1141) dL_law_1141 rfl ?_
                refine v_if_eq (pc := 1143) (tgt := 1158) dL_law_1143 (by decide) (fun c1143 => ?_) (fun c1143 => absurd c1143 (by decide))
                refine v_iload (pc := 1158) dL_law_1158 rfl ?_
                refine v_iconst (pc := 1160) (v := 2) dL_law_1160 rfl ?_
                refine v_icmp_ne (pc := 1161) (tgt := 1178) dL_law_1161 (by decide) (fun c1161 => ?_) (fun c1161 => ?_)
                · refine v_iload (pc := 1178) dL_law_1178 rfl ?_
                  refine v_iload (pc := 1180) dL_law_1180 rfl ?_
                  refine v_iconst (pc := 1182) (v := 2) dL_law_1182 rfl ?_
                  refine v_icmp_ne (pc := 1183) (tgt := 1190) dL_law_1183 (by decide) (fun c1183 => ?_) (fun c1183 => ?_)
                  · refine v_iconst (pc := 1190) (v := 0) dL_law_1190 rfl ?_
                    refine v_iadd (pc := 1191) dL_law_1191 ?_
                    refine v_istore (pc := 1192) dL_law_1192 (by show _ < 26; decide) rfl ?_
                    have e8 : cmF BF0 BF bc i = 0 := if_neg (fun q => c1183 q.2.2)
                    have es : (sumN (cmF BF0 BF bc) (i + 1)) = (sumN (cmF BF0 BF bc) i) + 0 := by
                      show (sumN (cmF BF0 BF bc) i) + cmF BF0 BF bc i = _
                      rw [e8]
                    refine v_iinc (pc := 1194) (v := nI (i + 1)) dL_law_1194 rfl (nI_1 _) (by show _ < 26; decide) rfl ?_
                    refine v_goto (pc := 1197) (tgt := 894) dL_law_1197 (by decide) ?_
                    refine v_room (ck' := ck + 12 * m) (sk' := sk + 72 * m) (by omega) (by omega) ?_
                    have k9 := ih (i + 1) (by omega)
                    rw [es] at k9
                    refine v_sub ?_ k9
                    exact ⟨rfl, rfl, rfl, rfl, rfl, rfl, rfl, rfl, rfl, rfl, rfl, rfl, rfl, rfl, rfl, trivial⟩
                  · refine v_iconst (pc := 1186) (v := 1) dL_law_1186 rfl ?_
                    refine v_goto (pc := 1187) (tgt := 1191) dL_law_1187 (by decide) ?_
                    refine v_iadd (pc := 1191) dL_law_1191 ?_
                    refine v_istore (pc := 1192) dL_law_1192 (by show _ < 26; decide) rfl ?_
                    have e8 : cmF BF0 BF bc i = 1 := if_pos ⟨hi, c1021, c1183⟩
                    have es : (sumN (cmF BF0 BF bc) (i + 1)) = (sumN (cmF BF0 BF bc) i) + 1 := by
                      show (sumN (cmF BF0 BF bc) i) + cmF BF0 BF bc i = _
                      rw [e8]
                    refine v_iinc (pc := 1194) (v := nI (i + 1)) dL_law_1194 rfl (nI_1 _) (by show _ < 26; decide) rfl ?_
                    refine v_goto (pc := 1197) (tgt := 894) dL_law_1197 (by decide) ?_
                    refine v_room (ck' := ck + 12 * m) (sk' := sk + 72 * m) (by omega) (by omega) ?_
                    have k9 := ih (i + 1) (by omega)
                    rw [es] at k9
                    refine v_sub ?_ k9
                    exact ⟨rfl, rfl, rfl, rfl, rfl, rfl, rfl, rfl, rfl, rfl, rfl, rfl, rfl, rfl, rfl, trivial⟩
                · refine v_aload_nR (pc := 1164) dL_law_1164 rfl rfl ?_
                  refine v_iload (pc := 1165) dL_law_1165 rfl ?_
                  refine v_iconst (pc := 1167) (v := 4) dL_law_1167 rfl ?_
                  refine v_callV2 (pc := 1168) (c7_bag hps hsc hbc (b9 := i) (q := 4) hi (by decide)) cm_X5_bag q357 q358 q359 (ci := 5) rfl rfl (orcO 0 rfl) [0, 1, 2, 3, 4, 5, 6, 7, 8, 9, 10, 11, 12, 13, 14, 15, 16, 17] (by rfl) (by decide) (fun _ _ h => h) (by omega) (by omega) (by decide) (Nat.le_of_ble_eq_true rfl) dL_law_1168 (fun v1168 M1168 hQ1168 => ?_)
                  obtain ⟨rfl, rfl⟩ := hQ1168
                  try dsimp only [wb, tlS_0, tlS_1, tlS_2, tlS_3, tlS_4, tlS_5, tlS_6, tlS_7, tlS_8, tlC_0, tlC_1, tlC_2, tlC_3, LawM, LakeM, WaysM, WorldM, SimM, List.set_cons_succ, List.set_cons_zero, List.append_nil, List.nil_append, List.cons_append, Option.toList, Nat.sub_zero]
                  refine v_iload (pc := 1171) dL_law_1171 rfl ?_
                  refine v_icmp_eq (pc := 1173) (tgt := 1178) dL_law_1173 (by decide) (fun c1173 => ?_) (fun c1173 => absurd (h3d c1161) c1173)
                  refine v_iload (pc := 1178) dL_law_1178 rfl ?_
                  refine v_iload (pc := 1180) dL_law_1180 rfl ?_
                  refine v_iconst (pc := 1182) (v := 2) dL_law_1182 rfl ?_
                  refine v_icmp_ne (pc := 1183) (tgt := 1190) dL_law_1183 (by decide) (fun c1183 => ?_) (fun c1183 => ?_)
                  · refine v_iconst (pc := 1190) (v := 0) dL_law_1190 rfl ?_
                    refine v_iadd (pc := 1191) dL_law_1191 ?_
                    refine v_istore (pc := 1192) dL_law_1192 (by show _ < 26; decide) rfl ?_
                    have e8 : cmF BF0 BF bc i = 0 := if_neg (fun q => c1183 q.2.2)
                    have es : (sumN (cmF BF0 BF bc) (i + 1)) = (sumN (cmF BF0 BF bc) i) + 0 := by
                      show (sumN (cmF BF0 BF bc) i) + cmF BF0 BF bc i = _
                      rw [e8]
                    refine v_iinc (pc := 1194) (v := nI (i + 1)) dL_law_1194 rfl (nI_1 _) (by show _ < 26; decide) rfl ?_
                    refine v_goto (pc := 1197) (tgt := 894) dL_law_1197 (by decide) ?_
                    refine v_room (ck' := ck + 12 * m) (sk' := sk + 72 * m) (by omega) (by omega) ?_
                    have k9 := ih (i + 1) (by omega)
                    rw [es] at k9
                    refine v_sub ?_ k9
                    exact ⟨rfl, rfl, rfl, rfl, rfl, rfl, rfl, rfl, rfl, rfl, rfl, rfl, rfl, rfl, rfl, trivial⟩
                  · refine v_iconst (pc := 1186) (v := 1) dL_law_1186 rfl ?_
                    refine v_goto (pc := 1187) (tgt := 1191) dL_law_1187 (by decide) ?_
                    refine v_iadd (pc := 1191) dL_law_1191 ?_
                    refine v_istore (pc := 1192) dL_law_1192 (by show _ < 26; decide) rfl ?_
                    have e8 : cmF BF0 BF bc i = 1 := if_pos ⟨hi, c1021, c1183⟩
                    have es : (sumN (cmF BF0 BF bc) (i + 1)) = (sumN (cmF BF0 BF bc) i) + 1 := by
                      show (sumN (cmF BF0 BF bc) i) + cmF BF0 BF bc i = _
                      rw [e8]
                    refine v_iinc (pc := 1194) (v := nI (i + 1)) dL_law_1194 rfl (nI_1 _) (by show _ < 26; decide) rfl ?_
                    refine v_goto (pc := 1197) (tgt := 894) dL_law_1197 (by decide) ?_
                    refine v_room (ck' := ck + 12 * m) (sk' := sk + 72 * m) (by omega) (by omega) ?_
                    have k9 := ih (i + 1) (by omega)
                    rw [es] at k9
                    refine v_sub ?_ k9
                    exact ⟨rfl, rfl, rfl, rfl, rfl, rfl, rfl, rfl, rfl, rfl, rfl, rfl, rfl, rfl, rfl, trivial⟩
            · refine v_iconst (pc := 1075) (v := 1) dL_law_1075 rfl ?_
              refine v_goto (pc := 1076) (tgt := 1080) dL_law_1076 (by decide) ?_
              refine v_istore (pc := 1080) dL_law_1080 (by show _ < 26; decide) rfl ?_
              refine v_iload (pc := 1082) dL_law_1082 rfl ?_
              refine v_if_eq (pc := 1084) (tgt := 1097) dL_law_1084 (by decide) (fun c1084 => absurd c1084 (by decide)) (fun c1084 => ?_)
              refine v_aload_nR (pc := 1087) dL_law_1087 rfl rfl ?_
              refine v_iload (pc := 1088) dL_law_1088 rfl ?_
              refine v_iconst (pc := 1090) (v := 5) dL_law_1090 rfl ?_
              refine v_callV2 (pc := 1091) (c7_sleigh hps hsc hbc (s := n9) (q := 5) hn9 (by decide)) cm_X5_sleigh q323 q324 q325 (ci := 5) rfl rfl (orcO 0 rfl) [0, 1, 2, 3, 4, 5, 6, 7, 8, 9, 10, 11, 12, 13, 14, 15, 16, 17] (by rfl) (by decide) (fun _ _ h => h) (by omega) (by omega) (by decide) (Nat.le_of_ble_eq_true rfl) dL_law_1091 (fun v1091 M1091 hQ1091 => ?_)
              obtain ⟨rfl, rfl⟩ := hQ1091
              try dsimp only [wb, tlS_0, tlS_1, tlS_2, tlS_3, tlS_4, tlS_5, tlS_6, tlS_7, tlS_8, tlC_0, tlC_1, tlC_2, tlC_3, LawM, LakeM, WaysM, WorldM, SimM, List.set_cons_succ, List.set_cons_zero, List.append_nil, List.nil_append, List.cons_append, Option.toList, Nat.sub_zero]
              refine v_goto (pc := 1094) (tgt := 1098) dL_law_1094 (by decide) ?_
              refine v_istore (pc := 1098) dL_law_1098 (by show _ < 26; decide) rfl ?_
              refine v_iload (pc := 1100) dL_law_1100 rfl ?_
              refine v_iload (pc := 1102) dL_law_1102 rfl ?_
              refine v_iconst (pc := 1104) (v := 2) dL_law_1104 rfl ?_
              refine v_icmp_ne (pc := 1105) (tgt := 1112) dL_law_1105 (by decide) (fun c1105 => ?_) (fun c1105 => ?_)
              · refine v_iload (pc := 1112) dL_law_1112 rfl ?_
                refine v_if_eq (pc := 1114) (tgt := 1137) dL_law_1114 (by decide) (fun c1114 => absurd c1114 (by decide)) (fun c1114 => ?_)
                refine v_iload (pc := 1117) dL_law_1117 rfl ?_
                refine v_aloadR (pc := 1119) dL_law_1119 rfl ?_
                refine v_iload (pc := 1121) dL_law_1121 rfl ?_
                refine v_aaldS (pc := 1123) 52 (k := i) (by decide) rfl (by omega) (by omega) dL_law_1123 ?_
                refine v_iconst (pc := 1124) (v := 1) dL_law_1124 rfl ?_
                refine v_ialdGN (pc := 1125) 53 (j := 1) rfl (by omega) (by decide) (by decide) dL_law_1125 ?_
                try dsimp only [wb, tlS_0, tlS_1, tlS_2, tlS_3, tlS_4, tlS_5, tlS_6, tlS_7, tlS_8, tlC_0, tlC_1, tlC_2, tlC_3, LawM, LakeM, WaysM, WorldM, SimM, List.set_cons_succ, List.set_cons_zero, List.append_nil, List.nil_append, List.cons_append, Option.toList, Nat.sub_zero]
                refine v_icmp_ne (pc := 1126) (tgt := 1133) dL_law_1126 (by decide) (fun c1126 => ?_) (fun c1126 => ?_)
                · refine v_iconst (pc := 1133) (v := 0) dL_law_1133 rfl ?_
                  refine v_goto (pc := 1134) (tgt := 1138) dL_law_1134 (by decide) ?_
                  refine v_icmp_ne (pc := 1138) (tgt := 1176) dL_law_1138 (by decide) (fun c1138 => absurd ((h3b (fun q => absurd (c1061.symm.trans q) (by decide)) ⟨c1061, c1072⟩).1.trans (if_neg c1126)) c1138) (fun c1138 => ?_)
                  refine v_iload (pc := 1141) dL_law_1141 rfl ?_
                  refine v_if_eq (pc := 1143) (tgt := 1158) dL_law_1143 (by decide) (fun c1143 => absurd c1143 (by decide)) (fun c1143 => ?_)
                  refine v_aload_nR (pc := 1146) dL_law_1146 rfl rfl ?_
                  refine v_iload (pc := 1147) dL_law_1147 rfl ?_
                  refine v_iconst (pc := 1149) (v := 3) dL_law_1149 rfl ?_
                  refine v_callV2 (pc := 1150) (c7_bag hps hsc hbc (b9 := i) (q := 3) hi (by decide)) cm_X5_bag q357 q358 q359 (ci := 5) rfl rfl (orcO 0 rfl) [0, 1, 2, 3, 4, 5, 6, 7, 8, 9, 10, 11, 12, 13, 14, 15, 16, 17] (by rfl) (by decide) (fun _ _ h => h) (by omega) (by omega) (by decide) (Nat.le_of_ble_eq_true rfl) dL_law_1150 (fun v1150 M1150 hQ1150 => ?_)
                  obtain ⟨rfl, rfl⟩ := hQ1150
                  try dsimp only [wb, tlS_0, tlS_1, tlS_2, tlS_3, tlS_4, tlS_5, tlS_6, tlS_7, tlS_8, tlC_0, tlC_1, tlC_2, tlC_3, LawM, LakeM, WaysM, WorldM, SimM, List.set_cons_succ, List.set_cons_zero, List.append_nil, List.nil_append, List.cons_append, Option.toList, Nat.sub_zero]
                  refine v_iload (pc := 1153) dL_law_1153 rfl ?_
                  refine v_icmp_ne (pc := 1155) (tgt := 1176) dL_law_1155 (by decide) (fun c1155 => absurd (h3b (fun q => absurd (c1061.symm.trans q) (by decide)) ⟨c1061, c1072⟩).2 c1155) (fun c1155 => ?_)
                  refine v_iload (pc := 1158) dL_law_1158 rfl ?_
                  refine v_iconst (pc := 1160) (v := 2) dL_law_1160 rfl ?_
                  refine v_icmp_ne (pc := 1161) (tgt := 1178) dL_law_1161 (by decide) (fun c1161 => ?_) (fun c1161 => ?_)
                  · refine v_iload (pc := 1178) dL_law_1178 rfl ?_
                    refine v_iload (pc := 1180) dL_law_1180 rfl ?_
                    refine v_iconst (pc := 1182) (v := 2) dL_law_1182 rfl ?_
                    refine v_icmp_ne (pc := 1183) (tgt := 1190) dL_law_1183 (by decide) (fun c1183 => ?_) (fun c1183 => ?_)
                    · refine v_iconst (pc := 1190) (v := 0) dL_law_1190 rfl ?_
                      refine v_iadd (pc := 1191) dL_law_1191 ?_
                      refine v_istore (pc := 1192) dL_law_1192 (by show _ < 26; decide) rfl ?_
                      have e8 : cmF BF0 BF bc i = 0 := if_neg (fun q => c1183 q.2.2)
                      have es : (sumN (cmF BF0 BF bc) (i + 1)) = (sumN (cmF BF0 BF bc) i) + 0 := by
                        show (sumN (cmF BF0 BF bc) i) + cmF BF0 BF bc i = _
                        rw [e8]
                      refine v_iinc (pc := 1194) (v := nI (i + 1)) dL_law_1194 rfl (nI_1 _) (by show _ < 26; decide) rfl ?_
                      refine v_goto (pc := 1197) (tgt := 894) dL_law_1197 (by decide) ?_
                      refine v_room (ck' := ck + 12 * m) (sk' := sk + 72 * m) (by omega) (by omega) ?_
                      have k9 := ih (i + 1) (by omega)
                      rw [es] at k9
                      refine v_sub ?_ k9
                      exact ⟨rfl, rfl, rfl, rfl, rfl, rfl, rfl, rfl, rfl, rfl, rfl, rfl, rfl, rfl, rfl, trivial⟩
                    · refine v_iconst (pc := 1186) (v := 1) dL_law_1186 rfl ?_
                      refine v_goto (pc := 1187) (tgt := 1191) dL_law_1187 (by decide) ?_
                      refine v_iadd (pc := 1191) dL_law_1191 ?_
                      refine v_istore (pc := 1192) dL_law_1192 (by show _ < 26; decide) rfl ?_
                      have e8 : cmF BF0 BF bc i = 1 := if_pos ⟨hi, c1021, c1183⟩
                      have es : (sumN (cmF BF0 BF bc) (i + 1)) = (sumN (cmF BF0 BF bc) i) + 1 := by
                        show (sumN (cmF BF0 BF bc) i) + cmF BF0 BF bc i = _
                        rw [e8]
                      refine v_iinc (pc := 1194) (v := nI (i + 1)) dL_law_1194 rfl (nI_1 _) (by show _ < 26; decide) rfl ?_
                      refine v_goto (pc := 1197) (tgt := 894) dL_law_1197 (by decide) ?_
                      refine v_room (ck' := ck + 12 * m) (sk' := sk + 72 * m) (by omega) (by omega) ?_
                      have k9 := ih (i + 1) (by omega)
                      rw [es] at k9
                      refine v_sub ?_ k9
                      exact ⟨rfl, rfl, rfl, rfl, rfl, rfl, rfl, rfl, rfl, rfl, rfl, rfl, rfl, rfl, rfl, trivial⟩
                  · refine v_aload_nR (pc := 1164) dL_law_1164 rfl rfl ?_
                    refine v_iload (pc := 1165) dL_law_1165 rfl ?_
                    refine v_iconst (pc := 1167) (v := 4) dL_law_1167 rfl ?_
                    refine v_callV2 (pc := 1168) (c7_bag hps hsc hbc (b9 := i) (q := 4) hi (by decide)) cm_X5_bag q357 q358 q359 (ci := 5) rfl rfl (orcO 0 rfl) [0, 1, 2, 3, 4, 5, 6, 7, 8, 9, 10, 11, 12, 13, 14, 15, 16, 17] (by rfl) (by decide) (fun _ _ h => h) (by omega) (by omega) (by decide) (Nat.le_of_ble_eq_true rfl) dL_law_1168 (fun v1168 M1168 hQ1168 => ?_)
                    obtain ⟨rfl, rfl⟩ := hQ1168
                    try dsimp only [wb, tlS_0, tlS_1, tlS_2, tlS_3, tlS_4, tlS_5, tlS_6, tlS_7, tlS_8, tlC_0, tlC_1, tlC_2, tlC_3, LawM, LakeM, WaysM, WorldM, SimM, List.set_cons_succ, List.set_cons_zero, List.append_nil, List.nil_append, List.cons_append, Option.toList, Nat.sub_zero]
                    refine v_iload (pc := 1171) dL_law_1171 rfl ?_
                    refine v_icmp_eq (pc := 1173) (tgt := 1178) dL_law_1173 (by decide) (fun c1173 => ?_) (fun c1173 => absurd (h3d c1161) c1173)
                    refine v_iload (pc := 1178) dL_law_1178 rfl ?_
                    refine v_iload (pc := 1180) dL_law_1180 rfl ?_
                    refine v_iconst (pc := 1182) (v := 2) dL_law_1182 rfl ?_
                    refine v_icmp_ne (pc := 1183) (tgt := 1190) dL_law_1183 (by decide) (fun c1183 => ?_) (fun c1183 => ?_)
                    · refine v_iconst (pc := 1190) (v := 0) dL_law_1190 rfl ?_
                      refine v_iadd (pc := 1191) dL_law_1191 ?_
                      refine v_istore (pc := 1192) dL_law_1192 (by show _ < 26; decide) rfl ?_
                      have e8 : cmF BF0 BF bc i = 0 := if_neg (fun q => c1183 q.2.2)
                      have es : (sumN (cmF BF0 BF bc) (i + 1)) = (sumN (cmF BF0 BF bc) i) + 0 := by
                        show (sumN (cmF BF0 BF bc) i) + cmF BF0 BF bc i = _
                        rw [e8]
                      refine v_iinc (pc := 1194) (v := nI (i + 1)) dL_law_1194 rfl (nI_1 _) (by show _ < 26; decide) rfl ?_
                      refine v_goto (pc := 1197) (tgt := 894) dL_law_1197 (by decide) ?_
                      refine v_room (ck' := ck + 12 * m) (sk' := sk + 72 * m) (by omega) (by omega) ?_
                      have k9 := ih (i + 1) (by omega)
                      rw [es] at k9
                      refine v_sub ?_ k9
                      exact ⟨rfl, rfl, rfl, rfl, rfl, rfl, rfl, rfl, rfl, rfl, rfl, rfl, rfl, rfl, rfl, trivial⟩
                    · refine v_iconst (pc := 1186) (v := 1) dL_law_1186 rfl ?_
                      refine v_goto (pc := 1187) (tgt := 1191) dL_law_1187 (by decide) ?_
                      refine v_iadd (pc := 1191) dL_law_1191 ?_
                      refine v_istore (pc := 1192) dL_law_1192 (by show _ < 26; decide) rfl ?_
                      have e8 : cmF BF0 BF bc i = 1 := if_pos ⟨hi, c1021, c1183⟩
                      have es : (sumN (cmF BF0 BF bc) (i + 1)) = (sumN (cmF BF0 BF bc) i) + 1 := by
                        show (sumN (cmF BF0 BF bc) i) + cmF BF0 BF bc i = _
                        rw [e8]
                      refine v_iinc (pc := 1194) (v := nI (i + 1)) dL_law_1194 rfl (nI_1 _) (by show _ < 26; decide) rfl ?_
                      refine v_goto (pc := 1197) (tgt := 894) dL_law_1197 (by decide) ?_
                      refine v_room (ck' := ck + 12 * m) (sk' := sk + 72 * m) (by omega) (by omega) ?_
                      have k9 := ih (i + 1) (by omega)
                      rw [es] at k9
                      refine v_sub ?_ k9
                      exact ⟨rfl, rfl, rfl, rfl, rfl, rfl, rfl, rfl, rfl, rfl, rfl, rfl, rfl, rfl, rfl, trivial⟩
                · refine v_iconst (pc := 1129) (v := 2) dL_law_1129 rfl ?_
                  refine v_goto (pc := 1130) (tgt := 1138) dL_law_1130 (by decide) ?_
                  refine v_icmp_ne (pc := 1138) (tgt := 1176) dL_law_1138 (by decide) (fun c1138 => absurd ((h3b (fun q => absurd (c1061.symm.trans q) (by decide)) ⟨c1061, c1072⟩).1.trans (if_pos c1126)) c1138) (fun c1138 => ?_)
                  refine v_iload (pc := 1141) dL_law_1141 rfl ?_
                  refine v_if_eq (pc := 1143) (tgt := 1158) dL_law_1143 (by decide) (fun c1143 => absurd c1143 (by decide)) (fun c1143 => ?_)
                  refine v_aload_nR (pc := 1146) dL_law_1146 rfl rfl ?_
                  refine v_iload (pc := 1147) dL_law_1147 rfl ?_
                  refine v_iconst (pc := 1149) (v := 3) dL_law_1149 rfl ?_
                  refine v_callV2 (pc := 1150) (c7_bag hps hsc hbc (b9 := i) (q := 3) hi (by decide)) cm_X5_bag q357 q358 q359 (ci := 5) rfl rfl (orcO 0 rfl) [0, 1, 2, 3, 4, 5, 6, 7, 8, 9, 10, 11, 12, 13, 14, 15, 16, 17] (by rfl) (by decide) (fun _ _ h => h) (by omega) (by omega) (by decide) (Nat.le_of_ble_eq_true rfl) dL_law_1150 (fun v1150 M1150 hQ1150 => ?_)
                  obtain ⟨rfl, rfl⟩ := hQ1150
                  try dsimp only [wb, tlS_0, tlS_1, tlS_2, tlS_3, tlS_4, tlS_5, tlS_6, tlS_7, tlS_8, tlC_0, tlC_1, tlC_2, tlC_3, LawM, LakeM, WaysM, WorldM, SimM, List.set_cons_succ, List.set_cons_zero, List.append_nil, List.nil_append, List.cons_append, Option.toList, Nat.sub_zero]
                  refine v_iload (pc := 1153) dL_law_1153 rfl ?_
                  refine v_icmp_ne (pc := 1155) (tgt := 1176) dL_law_1155 (by decide) (fun c1155 => absurd (h3b (fun q => absurd (c1061.symm.trans q) (by decide)) ⟨c1061, c1072⟩).2 c1155) (fun c1155 => ?_)
                  refine v_iload (pc := 1158) dL_law_1158 rfl ?_
                  refine v_iconst (pc := 1160) (v := 2) dL_law_1160 rfl ?_
                  refine v_icmp_ne (pc := 1161) (tgt := 1178) dL_law_1161 (by decide) (fun c1161 => ?_) (fun c1161 => ?_)
                  · refine v_iload (pc := 1178) dL_law_1178 rfl ?_
                    refine v_iload (pc := 1180) dL_law_1180 rfl ?_
                    refine v_iconst (pc := 1182) (v := 2) dL_law_1182 rfl ?_
                    refine v_icmp_ne (pc := 1183) (tgt := 1190) dL_law_1183 (by decide) (fun c1183 => ?_) (fun c1183 => ?_)
                    · refine v_iconst (pc := 1190) (v := 0) dL_law_1190 rfl ?_
                      refine v_iadd (pc := 1191) dL_law_1191 ?_
                      refine v_istore (pc := 1192) dL_law_1192 (by show _ < 26; decide) rfl ?_
                      have e8 : cmF BF0 BF bc i = 0 := if_neg (fun q => c1183 q.2.2)
                      have es : (sumN (cmF BF0 BF bc) (i + 1)) = (sumN (cmF BF0 BF bc) i) + 0 := by
                        show (sumN (cmF BF0 BF bc) i) + cmF BF0 BF bc i = _
                        rw [e8]
                      refine v_iinc (pc := 1194) (v := nI (i + 1)) dL_law_1194 rfl (nI_1 _) (by show _ < 26; decide) rfl ?_
                      refine v_goto (pc := 1197) (tgt := 894) dL_law_1197 (by decide) ?_
                      refine v_room (ck' := ck + 12 * m) (sk' := sk + 72 * m) (by omega) (by omega) ?_
                      have k9 := ih (i + 1) (by omega)
                      rw [es] at k9
                      refine v_sub ?_ k9
                      exact ⟨rfl, rfl, rfl, rfl, rfl, rfl, rfl, rfl, rfl, rfl, rfl, rfl, rfl, rfl, rfl, trivial⟩
                    · refine v_iconst (pc := 1186) (v := 1) dL_law_1186 rfl ?_
                      refine v_goto (pc := 1187) (tgt := 1191) dL_law_1187 (by decide) ?_
                      refine v_iadd (pc := 1191) dL_law_1191 ?_
                      refine v_istore (pc := 1192) dL_law_1192 (by show _ < 26; decide) rfl ?_
                      have e8 : cmF BF0 BF bc i = 1 := if_pos ⟨hi, c1021, c1183⟩
                      have es : (sumN (cmF BF0 BF bc) (i + 1)) = (sumN (cmF BF0 BF bc) i) + 1 := by
                        show (sumN (cmF BF0 BF bc) i) + cmF BF0 BF bc i = _
                        rw [e8]
                      refine v_iinc (pc := 1194) (v := nI (i + 1)) dL_law_1194 rfl (nI_1 _) (by show _ < 26; decide) rfl ?_
                      refine v_goto (pc := 1197) (tgt := 894) dL_law_1197 (by decide) ?_
                      refine v_room (ck' := ck + 12 * m) (sk' := sk + 72 * m) (by omega) (by omega) ?_
                      have k9 := ih (i + 1) (by omega)
                      rw [es] at k9
                      refine v_sub ?_ k9
                      exact ⟨rfl, rfl, rfl, rfl, rfl, rfl, rfl, rfl, rfl, rfl, rfl, rfl, rfl, rfl, rfl, trivial⟩
                  · refine v_aload_nR (pc := 1164) dL_law_1164 rfl rfl ?_
                    refine v_iload (pc := 1165) dL_law_1165 rfl ?_
                    refine v_iconst (pc := 1167) (v := 4) dL_law_1167 rfl ?_
                    refine v_callV2 (pc := 1168) (c7_bag hps hsc hbc (b9 := i) (q := 4) hi (by decide)) cm_X5_bag q357 q358 q359 (ci := 5) rfl rfl (orcO 0 rfl) [0, 1, 2, 3, 4, 5, 6, 7, 8, 9, 10, 11, 12, 13, 14, 15, 16, 17] (by rfl) (by decide) (fun _ _ h => h) (by omega) (by omega) (by decide) (Nat.le_of_ble_eq_true rfl) dL_law_1168 (fun v1168 M1168 hQ1168 => ?_)
                    obtain ⟨rfl, rfl⟩ := hQ1168
                    try dsimp only [wb, tlS_0, tlS_1, tlS_2, tlS_3, tlS_4, tlS_5, tlS_6, tlS_7, tlS_8, tlC_0, tlC_1, tlC_2, tlC_3, LawM, LakeM, WaysM, WorldM, SimM, List.set_cons_succ, List.set_cons_zero, List.append_nil, List.nil_append, List.cons_append, Option.toList, Nat.sub_zero]
                    refine v_iload (pc := 1171) dL_law_1171 rfl ?_
                    refine v_icmp_eq (pc := 1173) (tgt := 1178) dL_law_1173 (by decide) (fun c1173 => ?_) (fun c1173 => absurd (h3d c1161) c1173)
                    refine v_iload (pc := 1178) dL_law_1178 rfl ?_
                    refine v_iload (pc := 1180) dL_law_1180 rfl ?_
                    refine v_iconst (pc := 1182) (v := 2) dL_law_1182 rfl ?_
                    refine v_icmp_ne (pc := 1183) (tgt := 1190) dL_law_1183 (by decide) (fun c1183 => ?_) (fun c1183 => ?_)
                    · refine v_iconst (pc := 1190) (v := 0) dL_law_1190 rfl ?_
                      refine v_iadd (pc := 1191) dL_law_1191 ?_
                      refine v_istore (pc := 1192) dL_law_1192 (by show _ < 26; decide) rfl ?_
                      have e8 : cmF BF0 BF bc i = 0 := if_neg (fun q => c1183 q.2.2)
                      have es : (sumN (cmF BF0 BF bc) (i + 1)) = (sumN (cmF BF0 BF bc) i) + 0 := by
                        show (sumN (cmF BF0 BF bc) i) + cmF BF0 BF bc i = _
                        rw [e8]
                      refine v_iinc (pc := 1194) (v := nI (i + 1)) dL_law_1194 rfl (nI_1 _) (by show _ < 26; decide) rfl ?_
                      refine v_goto (pc := 1197) (tgt := 894) dL_law_1197 (by decide) ?_
                      refine v_room (ck' := ck + 12 * m) (sk' := sk + 72 * m) (by omega) (by omega) ?_
                      have k9 := ih (i + 1) (by omega)
                      rw [es] at k9
                      refine v_sub ?_ k9
                      exact ⟨rfl, rfl, rfl, rfl, rfl, rfl, rfl, rfl, rfl, rfl, rfl, rfl, rfl, rfl, rfl, trivial⟩
                    · refine v_iconst (pc := 1186) (v := 1) dL_law_1186 rfl ?_
                      refine v_goto (pc := 1187) (tgt := 1191) dL_law_1187 (by decide) ?_
                      refine v_iadd (pc := 1191) dL_law_1191 ?_
                      refine v_istore (pc := 1192) dL_law_1192 (by show _ < 26; decide) rfl ?_
                      have e8 : cmF BF0 BF bc i = 1 := if_pos ⟨hi, c1021, c1183⟩
                      have es : (sumN (cmF BF0 BF bc) (i + 1)) = (sumN (cmF BF0 BF bc) i) + 1 := by
                        show (sumN (cmF BF0 BF bc) i) + cmF BF0 BF bc i = _
                        rw [e8]
                      refine v_iinc (pc := 1194) (v := nI (i + 1)) dL_law_1194 rfl (nI_1 _) (by show _ < 26; decide) rfl ?_
                      refine v_goto (pc := 1197) (tgt := 894) dL_law_1197 (by decide) ?_
                      refine v_room (ck' := ck + 12 * m) (sk' := sk + 72 * m) (by omega) (by omega) ?_
                      have k9 := ih (i + 1) (by omega)
                      rw [es] at k9
                      refine v_sub ?_ k9
                      exact ⟨rfl, rfl, rfl, rfl, rfl, rfl, rfl, rfl, rfl, rfl, rfl, rfl, rfl, rfl, rfl, trivial⟩
              · refine v_iconst (pc := 1108) (v := 3) dL_law_1108 rfl ?_
                refine v_goto (pc := 1109) (tgt := 1138) dL_law_1109 (by decide) ?_
                refine v_icmp_ne (pc := 1138) (tgt := 1176) dL_law_1138 (by decide) (fun c1138 => absurd (h3a c1105) c1138) (fun c1138 => ?_)
                refine v_iload (pc := 1141) dL_law_1141 rfl ?_
                refine v_if_eq (pc := 1143) (tgt := 1158) dL_law_1143 (by decide) (fun c1143 => absurd c1143 (by decide)) (fun c1143 => ?_)
                refine v_aload_nR (pc := 1146) dL_law_1146 rfl rfl ?_
                refine v_iload (pc := 1147) dL_law_1147 rfl ?_
                refine v_iconst (pc := 1149) (v := 3) dL_law_1149 rfl ?_
                refine v_callV2 (pc := 1150) (c7_bag hps hsc hbc (b9 := i) (q := 3) hi (by decide)) cm_X5_bag q357 q358 q359 (ci := 5) rfl rfl (orcO 0 rfl) [0, 1, 2, 3, 4, 5, 6, 7, 8, 9, 10, 11, 12, 13, 14, 15, 16, 17] (by rfl) (by decide) (fun _ _ h => h) (by omega) (by omega) (by decide) (Nat.le_of_ble_eq_true rfl) dL_law_1150 (fun v1150 M1150 hQ1150 => ?_)
                obtain ⟨rfl, rfl⟩ := hQ1150
                try dsimp only [wb, tlS_0, tlS_1, tlS_2, tlS_3, tlS_4, tlS_5, tlS_6, tlS_7, tlS_8, tlC_0, tlC_1, tlC_2, tlC_3, LawM, LakeM, WaysM, WorldM, SimM, List.set_cons_succ, List.set_cons_zero, List.append_nil, List.nil_append, List.cons_append, Option.toList, Nat.sub_zero]
                refine v_iload (pc := 1153) dL_law_1153 rfl ?_
                refine v_icmp_ne (pc := 1155) (tgt := 1176) dL_law_1155 (by decide) (fun c1155 => absurd (h3b (fun q => absurd (c1061.symm.trans q) (by decide)) ⟨c1061, c1072⟩).2 c1155) (fun c1155 => ?_)
                refine v_iload (pc := 1158) dL_law_1158 rfl ?_
                refine v_iconst (pc := 1160) (v := 2) dL_law_1160 rfl ?_
                refine v_icmp_ne (pc := 1161) (tgt := 1178) dL_law_1161 (by decide) (fun c1161 => ?_) (fun c1161 => ?_)
                · refine v_iload (pc := 1178) dL_law_1178 rfl ?_
                  refine v_iload (pc := 1180) dL_law_1180 rfl ?_
                  refine v_iconst (pc := 1182) (v := 2) dL_law_1182 rfl ?_
                  refine v_icmp_ne (pc := 1183) (tgt := 1190) dL_law_1183 (by decide) (fun c1183 => ?_) (fun c1183 => ?_)
                  · refine v_iconst (pc := 1190) (v := 0) dL_law_1190 rfl ?_
                    refine v_iadd (pc := 1191) dL_law_1191 ?_
                    refine v_istore (pc := 1192) dL_law_1192 (by show _ < 26; decide) rfl ?_
                    have e8 : cmF BF0 BF bc i = 0 := if_neg (fun q => c1183 q.2.2)
                    have es : (sumN (cmF BF0 BF bc) (i + 1)) = (sumN (cmF BF0 BF bc) i) + 0 := by
                      show (sumN (cmF BF0 BF bc) i) + cmF BF0 BF bc i = _
                      rw [e8]
                    refine v_iinc (pc := 1194) (v := nI (i + 1)) dL_law_1194 rfl (nI_1 _) (by show _ < 26; decide) rfl ?_
                    refine v_goto (pc := 1197) (tgt := 894) dL_law_1197 (by decide) ?_
                    refine v_room (ck' := ck + 12 * m) (sk' := sk + 72 * m) (by omega) (by omega) ?_
                    have k9 := ih (i + 1) (by omega)
                    rw [es] at k9
                    refine v_sub ?_ k9
                    exact ⟨rfl, rfl, rfl, rfl, rfl, rfl, rfl, rfl, rfl, rfl, rfl, rfl, rfl, rfl, rfl, trivial⟩
                  · refine v_iconst (pc := 1186) (v := 1) dL_law_1186 rfl ?_
                    refine v_goto (pc := 1187) (tgt := 1191) dL_law_1187 (by decide) ?_
                    refine v_iadd (pc := 1191) dL_law_1191 ?_
                    refine v_istore (pc := 1192) dL_law_1192 (by show _ < 26; decide) rfl ?_
                    have e8 : cmF BF0 BF bc i = 1 := if_pos ⟨hi, c1021, c1183⟩
                    have es : (sumN (cmF BF0 BF bc) (i + 1)) = (sumN (cmF BF0 BF bc) i) + 1 := by
                      show (sumN (cmF BF0 BF bc) i) + cmF BF0 BF bc i = _
                      rw [e8]
                    refine v_iinc (pc := 1194) (v := nI (i + 1)) dL_law_1194 rfl (nI_1 _) (by show _ < 26; decide) rfl ?_
                    refine v_goto (pc := 1197) (tgt := 894) dL_law_1197 (by decide) ?_
                    refine v_room (ck' := ck + 12 * m) (sk' := sk + 72 * m) (by omega) (by omega) ?_
                    have k9 := ih (i + 1) (by omega)
                    rw [es] at k9
                    refine v_sub ?_ k9
                    exact ⟨rfl, rfl, rfl, rfl, rfl, rfl, rfl, rfl, rfl, rfl, rfl, rfl, rfl, rfl, rfl, trivial⟩
                · refine v_aload_nR (pc := 1164) dL_law_1164 rfl rfl ?_
                  refine v_iload (pc := 1165) dL_law_1165 rfl ?_
                  refine v_iconst (pc := 1167) (v := 4) dL_law_1167 rfl ?_
                  refine v_callV2 (pc := 1168) (c7_bag hps hsc hbc (b9 := i) (q := 4) hi (by decide)) cm_X5_bag q357 q358 q359 (ci := 5) rfl rfl (orcO 0 rfl) [0, 1, 2, 3, 4, 5, 6, 7, 8, 9, 10, 11, 12, 13, 14, 15, 16, 17] (by rfl) (by decide) (fun _ _ h => h) (by omega) (by omega) (by decide) (Nat.le_of_ble_eq_true rfl) dL_law_1168 (fun v1168 M1168 hQ1168 => ?_)
                  obtain ⟨rfl, rfl⟩ := hQ1168
                  try dsimp only [wb, tlS_0, tlS_1, tlS_2, tlS_3, tlS_4, tlS_5, tlS_6, tlS_7, tlS_8, tlC_0, tlC_1, tlC_2, tlC_3, LawM, LakeM, WaysM, WorldM, SimM, List.set_cons_succ, List.set_cons_zero, List.append_nil, List.nil_append, List.cons_append, Option.toList, Nat.sub_zero]
                  refine v_iload (pc := 1171) dL_law_1171 rfl ?_
                  refine v_icmp_eq (pc := 1173) (tgt := 1178) dL_law_1173 (by decide) (fun c1173 => ?_) (fun c1173 => absurd (h3d c1161) c1173)
                  refine v_iload (pc := 1178) dL_law_1178 rfl ?_
                  refine v_iload (pc := 1180) dL_law_1180 rfl ?_
                  refine v_iconst (pc := 1182) (v := 2) dL_law_1182 rfl ?_
                  refine v_icmp_ne (pc := 1183) (tgt := 1190) dL_law_1183 (by decide) (fun c1183 => ?_) (fun c1183 => ?_)
                  · refine v_iconst (pc := 1190) (v := 0) dL_law_1190 rfl ?_
                    refine v_iadd (pc := 1191) dL_law_1191 ?_
                    refine v_istore (pc := 1192) dL_law_1192 (by show _ < 26; decide) rfl ?_
                    have e8 : cmF BF0 BF bc i = 0 := if_neg (fun q => c1183 q.2.2)
                    have es : (sumN (cmF BF0 BF bc) (i + 1)) = (sumN (cmF BF0 BF bc) i) + 0 := by
                      show (sumN (cmF BF0 BF bc) i) + cmF BF0 BF bc i = _
                      rw [e8]
                    refine v_iinc (pc := 1194) (v := nI (i + 1)) dL_law_1194 rfl (nI_1 _) (by show _ < 26; decide) rfl ?_
                    refine v_goto (pc := 1197) (tgt := 894) dL_law_1197 (by decide) ?_
                    refine v_room (ck' := ck + 12 * m) (sk' := sk + 72 * m) (by omega) (by omega) ?_
                    have k9 := ih (i + 1) (by omega)
                    rw [es] at k9
                    refine v_sub ?_ k9
                    exact ⟨rfl, rfl, rfl, rfl, rfl, rfl, rfl, rfl, rfl, rfl, rfl, rfl, rfl, rfl, rfl, trivial⟩
                  · refine v_iconst (pc := 1186) (v := 1) dL_law_1186 rfl ?_
                    refine v_goto (pc := 1187) (tgt := 1191) dL_law_1187 (by decide) ?_
                    refine v_iadd (pc := 1191) dL_law_1191 ?_
                    refine v_istore (pc := 1192) dL_law_1192 (by show _ < 26; decide) rfl ?_
                    have e8 : cmF BF0 BF bc i = 1 := if_pos ⟨hi, c1021, c1183⟩
                    have es : (sumN (cmF BF0 BF bc) (i + 1)) = (sumN (cmF BF0 BF bc) i) + 1 := by
                      show (sumN (cmF BF0 BF bc) i) + cmF BF0 BF bc i = _
                      rw [e8]
                    refine v_iinc (pc := 1194) (v := nI (i + 1)) dL_law_1194 rfl (nI_1 _) (by show _ < 26; decide) rfl ?_
                    refine v_goto (pc := 1197) (tgt := 894) dL_law_1197 (by decide) ?_
                    refine v_room (ck' := ck + 12 * m) (sk' := sk + 72 * m) (by omega) (by omega) ?_
                    have k9 := ih (i + 1) (by omega)
                    rw [es] at k9
                    refine v_sub ?_ k9
                    exact ⟨rfl, rfl, rfl, rfl, rfl, rfl, rfl, rfl, rfl, rfl, rfl, rfl, rfl, rfl, rfl, trivial⟩
        · refine v_iload (pc := 1024) dL_law_1024 rfl ?_
          refine v_aloadR (pc := 1026) dL_law_1026 rfl ?_
          refine v_iload (pc := 1028) dL_law_1028 rfl ?_
          refine v_aaldS (pc := 1030) 52 (k := i) (by decide) rfl (by omega) (by omega) dL_law_1030 ?_
          refine v_iconst (pc := 1031) (v := 2) dL_law_1031 rfl ?_
          refine v_ialdGN (pc := 1032) 53 (j := 2) rfl (by omega) (by decide) (by decide) dL_law_1032 ?_
          try dsimp only [wb, tlS_0, tlS_1, tlS_2, tlS_3, tlS_4, tlS_5, tlS_6, tlS_7, tlS_8, tlC_0, tlC_1, tlC_2, tlC_3, LawM, LakeM, WaysM, WorldM, SimM, List.set_cons_succ, List.set_cons_zero, List.append_nil, List.nil_append, List.cons_append, Option.toList, Nat.sub_zero]
          refine v_icmp_ne (pc := 1033) (tgt := 1048) dL_law_1033 (by decide) (fun c1033 => absurd (g5 c1021).1 c1033) (fun c1033 => ?_)
          refine v_aload_nR (pc := 1036) dL_law_1036 rfl rfl ?_
          refine v_iload (pc := 1037) dL_law_1037 rfl ?_
          refine v_iconst (pc := 1039) (v := 3) dL_law_1039 rfl ?_
          refine v_callV2 (pc := 1040) (c7_bag hps hsc hbc (b9 := i) (q := 3) hi (by decide)) cm_X5_bag q357 q358 q359 (ci := 5) rfl rfl (orcO 0 rfl) [0, 1, 2, 3, 4, 5, 6, 7, 8, 9, 10, 11, 12, 13, 14, 15, 16, 17] (by rfl) (by decide) (fun _ _ h => h) (by omega) (by omega) (by decide) (Nat.le_of_ble_eq_true rfl) dL_law_1040 (fun v1040 M1040 hQ1040 => ?_)
          obtain ⟨rfl, rfl⟩ := hQ1040
          try dsimp only [wb, tlS_0, tlS_1, tlS_2, tlS_3, tlS_4, tlS_5, tlS_6, tlS_7, tlS_8, tlC_0, tlC_1, tlC_2, tlC_3, LawM, LakeM, WaysM, WorldM, SimM, List.set_cons_succ, List.set_cons_zero, List.append_nil, List.nil_append, List.cons_append, Option.toList, Nat.sub_zero]
          refine v_iload (pc := 1043) dL_law_1043 rfl ?_
          refine v_icmp_eq (pc := 1045) (tgt := 1194) dL_law_1045 (by decide) (fun c1045 => ?_) (fun c1045 => absurd (g5 c1021).2 c1045)
          have e8 : cmF BF0 BF bc i = 0 := if_neg (fun q => c1021 q.2.1)
          have es : (sumN (cmF BF0 BF bc) (i + 1)) = (sumN (cmF BF0 BF bc) i) := by
            show (sumN (cmF BF0 BF bc) i) + cmF BF0 BF bc i = _
            rw [e8, Int32.add_zero]
          refine v_iinc (pc := 1194) (v := nI (i + 1)) dL_law_1194 rfl (nI_1 _) (by show _ < 26; decide) rfl ?_
          refine v_goto (pc := 1197) (tgt := 894) dL_law_1197 (by decide) ?_
          refine v_room (ck' := ck + 12 * m) (sk' := sk + 72 * m) (by omega) (by omega) ?_
          have k9 := ih (i + 1) (by omega)
          rw [es] at k9
          refine v_sub ?_ k9
          exact ⟨rfl, rfl, rfl, rfl, rfl, rfl, rfl, rfl, rfl, rfl, rfl, rfl, rfl, rfl, rfl, trivial⟩
      · refine v_iconst (pc := 988) (v := 1) dL_law_988 rfl ?_
        refine v_goto (pc := 989) (tgt := 993) dL_law_989 (by decide) ?_
        refine v_aload_nR (pc := 993) dL_law_993 rfl rfl ?_
        refine v_iload (pc := 994) dL_law_994 rfl ?_
        refine v_iconst (pc := 996) (v := 3) dL_law_996 rfl ?_
        refine v_callV2 (pc := 997) (c7_bag hps hsc hbc (b9 := i) (q := 3) hi (by decide)) cm_X5_bag q357 q358 q359 (ci := 5) rfl rfl (orcO 0 rfl) [0, 1, 2, 3, 4, 5, 6, 7, 8, 9, 10, 11, 12, 13, 14, 15, 16, 17] (by rfl) (by decide) (fun _ _ h => h) (by omega) (by omega) (by decide) (Nat.le_of_ble_eq_true rfl) dL_law_997 (fun v997 M997 hQ997 => ?_)
        obtain ⟨rfl, rfl⟩ := hQ997
        try dsimp only [wb, tlS_0, tlS_1, tlS_2, tlS_3, tlS_4, tlS_5, tlS_6, tlS_7, tlS_8, tlC_0, tlC_1, tlC_2, tlC_3, LawM, LakeM, WaysM, WorldM, SimM, List.set_cons_succ, List.set_cons_zero, List.append_nil, List.nil_append, List.cons_append, Option.toList, Nat.sub_zero]
        refine v_if_ge (pc := 1000) (tgt := 1007) dL_law_1000 (by decide) (fun c1000 => absurd (g33.mp c985) (Int32.not_lt.mpr c1000)) (fun c1000 => ?_)
        refine v_iconst (pc := 1003) (v := 1) dL_law_1003 rfl ?_
        refine v_goto (pc := 1004) (tgt := 1008) dL_law_1004 (by decide) ?_
        refine v_icmp_eq (pc := 1008) (tgt := 1013) dL_law_1008 (by decide) (fun c1008 => ?_) (fun c1008 => absurd c1008 (by decide))
        refine v_aloadR (pc := 1013) dL_law_1013 rfl ?_
        refine v_iload (pc := 1015) dL_law_1015 rfl ?_
        refine v_aaldS (pc := 1017) 52 (k := i) (by decide) rfl (by omega) (by omega) dL_law_1017 ?_
        refine v_iconst (pc := 1018) (v := 2) dL_law_1018 rfl ?_
        refine v_ialdGN (pc := 1019) 53 (j := 2) rfl (by omega) (by decide) (by decide) dL_law_1019 ?_
        try dsimp only [wb, tlS_0, tlS_1, tlS_2, tlS_3, tlS_4, tlS_5, tlS_6, tlS_7, tlS_8, tlC_0, tlC_1, tlC_2, tlC_3, LawM, LakeM, WaysM, WorldM, SimM, List.set_cons_succ, List.set_cons_zero, List.append_nil, List.nil_append, List.cons_append, Option.toList, Nat.sub_zero]
        refine v_iconst (pc := 1020) (v := 1) dL_law_1020 rfl ?_
        refine v_icmp_eq (pc := 1021) (tgt := 1050) dL_law_1021 (by decide) (fun c1021 => ?_) (fun c1021 => ?_)
        · obtain ⟨n9, hn9, e9, h3a, h3b, h3c, h3d⟩ := g6 c1021
          rw [e9]
          refine v_aload_nR (pc := 1050) dL_law_1050 rfl rfl ?_
          refine v_iload (pc := 1051) dL_law_1051 rfl ?_
          refine v_iconst (pc := 1053) (v := 3) dL_law_1053 rfl ?_
          refine v_callV2 (pc := 1054) (c7_sleigh hps hsc hbc (s := n9) (q := 3) hn9 (by decide)) cm_X5_sleigh q323 q324 q325 (ci := 5) rfl rfl (orcO 0 rfl) [0, 1, 2, 3, 4, 5, 6, 7, 8, 9, 10, 11, 12, 13, 14, 15, 16, 17] (by rfl) (by decide) (fun _ _ h => h) (by omega) (by omega) (by decide) (Nat.le_of_ble_eq_true rfl) dL_law_1054 (fun v1054 M1054 hQ1054 => ?_)
          obtain ⟨rfl, rfl⟩ := hQ1054
          try dsimp only [wb, tlS_0, tlS_1, tlS_2, tlS_3, tlS_4, tlS_5, tlS_6, tlS_7, tlS_8, tlC_0, tlC_1, tlC_2, tlC_3, LawM, LakeM, WaysM, WorldM, SimM, List.set_cons_succ, List.set_cons_zero, List.append_nil, List.nil_append, List.cons_append, Option.toList, Nat.sub_zero]
          refine v_istore (pc := 1057) dL_law_1057 (by show _ < 26; decide) rfl ?_
          refine v_iload (pc := 1059) dL_law_1059 rfl ?_
          refine v_if_ne (pc := 1061) (tgt := 1079) dL_law_1061 (by decide) (fun c1061 => ?_) (fun c1061 => ?_)
          · refine v_iconst (pc := 1079) (v := 0) dL_law_1079 rfl ?_
            refine v_istore (pc := 1080) dL_law_1080 (by show _ < 26; decide) rfl ?_
            refine v_iload (pc := 1082) dL_law_1082 rfl ?_
            refine v_if_eq (pc := 1084) (tgt := 1097) dL_law_1084 (by decide) (fun c1084 => ?_) (fun c1084 => absurd c1084 (by decide))
            refine v_iconst (pc := 1097) (v := -1) dL_law_1097 rfl ?_
            refine v_istore (pc := 1098) dL_law_1098 (by show _ < 26; decide) rfl ?_
            refine v_iload (pc := 1100) dL_law_1100 rfl ?_
            refine v_iload (pc := 1102) dL_law_1102 rfl ?_
            refine v_iconst (pc := 1104) (v := 2) dL_law_1104 rfl ?_
            refine v_icmp_ne (pc := 1105) (tgt := 1112) dL_law_1105 (by decide) (fun c1105 => ?_) (fun c1105 => ?_)
            · refine v_iload (pc := 1112) dL_law_1112 rfl ?_
              refine v_if_eq (pc := 1114) (tgt := 1137) dL_law_1114 (by decide) (fun c1114 => ?_) (fun c1114 => absurd c1114 (by decide))
              refine v_iconst (pc := 1137) (v := 1) dL_law_1137 rfl ?_
              refine v_icmp_ne (pc := 1138) (tgt := 1176) dL_law_1138 (by decide) (fun c1138 => absurd (h3c c1105 (fun q => c1061 q.1)) c1138) (fun c1138 => ?_)
              refine v_iload (pc := 1141) dL_law_1141 rfl ?_
              refine v_if_eq (pc := 1143) (tgt := 1158) dL_law_1143 (by decide) (fun c1143 => ?_) (fun c1143 => absurd c1143 (by decide))
              refine v_iload (pc := 1158) dL_law_1158 rfl ?_
              refine v_iconst (pc := 1160) (v := 2) dL_law_1160 rfl ?_
              refine v_icmp_ne (pc := 1161) (tgt := 1178) dL_law_1161 (by decide) (fun c1161 => ?_) (fun c1161 => ?_)
              · refine v_iload (pc := 1178) dL_law_1178 rfl ?_
                refine v_iload (pc := 1180) dL_law_1180 rfl ?_
                refine v_iconst (pc := 1182) (v := 2) dL_law_1182 rfl ?_
                refine v_icmp_ne (pc := 1183) (tgt := 1190) dL_law_1183 (by decide) (fun c1183 => ?_) (fun c1183 => ?_)
                · refine v_iconst (pc := 1190) (v := 0) dL_law_1190 rfl ?_
                  refine v_iadd (pc := 1191) dL_law_1191 ?_
                  refine v_istore (pc := 1192) dL_law_1192 (by show _ < 26; decide) rfl ?_
                  have e8 : cmF BF0 BF bc i = 0 := if_neg (fun q => c1183 q.2.2)
                  have es : (sumN (cmF BF0 BF bc) (i + 1)) = (sumN (cmF BF0 BF bc) i) + 0 := by
                    show (sumN (cmF BF0 BF bc) i) + cmF BF0 BF bc i = _
                    rw [e8]
                  refine v_iinc (pc := 1194) (v := nI (i + 1)) dL_law_1194 rfl (nI_1 _) (by show _ < 26; decide) rfl ?_
                  refine v_goto (pc := 1197) (tgt := 894) dL_law_1197 (by decide) ?_
                  refine v_room (ck' := ck + 12 * m) (sk' := sk + 72 * m) (by omega) (by omega) ?_
                  have k9 := ih (i + 1) (by omega)
                  rw [es] at k9
                  refine v_sub ?_ k9
                  exact ⟨rfl, rfl, rfl, rfl, rfl, rfl, rfl, rfl, rfl, rfl, rfl, rfl, rfl, rfl, rfl, trivial⟩
                · refine v_iconst (pc := 1186) (v := 1) dL_law_1186 rfl ?_
                  refine v_goto (pc := 1187) (tgt := 1191) dL_law_1187 (by decide) ?_
                  refine v_iadd (pc := 1191) dL_law_1191 ?_
                  refine v_istore (pc := 1192) dL_law_1192 (by show _ < 26; decide) rfl ?_
                  have e8 : cmF BF0 BF bc i = 1 := if_pos ⟨hi, c1021, c1183⟩
                  have es : (sumN (cmF BF0 BF bc) (i + 1)) = (sumN (cmF BF0 BF bc) i) + 1 := by
                    show (sumN (cmF BF0 BF bc) i) + cmF BF0 BF bc i = _
                    rw [e8]
                  refine v_iinc (pc := 1194) (v := nI (i + 1)) dL_law_1194 rfl (nI_1 _) (by show _ < 26; decide) rfl ?_
                  refine v_goto (pc := 1197) (tgt := 894) dL_law_1197 (by decide) ?_
                  refine v_room (ck' := ck + 12 * m) (sk' := sk + 72 * m) (by omega) (by omega) ?_
                  have k9 := ih (i + 1) (by omega)
                  rw [es] at k9
                  refine v_sub ?_ k9
                  exact ⟨rfl, rfl, rfl, rfl, rfl, rfl, rfl, rfl, rfl, rfl, rfl, rfl, rfl, rfl, rfl, trivial⟩
              · refine v_aload_nR (pc := 1164) dL_law_1164 rfl rfl ?_
                refine v_iload (pc := 1165) dL_law_1165 rfl ?_
                refine v_iconst (pc := 1167) (v := 4) dL_law_1167 rfl ?_
                refine v_callV2 (pc := 1168) (c7_bag hps hsc hbc (b9 := i) (q := 4) hi (by decide)) cm_X5_bag q357 q358 q359 (ci := 5) rfl rfl (orcO 0 rfl) [0, 1, 2, 3, 4, 5, 6, 7, 8, 9, 10, 11, 12, 13, 14, 15, 16, 17] (by rfl) (by decide) (fun _ _ h => h) (by omega) (by omega) (by decide) (Nat.le_of_ble_eq_true rfl) dL_law_1168 (fun v1168 M1168 hQ1168 => ?_)
                obtain ⟨rfl, rfl⟩ := hQ1168
                try dsimp only [wb, tlS_0, tlS_1, tlS_2, tlS_3, tlS_4, tlS_5, tlS_6, tlS_7, tlS_8, tlC_0, tlC_1, tlC_2, tlC_3, LawM, LakeM, WaysM, WorldM, SimM, List.set_cons_succ, List.set_cons_zero, List.append_nil, List.nil_append, List.cons_append, Option.toList, Nat.sub_zero]
                refine v_iload (pc := 1171) dL_law_1171 rfl ?_
                refine v_icmp_eq (pc := 1173) (tgt := 1178) dL_law_1173 (by decide) (fun c1173 => ?_) (fun c1173 => absurd (h3d c1161) c1173)
                refine v_iload (pc := 1178) dL_law_1178 rfl ?_
                refine v_iload (pc := 1180) dL_law_1180 rfl ?_
                refine v_iconst (pc := 1182) (v := 2) dL_law_1182 rfl ?_
                refine v_icmp_ne (pc := 1183) (tgt := 1190) dL_law_1183 (by decide) (fun c1183 => ?_) (fun c1183 => ?_)
                · refine v_iconst (pc := 1190) (v := 0) dL_law_1190 rfl ?_
                  refine v_iadd (pc := 1191) dL_law_1191 ?_
                  refine v_istore (pc := 1192) dL_law_1192 (by show _ < 26; decide) rfl ?_
                  have e8 : cmF BF0 BF bc i = 0 := if_neg (fun q => c1183 q.2.2)
                  have es : (sumN (cmF BF0 BF bc) (i + 1)) = (sumN (cmF BF0 BF bc) i) + 0 := by
                    show (sumN (cmF BF0 BF bc) i) + cmF BF0 BF bc i = _
                    rw [e8]
                  refine v_iinc (pc := 1194) (v := nI (i + 1)) dL_law_1194 rfl (nI_1 _) (by show _ < 26; decide) rfl ?_
                  refine v_goto (pc := 1197) (tgt := 894) dL_law_1197 (by decide) ?_
                  refine v_room (ck' := ck + 12 * m) (sk' := sk + 72 * m) (by omega) (by omega) ?_
                  have k9 := ih (i + 1) (by omega)
                  rw [es] at k9
                  refine v_sub ?_ k9
                  exact ⟨rfl, rfl, rfl, rfl, rfl, rfl, rfl, rfl, rfl, rfl, rfl, rfl, rfl, rfl, rfl, trivial⟩
                · refine v_iconst (pc := 1186) (v := 1) dL_law_1186 rfl ?_
                  refine v_goto (pc := 1187) (tgt := 1191) dL_law_1187 (by decide) ?_
                  refine v_iadd (pc := 1191) dL_law_1191 ?_
                  refine v_istore (pc := 1192) dL_law_1192 (by show _ < 26; decide) rfl ?_
                  have e8 : cmF BF0 BF bc i = 1 := if_pos ⟨hi, c1021, c1183⟩
                  have es : (sumN (cmF BF0 BF bc) (i + 1)) = (sumN (cmF BF0 BF bc) i) + 1 := by
                    show (sumN (cmF BF0 BF bc) i) + cmF BF0 BF bc i = _
                    rw [e8]
                  refine v_iinc (pc := 1194) (v := nI (i + 1)) dL_law_1194 rfl (nI_1 _) (by show _ < 26; decide) rfl ?_
                  refine v_goto (pc := 1197) (tgt := 894) dL_law_1197 (by decide) ?_
                  refine v_room (ck' := ck + 12 * m) (sk' := sk + 72 * m) (by omega) (by omega) ?_
                  have k9 := ih (i + 1) (by omega)
                  rw [es] at k9
                  refine v_sub ?_ k9
                  exact ⟨rfl, rfl, rfl, rfl, rfl, rfl, rfl, rfl, rfl, rfl, rfl, rfl, rfl, rfl, rfl, trivial⟩
            · refine v_iconst (pc := 1108) (v := 3) dL_law_1108 rfl ?_
              refine v_goto (pc := 1109) (tgt := 1138) dL_law_1109 (by decide) ?_
              refine v_icmp_ne (pc := 1138) (tgt := 1176) dL_law_1138 (by decide) (fun c1138 => absurd (h3a c1105) c1138) (fun c1138 => ?_)
              refine v_iload (pc := 1141) dL_law_1141 rfl ?_
              refine v_if_eq (pc := 1143) (tgt := 1158) dL_law_1143 (by decide) (fun c1143 => ?_) (fun c1143 => absurd c1143 (by decide))
              refine v_iload (pc := 1158) dL_law_1158 rfl ?_
              refine v_iconst (pc := 1160) (v := 2) dL_law_1160 rfl ?_
              refine v_icmp_ne (pc := 1161) (tgt := 1178) dL_law_1161 (by decide) (fun c1161 => ?_) (fun c1161 => ?_)
              · refine v_iload (pc := 1178) dL_law_1178 rfl ?_
                refine v_iload (pc := 1180) dL_law_1180 rfl ?_
                refine v_iconst (pc := 1182) (v := 2) dL_law_1182 rfl ?_
                refine v_icmp_ne (pc := 1183) (tgt := 1190) dL_law_1183 (by decide) (fun c1183 => ?_) (fun c1183 => ?_)
                · refine v_iconst (pc := 1190) (v := 0) dL_law_1190 rfl ?_
                  refine v_iadd (pc := 1191) dL_law_1191 ?_
                  refine v_istore (pc := 1192) dL_law_1192 (by show _ < 26; decide) rfl ?_
                  have e8 : cmF BF0 BF bc i = 0 := if_neg (fun q => c1183 q.2.2)
                  have es : (sumN (cmF BF0 BF bc) (i + 1)) = (sumN (cmF BF0 BF bc) i) + 0 := by
                    show (sumN (cmF BF0 BF bc) i) + cmF BF0 BF bc i = _
                    rw [e8]
                  refine v_iinc (pc := 1194) (v := nI (i + 1)) dL_law_1194 rfl (nI_1 _) (by show _ < 26; decide) rfl ?_
                  refine v_goto (pc := 1197) (tgt := 894) dL_law_1197 (by decide) ?_
                  refine v_room (ck' := ck + 12 * m) (sk' := sk + 72 * m) (by omega) (by omega) ?_
                  have k9 := ih (i + 1) (by omega)
                  rw [es] at k9
                  refine v_sub ?_ k9
                  exact ⟨rfl, rfl, rfl, rfl, rfl, rfl, rfl, rfl, rfl, rfl, rfl, rfl, rfl, rfl, rfl, trivial⟩
                · refine v_iconst (pc := 1186) (v := 1) dL_law_1186 rfl ?_
                  refine v_goto (pc := 1187) (tgt := 1191) dL_law_1187 (by decide) ?_
                  refine v_iadd (pc := 1191) dL_law_1191 ?_
                  refine v_istore (pc := 1192) dL_law_1192 (by show _ < 26; decide) rfl ?_
                  have e8 : cmF BF0 BF bc i = 1 := if_pos ⟨hi, c1021, c1183⟩
                  have es : (sumN (cmF BF0 BF bc) (i + 1)) = (sumN (cmF BF0 BF bc) i) + 1 := by
                    show (sumN (cmF BF0 BF bc) i) + cmF BF0 BF bc i = _
                    rw [e8]
                  refine v_iinc (pc := 1194) (v := nI (i + 1)) dL_law_1194 rfl (nI_1 _) (by show _ < 26; decide) rfl ?_
                  refine v_goto (pc := 1197) (tgt := 894) dL_law_1197 (by decide) ?_
                  refine v_room (ck' := ck + 12 * m) (sk' := sk + 72 * m) (by omega) (by omega) ?_
                  have k9 := ih (i + 1) (by omega)
                  rw [es] at k9
                  refine v_sub ?_ k9
                  exact ⟨rfl, rfl, rfl, rfl, rfl, rfl, rfl, rfl, rfl, rfl, rfl, rfl, rfl, rfl, rfl, trivial⟩
              · refine v_aload_nR (pc := 1164) dL_law_1164 rfl rfl ?_
                refine v_iload (pc := 1165) dL_law_1165 rfl ?_
                refine v_iconst (pc := 1167) (v := 4) dL_law_1167 rfl ?_
                refine v_callV2 (pc := 1168) (c7_bag hps hsc hbc (b9 := i) (q := 4) hi (by decide)) cm_X5_bag q357 q358 q359 (ci := 5) rfl rfl (orcO 0 rfl) [0, 1, 2, 3, 4, 5, 6, 7, 8, 9, 10, 11, 12, 13, 14, 15, 16, 17] (by rfl) (by decide) (fun _ _ h => h) (by omega) (by omega) (by decide) (Nat.le_of_ble_eq_true rfl) dL_law_1168 (fun v1168 M1168 hQ1168 => ?_)
                obtain ⟨rfl, rfl⟩ := hQ1168
                try dsimp only [wb, tlS_0, tlS_1, tlS_2, tlS_3, tlS_4, tlS_5, tlS_6, tlS_7, tlS_8, tlC_0, tlC_1, tlC_2, tlC_3, LawM, LakeM, WaysM, WorldM, SimM, List.set_cons_succ, List.set_cons_zero, List.append_nil, List.nil_append, List.cons_append, Option.toList, Nat.sub_zero]
                refine v_iload (pc := 1171) dL_law_1171 rfl ?_
                refine v_icmp_eq (pc := 1173) (tgt := 1178) dL_law_1173 (by decide) (fun c1173 => ?_) (fun c1173 => absurd (h3d c1161) c1173)
                refine v_iload (pc := 1178) dL_law_1178 rfl ?_
                refine v_iload (pc := 1180) dL_law_1180 rfl ?_
                refine v_iconst (pc := 1182) (v := 2) dL_law_1182 rfl ?_
                refine v_icmp_ne (pc := 1183) (tgt := 1190) dL_law_1183 (by decide) (fun c1183 => ?_) (fun c1183 => ?_)
                · refine v_iconst (pc := 1190) (v := 0) dL_law_1190 rfl ?_
                  refine v_iadd (pc := 1191) dL_law_1191 ?_
                  refine v_istore (pc := 1192) dL_law_1192 (by show _ < 26; decide) rfl ?_
                  have e8 : cmF BF0 BF bc i = 0 := if_neg (fun q => c1183 q.2.2)
                  have es : (sumN (cmF BF0 BF bc) (i + 1)) = (sumN (cmF BF0 BF bc) i) + 0 := by
                    show (sumN (cmF BF0 BF bc) i) + cmF BF0 BF bc i = _
                    rw [e8]
                  refine v_iinc (pc := 1194) (v := nI (i + 1)) dL_law_1194 rfl (nI_1 _) (by show _ < 26; decide) rfl ?_
                  refine v_goto (pc := 1197) (tgt := 894) dL_law_1197 (by decide) ?_
                  refine v_room (ck' := ck + 12 * m) (sk' := sk + 72 * m) (by omega) (by omega) ?_
                  have k9 := ih (i + 1) (by omega)
                  rw [es] at k9
                  refine v_sub ?_ k9
                  exact ⟨rfl, rfl, rfl, rfl, rfl, rfl, rfl, rfl, rfl, rfl, rfl, rfl, rfl, rfl, rfl, trivial⟩
                · refine v_iconst (pc := 1186) (v := 1) dL_law_1186 rfl ?_
                  refine v_goto (pc := 1187) (tgt := 1191) dL_law_1187 (by decide) ?_
                  refine v_iadd (pc := 1191) dL_law_1191 ?_
                  refine v_istore (pc := 1192) dL_law_1192 (by show _ < 26; decide) rfl ?_
                  have e8 : cmF BF0 BF bc i = 1 := if_pos ⟨hi, c1021, c1183⟩
                  have es : (sumN (cmF BF0 BF bc) (i + 1)) = (sumN (cmF BF0 BF bc) i) + 1 := by
                    show (sumN (cmF BF0 BF bc) i) + cmF BF0 BF bc i = _
                    rw [e8]
                  refine v_iinc (pc := 1194) (v := nI (i + 1)) dL_law_1194 rfl (nI_1 _) (by show _ < 26; decide) rfl ?_
                  refine v_goto (pc := 1197) (tgt := 894) dL_law_1197 (by decide) ?_
                  refine v_room (ck' := ck + 12 * m) (sk' := sk + 72 * m) (by omega) (by omega) ?_
                  have k9 := ih (i + 1) (by omega)
                  rw [es] at k9
                  refine v_sub ?_ k9
                  exact ⟨rfl, rfl, rfl, rfl, rfl, rfl, rfl, rfl, rfl, rfl, rfl, rfl, rfl, rfl, rfl, trivial⟩
          · refine v_aloadR (pc := 1064) dL_law_1064 rfl ?_
            refine v_iload (pc := 1066) dL_law_1066 rfl ?_
            refine v_aaldS (pc := 1068) 50 (k := n9) (by decide) rfl (by omega) (by omega) dL_law_1068 ?_
            refine v_iconst (pc := 1069) (v := 3) dL_law_1069 rfl ?_
            refine v_ialdGN (pc := 1070) 51 (j := 3) rfl (by omega) (by decide) (by decide) dL_law_1070 ?_
            try dsimp only [wb, tlS_0, tlS_1, tlS_2, tlS_3, tlS_4, tlS_5, tlS_6, tlS_7, tlS_8, tlC_0, tlC_1, tlC_2, tlC_3, LawM, LakeM, WaysM, WorldM, SimM, List.set_cons_succ, List.set_cons_zero, List.append_nil, List.nil_append, List.cons_append, Option.toList, Nat.sub_zero]
            refine v_iconst (pc := 1071) (v := 1) dL_law_1071 rfl ?_
            refine v_icmp_ne (pc := 1072) (tgt := 1079) dL_law_1072 (by decide) (fun c1072 => ?_) (fun c1072 => ?_)
            · refine v_iconst (pc := 1079) (v := 0) dL_law_1079 rfl ?_
              refine v_istore (pc := 1080) dL_law_1080 (by show _ < 26; decide) rfl ?_
              refine v_iload (pc := 1082) dL_law_1082 rfl ?_
              refine v_if_eq (pc := 1084) (tgt := 1097) dL_law_1084 (by decide) (fun c1084 => ?_) (fun c1084 => absurd c1084 (by decide))
              refine v_iconst (pc := 1097) (v := -1) dL_law_1097 rfl ?_
              refine v_istore (pc := 1098) dL_law_1098 (by show _ < 26; decide) rfl ?_
              refine v_iload (pc := 1100) dL_law_1100 rfl ?_
              refine v_iload (pc := 1102) dL_law_1102 rfl ?_
              refine v_iconst (pc := 1104) (v := 2) dL_law_1104 rfl ?_
              refine v_icmp_ne (pc := 1105) (tgt := 1112) dL_law_1105 (by decide) (fun c1105 => ?_) (fun c1105 => ?_)
              · refine v_iload (pc := 1112) dL_law_1112 rfl ?_
                refine v_if_eq (pc := 1114) (tgt := 1137) dL_law_1114 (by decide) (fun c1114 => ?_) (fun c1114 => absurd c1114 (by decide))
                refine v_iconst (pc := 1137) (v := 1) dL_law_1137 rfl ?_
                refine v_icmp_ne (pc := 1138) (tgt := 1176) dL_law_1138 (by decide) (fun c1138 => absurd (h3c c1105 (fun q => c1072 q.2)) c1138) (fun c1138 => ?_)
                refine v_iload (pc := 1141) dL_law_1141 rfl ?_
                refine v_if_eq (pc := 1143) (tgt := 1158) dL_law_1143 (by decide) (fun c1143 => ?_) (fun c1143 => absurd c1143 (by decide))
                refine v_iload (pc := 1158) dL_law_1158 rfl ?_
                refine v_iconst (pc := 1160) (v := 2) dL_law_1160 rfl ?_
                refine v_icmp_ne (pc := 1161) (tgt := 1178) dL_law_1161 (by decide) (fun c1161 => ?_) (fun c1161 => ?_)
                · refine v_iload (pc := 1178) dL_law_1178 rfl ?_
                  refine v_iload (pc := 1180) dL_law_1180 rfl ?_
                  refine v_iconst (pc := 1182) (v := 2) dL_law_1182 rfl ?_
                  refine v_icmp_ne (pc := 1183) (tgt := 1190) dL_law_1183 (by decide) (fun c1183 => ?_) (fun c1183 => ?_)
                  · refine v_iconst (pc := 1190) (v := 0) dL_law_1190 rfl ?_
                    refine v_iadd (pc := 1191) dL_law_1191 ?_
                    refine v_istore (pc := 1192) dL_law_1192 (by show _ < 26; decide) rfl ?_
                    have e8 : cmF BF0 BF bc i = 0 := if_neg (fun q => c1183 q.2.2)
                    have es : (sumN (cmF BF0 BF bc) (i + 1)) = (sumN (cmF BF0 BF bc) i) + 0 := by
                      show (sumN (cmF BF0 BF bc) i) + cmF BF0 BF bc i = _
                      rw [e8]
                    refine v_iinc (pc := 1194) (v := nI (i + 1)) dL_law_1194 rfl (nI_1 _) (by show _ < 26; decide) rfl ?_
                    refine v_goto (pc := 1197) (tgt := 894) dL_law_1197 (by decide) ?_
                    refine v_room (ck' := ck + 12 * m) (sk' := sk + 72 * m) (by omega) (by omega) ?_
                    have k9 := ih (i + 1) (by omega)
                    rw [es] at k9
                    refine v_sub ?_ k9
                    exact ⟨rfl, rfl, rfl, rfl, rfl, rfl, rfl, rfl, rfl, rfl, rfl, rfl, rfl, rfl, rfl, trivial⟩
                  · refine v_iconst (pc := 1186) (v := 1) dL_law_1186 rfl ?_
                    refine v_goto (pc := 1187) (tgt := 1191) dL_law_1187 (by decide) ?_
                    refine v_iadd (pc := 1191) dL_law_1191 ?_
                    refine v_istore (pc := 1192) dL_law_1192 (by show _ < 26; decide) rfl ?_
                    have e8 : cmF BF0 BF bc i = 1 := if_pos ⟨hi, c1021, c1183⟩
                    have es : (sumN (cmF BF0 BF bc) (i + 1)) = (sumN (cmF BF0 BF bc) i) + 1 := by
                      show (sumN (cmF BF0 BF bc) i) + cmF BF0 BF bc i = _
                      rw [e8]
                    refine v_iinc (pc := 1194) (v := nI (i + 1)) dL_law_1194 rfl (nI_1 _) (by show _ < 26; decide) rfl ?_
                    refine v_goto (pc := 1197) (tgt := 894) dL_law_1197 (by decide) ?_
                    refine v_room (ck' := ck + 12 * m) (sk' := sk + 72 * m) (by omega) (by omega) ?_
                    have k9 := ih (i + 1) (by omega)
                    rw [es] at k9
                    refine v_sub ?_ k9
                    exact ⟨rfl, rfl, rfl, rfl, rfl, rfl, rfl, rfl, rfl, rfl, rfl, rfl, rfl, rfl, rfl, trivial⟩
                · refine v_aload_nR (pc := 1164) dL_law_1164 rfl rfl ?_
                  refine v_iload (pc := 1165) dL_law_1165 rfl ?_
                  refine v_iconst (pc := 1167) (v := 4) dL_law_1167 rfl ?_
                  refine v_callV2 (pc := 1168) (c7_bag hps hsc hbc (b9 := i) (q := 4) hi (by decide)) cm_X5_bag q357 q358 q359 (ci := 5) rfl rfl (orcO 0 rfl) [0, 1, 2, 3, 4, 5, 6, 7, 8, 9, 10, 11, 12, 13, 14, 15, 16, 17] (by rfl) (by decide) (fun _ _ h => h) (by omega) (by omega) (by decide) (Nat.le_of_ble_eq_true rfl) dL_law_1168 (fun v1168 M1168 hQ1168 => ?_)
                  obtain ⟨rfl, rfl⟩ := hQ1168
                  try dsimp only [wb, tlS_0, tlS_1, tlS_2, tlS_3, tlS_4, tlS_5, tlS_6, tlS_7, tlS_8, tlC_0, tlC_1, tlC_2, tlC_3, LawM, LakeM, WaysM, WorldM, SimM, List.set_cons_succ, List.set_cons_zero, List.append_nil, List.nil_append, List.cons_append, Option.toList, Nat.sub_zero]
                  refine v_iload (pc := 1171) dL_law_1171 rfl ?_
                  refine v_icmp_eq (pc := 1173) (tgt := 1178) dL_law_1173 (by decide) (fun c1173 => ?_) (fun c1173 => absurd (h3d c1161) c1173)
                  refine v_iload (pc := 1178) dL_law_1178 rfl ?_
                  refine v_iload (pc := 1180) dL_law_1180 rfl ?_
                  refine v_iconst (pc := 1182) (v := 2) dL_law_1182 rfl ?_
                  refine v_icmp_ne (pc := 1183) (tgt := 1190) dL_law_1183 (by decide) (fun c1183 => ?_) (fun c1183 => ?_)
                  · refine v_iconst (pc := 1190) (v := 0) dL_law_1190 rfl ?_
                    refine v_iadd (pc := 1191) dL_law_1191 ?_
                    refine v_istore (pc := 1192) dL_law_1192 (by show _ < 26; decide) rfl ?_
                    have e8 : cmF BF0 BF bc i = 0 := if_neg (fun q => c1183 q.2.2)
                    have es : (sumN (cmF BF0 BF bc) (i + 1)) = (sumN (cmF BF0 BF bc) i) + 0 := by
                      show (sumN (cmF BF0 BF bc) i) + cmF BF0 BF bc i = _
                      rw [e8]
                    refine v_iinc (pc := 1194) (v := nI (i + 1)) dL_law_1194 rfl (nI_1 _) (by show _ < 26; decide) rfl ?_
                    refine v_goto (pc := 1197) (tgt := 894) dL_law_1197 (by decide) ?_
                    refine v_room (ck' := ck + 12 * m) (sk' := sk + 72 * m) (by omega) (by omega) ?_
                    have k9 := ih (i + 1) (by omega)
                    rw [es] at k9
                    refine v_sub ?_ k9
                    exact ⟨rfl, rfl, rfl, rfl, rfl, rfl, rfl, rfl, rfl, rfl, rfl, rfl, rfl, rfl, rfl, trivial⟩
                  · refine v_iconst (pc := 1186) (v := 1) dL_law_1186 rfl ?_
                    refine v_goto (pc := 1187) (tgt := 1191) dL_law_1187 (by decide) ?_
                    refine v_iadd (pc := 1191) dL_law_1191 ?_
                    refine v_istore (pc := 1192) dL_law_1192 (by show _ < 26; decide) rfl ?_
                    have e8 : cmF BF0 BF bc i = 1 := if_pos ⟨hi, c1021, c1183⟩
                    have es : (sumN (cmF BF0 BF bc) (i + 1)) = (sumN (cmF BF0 BF bc) i) + 1 := by
                      show (sumN (cmF BF0 BF bc) i) + cmF BF0 BF bc i = _
                      rw [e8]
                    refine v_iinc (pc := 1194) (v := nI (i + 1)) dL_law_1194 rfl (nI_1 _) (by show _ < 26; decide) rfl ?_
                    refine v_goto (pc := 1197) (tgt := 894) dL_law_1197 (by decide) ?_
                    refine v_room (ck' := ck + 12 * m) (sk' := sk + 72 * m) (by omega) (by omega) ?_
                    have k9 := ih (i + 1) (by omega)
                    rw [es] at k9
                    refine v_sub ?_ k9
                    exact ⟨rfl, rfl, rfl, rfl, rfl, rfl, rfl, rfl, rfl, rfl, rfl, rfl, rfl, rfl, rfl, trivial⟩
              · refine v_iconst (pc := 1108) (v := 3) dL_law_1108 rfl ?_
                refine v_goto (pc := 1109) (tgt := 1138) dL_law_1109 (by decide) ?_
                refine v_icmp_ne (pc := 1138) (tgt := 1176) dL_law_1138 (by decide) (fun c1138 => absurd (h3a c1105) c1138) (fun c1138 => ?_)
                refine v_iload (pc := 1141) dL_law_1141 rfl ?_
                refine v_if_eq (pc := 1143) (tgt := 1158) dL_law_1143 (by decide) (fun c1143 => ?_) (fun c1143 => absurd c1143 (by decide))
                refine v_iload (pc := 1158) dL_law_1158 rfl ?_
                refine v_iconst (pc := 1160) (v := 2) dL_law_1160 rfl ?_
                refine v_icmp_ne (pc := 1161) (tgt := 1178) dL_law_1161 (by decide) (fun c1161 => ?_) (fun c1161 => ?_)
                · refine v_iload (pc := 1178) dL_law_1178 rfl ?_
                  refine v_iload (pc := 1180) dL_law_1180 rfl ?_
                  refine v_iconst (pc := 1182) (v := 2) dL_law_1182 rfl ?_
                  refine v_icmp_ne (pc := 1183) (tgt := 1190) dL_law_1183 (by decide) (fun c1183 => ?_) (fun c1183 => ?_)
                  · refine v_iconst (pc := 1190) (v := 0) dL_law_1190 rfl ?_
                    refine v_iadd (pc := 1191) dL_law_1191 ?_
                    refine v_istore (pc := 1192) dL_law_1192 (by show _ < 26; decide) rfl ?_
                    have e8 : cmF BF0 BF bc i = 0 := if_neg (fun q => c1183 q.2.2)
                    have es : (sumN (cmF BF0 BF bc) (i + 1)) = (sumN (cmF BF0 BF bc) i) + 0 := by
                      show (sumN (cmF BF0 BF bc) i) + cmF BF0 BF bc i = _
                      rw [e8]
                    refine v_iinc (pc := 1194) (v := nI (i + 1)) dL_law_1194 rfl (nI_1 _) (by show _ < 26; decide) rfl ?_
                    refine v_goto (pc := 1197) (tgt := 894) dL_law_1197 (by decide) ?_
                    refine v_room (ck' := ck + 12 * m) (sk' := sk + 72 * m) (by omega) (by omega) ?_
                    have k9 := ih (i + 1) (by omega)
                    rw [es] at k9
                    refine v_sub ?_ k9
                    exact ⟨rfl, rfl, rfl, rfl, rfl, rfl, rfl, rfl, rfl, rfl, rfl, rfl, rfl, rfl, rfl, trivial⟩
                  · refine v_iconst (pc := 1186) (v := 1) dL_law_1186 rfl ?_
                    refine v_goto (pc := 1187) (tgt := 1191) dL_law_1187 (by decide) ?_
                    refine v_iadd (pc := 1191) dL_law_1191 ?_
                    refine v_istore (pc := 1192) dL_law_1192 (by show _ < 26; decide) rfl ?_
                    have e8 : cmF BF0 BF bc i = 1 := if_pos ⟨hi, c1021, c1183⟩
                    have es : (sumN (cmF BF0 BF bc) (i + 1)) = (sumN (cmF BF0 BF bc) i) + 1 := by
                      show (sumN (cmF BF0 BF bc) i) + cmF BF0 BF bc i = _
                      rw [e8]
                    refine v_iinc (pc := 1194) (v := nI (i + 1)) dL_law_1194 rfl (nI_1 _) (by show _ < 26; decide) rfl ?_
                    refine v_goto (pc := 1197) (tgt := 894) dL_law_1197 (by decide) ?_
                    refine v_room (ck' := ck + 12 * m) (sk' := sk + 72 * m) (by omega) (by omega) ?_
                    have k9 := ih (i + 1) (by omega)
                    rw [es] at k9
                    refine v_sub ?_ k9
                    exact ⟨rfl, rfl, rfl, rfl, rfl, rfl, rfl, rfl, rfl, rfl, rfl, rfl, rfl, rfl, rfl, trivial⟩
                · refine v_aload_nR (pc := 1164) dL_law_1164 rfl rfl ?_
                  refine v_iload (pc := 1165) dL_law_1165 rfl ?_
                  refine v_iconst (pc := 1167) (v := 4) dL_law_1167 rfl ?_
                  refine v_callV2 (pc := 1168) (c7_bag hps hsc hbc (b9 := i) (q := 4) hi (by decide)) cm_X5_bag q357 q358 q359 (ci := 5) rfl rfl (orcO 0 rfl) [0, 1, 2, 3, 4, 5, 6, 7, 8, 9, 10, 11, 12, 13, 14, 15, 16, 17] (by rfl) (by decide) (fun _ _ h => h) (by omega) (by omega) (by decide) (Nat.le_of_ble_eq_true rfl) dL_law_1168 (fun v1168 M1168 hQ1168 => ?_)
                  obtain ⟨rfl, rfl⟩ := hQ1168
                  try dsimp only [wb, tlS_0, tlS_1, tlS_2, tlS_3, tlS_4, tlS_5, tlS_6, tlS_7, tlS_8, tlC_0, tlC_1, tlC_2, tlC_3, LawM, LakeM, WaysM, WorldM, SimM, List.set_cons_succ, List.set_cons_zero, List.append_nil, List.nil_append, List.cons_append, Option.toList, Nat.sub_zero]
                  refine v_iload (pc := 1171) dL_law_1171 rfl ?_
                  refine v_icmp_eq (pc := 1173) (tgt := 1178) dL_law_1173 (by decide) (fun c1173 => ?_) (fun c1173 => absurd (h3d c1161) c1173)
                  refine v_iload (pc := 1178) dL_law_1178 rfl ?_
                  refine v_iload (pc := 1180) dL_law_1180 rfl ?_
                  refine v_iconst (pc := 1182) (v := 2) dL_law_1182 rfl ?_
                  refine v_icmp_ne (pc := 1183) (tgt := 1190) dL_law_1183 (by decide) (fun c1183 => ?_) (fun c1183 => ?_)
                  · refine v_iconst (pc := 1190) (v := 0) dL_law_1190 rfl ?_
                    refine v_iadd (pc := 1191) dL_law_1191 ?_
                    refine v_istore (pc := 1192) dL_law_1192 (by show _ < 26; decide) rfl ?_
                    have e8 : cmF BF0 BF bc i = 0 := if_neg (fun q => c1183 q.2.2)
                    have es : (sumN (cmF BF0 BF bc) (i + 1)) = (sumN (cmF BF0 BF bc) i) + 0 := by
                      show (sumN (cmF BF0 BF bc) i) + cmF BF0 BF bc i = _
                      rw [e8]
                    refine v_iinc (pc := 1194) (v := nI (i + 1)) dL_law_1194 rfl (nI_1 _) (by show _ < 26; decide) rfl ?_
                    refine v_goto (pc := 1197) (tgt := 894) dL_law_1197 (by decide) ?_
                    refine v_room (ck' := ck + 12 * m) (sk' := sk + 72 * m) (by omega) (by omega) ?_
                    have k9 := ih (i + 1) (by omega)
                    rw [es] at k9
                    refine v_sub ?_ k9
                    exact ⟨rfl, rfl, rfl, rfl, rfl, rfl, rfl, rfl, rfl, rfl, rfl, rfl, rfl, rfl, rfl, trivial⟩
                  · refine v_iconst (pc := 1186) (v := 1) dL_law_1186 rfl ?_
                    refine v_goto (pc := 1187) (tgt := 1191) dL_law_1187 (by decide) ?_
                    refine v_iadd (pc := 1191) dL_law_1191 ?_
                    refine v_istore (pc := 1192) dL_law_1192 (by show _ < 26; decide) rfl ?_
                    have e8 : cmF BF0 BF bc i = 1 := if_pos ⟨hi, c1021, c1183⟩
                    have es : (sumN (cmF BF0 BF bc) (i + 1)) = (sumN (cmF BF0 BF bc) i) + 1 := by
                      show (sumN (cmF BF0 BF bc) i) + cmF BF0 BF bc i = _
                      rw [e8]
                    refine v_iinc (pc := 1194) (v := nI (i + 1)) dL_law_1194 rfl (nI_1 _) (by show _ < 26; decide) rfl ?_
                    refine v_goto (pc := 1197) (tgt := 894) dL_law_1197 (by decide) ?_
                    refine v_room (ck' := ck + 12 * m) (sk' := sk + 72 * m) (by omega) (by omega) ?_
                    have k9 := ih (i + 1) (by omega)
                    rw [es] at k9
                    refine v_sub ?_ k9
                    exact ⟨rfl, rfl, rfl, rfl, rfl, rfl, rfl, rfl, rfl, rfl, rfl, rfl, rfl, rfl, rfl, trivial⟩
            · refine v_iconst (pc := 1075) (v := 1) dL_law_1075 rfl ?_
              refine v_goto (pc := 1076) (tgt := 1080) dL_law_1076 (by decide) ?_
              refine v_istore (pc := 1080) dL_law_1080 (by show _ < 26; decide) rfl ?_
              refine v_iload (pc := 1082) dL_law_1082 rfl ?_
              refine v_if_eq (pc := 1084) (tgt := 1097) dL_law_1084 (by decide) (fun c1084 => absurd c1084 (by decide)) (fun c1084 => ?_)
              refine v_aload_nR (pc := 1087) dL_law_1087 rfl rfl ?_
              refine v_iload (pc := 1088) dL_law_1088 rfl ?_
              refine v_iconst (pc := 1090) (v := 5) dL_law_1090 rfl ?_
              refine v_callV2 (pc := 1091) (c7_sleigh hps hsc hbc (s := n9) (q := 5) hn9 (by decide)) cm_X5_sleigh q323 q324 q325 (ci := 5) rfl rfl (orcO 0 rfl) [0, 1, 2, 3, 4, 5, 6, 7, 8, 9, 10, 11, 12, 13, 14, 15, 16, 17] (by rfl) (by decide) (fun _ _ h => h) (by omega) (by omega) (by decide) (Nat.le_of_ble_eq_true rfl) dL_law_1091 (fun v1091 M1091 hQ1091 => ?_)
              obtain ⟨rfl, rfl⟩ := hQ1091
              try dsimp only [wb, tlS_0, tlS_1, tlS_2, tlS_3, tlS_4, tlS_5, tlS_6, tlS_7, tlS_8, tlC_0, tlC_1, tlC_2, tlC_3, LawM, LakeM, WaysM, WorldM, SimM, List.set_cons_succ, List.set_cons_zero, List.append_nil, List.nil_append, List.cons_append, Option.toList, Nat.sub_zero]
              refine v_goto (pc := 1094) (tgt := 1098) dL_law_1094 (by decide) ?_
              refine v_istore (pc := 1098) dL_law_1098 (by show _ < 26; decide) rfl ?_
              refine v_iload (pc := 1100) dL_law_1100 rfl ?_
              refine v_iload (pc := 1102) dL_law_1102 rfl ?_
              refine v_iconst (pc := 1104) (v := 2) dL_law_1104 rfl ?_
              refine v_icmp_ne (pc := 1105) (tgt := 1112) dL_law_1105 (by decide) (fun c1105 => ?_) (fun c1105 => ?_)
              · refine v_iload (pc := 1112) dL_law_1112 rfl ?_
                refine v_if_eq (pc := 1114) (tgt := 1137) dL_law_1114 (by decide) (fun c1114 => absurd c1114 (by decide)) (fun c1114 => ?_)
                refine v_iload (pc := 1117) dL_law_1117 rfl ?_
                refine v_aloadR (pc := 1119) dL_law_1119 rfl ?_
                refine v_iload (pc := 1121) dL_law_1121 rfl ?_
                refine v_aaldS (pc := 1123) 52 (k := i) (by decide) rfl (by omega) (by omega) dL_law_1123 ?_
                refine v_iconst (pc := 1124) (v := 1) dL_law_1124 rfl ?_
                refine v_ialdGN (pc := 1125) 53 (j := 1) rfl (by omega) (by decide) (by decide) dL_law_1125 ?_
                try dsimp only [wb, tlS_0, tlS_1, tlS_2, tlS_3, tlS_4, tlS_5, tlS_6, tlS_7, tlS_8, tlC_0, tlC_1, tlC_2, tlC_3, LawM, LakeM, WaysM, WorldM, SimM, List.set_cons_succ, List.set_cons_zero, List.append_nil, List.nil_append, List.cons_append, Option.toList, Nat.sub_zero]
                refine v_icmp_ne (pc := 1126) (tgt := 1133) dL_law_1126 (by decide) (fun c1126 => ?_) (fun c1126 => ?_)
                · refine v_iconst (pc := 1133) (v := 0) dL_law_1133 rfl ?_
                  refine v_goto (pc := 1134) (tgt := 1138) dL_law_1134 (by decide) ?_
                  refine v_icmp_ne (pc := 1138) (tgt := 1176) dL_law_1138 (by decide) (fun c1138 => absurd ((h3b (fun q => absurd (c1061.symm.trans q) (by decide)) ⟨c1061, c1072⟩).1.trans (if_neg c1126)) c1138) (fun c1138 => ?_)
                  refine v_iload (pc := 1141) dL_law_1141 rfl ?_
                  refine v_if_eq (pc := 1143) (tgt := 1158) dL_law_1143 (by decide) (fun c1143 => absurd c1143 (by decide)) (fun c1143 => ?_)
                  refine v_aload_nR (pc := 1146) dL_law_1146 rfl rfl ?_
                  refine v_iload (pc := 1147) dL_law_1147 rfl ?_
                  refine v_iconst (pc := 1149) (v := 3) dL_law_1149 rfl ?_
                  refine v_callV2 (pc := 1150) (c7_bag hps hsc hbc (b9 := i) (q := 3) hi (by decide)) cm_X5_bag q357 q358 q359 (ci := 5) rfl rfl (orcO 0 rfl) [0, 1, 2, 3, 4, 5, 6, 7, 8, 9, 10, 11, 12, 13, 14, 15, 16, 17] (by rfl) (by decide) (fun _ _ h => h) (by omega) (by omega) (by decide) (Nat.le_of_ble_eq_true rfl) dL_law_1150 (fun v1150 M1150 hQ1150 => ?_)
                  obtain ⟨rfl, rfl⟩ := hQ1150
                  try dsimp only [wb, tlS_0, tlS_1, tlS_2, tlS_3, tlS_4, tlS_5, tlS_6, tlS_7, tlS_8, tlC_0, tlC_1, tlC_2, tlC_3, LawM, LakeM, WaysM, WorldM, SimM, List.set_cons_succ, List.set_cons_zero, List.append_nil, List.nil_append, List.cons_append, Option.toList, Nat.sub_zero]
                  refine v_iload (pc := 1153) dL_law_1153 rfl ?_
                  refine v_icmp_ne (pc := 1155) (tgt := 1176) dL_law_1155 (by decide) (fun c1155 => absurd (h3b (fun q => absurd (c1061.symm.trans q) (by decide)) ⟨c1061, c1072⟩).2 c1155) (fun c1155 => ?_)
                  refine v_iload (pc := 1158) dL_law_1158 rfl ?_
                  refine v_iconst (pc := 1160) (v := 2) dL_law_1160 rfl ?_
                  refine v_icmp_ne (pc := 1161) (tgt := 1178) dL_law_1161 (by decide) (fun c1161 => ?_) (fun c1161 => ?_)
                  · refine v_iload (pc := 1178) dL_law_1178 rfl ?_
                    refine v_iload (pc := 1180) dL_law_1180 rfl ?_
                    refine v_iconst (pc := 1182) (v := 2) dL_law_1182 rfl ?_
                    refine v_icmp_ne (pc := 1183) (tgt := 1190) dL_law_1183 (by decide) (fun c1183 => ?_) (fun c1183 => ?_)
                    · refine v_iconst (pc := 1190) (v := 0) dL_law_1190 rfl ?_
                      refine v_iadd (pc := 1191) dL_law_1191 ?_
                      refine v_istore (pc := 1192) dL_law_1192 (by show _ < 26; decide) rfl ?_
                      have e8 : cmF BF0 BF bc i = 0 := if_neg (fun q => c1183 q.2.2)
                      have es : (sumN (cmF BF0 BF bc) (i + 1)) = (sumN (cmF BF0 BF bc) i) + 0 := by
                        show (sumN (cmF BF0 BF bc) i) + cmF BF0 BF bc i = _
                        rw [e8]
                      refine v_iinc (pc := 1194) (v := nI (i + 1)) dL_law_1194 rfl (nI_1 _) (by show _ < 26; decide) rfl ?_
                      refine v_goto (pc := 1197) (tgt := 894) dL_law_1197 (by decide) ?_
                      refine v_room (ck' := ck + 12 * m) (sk' := sk + 72 * m) (by omega) (by omega) ?_
                      have k9 := ih (i + 1) (by omega)
                      rw [es] at k9
                      refine v_sub ?_ k9
                      exact ⟨rfl, rfl, rfl, rfl, rfl, rfl, rfl, rfl, rfl, rfl, rfl, rfl, rfl, rfl, rfl, trivial⟩
                    · refine v_iconst (pc := 1186) (v := 1) dL_law_1186 rfl ?_
                      refine v_goto (pc := 1187) (tgt := 1191) dL_law_1187 (by decide) ?_
                      refine v_iadd (pc := 1191) dL_law_1191 ?_
                      refine v_istore (pc := 1192) dL_law_1192 (by show _ < 26; decide) rfl ?_
                      have e8 : cmF BF0 BF bc i = 1 := if_pos ⟨hi, c1021, c1183⟩
                      have es : (sumN (cmF BF0 BF bc) (i + 1)) = (sumN (cmF BF0 BF bc) i) + 1 := by
                        show (sumN (cmF BF0 BF bc) i) + cmF BF0 BF bc i = _
                        rw [e8]
                      refine v_iinc (pc := 1194) (v := nI (i + 1)) dL_law_1194 rfl (nI_1 _) (by show _ < 26; decide) rfl ?_
                      refine v_goto (pc := 1197) (tgt := 894) dL_law_1197 (by decide) ?_
                      refine v_room (ck' := ck + 12 * m) (sk' := sk + 72 * m) (by omega) (by omega) ?_
                      have k9 := ih (i + 1) (by omega)
                      rw [es] at k9
                      refine v_sub ?_ k9
                      exact ⟨rfl, rfl, rfl, rfl, rfl, rfl, rfl, rfl, rfl, rfl, rfl, rfl, rfl, rfl, rfl, trivial⟩
                  · refine v_aload_nR (pc := 1164) dL_law_1164 rfl rfl ?_
                    refine v_iload (pc := 1165) dL_law_1165 rfl ?_
                    refine v_iconst (pc := 1167) (v := 4) dL_law_1167 rfl ?_
                    refine v_callV2 (pc := 1168) (c7_bag hps hsc hbc (b9 := i) (q := 4) hi (by decide)) cm_X5_bag q357 q358 q359 (ci := 5) rfl rfl (orcO 0 rfl) [0, 1, 2, 3, 4, 5, 6, 7, 8, 9, 10, 11, 12, 13, 14, 15, 16, 17] (by rfl) (by decide) (fun _ _ h => h) (by omega) (by omega) (by decide) (Nat.le_of_ble_eq_true rfl) dL_law_1168 (fun v1168 M1168 hQ1168 => ?_)
                    obtain ⟨rfl, rfl⟩ := hQ1168
                    try dsimp only [wb, tlS_0, tlS_1, tlS_2, tlS_3, tlS_4, tlS_5, tlS_6, tlS_7, tlS_8, tlC_0, tlC_1, tlC_2, tlC_3, LawM, LakeM, WaysM, WorldM, SimM, List.set_cons_succ, List.set_cons_zero, List.append_nil, List.nil_append, List.cons_append, Option.toList, Nat.sub_zero]
                    refine v_iload (pc := 1171) dL_law_1171 rfl ?_
                    refine v_icmp_eq (pc := 1173) (tgt := 1178) dL_law_1173 (by decide) (fun c1173 => ?_) (fun c1173 => absurd (h3d c1161) c1173)
                    refine v_iload (pc := 1178) dL_law_1178 rfl ?_
                    refine v_iload (pc := 1180) dL_law_1180 rfl ?_
                    refine v_iconst (pc := 1182) (v := 2) dL_law_1182 rfl ?_
                    refine v_icmp_ne (pc := 1183) (tgt := 1190) dL_law_1183 (by decide) (fun c1183 => ?_) (fun c1183 => ?_)
                    · refine v_iconst (pc := 1190) (v := 0) dL_law_1190 rfl ?_
                      refine v_iadd (pc := 1191) dL_law_1191 ?_
                      refine v_istore (pc := 1192) dL_law_1192 (by show _ < 26; decide) rfl ?_
                      have e8 : cmF BF0 BF bc i = 0 := if_neg (fun q => c1183 q.2.2)
                      have es : (sumN (cmF BF0 BF bc) (i + 1)) = (sumN (cmF BF0 BF bc) i) + 0 := by
                        show (sumN (cmF BF0 BF bc) i) + cmF BF0 BF bc i = _
                        rw [e8]
                      refine v_iinc (pc := 1194) (v := nI (i + 1)) dL_law_1194 rfl (nI_1 _) (by show _ < 26; decide) rfl ?_
                      refine v_goto (pc := 1197) (tgt := 894) dL_law_1197 (by decide) ?_
                      refine v_room (ck' := ck + 12 * m) (sk' := sk + 72 * m) (by omega) (by omega) ?_
                      have k9 := ih (i + 1) (by omega)
                      rw [es] at k9
                      refine v_sub ?_ k9
                      exact ⟨rfl, rfl, rfl, rfl, rfl, rfl, rfl, rfl, rfl, rfl, rfl, rfl, rfl, rfl, rfl, trivial⟩
                    · refine v_iconst (pc := 1186) (v := 1) dL_law_1186 rfl ?_
                      refine v_goto (pc := 1187) (tgt := 1191) dL_law_1187 (by decide) ?_
                      refine v_iadd (pc := 1191) dL_law_1191 ?_
                      refine v_istore (pc := 1192) dL_law_1192 (by show _ < 26; decide) rfl ?_
                      have e8 : cmF BF0 BF bc i = 1 := if_pos ⟨hi, c1021, c1183⟩
                      have es : (sumN (cmF BF0 BF bc) (i + 1)) = (sumN (cmF BF0 BF bc) i) + 1 := by
                        show (sumN (cmF BF0 BF bc) i) + cmF BF0 BF bc i = _
                        rw [e8]
                      refine v_iinc (pc := 1194) (v := nI (i + 1)) dL_law_1194 rfl (nI_1 _) (by show _ < 26; decide) rfl ?_
                      refine v_goto (pc := 1197) (tgt := 894) dL_law_1197 (by decide) ?_
                      refine v_room (ck' := ck + 12 * m) (sk' := sk + 72 * m) (by omega) (by omega) ?_
                      have k9 := ih (i + 1) (by omega)
                      rw [es] at k9
                      refine v_sub ?_ k9
                      exact ⟨rfl, rfl, rfl, rfl, rfl, rfl, rfl, rfl, rfl, rfl, rfl, rfl, rfl, rfl, rfl, trivial⟩
                · refine v_iconst (pc := 1129) (v := 2) dL_law_1129 rfl ?_
                  refine v_goto (pc := 1130) (tgt := 1138) dL_law_1130 (by decide) ?_
                  refine v_icmp_ne (pc := 1138) (tgt := 1176) dL_law_1138 (by decide) (fun c1138 => absurd ((h3b (fun q => absurd (c1061.symm.trans q) (by decide)) ⟨c1061, c1072⟩).1.trans (if_pos c1126)) c1138) (fun c1138 => ?_)
                  refine v_iload (pc := 1141) dL_law_1141 rfl ?_
                  refine v_if_eq (pc := 1143) (tgt := 1158) dL_law_1143 (by decide) (fun c1143 => absurd c1143 (by decide)) (fun c1143 => ?_)
                  refine v_aload_nR (pc := 1146) dL_law_1146 rfl rfl ?_
                  refine v_iload (pc := 1147) dL_law_1147 rfl ?_
                  refine v_iconst (pc := 1149) (v := 3) dL_law_1149 rfl ?_
                  refine v_callV2 (pc := 1150) (c7_bag hps hsc hbc (b9 := i) (q := 3) hi (by decide)) cm_X5_bag q357 q358 q359 (ci := 5) rfl rfl (orcO 0 rfl) [0, 1, 2, 3, 4, 5, 6, 7, 8, 9, 10, 11, 12, 13, 14, 15, 16, 17] (by rfl) (by decide) (fun _ _ h => h) (by omega) (by omega) (by decide) (Nat.le_of_ble_eq_true rfl) dL_law_1150 (fun v1150 M1150 hQ1150 => ?_)
                  obtain ⟨rfl, rfl⟩ := hQ1150
                  try dsimp only [wb, tlS_0, tlS_1, tlS_2, tlS_3, tlS_4, tlS_5, tlS_6, tlS_7, tlS_8, tlC_0, tlC_1, tlC_2, tlC_3, LawM, LakeM, WaysM, WorldM, SimM, List.set_cons_succ, List.set_cons_zero, List.append_nil, List.nil_append, List.cons_append, Option.toList, Nat.sub_zero]
                  refine v_iload (pc := 1153) dL_law_1153 rfl ?_
                  refine v_icmp_ne (pc := 1155) (tgt := 1176) dL_law_1155 (by decide) (fun c1155 => absurd (h3b (fun q => absurd (c1061.symm.trans q) (by decide)) ⟨c1061, c1072⟩).2 c1155) (fun c1155 => ?_)
                  refine v_iload (pc := 1158) dL_law_1158 rfl ?_
                  refine v_iconst (pc := 1160) (v := 2) dL_law_1160 rfl ?_
                  refine v_icmp_ne (pc := 1161) (tgt := 1178) dL_law_1161 (by decide) (fun c1161 => ?_) (fun c1161 => ?_)
                  · refine v_iload (pc := 1178) dL_law_1178 rfl ?_
                    refine v_iload (pc := 1180) dL_law_1180 rfl ?_
                    refine v_iconst (pc := 1182) (v := 2) dL_law_1182 rfl ?_
                    refine v_icmp_ne (pc := 1183) (tgt := 1190) dL_law_1183 (by decide) (fun c1183 => ?_) (fun c1183 => ?_)
                    · refine v_iconst (pc := 1190) (v := 0) dL_law_1190 rfl ?_
                      refine v_iadd (pc := 1191) dL_law_1191 ?_
                      refine v_istore (pc := 1192) dL_law_1192 (by show _ < 26; decide) rfl ?_
                      have e8 : cmF BF0 BF bc i = 0 := if_neg (fun q => c1183 q.2.2)
                      have es : (sumN (cmF BF0 BF bc) (i + 1)) = (sumN (cmF BF0 BF bc) i) + 0 := by
                        show (sumN (cmF BF0 BF bc) i) + cmF BF0 BF bc i = _
                        rw [e8]
                      refine v_iinc (pc := 1194) (v := nI (i + 1)) dL_law_1194 rfl (nI_1 _) (by show _ < 26; decide) rfl ?_
                      refine v_goto (pc := 1197) (tgt := 894) dL_law_1197 (by decide) ?_
                      refine v_room (ck' := ck + 12 * m) (sk' := sk + 72 * m) (by omega) (by omega) ?_
                      have k9 := ih (i + 1) (by omega)
                      rw [es] at k9
                      refine v_sub ?_ k9
                      exact ⟨rfl, rfl, rfl, rfl, rfl, rfl, rfl, rfl, rfl, rfl, rfl, rfl, rfl, rfl, rfl, trivial⟩
                    · refine v_iconst (pc := 1186) (v := 1) dL_law_1186 rfl ?_
                      refine v_goto (pc := 1187) (tgt := 1191) dL_law_1187 (by decide) ?_
                      refine v_iadd (pc := 1191) dL_law_1191 ?_
                      refine v_istore (pc := 1192) dL_law_1192 (by show _ < 26; decide) rfl ?_
                      have e8 : cmF BF0 BF bc i = 1 := if_pos ⟨hi, c1021, c1183⟩
                      have es : (sumN (cmF BF0 BF bc) (i + 1)) = (sumN (cmF BF0 BF bc) i) + 1 := by
                        show (sumN (cmF BF0 BF bc) i) + cmF BF0 BF bc i = _
                        rw [e8]
                      refine v_iinc (pc := 1194) (v := nI (i + 1)) dL_law_1194 rfl (nI_1 _) (by show _ < 26; decide) rfl ?_
                      refine v_goto (pc := 1197) (tgt := 894) dL_law_1197 (by decide) ?_
                      refine v_room (ck' := ck + 12 * m) (sk' := sk + 72 * m) (by omega) (by omega) ?_
                      have k9 := ih (i + 1) (by omega)
                      rw [es] at k9
                      refine v_sub ?_ k9
                      exact ⟨rfl, rfl, rfl, rfl, rfl, rfl, rfl, rfl, rfl, rfl, rfl, rfl, rfl, rfl, rfl, trivial⟩
                  · refine v_aload_nR (pc := 1164) dL_law_1164 rfl rfl ?_
                    refine v_iload (pc := 1165) dL_law_1165 rfl ?_
                    refine v_iconst (pc := 1167) (v := 4) dL_law_1167 rfl ?_
                    refine v_callV2 (pc := 1168) (c7_bag hps hsc hbc (b9 := i) (q := 4) hi (by decide)) cm_X5_bag q357 q358 q359 (ci := 5) rfl rfl (orcO 0 rfl) [0, 1, 2, 3, 4, 5, 6, 7, 8, 9, 10, 11, 12, 13, 14, 15, 16, 17] (by rfl) (by decide) (fun _ _ h => h) (by omega) (by omega) (by decide) (Nat.le_of_ble_eq_true rfl) dL_law_1168 (fun v1168 M1168 hQ1168 => ?_)
                    obtain ⟨rfl, rfl⟩ := hQ1168
                    try dsimp only [wb, tlS_0, tlS_1, tlS_2, tlS_3, tlS_4, tlS_5, tlS_6, tlS_7, tlS_8, tlC_0, tlC_1, tlC_2, tlC_3, LawM, LakeM, WaysM, WorldM, SimM, List.set_cons_succ, List.set_cons_zero, List.append_nil, List.nil_append, List.cons_append, Option.toList, Nat.sub_zero]
                    refine v_iload (pc := 1171) dL_law_1171 rfl ?_
                    refine v_icmp_eq (pc := 1173) (tgt := 1178) dL_law_1173 (by decide) (fun c1173 => ?_) (fun c1173 => absurd (h3d c1161) c1173)
                    refine v_iload (pc := 1178) dL_law_1178 rfl ?_
                    refine v_iload (pc := 1180) dL_law_1180 rfl ?_
                    refine v_iconst (pc := 1182) (v := 2) dL_law_1182 rfl ?_
                    refine v_icmp_ne (pc := 1183) (tgt := 1190) dL_law_1183 (by decide) (fun c1183 => ?_) (fun c1183 => ?_)
                    · refine v_iconst (pc := 1190) (v := 0) dL_law_1190 rfl ?_
                      refine v_iadd (pc := 1191) dL_law_1191 ?_
                      refine v_istore (pc := 1192) dL_law_1192 (by show _ < 26; decide) rfl ?_
                      have e8 : cmF BF0 BF bc i = 0 := if_neg (fun q => c1183 q.2.2)
                      have es : (sumN (cmF BF0 BF bc) (i + 1)) = (sumN (cmF BF0 BF bc) i) + 0 := by
                        show (sumN (cmF BF0 BF bc) i) + cmF BF0 BF bc i = _
                        rw [e8]
                      refine v_iinc (pc := 1194) (v := nI (i + 1)) dL_law_1194 rfl (nI_1 _) (by show _ < 26; decide) rfl ?_
                      refine v_goto (pc := 1197) (tgt := 894) dL_law_1197 (by decide) ?_
                      refine v_room (ck' := ck + 12 * m) (sk' := sk + 72 * m) (by omega) (by omega) ?_
                      have k9 := ih (i + 1) (by omega)
                      rw [es] at k9
                      refine v_sub ?_ k9
                      exact ⟨rfl, rfl, rfl, rfl, rfl, rfl, rfl, rfl, rfl, rfl, rfl, rfl, rfl, rfl, rfl, trivial⟩
                    · refine v_iconst (pc := 1186) (v := 1) dL_law_1186 rfl ?_
                      refine v_goto (pc := 1187) (tgt := 1191) dL_law_1187 (by decide) ?_
                      refine v_iadd (pc := 1191) dL_law_1191 ?_
                      refine v_istore (pc := 1192) dL_law_1192 (by show _ < 26; decide) rfl ?_
                      have e8 : cmF BF0 BF bc i = 1 := if_pos ⟨hi, c1021, c1183⟩
                      have es : (sumN (cmF BF0 BF bc) (i + 1)) = (sumN (cmF BF0 BF bc) i) + 1 := by
                        show (sumN (cmF BF0 BF bc) i) + cmF BF0 BF bc i = _
                        rw [e8]
                      refine v_iinc (pc := 1194) (v := nI (i + 1)) dL_law_1194 rfl (nI_1 _) (by show _ < 26; decide) rfl ?_
                      refine v_goto (pc := 1197) (tgt := 894) dL_law_1197 (by decide) ?_
                      refine v_room (ck' := ck + 12 * m) (sk' := sk + 72 * m) (by omega) (by omega) ?_
                      have k9 := ih (i + 1) (by omega)
                      rw [es] at k9
                      refine v_sub ?_ k9
                      exact ⟨rfl, rfl, rfl, rfl, rfl, rfl, rfl, rfl, rfl, rfl, rfl, rfl, rfl, rfl, rfl, trivial⟩
              · refine v_iconst (pc := 1108) (v := 3) dL_law_1108 rfl ?_
                refine v_goto (pc := 1109) (tgt := 1138) dL_law_1109 (by decide) ?_
                refine v_icmp_ne (pc := 1138) (tgt := 1176) dL_law_1138 (by decide) (fun c1138 => absurd (h3a c1105) c1138) (fun c1138 => ?_)
                refine v_iload (pc := 1141) dL_law_1141 rfl ?_
                refine v_if_eq (pc := 1143) (tgt := 1158) dL_law_1143 (by decide) (fun c1143 => absurd c1143 (by decide)) (fun c1143 => ?_)
                refine v_aload_nR (pc := 1146) dL_law_1146 rfl rfl ?_
                refine v_iload (pc := 1147) dL_law_1147 rfl ?_
                refine v_iconst (pc := 1149) (v := 3) dL_law_1149 rfl ?_
                refine v_callV2 (pc := 1150) (c7_bag hps hsc hbc (b9 := i) (q := 3) hi (by decide)) cm_X5_bag q357 q358 q359 (ci := 5) rfl rfl (orcO 0 rfl) [0, 1, 2, 3, 4, 5, 6, 7, 8, 9, 10, 11, 12, 13, 14, 15, 16, 17] (by rfl) (by decide) (fun _ _ h => h) (by omega) (by omega) (by decide) (Nat.le_of_ble_eq_true rfl) dL_law_1150 (fun v1150 M1150 hQ1150 => ?_)
                obtain ⟨rfl, rfl⟩ := hQ1150
                try dsimp only [wb, tlS_0, tlS_1, tlS_2, tlS_3, tlS_4, tlS_5, tlS_6, tlS_7, tlS_8, tlC_0, tlC_1, tlC_2, tlC_3, LawM, LakeM, WaysM, WorldM, SimM, List.set_cons_succ, List.set_cons_zero, List.append_nil, List.nil_append, List.cons_append, Option.toList, Nat.sub_zero]
                refine v_iload (pc := 1153) dL_law_1153 rfl ?_
                refine v_icmp_ne (pc := 1155) (tgt := 1176) dL_law_1155 (by decide) (fun c1155 => absurd (h3b (fun q => absurd (c1061.symm.trans q) (by decide)) ⟨c1061, c1072⟩).2 c1155) (fun c1155 => ?_)
                refine v_iload (pc := 1158) dL_law_1158 rfl ?_
                refine v_iconst (pc := 1160) (v := 2) dL_law_1160 rfl ?_
                refine v_icmp_ne (pc := 1161) (tgt := 1178) dL_law_1161 (by decide) (fun c1161 => ?_) (fun c1161 => ?_)
                · refine v_iload (pc := 1178) dL_law_1178 rfl ?_
                  refine v_iload (pc := 1180) dL_law_1180 rfl ?_
                  refine v_iconst (pc := 1182) (v := 2) dL_law_1182 rfl ?_
                  refine v_icmp_ne (pc := 1183) (tgt := 1190) dL_law_1183 (by decide) (fun c1183 => ?_) (fun c1183 => ?_)
                  · refine v_iconst (pc := 1190) (v := 0) dL_law_1190 rfl ?_
                    refine v_iadd (pc := 1191) dL_law_1191 ?_
                    refine v_istore (pc := 1192) dL_law_1192 (by show _ < 26; decide) rfl ?_
                    have e8 : cmF BF0 BF bc i = 0 := if_neg (fun q => c1183 q.2.2)
                    have es : (sumN (cmF BF0 BF bc) (i + 1)) = (sumN (cmF BF0 BF bc) i) + 0 := by
                      show (sumN (cmF BF0 BF bc) i) + cmF BF0 BF bc i = _
                      rw [e8]
                    refine v_iinc (pc := 1194) (v := nI (i + 1)) dL_law_1194 rfl (nI_1 _) (by show _ < 26; decide) rfl ?_
                    refine v_goto (pc := 1197) (tgt := 894) dL_law_1197 (by decide) ?_
                    refine v_room (ck' := ck + 12 * m) (sk' := sk + 72 * m) (by omega) (by omega) ?_
                    have k9 := ih (i + 1) (by omega)
                    rw [es] at k9
                    refine v_sub ?_ k9
                    exact ⟨rfl, rfl, rfl, rfl, rfl, rfl, rfl, rfl, rfl, rfl, rfl, rfl, rfl, rfl, rfl, trivial⟩
                  · refine v_iconst (pc := 1186) (v := 1) dL_law_1186 rfl ?_
                    refine v_goto (pc := 1187) (tgt := 1191) dL_law_1187 (by decide) ?_
                    refine v_iadd (pc := 1191) dL_law_1191 ?_
                    refine v_istore (pc := 1192) dL_law_1192 (by show _ < 26; decide) rfl ?_
                    have e8 : cmF BF0 BF bc i = 1 := if_pos ⟨hi, c1021, c1183⟩
                    have es : (sumN (cmF BF0 BF bc) (i + 1)) = (sumN (cmF BF0 BF bc) i) + 1 := by
                      show (sumN (cmF BF0 BF bc) i) + cmF BF0 BF bc i = _
                      rw [e8]
                    refine v_iinc (pc := 1194) (v := nI (i + 1)) dL_law_1194 rfl (nI_1 _) (by show _ < 26; decide) rfl ?_
                    refine v_goto (pc := 1197) (tgt := 894) dL_law_1197 (by decide) ?_
                    refine v_room (ck' := ck + 12 * m) (sk' := sk + 72 * m) (by omega) (by omega) ?_
                    have k9 := ih (i + 1) (by omega)
                    rw [es] at k9
                    refine v_sub ?_ k9
                    exact ⟨rfl, rfl, rfl, rfl, rfl, rfl, rfl, rfl, rfl, rfl, rfl, rfl, rfl, rfl, rfl, trivial⟩
                · refine v_aload_nR (pc := 1164) dL_law_1164 rfl rfl ?_
                  refine v_iload (pc := 1165) dL_law_1165 rfl ?_
                  refine v_iconst (pc := 1167) (v := 4) dL_law_1167 rfl ?_
                  refine v_callV2 (pc := 1168) (c7_bag hps hsc hbc (b9 := i) (q := 4) hi (by decide)) cm_X5_bag q357 q358 q359 (ci := 5) rfl rfl (orcO 0 rfl) [0, 1, 2, 3, 4, 5, 6, 7, 8, 9, 10, 11, 12, 13, 14, 15, 16, 17] (by rfl) (by decide) (fun _ _ h => h) (by omega) (by omega) (by decide) (Nat.le_of_ble_eq_true rfl) dL_law_1168 (fun v1168 M1168 hQ1168 => ?_)
                  obtain ⟨rfl, rfl⟩ := hQ1168
                  try dsimp only [wb, tlS_0, tlS_1, tlS_2, tlS_3, tlS_4, tlS_5, tlS_6, tlS_7, tlS_8, tlC_0, tlC_1, tlC_2, tlC_3, LawM, LakeM, WaysM, WorldM, SimM, List.set_cons_succ, List.set_cons_zero, List.append_nil, List.nil_append, List.cons_append, Option.toList, Nat.sub_zero]
                  refine v_iload (pc := 1171) dL_law_1171 rfl ?_
                  refine v_icmp_eq (pc := 1173) (tgt := 1178) dL_law_1173 (by decide) (fun c1173 => ?_) (fun c1173 => absurd (h3d c1161) c1173)
                  refine v_iload (pc := 1178) dL_law_1178 rfl ?_
                  refine v_iload (pc := 1180) dL_law_1180 rfl ?_
                  refine v_iconst (pc := 1182) (v := 2) dL_law_1182 rfl ?_
                  refine v_icmp_ne (pc := 1183) (tgt := 1190) dL_law_1183 (by decide) (fun c1183 => ?_) (fun c1183 => ?_)
                  · refine v_iconst (pc := 1190) (v := 0) dL_law_1190 rfl ?_
                    refine v_iadd (pc := 1191) dL_law_1191 ?_
                    refine v_istore (pc := 1192) dL_law_1192 (by show _ < 26; decide) rfl ?_
                    have e8 : cmF BF0 BF bc i = 0 := if_neg (fun q => c1183 q.2.2)
                    have es : (sumN (cmF BF0 BF bc) (i + 1)) = (sumN (cmF BF0 BF bc) i) + 0 := by
                      show (sumN (cmF BF0 BF bc) i) + cmF BF0 BF bc i = _
                      rw [e8]
                    refine v_iinc (pc := 1194) (v := nI (i + 1)) dL_law_1194 rfl (nI_1 _) (by show _ < 26; decide) rfl ?_
                    refine v_goto (pc := 1197) (tgt := 894) dL_law_1197 (by decide) ?_
                    refine v_room (ck' := ck + 12 * m) (sk' := sk + 72 * m) (by omega) (by omega) ?_
                    have k9 := ih (i + 1) (by omega)
                    rw [es] at k9
                    refine v_sub ?_ k9
                    exact ⟨rfl, rfl, rfl, rfl, rfl, rfl, rfl, rfl, rfl, rfl, rfl, rfl, rfl, rfl, rfl, trivial⟩
                  · refine v_iconst (pc := 1186) (v := 1) dL_law_1186 rfl ?_
                    refine v_goto (pc := 1187) (tgt := 1191) dL_law_1187 (by decide) ?_
                    refine v_iadd (pc := 1191) dL_law_1191 ?_
                    refine v_istore (pc := 1192) dL_law_1192 (by show _ < 26; decide) rfl ?_
                    have e8 : cmF BF0 BF bc i = 1 := if_pos ⟨hi, c1021, c1183⟩
                    have es : (sumN (cmF BF0 BF bc) (i + 1)) = (sumN (cmF BF0 BF bc) i) + 1 := by
                      show (sumN (cmF BF0 BF bc) i) + cmF BF0 BF bc i = _
                      rw [e8]
                    refine v_iinc (pc := 1194) (v := nI (i + 1)) dL_law_1194 rfl (nI_1 _) (by show _ < 26; decide) rfl ?_
                    refine v_goto (pc := 1197) (tgt := 894) dL_law_1197 (by decide) ?_
                    refine v_room (ck' := ck + 12 * m) (sk' := sk + 72 * m) (by omega) (by omega) ?_
                    have k9 := ih (i + 1) (by omega)
                    rw [es] at k9
                    refine v_sub ?_ k9
                    exact ⟨rfl, rfl, rfl, rfl, rfl, rfl, rfl, rfl, rfl, rfl, rfl, rfl, rfl, rfl, rfl, trivial⟩
        · refine v_iload (pc := 1024) dL_law_1024 rfl ?_
          refine v_aloadR (pc := 1026) dL_law_1026 rfl ?_
          refine v_iload (pc := 1028) dL_law_1028 rfl ?_
          refine v_aaldS (pc := 1030) 52 (k := i) (by decide) rfl (by omega) (by omega) dL_law_1030 ?_
          refine v_iconst (pc := 1031) (v := 2) dL_law_1031 rfl ?_
          refine v_ialdGN (pc := 1032) 53 (j := 2) rfl (by omega) (by decide) (by decide) dL_law_1032 ?_
          try dsimp only [wb, tlS_0, tlS_1, tlS_2, tlS_3, tlS_4, tlS_5, tlS_6, tlS_7, tlS_8, tlC_0, tlC_1, tlC_2, tlC_3, LawM, LakeM, WaysM, WorldM, SimM, List.set_cons_succ, List.set_cons_zero, List.append_nil, List.nil_append, List.cons_append, Option.toList, Nat.sub_zero]
          refine v_icmp_ne (pc := 1033) (tgt := 1048) dL_law_1033 (by decide) (fun c1033 => absurd (g5 c1021).1 c1033) (fun c1033 => ?_)
          refine v_aload_nR (pc := 1036) dL_law_1036 rfl rfl ?_
          refine v_iload (pc := 1037) dL_law_1037 rfl ?_
          refine v_iconst (pc := 1039) (v := 3) dL_law_1039 rfl ?_
          refine v_callV2 (pc := 1040) (c7_bag hps hsc hbc (b9 := i) (q := 3) hi (by decide)) cm_X5_bag q357 q358 q359 (ci := 5) rfl rfl (orcO 0 rfl) [0, 1, 2, 3, 4, 5, 6, 7, 8, 9, 10, 11, 12, 13, 14, 15, 16, 17] (by rfl) (by decide) (fun _ _ h => h) (by omega) (by omega) (by decide) (Nat.le_of_ble_eq_true rfl) dL_law_1040 (fun v1040 M1040 hQ1040 => ?_)
          obtain ⟨rfl, rfl⟩ := hQ1040
          try dsimp only [wb, tlS_0, tlS_1, tlS_2, tlS_3, tlS_4, tlS_5, tlS_6, tlS_7, tlS_8, tlC_0, tlC_1, tlC_2, tlC_3, LawM, LakeM, WaysM, WorldM, SimM, List.set_cons_succ, List.set_cons_zero, List.append_nil, List.nil_append, List.cons_append, Option.toList, Nat.sub_zero]
          refine v_iload (pc := 1043) dL_law_1043 rfl ?_
          refine v_icmp_eq (pc := 1045) (tgt := 1194) dL_law_1045 (by decide) (fun c1045 => ?_) (fun c1045 => absurd (g5 c1021).2 c1045)
          have e8 : cmF BF0 BF bc i = 0 := if_neg (fun q => c1021 q.2.1)
          have es : (sumN (cmF BF0 BF bc) (i + 1)) = (sumN (cmF BF0 BF bc) i) := by
            show (sumN (cmF BF0 BF bc) i) + cmF BF0 BF bc i = _
            rw [e8, Int32.add_zero]
          refine v_iinc (pc := 1194) (v := nI (i + 1)) dL_law_1194 rfl (nI_1 _) (by show _ < 26; decide) rfl ?_
          refine v_goto (pc := 1197) (tgt := 894) dL_law_1197 (by decide) ?_
          refine v_room (ck' := ck + 12 * m) (sk' := sk + 72 * m) (by omega) (by omega) ?_
          have k9 := ih (i + 1) (by omega)
          rw [es] at k9
          refine v_sub ?_ k9
          exact ⟨rfl, rfl, rfl, rfl, rfl, rfl, rfl, rfl, rfl, rfl, rfl, rfl, rfl, rfl, rfl, trivial⟩
