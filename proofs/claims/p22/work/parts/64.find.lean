/-! the law's own model: its search, walked -/
theorem wy_far {H : Nat → Int32} {k : Nat} (h : 0 ≤ (H k).toInt ∧ (H k).toInt ≤ 9999) : (if H k < 9999 then H k else -1) = (if far9 H k = 1000000 then -1 else far9 H k) := by
  have e9 : (9999 : Int32).toInt = 9999 := by decide
  unfold far9
  by_cases h1 : H k < 9999
  · rw [if_pos h1]
    have h2 : ¬ H k = 9999 := fun q => by
      rw [q] at h1
      exact absurd h1 (by decide)
    rw [if_neg h2, if_neg]
    intro q
    rw [q] at h1
    exact absurd h1 (by decide)
  · have h2 : H k = 9999 := by
      rw [i_lt, e9] at h1
      exact Int32.toInt_inj.mp (by rw [e9]; omega)
    rw [if_neg h1, if_pos h2, if_pos rfl]
set_option maxRecDepth 100000 in
set_option maxHeartbeats 4000000 in
theorem lp_X6_f0 {G : Cx} {v xs bs : Nat → Nat} {hh : Nat} {T N S C O PC : Nat → Int32} {ps sc bc : Nat} {SF : Nat → Nat → Int32} {MX : Nat → Int32} {BF : Nat → Nat → Int32} {H D : Nat → Int32} (hps : ps ≤ 8) (hsc : sc ≤ 5) (hbc : bc ≤ 40) {sz : Nat} {Z : ZT} {g : Nat} {x r t : Int32} (hg : g < 160) (K : V G Y_X6_find Z 2 0 0 45 [some (.ref (v 0)), some (.int (nI g)), some (.int x), some (.int r), some (.int t), some (.int (nI 160)), none] [] (SimM v xs bs hh T N S C O PC ps sc bc SF MX BF (fa_fill (fun c => if c = g then (0 : Int32) else 9999) H 160) (fa_fill (fun _ => (0 : Int32)) D 160))) : ∀ (m i : Nat), m + i = 160 → V G Y_X6_find Z 2 0 0 3 [some (.ref (v 0)), some (.int (nI g)), some (.int x), some (.int r), some (.int t), some (.int (nI i)), none] [] (SimM v xs bs hh T N S C O PC ps sc bc SF MX BF (fa_fill (fun c => if c = g then (0 : Int32) else 9999) H i) (fa_fill (fun _ => (0 : Int32)) D i)) := by
  intro m
  induction m with
  | zero =>
    intro i hi
    obtain rfl : i = 160 := by omega
    refine v_iload (pc := 3) dX6_find_3 rfl ?_
    refine v_sipush (pc := 5) (v := 160) dX6_find_5 rfl ?_
    refine v_icmp_ge (pc := 8) (tgt := 45) dX6_find_8 (by decide) (fun c8 => ?_) (fun c8 => absurd (nI_le (a := 160) (b := 160) (Nat.le_refl _) (by decide)) c8)
    have c8 : 160 ≤ 160 := (nI_leI (a := 160) (b := 160) (by omega) (by omega)).mp c8
    exact K
  | succ m ih =>
    intro i hi
    refine v_iload (pc := 3) dX6_find_3 rfl ?_
    refine v_sipush (pc := 5) (v := 160) dX6_find_5 rfl ?_
    refine v_icmp_ge (pc := 8) (tgt := 45) dX6_find_8 (by decide) (fun c8 => absurd c8 (nI_ge (a := i) (b := 160) (by omega) (by decide))) (fun c8 => ?_)
    have c8 : ¬ 160 ≤ i := fun h => c8 ((nI_leI (a := 160) (b := i) (by omega) (by omega)).mpr h)
    refine v_aload_nR (pc := 11) dX6_find_11 rfl rfl ?_
    refine v_get (pc := 12) 9 0 fg_X6_40 rfl rfl dX6_find_12 ?_
    refine v_iload (pc := 15) dX6_find_15 rfl ?_
    refine v_iload (pc := 17) dX6_find_17 rfl ?_
    refine v_iload_n (pc := 19) dX6_find_19 rfl rfl ?_
    refine v_icmp_ne (pc := 20) (tgt := 27) dX6_find_20 (by decide) (fun c20 => ?_) (fun c20 => ?_)
    · have c20 : ¬ i = g := fun h => c20 ((nI_eq (a := i) (b := g) (by omega) (by omega)).mpr h)
      refine v_sipush (pc := 27) (v := 9999) dX6_find_27 rfl ?_
      refine v_iastN (pc := 30) 9 (k := i) rfl (by omega) (by omega) dX6_find_30 ?_
      try dsimp only [wb, SimM, List.set_cons_succ, List.set_cons_zero, List.append_nil, List.nil_append, List.cons_append, Option.toList, Nat.sub_zero]
      rw [fill_up (f := (fun c => if c = g then (0 : Int32) else 9999)) (if_neg c20)]
      refine v_aload_nR (pc := 31) dX6_find_31 rfl rfl ?_
      refine v_get (pc := 32) 10 0 fg_X6_43 rfl rfl dX6_find_32 ?_
      refine v_iload (pc := 35) dX6_find_35 rfl ?_
      refine v_iconst (pc := 37) (v := 0) dX6_find_37 rfl ?_
      refine v_zastN (pc := 38) 10 (k := i) rfl (by omega) (by omega) rfl dX6_find_38 ?_
      try dsimp only [wb, SimM, List.set_cons_succ, List.set_cons_zero, List.append_nil, List.nil_append, List.cons_append, Option.toList, Nat.sub_zero]
      rw [fill_up (f := fun _ => (0 : Int32)) rfl]
      refine v_iinc (pc := 39) (v := nI (i + 1)) dX6_find_39 rfl (nI_1 _) (by decide) rfl ?_
      refine v_goto (pc := 42) (tgt := 3) dX6_find_42 (by decide) ?_
      exact ih (i + 1) (by omega)
    · have c20 : i = g := (nI_eq (a := i) (b := g) (by omega) (by omega)).mp c20
      refine v_iconst (pc := 23) (v := 0) dX6_find_23 rfl ?_
      refine v_goto (pc := 24) (tgt := 30) dX6_find_24 (by decide) ?_
      refine v_iastN (pc := 30) 9 (k := i) rfl (by omega) (by omega) dX6_find_30 ?_
      try dsimp only [wb, SimM, List.set_cons_succ, List.set_cons_zero, List.append_nil, List.nil_append, List.cons_append, Option.toList, Nat.sub_zero]
      rw [fill_up (f := (fun c => if c = g then (0 : Int32) else 9999)) (if_pos c20)]
      refine v_aload_nR (pc := 31) dX6_find_31 rfl rfl ?_
      refine v_get (pc := 32) 10 0 fg_X6_43 rfl rfl dX6_find_32 ?_
      refine v_iload (pc := 35) dX6_find_35 rfl ?_
      refine v_iconst (pc := 37) (v := 0) dX6_find_37 rfl ?_
      refine v_zastN (pc := 38) 10 (k := i) rfl (by omega) (by omega) rfl dX6_find_38 ?_
      try dsimp only [wb, SimM, List.set_cons_succ, List.set_cons_zero, List.append_nil, List.nil_append, List.cons_append, Option.toList, Nat.sub_zero]
      rw [fill_up (f := fun _ => (0 : Int32)) rfl]
      refine v_iinc (pc := 39) (v := nI (i + 1)) dX6_find_39 rfl (nI_1 _) (by decide) rfl ?_
      refine v_goto (pc := 42) (tgt := 3) dX6_find_42 (by decide) ?_
      exact ih (i + 1) (by omega)
set_option maxRecDepth 100000 in
set_option maxHeartbeats 4000000 in
theorem lp_X6_best {G : Cx} {v xs bs : Nat → Nat} {hh : Nat} {T N S C O PC : Nat → Int32} {ps sc bc : Nat} {SF : Nat → Nat → Int32} {MX : Nat → Int32} {BF : Nat → Nat → Int32} {H D : Nat → Int32} (hps : ps ≤ 8) (hsc : sc ≤ 5) (hbc : bc ≤ 40) {sz : Nat} {Z : ZT} {g : Nat} {x r t : Int32} (K : ∀ b, bst H D 160 b → V G Y_X6_find Z 2 0 0 114 [some (.ref (v 0)), some (.int (nI g)), some (.int x), some (.int r), some (.int t), some (.int b), none] [] (SimM v xs bs hh T N S C O PC ps sc bc SF MX BF H D)) : ∀ (m i : Nat), m + i = 160 → ∀ b, bst H D i b → V G Y_X6_find Z 2 0 0 51 [some (.ref (v 0)), some (.int (nI g)), some (.int x), some (.int r), some (.int t), some (.int b), some (.int (nI i))] [] (SimM v xs bs hh T N S C O PC ps sc bc SF MX BF H D) := by
  intro m
  induction m with
  | zero =>
    intro i hi
    obtain rfl : i = 160 := by omega
    intro b hb
    refine v_iload (pc := 51) dX6_find_51 rfl ?_
    refine v_sipush (pc := 53) (v := 160) dX6_find_53 rfl ?_
    refine v_icmp_ge (pc := 56) (tgt := 114) dX6_find_56 (by decide) (fun c56 => ?_) (fun c56 => absurd (nI_le (a := 160) (b := 160) (Nat.le_refl _) (by decide)) c56)
    have c56 : 160 ≤ 160 := (nI_leI (a := 160) (b := 160) (by omega) (by omega)).mp c56
    refine v_sub ?_ (K b hb)
    exact ⟨rfl, rfl, rfl, rfl, rfl, rfl, trivial⟩
  | succ m ih =>
    intro i hi
    intro b hb
    refine v_iload (pc := 51) dX6_find_51 rfl ?_
    refine v_sipush (pc := 53) (v := 160) dX6_find_53 rfl ?_
    refine v_icmp_ge (pc := 56) (tgt := 114) dX6_find_56 (by decide) (fun c56 => absurd c56 (nI_ge (a := i) (b := 160) (by omega) (by decide))) (fun c56 => ?_)
    have c56 : ¬ 160 ≤ i := fun h => c56 ((nI_leI (a := 160) (b := i) (by omega) (by omega)).mpr h)
    refine v_aload_nR (pc := 59) dX6_find_59 rfl rfl ?_
    refine v_get (pc := 60) 10 0 fg_X6_43 rfl rfl dX6_find_60 ?_
    refine v_iload (pc := 63) dX6_find_63 rfl ?_
    refine v_zaldN (pc := 65) 10 (k := i) rfl (by omega) (by omega) dX6_find_65 ?_
    refine v_if_ne (pc := 66) (tgt := 108) dX6_find_66 (by decide) (fun c66 => ?_) (fun c66 => ?_)
    · refine v_iinc (pc := 108) (v := nI (i + 1)) dX6_find_108 rfl (nI_1 _) (by decide) rfl ?_
      refine v_goto (pc := 111) (tgt := 51) dX6_find_111 (by decide) ?_
      exact ih (i + 1) (by omega) _ (hb.skip (Or.inl c66))
    · refine v_aload_nR (pc := 69) dX6_find_69 rfl rfl ?_
      refine v_get (pc := 70) 9 0 fg_X6_40 rfl rfl dX6_find_70 ?_
      refine v_iload (pc := 73) dX6_find_73 rfl ?_
      refine v_ialdN (pc := 75) 9 (k := i) rfl (by omega) (by omega) dX6_find_75 ?_
      refine v_sipush (pc := 76) (v := 9999) dX6_find_76 rfl ?_
      refine v_icmp_ge (pc := 79) (tgt := 108) dX6_find_79 (by decide) (fun c79 => ?_) (fun c79 => ?_)
      · refine v_iinc (pc := 108) (v := nI (i + 1)) dX6_find_108 rfl (nI_1 _) (by decide) rfl ?_
        refine v_goto (pc := 111) (tgt := 51) dX6_find_111 (by decide) ?_
        exact ih (i + 1) (by omega) _ (hb.skip (Or.inr (Int32.not_lt.mpr c79)))
      · refine v_iload (pc := 82) dX6_find_82 rfl ?_
        refine v_if_lt (pc := 84) (tgt := 104) dX6_find_84 (by decide) (fun c84 => ?_) (fun c84 => ?_)
        · refine v_iload (pc := 104) dX6_find_104 rfl ?_
          refine v_istore (pc := 106) dX6_find_106 (by decide) rfl ?_
          refine v_iinc (pc := 108) (v := nI (i + 1)) dX6_find_108 rfl (nI_1 _) (by decide) rfl ?_
          refine v_goto (pc := 111) (tgt := 51) dX6_find_111 (by decide) ?_
          exact ih (i + 1) (by omega) _ (hb.first (by omega) c84 c66 (Int32.not_le.mp c79))
        · obtain ⟨kb, rfl, hkb⟩ := hb.pos c84
          refine v_aload_nR (pc := 87) dX6_find_87 rfl rfl ?_
          refine v_get (pc := 88) 9 0 fg_X6_40 rfl rfl dX6_find_88 ?_
          refine v_iload (pc := 91) dX6_find_91 rfl ?_
          refine v_ialdN (pc := 93) 9 (k := i) rfl (by omega) (by omega) dX6_find_93 ?_
          refine v_aload_nR (pc := 94) dX6_find_94 rfl rfl ?_
          refine v_get (pc := 95) 9 0 fg_X6_40 rfl rfl dX6_find_95 ?_
          refine v_iload (pc := 98) dX6_find_98 rfl ?_
          refine v_ialdN (pc := 100) 9 (k := kb) rfl (by have := hkb.1; omega) (by omega) dX6_find_100 ?_
          refine v_icmp_ge (pc := 101) (tgt := 108) dX6_find_101 (by decide) (fun c101 => ?_) (fun c101 => ?_)
          · refine v_iinc (pc := 108) (v := nI (i + 1)) dX6_find_108 rfl (nI_1 _) (by decide) rfl ?_
            refine v_goto (pc := 111) (tgt := 51) dX6_find_111 (by decide) ?_
            exact ih (i + 1) (by omega) _ (bst.worse hkb c101)
          · refine v_iload (pc := 104) dX6_find_104 rfl ?_
            refine v_istore (pc := 106) dX6_find_106 (by decide) rfl ?_
            refine v_iinc (pc := 108) (v := nI (i + 1)) dX6_find_108 rfl (nI_1 _) (by decide) rfl ?_
            refine v_goto (pc := 111) (tgt := 51) dX6_find_111 (by decide) ?_
            exact ih (i + 1) (by omega) _ (bst.better hkb c66 (Int32.not_le.mp c79) c101)
set_option maxRecDepth 100000 in
set_option maxHeartbeats 4000000 in
theorem lp_X6_r0 {G : Cx} {v xs bs : Nat → Nat} {hh : Nat} {T N S C O PC : Nat → Int32} {ps sc bc : Nat} {SF : Nat → Nat → Int32} {MX : Nat → Int32} {BF : Nat → Nat → Int32} {H D : Nat → Int32} (hps : ps ≤ 8) (hsc : sc ≤ 5) (hbc : bc ≤ 40) {Z : ZT} {g : Nat} {x r t : Int32} {k : Nat} {mo : Int32} (hk : k < 160) (K : V G Y_X6_find Z 2 0 0 193 [some (.ref (v 0)), some (.int (nI g)), some (.int x), some (.int r), some (.int t), some (.int (nI k)), some (.int mo)] [] (SimM v xs bs hh T N S C O PC ps sc bc SF MX BF (rlx H (nbr k 0) mo) D)) : V G Y_X6_find Z 2 0 0 161 [some (.ref (v 0)), some (.int (nI g)), some (.int x), some (.int r), some (.int t), some (.int (nI k)), some (.int mo)] [] (SimM v xs bs hh T N S C O PC ps sc bc SF MX BF H D) := by
  refine v_iload (pc := 161) dX6_find_161 rfl ?_
  refine v_bipush (pc := 163) (v := 16) dX6_find_163 rfl ?_
  refine v_icmp_lt (pc := 165) (tgt := 193) dX6_find_165 (by decide) (fun c165 => ?_) (fun c165 => ?_)
  · have c165 : k < 16 := (nI_ltI (a := k) (b := 16) (by omega) (by omega)).mp c165
    have e : nbr k 0 = none := if_pos (show k < 16 by omega)
    rw [e] at K
    exact K
  · have c165 : ¬ k < 16 := fun h => c165 ((nI_ltI (a := k) (b := 16) (by omega) (by omega)).mpr h)
    refine v_aload_nR (pc := 168) dX6_find_168 rfl rfl ?_
    refine v_get (pc := 169) 9 0 fg_X6_40 rfl rfl dX6_find_169 ?_
    refine v_iload (pc := 172) dX6_find_172 rfl ?_
    refine v_bipush (pc := 174) (v := 16) dX6_find_174 rfl ?_
    refine v_isub (pc := 176) dX6_find_176 ?_
    rw [show nI k - 16 = nI (k - 16) from pk_sub (b := 16) (by omega)]
    refine v_aload_nR (pc := 177) dX6_find_177 rfl rfl ?_
    refine v_get (pc := 178) 9 0 fg_X6_40 rfl rfl dX6_find_178 ?_
    refine v_iload (pc := 181) dX6_find_181 rfl ?_
    refine v_bipush (pc := 183) (v := 16) dX6_find_183 rfl ?_
    refine v_isub (pc := 185) dX6_find_185 ?_
    rw [show nI k - 16 = nI (k - 16) from pk_sub (b := 16) (by omega)]
    refine v_ialdN (pc := 186) 9 (k := (k - 16)) rfl (by omega) (by omega) dX6_find_186 ?_
    refine v_iload (pc := 187) dX6_find_187 rfl ?_
    refine v_mmin (pc := 189) q592 q403 q15 q404 (by decide) (Nat.le_of_ble_eq_true rfl) dX6_find_189 ?_
    refine v_iastN (pc := 192) 9 (k := (k - 16)) rfl (by omega) (by omega) dX6_find_192 ?_
    try dsimp only [wb, SimM, List.set_cons_succ, List.set_cons_zero, List.append_nil, List.nil_append, List.cons_append, Option.toList, Nat.sub_zero]
    have e : nbr k 0 = some (k - 16) := if_neg (show ¬ k < 16 by omega)
    rw [e] at K
    exact K
set_option maxRecDepth 100000 in
set_option maxHeartbeats 4000000 in
theorem lp_X6_r3 {G : Cx} {v xs bs : Nat → Nat} {hh : Nat} {T N S C O PC : Nat → Int32} {ps sc bc : Nat} {SF : Nat → Nat → Int32} {MX : Nat → Int32} {BF : Nat → Nat → Int32} {H D : Nat → Int32} (hps : ps ≤ 8) (hsc : sc ≤ 5) (hbc : bc ≤ 40) {Z : ZT} {g : Nat} {x r t : Int32} {k : Nat} {mo : Int32} (hk : k < 160) (K : V G Y_X6_find Z 2 0 0 226 [some (.ref (v 0)), some (.int (nI g)), some (.int x), some (.int r), some (.int t), some (.int (nI k)), some (.int mo)] [] (SimM v xs bs hh T N S C O PC ps sc bc SF MX BF (rlx H (nbr k 3) mo) D)) : V G Y_X6_find Z 2 0 0 193 [some (.ref (v 0)), some (.int (nI g)), some (.int x), some (.int r), some (.int t), some (.int (nI k)), some (.int mo)] [] (SimM v xs bs hh T N S C O PC ps sc bc SF MX BF H D) := by
  refine v_iload (pc := 193) dX6_find_193 rfl ?_
  refine v_sipush (pc := 195) (v := 144) dX6_find_195 rfl ?_
  refine v_icmp_ge (pc := 198) (tgt := 226) dX6_find_198 (by decide) (fun c198 => ?_) (fun c198 => ?_)
  · have c198 : 144 ≤ k := (nI_leI (a := 144) (b := k) (by omega) (by omega)).mp c198
    have e : nbr k 3 = none := if_neg (show ¬ k + 16 < 160 by omega)
    rw [e] at K
    exact K
  · have c198 : ¬ 144 ≤ k := fun h => c198 ((nI_leI (a := 144) (b := k) (by omega) (by omega)).mpr h)
    refine v_aload_nR (pc := 201) dX6_find_201 rfl rfl ?_
    refine v_get (pc := 202) 9 0 fg_X6_40 rfl rfl dX6_find_202 ?_
    refine v_iload (pc := 205) dX6_find_205 rfl ?_
    refine v_bipush (pc := 207) (v := 16) dX6_find_207 rfl ?_
    refine v_iadd (pc := 209) dX6_find_209 ?_
    rw [show nI k + 16 = nI (k + 16) from nI_add k 16]
    refine v_aload_nR (pc := 210) dX6_find_210 rfl rfl ?_
    refine v_get (pc := 211) 9 0 fg_X6_40 rfl rfl dX6_find_211 ?_
    refine v_iload (pc := 214) dX6_find_214 rfl ?_
    refine v_bipush (pc := 216) (v := 16) dX6_find_216 rfl ?_
    refine v_iadd (pc := 218) dX6_find_218 ?_
    rw [show nI k + 16 = nI (k + 16) from nI_add k 16]
    refine v_ialdN (pc := 219) 9 (k := (k + 16)) rfl (by omega) (by omega) dX6_find_219 ?_
    refine v_iload (pc := 220) dX6_find_220 rfl ?_
    refine v_mmin (pc := 222) q592 q403 q15 q404 (by decide) (Nat.le_of_ble_eq_true rfl) dX6_find_222 ?_
    refine v_iastN (pc := 225) 9 (k := (k + 16)) rfl (by omega) (by omega) dX6_find_225 ?_
    try dsimp only [wb, SimM, List.set_cons_succ, List.set_cons_zero, List.append_nil, List.nil_append, List.cons_append, Option.toList, Nat.sub_zero]
    have e : nbr k 3 = some (k + 16) := if_pos (show k + 16 < 160 by omega)
    rw [e] at K
    exact K
set_option maxRecDepth 100000 in
set_option maxHeartbeats 4000000 in
theorem lp_X6_r1 {G : Cx} {v xs bs : Nat → Nat} {hh : Nat} {T N S C O PC : Nat → Int32} {ps sc bc : Nat} {SF : Nat → Nat → Int32} {MX : Nat → Int32} {BF : Nat → Nat → Int32} {H D : Nat → Int32} (hps : ps ≤ 8) (hsc : sc ≤ 5) (hbc : bc ≤ 40) {Z : ZT} {g : Nat} {x r t : Int32} {k : Nat} {mo : Int32} (hk : k < 160) (K : V G Y_X6_find Z 2 0 0 257 [some (.ref (v 0)), some (.int (nI g)), some (.int x), some (.int r), some (.int t), some (.int (nI k)), some (.int mo)] [] (SimM v xs bs hh T N S C O PC ps sc bc SF MX BF (rlx H (nbr k 1) mo) D)) : V G Y_X6_find Z 2 0 0 226 [some (.ref (v 0)), some (.int (nI g)), some (.int x), some (.int r), some (.int t), some (.int (nI k)), some (.int mo)] [] (SimM v xs bs hh T N S C O PC ps sc bc SF MX BF H D) := by
  refine v_iload (pc := 226) dX6_find_226 rfl ?_
  refine v_bipush (pc := 228) (v := 16) dX6_find_228 rfl ?_
  refine v_irem (pc := 230) dX6_find_230 (by decide) ?_
  rw [show nI k - nI k / 16 * 16 = nI (k % 16) from pk_rem (d := 16) (by omega) (by decide) (by decide)]
  refine v_if_le (pc := 231) (tgt := 257) dX6_find_231 (by decide) (fun c231 => ?_) (fun c231 => ?_)
  · have c231 : (k % 16) ≤ 0 := (nI_leI (a := (k % 16)) (b := 0) (by omega) (by omega)).mp c231
    have e : nbr k 1 = none := if_pos (show k % 16 = 0 by omega)
    rw [e] at K
    exact K
  · have c231 : ¬ (k % 16) ≤ 0 := fun h => c231 ((nI_leI (a := (k % 16)) (b := 0) (by omega) (by omega)).mpr h)
    refine v_aload_nR (pc := 234) dX6_find_234 rfl rfl ?_
    refine v_get (pc := 235) 9 0 fg_X6_40 rfl rfl dX6_find_235 ?_
    refine v_iload (pc := 238) dX6_find_238 rfl ?_
    refine v_iconst (pc := 240) (v := 1) dX6_find_240 rfl ?_
    refine v_isub (pc := 241) dX6_find_241 ?_
    rw [show nI k - 1 = nI (k - 1) from pk_sub (b := 1) (by omega)]
    refine v_aload_nR (pc := 242) dX6_find_242 rfl rfl ?_
    refine v_get (pc := 243) 9 0 fg_X6_40 rfl rfl dX6_find_243 ?_
    refine v_iload (pc := 246) dX6_find_246 rfl ?_
    refine v_iconst (pc := 248) (v := 1) dX6_find_248 rfl ?_
    refine v_isub (pc := 249) dX6_find_249 ?_
    rw [show nI k - 1 = nI (k - 1) from pk_sub (b := 1) (by omega)]
    refine v_ialdN (pc := 250) 9 (k := (k - 1)) rfl (by omega) (by omega) dX6_find_250 ?_
    refine v_iload (pc := 251) dX6_find_251 rfl ?_
    refine v_mmin (pc := 253) q592 q403 q15 q404 (by decide) (Nat.le_of_ble_eq_true rfl) dX6_find_253 ?_
    refine v_iastN (pc := 256) 9 (k := (k - 1)) rfl (by omega) (by omega) dX6_find_256 ?_
    try dsimp only [wb, SimM, List.set_cons_succ, List.set_cons_zero, List.append_nil, List.nil_append, List.cons_append, Option.toList, Nat.sub_zero]
    have e : nbr k 1 = some (k - 1) := if_neg (show ¬ k % 16 = 0 by omega)
    rw [e] at K
    exact K
set_option maxRecDepth 100000 in
set_option maxHeartbeats 4000000 in
theorem lp_X6_r2 {G : Cx} {v xs bs : Nat → Nat} {hh : Nat} {T N S C O PC : Nat → Int32} {ps sc bc : Nat} {SF : Nat → Nat → Int32} {MX : Nat → Int32} {BF : Nat → Nat → Int32} {H D : Nat → Int32} (hps : ps ≤ 8) (hsc : sc ≤ 5) (hbc : bc ≤ 40) {Z : ZT} {g : Nat} {x r t : Int32} {k : Nat} {mo : Int32} (hk : k < 160) (K : V G Y_X6_find Z 2 0 0 45 [some (.ref (v 0)), some (.int (nI g)), some (.int x), some (.int r), some (.int t), some (.int (nI k)), some (.int mo)] [] (SimM v xs bs hh T N S C O PC ps sc bc SF MX BF (rlx H (nbr k 2) mo) D)) : V G Y_X6_find Z 2 0 0 257 [some (.ref (v 0)), some (.int (nI g)), some (.int x), some (.int r), some (.int t), some (.int (nI k)), some (.int mo)] [] (SimM v xs bs hh T N S C O PC ps sc bc SF MX BF H D) := by
  refine v_iload (pc := 257) dX6_find_257 rfl ?_
  refine v_bipush (pc := 259) (v := 16) dX6_find_259 rfl ?_
  refine v_irem (pc := 261) dX6_find_261 (by decide) ?_
  rw [show nI k - nI k / 16 * 16 = nI (k % 16) from pk_rem (d := 16) (by omega) (by decide) (by decide)]
  refine v_bipush (pc := 262) (v := 15) dX6_find_262 rfl ?_
  refine v_icmp_ge (pc := 264) (tgt := 290) dX6_find_264 (by decide) (fun c264 => ?_) (fun c264 => ?_)
  · have c264 : 15 ≤ (k % 16) := (nI_leI (a := 15) (b := (k % 16)) (by omega) (by omega)).mp c264
    refine v_goto (pc := 290) (tgt := 45) dX6_find_290 (by decide) ?_
    have e : nbr k 2 = none := if_pos (show k % 16 = 15 by omega)
    rw [e] at K
    exact K
  · have c264 : ¬ 15 ≤ (k % 16) := fun h => c264 ((nI_leI (a := 15) (b := (k % 16)) (by omega) (by omega)).mpr h)
    refine v_aload_nR (pc := 267) dX6_find_267 rfl rfl ?_
    refine v_get (pc := 268) 9 0 fg_X6_40 rfl rfl dX6_find_268 ?_
    refine v_iload (pc := 271) dX6_find_271 rfl ?_
    refine v_iconst (pc := 273) (v := 1) dX6_find_273 rfl ?_
    refine v_iadd (pc := 274) dX6_find_274 ?_
    rw [show nI k + 1 = nI (k + 1) from nI_add k 1]
    refine v_aload_nR (pc := 275) dX6_find_275 rfl rfl ?_
    refine v_get (pc := 276) 9 0 fg_X6_40 rfl rfl dX6_find_276 ?_
    refine v_iload (pc := 279) dX6_find_279 rfl ?_
    refine v_iconst (pc := 281) (v := 1) dX6_find_281 rfl ?_
    refine v_iadd (pc := 282) dX6_find_282 ?_
    rw [show nI k + 1 = nI (k + 1) from nI_add k 1]
    refine v_ialdN (pc := 283) 9 (k := (k + 1)) rfl (by omega) (by omega) dX6_find_283 ?_
    refine v_iload (pc := 284) dX6_find_284 rfl ?_
    refine v_mmin (pc := 286) q592 q403 q15 q404 (by decide) (Nat.le_of_ble_eq_true rfl) dX6_find_286 ?_
    refine v_iastN (pc := 289) 9 (k := (k + 1)) rfl (by omega) (by omega) dX6_find_289 ?_
    try dsimp only [wb, SimM, List.set_cons_succ, List.set_cons_zero, List.append_nil, List.nil_append, List.cons_append, Option.toList, Nat.sub_zero]
    refine v_goto (pc := 290) (tgt := 45) dX6_find_290 (by decide) ?_
    have e : nbr k 2 = some (k + 1) := if_neg (show ¬ k % 16 = 15 by omega)
    rw [e] at K
    exact K
set_option maxRecDepth 100000 in
set_option maxHeartbeats 4000000 in
theorem lp_X6_dj {G : Cx} {v xs bs : Nat → Nat} {hh : Nat} {T N S C O PC : Nat → Int32} {ps sc bc : Nat} {SF : Nat → Nat → Int32} {MX : Nat → Int32} {BF : Nat → Nat → Int32} (hps : ps ≤ 8) (hsc : sc ≤ 5) (hbc : bc ≤ 40) {Z : ZT} {g : Nat} {x r t : Int32} {cst : Nat → Nat} (hg : g < 160) (hr : 1 ≤ r.toInt ∧ r.toInt ≤ 6) (hP : ∀ j, j < 160 → mpc N x r t j = nI (cst j) ∧ 1 ≤ cst j ∧ cst j ≤ 43) (K : ∀ H D : Nat → Int32, FDs (fun c => hoB T C c (8 + x / 12)) cst g (far9 H) → (∀ c, c < 160 → 0 ≤ (H c).toInt ∧ (H c).toInt ≤ 9999) → V G Y_X6_find Z 2 0 0 119 [some (.ref (v 0)), some (.int (nI g)), some (.int x), some (.int r), some (.int t), none, none] [] (SimM v xs bs hh T N S C O PC ps sc bc SF MX BF H D)) : ∀ (m : Nat) (H D : Nat → Int32), cD D + m = 161 → DI (fun c => hoB T C c (8 + x / 12)) cst g H D → V G Y_X6_find Z 2 0 0 45 [some (.ref (v 0)), some (.int (nI g)), some (.int x), some (.int r), some (.int t), none, none] [] (SimM v xs bs hh T N S C O PC ps sc bc SF MX BF H D) := by
  intro m
  induction m with
  | zero =>
    intro H D h1 hI
    have h2 : cD D ≤ 160 := fb_ct_le _ 160
    omega
  | succ m ih =>
    intro H D h1 hI
    refine v_iconst (pc := 45) (v := -1) dX6_find_45 rfl ?_
    refine v_istore (pc := 46) dX6_find_46 (by decide) rfl ?_
    refine v_iconst (pc := 48) (v := 0) dX6_find_48 rfl ?_
    refine v_istore (pc := 49) dX6_find_49 (by decide) rfl ?_
    refine lp_X6_best (sz := 0) hps hsc hbc (fun b hb => ?_) 160 0 (by omega) (-1) bst_0
    refine v_iload (pc := 114) dX6_find_114 rfl ?_
    refine v_if_ge (pc := 116) (tgt := 120) dX6_find_116 (by decide) (fun c116 => ?_) (fun c116 => ?_)
    · obtain ⟨kb, rfl, hk, h0, h9, hm⟩ := hb.pos (Int32.not_lt.mpr c116)
      refine v_aload_nR (pc := 120) dX6_find_120 rfl rfl ?_
      refine v_get (pc := 121) 10 0 fg_X6_43 rfl rfl dX6_find_121 ?_
      refine v_iload (pc := 124) dX6_find_124 rfl ?_
      refine v_iconst (pc := 126) (v := 1) dX6_find_126 rfl ?_
      refine v_zastN (pc := 127) 10 (k := kb) rfl (by omega) (by omega) rfl dX6_find_127 ?_
      try dsimp only [wb, SimM, List.set_cons_succ, List.set_cons_zero, List.append_nil, List.nil_append, List.cons_append, Option.toList, Nat.sub_zero]
      refine v_aload_nR (pc := 128) dX6_find_128 rfl rfl ?_
      refine v_iload (pc := 129) dX6_find_129 rfl ?_
      refine v_iload_n (pc := 131) dX6_find_131 rfl rfl ?_
      refine v_callV2 (pc := 132) (c_X6_bears hps hsc hbc (by omega)) cm_X6_bears q598 q599 q600 (ci := 6) rfl rfl (orcO 0 rfl) [0, 1, 2, 3, 4, 5, 6, 7, 8, 9, 10, 11, 12] (by rfl) (by decide) (fun _ _ h => h) (by decide) (by decide) (by decide) (Nat.le_of_ble_eq_true rfl) dX6_find_132 (fun v132 M132 hQ132 => ?_)
      obtain ⟨rfl, rfl⟩ := hQ132
      try dsimp only [wb, SimM, List.set_cons_succ, List.set_cons_zero, List.append_nil, List.nil_append, List.cons_append, Option.toList, Nat.sub_zero]
      refine v_if_ne (pc := 135) (tgt := 141) dX6_find_135 (by decide) (fun c135 => ?_) (fun c135 => ?_)
      · have c135 := bI_n.mp c135
        refine v_aload_nR (pc := 141) dX6_find_141 rfl rfl ?_
        refine v_get (pc := 142) 9 0 fg_X6_40 rfl rfl dX6_find_142 ?_
        refine v_iload (pc := 145) dX6_find_145 rfl ?_
        refine v_ialdN (pc := 147) 9 (k := kb) rfl (by omega) (by omega) dX6_find_147 ?_
        refine v_aload_nR (pc := 148) dX6_find_148 rfl rfl ?_
        refine v_iload (pc := 149) dX6_find_149 rfl ?_
        refine v_iload_n (pc := 151) dX6_find_151 rfl rfl ?_
        refine v_iload_n (pc := 152) dX6_find_152 rfl rfl ?_
        refine v_iload (pc := 153) dX6_find_153 rfl ?_
        refine v_callV4 (pc := 155) (c_X6_pace hps hsc hbc (by omega) hr) cm_X6_pace q614 q615 q616 (ci := 6) rfl rfl (orcO 0 rfl) [0, 1, 2, 3, 4, 5, 6, 7, 8, 9, 10, 11, 12] (by rfl) (by decide) (fun _ _ h => h) (by decide) (by decide) (by decide) (Nat.le_of_ble_eq_true rfl) dX6_find_155 (fun v155 M155 hQ155 => ?_)
        obtain ⟨rfl, rfl⟩ := hQ155
        try dsimp only [wb, SimM, List.set_cons_succ, List.set_cons_zero, List.append_nil, List.nil_append, List.cons_append, Option.toList, Nat.sub_zero]
        rw [show N kb + x / (60 * r) + (if 50 ≤ t then 1 else 0) = nI (cst kb) from (hP kb hk).1]
        refine v_iadd (pc := 158) dX6_find_158 ?_
        refine v_istore (pc := 159) dX6_find_159 (by decide) rfl ?_
        refine lp_X6_r0 hps hsc hbc hk (lp_X6_r3 hps hsc hbc hk (lp_X6_r1 hps hsc hbc hk (lp_X6_r2 hps hsc hbc hk ?_)))
        refine v_sub ?_ (ih _ (upd D kb 1) (by rw [cD_up hk h0]; omega) (hI.relax hg (fun j hj => (hP j hj).2) hk h0 h9 hm c135))
        exact ⟨rfl, rfl, rfl, rfl, rfl, trivial⟩
      · have c135 := bI_0.mp c135
        refine v_goto (pc := 138) (tgt := 45) dX6_find_138 (by decide) ?_
        refine v_sub ?_ (ih H (upd D kb 1) (by rw [cD_up hk h0]; omega) (hI.mark hk h0 h9 hm c135))
        exact ⟨rfl, rfl, rfl, rfl, rfl, trivial⟩
    · obtain ⟨-, hn⟩ := hb.neg (Nat.le_refl _) (Int32.not_le.mp c116)
      refine v_sub ?_ (K H D (hI.fin hg hP hn) hI.le)
      exact ⟨rfl, rfl, rfl, rfl, rfl, trivial⟩
set_option maxRecDepth 100000 in
set_option maxHeartbeats 4000000 in
theorem c_X6_find {G : Cx} {v xs bs : Nat → Nat} {hh : Nat} {T N S C O PC : Nat → Int32} {ps sc bc : Nat} {SF : Nat → Nat → Int32} {MX : Nat → Int32} {BF : Nat → Nat → Int32} {H D : Nat → Int32} (hps : ps ≤ 8) (hsc : sc ≤ 5) (hbc : bc ≤ 40) {g : Nat} {x r t : Int32} {cst : Nat → Nat} (hg : g < 160) (hr : 1 ≤ r.toInt ∧ r.toInt ≤ 6) (hP : ∀ j, j < 160 → mpc N x r t j = nI (cst j) ∧ 1 ≤ cst j ∧ cst j ≤ 43) : Mt G Y_X6_find 2 0 0 [.ref (v 0), .int (nI g), .int x, .int r, .int t] (SimM v xs bs hh T N S C O PC ps sc bc SF MX BF H D) (fun v' M' => v' = none ∧ ∃ H' D' : Nat → Int32, FDs (fun c => hoB T C c (8 + x / 12)) cst g (far9 H') ∧ (∀ c, c < 160 → 0 ≤ (H' c).toInt ∧ (H' c).toInt ≤ 9999) ∧ M' = SimM v xs bs hh T N S C O PC ps sc bc SF MX BF H' D') noX := by
  refine Mt.of (L := [some (.ref (v 0)), some (.int (nI g)), some (.int x), some (.int r), some (.int t), none, none]) rfl (by decide) (by simp [lg_sl, Value.category]) ⟨rfl, rfl, rfl, rfl, rfl, trivial⟩ (fun sz => ?_)
  refine v_iconst (pc := 0) (v := 0) dX6_find_0 rfl ?_
  refine v_istore (pc := 1) dX6_find_1 (by decide) rfl ?_
  refine v_cgI 9 (g := fa_fill (fun c => if c = g then (0 : Int32) else 9999) H 0) rfl (fun j _ => (if_neg (Nat.not_lt_zero j)).symm) ?_
  try dsimp only [wb, SimM, List.set_cons_succ, List.set_cons_zero, List.append_nil, List.nil_append, List.cons_append, Option.toList, Nat.sub_zero]
  refine v_cgZ 10 (g := fa_fill (fun _ => (0 : Int32)) D 0) rfl (fun j _ => (if_neg (Nat.not_lt_zero j)).symm) ?_
  try dsimp only [wb, SimM, List.set_cons_succ, List.set_cons_zero, List.append_nil, List.nil_append, List.cons_append, Option.toList, Nat.sub_zero]
  refine lp_X6_f0 (sz := 0) hps hsc hbc hg ?_ 160 0 (by omega)
  refine v_cgI 9 (g := (fun c => if c = g then (0 : Int32) else 9999)) rfl (fun j hj => fa_fill_in hj) ?_
  try dsimp only [wb, SimM, List.set_cons_succ, List.set_cons_zero, List.append_nil, List.nil_append, List.cons_append, Option.toList, Nat.sub_zero]
  refine v_cgZ 10 (g := fun _ => 0) rfl (fun j hj => fa_fill_in hj) ?_
  try dsimp only [wb, SimM, List.set_cons_succ, List.set_cons_zero, List.append_nil, List.nil_append, List.cons_append, Option.toList, Nat.sub_zero]
  refine v_sub (L' := [some (.ref (v 0)), some (.int (nI g)), some (.int x), some (.int r), some (.int t), none, none]) ⟨rfl, rfl, rfl, rfl, rfl, trivial⟩ ?_
  refine lp_X6_dj hps hsc hbc hg hr hP (fun H' D' h1 h2 => ?_) 161 _ _ (by rw [show cD (fun _ => 0) = 0 from fb_ct_zero.mpr (fun k _ => rfl)]) DI_0
  refine v_vret (pc := 119) rfl (Nat.le_of_ble_eq_true rfl) dX6_find_119 ?_
  exact ⟨rfl, H', D', h1, h2, rfl⟩
set_option maxRecDepth 100000 in
set_option maxHeartbeats 4000000 in
theorem c_X6_way {G : Cx} {v xs bs : Nat → Nat} {hh : Nat} {T N S C O PC : Nat → Int32} {ps sc bc : Nat} {SF : Nat → Nat → Int32} {MX : Nat → Int32} {BF : Nat → Nat → Int32} {H D : Nat → Int32} (hps : ps ≤ 8) (hsc : sc ≤ 5) (hbc : bc ≤ 40) {k g : Nat} {x r t : Int32} (hk : k < 160) {cst : Nat → Nat} (hg : g < 160) (hr : 1 ≤ r.toInt ∧ r.toInt ≤ 6) (hP : ∀ j, j < 160 → mpc N x r t j = nI (cst j) ∧ 1 ≤ cst j ∧ cst j ≤ 43) : Mt G Y_X6_way 3 0 0 [.ref (v 0), .int (nI k), .int (nI g), .int x, .int r, .int t] (SimM v xs bs hh T N S C O PC ps sc bc SF MX BF H D) (fun v' M' => ∃ H' D' : Nat → Int32, FDs (fun c => hoB T C c (8 + x / 12)) cst g (far9 H') ∧ (∀ c, c < 160 → 0 ≤ (H' c).toInt ∧ (H' c).toInt ≤ 9999) ∧ v' = some (.int (if far9 H' k = 1000000 then -1 else far9 H' k)) ∧ M' = SimM v xs bs hh T N S C O PC ps sc bc SF MX BF H' D') noX := by
  refine Mt.of (L := [some (.ref (v 0)), some (.int (nI k)), some (.int (nI g)), some (.int x), some (.int r), some (.int t)]) rfl (by decide) (by simp [lg_sl, Value.category]) ⟨rfl, rfl, rfl, rfl, rfl, rfl, trivial⟩ (fun sz => ?_)
  refine v_aload_nR (pc := 0) dX6_way_0 rfl rfl ?_
  refine v_iload_n (pc := 1) dX6_way_1 rfl rfl ?_
  refine v_iload_n (pc := 2) dX6_way_2 rfl rfl ?_
  refine v_iload (pc := 3) dX6_way_3 rfl ?_
  refine v_iload (pc := 5) dX6_way_5 rfl ?_
  refine v_callV4 (pc := 7) (c_X6_find hps hsc hbc hg hr hP) cm_X6_find q610 q611 q612 (ci := 6) rfl rfl (orcO 0 rfl) [0, 1, 2, 3, 4, 5, 6, 7, 8, 9, 10, 11, 12] (by rfl) (by decide) (fun _ _ h => h) (by decide) (by decide) (by decide) (Nat.le_of_ble_eq_true rfl) dX6_way_7 (fun v7 M7 hQ7 => ?_)
  obtain ⟨rfl, H', D', hF, hB, rfl⟩ := hQ7
  try dsimp only [wb, SimM, List.set_cons_succ, List.set_cons_zero, List.append_nil, List.nil_append, List.cons_append, Option.toList, Nat.sub_zero]
  refine v_aload_nR (pc := 10) dX6_way_10 rfl rfl ?_
  refine v_get (pc := 11) 9 0 fg_X6_40 rfl rfl dX6_way_11 ?_
  refine v_iload_n (pc := 14) dX6_way_14 rfl rfl ?_
  refine v_ialdN (pc := 15) 9 (k := k) rfl (by omega) (by omega) dX6_way_15 ?_
  refine v_sipush (pc := 16) (v := 9999) dX6_way_16 rfl ?_
  refine v_icmp_ge (pc := 19) (tgt := 31) dX6_way_19 (by decide) (fun c19 => ?_) (fun c19 => ?_)
  · refine v_iconst (pc := 31) (v := -1) dX6_way_31 rfl ?_
    refine v_iret (pc := 32) rfl rfl (Nat.le_of_ble_eq_true rfl) dX6_way_32 ?_
    exact ⟨H', D', hF, hB, by rw [← wy_far (hB k hk), if_neg (Int32.not_lt.mpr c19)], rfl⟩
  · refine v_aload_nR (pc := 22) dX6_way_22 rfl rfl ?_
    refine v_get (pc := 23) 9 0 fg_X6_40 rfl rfl dX6_way_23 ?_
    refine v_iload_n (pc := 26) dX6_way_26 rfl rfl ?_
    refine v_ialdN (pc := 27) 9 (k := k) rfl (by omega) (by omega) dX6_way_27 ?_
    refine v_goto (pc := 28) (tgt := 32) dX6_way_28 (by decide) ?_
    refine v_iret (pc := 32) rfl rfl (Nat.le_of_ble_eq_true rfl) dX6_way_32 ?_
    exact ⟨H', D', hF, hB, by rw [← wy_far (hB k hk), if_pos (Int32.not_le.mp c19)], rfl⟩
