/-! the law's cells; what it does to both -/
section VSCR
variable {G : Cx} {Y : MI} {Z : ZT} {d ck sk pc : Nat} {L : List (Option Value)} {st : List Value} {M : List ME}
theorem v_slen (hd : decode Y.2.1 pc = .ok (.arraylength, 1)) (kk : V G Y Z d ck sk (pc + 1) L (.int (Int32.ofNat G.2.2.2.2.2.1) :: st) M) : V G Y Z d ck sk pc L (.ref G.2.2.2.1 :: st) M := by
  intro p e2 R s m args below meth c H locs cells slots ls C hl
  have hK := C.1.2.2.2.2.2.2.2.1
  have hb := hK.2.2.2.2.2.2.1
  refine va_slen (A := AM Z.1 Z.2.1) C.1.1 C.1.2.1 hK.2.2.2.2.2.1 (Nat.lt_of_lt_of_le hb (by rw [C.2.1.1]; exact C.2.1.2.1)) (fun q => absurd (C.2.2.2.2.2 _ q) (Nat.not_le.mpr hb)) C.2.2.2.2.1 hd (kk p e2 R s m args below meth c H locs cells slots ls C hl)
theorem v_sld {k : Nat} (hk : k < G.2.2.2.2.2.1) (hn : G.2.2.2.2.2.1 < 2 ^ 31) (hd : decode Y.2.1 pc = .ok (.iaload, 1)) (kk : V G Y Z d ck sk (pc + 1) L (.int (G.2.2.2.2.2.2 k) :: st) M) : V G Y Z d ck sk pc L (.int (nI k) :: .ref G.2.2.2.1 :: st) M := by
  intro p e2 R s m args below meth c H locs cells slots ls C hl
  have hK := C.1.2.2.2.2.2.2.2.1
  have hb := hK.2.2.2.2.2.2.1
  refine va_sld (A := AM Z.1 Z.2.1) C.1.1 C.1.2.1 hK.2.2.2.2.2.1 (Nat.lt_of_lt_of_le hb (by rw [C.2.1.1]; exact C.2.1.2.1)) (fun q => absurd (C.2.2.2.2.2 _ q) (Nat.not_le.mpr hb)) C.2.2.2.2.1 (vp_in_nI hk hn) hd ?_
  rw [nI_clamp (Nat.lt_trans hk hn)]
  exact kk p e2 R s m args below meth c H locs cells slots ls C hl
end VSCR
set_option maxRecDepth 100000 in
set_option maxHeartbeats 4000000 in
theorem c_L_cell {G : Cx} (hL31 : G.2.2.2.2.2.1 < 2 ^ 31) {k : Nat} (hk : k < 2 ^ 31) : Mt G Y_L_cell 0 0 0 [.ref G.2.2.2.1, .int (nI k)] [] (fun v M' => ∃ r : Int32, v = some (.int r) ∧ M' = []) noX := by
  refine Mt.of (L := [some (.ref G.2.2.2.1), some (.int (nI k))]) rfl (by decide) (by simp [lg_sl, Value.category]) ⟨rfl, rfl, trivial⟩ (fun sz => ?_)
  refine v_iload_n (pc := 0) dL_cell_0 rfl rfl ?_
  refine v_aload_nR (pc := 1) dL_cell_1 rfl rfl ?_
  refine v_slen (pc := 2) dL_cell_2 ?_
  refine v_icmp_ge (pc := 3) (tgt := 12) dL_cell_3 (by decide) (fun c3 => ?_) (fun c3 => ?_)
  · refine v_ldc (pc := 12) q625 dL_cell_12 ?_
    refine v_iload_n (pc := 14) dL_cell_14 rfl rfl ?_
    refine v_iconst (pc := 15) (v := 3) dL_cell_15 rfl ?_
    refine v_iadd (pc := 16) dL_cell_16 ?_
    refine v_imul (pc := 17) dL_cell_17 ?_
    refine v_iret (pc := 18) rfl rfl (Nat.le_of_ble_eq_true rfl) dL_cell_18 ?_
    exact ⟨_, rfl, rfl⟩
  · refine v_aload_nR (pc := 6) dL_cell_6 rfl rfl ?_
    refine v_iload_n (pc := 7) dL_cell_7 rfl rfl ?_
    refine v_sld (pc := 8) (k := k) (Nat.lt_of_not_le (fun q => c3 ((nI_leI (a := G.2.2.2.2.2.1) (b := k) hL31 hk).mpr q))) hL31 dL_cell_8 ?_
    refine v_goto (pc := 9) (tgt := 18) dL_cell_9 (by decide) ?_
    refine v_iret (pc := 18) rfl rfl (Nat.le_of_ble_eq_true rfl) dL_cell_18 ?_
    exact ⟨_, rfl, rfl⟩
theorem smX_dp {SF : Nat → Nat → Int32} {MX : Nat → Int32} {i : Nat} {q : Int32} : smX (upS (upS SF i 3 1) i 5 q) MX = smX (dpS SF i q) MX := by
  funext a b
  unfold dpS
  rcases b with _ | _ | _ | _ | _ | _ | _ | b <;> simp [smX, upS]
theorem smX_1 {SF : Nat → Nat → Int32} {MX : Nat → Int32} {i : Nat} {v : Int32} : smX (upS SF i 1 v) MX = smX SF MX := by
  funext a b
  rcases b with _ | _ | _ | _ | _ | _ | _ | b <;> simp [smX, upS]
set_option maxRecDepth 100000 in
set_option maxHeartbeats 4000000 in
theorem lp_L_load {G : Cx} {w : Nat → Nat} {a b f : Nat → Int32} {wa : Int32} {lr : Value} {nd dg : Int32} {T N S C B O : Nat → Int32} {ch : Int32} {PC : Nat → Int32} {ps sc bc hh : Nat} {g0 u0 : Nat} {v xs bs : Nat → Nat} {MX H D : Nat → Int32} (hps : ps ≤ 8) (hsc : sc ≤ 5) (hbc : bc ≤ 40) {sz B0 : Nat} {x9 : Int32} {k q : Nat} (hk : k < sc) {M0 : List ME} (hM0 : M0.length = 31) : ∀ (m i : Nat), m + i = bc → ∀ SF BF : Nat → Nat → Int32, LI N O PC ps sc bc T S C ch SF BF MX B0 → SF k 3 = 0 → V G Y_L_act (ZM G M0 sz (fun v' M' => v' = some (.int 1) ∧ ∃ (a' b' f' : Nat → Int32) (wa' : Int32) (lr' : Value) (nd' dg' : Int32) (N' O' : Nat → Int32) (SF' BF' : Nat → Nat → Int32) (H' D' : Nat → Int32), LI N' O' PC ps sc bc T S C ch SF' BF' MX B0 ∧ M' = eO 5 g0 [.ref (w 0), .ref u0] :: (WorldM w a' b' f' wa' lr' nd' dg' T N' S C B O' ch PC SF' BF' ps sc bc hh ++ SimM v xs bs hh T N' S C O' PC ps sc bc SF' MX BF' H' D')) noX) 8 (m) (6 * m) 161 [some (.ref g0), some (.ref (v 0)), some (.int x9), some (.int (nI k)), some (.ref (xs k)), some (.int (nI q)), some (.int (nI i)), none, none, none] [] (eO 5 g0 [.ref (w 0), .ref u0] :: (WorldM w a b f wa lr nd dg T N S C B O ch PC SF BF ps sc bc hh ++ SimM v xs bs hh T N S C O PC ps sc bc SF MX BF H D)) := by
  intro m
  induction m with
  | zero =>
    intro i hi SF BF hI h3
    have hi2 : i = bc := by omega
    refine v_iload (pc := 161) dL_act_161 rfl ?_
    refine v_aload_nR (pc := 163) dL_act_163 rfl rfl ?_
    refine v_get (pc := 164) 8 18 fg_L_107 rfl rfl dL_act_164 ?_
    refine v_alen (pc := 167) 26 (v := nI bc) rfl (fun _ => rfl) rfl dL_act_167 ?_
    refine v_icmp_ge (pc := 168) (tgt := 246) dL_act_168 (by decide) (fun c168 => ?_) (fun c168 => absurd (nI_le (a := bc) (b := i) (by omega) (by omega)) c168)
    have c168 : bc ≤ i := (nI_leI (a := bc) (b := i) (by omega) (by omega)).mp c168
    refine v_iconst (pc := 246) (v := 1) dL_act_246 rfl ?_
    refine v_iret (pc := 247) rfl rfl (by rw [hM0]; exact Nat.le_of_ble_eq_true rfl) dL_act_247 ?_
    exact ⟨rfl, _, _, _, _, _, _, _, _, _, _, _, _, _, hI, rfl⟩
  | succ m ih =>
    intro i hi SF BF hI h3
    refine v_iload (pc := 161) dL_act_161 rfl ?_
    refine v_aload_nR (pc := 163) dL_act_163 rfl rfl ?_
    refine v_get (pc := 164) 8 18 fg_L_107 rfl rfl dL_act_164 ?_
    refine v_alen (pc := 167) 26 (v := nI bc) rfl (fun _ => rfl) rfl dL_act_167 ?_
    refine v_icmp_ge (pc := 168) (tgt := 246) dL_act_168 (by decide) (fun c168 => absurd c168 (nI_ge (a := i) (b := bc) (by omega) (by omega))) (fun c168 => ?_)
    have c168 : ¬ bc ≤ i := fun h => c168 ((nI_leI (a := bc) (b := i) (by omega) (by omega)).mpr h)
    refine v_aload_nR (pc := 171) dL_act_171 rfl rfl ?_
    refine v_get (pc := 172) 8 18 fg_L_107 rfl rfl dL_act_172 ?_
    refine v_iload (pc := 175) dL_act_175 rfl ?_
    refine v_aaldS (pc := 177) 26 (k := i) (by decide) rfl (by omega) (by omega) dL_act_177 ?_
    refine v_iconst (pc := 178) (v := 2) dL_act_178 rfl ?_
    refine v_ialdGN (pc := 179) 30 (j := 2) rfl (by omega) (by decide) (by decide) dL_act_179 ?_
    refine v_if_ne (pc := 180) (tgt := 240) dL_act_180 (by decide) (fun c180 => ?_) (fun c180 => ?_)
    · refine v_iinc (pc := 240) (v := nI (i + 1)) dL_act_240 rfl (nI_1 _) (by decide) rfl ?_
      refine v_goto (pc := 243) (tgt := 161) dL_act_243 (by decide) ?_
      refine v_room (ck' := m) (sk' := 6 * m) (by omega) (by omega) ?_
      have k9 := ih (i + 1) (by omega) _ _ hI h3
      refine v_sub ?_ k9
      exact ⟨rfl, rfl, rfl, rfl, rfl, rfl, rfl, trivial⟩
    · refine v_aload_nR (pc := 183) dL_act_183 rfl rfl ?_
      refine v_get (pc := 184) 8 18 fg_L_107 rfl rfl dL_act_184 ?_
      refine v_iload (pc := 187) dL_act_187 rfl ?_
      refine v_aaldS (pc := 189) 26 (k := i) (by decide) rfl (by omega) (by omega) dL_act_189 ?_
      refine v_iconst (pc := 190) (v := 3) dL_act_190 rfl ?_
      refine v_ialdGN (pc := 191) 30 (j := 3) rfl (by omega) (by decide) (by decide) dL_act_191 ?_
      refine v_aloadR (pc := 192) dL_act_192 rfl ?_
      refine v_getS (pc := 194) 4 29 fg_L_88 rfl hk (by decide) dL_act_194 ?_
      rw [smX_g4]
      refine v_icmp_eq (pc := 197) (tgt := 203) dL_act_197 (by decide) (fun c197 => ?_) (fun c197 => ?_)
      · refine v_aload_nR (pc := 203) dL_act_203 rfl rfl ?_
        refine v_get (pc := 204) 8 18 fg_L_107 rfl rfl dL_act_204 ?_
        refine v_iload (pc := 207) dL_act_207 rfl ?_
        refine v_aaldS (pc := 209) 26 (k := i) (by decide) rfl (by omega) (by omega) dL_act_209 ?_
        refine v_iconst (pc := 210) (v := 2) dL_act_210 rfl ?_
        refine v_iconst (pc := 211) (v := 1) dL_act_211 rfl ?_
        refine v_iastGN (pc := 212) 30 (j := 2) rfl (by omega) (by decide) (by decide) dL_act_212 ?_
        try dsimp only [wb, LakeM, WaysM, WorldM, SimM, List.set_cons_succ, List.set_cons_zero, List.append_nil, List.nil_append, List.cons_append, Option.toList, Nat.sub_zero]
        refine v_aload_nR (pc := 213) dL_act_213 rfl rfl ?_
        refine v_get (pc := 214) 8 18 fg_L_107 rfl rfl dL_act_214 ?_
        refine v_iload (pc := 217) dL_act_217 rfl ?_
        refine v_aaldS (pc := 219) 26 (k := i) (by decide) rfl (by omega) (by omega) dL_act_219 ?_
        refine v_iconst (pc := 220) (v := 3) dL_act_220 rfl ?_
        refine v_iload_n (pc := 221) dL_act_221 rfl rfl ?_
        refine v_iastGN (pc := 222) 30 (j := 3) rfl (by omega) (by decide) (by decide) dL_act_222 ?_
        try dsimp only [wb, LakeM, WaysM, WorldM, SimM, List.set_cons_succ, List.set_cons_zero, List.append_nil, List.nil_append, List.cons_append, Option.toList, Nat.sub_zero]
        refine v_aload_nR (pc := 223) dL_act_223 rfl rfl ?_
        refine v_iload_n (pc := 224) dL_act_224 rfl rfl ?_
        refine v_iload (pc := 225) dL_act_225 rfl ?_
        refine v_callV2 (pc := 227) (c7_load hps hsc hbc hk (show i < bc by omega) c180 h3 (Eq.symm c197)) cm_X5_load q843 q844 q845 (ci := 5) rfl rfl (orcO 0 rfl) [0, 1, 2, 3, 4, 5, 6, 7, 8, 9, 10, 11, 12, 13, 14, 15, 16, 17] (by rfl) (by decide) (fun _ _ h => h) (by omega) (by omega) (by decide) (Nat.le_of_ble_eq_true rfl) dL_act_227 (fun v227 M227 hQ227 => ?_)
        obtain ⟨rfl, rfl⟩ := hQ227
        try dsimp only [wb, LakeM, WaysM, WorldM, SimM, List.set_cons_succ, List.set_cons_zero, List.append_nil, List.nil_append, List.cons_append, Option.toList, Nat.sub_zero]
        have hI2 := hI.load hk (show i < bc by omega) c180 h3 (Eq.symm c197)
        have hw9 := hI2.1.2.2.2.1.2.2.2.1 k (by omega)
        rw [← smX_1 (SF := SF) (i := k) (v := SF k 1 + BF i 0)]
        refine v_aload_nR (pc := 230) dL_act_230 rfl rfl ?_
        refine v_iload_n (pc := 231) dL_act_231 rfl rfl ?_
        refine v_callV1 (pc := 232) (c_X6_weight hps hsc hbc hk hw9) cm_X6_weight q841 q595 q596 (ci := 6) rfl rfl (orcO 18 rfl) [18, 19, 20, 21, 22, 23, 24, 25, 26, 27, 28, 29, 30] (by rfl) (by decide) (fun _ _ h => h) (by omega) (by omega) (by decide) (Nat.le_of_ble_eq_true rfl) dL_act_232 (fun v232 M232 hQ232 => ?_)
        obtain ⟨rfl, rfl⟩ := hQ232
        try dsimp only [wb, LakeM, WaysM, WorldM, SimM, List.set_cons_succ, List.set_cons_zero, List.append_nil, List.nil_append, List.cons_append, Option.toList, Nat.sub_zero]
        refine v_icmp_eq (pc := 235) (tgt := 240) dL_act_235 (by decide) (fun c235 => ?_) (fun c235 => absurd rfl c235)
        refine v_iinc (pc := 240) (v := nI (i + 1)) dL_act_240 rfl (nI_1 _) (by decide) rfl ?_
        refine v_goto (pc := 243) (tgt := 161) dL_act_243 (by decide) ?_
        refine v_room (ck' := m) (sk' := 6 * m) (by omega) (by omega) ?_
        have k9 := ih (i + 1) (by omega) _ _ hI2 (by rw [upS_n _ _ (by omega)]; exact h3)
        refine v_sub ?_ k9
        exact ⟨rfl, rfl, rfl, rfl, rfl, rfl, rfl, trivial⟩
      · refine v_goto (pc := 200) (tgt := 240) dL_act_200 (by decide) ?_
        refine v_iinc (pc := 240) (v := nI (i + 1)) dL_act_240 rfl (nI_1 _) (by decide) rfl ?_
        refine v_goto (pc := 243) (tgt := 161) dL_act_243 (by decide) ?_
        refine v_room (ck' := m) (sk' := 6 * m) (by omega) (by omega) ?_
        have k9 := ih (i + 1) (by omega) _ _ hI h3
        refine v_sub ?_ k9
        exact ⟨rfl, rfl, rfl, rfl, rfl, rfl, rfl, trivial⟩
theorem cold_rng {r : Nat} (h : r < 19) : -9 ≤ nI r - 9 ∧ nI r - 9 ≤ 9 := by
  have e : (nI r - 9).toInt = (r : Int) - 9 := pk_sub_toInt (a := r) (b := 9) (by omega) (by decide)
  rw [i_le, i_le, e, i_9, i_m9]
  omega
set_option maxRecDepth 100000 in
set_option maxHeartbeats 4000000 in
theorem c_L_act {G : Cx} {w : Nat → Nat} {a b f : Nat → Int32} {wa : Int32} {lr : Value} {nd dg : Int32} {T N S C B O : Nat → Int32} {ch : Int32} {PC : Nat → Int32} {SF BF : Nat → Nat → Int32} {ps sc bc hh : Nat} {g0 u0 : Nat} {v xs bs : Nat → Nat} {MX H D : Nat → Int32} (hps : ps ≤ 8) (hsc : sc ≤ 5) (hbc : bc ≤ 40) {B0 : Nat} {x9 : Int32} (hs1 : 1 ≤ sc) (hp1 : 1 ≤ ps) (hI : LI N O PC ps sc bc T S C ch SF BF MX B0) : Mt G Y_L_act 8 40 240 [.ref g0, .ref (v 0), .int x9] (eO 5 g0 [.ref (w 0), .ref u0] :: (WorldM w a b f wa lr nd dg T N S C B O ch PC SF BF ps sc bc hh ++ SimM v xs bs hh T N S C O PC ps sc bc SF MX BF H D)) (fun v' M' => v' = some (.int 1) ∧ ∃ (a' b' f' : Nat → Int32) (wa' : Int32) (lr' : Value) (nd' dg' : Int32) (N' O' : Nat → Int32) (SF' BF' : Nat → Nat → Int32) (H' D' : Nat → Int32), LI N' O' PC ps sc bc T S C ch SF' BF' MX B0 ∧ M' = eO 5 g0 [.ref (w 0), .ref u0] :: (WorldM w a' b' f' wa' lr' nd' dg' T N' S C B O' ch PC SF' BF' ps sc bc hh ++ SimM v xs bs hh T N' S C O' PC ps sc bc SF' MX BF' H' D')) noX := by
  refine Mt.of (L := [some (.ref g0), some (.ref (v 0)), some (.int x9), none, none, none, none, none, none, none]) rfl (by decide) (by simp [lg_sl, Value.category]) ⟨rfl, rfl, rfl, trivial⟩ (fun sz => ?_)
  refine v_iload_n (pc := 0) dL_act_0 rfl rfl ?_
  refine v_aload_nR (pc := 1) dL_act_1 rfl rfl ?_
  refine v_get (pc := 2) 7 18 fg_L_78 rfl rfl dL_act_2 ?_
  refine v_alen (pc := 5) 25 (v := nI sc) rfl (fun _ => rfl) rfl dL_act_5 ?_
  refine v_callS2 (pc := 6) (c_L_below (n := sc) (by omega) (by omega)) cm_L_below q618 q619 [] (by rfl) (by decide) (fun _ _ h => h) (by omega) (by omega) (by decide) (Nat.le_of_ble_eq_true rfl) dL_act_6 (fun v6 M6 hQ6 => ?_)
  obtain ⟨r6, hr6, rfl, rfl⟩ := hQ6
  try dsimp only [wb, LakeM, WaysM, WorldM, SimM, List.set_cons_succ, List.set_cons_zero, List.append_nil, List.nil_append, List.cons_append, Option.toList, Nat.sub_zero]
  refine v_istore_n (pc := 9) dL_act_9 rfl (by decide) rfl ?_
  refine v_aload_nR (pc := 10) dL_act_10 rfl rfl ?_
  refine v_get (pc := 11) 7 18 fg_L_78 rfl rfl dL_act_11 ?_
  refine v_iload_n (pc := 14) dL_act_14 rfl rfl ?_
  refine v_aaldS (pc := 15) 25 (k := r6) (by decide) rfl (by omega) (by omega) dL_act_15 ?_
  refine v_astoreR (pc := 16) dL_act_16 (by decide) rfl ?_
  refine v_iload_n (pc := 18) dL_act_18 rfl rfl ?_
  refine v_iconst (pc := 19) (v := 3) dL_act_19 rfl ?_
  refine v_ishr (pc := 20) dL_act_20 ?_
  refine v_aload_nR (pc := 21) dL_act_21 rfl rfl ?_
  refine v_get (pc := 22) 6 18 fg_L_58 rfl rfl dL_act_22 ?_
  refine v_alen (pc := 25) 24 (v := nI ps) rfl (fun _ => rfl) rfl dL_act_25 ?_
  refine v_callS2 (pc := 26) (c_L_below (n := ps) (by omega) (by omega)) cm_L_below q618 q619 [] (by rfl) (by decide) (fun _ _ h => h) (by omega) (by omega) (by decide) (Nat.le_of_ble_eq_true rfl) dL_act_26 (fun v26 M26 hQ26 => ?_)
  obtain ⟨r26, hr26, rfl, rfl⟩ := hQ26
  try dsimp only [wb, LakeM, WaysM, WorldM, SimM, List.set_cons_succ, List.set_cons_zero, List.append_nil, List.nil_append, List.cons_append, Option.toList, Nat.sub_zero]
  refine v_istore (pc := 29) dL_act_29 (by decide) rfl ?_
  refine v_iload_n (pc := 31) dL_act_31 rfl rfl ?_
  refine v_bipush (pc := 32) (v := 7) dL_act_32 rfl ?_
  refine v_ishr (pc := 34) dL_act_34 ?_
  refine v_iconst (pc := 35) (v := 5) dL_act_35 rfl ?_
  refine v_callS2 (pc := 36) (c_L_below (n := 5) (by omega) (by omega)) cm_L_below q618 q619 [] (by rfl) (by decide) (fun _ _ h => h) (by omega) (by omega) (by decide) (Nat.le_of_ble_eq_true rfl) dL_act_36 (fun v36 M36 hQ36 => ?_)
  obtain ⟨r36, hr36, rfl, rfl⟩ := hQ36
  try dsimp only [wb, LakeM, WaysM, WorldM, SimM, List.set_cons_succ, List.set_cons_zero, List.append_nil, List.nil_append, List.cons_append, Option.toList, Nat.sub_zero]
  by_cases w39_0 : nI r36 = nI 0
  · refine v_tsIn (pc := 39) (tgt := 68) dL_act_39 (sw_in (n := 3) w39_0 (by decide) (by decide)).1 (sw_in (n := 3) w39_0 (by decide) (by decide)).2.1 (off := 29) (by rw [(sw_in (n := 3) w39_0 (by decide) (by decide)).2.2]; rfl) (by decide) ?_
    refine v_aloadR (pc := 68) dL_act_68 rfl ?_
    refine v_getS (pc := 70) 2 29 fg_L_82 rfl (by omega) (by decide) dL_act_70 ?_
    rw [smX_g2]
    refine v_if_ne (pc := 73) (tgt := 86) dL_act_73 (by decide) (fun c73 => ?_) (fun c73 => ?_)
    · refine v_iconst (pc := 86) (v := 1) dL_act_86 rfl ?_
      refine v_iret (pc := 87) rfl rfl (Nat.le_of_ble_eq_true rfl) dL_act_87 ?_
      exact ⟨rfl, _, _, _, _, _, _, _, _, _, _, _, _, _, hI, rfl⟩
    · refine v_aloadR (pc := 76) dL_act_76 rfl ?_
      refine v_getS (pc := 78) 4 29 fg_L_88 rfl (by omega) (by decide) dL_act_78 ?_
      rw [smX_g4]
      refine v_iload (pc := 81) dL_act_81 rfl ?_
      refine v_icmp_ne (pc := 83) (tgt := 88) dL_act_83 (by decide) (fun c83 => ?_) (fun c83 => ?_)
      · refine v_aloadR (pc := 88) dL_act_88 rfl ?_
        refine v_iconst (pc := 90) (v := 1) dL_act_90 rfl ?_
        refine v_putS (pc := 91) 2 29 fp_L_act_82 rfl (by omega) (by decide) dL_act_91 ?_
        try dsimp only [wb, LakeM, WaysM, WorldM, SimM, List.set_cons_succ, List.set_cons_zero, List.append_nil, List.nil_append, List.cons_append, Option.toList, Nat.sub_zero]
        rw [smX_u2]
        refine v_aloadR (pc := 94) dL_act_94 rfl ?_
        refine v_iload (pc := 96) dL_act_96 rfl ?_
        refine v_putS (pc := 98) 4 29 fp_L_act_88 rfl (by omega) (by decide) dL_act_98 ?_
        try dsimp only [wb, LakeM, WaysM, WorldM, SimM, List.set_cons_succ, List.set_cons_zero, List.append_nil, List.nil_append, List.cons_append, Option.toList, Nat.sub_zero]
        rw [smX_u4]
        rw [smX_dp]
        refine v_aload_nR (pc := 101) dL_act_101 rfl rfl ?_
        refine v_iload_n (pc := 102) dL_act_102 rfl rfl ?_
        refine v_iload (pc := 103) dL_act_103 rfl ?_
        refine v_callV2 (pc := 105) (c7_send hps hsc hbc hr6 hr26 c73 c83 hI.1.2.1 hI.1.2.2.2.1.1) cm_X5_send q826 q827 q828 (ci := 5) rfl rfl (orcO 0 rfl) [0, 1, 2, 3, 4, 5, 6, 7, 8, 9, 10, 11, 12, 13, 14, 15, 16, 17] (by rfl) (by decide) (fun _ _ h => h) (by omega) (by omega) (by decide) (Nat.le_of_ble_eq_true rfl) dL_act_105 (fun v105 M105 hQ105 => ?_)
        obtain ⟨rfl, a1, b1, f1, wa1, lr1, nd1, dg1, rfl⟩ := hQ105
        try dsimp only [wb, LakeM, WaysM, WorldM, SimM, List.set_cons_succ, List.set_cons_zero, List.append_nil, List.nil_append, List.cons_append, Option.toList, Nat.sub_zero]
        have hI2 := hI.send (f := f) hr6 hr26 c73 c83
        have h4E : dpS SF r6 (nI r26) r6 4 = SF r6 4 := by
          unfold dpS
          rw [upS_n _ _ (by omega), upS_n _ _ (by omega), upS_n _ _ (by omega)]
        have h5E : dpS SF r6 (nI r26) r6 5 = nI r26 := by
          unfold dpS
          rw [upS_n _ _ (by omega), upS_s]
        obtain ⟨g9, hg9, hPg⟩ : ∃ g9, g9 < 160 ∧ PC r26 = nI g9 := ⟨_, (cN_of (hI.1.2.1 r26 (by omega))).2, (cN_of (hI.1.2.1 r26 (by omega))).1⟩
        obtain ⟨c9, hc9, hcl⟩ : ∃ c9, cN (SF r6 4) = c9 ∧ SF r6 4 = nI c9 := ⟨_, rfl, (cN_of (hI.1.2.2.2.1.1 r6 hr6).2.1).1⟩
        have hc0 : c9 < 160 := by rw [← hc9]; exact (cN_of (hI.1.2.2.2.1.1 r6 hr6).2.1).2
        rw [hc9]
        rw [hcl] at h4E
        generalize dpS SF r6 (nI r26) = E at hI2 h4E h5E ⊢
        have hW9 := wt_bd hI2.1.2.2.2.1.2.2.2.1 hI2.1.2.2.2.1.2.2.2.2.1 hI2.1.2.2.2.1.1 hsc hr6
        refine v_aload_nR (pc := 108) dL_act_108 rfl rfl ?_
        refine v_aloadR (pc := 109) dL_act_109 rfl ?_
        refine v_getS (pc := 111) 3 29 fg_L_93 rfl (by omega) (by decide) dL_act_111 ?_
        rw [smX_g3]
        rw [h4E]
        refine v_aload_nR (pc := 114) dL_act_114 rfl rfl ?_
        refine v_get (pc := 115) 6 18 fg_L_58 rfl rfl dL_act_115 ?_
        refine v_iload (pc := 118) dL_act_118 rfl ?_
        refine v_ialdN (pc := 120) 24 (k := r26) rfl (by omega) (by omega) dL_act_120 ?_
        rw [hPg]
        refine v_aload_nR (pc := 121) dL_act_121 rfl rfl ?_
        refine v_iload_n (pc := 122) dL_act_122 rfl rfl ?_
        refine v_callV1 (pc := 123) (c_X6_weight hps hsc hbc hr6 (hI2.1.2.2.2.1.2.2.2.1 r6 (by omega))) cm_X6_weight q841 q595 q596 (ci := 6) rfl rfl (orcO 18 rfl) [18, 19, 20, 21, 22, 23, 24, 25, 26, 27, 28, 29, 30] (by rfl) (by decide) (fun _ _ h => h) (by omega) (by omega) (by decide) (Nat.le_of_ble_eq_true rfl) dL_act_123 (fun v123 M123 hQ123 => ?_)
        obtain ⟨rfl, rfl⟩ := hQ123
        try dsimp only [wb, LakeM, WaysM, WorldM, SimM, List.set_cons_succ, List.set_cons_zero, List.append_nil, List.nil_append, List.cons_append, Option.toList, Nat.sub_zero]
        refine v_aloadR (pc := 126) dL_act_126 rfl ?_
        refine v_getS (pc := 128) 0 29 fg_L_98 rfl (by omega) (by decide) dL_act_128 ?_
        rw [smX_g0]
        refine v_aloadR (pc := 131) dL_act_131 rfl ?_
        refine v_getS (pc := 133) 1 29 fg_L_101 rfl (by omega) (by decide) dL_act_133 ?_
        rw [smX_g1]
        refine v_callV5 (pc := 136) (c_X6_way hps hsc hbc hc0 hg9 (hI2.1.2.2.2.1.1 r6 hr6).1 (mpS_ok hI2.1.2.2.1.1 hW9 (hI2.1.2.2.2.1.1 r6 hr6).1)) cm_X6_way q842 q607 q608 (ci := 6) rfl rfl (orcO 18 rfl) [18, 19, 20, 21, 22, 23, 24, 25, 26, 27, 28, 29, 30] (by rfl) (by decide) (fun _ _ h => h) (by omega) (by omega) (by decide) (Nat.le_of_ble_eq_true rfl) dL_act_136 (fun v136 M136 hQ136 => ?_)
        obtain ⟨H9, D9, hF9, -, rfl, rfl⟩ := hQ136
        try dsimp only [wb, LakeM, WaysM, WorldM, SimM, List.set_cons_succ, List.set_cons_zero, List.append_nil, List.nil_append, List.cons_append, Option.toList, Nat.sub_zero]
        have e9 := (hg_eq (h := far9 H9) hI2.1.2.2.1.1 hW9 (hI2.1.2.2.2.1.1 r6 hr6).1 (by rw [h4E, cN_nI (by omega)]; exact hc0) h5E hps hr26 hPg hg9 hF9 f)
        rw [h4E, cN_nI (by omega)] at e9
        refine v_icmp_ne (pc := 139) (tgt := 146) dL_act_139 (by decide) (fun c139 => absurd e9.symm c139) (fun c139 => ?_)
        refine v_iconst (pc := 142) (v := 1) dL_act_142 rfl ?_
        refine v_goto (pc := 143) (tgt := 147) dL_act_143 (by decide) ?_
        refine v_iret (pc := 147) rfl rfl (Nat.le_of_ble_eq_true rfl) dL_act_147 ?_
        exact ⟨rfl, _, _, _, _, _, _, _, _, _, _, _, _, _, hI2, rfl⟩
      · refine v_iconst (pc := 86) (v := 1) dL_act_86 rfl ?_
        refine v_iret (pc := 87) rfl rfl (Nat.le_of_ble_eq_true rfl) dL_act_87 ?_
        exact ⟨rfl, _, _, _, _, _, _, _, _, _, _, _, _, _, hI, rfl⟩
  by_cases w39_1 : nI r36 = nI 1
  · refine v_tsIn (pc := 39) (tgt := 68) dL_act_39 (sw_in (n := 3) w39_1 (by decide) (by decide)).1 (sw_in (n := 3) w39_1 (by decide) (by decide)).2.1 (off := 29) (by rw [(sw_in (n := 3) w39_1 (by decide) (by decide)).2.2]; rfl) (by decide) ?_
    refine v_aloadR (pc := 68) dL_act_68 rfl ?_
    refine v_getS (pc := 70) 2 29 fg_L_82 rfl (by omega) (by decide) dL_act_70 ?_
    rw [smX_g2]
    refine v_if_ne (pc := 73) (tgt := 86) dL_act_73 (by decide) (fun c73 => ?_) (fun c73 => ?_)
    · refine v_iconst (pc := 86) (v := 1) dL_act_86 rfl ?_
      refine v_iret (pc := 87) rfl rfl (Nat.le_of_ble_eq_true rfl) dL_act_87 ?_
      exact ⟨rfl, _, _, _, _, _, _, _, _, _, _, _, _, _, hI, rfl⟩
    · refine v_aloadR (pc := 76) dL_act_76 rfl ?_
      refine v_getS (pc := 78) 4 29 fg_L_88 rfl (by omega) (by decide) dL_act_78 ?_
      rw [smX_g4]
      refine v_iload (pc := 81) dL_act_81 rfl ?_
      refine v_icmp_ne (pc := 83) (tgt := 88) dL_act_83 (by decide) (fun c83 => ?_) (fun c83 => ?_)
      · refine v_aloadR (pc := 88) dL_act_88 rfl ?_
        refine v_iconst (pc := 90) (v := 1) dL_act_90 rfl ?_
        refine v_putS (pc := 91) 2 29 fp_L_act_82 rfl (by omega) (by decide) dL_act_91 ?_
        try dsimp only [wb, LakeM, WaysM, WorldM, SimM, List.set_cons_succ, List.set_cons_zero, List.append_nil, List.nil_append, List.cons_append, Option.toList, Nat.sub_zero]
        rw [smX_u2]
        refine v_aloadR (pc := 94) dL_act_94 rfl ?_
        refine v_iload (pc := 96) dL_act_96 rfl ?_
        refine v_putS (pc := 98) 4 29 fp_L_act_88 rfl (by omega) (by decide) dL_act_98 ?_
        try dsimp only [wb, LakeM, WaysM, WorldM, SimM, List.set_cons_succ, List.set_cons_zero, List.append_nil, List.nil_append, List.cons_append, Option.toList, Nat.sub_zero]
        rw [smX_u4]
        rw [smX_dp]
        refine v_aload_nR (pc := 101) dL_act_101 rfl rfl ?_
        refine v_iload_n (pc := 102) dL_act_102 rfl rfl ?_
        refine v_iload (pc := 103) dL_act_103 rfl ?_
        refine v_callV2 (pc := 105) (c7_send hps hsc hbc hr6 hr26 c73 c83 hI.1.2.1 hI.1.2.2.2.1.1) cm_X5_send q826 q827 q828 (ci := 5) rfl rfl (orcO 0 rfl) [0, 1, 2, 3, 4, 5, 6, 7, 8, 9, 10, 11, 12, 13, 14, 15, 16, 17] (by rfl) (by decide) (fun _ _ h => h) (by omega) (by omega) (by decide) (Nat.le_of_ble_eq_true rfl) dL_act_105 (fun v105 M105 hQ105 => ?_)
        obtain ⟨rfl, a1, b1, f1, wa1, lr1, nd1, dg1, rfl⟩ := hQ105
        try dsimp only [wb, LakeM, WaysM, WorldM, SimM, List.set_cons_succ, List.set_cons_zero, List.append_nil, List.nil_append, List.cons_append, Option.toList, Nat.sub_zero]
        have hI2 := hI.send (f := f) hr6 hr26 c73 c83
        have h4E : dpS SF r6 (nI r26) r6 4 = SF r6 4 := by
          unfold dpS
          rw [upS_n _ _ (by omega), upS_n _ _ (by omega), upS_n _ _ (by omega)]
        have h5E : dpS SF r6 (nI r26) r6 5 = nI r26 := by
          unfold dpS
          rw [upS_n _ _ (by omega), upS_s]
        obtain ⟨g9, hg9, hPg⟩ : ∃ g9, g9 < 160 ∧ PC r26 = nI g9 := ⟨_, (cN_of (hI.1.2.1 r26 (by omega))).2, (cN_of (hI.1.2.1 r26 (by omega))).1⟩
        obtain ⟨c9, hc9, hcl⟩ : ∃ c9, cN (SF r6 4) = c9 ∧ SF r6 4 = nI c9 := ⟨_, rfl, (cN_of (hI.1.2.2.2.1.1 r6 hr6).2.1).1⟩
        have hc0 : c9 < 160 := by rw [← hc9]; exact (cN_of (hI.1.2.2.2.1.1 r6 hr6).2.1).2
        rw [hc9]
        rw [hcl] at h4E
        generalize dpS SF r6 (nI r26) = E at hI2 h4E h5E ⊢
        have hW9 := wt_bd hI2.1.2.2.2.1.2.2.2.1 hI2.1.2.2.2.1.2.2.2.2.1 hI2.1.2.2.2.1.1 hsc hr6
        refine v_aload_nR (pc := 108) dL_act_108 rfl rfl ?_
        refine v_aloadR (pc := 109) dL_act_109 rfl ?_
        refine v_getS (pc := 111) 3 29 fg_L_93 rfl (by omega) (by decide) dL_act_111 ?_
        rw [smX_g3]
        rw [h4E]
        refine v_aload_nR (pc := 114) dL_act_114 rfl rfl ?_
        refine v_get (pc := 115) 6 18 fg_L_58 rfl rfl dL_act_115 ?_
        refine v_iload (pc := 118) dL_act_118 rfl ?_
        refine v_ialdN (pc := 120) 24 (k := r26) rfl (by omega) (by omega) dL_act_120 ?_
        rw [hPg]
        refine v_aload_nR (pc := 121) dL_act_121 rfl rfl ?_
        refine v_iload_n (pc := 122) dL_act_122 rfl rfl ?_
        refine v_callV1 (pc := 123) (c_X6_weight hps hsc hbc hr6 (hI2.1.2.2.2.1.2.2.2.1 r6 (by omega))) cm_X6_weight q841 q595 q596 (ci := 6) rfl rfl (orcO 18 rfl) [18, 19, 20, 21, 22, 23, 24, 25, 26, 27, 28, 29, 30] (by rfl) (by decide) (fun _ _ h => h) (by omega) (by omega) (by decide) (Nat.le_of_ble_eq_true rfl) dL_act_123 (fun v123 M123 hQ123 => ?_)
        obtain ⟨rfl, rfl⟩ := hQ123
        try dsimp only [wb, LakeM, WaysM, WorldM, SimM, List.set_cons_succ, List.set_cons_zero, List.append_nil, List.nil_append, List.cons_append, Option.toList, Nat.sub_zero]
        refine v_aloadR (pc := 126) dL_act_126 rfl ?_
        refine v_getS (pc := 128) 0 29 fg_L_98 rfl (by omega) (by decide) dL_act_128 ?_
        rw [smX_g0]
        refine v_aloadR (pc := 131) dL_act_131 rfl ?_
        refine v_getS (pc := 133) 1 29 fg_L_101 rfl (by omega) (by decide) dL_act_133 ?_
        rw [smX_g1]
        refine v_callV5 (pc := 136) (c_X6_way hps hsc hbc hc0 hg9 (hI2.1.2.2.2.1.1 r6 hr6).1 (mpS_ok hI2.1.2.2.1.1 hW9 (hI2.1.2.2.2.1.1 r6 hr6).1)) cm_X6_way q842 q607 q608 (ci := 6) rfl rfl (orcO 18 rfl) [18, 19, 20, 21, 22, 23, 24, 25, 26, 27, 28, 29, 30] (by rfl) (by decide) (fun _ _ h => h) (by omega) (by omega) (by decide) (Nat.le_of_ble_eq_true rfl) dL_act_136 (fun v136 M136 hQ136 => ?_)
        obtain ⟨H9, D9, hF9, -, rfl, rfl⟩ := hQ136
        try dsimp only [wb, LakeM, WaysM, WorldM, SimM, List.set_cons_succ, List.set_cons_zero, List.append_nil, List.nil_append, List.cons_append, Option.toList, Nat.sub_zero]
        have e9 := (hg_eq (h := far9 H9) hI2.1.2.2.1.1 hW9 (hI2.1.2.2.2.1.1 r6 hr6).1 (by rw [h4E, cN_nI (by omega)]; exact hc0) h5E hps hr26 hPg hg9 hF9 f)
        rw [h4E, cN_nI (by omega)] at e9
        refine v_icmp_ne (pc := 139) (tgt := 146) dL_act_139 (by decide) (fun c139 => absurd e9.symm c139) (fun c139 => ?_)
        refine v_iconst (pc := 142) (v := 1) dL_act_142 rfl ?_
        refine v_goto (pc := 143) (tgt := 147) dL_act_143 (by decide) ?_
        refine v_iret (pc := 147) rfl rfl (Nat.le_of_ble_eq_true rfl) dL_act_147 ?_
        exact ⟨rfl, _, _, _, _, _, _, _, _, _, _, _, _, _, hI2, rfl⟩
      · refine v_iconst (pc := 86) (v := 1) dL_act_86 rfl ?_
        refine v_iret (pc := 87) rfl rfl (Nat.le_of_ble_eq_true rfl) dL_act_87 ?_
        exact ⟨rfl, _, _, _, _, _, _, _, _, _, _, _, _, _, hI, rfl⟩
  by_cases w39_2 : nI r36 = nI 2
  · refine v_tsIn (pc := 39) (tgt := 148) dL_act_39 (sw_in (n := 3) w39_2 (by decide) (by decide)).1 (sw_in (n := 3) w39_2 (by decide) (by decide)).2.1 (off := 109) (by rw [(sw_in (n := 3) w39_2 (by decide) (by decide)).2.2]; rfl) (by decide) ?_
    refine v_aloadR (pc := 148) dL_act_148 rfl ?_
    refine v_getS (pc := 150) 2 29 fg_L_82 rfl (by omega) (by decide) dL_act_150 ?_
    rw [smX_g2]
    refine v_if_eq (pc := 153) (tgt := 158) dL_act_153 (by decide) (fun c153 => ?_) (fun c153 => ?_)
    · refine v_iconst (pc := 158) (v := 0) dL_act_158 rfl ?_
      refine v_istore (pc := 159) dL_act_159 (by decide) rfl ?_
      have k9 := lp_L_load (G := G) (w := w) (a := a) (b := b) (f := f) (wa := wa) (lr := lr) (nd := nd) (dg := dg) (B := B) (hh := hh) (g0 := g0) (u0 := u0) (v := v) (xs := xs) (bs := bs) (H := H) (D := D) (sz := sz) (x9 := x9) (q := r26) (M0 := eO 5 g0 [.ref (w 0), .ref u0] :: (WorldM w a b f wa lr nd dg T N S C B O ch PC SF BF ps sc bc hh ++ SimM v xs bs hh T N S C O PC ps sc bc SF MX BF H D)) hps hsc hbc hr6 rfl bc 0 (by omega) SF BF hI c153
      refine v_room (ck' := bc) (sk' := 6 * bc) (by omega) (by omega) ?_
      refine v_sub ?_ k9
      exact ⟨rfl, rfl, rfl, rfl, rfl, rfl, rfl, trivial⟩
    · refine v_iconst (pc := 156) (v := 1) dL_act_156 rfl ?_
      refine v_iret (pc := 157) rfl rfl (Nat.le_of_ble_eq_true rfl) dL_act_157 ?_
      exact ⟨rfl, _, _, _, _, _, _, _, _, _, _, _, _, _, hI, rfl⟩
  by_cases w39_3 : nI r36 = nI 3
  · refine v_tsIn (pc := 39) (tgt := 248) dL_act_39 (sw_in (n := 3) w39_3 (by decide) (by decide)).1 (sw_in (n := 3) w39_3 (by decide) (by decide)).2.1 (off := 209) (by rw [(sw_in (n := 3) w39_3 (by decide) (by decide)).2.2]; rfl) (by decide) ?_
    refine v_iload_n (pc := 248) dL_act_248 rfl rfl ?_
    refine v_iconst (pc := 249) (v := 2) dL_act_249 rfl ?_
    refine v_ishr (pc := 250) dL_act_250 ?_
    refine v_bipush (pc := 251) (v := 8) dL_act_251 rfl ?_
    refine v_callS2 (pc := 253) (c_L_below (n := 8) (by omega) (by omega)) cm_L_below q618 q619 [] (by rfl) (by decide) (fun _ _ h => h) (by omega) (by omega) (by decide) (Nat.le_of_ble_eq_true rfl) dL_act_253 (fun v253 M253 hQ253 => ?_)
    obtain ⟨r253, hr253, rfl, rfl⟩ := hQ253
    try dsimp only [wb, LakeM, WaysM, WorldM, SimM, List.set_cons_succ, List.set_cons_zero, List.append_nil, List.nil_append, List.cons_append, Option.toList, Nat.sub_zero]
    refine v_istore (pc := 256) dL_act_256 (by decide) rfl ?_
    refine v_aload_nR (pc := 258) dL_act_258 rfl rfl ?_
    refine v_get (pc := 259) 5 18 fg_L_43 rfl rfl dL_act_259 ?_
    refine v_iload (pc := 262) dL_act_262 rfl ?_
    refine v_ialdN (pc := 264) 23 (k := r253) rfl (by omega) (by omega) dL_act_264 ?_
    refine v_istore (pc := 265) dL_act_265 (by decide) rfl ?_
    refine v_aload_nR (pc := 267) dL_act_267 rfl rfl ?_
    refine v_get (pc := 268) 5 18 fg_L_43 rfl rfl dL_act_268 ?_
    refine v_iload (pc := 271) dL_act_271 rfl ?_
    refine v_iload_n (pc := 273) dL_act_273 rfl rfl ?_
    refine v_iconst (pc := 274) (v := 4) dL_act_274 rfl ?_
    refine v_ishr (pc := 275) dL_act_275 ?_
    refine v_bipush (pc := 276) (v := 19) dL_act_276 rfl ?_
    refine v_callS2 (pc := 278) (c_L_below (n := 19) (by omega) (by omega)) cm_L_below q618 q619 [] (by rfl) (by decide) (fun _ _ h => h) (by omega) (by omega) (by decide) (Nat.le_of_ble_eq_true rfl) dL_act_278 (fun v278 M278 hQ278 => ?_)
    obtain ⟨r278, hr278, rfl, rfl⟩ := hQ278
    try dsimp only [wb, LakeM, WaysM, WorldM, SimM, List.set_cons_succ, List.set_cons_zero, List.append_nil, List.nil_append, List.cons_append, Option.toList, Nat.sub_zero]
    refine v_bipush (pc := 281) (v := 9) dL_act_281 rfl ?_
    refine v_isub (pc := 283) dL_act_283 ?_
    refine v_iastN (pc := 284) 23 (k := r253) rfl (by omega) (by omega) dL_act_284 ?_
    try dsimp only [wb, LakeM, WaysM, WorldM, SimM, List.set_cons_succ, List.set_cons_zero, List.append_nil, List.nil_append, List.cons_append, Option.toList, Nat.sub_zero]
    refine v_aload_nR (pc := 285) dL_act_285 rfl rfl ?_
    refine v_iload (pc := 286) dL_act_286 rfl ?_
    refine v_aload_nR (pc := 288) dL_act_288 rfl rfl ?_
    refine v_get (pc := 289) 5 18 fg_L_43 rfl rfl dL_act_289 ?_
    refine v_iload (pc := 292) dL_act_292 rfl ?_
    refine v_ialdN (pc := 294) 23 (k := r253) rfl (by omega) (by omega) dL_act_294 ?_
    rw [pk_us]
    refine v_callV2 (pc := 295) (c7_setCold hps hsc hbc hr253 (cold_rng hr278)) cm_X5_setCold q726 q727 q728 (ci := 5) rfl rfl (orcO 0 rfl) [0, 1, 2, 3, 4, 5, 6, 7, 8, 9, 10, 11, 12, 13, 14, 15, 16, 17] (by rfl) (by decide) (fun _ _ h => h) (by omega) (by omega) (by decide) (Nat.le_of_ble_eq_true rfl) dL_act_295 (fun v295 M295 hQ295 => ?_)
    obtain ⟨rfl, rfl⟩ := hQ295
    try dsimp only [wb, LakeM, WaysM, WorldM, SimM, List.set_cons_succ, List.set_cons_zero, List.append_nil, List.nil_append, List.cons_append, Option.toList, Nat.sub_zero]
    refine v_iload (pc := 298) dL_act_298 rfl ?_
    refine v_icmp_ne (pc := 300) (tgt := 307) dL_act_300 (by decide) (fun c300 => absurd rfl c300) (fun c300 => ?_)
    refine v_iconst (pc := 303) (v := 1) dL_act_303 rfl ?_
    refine v_goto (pc := 304) (tgt := 308) dL_act_304 (by decide) ?_
    refine v_iret (pc := 308) rfl rfl (Nat.le_of_ble_eq_true rfl) dL_act_308 ?_
    exact ⟨rfl, _, _, _, _, _, _, _, _, _, _, _, _, _, (hI.cold hr253 (cold_rng hr278)), rfl⟩
  refine v_tsOut (pc := 39) (tgt := 309) dL_act_39 (sw_out 3 (fun k hk h => by
    have hk2 : k = 0 ∨ k = 1 ∨ k = 2 ∨ k = 3 := by omega
    rcases hk2 with rfl | rfl | rfl | rfl
    · exact w39_0 h
    · exact w39_1 h
    · exact w39_2 h
    · exact w39_3 h)) (by decide) ?_
  refine v_iload_n (pc := 309) dL_act_309 rfl rfl ?_
  refine v_iconst (pc := 310) (v := 2) dL_act_310 rfl ?_
  refine v_ishr (pc := 311) dL_act_311 ?_
  refine v_sipush (pc := 312) (v := 160) dL_act_312 rfl ?_
  refine v_callS2 (pc := 315) (c_L_below (n := 160) (by omega) (by omega)) cm_L_below q618 q619 [] (by rfl) (by decide) (fun _ _ h => h) (by omega) (by omega) (by decide) (Nat.le_of_ble_eq_true rfl) dL_act_315 (fun v315 M315 hQ315 => ?_)
  obtain ⟨r315, hr315, rfl, rfl⟩ := hQ315
  try dsimp only [wb, LakeM, WaysM, WorldM, SimM, List.set_cons_succ, List.set_cons_zero, List.append_nil, List.nil_append, List.cons_append, Option.toList, Nat.sub_zero]
  refine v_istore (pc := 318) dL_act_318 (by decide) rfl ?_
  refine v_aload_nR (pc := 320) dL_act_320 rfl rfl ?_
  refine v_get (pc := 321) 2 18 fg_L_36 rfl rfl dL_act_321 ?_
  refine v_iload (pc := 324) dL_act_324 rfl ?_
  refine v_ialdN (pc := 326) 20 (k := r315) rfl (by omega) (by omega) dL_act_326 ?_
  refine v_istore (pc := 327) dL_act_327 (by decide) rfl ?_
  refine v_aload_nR (pc := 329) dL_act_329 rfl rfl ?_
  refine v_get (pc := 330) 2 18 fg_L_36 rfl rfl dL_act_330 ?_
  refine v_iload (pc := 333) dL_act_333 rfl ?_
  refine v_iconst (pc := 335) (v := 1) dL_act_335 rfl ?_
  refine v_iload_n (pc := 336) dL_act_336 rfl rfl ?_
  refine v_iconst (pc := 337) (v := 5) dL_act_337 rfl ?_
  refine v_ishr (pc := 338) dL_act_338 ?_
  refine v_bipush (pc := 339) (v := 9) dL_act_339 rfl ?_
  refine v_callS2 (pc := 341) (c_L_below (n := 9) (by omega) (by omega)) cm_L_below q618 q619 [] (by rfl) (by decide) (fun _ _ h => h) (by omega) (by omega) (by decide) (Nat.le_of_ble_eq_true rfl) dL_act_341 (fun v341 M341 hQ341 => ?_)
  obtain ⟨r341, hr341, rfl, rfl⟩ := hQ341
  try dsimp only [wb, LakeM, WaysM, WorldM, SimM, List.set_cons_succ, List.set_cons_zero, List.append_nil, List.nil_append, List.cons_append, Option.toList, Nat.sub_zero]
  refine v_iadd (pc := 344) dL_act_344 ?_
  rw [show 1 + nI r341 = nI (1 + r341) from nI_add 1 r341]
  refine v_iastN (pc := 345) 20 (k := r315) rfl (by omega) (by omega) dL_act_345 ?_
  try dsimp only [wb, LakeM, WaysM, WorldM, SimM, List.set_cons_succ, List.set_cons_zero, List.append_nil, List.nil_append, List.cons_append, Option.toList, Nat.sub_zero]
  refine v_aload_nR (pc := 346) dL_act_346 rfl rfl ?_
  refine v_iload (pc := 347) dL_act_347 rfl ?_
  refine v_bipush (pc := 349) (v := 16) dL_act_349 rfl ?_
  refine v_irem (pc := 351) dL_act_351 (by decide) ?_
  rw [show nI r315 - nI r315 / 16 * 16 = nI (r315 % 16) from pk_rem (d := 16) (by omega) (by decide) (by decide)]
  refine v_iload (pc := 352) dL_act_352 rfl ?_
  refine v_bipush (pc := 354) (v := 16) dL_act_354 rfl ?_
  refine v_idiv (pc := 356) dL_act_356 (by decide) ?_
  rw [show nI r315 / 16 = nI (r315 / 16) from pk_div (d := 16) (by omega) (by decide) (by decide)]
  refine v_aload_nR (pc := 357) dL_act_357 rfl rfl ?_
  refine v_get (pc := 358) 2 18 fg_L_36 rfl rfl dL_act_358 ?_
  refine v_iload (pc := 361) dL_act_361 rfl ?_
  refine v_ialdN (pc := 363) 20 (k := r315) rfl (by omega) (by omega) dL_act_363 ?_
  rw [pk_us]
  refine v_callV3 (pc := 364) (c7_setSnow hps hsc hbc hr315 (by omega) (by omega)) cm_X5_setSnow q715 q716 q717 (ci := 5) rfl rfl (orcO 0 rfl) [0, 1, 2, 3, 4, 5, 6, 7, 8, 9, 10, 11, 12, 13, 14, 15, 16, 17] (by rfl) (by decide) (fun _ _ h => h) (by omega) (by omega) (by decide) (Nat.le_of_ble_eq_true rfl) dL_act_364 (fun v364 M364 hQ364 => ?_)
  obtain ⟨rfl, rfl⟩ := hQ364
  try dsimp only [wb, LakeM, WaysM, WorldM, SimM, List.set_cons_succ, List.set_cons_zero, List.append_nil, List.nil_append, List.cons_append, Option.toList, Nat.sub_zero]
  refine v_iload (pc := 367) dL_act_367 rfl ?_
  refine v_icmp_ne (pc := 369) (tgt := 376) dL_act_369 (by decide) (fun c369 => absurd rfl c369) (fun c369 => ?_)
  refine v_iconst (pc := 372) (v := 1) dL_act_372 rfl ?_
  refine v_goto (pc := 373) (tgt := 377) dL_act_373 (by decide) ?_
  refine v_iret (pc := 377) rfl rfl (Nat.le_of_ble_eq_true rfl) dL_act_377 ?_
  exact ⟨rfl, _, _, _, _, _, _, _, _, _, _, _, _, _, (hI.snow hr315 (by omega) (by omega)), rfl⟩
