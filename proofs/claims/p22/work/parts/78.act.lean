/-! the law's cells; what it does to both -/
section VSCR
variable {G : Cx} {Y : MI} {Z : ZT} {d ck sk pc : Nat} {L : List (Option Value)} {st : List Value} {M : List ME}
theorem v_slen (hd : decode Y.2.1 pc = .ok (.arraylength, 1)) (kk : V G Y Z d ck sk (pc + 1) L (.int (Int32.ofNat G.2.2.2.2.2.1) :: st) M) : V G Y Z d ck sk pc L (.ref G.2.2.2.1 :: st) M := by
  intro p e2 R s m args below meth c H locs cells slots ls C hl
  have hK := C.1.2.2.2.2.2.2.2.1
  have hb := hK.2.2.2.2.2.2.1
  refine va_slen (A := AM Z.1 Z.2.1) C.1.1 C.1.2.1 hK.2.2.2.2.2.1 (Nat.lt_of_lt_of_le hb (by rw [C.2.1.1]; exact C.2.1.2.1)) (fun q => absurd (C.2.2.2.2.2 _ q) (Nat.not_le.mpr hb)) C.2.2.2.2.1 hd (kk p e2 R s m args below meth c H locs cells slots ls C hl)
theorem v_sld {k : Nat} (hk : k < G.2.2.2.2.2.1) (hn : G.2.2.2.2.2.1 < 2 ^ 31) (hd : decode Y.2.1 pc = .ok (.iaload, 1)) (kk : V G Y Z d ck sk (pc + 1) L (.int (G.2.2.2.2.2.2 k) :: st) M) : V G Y Z d ck sk pc L (.int (nI k) :: .ref G.2.2.2.1 :: st) M := by
  intro p e2 R s m args below meth c H locs cells slots ls C hl
  have hK := C.1.2.2.2.2.2.2.2.1
  have hb := hK.2.2.2.2.2.2.1
  refine va_sld (A := AM Z.1 Z.2.1) C.1.1 C.1.2.1 hK.2.2.2.2.2.1 (Nat.lt_of_lt_of_le hb (by rw [C.2.1.1]; exact C.2.1.2.1)) (fun q => absurd (C.2.2.2.2.2 _ q) (Nat.not_le.mpr hb)) C.2.2.2.2.1 (vp_in_nI hk hn) hd ?_
  rw [nI_clamp (Nat.lt_trans hk hn)]
  exact kk p e2 R s m args below meth c H locs cells slots ls C hl
end VSCR
set_option maxRecDepth 100000 in
set_option maxHeartbeats 4000000 in
theorem c_L_cell {G : Cx} (hL31 : G.2.2.2.2.2.1 < 2 ^ 31) {k : Nat} (hk : k < 2 ^ 31) : Mt G Y_L_cell 0 0 0 [.ref G.2.2.2.1, .int (nI k)] [] (fun v M' => ∃ r : Int32, v = some (.int r) ∧ M' = []) noX := by
  refine Mt.of (L := [some (.ref G.2.2.2.1), some (.int (nI k))]) rfl (by decide) (by simp [lg_sl, Value.category]) ⟨rfl, rfl, trivial⟩ (fun sz => ?_)
  refine v_iload_n (pc := 0) dL_cell_0 rfl rfl ?_
  refine v_aload_nR (pc := 1) dL_cell_1 rfl rfl ?_
  refine v_slen (pc := 2) dL_cell_2 ?_
  refine v_icmp_ge (pc := 3) (tgt := 12) dL_cell_3 (by decide) (fun c3 => ?_) (fun c3 => ?_)
  · refine v_ldc (pc := 12) q625 dL_cell_12 ?_
    refine v_iload_n (pc := 14) dL_cell_14 rfl rfl ?_
    refine v_iconst (pc := 15) (v := 3) dL_cell_15 rfl ?_
    refine v_iadd (pc := 16) dL_cell_16 ?_
    refine v_imul (pc := 17) dL_cell_17 ?_
    refine v_iret (pc := 18) rfl rfl (Nat.le_of_ble_eq_true rfl) dL_cell_18 ?_
    exact ⟨_, rfl, rfl⟩
  · refine v_aload_nR (pc := 6) dL_cell_6 rfl rfl ?_
    refine v_iload_n (pc := 7) dL_cell_7 rfl rfl ?_
    refine v_sld (pc := 8) (k := k) (Nat.lt_of_not_le (fun q => c3 ((nI_leI (a := G.2.2.2.2.2.1) (b := k) hL31 hk).mpr q))) hL31 dL_cell_8 ?_
    refine v_goto (pc := 9) (tgt := 18) dL_cell_9 (by decide) ?_
    refine v_iret (pc := 18) rfl rfl (Nat.le_of_ble_eq_true rfl) dL_cell_18 ?_
    exact ⟨_, rfl, rfl⟩
theorem smX_dp {SF : Nat → Nat → Int32} {MX : Nat → Int32} {i : Nat} {q : Int32} : smX (upS (upS SF i 3 1) i 5 q) MX = smX (dpS SF i q) MX := by
  funext a b
  unfold dpS
  rcases b with _ | _ | _ | _ | _ | _ | _ | b <;> simp [smX, upS]
theorem smX_1 {SF : Nat → Nat → Int32} {MX : Nat → Int32} {i : Nat} {v : Int32} : smX (upS SF i 1 v) MX = smX SF MX := by
  funext a b
  rcases b with _ | _ | _ | _ | _ | _ | _ | b <;> simp [smX, upS]
set_option maxRecDepth 100000 in
set_option maxHeartbeats 4000000 in
theorem lp_L_load {G : Cx} {w : Nat → Nat} {a b f : Nat → Int32} {wa : Int32} {lr : Value} {nd dg : Int32} {T N S C B O : Nat → Int32} {ch : Int32} {PC : Nat → Int32} {ps sc bc hh : Nat} {g0 u0 : Nat} {v xs bs : Nat → Nat} {MX H D : Nat → Int32} (hps : ps ≤ 8) (hsc : sc ≤ 5) (hbc : bc ≤ 40) {sz B0 : Nat} {x9 : Int32} {k q : Nat} (hk : k < sc) {M0 : List ME} (hM0 : M0.length = 31) : ∀ (m i : Nat), m + i = bc → ∀ SF BF : Nat → Nat → Int32, LI N O PC ps sc bc T S C ch SF BF MX B0 → SF k 3 = 0 → V G Y_L_act (ZM G M0 sz (fun v' M' => v' = some (.int 1) ∧ ∃ (a' b' f' : Nat → Int32) (wa' : Int32) (lr' : Value) (nd' dg' : Int32) (N' O' : Nat → Int32) (SF' BF' : Nat → Nat → Int32) (H' D' : Nat → Int32), LI N' O' PC ps sc bc T S C ch SF' BF' MX B0 ∧ M' = eO 5 g0 [.ref (w 0), .ref u0] :: (WorldM w a' b' f' wa' lr' nd' dg' T N' S C B O' ch PC SF' BF' ps sc bc hh ++ SimM v xs bs hh T N' S C O' PC ps sc bc SF' MX BF' H' D')) noX) 8 (m) (6 * m) 161 [some (.ref g0), some (.ref (v 0)), some (.int x9), some (.int (nI k)), some (.ref (xs k)), some (.int (nI q)), some (.int (nI i)), none, none, none] [] (eO 5 g0 [.ref (w 0), .ref u0] :: (WorldM w a b f wa lr nd dg T N S C B O ch PC SF BF ps sc bc hh ++ SimM v xs bs hh T N S C O PC ps sc bc SF MX BF H D)) := by
  intro m
  induction m with
  | zero =>
    intro i hi SF BF hI h3
    have hi2 : i = bc := by omega
    refine v_iload (pc := 161) dL_act_161 rfl ?_
    refine v_aload_nR (pc := 163) dL_act_163 rfl rfl ?_
    refine v_get (pc := 164) 8 18 fg_L_107 rfl rfl dL_act_164 ?_
    refine v_alen (pc := 167) 26 (v := nI bc) rfl (fun _ => rfl) rfl dL_act_167 ?_
    refine v_icmp_ge (pc := 168) (tgt := 246) dL_act_168 (by decide) (fun c168 => ?_) (fun c168 => absurd (nI_le (a := bc) (b := i) (by omega) (by omega)) c168)
    have c168 : bc ≤ i := (nI_leI (a := bc) (b := i) (by omega) (by omega)).mp c168
    refine v_iconst (pc := 246) (v := 1) dL_act_246 rfl ?_
    refine v_iret (pc := 247) rfl rfl (by rw [hM0]; exact Nat.le_of_ble_eq_true rfl) dL_act_247 ?_
    exact ⟨rfl, _, _, _, _, _, _, _, _, _, _, _, _, _, hI, rfl⟩
  | succ m ih =>
    intro i hi SF BF hI h3
    refine v_iload (pc := 161) dL_act_161 rfl ?_
    refine v_aload_nR (pc := 163) dL_act_163 rfl rfl ?_
    refine v_get (pc := 164) 8 18 fg_L_107 rfl rfl dL_act_164 ?_
    refine v_alen (pc := 167) 26 (v := nI bc) rfl (fun _ => rfl) rfl dL_act_167 ?_
    refine v_icmp_ge (pc := 168) (tgt := 246) dL_act_168 (by decide) (fun c168 => absurd c168 (nI_ge (a := i) (b := bc) (by omega) (by omega))) (fun c168 => ?_)
    have c168 : ¬ bc ≤ i := fun h => c168 ((nI_leI (a := bc) (b := i) (by omega) (by omega)).mpr h)
    refine v_aload_nR (pc := 171) dL_act_171 rfl rfl ?_
    refine v_get (pc := 172) 8 18 fg_L_107 rfl rfl dL_act_172 ?_
    refine v_iload (pc := 175) dL_act_175 rfl ?_
    refine v_aaldS (pc := 177) 26 (k := i) (by decide) rfl (by omega) (by omega) dL_act_177 ?_
    refine v_iconst (pc := 178) (v := 2) dL_act_178 rfl ?_
    refine v_ialdGN (pc := 179) 30 (j := 2) rfl (by omega) (by decide) (by decide) dL_act_179 ?_
    refine v_if_ne (pc := 180) (tgt := 240) dL_act_180 (by decide) (fun c180 => ?_) (fun c180 => ?_)
    · refine v_iinc (pc := 240) (v := nI (i + 1)) dL_act_240 rfl (nI_1 _) (by decide) rfl ?_
      refine v_goto (pc := 243) (tgt := 161) dL_act_243 (by decide) ?_
      refine v_room (ck' := m) (sk' := 6 * m) (by omega) (by omega) ?_
      have k9 := ih (i + 1) (by omega) _ _ hI h3
      refine v_sub ?_ k9
      exact ⟨rfl, rfl, rfl, rfl, rfl, rfl, rfl, trivial⟩
    · refine v_aload_nR (pc := 183) dL_act_183 rfl rfl ?_
      refine v_get (pc := 184) 8 18 fg_L_107 rfl rfl dL_act_184 ?_
      refine v_iload (pc := 187) dL_act_187 rfl ?_
      refine v_aaldS (pc := 189) 26 (k := i) (by decide) rfl (by omega) (by omega) dL_act_189 ?_
      refine v_iconst (pc := 190) (v := 3) dL_act_190 rfl ?_
      refine v_ialdGN (pc := 191) 30 (j := 3) rfl (by omega) (by decide) (by decide) dL_act_191 ?_
      refine v_aloadR (pc := 192) dL_act_192 rfl ?_
      refine v_getS (pc := 194) 4 29 fg_L_88 rfl hk (by decide) dL_act_194 ?_
      rw [smX_g4]
      refine v_icmp_eq (pc := 197) (tgt := 203) dL_act_197 (by decide) (fun c197 => ?_) (fun c197 => ?_)
      · refine v_aload_nR (pc := 203) dL_act_203 rfl rfl ?_
        refine v_get (pc := 204) 8 18 fg_L_107 rfl rfl dL_act_204 ?_
        refine v_iload (pc := 207) dL_act_207 rfl ?_
        refine v_aaldS (pc := 209) 26 (k := i) (by decide) rfl (by omega) (by omega) dL_act_209 ?_
        refine v_iconst (pc := 210) (v := 2) dL_act_210 rfl ?_
        refine v_iconst (pc := 211) (v := 1) dL_act_211 rfl ?_
        refine v_iastGN (pc := 212) 30 (j := 2) rfl (by omega) (by decide) (by decide) dL_act_212 ?_
        try dsimp only [wb, LakeM, WaysM, WorldM, SimM, List.set_cons_succ, List.set_cons_zero, List.append_nil, List.nil_append, List.cons_append, Option.toList, Nat.sub_zero]
        refine v_aload_nR (pc := 213) dL_act_213 rfl rfl ?_
        refine v_get (pc := 214) 8 18 fg_L_107 rfl rfl dL_act_214 ?_
        refine v_iload (pc := 217) dL_act_217 rfl ?_
        refine v_aaldS (pc := 219) 26 (k := i) (by decide) rfl (by omega) (by omega) dL_act_219 ?_
        refine v_iconst (pc := 220) (v := 3) dL_act_220 rfl ?_
        refine v_iload_n (pc := 221) dL_act_221 rfl rfl ?_
        refine v_iastGN (pc := 222) 30 (j := 3) rfl (by omega) (by decide) (by decide) dL_act_222 ?_
        try dsimp only [wb, LakeM, WaysM, WorldM, SimM, List.set_cons_succ, List.set_cons_zero, List.append_nil, List.nil_append, List.cons_append, Option.toList, Nat.sub_zero]
        refine v_aload_nR (pc := 223) dL_act_223 rfl rfl ?_
        refine v_iload_n (pc := 224) dL_act_224 rfl rfl ?_
        refine v_iload (pc := 225) dL_act_225 rfl ?_
        refine v_callV2 (pc := 227) (c7_load hps hsc hbc hk (show i < bc by omega) c180 h3 (Eq.symm c197)) cm_X5_load q843 q844 q845 (ci := 5) rfl rfl (orcO 0 rfl) [0, 1, 2, 3, 4, 5, 6, 7, 8, 9, 10, 11, 12, 13, 14, 15, 16, 17] (by rfl) (by decide) (fun _ _ h => h) (by omega) (by omega) (by decide) (Nat.le_of_ble_eq_true rfl) dL_act_227 (fun v227 M227 hQ227 => ?_)
        obtain ⟨rfl, rfl⟩ := hQ227
        try dsimp only [wb, LakeM, WaysM, WorldM, SimM, List.set_cons_succ, List.set_cons_zero, List.append_nil, List.nil_append, List.cons_append, Option.toList, Nat.sub_zero]
        have hI2 := hI.load hk (show i < bc by omega) c180 h3 (Eq.symm c197)
        have hw9 := hI2.1.2.2.2.1.2.2.2.1 k (by omega)
        rw [← smX_1 (SF := SF) (i := k) (v := SF k 1 + BF i 0)]
        refine v_aload_nR (pc := 230) dL_act_230 rfl rfl ?_
        refine v_iload_n (pc := 231) dL_act_231 rfl rfl ?_
        refine v_callV1 (pc := 232) (c_X6_weight hps hsc hbc hk hw9) cm_X6_weight q841 q595 q596 (ci := 6) rfl rfl (orcO 18 rfl) [18, 19, 20, 21, 22, 23, 24, 25, 26, 27, 28, 29, 30] (by rfl) (by decide) (fun _ _ h => h) (by omega) (by omega) (by decide) (Nat.le_of_ble_eq_true rfl) dL_act_232 (fun v232 M232 hQ232 => ?_)
        obtain ⟨rfl, rfl⟩ := hQ232
        try dsimp only [wb, LakeM, WaysM, WorldM, SimM, List.set_cons_succ, List.set_cons_zero, List.append_nil, List.nil_append, List.cons_append, Option.toList, Nat.sub_zero]
        refine v_icmp_eq (pc := 235) (tgt := 240) dL_act_235 (by decide) (fun c235 => ?_) (fun c235 => absurd rfl c235)
        refine v_iinc (pc := 240) (v := nI (i + 1)) dL_act_240 rfl (nI_1 _) (by decide) rfl ?_
        refine v_goto (pc := 243) (tgt := 161) dL_act_243 (by decide) ?_
        refine v_room (ck' := m) (sk' := 6 * m) (by omega) (by omega) ?_
        have k9 := ih (i + 1) (by omega) _ _ hI2 (by rw [upS_n _ _ (by omega)]; exact h3)
        refine v_sub ?_ k9
        exact ⟨rfl, rfl, rfl, rfl, rfl, rfl, rfl, trivial⟩
      · refine v_goto (pc := 200) (tgt := 240) dL_act_200 (by decide) ?_
        refine v_iinc (pc := 240) (v := nI (i + 1)) dL_act_240 rfl (nI_1 _) (by decide) rfl ?_
        refine v_goto (pc := 243) (tgt := 161) dL_act_243 (by decide) ?_
        refine v_room (ck' := m) (sk' := 6 * m) (by omega) (by omega) ?_
        have k9 := ih (i + 1) (by omega) _ _ hI h3
        refine v_sub ?_ k9
        exact ⟨rfl, rfl, rfl, rfl, rfl, rfl, rfl, trivial⟩
