/-! the law's body: one call of each kind -/
set_option maxRecDepth 100000 in
set_option maxHeartbeats 4000000 in
theorem lw_c0 {G : Cx} {Z : ZT} {g0 y0 : Nat} {w u z : Nat → Nat} {nm : String} {hd9 : List (Nat × Nat × Nat × Nat)} {n5 : Nat} (h5 : n5 = 5) {a b f : Nat → Int32} {wa : Int32} {lr : Value} {nd dg : Int32} {B : Nat → Int32} {T N S C O : Nat → Int32} {ch : Int32} {PC : Nat → Int32} {SF BF : Nat → Nat → Int32} {ps sc bc hh : Nat} {a2 b2 f2 : Nat → Int32} {wa2 : Int32} {lr2 : Value} {nd2 dg2 : Int32} {T2 N2 S2 C2 B2 O2 : Nat → Int32} {ch2 : Int32} {PC2 : Nat → Int32} {SF2 BF2 : Nat → Nat → Int32} {ps2 sc2 hh2 : Nat} {th : Int32} {MX H W : Nat → Int32} {o : Nat → Int64} {m i k : Nat} (hk : k ≤ 514) (hi : i + 6 ≤ G.2.2.2.2.2.1) (hL31 : G.2.2.2.2.2.1 < 2 ^ 31) (hG : gI N O PC ps sc bc T C ch SF BF MX (2000 * k)) (hhk : hh ≤ 200 * k) (hA2 : chB ch2 (2000 * k)) (K : ∀ (a b f : Nat → Int32) (wa : Int32) (lr : Value) (nd dg : Int32) (B : Nat → Int32) (T N S C O : Nat → Int32) (ch : Int32) (PC : Nat → Int32) (SF BF : Nat → Nat → Int32) (ps sc bc hh : Nat) (a2 b2 f2 : Nat → Int32) (wa2 : Int32) (lr2 : Value) (nd2 dg2 : Int32) (T2 N2 S2 C2 B2 O2 : Nat → Int32) (ch2 : Int32) (PC2 : Nat → Int32) (SF2 BF2 : Nat → Nat → Int32) (ps2 sc2 hh2 : Nat) (th : Int32) (MX H W : Nat → Int32) (o : Nat → Int64), gI N O PC ps sc bc T C ch SF BF MX (2000 * (k + 1)) → hh ≤ 200 * (k + 1) → chB ch2 (2000 * (k + 1)) → V G (YL nm hd9) Z 10 (10 * m) (750 * m) 1403 [some (.ref G.2.2.2.1), some (.ref g0), some (.ref (z 0)), some (.ref y0), some (.int (nI i)), none, none, none, none] [] (LawM g0 y0 w u z a b f wa lr nd dg B T N S C O ch PC SF BF ps sc bc hh a2 b2 f2 wa2 lr2 nd2 dg2 T2 N2 S2 C2 B2 O2 ch2 PC2 SF2 BF2 ps2 sc2 hh2 th MX H W o)) : V G (YL nm hd9) Z 10 (10 * (m + 1)) (750 * (m + 1)) 132 [some (.ref G.2.2.2.1), some (.ref g0), some (.ref (z 0)), some (.ref y0), some (.int (nI i)), none, none, none, none] [] (LawM g0 y0 w u z a b f wa lr nd dg B T N S C O ch PC SF BF ps sc bc hh a2 b2 f2 wa2 lr2 nd2 dg2 T2 N2 S2 C2 B2 O2 ch2 PC2 SF2 BF2 ps2 sc2 hh2 th MX H W o) := by
  obtain ⟨⟨hps, hsc, hbc⟩, hPC, ⟨hN, hO⟩, hI, hz, hs, hd⟩ := id hG
  obtain ⟨hx, hP9, hW9, hw, hb, ⟨hT, hC, hLK⟩, hM9, hB9⟩ := id hI
  try dsimp only [wb, LawM, ModelM, LakeM, WaysM, WorldM, List.set_cons_succ, List.set_cons_zero, List.append_nil, List.nil_append, List.cons_append, Option.toList, Nat.sub_zero, List.take_succ_cons, List.take_zero]
  refine v_aload_nR (pc := 132) dL_law_132 rfl rfl ?_
  refine v_aload_nR (pc := 133) dL_law_133 rfl rfl ?_
  refine v_iload (pc := 134) dL_law_134 rfl ?_
  refine v_iconst (pc := 136) (v := 1) dL_law_136 rfl ?_
  refine v_iadd (pc := 137) dL_law_137 ?_
  rw [show nI i + 1 = nI (i + 1) from nI_add i 1]
  refine v_sld (pc := 138) (k := (i + 1)) (by omega) hL31 dL_law_138 ?_
  refine v_aload_nR (pc := 139) dL_law_139 rfl rfl ?_
  refine v_iload (pc := 140) dL_law_140 rfl ?_
  refine v_iconst (pc := 142) (v := 2) dL_law_142 rfl ?_
  refine v_iadd (pc := 143) dL_law_143 ?_
  rw [show nI i + 2 = nI (i + 2) from nI_add i 2]
  refine v_sld (pc := 144) (k := (i + 2)) (by omega) hL31 dL_law_144 ?_
  refine v_aload_nR (pc := 145) dL_law_145 rfl rfl ?_
  refine v_iload (pc := 146) dL_law_146 rfl ?_
  refine v_iconst (pc := 148) (v := 3) dL_law_148 rfl ?_
  refine v_iadd (pc := 149) dL_law_149 ?_
  rw [show nI i + 3 = nI (i + 3) from nI_add i 3]
  refine v_sld (pc := 150) (k := (i + 3)) (by omega) hL31 dL_law_150 ?_
  refine v_aload_nR (pc := 151) dL_law_151 rfl rfl ?_
  refine v_iload (pc := 152) dL_law_152 rfl ?_
  refine v_iconst (pc := 154) (v := 4) dL_law_154 rfl ?_
  refine v_iadd (pc := 155) dL_law_155 ?_
  rw [show nI i + 4 = nI (i + 4) from nI_add i 4]
  refine v_sld (pc := 156) (k := (i + 4)) (by omega) hL31 dL_law_156 ?_
  refine v_aload_nR (pc := 157) dL_law_157 rfl rfl ?_
  refine v_iload (pc := 158) dL_law_158 rfl ?_
  refine v_iconst (pc := 160) (v := 5) dL_law_160 rfl ?_
  refine v_iadd (pc := 161) dL_law_161 ?_
  rw [show nI i + 5 = nI (i + 5) from nI_add i 5]
  refine v_sld (pc := 162) (k := (i + 5)) (by omega) hL31 dL_law_162 ?_
  refine v_aload_nR (pc := 163) dL_law_163 rfl rfl ?_
  refine v_callSH7 (pc := 164) (c_L_setIce hps hsc hbc) ch_L_setIce q300 q301 [0, 1, 2, 3, 4, 5, 6, 7, 8, 9, 10, 11, 12, 13, 14, 15, 16, 17, 47] (by rfl) (by decide) (fun _ _ h => h) (by omega) (by omega) (by decide) (Nat.le_of_ble_eq_true rfl) dL_law_164 (fun v164 M164 hQ164 => ?_)
  obtain ⟨rfl, o9, ho, rfl⟩ := hQ164
  try dsimp only [wb, LawM, ModelM, LakeM, WaysM, WorldM, List.set_cons_succ, List.set_cons_zero, List.append_nil, List.nil_append, List.cons_append, Option.toList, Nat.sub_zero, List.take_succ_cons, List.take_zero]
  refine v_istore (pc := 167) dL_law_167 (by show _ < 9; decide) rfl ?_
  refine v_aload_nR (pc := 169) dL_law_169 rfl rfl ?_
  refine v_aload_nR (pc := 170) dL_law_170 rfl rfl ?_
  refine v_iload (pc := 171) dL_law_171 rfl ?_
  refine v_iconst (pc := 173) (v := 1) dL_law_173 rfl ?_
  refine v_iadd (pc := 174) dL_law_174 ?_
  rw [show nI i + 1 = nI (i + 1) from nI_add i 1]
  refine v_sld (pc := 175) (k := (i + 1)) (by omega) hL31 dL_law_175 ?_
  refine v_aload_nR (pc := 176) dL_law_176 rfl rfl ?_
  refine v_iload (pc := 177) dL_law_177 rfl ?_
  refine v_iconst (pc := 179) (v := 2) dL_law_179 rfl ?_
  refine v_iadd (pc := 180) dL_law_180 ?_
  rw [show nI i + 2 = nI (i + 2) from nI_add i 2]
  refine v_sld (pc := 181) (k := (i + 2)) (by omega) hL31 dL_law_181 ?_
  refine v_aload_nR (pc := 182) dL_law_182 rfl rfl ?_
  refine v_iload (pc := 183) dL_law_183 rfl ?_
  refine v_iconst (pc := 185) (v := 3) dL_law_185 rfl ?_
  refine v_iadd (pc := 186) dL_law_186 ?_
  rw [show nI i + 3 = nI (i + 3) from nI_add i 3]
  refine v_sld (pc := 187) (k := (i + 3)) (by omega) hL31 dL_law_187 ?_
  refine v_aload_nR (pc := 188) dL_law_188 rfl rfl ?_
  refine v_iload (pc := 189) dL_law_189 rfl ?_
  refine v_iconst (pc := 191) (v := 4) dL_law_191 rfl ?_
  refine v_iadd (pc := 192) dL_law_192 ?_
  rw [show nI i + 4 = nI (i + 4) from nI_add i 4]
  refine v_sld (pc := 193) (k := (i + 4)) (by omega) hL31 dL_law_193 ?_
  refine v_aload_nR (pc := 194) dL_law_194 rfl rfl ?_
  refine v_iload (pc := 195) dL_law_195 rfl ?_
  refine v_iconst (pc := 197) (v := 5) dL_law_197 rfl ?_
  refine v_iadd (pc := 198) dL_law_198 ?_
  rw [show nI i + 5 = nI (i + 5) from nI_add i 5]
  refine v_sld (pc := 199) (k := (i + 5)) (by omega) hL31 dL_law_199 ?_
  refine v_callV5 (pc := 200) (c_X6_setIce hps hsc hbc (ch := ch)) cm_X6_setIce q852 q853 q854 (ci := 6) rfl rfl (orcO 35 rfl) [35, 36, 37, 38, 39, 40, 41, 42, 43, 44, 45, 46] (by rfl) (by decide) (fun _ _ h => h) (by omega) (by omega) (by decide) (Nat.le_of_ble_eq_true rfl) dL_law_200 (fun v200 M200 hQ200 => ?_)
  obtain ⟨rfl, rfl⟩ := hQ200
  try dsimp only [wb, LawM, ModelM, LakeM, WaysM, WorldM, List.set_cons_succ, List.set_cons_zero, List.append_nil, List.nil_append, List.cons_append, Option.toList, Nat.sub_zero, List.take_succ_cons, List.take_zero]
  refine v_istore (pc := 203) dL_law_203 (by show _ < 9; decide) rfl ?_
  refine v_aload_nR (pc := 205) dL_law_205 rfl rfl ?_
  refine v_callV0 (pc := 206) (c_X6_thrown hps hsc hbc) cm_X6_thrown q848 q849 q850 (ci := 6) rfl rfl (orcO 35 rfl) [35, 36, 37, 38, 39, 40, 41, 42, 43, 44, 45, 46] (by rfl) (by decide) (fun _ _ h => h) (by omega) (by omega) (by decide) (Nat.le_of_ble_eq_true rfl) dL_law_206 (fun v206 M206 hQ206 => ?_)
  obtain ⟨rfl, rfl⟩ := hQ206
  try dsimp only [wb, LawM, ModelM, LakeM, WaysM, WorldM, List.set_cons_succ, List.set_cons_zero, List.append_nil, List.nil_append, List.cons_append, Option.toList, Nat.sub_zero, List.take_succ_cons, List.take_zero]
  refine v_iload (pc := 209) dL_law_209 rfl ?_
  refine v_icmp_eq (pc := 211) (tgt := 216) dL_law_211 (by decide) (fun c211 => ?_) (fun c211 => absurd rfl c211)
  refine v_iload (pc := 216) dL_law_216 rfl ?_
  refine v_if_ne (pc := 218) (tgt := 233) dL_law_218 (by decide) (fun c218 => ?_) (fun c218 => ?_)
  · refine v_goto (pc := 233) (tgt := 1403) dL_law_233 (by decide) ?_
    refine v_room (ck' := 10 * m) (sk' := 750 * m) (by omega) (by omega) ?_
    refine v_sub ?_ (K _ _ _ _ _ _ _ _ _ _ _ _ _ _ _ _ _ _ _ _ _ _ _ _ _ _ _ _ _ _ _ _ _ _ _ _ _ _ _ _ _ _ _ _ _ _ ((hG.ic (by omega)).more (by omega)) (by omega) (hA2.up (by omega)))
    exact ⟨rfl, rfl, rfl, rfl, rfl, trivial⟩
  · refine v_aload_nR (pc := 221) dL_law_221 rfl rfl ?_
    refine v_iconst (pc := 222) (v := 0) dL_law_222 rfl ?_
    refine v_lald (pc := 223) 47 rfl (by unfold vp_in; decide) dL_law_223 ?_
    refine v_iload (pc := 224) dL_law_224 rfl ?_
    refine v_i2l (pc := 226) dL_law_226 ?_
    rw [cl0, ho c218]
    refine v_lcmp (pc := 227) dL_law_227 ?_
    rw [lgc]
    refine v_if_eq (pc := 228) (tgt := 233) dL_law_228 (by decide) (fun c228 => ?_) (fun c228 => absurd rfl c228)
    refine v_goto (pc := 233) (tgt := 1403) dL_law_233 (by decide) ?_
    refine v_room (ck' := 10 * m) (sk' := 750 * m) (by omega) (by omega) ?_
    refine v_sub ?_ (K _ _ _ _ _ _ _ _ _ _ _ _ _ _ _ _ _ _ _ _ _ _ _ _ _ _ _ _ _ _ _ _ _ _ _ _ _ _ _ _ _ _ _ _ _ _ ((hG.ic (by omega)).more (by omega)) (by omega) (hA2.up (by omega)))
    exact ⟨rfl, rfl, rfl, rfl, rfl, trivial⟩
set_option maxRecDepth 100000 in
set_option maxHeartbeats 4000000 in
theorem lw_c1 {G : Cx} {Z : ZT} {g0 y0 : Nat} {w u z : Nat → Nat} {nm : String} {hd9 : List (Nat × Nat × Nat × Nat)} {n5 : Nat} (h5 : n5 = 5) {a b f : Nat → Int32} {wa : Int32} {lr : Value} {nd dg : Int32} {B : Nat → Int32} {T N S C O : Nat → Int32} {ch : Int32} {PC : Nat → Int32} {SF BF : Nat → Nat → Int32} {ps sc bc hh : Nat} {a2 b2 f2 : Nat → Int32} {wa2 : Int32} {lr2 : Value} {nd2 dg2 : Int32} {T2 N2 S2 C2 B2 O2 : Nat → Int32} {ch2 : Int32} {PC2 : Nat → Int32} {SF2 BF2 : Nat → Nat → Int32} {ps2 sc2 hh2 : Nat} {th : Int32} {MX H W : Nat → Int32} {o : Nat → Int64} {m i k : Nat} (hk : k ≤ 514) (hi : i + 6 ≤ G.2.2.2.2.2.1) (hL31 : G.2.2.2.2.2.1 < 2 ^ 31) (hG : gI N O PC ps sc bc T C ch SF BF MX (2000 * k)) (hhk : hh ≤ 200 * k) (hA2 : chB ch2 (2000 * k)) (K : ∀ (a b f : Nat → Int32) (wa : Int32) (lr : Value) (nd dg : Int32) (B : Nat → Int32) (T N S C O : Nat → Int32) (ch : Int32) (PC : Nat → Int32) (SF BF : Nat → Nat → Int32) (ps sc bc hh : Nat) (a2 b2 f2 : Nat → Int32) (wa2 : Int32) (lr2 : Value) (nd2 dg2 : Int32) (T2 N2 S2 C2 B2 O2 : Nat → Int32) (ch2 : Int32) (PC2 : Nat → Int32) (SF2 BF2 : Nat → Nat → Int32) (ps2 sc2 hh2 : Nat) (th : Int32) (MX H W : Nat → Int32) (o : Nat → Int64), gI N O PC ps sc bc T C ch SF BF MX (2000 * (k + 1)) → hh ≤ 200 * (k + 1) → chB ch2 (2000 * (k + 1)) → V G (YL nm hd9) Z 10 (10 * m) (750 * m) 1403 [some (.ref G.2.2.2.1), some (.ref g0), some (.ref (z 0)), some (.ref y0), some (.int (nI i)), none, none, none, none] [] (LawM g0 y0 w u z a b f wa lr nd dg B T N S C O ch PC SF BF ps sc bc hh a2 b2 f2 wa2 lr2 nd2 dg2 T2 N2 S2 C2 B2 O2 ch2 PC2 SF2 BF2 ps2 sc2 hh2 th MX H W o)) : V G (YL nm hd9) Z 10 (10 * (m + 1)) (750 * (m + 1)) 236 [some (.ref G.2.2.2.1), some (.ref g0), some (.ref (z 0)), some (.ref y0), some (.int (nI i)), none, none, none, none] [] (LawM g0 y0 w u z a b f wa lr nd dg B T N S C O ch PC SF BF ps sc bc hh a2 b2 f2 wa2 lr2 nd2 dg2 T2 N2 S2 C2 B2 O2 ch2 PC2 SF2 BF2 ps2 sc2 hh2 th MX H W o) := by
  obtain ⟨⟨hps, hsc, hbc⟩, hPC, ⟨hN, hO⟩, hI, hz, hs, hd⟩ := id hG
  obtain ⟨hx, hP9, hW9, hw, hb, ⟨hT, hC, hLK⟩, hM9, hB9⟩ := id hI
  try dsimp only [wb, LawM, ModelM, LakeM, WaysM, WorldM, List.set_cons_succ, List.set_cons_zero, List.append_nil, List.nil_append, List.cons_append, Option.toList, Nat.sub_zero, List.take_succ_cons, List.take_zero]
  refine v_aload_nR (pc := 236) dL_law_236 rfl rfl ?_
  refine v_aload_nR (pc := 237) dL_law_237 rfl rfl ?_
  refine v_iload (pc := 238) dL_law_238 rfl ?_
  refine v_iconst (pc := 240) (v := 1) dL_law_240 rfl ?_
  refine v_iadd (pc := 241) dL_law_241 ?_
  rw [show nI i + 1 = nI (i + 1) from nI_add i 1]
  refine v_sld (pc := 242) (k := (i + 1)) (by omega) hL31 dL_law_242 ?_
  refine v_aload_nR (pc := 243) dL_law_243 rfl rfl ?_
  refine v_iload (pc := 244) dL_law_244 rfl ?_
  refine v_iconst (pc := 246) (v := 2) dL_law_246 rfl ?_
  refine v_iadd (pc := 247) dL_law_247 ?_
  rw [show nI i + 2 = nI (i + 2) from nI_add i 2]
  refine v_sld (pc := 248) (k := (i + 2)) (by omega) hL31 dL_law_248 ?_
  refine v_aload_nR (pc := 249) dL_law_249 rfl rfl ?_
  refine v_iload (pc := 250) dL_law_250 rfl ?_
  refine v_iconst (pc := 252) (v := 3) dL_law_252 rfl ?_
  refine v_iadd (pc := 253) dL_law_253 ?_
  rw [show nI i + 3 = nI (i + 3) from nI_add i 3]
  refine v_sld (pc := 254) (k := (i + 3)) (by omega) hL31 dL_law_254 ?_
  refine v_aload_nR (pc := 255) dL_law_255 rfl rfl ?_
  refine v_callSH5 (pc := 256) (c_L_setSnow hps hsc hbc) ch_L_setSnow q425 q426 [0, 1, 2, 3, 4, 5, 6, 7, 8, 9, 10, 11, 12, 13, 14, 15, 16, 17, 47] (by rfl) (by decide) (fun _ _ h => h) (by omega) (by omega) (by decide) (Nat.le_of_ble_eq_true rfl) dL_law_256 (fun v256 M256 hQ256 => ?_)
  obtain ⟨rfl, o9, ho, rfl⟩ := hQ256
  try dsimp only [wb, LawM, ModelM, LakeM, WaysM, WorldM, List.set_cons_succ, List.set_cons_zero, List.append_nil, List.nil_append, List.cons_append, Option.toList, Nat.sub_zero, List.take_succ_cons, List.take_zero]
  refine v_istore (pc := 259) dL_law_259 (by show _ < 9; decide) rfl ?_
  refine v_aload_nR (pc := 261) dL_law_261 rfl rfl ?_
  refine v_aload_nR (pc := 262) dL_law_262 rfl rfl ?_
  refine v_iload (pc := 263) dL_law_263 rfl ?_
  refine v_iconst (pc := 265) (v := 1) dL_law_265 rfl ?_
  refine v_iadd (pc := 266) dL_law_266 ?_
  rw [show nI i + 1 = nI (i + 1) from nI_add i 1]
  refine v_sld (pc := 267) (k := (i + 1)) (by omega) hL31 dL_law_267 ?_
  refine v_aload_nR (pc := 268) dL_law_268 rfl rfl ?_
  refine v_iload (pc := 269) dL_law_269 rfl ?_
  refine v_iconst (pc := 271) (v := 2) dL_law_271 rfl ?_
  refine v_iadd (pc := 272) dL_law_272 ?_
  rw [show nI i + 2 = nI (i + 2) from nI_add i 2]
  refine v_sld (pc := 273) (k := (i + 2)) (by omega) hL31 dL_law_273 ?_
  refine v_aload_nR (pc := 274) dL_law_274 rfl rfl ?_
  refine v_iload (pc := 275) dL_law_275 rfl ?_
  refine v_iconst (pc := 277) (v := 3) dL_law_277 rfl ?_
  refine v_iadd (pc := 278) dL_law_278 ?_
  rw [show nI i + 3 = nI (i + 3) from nI_add i 3]
  refine v_sld (pc := 279) (k := (i + 3)) (by omega) hL31 dL_law_279 ?_
  refine v_callV3 (pc := 280) (c_X6_setSnow hps hsc hbc) cm_X6_setSnow q882 q883 q884 (ci := 6) rfl rfl (orcO 35 rfl) [35, 36, 37, 38, 39, 40, 41, 42, 43, 44, 45, 46] (by rfl) (by decide) (fun _ _ h => h) (by omega) (by omega) (by decide) (Nat.le_of_ble_eq_true rfl) dL_law_280 (fun v280 M280 hQ280 => ?_)
  obtain ⟨rfl, rfl⟩ := hQ280
  try dsimp only [wb, LawM, ModelM, LakeM, WaysM, WorldM, List.set_cons_succ, List.set_cons_zero, List.append_nil, List.nil_append, List.cons_append, Option.toList, Nat.sub_zero, List.take_succ_cons, List.take_zero]
  refine v_istore (pc := 283) dL_law_283 (by show _ < 9; decide) rfl ?_
  refine v_aload_nR (pc := 285) dL_law_285 rfl rfl ?_
  refine v_callV0 (pc := 286) (c_X6_thrown hps hsc hbc) cm_X6_thrown q848 q849 q850 (ci := 6) rfl rfl (orcO 35 rfl) [35, 36, 37, 38, 39, 40, 41, 42, 43, 44, 45, 46] (by rfl) (by decide) (fun _ _ h => h) (by omega) (by omega) (by decide) (Nat.le_of_ble_eq_true rfl) dL_law_286 (fun v286 M286 hQ286 => ?_)
  obtain ⟨rfl, rfl⟩ := hQ286
  try dsimp only [wb, LawM, ModelM, LakeM, WaysM, WorldM, List.set_cons_succ, List.set_cons_zero, List.append_nil, List.nil_append, List.cons_append, Option.toList, Nat.sub_zero, List.take_succ_cons, List.take_zero]
  refine v_iload (pc := 289) dL_law_289 rfl ?_
  refine v_icmp_eq (pc := 291) (tgt := 296) dL_law_291 (by decide) (fun c291 => ?_) (fun c291 => absurd rfl c291)
  refine v_iload (pc := 296) dL_law_296 rfl ?_
  refine v_if_ne (pc := 298) (tgt := 313) dL_law_298 (by decide) (fun c298 => ?_) (fun c298 => ?_)
  · refine v_goto (pc := 313) (tgt := 1403) dL_law_313 (by decide) ?_
    refine v_room (ck' := 10 * m) (sk' := 750 * m) (by omega) (by omega) ?_
    refine v_sub ?_ (K _ _ _ _ _ _ _ _ _ _ _ _ _ _ _ _ _ _ _ _ _ _ _ _ _ _ _ _ _ _ _ _ _ _ _ _ _ _ _ _ _ _ _ _ _ _ (hG.sn.more (by omega)) (by omega) (hA2.up (by omega)))
    exact ⟨rfl, rfl, rfl, rfl, rfl, trivial⟩
  · refine v_aload_nR (pc := 301) dL_law_301 rfl rfl ?_
    refine v_iconst (pc := 302) (v := 0) dL_law_302 rfl ?_
    refine v_lald (pc := 303) 47 rfl (by unfold vp_in; decide) dL_law_303 ?_
    refine v_iload (pc := 304) dL_law_304 rfl ?_
    refine v_i2l (pc := 306) dL_law_306 ?_
    rw [cl0, ho c298]
    refine v_lcmp (pc := 307) dL_law_307 ?_
    rw [lgc]
    refine v_if_eq (pc := 308) (tgt := 313) dL_law_308 (by decide) (fun c308 => ?_) (fun c308 => absurd rfl c308)
    refine v_goto (pc := 313) (tgt := 1403) dL_law_313 (by decide) ?_
    refine v_room (ck' := 10 * m) (sk' := 750 * m) (by omega) (by omega) ?_
    refine v_sub ?_ (K _ _ _ _ _ _ _ _ _ _ _ _ _ _ _ _ _ _ _ _ _ _ _ _ _ _ _ _ _ _ _ _ _ _ _ _ _ _ _ _ _ _ _ _ _ _ (hG.sn.more (by omega)) (by omega) (hA2.up (by omega)))
    exact ⟨rfl, rfl, rfl, rfl, rfl, trivial⟩
set_option maxRecDepth 100000 in
set_option maxHeartbeats 4000000 in
theorem lw_c2 {G : Cx} {Z : ZT} {g0 y0 : Nat} {w u z : Nat → Nat} {nm : String} {hd9 : List (Nat × Nat × Nat × Nat)} {n5 : Nat} (h5 : n5 = 5) {a b f : Nat → Int32} {wa : Int32} {lr : Value} {nd dg : Int32} {B : Nat → Int32} {T N S C O : Nat → Int32} {ch : Int32} {PC : Nat → Int32} {SF BF : Nat → Nat → Int32} {ps sc bc hh : Nat} {a2 b2 f2 : Nat → Int32} {wa2 : Int32} {lr2 : Value} {nd2 dg2 : Int32} {T2 N2 S2 C2 B2 O2 : Nat → Int32} {ch2 : Int32} {PC2 : Nat → Int32} {SF2 BF2 : Nat → Nat → Int32} {ps2 sc2 hh2 : Nat} {th : Int32} {MX H W : Nat → Int32} {o : Nat → Int64} {m i k : Nat} (hk : k ≤ 514) (hi : i + 6 ≤ G.2.2.2.2.2.1) (hL31 : G.2.2.2.2.2.1 < 2 ^ 31) (hG : gI N O PC ps sc bc T C ch SF BF MX (2000 * k)) (hhk : hh ≤ 200 * k) (hA2 : chB ch2 (2000 * k)) (K : ∀ (a b f : Nat → Int32) (wa : Int32) (lr : Value) (nd dg : Int32) (B : Nat → Int32) (T N S C O : Nat → Int32) (ch : Int32) (PC : Nat → Int32) (SF BF : Nat → Nat → Int32) (ps sc bc hh : Nat) (a2 b2 f2 : Nat → Int32) (wa2 : Int32) (lr2 : Value) (nd2 dg2 : Int32) (T2 N2 S2 C2 B2 O2 : Nat → Int32) (ch2 : Int32) (PC2 : Nat → Int32) (SF2 BF2 : Nat → Nat → Int32) (ps2 sc2 hh2 : Nat) (th : Int32) (MX H W : Nat → Int32) (o : Nat → Int64), gI N O PC ps sc bc T C ch SF BF MX (2000 * (k + 1)) → hh ≤ 200 * (k + 1) → chB ch2 (2000 * (k + 1)) → V G (YL nm hd9) Z 10 (10 * m) (750 * m) 1403 [some (.ref G.2.2.2.1), some (.ref g0), some (.ref (z 0)), some (.ref y0), some (.int (nI i)), none, none, none, none] [] (LawM g0 y0 w u z a b f wa lr nd dg B T N S C O ch PC SF BF ps sc bc hh a2 b2 f2 wa2 lr2 nd2 dg2 T2 N2 S2 C2 B2 O2 ch2 PC2 SF2 BF2 ps2 sc2 hh2 th MX H W o)) : V G (YL nm hd9) Z 10 (10 * (m + 1)) (750 * (m + 1)) 316 [some (.ref G.2.2.2.1), some (.ref g0), some (.ref (z 0)), some (.ref y0), some (.int (nI i)), none, none, none, none] [] (LawM g0 y0 w u z a b f wa lr nd dg B T N S C O ch PC SF BF ps sc bc hh a2 b2 f2 wa2 lr2 nd2 dg2 T2 N2 S2 C2 B2 O2 ch2 PC2 SF2 BF2 ps2 sc2 hh2 th MX H W o) := by
  obtain ⟨⟨hps, hsc, hbc⟩, hPC, ⟨hN, hO⟩, hI, hz, hs, hd⟩ := id hG
  obtain ⟨hx, hP9, hW9, hw, hb, ⟨hT, hC, hLK⟩, hM9, hB9⟩ := id hI
  try dsimp only [wb, LawM, ModelM, LakeM, WaysM, WorldM, List.set_cons_succ, List.set_cons_zero, List.append_nil, List.nil_append, List.cons_append, Option.toList, Nat.sub_zero, List.take_succ_cons, List.take_zero]
  refine v_aload_nR (pc := 316) dL_law_316 rfl rfl ?_
  refine v_aload_nR (pc := 317) dL_law_317 rfl rfl ?_
  refine v_iload (pc := 318) dL_law_318 rfl ?_
  refine v_iconst (pc := 320) (v := 1) dL_law_320 rfl ?_
  refine v_iadd (pc := 321) dL_law_321 ?_
  rw [show nI i + 1 = nI (i + 1) from nI_add i 1]
  refine v_sld (pc := 322) (k := (i + 1)) (by omega) hL31 dL_law_322 ?_
  refine v_aload_nR (pc := 323) dL_law_323 rfl rfl ?_
  refine v_iload (pc := 324) dL_law_324 rfl ?_
  refine v_iconst (pc := 326) (v := 2) dL_law_326 rfl ?_
  refine v_iadd (pc := 327) dL_law_327 ?_
  rw [show nI i + 2 = nI (i + 2) from nI_add i 2]
  refine v_sld (pc := 328) (k := (i + 2)) (by omega) hL31 dL_law_328 ?_
  refine v_aload_nR (pc := 329) dL_law_329 rfl rfl ?_
  refine v_callSH4 (pc := 330) (c_L_setCold hps hsc hbc) ch_L_setCold q458 q459 [0, 1, 2, 3, 4, 5, 6, 7, 8, 9, 10, 11, 12, 13, 14, 15, 16, 17, 47] (by rfl) (by decide) (fun _ _ h => h) (by omega) (by omega) (by decide) (Nat.le_of_ble_eq_true rfl) dL_law_330 (fun v330 M330 hQ330 => ?_)
  obtain ⟨rfl, o9, ho, rfl⟩ := hQ330
  try dsimp only [wb, LawM, ModelM, LakeM, WaysM, WorldM, List.set_cons_succ, List.set_cons_zero, List.append_nil, List.nil_append, List.cons_append, Option.toList, Nat.sub_zero, List.take_succ_cons, List.take_zero]
  refine v_istore (pc := 333) dL_law_333 (by show _ < 9; decide) rfl ?_
  refine v_aload_nR (pc := 335) dL_law_335 rfl rfl ?_
  refine v_aload_nR (pc := 336) dL_law_336 rfl rfl ?_
  refine v_iload (pc := 337) dL_law_337 rfl ?_
  refine v_iconst (pc := 339) (v := 1) dL_law_339 rfl ?_
  refine v_iadd (pc := 340) dL_law_340 ?_
  rw [show nI i + 1 = nI (i + 1) from nI_add i 1]
  refine v_sld (pc := 341) (k := (i + 1)) (by omega) hL31 dL_law_341 ?_
  refine v_aload_nR (pc := 342) dL_law_342 rfl rfl ?_
  refine v_iload (pc := 343) dL_law_343 rfl ?_
  refine v_iconst (pc := 345) (v := 2) dL_law_345 rfl ?_
  refine v_iadd (pc := 346) dL_law_346 ?_
  rw [show nI i + 2 = nI (i + 2) from nI_add i 2]
  refine v_sld (pc := 347) (k := (i + 2)) (by omega) hL31 dL_law_347 ?_
  refine v_callV2 (pc := 348) (c_X6_setCold hps hsc hbc) cm_X6_setCold q886 q887 q888 (ci := 6) rfl rfl (orcO 35 rfl) [35, 36, 37, 38, 39, 40, 41, 42, 43, 44, 45, 46] (by rfl) (by decide) (fun _ _ h => h) (by omega) (by omega) (by decide) (Nat.le_of_ble_eq_true rfl) dL_law_348 (fun v348 M348 hQ348 => ?_)
  obtain ⟨rfl, rfl⟩ := hQ348
  try dsimp only [wb, LawM, ModelM, LakeM, WaysM, WorldM, List.set_cons_succ, List.set_cons_zero, List.append_nil, List.nil_append, List.cons_append, Option.toList, Nat.sub_zero, List.take_succ_cons, List.take_zero]
  refine v_istore (pc := 351) dL_law_351 (by show _ < 9; decide) rfl ?_
  refine v_aload_nR (pc := 353) dL_law_353 rfl rfl ?_
  refine v_callV0 (pc := 354) (c_X6_thrown hps hsc hbc) cm_X6_thrown q848 q849 q850 (ci := 6) rfl rfl (orcO 35 rfl) [35, 36, 37, 38, 39, 40, 41, 42, 43, 44, 45, 46] (by rfl) (by decide) (fun _ _ h => h) (by omega) (by omega) (by decide) (Nat.le_of_ble_eq_true rfl) dL_law_354 (fun v354 M354 hQ354 => ?_)
  obtain ⟨rfl, rfl⟩ := hQ354
  try dsimp only [wb, LawM, ModelM, LakeM, WaysM, WorldM, List.set_cons_succ, List.set_cons_zero, List.append_nil, List.nil_append, List.cons_append, Option.toList, Nat.sub_zero, List.take_succ_cons, List.take_zero]
  refine v_iload (pc := 357) dL_law_357 rfl ?_
  refine v_icmp_eq (pc := 359) (tgt := 364) dL_law_359 (by decide) (fun c359 => ?_) (fun c359 => absurd rfl c359)
  refine v_iload (pc := 364) dL_law_364 rfl ?_
  refine v_if_ne (pc := 366) (tgt := 381) dL_law_366 (by decide) (fun c366 => ?_) (fun c366 => ?_)
  · refine v_goto (pc := 381) (tgt := 1403) dL_law_381 (by decide) ?_
    refine v_room (ck' := 10 * m) (sk' := 750 * m) (by omega) (by omega) ?_
    refine v_sub ?_ (K _ _ _ _ _ _ _ _ _ _ _ _ _ _ _ _ _ _ _ _ _ _ _ _ _ _ _ _ _ _ _ _ _ _ _ _ _ _ _ _ _ _ _ _ _ _ (hG.co.more (by omega)) (by omega) (hA2.up (by omega)))
    exact ⟨rfl, rfl, rfl, rfl, rfl, trivial⟩
  · refine v_aload_nR (pc := 369) dL_law_369 rfl rfl ?_
    refine v_iconst (pc := 370) (v := 0) dL_law_370 rfl ?_
    refine v_lald (pc := 371) 47 rfl (by unfold vp_in; decide) dL_law_371 ?_
    refine v_iload (pc := 372) dL_law_372 rfl ?_
    refine v_i2l (pc := 374) dL_law_374 ?_
    rw [cl0, ho c366]
    refine v_lcmp (pc := 375) dL_law_375 ?_
    rw [lgc]
    refine v_if_eq (pc := 376) (tgt := 381) dL_law_376 (by decide) (fun c376 => ?_) (fun c376 => absurd rfl c376)
    refine v_goto (pc := 381) (tgt := 1403) dL_law_381 (by decide) ?_
    refine v_room (ck' := 10 * m) (sk' := 750 * m) (by omega) (by omega) ?_
    refine v_sub ?_ (K _ _ _ _ _ _ _ _ _ _ _ _ _ _ _ _ _ _ _ _ _ _ _ _ _ _ _ _ _ _ _ _ _ _ _ _ _ _ _ _ _ _ _ _ _ _ (hG.co.more (by omega)) (by omega) (hA2.up (by omega)))
    exact ⟨rfl, rfl, rfl, rfl, rfl, trivial⟩
set_option maxRecDepth 100000 in
set_option maxHeartbeats 4000000 in
theorem lw_c3 {G : Cx} {Z : ZT} {g0 y0 : Nat} {w u z : Nat → Nat} {nm : String} {hd9 : List (Nat × Nat × Nat × Nat)} {n5 : Nat} (h5 : n5 = 5) {a b f : Nat → Int32} {wa : Int32} {lr : Value} {nd dg : Int32} {B : Nat → Int32} {T N S C O : Nat → Int32} {ch : Int32} {PC : Nat → Int32} {SF BF : Nat → Nat → Int32} {ps sc bc hh : Nat} {a2 b2 f2 : Nat → Int32} {wa2 : Int32} {lr2 : Value} {nd2 dg2 : Int32} {T2 N2 S2 C2 B2 O2 : Nat → Int32} {ch2 : Int32} {PC2 : Nat → Int32} {SF2 BF2 : Nat → Nat → Int32} {ps2 sc2 hh2 : Nat} {th : Int32} {MX H W : Nat → Int32} {o : Nat → Int64} {m i k : Nat} (hk : k ≤ 514) (hi : i + 6 ≤ G.2.2.2.2.2.1) (hL31 : G.2.2.2.2.2.1 < 2 ^ 31) (hG : gI N O PC ps sc bc T C ch SF BF MX (2000 * k)) (hhk : hh ≤ 200 * k) (hA2 : chB ch2 (2000 * k)) (K : ∀ (a b f : Nat → Int32) (wa : Int32) (lr : Value) (nd dg : Int32) (B : Nat → Int32) (T N S C O : Nat → Int32) (ch : Int32) (PC : Nat → Int32) (SF BF : Nat → Nat → Int32) (ps sc bc hh : Nat) (a2 b2 f2 : Nat → Int32) (wa2 : Int32) (lr2 : Value) (nd2 dg2 : Int32) (T2 N2 S2 C2 B2 O2 : Nat → Int32) (ch2 : Int32) (PC2 : Nat → Int32) (SF2 BF2 : Nat → Nat → Int32) (ps2 sc2 hh2 : Nat) (th : Int32) (MX H W : Nat → Int32) (o : Nat → Int64), gI N O PC ps sc bc T C ch SF BF MX (2000 * (k + 1)) → hh ≤ 200 * (k + 1) → chB ch2 (2000 * (k + 1)) → V G (YL nm hd9) Z 10 (10 * m) (750 * m) 1403 [some (.ref G.2.2.2.1), some (.ref g0), some (.ref (z 0)), some (.ref y0), some (.int (nI i)), none, none, none, none] [] (LawM g0 y0 w u z a b f wa lr nd dg B T N S C O ch PC SF BF ps sc bc hh a2 b2 f2 wa2 lr2 nd2 dg2 T2 N2 S2 C2 B2 O2 ch2 PC2 SF2 BF2 ps2 sc2 hh2 th MX H W o)) : V G (YL nm hd9) Z 10 (10 * (m + 1)) (750 * (m + 1)) 384 [some (.ref G.2.2.2.1), some (.ref g0), some (.ref (z 0)), some (.ref y0), some (.int (nI i)), none, none, none, none] [] (LawM g0 y0 w u z a b f wa lr nd dg B T N S C O ch PC SF BF ps sc bc hh a2 b2 f2 wa2 lr2 nd2 dg2 T2 N2 S2 C2 B2 O2 ch2 PC2 SF2 BF2 ps2 sc2 hh2 th MX H W o) := by
  obtain ⟨⟨hps, hsc, hbc⟩, hPC, ⟨hN, hO⟩, hI, hz, hs, hd⟩ := id hG
  obtain ⟨hx, hP9, hW9, hw, hb, ⟨hT, hC, hLK⟩, hM9, hB9⟩ := id hI
  try dsimp only [wb, LawM, ModelM, LakeM, WaysM, WorldM, List.set_cons_succ, List.set_cons_zero, List.append_nil, List.nil_append, List.cons_append, Option.toList, Nat.sub_zero, List.take_succ_cons, List.take_zero]
  refine v_aload_nR (pc := 384) dL_law_384 rfl rfl ?_
  refine v_aload_nR (pc := 385) dL_law_385 rfl rfl ?_
  refine v_iload (pc := 386) dL_law_386 rfl ?_
  refine v_iconst (pc := 388) (v := 1) dL_law_388 rfl ?_
  refine v_iadd (pc := 389) dL_law_389 ?_
  rw [show nI i + 1 = nI (i + 1) from nI_add i 1]
  refine v_sld (pc := 390) (k := (i + 1)) (by omega) hL31 dL_law_390 ?_
  refine v_aload_nR (pc := 391) dL_law_391 rfl rfl ?_
  refine v_iload (pc := 392) dL_law_392 rfl ?_
  refine v_iconst (pc := 394) (v := 2) dL_law_394 rfl ?_
  refine v_iadd (pc := 395) dL_law_395 ?_
  rw [show nI i + 2 = nI (i + 2) from nI_add i 2]
  refine v_sld (pc := 396) (k := (i + 2)) (by omega) hL31 dL_law_396 ?_
  refine v_aload_nR (pc := 397) dL_law_397 rfl rfl ?_
  refine v_iload (pc := 398) dL_law_398 rfl ?_
  refine v_iconst (pc := 400) (v := 3) dL_law_400 rfl ?_
  refine v_iadd (pc := 401) dL_law_401 ?_
  rw [show nI i + 3 = nI (i + 3) from nI_add i 3]
  refine v_sld (pc := 402) (k := (i + 3)) (by omega) hL31 dL_law_402 ?_
  refine v_aload_nR (pc := 403) dL_law_403 rfl rfl ?_
  refine v_callSH5 (pc := 404) (c_L_cell hps hsc hbc) ch_L_cell q467 q468 [0, 1, 2, 3, 4, 5, 6, 7, 8, 9, 10, 11, 12, 13, 14, 15, 16, 17, 47] (by rfl) (by decide) (fun _ _ h => h) (by omega) (by omega) (by decide) (Nat.le_of_ble_eq_true rfl) dL_law_404 (fun v404 M404 hQ404 => ?_)
  obtain ⟨rfl, o9, ho, rfl⟩ := hQ404
  try dsimp only [wb, LawM, ModelM, LakeM, WaysM, WorldM, List.set_cons_succ, List.set_cons_zero, List.append_nil, List.nil_append, List.cons_append, Option.toList, Nat.sub_zero, List.take_succ_cons, List.take_zero]
  refine v_istore (pc := 407) dL_law_407 (by show _ < 9; decide) rfl ?_
  refine v_aload_nR (pc := 409) dL_law_409 rfl rfl ?_
  refine v_aload_nR (pc := 410) dL_law_410 rfl rfl ?_
  refine v_iload (pc := 411) dL_law_411 rfl ?_
  refine v_iconst (pc := 413) (v := 1) dL_law_413 rfl ?_
  refine v_iadd (pc := 414) dL_law_414 ?_
  rw [show nI i + 1 = nI (i + 1) from nI_add i 1]
  refine v_sld (pc := 415) (k := (i + 1)) (by omega) hL31 dL_law_415 ?_
  refine v_aload_nR (pc := 416) dL_law_416 rfl rfl ?_
  refine v_iload (pc := 417) dL_law_417 rfl ?_
  refine v_iconst (pc := 419) (v := 2) dL_law_419 rfl ?_
  refine v_iadd (pc := 420) dL_law_420 ?_
  rw [show nI i + 2 = nI (i + 2) from nI_add i 2]
  refine v_sld (pc := 421) (k := (i + 2)) (by omega) hL31 dL_law_421 ?_
  refine v_aload_nR (pc := 422) dL_law_422 rfl rfl ?_
  refine v_iload (pc := 423) dL_law_423 rfl ?_
  refine v_iconst (pc := 425) (v := 3) dL_law_425 rfl ?_
  refine v_iadd (pc := 426) dL_law_426 ?_
  rw [show nI i + 3 = nI (i + 3) from nI_add i 3]
  refine v_sld (pc := 427) (k := (i + 3)) (by omega) hL31 dL_law_427 ?_
  refine v_callV3 (pc := 428) (c_X6_cell hps hsc hbc hC) cm_X6_cell q890 q891 q892 (ci := 6) rfl rfl (orcO 35 rfl) [35, 36, 37, 38, 39, 40, 41, 42, 43, 44, 45, 46] (by rfl) (by decide) (fun _ _ h => h) (by omega) (by omega) (by decide) (Nat.le_of_ble_eq_true rfl) dL_law_428 (fun v428 M428 hQ428 => ?_)
  obtain ⟨rfl, rfl⟩ := hQ428
  try dsimp only [wb, LawM, ModelM, LakeM, WaysM, WorldM, List.set_cons_succ, List.set_cons_zero, List.append_nil, List.nil_append, List.cons_append, Option.toList, Nat.sub_zero, List.take_succ_cons, List.take_zero]
  refine v_istore (pc := 431) dL_law_431 (by show _ < 9; decide) rfl ?_
  refine v_aload_nR (pc := 433) dL_law_433 rfl rfl ?_
  refine v_callV0 (pc := 434) (c_X6_thrown hps hsc hbc) cm_X6_thrown q848 q849 q850 (ci := 6) rfl rfl (orcO 35 rfl) [35, 36, 37, 38, 39, 40, 41, 42, 43, 44, 45, 46] (by rfl) (by decide) (fun _ _ h => h) (by omega) (by omega) (by decide) (Nat.le_of_ble_eq_true rfl) dL_law_434 (fun v434 M434 hQ434 => ?_)
  obtain ⟨rfl, rfl⟩ := hQ434
  try dsimp only [wb, LawM, ModelM, LakeM, WaysM, WorldM, List.set_cons_succ, List.set_cons_zero, List.append_nil, List.nil_append, List.cons_append, Option.toList, Nat.sub_zero, List.take_succ_cons, List.take_zero]
  refine v_iload (pc := 437) dL_law_437 rfl ?_
  refine v_icmp_eq (pc := 439) (tgt := 444) dL_law_439 (by decide) (fun c439 => ?_) (fun c439 => absurd rfl c439)
  refine v_iload (pc := 444) dL_law_444 rfl ?_
  refine v_if_ne (pc := 446) (tgt := 461) dL_law_446 (by decide) (fun c446 => ?_) (fun c446 => ?_)
  · refine v_goto (pc := 461) (tgt := 1403) dL_law_461 (by decide) ?_
    refine v_room (ck' := 10 * m) (sk' := 750 * m) (by omega) (by omega) ?_
    refine v_sub ?_ (K _ _ _ _ _ _ _ _ _ _ _ _ _ _ _ _ _ _ _ _ _ _ _ _ _ _ _ _ _ _ _ _ _ _ _ _ _ _ _ _ _ _ _ _ _ _ (hG.more (by omega)) (by omega) (hA2.up (by omega)))
    exact ⟨rfl, rfl, rfl, rfl, rfl, trivial⟩
  · refine v_aload_nR (pc := 449) dL_law_449 rfl rfl ?_
    refine v_iconst (pc := 450) (v := 0) dL_law_450 rfl ?_
    refine v_lald (pc := 451) 47 rfl (by unfold vp_in; decide) dL_law_451 ?_
    refine v_iload (pc := 452) dL_law_452 rfl ?_
    refine v_i2l (pc := 454) dL_law_454 ?_
    rw [cl0, ho c446]
    refine v_lcmp (pc := 455) dL_law_455 ?_
    rw [lgc]
    refine v_if_eq (pc := 456) (tgt := 461) dL_law_456 (by decide) (fun c456 => ?_) (fun c456 => absurd rfl c456)
    refine v_goto (pc := 461) (tgt := 1403) dL_law_461 (by decide) ?_
    refine v_room (ck' := 10 * m) (sk' := 750 * m) (by omega) (by omega) ?_
    refine v_sub ?_ (K _ _ _ _ _ _ _ _ _ _ _ _ _ _ _ _ _ _ _ _ _ _ _ _ _ _ _ _ _ _ _ _ _ _ _ _ _ _ _ _ _ _ _ _ _ _ (hG.more (by omega)) (by omega) (hA2.up (by omega)))
    exact ⟨rfl, rfl, rfl, rfl, rfl, trivial⟩
set_option maxRecDepth 100000 in
set_option maxHeartbeats 4000000 in
theorem lw_c4 {G : Cx} {Z : ZT} {g0 y0 : Nat} {w u z : Nat → Nat} {nm : String} {hd9 : List (Nat × Nat × Nat × Nat)} {n5 : Nat} (h5 : n5 = 5) {a b f : Nat → Int32} {wa : Int32} {lr : Value} {nd dg : Int32} {B : Nat → Int32} {T N S C O : Nat → Int32} {ch : Int32} {PC : Nat → Int32} {SF BF : Nat → Nat → Int32} {ps sc bc hh : Nat} {a2 b2 f2 : Nat → Int32} {wa2 : Int32} {lr2 : Value} {nd2 dg2 : Int32} {T2 N2 S2 C2 B2 O2 : Nat → Int32} {ch2 : Int32} {PC2 : Nat → Int32} {SF2 BF2 : Nat → Nat → Int32} {ps2 sc2 hh2 : Nat} {th : Int32} {MX H W : Nat → Int32} {o : Nat → Int64} {m i k : Nat} (hk : k ≤ 514) (hi : i + 6 ≤ G.2.2.2.2.2.1) (hL31 : G.2.2.2.2.2.1 < 2 ^ 31) (hG : gI N O PC ps sc bc T C ch SF BF MX (2000 * k)) (hhk : hh ≤ 200 * k) (hA2 : chB ch2 (2000 * k)) (K : ∀ (a b f : Nat → Int32) (wa : Int32) (lr : Value) (nd dg : Int32) (B : Nat → Int32) (T N S C O : Nat → Int32) (ch : Int32) (PC : Nat → Int32) (SF BF : Nat → Nat → Int32) (ps sc bc hh : Nat) (a2 b2 f2 : Nat → Int32) (wa2 : Int32) (lr2 : Value) (nd2 dg2 : Int32) (T2 N2 S2 C2 B2 O2 : Nat → Int32) (ch2 : Int32) (PC2 : Nat → Int32) (SF2 BF2 : Nat → Nat → Int32) (ps2 sc2 hh2 : Nat) (th : Int32) (MX H W : Nat → Int32) (o : Nat → Int64), gI N O PC ps sc bc T C ch SF BF MX (2000 * (k + 1)) → hh ≤ 200 * (k + 1) → chB ch2 (2000 * (k + 1)) → V G (YL nm hd9) Z 10 (10 * m) (750 * m) 1403 [some (.ref G.2.2.2.1), some (.ref g0), some (.ref (z 0)), some (.ref y0), some (.int (nI i)), none, none, none, none] [] (LawM g0 y0 w u z a b f wa lr nd dg B T N S C O ch PC SF BF ps sc bc hh a2 b2 f2 wa2 lr2 nd2 dg2 T2 N2 S2 C2 B2 O2 ch2 PC2 SF2 BF2 ps2 sc2 hh2 th MX H W o)) : V G (YL nm hd9) Z 10 (10 * (m + 1)) (750 * (m + 1)) 464 [some (.ref G.2.2.2.1), some (.ref g0), some (.ref (z 0)), some (.ref y0), some (.int (nI i)), none, none, none, none] [] (LawM g0 y0 w u z a b f wa lr nd dg B T N S C O ch PC SF BF ps sc bc hh a2 b2 f2 wa2 lr2 nd2 dg2 T2 N2 S2 C2 B2 O2 ch2 PC2 SF2 BF2 ps2 sc2 hh2 th MX H W o) := by
  obtain ⟨⟨hps, hsc, hbc⟩, hPC, ⟨hN, hO⟩, hI, hz, hs, hd⟩ := id hG
  obtain ⟨hx, hP9, hW9, hw, hb, ⟨hT, hC, hLK⟩, hM9, hB9⟩ := id hI
  try dsimp only [wb, LawM, ModelM, LakeM, WaysM, WorldM, List.set_cons_succ, List.set_cons_zero, List.append_nil, List.nil_append, List.cons_append, Option.toList, Nat.sub_zero, List.take_succ_cons, List.take_zero]
  refine v_aload_nR (pc := 464) dL_law_464 rfl rfl ?_
  refine v_aload_nR (pc := 465) dL_law_465 rfl rfl ?_
  refine v_iload (pc := 466) dL_law_466 rfl ?_
  refine v_iconst (pc := 468) (v := 1) dL_law_468 rfl ?_
  refine v_iadd (pc := 469) dL_law_469 ?_
  rw [show nI i + 1 = nI (i + 1) from nI_add i 1]
  refine v_sld (pc := 470) (k := (i + 1)) (by omega) hL31 dL_law_470 ?_
  refine v_aload_nR (pc := 471) dL_law_471 rfl rfl ?_
  refine v_iload (pc := 472) dL_law_472 rfl ?_
  refine v_iconst (pc := 474) (v := 2) dL_law_474 rfl ?_
  refine v_iadd (pc := 475) dL_law_475 ?_
  rw [show nI i + 2 = nI (i + 2) from nI_add i 2]
  refine v_sld (pc := 476) (k := (i + 2)) (by omega) hL31 dL_law_476 ?_
  refine v_aload_nR (pc := 477) dL_law_477 rfl rfl ?_
  refine v_callSH4 (pc := 478) (c_L_addPost hps hsc hbc) ch_L_addPost q492 q493 [0, 1, 2, 3, 4, 5, 6, 7, 8, 9, 10, 11, 12, 13, 14, 15, 16, 17, 47] (by rfl) (by decide) (fun _ _ h => h) (by omega) (by omega) (by decide) (Nat.le_of_ble_eq_true rfl) dL_law_478 (fun v478 M478 hQ478 => ?_)
  obtain ⟨rfl, o9, ho, rfl⟩ := hQ478
  try dsimp only [wb, LawM, ModelM, LakeM, WaysM, WorldM, List.set_cons_succ, List.set_cons_zero, List.append_nil, List.nil_append, List.cons_append, Option.toList, Nat.sub_zero, List.take_succ_cons, List.take_zero]
  refine v_istore (pc := 481) dL_law_481 (by show _ < 9; decide) rfl ?_
  refine v_aload_nR (pc := 483) dL_law_483 rfl rfl ?_
  refine v_aload_nR (pc := 484) dL_law_484 rfl rfl ?_
  refine v_iload (pc := 485) dL_law_485 rfl ?_
  refine v_iconst (pc := 487) (v := 1) dL_law_487 rfl ?_
  refine v_iadd (pc := 488) dL_law_488 ?_
  rw [show nI i + 1 = nI (i + 1) from nI_add i 1]
  refine v_sld (pc := 489) (k := (i + 1)) (by omega) hL31 dL_law_489 ?_
  refine v_aload_nR (pc := 490) dL_law_490 rfl rfl ?_
  refine v_iload (pc := 491) dL_law_491 rfl ?_
  refine v_iconst (pc := 493) (v := 2) dL_law_493 rfl ?_
  refine v_iadd (pc := 494) dL_law_494 ?_
  rw [show nI i + 2 = nI (i + 2) from nI_add i 2]
  refine v_sld (pc := 495) (k := (i + 2)) (by omega) hL31 dL_law_495 ?_
  refine v_callV2 (pc := 496) (c_X6_addPost hps hsc hbc (ch := ch)) cm_X6_addPost q894 q895 q896 (ci := 6) rfl rfl (orcO 35 rfl) [35, 36, 37, 38, 39, 40, 41, 42, 43, 44, 45, 46] (by rfl) (by decide) (fun _ _ h => h) (by omega) (by omega) (by decide) (Nat.le_of_ble_eq_true rfl) dL_law_496 (fun v496 M496 hQ496 => ?_)
  obtain ⟨rfl, rfl⟩ := hQ496
  try dsimp only [wb, LawM, ModelM, LakeM, WaysM, WorldM, List.set_cons_succ, List.set_cons_zero, List.append_nil, List.nil_append, List.cons_append, Option.toList, Nat.sub_zero, List.take_succ_cons, List.take_zero]
  refine v_istore (pc := 499) dL_law_499 (by show _ < 9; decide) rfl ?_
  refine v_aload_nR (pc := 501) dL_law_501 rfl rfl ?_
  refine v_callV0 (pc := 502) (c_X6_thrown (hG.ap (S := S) (x := G.2.2.2.2.2.2 (i + 1)) (y := G.2.2.2.2.2.2 (i + 2)) (by omega)).1.1 hsc hbc) cm_X6_thrown q848 q849 q850 (ci := 6) rfl rfl (orcO 35 rfl) [35, 36, 37, 38, 39, 40, 41, 42, 43, 44, 45, 46] (by rfl) (by decide) (fun _ _ h => h) (by omega) (by omega) (by decide) (Nat.le_of_ble_eq_true rfl) dL_law_502 (fun v502 M502 hQ502 => ?_)
  obtain ⟨rfl, rfl⟩ := hQ502
  try dsimp only [wb, LawM, ModelM, LakeM, WaysM, WorldM, List.set_cons_succ, List.set_cons_zero, List.append_nil, List.nil_append, List.cons_append, Option.toList, Nat.sub_zero, List.take_succ_cons, List.take_zero]
  refine v_iload (pc := 505) dL_law_505 rfl ?_
  refine v_icmp_eq (pc := 507) (tgt := 512) dL_law_507 (by decide) (fun c507 => ?_) (fun c507 => absurd rfl c507)
  refine v_iload (pc := 512) dL_law_512 rfl ?_
  refine v_if_ne (pc := 514) (tgt := 529) dL_law_514 (by decide) (fun c514 => ?_) (fun c514 => ?_)
  · refine v_goto (pc := 529) (tgt := 1403) dL_law_529 (by decide) ?_
    refine v_room (ck' := 10 * m) (sk' := 750 * m) (by omega) (by omega) ?_
    refine v_sub ?_ (K _ _ _ _ _ _ _ _ _ _ _ _ _ _ _ _ _ _ _ _ _ _ _ _ _ _ _ _ _ _ _ _ _ _ _ _ _ _ _ _ _ _ _ _ _ _ ((hG.ap (by omega)).more (by omega)) (by omega) (hA2.up (by omega)))
    exact ⟨rfl, rfl, rfl, rfl, rfl, trivial⟩
  · refine v_aload_nR (pc := 517) dL_law_517 rfl rfl ?_
    refine v_iconst (pc := 518) (v := 0) dL_law_518 rfl ?_
    refine v_lald (pc := 519) 47 rfl (by unfold vp_in; decide) dL_law_519 ?_
    refine v_iload (pc := 520) dL_law_520 rfl ?_
    refine v_i2l (pc := 522) dL_law_522 ?_
    rw [cl0, ho c514]
    refine v_lcmp (pc := 523) dL_law_523 ?_
    rw [lgc]
    refine v_if_eq (pc := 524) (tgt := 529) dL_law_524 (by decide) (fun c524 => ?_) (fun c524 => absurd rfl c524)
    refine v_goto (pc := 529) (tgt := 1403) dL_law_529 (by decide) ?_
    refine v_room (ck' := 10 * m) (sk' := 750 * m) (by omega) (by omega) ?_
    refine v_sub ?_ (K _ _ _ _ _ _ _ _ _ _ _ _ _ _ _ _ _ _ _ _ _ _ _ _ _ _ _ _ _ _ _ _ _ _ _ _ _ _ _ _ _ _ _ _ _ _ ((hG.ap (by omega)).more (by omega)) (by omega) (hA2.up (by omega)))
    exact ⟨rfl, rfl, rfl, rfl, rfl, trivial⟩
set_option maxRecDepth 100000 in
set_option maxHeartbeats 4000000 in
theorem lw_c5 {G : Cx} {Z : ZT} {g0 y0 : Nat} {w u z : Nat → Nat} {nm : String} {hd9 : List (Nat × Nat × Nat × Nat)} {n5 : Nat} (h5 : n5 = 5) {a b f : Nat → Int32} {wa : Int32} {lr : Value} {nd dg : Int32} {B : Nat → Int32} {T N S C O : Nat → Int32} {ch : Int32} {PC : Nat → Int32} {SF BF : Nat → Nat → Int32} {ps sc bc hh : Nat} {a2 b2 f2 : Nat → Int32} {wa2 : Int32} {lr2 : Value} {nd2 dg2 : Int32} {T2 N2 S2 C2 B2 O2 : Nat → Int32} {ch2 : Int32} {PC2 : Nat → Int32} {SF2 BF2 : Nat → Nat → Int32} {ps2 sc2 hh2 : Nat} {th : Int32} {MX H W : Nat → Int32} {o : Nat → Int64} {m i k : Nat} (hk : k ≤ 514) (hi : i + 6 ≤ G.2.2.2.2.2.1) (hL31 : G.2.2.2.2.2.1 < 2 ^ 31) (hG : gI N O PC ps sc bc T C ch SF BF MX (2000 * k)) (hhk : hh ≤ 200 * k) (hA2 : chB ch2 (2000 * k)) (K : ∀ (a b f : Nat → Int32) (wa : Int32) (lr : Value) (nd dg : Int32) (B : Nat → Int32) (T N S C O : Nat → Int32) (ch : Int32) (PC : Nat → Int32) (SF BF : Nat → Nat → Int32) (ps sc bc hh : Nat) (a2 b2 f2 : Nat → Int32) (wa2 : Int32) (lr2 : Value) (nd2 dg2 : Int32) (T2 N2 S2 C2 B2 O2 : Nat → Int32) (ch2 : Int32) (PC2 : Nat → Int32) (SF2 BF2 : Nat → Nat → Int32) (ps2 sc2 hh2 : Nat) (th : Int32) (MX H W : Nat → Int32) (o : Nat → Int64), gI N O PC ps sc bc T C ch SF BF MX (2000 * (k + 1)) → hh ≤ 200 * (k + 1) → chB ch2 (2000 * (k + 1)) → V G (YL nm hd9) Z 10 (10 * m) (750 * m) 1403 [some (.ref G.2.2.2.1), some (.ref g0), some (.ref (z 0)), some (.ref y0), some (.int (nI i)), none, none, none, none] [] (LawM g0 y0 w u z a b f wa lr nd dg B T N S C O ch PC SF BF ps sc bc hh a2 b2 f2 wa2 lr2 nd2 dg2 T2 N2 S2 C2 B2 O2 ch2 PC2 SF2 BF2 ps2 sc2 hh2 th MX H W o)) : V G (YL nm hd9) Z 10 (10 * (m + 1)) (750 * (m + 1)) 532 [some (.ref G.2.2.2.1), some (.ref g0), some (.ref (z 0)), some (.ref y0), some (.int (nI i)), none, none, none, none] [] (LawM g0 y0 w u z a b f wa lr nd dg B T N S C O ch PC SF BF ps sc bc hh a2 b2 f2 wa2 lr2 nd2 dg2 T2 N2 S2 C2 B2 O2 ch2 PC2 SF2 BF2 ps2 sc2 hh2 th MX H W o) := by
  obtain ⟨⟨hps, hsc, hbc⟩, hPC, ⟨hN, hO⟩, hI, hz, hs, hd⟩ := id hG
  obtain ⟨hx, hP9, hW9, hw, hb, ⟨hT, hC, hLK⟩, hM9, hB9⟩ := id hI
  try dsimp only [wb, LawM, ModelM, LakeM, WaysM, WorldM, List.set_cons_succ, List.set_cons_zero, List.append_nil, List.nil_append, List.cons_append, Option.toList, Nat.sub_zero, List.take_succ_cons, List.take_zero]
  refine v_aload_nR (pc := 532) dL_law_532 rfl rfl ?_
  refine v_aload_nR (pc := 533) dL_law_533 rfl rfl ?_
  refine v_iload (pc := 534) dL_law_534 rfl ?_
  refine v_iconst (pc := 536) (v := 1) dL_law_536 rfl ?_
  refine v_iadd (pc := 537) dL_law_537 ?_
  rw [show nI i + 1 = nI (i + 1) from nI_add i 1]
  refine v_sld (pc := 538) (k := (i + 1)) (by omega) hL31 dL_law_538 ?_
  refine v_aload_nR (pc := 539) dL_law_539 rfl rfl ?_
  refine v_iload (pc := 540) dL_law_540 rfl ?_
  refine v_iconst (pc := 542) (v := 2) dL_law_542 rfl ?_
  refine v_iadd (pc := 543) dL_law_543 ?_
  rw [show nI i + 2 = nI (i + 2) from nI_add i 2]
  refine v_sld (pc := 544) (k := (i + 2)) (by omega) hL31 dL_law_544 ?_
  refine v_aload_nR (pc := 545) dL_law_545 rfl rfl ?_
  refine v_callSH4 (pc := 546) (c_L_addSleigh hps hsc hbc) ch_L_addSleigh q506 q507 [0, 1, 2, 3, 4, 5, 6, 7, 8, 9, 10, 11, 12, 13, 14, 15, 16, 17, 47] (by rfl) (by decide) (fun _ _ h => h) (by omega) (by omega) (by decide) (Nat.le_of_ble_eq_true rfl) dL_law_546 (fun v546 M546 hQ546 => ?_)
  obtain ⟨rfl, o9, ho, rfl⟩ := hQ546
  try dsimp only [wb, LawM, ModelM, LakeM, WaysM, WorldM, List.set_cons_succ, List.set_cons_zero, List.append_nil, List.nil_append, List.cons_append, Option.toList, Nat.sub_zero, List.take_succ_cons, List.take_zero]
  refine v_istore (pc := 549) dL_law_549 (by show _ < 9; decide) rfl ?_
  refine v_aload_nR (pc := 551) dL_law_551 rfl rfl ?_
  refine v_aload_nR (pc := 552) dL_law_552 rfl rfl ?_
  refine v_iload (pc := 553) dL_law_553 rfl ?_
  refine v_iconst (pc := 555) (v := 1) dL_law_555 rfl ?_
  refine v_iadd (pc := 556) dL_law_556 ?_
  rw [show nI i + 1 = nI (i + 1) from nI_add i 1]
  refine v_sld (pc := 557) (k := (i + 1)) (by omega) hL31 dL_law_557 ?_
  refine v_aload_nR (pc := 558) dL_law_558 rfl rfl ?_
  refine v_iload (pc := 559) dL_law_559 rfl ?_
  refine v_iconst (pc := 561) (v := 2) dL_law_561 rfl ?_
  refine v_iadd (pc := 562) dL_law_562 ?_
  rw [show nI i + 2 = nI (i + 2) from nI_add i 2]
  refine v_sld (pc := 563) (k := (i + 2)) (by omega) hL31 dL_law_563 ?_
  refine v_callV2 (pc := 564) (c_X6_addSleigh hps hsc hbc (fun _ => hs sc (Nat.le_refl _))) cm_X6_addSleigh q898 q899 q900 (ci := 6) rfl rfl (orcO 35 rfl) [35, 36, 37, 38, 39, 40, 41, 42, 43, 44, 45, 46] (by rfl) (by decide) (fun _ _ h => h) (by omega) (by omega) (by decide) (Nat.le_of_ble_eq_true rfl) dL_law_564 (fun v564 M564 hQ564 => ?_)
  obtain ⟨rfl, MX9, rfl, hMX⟩ := hQ564
  try dsimp only [wb, LawM, ModelM, LakeM, WaysM, WorldM, List.set_cons_succ, List.set_cons_zero, List.append_nil, List.nil_append, List.cons_append, Option.toList, Nat.sub_zero, List.take_succ_cons, List.take_zero]
  refine v_istore (pc := 567) dL_law_567 (by show _ < 9; decide) rfl ?_
  refine v_aload_nR (pc := 569) dL_law_569 rfl rfl ?_
  refine v_callV0 (pc := 570) (c_X6_thrown hps (hG.as (q := G.2.2.2.2.2.2 (i + 1)) (r := G.2.2.2.2.2.2 (i + 2)) hMX).1.2.1 hbc) cm_X6_thrown q848 q849 q850 (ci := 6) rfl rfl (orcO 35 rfl) [35, 36, 37, 38, 39, 40, 41, 42, 43, 44, 45, 46] (by rfl) (by decide) (fun _ _ h => h) (by omega) (by omega) (by decide) (Nat.le_of_ble_eq_true rfl) dL_law_570 (fun v570 M570 hQ570 => ?_)
  obtain ⟨rfl, rfl⟩ := hQ570
  try dsimp only [wb, LawM, ModelM, LakeM, WaysM, WorldM, List.set_cons_succ, List.set_cons_zero, List.append_nil, List.nil_append, List.cons_append, Option.toList, Nat.sub_zero, List.take_succ_cons, List.take_zero]
  refine v_iload (pc := 573) dL_law_573 rfl ?_
  refine v_icmp_eq (pc := 575) (tgt := 580) dL_law_575 (by decide) (fun c575 => ?_) (fun c575 => absurd rfl c575)
  refine v_iload (pc := 580) dL_law_580 rfl ?_
  refine v_if_ne (pc := 582) (tgt := 597) dL_law_582 (by decide) (fun c582 => ?_) (fun c582 => ?_)
  · refine v_goto (pc := 597) (tgt := 1403) dL_law_597 (by decide) ?_
    refine v_room (ck' := 10 * m) (sk' := 750 * m) (by omega) (by omega) ?_
    refine v_sub ?_ (K _ _ _ _ _ _ _ _ _ _ _ _ _ _ _ _ _ _ _ _ _ _ _ _ _ _ _ _ _ _ _ _ _ _ _ _ _ _ _ _ _ _ _ _ _ _ ((hG.as hMX).more (by omega)) (by omega) (hA2.up (by omega)))
    exact ⟨rfl, rfl, rfl, rfl, rfl, trivial⟩
  · refine v_aload_nR (pc := 585) dL_law_585 rfl rfl ?_
    refine v_iconst (pc := 586) (v := 0) dL_law_586 rfl ?_
    refine v_lald (pc := 587) 47 rfl (by unfold vp_in; decide) dL_law_587 ?_
    refine v_iload (pc := 588) dL_law_588 rfl ?_
    refine v_i2l (pc := 590) dL_law_590 ?_
    rw [cl0, ho c582]
    refine v_lcmp (pc := 591) dL_law_591 ?_
    rw [lgc]
    refine v_if_eq (pc := 592) (tgt := 597) dL_law_592 (by decide) (fun c592 => ?_) (fun c592 => absurd rfl c592)
    refine v_goto (pc := 597) (tgt := 1403) dL_law_597 (by decide) ?_
    refine v_room (ck' := 10 * m) (sk' := 750 * m) (by omega) (by omega) ?_
    refine v_sub ?_ (K _ _ _ _ _ _ _ _ _ _ _ _ _ _ _ _ _ _ _ _ _ _ _ _ _ _ _ _ _ _ _ _ _ _ _ _ _ _ _ _ _ _ _ _ _ _ ((hG.as hMX).more (by omega)) (by omega) (hA2.up (by omega)))
    exact ⟨rfl, rfl, rfl, rfl, rfl, trivial⟩
set_option maxRecDepth 100000 in
set_option maxHeartbeats 4000000 in
theorem lw_c6 {G : Cx} {Z : ZT} {g0 y0 : Nat} {w u z : Nat → Nat} {nm : String} {hd9 : List (Nat × Nat × Nat × Nat)} {n5 : Nat} (h5 : n5 = 5) {a b f : Nat → Int32} {wa : Int32} {lr : Value} {nd dg : Int32} {B : Nat → Int32} {T N S C O : Nat → Int32} {ch : Int32} {PC : Nat → Int32} {SF BF : Nat → Nat → Int32} {ps sc bc hh : Nat} {a2 b2 f2 : Nat → Int32} {wa2 : Int32} {lr2 : Value} {nd2 dg2 : Int32} {T2 N2 S2 C2 B2 O2 : Nat → Int32} {ch2 : Int32} {PC2 : Nat → Int32} {SF2 BF2 : Nat → Nat → Int32} {ps2 sc2 hh2 : Nat} {th : Int32} {MX H W : Nat → Int32} {o : Nat → Int64} {m i k : Nat} (hk : k ≤ 514) (hi : i + 6 ≤ G.2.2.2.2.2.1) (hL31 : G.2.2.2.2.2.1 < 2 ^ 31) (hG : gI N O PC ps sc bc T C ch SF BF MX (2000 * k)) (hhk : hh ≤ 200 * k) (hA2 : chB ch2 (2000 * k)) (K : ∀ (a b f : Nat → Int32) (wa : Int32) (lr : Value) (nd dg : Int32) (B : Nat → Int32) (T N S C O : Nat → Int32) (ch : Int32) (PC : Nat → Int32) (SF BF : Nat → Nat → Int32) (ps sc bc hh : Nat) (a2 b2 f2 : Nat → Int32) (wa2 : Int32) (lr2 : Value) (nd2 dg2 : Int32) (T2 N2 S2 C2 B2 O2 : Nat → Int32) (ch2 : Int32) (PC2 : Nat → Int32) (SF2 BF2 : Nat → Nat → Int32) (ps2 sc2 hh2 : Nat) (th : Int32) (MX H W : Nat → Int32) (o : Nat → Int64), gI N O PC ps sc bc T C ch SF BF MX (2000 * (k + 1)) → hh ≤ 200 * (k + 1) → chB ch2 (2000 * (k + 1)) → V G (YL nm hd9) Z 10 (10 * m) (750 * m) 1403 [some (.ref G.2.2.2.1), some (.ref g0), some (.ref (z 0)), some (.ref y0), some (.int (nI i)), none, none, none, none] [] (LawM g0 y0 w u z a b f wa lr nd dg B T N S C O ch PC SF BF ps sc bc hh a2 b2 f2 wa2 lr2 nd2 dg2 T2 N2 S2 C2 B2 O2 ch2 PC2 SF2 BF2 ps2 sc2 hh2 th MX H W o)) : V G (YL nm hd9) Z 10 (10 * (m + 1)) (750 * (m + 1)) 600 [some (.ref G.2.2.2.1), some (.ref g0), some (.ref (z 0)), some (.ref y0), some (.int (nI i)), none, none, none, none] [] (LawM g0 y0 w u z a b f wa lr nd dg B T N S C O ch PC SF BF ps sc bc hh a2 b2 f2 wa2 lr2 nd2 dg2 T2 N2 S2 C2 B2 O2 ch2 PC2 SF2 BF2 ps2 sc2 hh2 th MX H W o) := by
  obtain ⟨⟨hps, hsc, hbc⟩, hPC, ⟨hN, hO⟩, hI, hz, hs, hd⟩ := id hG
  obtain ⟨hx, hP9, hW9, hw, hb, ⟨hT, hC, hLK⟩, hM9, hB9⟩ := id hI
  try dsimp only [wb, LawM, ModelM, LakeM, WaysM, WorldM, List.set_cons_succ, List.set_cons_zero, List.append_nil, List.nil_append, List.cons_append, Option.toList, Nat.sub_zero, List.take_succ_cons, List.take_zero]
  refine v_aload_nR (pc := 600) dL_law_600 rfl rfl ?_
  refine v_aload_nR (pc := 601) dL_law_601 rfl rfl ?_
  refine v_iload (pc := 602) dL_law_602 rfl ?_
  refine v_iconst (pc := 604) (v := 1) dL_law_604 rfl ?_
  refine v_iadd (pc := 605) dL_law_605 ?_
  rw [show nI i + 1 = nI (i + 1) from nI_add i 1]
  refine v_sld (pc := 606) (k := (i + 1)) (by omega) hL31 dL_law_606 ?_
  refine v_aload_nR (pc := 607) dL_law_607 rfl rfl ?_
  refine v_iload (pc := 608) dL_law_608 rfl ?_
  refine v_iconst (pc := 610) (v := 2) dL_law_610 rfl ?_
  refine v_iadd (pc := 611) dL_law_611 ?_
  rw [show nI i + 2 = nI (i + 2) from nI_add i 2]
  refine v_sld (pc := 612) (k := (i + 2)) (by omega) hL31 dL_law_612 ?_
  refine v_aload_nR (pc := 613) dL_law_613 rfl rfl ?_
  refine v_iload (pc := 614) dL_law_614 rfl ?_
  refine v_iconst (pc := 616) (v := 3) dL_law_616 rfl ?_
  refine v_iadd (pc := 617) dL_law_617 ?_
  rw [show nI i + 3 = nI (i + 3) from nI_add i 3]
  refine v_sld (pc := 618) (k := (i + 3)) (by omega) hL31 dL_law_618 ?_
  refine v_aload_nR (pc := 619) dL_law_619 rfl rfl ?_
  refine v_callSH5 (pc := 620) (c_L_addBag hps hsc hbc) ch_L_addBag q533 q534 [0, 1, 2, 3, 4, 5, 6, 7, 8, 9, 10, 11, 12, 13, 14, 15, 16, 17, 47] (by rfl) (by decide) (fun _ _ h => h) (by omega) (by omega) (by decide) (Nat.le_of_ble_eq_true rfl) dL_law_620 (fun v620 M620 hQ620 => ?_)
  obtain ⟨rfl, o9, ho, rfl⟩ := hQ620
  try dsimp only [wb, LawM, ModelM, LakeM, WaysM, WorldM, List.set_cons_succ, List.set_cons_zero, List.append_nil, List.nil_append, List.cons_append, Option.toList, Nat.sub_zero, List.take_succ_cons, List.take_zero]
  refine v_istore (pc := 623) dL_law_623 (by show _ < 9; decide) rfl ?_
  refine v_aload_nR (pc := 625) dL_law_625 rfl rfl ?_
  refine v_aload_nR (pc := 626) dL_law_626 rfl rfl ?_
  refine v_iload (pc := 627) dL_law_627 rfl ?_
  refine v_iconst (pc := 629) (v := 1) dL_law_629 rfl ?_
  refine v_iadd (pc := 630) dL_law_630 ?_
  rw [show nI i + 1 = nI (i + 1) from nI_add i 1]
  refine v_sld (pc := 631) (k := (i + 1)) (by omega) hL31 dL_law_631 ?_
  refine v_aload_nR (pc := 632) dL_law_632 rfl rfl ?_
  refine v_iload (pc := 633) dL_law_633 rfl ?_
  refine v_iconst (pc := 635) (v := 2) dL_law_635 rfl ?_
  refine v_iadd (pc := 636) dL_law_636 ?_
  rw [show nI i + 2 = nI (i + 2) from nI_add i 2]
  refine v_sld (pc := 637) (k := (i + 2)) (by omega) hL31 dL_law_637 ?_
  refine v_aload_nR (pc := 638) dL_law_638 rfl rfl ?_
  refine v_iload (pc := 639) dL_law_639 rfl ?_
  refine v_iconst (pc := 641) (v := 3) dL_law_641 rfl ?_
  refine v_iadd (pc := 642) dL_law_642 ?_
  rw [show nI i + 3 = nI (i + 3) from nI_add i 3]
  refine v_sld (pc := 643) (k := (i + 3)) (by omega) hL31 dL_law_643 ?_
  refine v_callV3 (pc := 644) (c_X6_addBag hps hsc hbc) cm_X6_addBag q907 q908 q909 (ci := 6) rfl rfl (orcO 35 rfl) [35, 36, 37, 38, 39, 40, 41, 42, 43, 44, 45, 46] (by rfl) (by decide) (fun _ _ h => h) (by omega) (by omega) (by decide) (Nat.le_of_ble_eq_true rfl) dL_law_644 (fun v644 M644 hQ644 => ?_)
  obtain ⟨rfl, rfl⟩ := hQ644
  try dsimp only [wb, LawM, ModelM, LakeM, WaysM, WorldM, List.set_cons_succ, List.set_cons_zero, List.append_nil, List.nil_append, List.cons_append, Option.toList, Nat.sub_zero, List.take_succ_cons, List.take_zero]
  refine v_istore (pc := 647) dL_law_647 (by show _ < 9; decide) rfl ?_
  refine v_aload_nR (pc := 649) dL_law_649 rfl rfl ?_
  refine v_callV0 (pc := 650) (c_X6_thrown hps hsc (hG.ab (a := G.2.2.2.2.2.2 (i + 1)) (b := G.2.2.2.2.2.2 (i + 2)) (c := G.2.2.2.2.2.2 (i + 3))).1.2.2) cm_X6_thrown q848 q849 q850 (ci := 6) rfl rfl (orcO 35 rfl) [35, 36, 37, 38, 39, 40, 41, 42, 43, 44, 45, 46] (by rfl) (by decide) (fun _ _ h => h) (by omega) (by omega) (by decide) (Nat.le_of_ble_eq_true rfl) dL_law_650 (fun v650 M650 hQ650 => ?_)
  obtain ⟨rfl, rfl⟩ := hQ650
  try dsimp only [wb, LawM, ModelM, LakeM, WaysM, WorldM, List.set_cons_succ, List.set_cons_zero, List.append_nil, List.nil_append, List.cons_append, Option.toList, Nat.sub_zero, List.take_succ_cons, List.take_zero]
  refine v_iload (pc := 653) dL_law_653 rfl ?_
  refine v_icmp_eq (pc := 655) (tgt := 660) dL_law_655 (by decide) (fun c655 => ?_) (fun c655 => absurd rfl c655)
  refine v_iload (pc := 660) dL_law_660 rfl ?_
  refine v_if_ne (pc := 662) (tgt := 677) dL_law_662 (by decide) (fun c662 => ?_) (fun c662 => ?_)
  · refine v_goto (pc := 677) (tgt := 1403) dL_law_677 (by decide) ?_
    refine v_room (ck' := 10 * m) (sk' := 750 * m) (by omega) (by omega) ?_
    refine v_sub ?_ (K _ _ _ _ _ _ _ _ _ _ _ _ _ _ _ _ _ _ _ _ _ _ _ _ _ _ _ _ _ _ _ _ _ _ _ _ _ _ _ _ _ _ _ _ _ _ (hG.ab.more (by omega)) (by omega) (hA2.up (by omega)))
    exact ⟨rfl, rfl, rfl, rfl, rfl, trivial⟩
  · refine v_aload_nR (pc := 665) dL_law_665 rfl rfl ?_
    refine v_iconst (pc := 666) (v := 0) dL_law_666 rfl ?_
    refine v_lald (pc := 667) 47 rfl (by unfold vp_in; decide) dL_law_667 ?_
    refine v_iload (pc := 668) dL_law_668 rfl ?_
    refine v_i2l (pc := 670) dL_law_670 ?_
    rw [cl0, ho c662]
    refine v_lcmp (pc := 671) dL_law_671 ?_
    rw [lgc]
    refine v_if_eq (pc := 672) (tgt := 677) dL_law_672 (by decide) (fun c672 => ?_) (fun c672 => absurd rfl c672)
    refine v_goto (pc := 677) (tgt := 1403) dL_law_677 (by decide) ?_
    refine v_room (ck' := 10 * m) (sk' := 750 * m) (by omega) (by omega) ?_
    refine v_sub ?_ (K _ _ _ _ _ _ _ _ _ _ _ _ _ _ _ _ _ _ _ _ _ _ _ _ _ _ _ _ _ _ _ _ _ _ _ _ _ _ _ _ _ _ _ _ _ _ (hG.ab.more (by omega)) (by omega) (hA2.up (by omega)))
    exact ⟨rfl, rfl, rfl, rfl, rfl, trivial⟩
set_option maxRecDepth 100000 in
set_option maxHeartbeats 4000000 in
theorem lw_c7 {G : Cx} {Z : ZT} {g0 y0 : Nat} {w u z : Nat → Nat} {nm : String} {hd9 : List (Nat × Nat × Nat × Nat)} {n5 : Nat} (h5 : n5 = 5) {a b f : Nat → Int32} {wa : Int32} {lr : Value} {nd dg : Int32} {B : Nat → Int32} {T N S C O : Nat → Int32} {ch : Int32} {PC : Nat → Int32} {SF BF : Nat → Nat → Int32} {ps sc bc hh : Nat} {a2 b2 f2 : Nat → Int32} {wa2 : Int32} {lr2 : Value} {nd2 dg2 : Int32} {T2 N2 S2 C2 B2 O2 : Nat → Int32} {ch2 : Int32} {PC2 : Nat → Int32} {SF2 BF2 : Nat → Nat → Int32} {ps2 sc2 hh2 : Nat} {th : Int32} {MX H W : Nat → Int32} {o : Nat → Int64} {m i k : Nat} (hk : k ≤ 514) (hi : i + 6 ≤ G.2.2.2.2.2.1) (hL31 : G.2.2.2.2.2.1 < 2 ^ 31) (hG : gI N O PC ps sc bc T C ch SF BF MX (2000 * k)) (hhk : hh ≤ 200 * k) (hA2 : chB ch2 (2000 * k)) (K : ∀ (a b f : Nat → Int32) (wa : Int32) (lr : Value) (nd dg : Int32) (B : Nat → Int32) (T N S C O : Nat → Int32) (ch : Int32) (PC : Nat → Int32) (SF BF : Nat → Nat → Int32) (ps sc bc hh : Nat) (a2 b2 f2 : Nat → Int32) (wa2 : Int32) (lr2 : Value) (nd2 dg2 : Int32) (T2 N2 S2 C2 B2 O2 : Nat → Int32) (ch2 : Int32) (PC2 : Nat → Int32) (SF2 BF2 : Nat → Nat → Int32) (ps2 sc2 hh2 : Nat) (th : Int32) (MX H W : Nat → Int32) (o : Nat → Int64), gI N O PC ps sc bc T C ch SF BF MX (2000 * (k + 1)) → hh ≤ 200 * (k + 1) → chB ch2 (2000 * (k + 1)) → V G (YL nm hd9) Z 10 (10 * m) (750 * m) 1403 [some (.ref G.2.2.2.1), some (.ref g0), some (.ref (z 0)), some (.ref y0), some (.int (nI i)), none, none, none, none] [] (LawM g0 y0 w u z a b f wa lr nd dg B T N S C O ch PC SF BF ps sc bc hh a2 b2 f2 wa2 lr2 nd2 dg2 T2 N2 S2 C2 B2 O2 ch2 PC2 SF2 BF2 ps2 sc2 hh2 th MX H W o)) : V G (YL nm hd9) Z 10 (10 * (m + 1)) (750 * (m + 1)) 680 [some (.ref G.2.2.2.1), some (.ref g0), some (.ref (z 0)), some (.ref y0), some (.int (nI i)), none, none, none, none] [] (LawM g0 y0 w u z a b f wa lr nd dg B T N S C O ch PC SF BF ps sc bc hh a2 b2 f2 wa2 lr2 nd2 dg2 T2 N2 S2 C2 B2 O2 ch2 PC2 SF2 BF2 ps2 sc2 hh2 th MX H W o) := by
  obtain ⟨⟨hps, hsc, hbc⟩, hPC, ⟨hN, hO⟩, hI, hz, hs, hd⟩ := id hG
  obtain ⟨hx, hP9, hW9, hw, hb, ⟨hT, hC, hLK⟩, hM9, hB9⟩ := id hI
  try dsimp only [wb, LawM, ModelM, LakeM, WaysM, WorldM, List.set_cons_succ, List.set_cons_zero, List.append_nil, List.nil_append, List.cons_append, Option.toList, Nat.sub_zero, List.take_succ_cons, List.take_zero]
  refine v_aload_nR (pc := 680) dL_law_680 rfl rfl ?_
  refine v_aload_nR (pc := 681) dL_law_681 rfl rfl ?_
  refine v_iload (pc := 682) dL_law_682 rfl ?_
  refine v_iconst (pc := 684) (v := 1) dL_law_684 rfl ?_
  refine v_iadd (pc := 685) dL_law_685 ?_
  rw [show nI i + 1 = nI (i + 1) from nI_add i 1]
  refine v_sld (pc := 686) (k := (i + 1)) (by omega) hL31 dL_law_686 ?_
  refine v_aload_nR (pc := 687) dL_law_687 rfl rfl ?_
  refine v_iload (pc := 688) dL_law_688 rfl ?_
  refine v_iconst (pc := 690) (v := 2) dL_law_690 rfl ?_
  refine v_iadd (pc := 691) dL_law_691 ?_
  rw [show nI i + 2 = nI (i + 2) from nI_add i 2]
  refine v_sld (pc := 692) (k := (i + 2)) (by omega) hL31 dL_law_692 ?_
  refine v_aload_nR (pc := 693) dL_law_693 rfl rfl ?_
  refine v_callSH4 (pc := 694) (c_L_load hps hsc hbc) ch_L_load q550 q551 [0, 1, 2, 3, 4, 5, 6, 7, 8, 9, 10, 11, 12, 13, 14, 15, 16, 17, 47] (by rfl) (by decide) (fun _ _ h => h) (by omega) (by omega) (by decide) (Nat.le_of_ble_eq_true rfl) dL_law_694 (fun v694 M694 hQ694 => ?_)
  obtain ⟨rfl, o9, ho, rfl⟩ := hQ694
  try dsimp only [wb, LawM, ModelM, LakeM, WaysM, WorldM, List.set_cons_succ, List.set_cons_zero, List.append_nil, List.nil_append, List.cons_append, Option.toList, Nat.sub_zero, List.take_succ_cons, List.take_zero]
  refine v_istore (pc := 697) dL_law_697 (by show _ < 9; decide) rfl ?_
  refine v_aload_nR (pc := 699) dL_law_699 rfl rfl ?_
  refine v_aload_nR (pc := 700) dL_law_700 rfl rfl ?_
  refine v_iload (pc := 701) dL_law_701 rfl ?_
  refine v_iconst (pc := 703) (v := 1) dL_law_703 rfl ?_
  refine v_iadd (pc := 704) dL_law_704 ?_
  rw [show nI i + 1 = nI (i + 1) from nI_add i 1]
  refine v_sld (pc := 705) (k := (i + 1)) (by omega) hL31 dL_law_705 ?_
  refine v_aload_nR (pc := 706) dL_law_706 rfl rfl ?_
  refine v_iload (pc := 707) dL_law_707 rfl ?_
  refine v_iconst (pc := 709) (v := 2) dL_law_709 rfl ?_
  refine v_iadd (pc := 710) dL_law_710 ?_
  rw [show nI i + 2 = nI (i + 2) from nI_add i 2]
  refine v_sld (pc := 711) (k := (i + 2)) (by omega) hL31 dL_law_711 ?_
  refine v_callV2 (pc := 712) (c_X6_load hps hsc hbc hw) cm_X6_load q911 q912 q913 (ci := 6) rfl rfl (orcO 35 rfl) [35, 36, 37, 38, 39, 40, 41, 42, 43, 44, 45, 46] (by rfl) (by decide) (fun _ _ h => h) (by omega) (by omega) (by decide) (Nat.le_of_ble_eq_true rfl) dL_law_712 (fun v712 M712 hQ712 => ?_)
  obtain ⟨rfl, rfl⟩ := hQ712
  try dsimp only [wb, LawM, ModelM, LakeM, WaysM, WorldM, List.set_cons_succ, List.set_cons_zero, List.append_nil, List.nil_append, List.cons_append, Option.toList, Nat.sub_zero, List.take_succ_cons, List.take_zero]
  refine v_istore (pc := 715) dL_law_715 (by show _ < 9; decide) rfl ?_
  refine v_aload_nR (pc := 717) dL_law_717 rfl rfl ?_
  refine v_callV0 (pc := 718) (c_X6_thrown hps hsc hbc) cm_X6_thrown q848 q849 q850 (ci := 6) rfl rfl (orcO 35 rfl) [35, 36, 37, 38, 39, 40, 41, 42, 43, 44, 45, 46] (by rfl) (by decide) (fun _ _ h => h) (by omega) (by omega) (by decide) (Nat.le_of_ble_eq_true rfl) dL_law_718 (fun v718 M718 hQ718 => ?_)
  obtain ⟨rfl, rfl⟩ := hQ718
  try dsimp only [wb, LawM, ModelM, LakeM, WaysM, WorldM, List.set_cons_succ, List.set_cons_zero, List.append_nil, List.nil_append, List.cons_append, Option.toList, Nat.sub_zero, List.take_succ_cons, List.take_zero]
  refine v_iload (pc := 721) dL_law_721 rfl ?_
  refine v_icmp_eq (pc := 723) (tgt := 728) dL_law_723 (by decide) (fun c723 => ?_) (fun c723 => absurd rfl c723)
  refine v_iload (pc := 728) dL_law_728 rfl ?_
  refine v_if_ne (pc := 730) (tgt := 745) dL_law_730 (by decide) (fun c730 => ?_) (fun c730 => ?_)
  · refine v_goto (pc := 745) (tgt := 1403) dL_law_745 (by decide) ?_
    refine v_room (ck' := 10 * m) (sk' := 750 * m) (by omega) (by omega) ?_
    refine v_sub ?_ (K _ _ _ _ _ _ _ _ _ _ _ _ _ _ _ _ _ _ _ _ _ _ _ _ _ _ _ _ _ _ _ _ _ _ _ _ _ _ _ _ _ _ _ _ _ _ (hG.ld.more (by omega)) (by omega) (hA2.up (by omega)))
    exact ⟨rfl, rfl, rfl, rfl, rfl, trivial⟩
  · refine v_aload_nR (pc := 733) dL_law_733 rfl rfl ?_
    refine v_iconst (pc := 734) (v := 0) dL_law_734 rfl ?_
    refine v_lald (pc := 735) 47 rfl (by unfold vp_in; decide) dL_law_735 ?_
    refine v_iload (pc := 736) dL_law_736 rfl ?_
    refine v_i2l (pc := 738) dL_law_738 ?_
    rw [cl0, ho c730]
    refine v_lcmp (pc := 739) dL_law_739 ?_
    rw [lgc]
    refine v_if_eq (pc := 740) (tgt := 745) dL_law_740 (by decide) (fun c740 => ?_) (fun c740 => absurd rfl c740)
    refine v_goto (pc := 745) (tgt := 1403) dL_law_745 (by decide) ?_
    refine v_room (ck' := 10 * m) (sk' := 750 * m) (by omega) (by omega) ?_
    refine v_sub ?_ (K _ _ _ _ _ _ _ _ _ _ _ _ _ _ _ _ _ _ _ _ _ _ _ _ _ _ _ _ _ _ _ _ _ _ _ _ _ _ _ _ _ _ _ _ _ _ (hG.ld.more (by omega)) (by omega) (hA2.up (by omega)))
    exact ⟨rfl, rfl, rfl, rfl, rfl, trivial⟩
set_option maxRecDepth 100000 in
set_option maxHeartbeats 4000000 in
theorem lw_c8 {G : Cx} {Z : ZT} {g0 y0 : Nat} {w u z : Nat → Nat} {nm : String} {hd9 : List (Nat × Nat × Nat × Nat)} {n5 : Nat} (h5 : n5 = 5) {a b f : Nat → Int32} {wa : Int32} {lr : Value} {nd dg : Int32} {B : Nat → Int32} {T N S C O : Nat → Int32} {ch : Int32} {PC : Nat → Int32} {SF BF : Nat → Nat → Int32} {ps sc bc hh : Nat} {a2 b2 f2 : Nat → Int32} {wa2 : Int32} {lr2 : Value} {nd2 dg2 : Int32} {T2 N2 S2 C2 B2 O2 : Nat → Int32} {ch2 : Int32} {PC2 : Nat → Int32} {SF2 BF2 : Nat → Nat → Int32} {ps2 sc2 hh2 : Nat} {th : Int32} {MX H W : Nat → Int32} {o : Nat → Int64} {m i k : Nat} (hk : k ≤ 514) (hi : i + 6 ≤ G.2.2.2.2.2.1) (hL31 : G.2.2.2.2.2.1 < 2 ^ 31) (hG : gI N O PC ps sc bc T C ch SF BF MX (2000 * k)) (hhk : hh ≤ 200 * k) (hA2 : chB ch2 (2000 * k)) (K : ∀ (a b f : Nat → Int32) (wa : Int32) (lr : Value) (nd dg : Int32) (B : Nat → Int32) (T N S C O : Nat → Int32) (ch : Int32) (PC : Nat → Int32) (SF BF : Nat → Nat → Int32) (ps sc bc hh : Nat) (a2 b2 f2 : Nat → Int32) (wa2 : Int32) (lr2 : Value) (nd2 dg2 : Int32) (T2 N2 S2 C2 B2 O2 : Nat → Int32) (ch2 : Int32) (PC2 : Nat → Int32) (SF2 BF2 : Nat → Nat → Int32) (ps2 sc2 hh2 : Nat) (th : Int32) (MX H W : Nat → Int32) (o : Nat → Int64), gI N O PC ps sc bc T C ch SF BF MX (2000 * (k + 1)) → hh ≤ 200 * (k + 1) → chB ch2 (2000 * (k + 1)) → V G (YL nm hd9) Z 10 (10 * m) (750 * m) 1403 [some (.ref G.2.2.2.1), some (.ref g0), some (.ref (z 0)), some (.ref y0), some (.int (nI i)), none, none, none, none] [] (LawM g0 y0 w u z a b f wa lr nd dg B T N S C O ch PC SF BF ps sc bc hh a2 b2 f2 wa2 lr2 nd2 dg2 T2 N2 S2 C2 B2 O2 ch2 PC2 SF2 BF2 ps2 sc2 hh2 th MX H W o)) : V G (YL nm hd9) Z 10 (10 * (m + 1)) (750 * (m + 1)) 748 [some (.ref G.2.2.2.1), some (.ref g0), some (.ref (z 0)), some (.ref y0), some (.int (nI i)), none, none, none, none] [] (LawM g0 y0 w u z a b f wa lr nd dg B T N S C O ch PC SF BF ps sc bc hh a2 b2 f2 wa2 lr2 nd2 dg2 T2 N2 S2 C2 B2 O2 ch2 PC2 SF2 BF2 ps2 sc2 hh2 th MX H W o) := by
  obtain ⟨⟨hps, hsc, hbc⟩, hPC, ⟨hN, hO⟩, hI, hz, hs, hd⟩ := id hG
  obtain ⟨hx, hP9, hW9, hw, hb, ⟨hT, hC, hLK⟩, hM9, hB9⟩ := id hI
  try dsimp only [wb, LawM, ModelM, LakeM, WaysM, WorldM, List.set_cons_succ, List.set_cons_zero, List.append_nil, List.nil_append, List.cons_append, Option.toList, Nat.sub_zero, List.take_succ_cons, List.take_zero]
  refine v_aload_nR (pc := 748) dL_law_748 rfl rfl ?_
  refine v_aload_nR (pc := 749) dL_law_749 rfl rfl ?_
  refine v_iload (pc := 750) dL_law_750 rfl ?_
  refine v_iconst (pc := 752) (v := 1) dL_law_752 rfl ?_
  refine v_iadd (pc := 753) dL_law_753 ?_
  rw [show nI i + 1 = nI (i + 1) from nI_add i 1]
  refine v_sld (pc := 754) (k := (i + 1)) (by omega) hL31 dL_law_754 ?_
  refine v_aload_nR (pc := 755) dL_law_755 rfl rfl ?_
  refine v_iload (pc := 756) dL_law_756 rfl ?_
  refine v_iconst (pc := 758) (v := 2) dL_law_758 rfl ?_
  refine v_iadd (pc := 759) dL_law_759 ?_
  rw [show nI i + 2 = nI (i + 2) from nI_add i 2]
  refine v_sld (pc := 760) (k := (i + 2)) (by omega) hL31 dL_law_760 ?_
  refine v_aload_nR (pc := 761) dL_law_761 rfl rfl ?_
  refine v_callSH4 (pc := 762) (c_L_send hps hsc hbc hPC hx) ch_L_send q562 q563 [0, 1, 2, 3, 4, 5, 6, 7, 8, 9, 10, 11, 12, 13, 14, 15, 16, 17, 47] (by rfl) (by decide) (fun _ _ h => h) (by omega) (by omega) (by decide) (Nat.le_of_ble_eq_true rfl) dL_law_762 (fun v762 M762 hQ762 => ?_)
  obtain ⟨rfl, o9, ho, a1x, b1x, f1x, wax, lrx, ndx, dgx, rfl⟩ := hQ762
  try dsimp only [wb, LawM, ModelM, LakeM, WaysM, WorldM, List.set_cons_succ, List.set_cons_zero, List.append_nil, List.nil_append, List.cons_append, Option.toList, Nat.sub_zero, List.take_succ_cons, List.take_zero]
  refine v_istore (pc := 765) dL_law_765 (by show _ < 9; decide) rfl ?_
  refine v_aload_nR (pc := 767) dL_law_767 rfl rfl ?_
  refine v_aload_nR (pc := 768) dL_law_768 rfl rfl ?_
  refine v_iload (pc := 769) dL_law_769 rfl ?_
  refine v_iconst (pc := 771) (v := 1) dL_law_771 rfl ?_
  refine v_iadd (pc := 772) dL_law_772 ?_
  rw [show nI i + 1 = nI (i + 1) from nI_add i 1]
  refine v_sld (pc := 773) (k := (i + 1)) (by omega) hL31 dL_law_773 ?_
  refine v_aload_nR (pc := 774) dL_law_774 rfl rfl ?_
  refine v_iload (pc := 775) dL_law_775 rfl ?_
  refine v_iconst (pc := 777) (v := 2) dL_law_777 rfl ?_
  refine v_iadd (pc := 778) dL_law_778 ?_
  rw [show nI i + 2 = nI (i + 2) from nI_add i 2]
  refine v_sld (pc := 779) (k := (i + 2)) (by omega) hL31 dL_law_779 ?_
  refine v_callV2 (pc := 780) (c_X6_send hps hsc hbc (f := f) hPC hN hT hC hx hw hb) cm_X6_send q935 q936 q937 (ci := 6) rfl rfl (orcO 35 rfl) [35, 36, 37, 38, 39, 40, 41, 42, 43, 44, 45, 46] (by rfl) (by decide) (fun _ _ h => h) (by omega) (by omega) (by decide) (Nat.le_of_ble_eq_true rfl) dL_law_780 (fun v780 M780 hQ780 => ?_)
  obtain ⟨rfl, H9, rfl⟩ := hQ780
  try dsimp only [wb, LawM, ModelM, LakeM, WaysM, WorldM, List.set_cons_succ, List.set_cons_zero, List.append_nil, List.nil_append, List.cons_append, Option.toList, Nat.sub_zero, List.take_succ_cons, List.take_zero]
  refine v_istore (pc := 783) dL_law_783 (by show _ < 9; decide) rfl ?_
  refine v_aload_nR (pc := 785) dL_law_785 rfl rfl ?_
  refine v_callV0 (pc := 786) (c_X6_thrown hps hsc hbc) cm_X6_thrown q848 q849 q850 (ci := 6) rfl rfl (orcO 35 rfl) [35, 36, 37, 38, 39, 40, 41, 42, 43, 44, 45, 46] (by rfl) (by decide) (fun _ _ h => h) (by omega) (by omega) (by decide) (Nat.le_of_ble_eq_true rfl) dL_law_786 (fun v786 M786 hQ786 => ?_)
  obtain ⟨rfl, rfl⟩ := hQ786
  try dsimp only [wb, LawM, ModelM, LakeM, WaysM, WorldM, List.set_cons_succ, List.set_cons_zero, List.append_nil, List.nil_append, List.cons_append, Option.toList, Nat.sub_zero, List.take_succ_cons, List.take_zero]
  refine v_iload (pc := 789) dL_law_789 rfl ?_
  refine v_icmp_eq (pc := 791) (tgt := 796) dL_law_791 (by decide) (fun c791 => ?_) (fun c791 => absurd rfl c791)
  refine v_iload (pc := 796) dL_law_796 rfl ?_
  refine v_if_ne (pc := 798) (tgt := 813) dL_law_798 (by decide) (fun c798 => ?_) (fun c798 => ?_)
  · refine v_goto (pc := 813) (tgt := 1403) dL_law_813 (by decide) ?_
    refine v_room (ck' := 10 * m) (sk' := 750 * m) (by omega) (by omega) ?_
    refine v_sub ?_ (K _ _ _ _ _ _ _ _ _ _ _ _ _ _ _ _ _ _ _ _ _ _ _ _ _ _ _ _ _ _ _ _ _ _ _ _ _ _ _ _ _ _ _ _ _ _ (hG.se.more (by omega)) (by omega) (hA2.up (by omega)))
    exact ⟨rfl, rfl, rfl, rfl, rfl, trivial⟩
  · refine v_aload_nR (pc := 801) dL_law_801 rfl rfl ?_
    refine v_iconst (pc := 802) (v := 0) dL_law_802 rfl ?_
    refine v_lald (pc := 803) 47 rfl (by unfold vp_in; decide) dL_law_803 ?_
    refine v_iload (pc := 804) dL_law_804 rfl ?_
    refine v_i2l (pc := 806) dL_law_806 ?_
    rw [cl0, ho c798]
    refine v_lcmp (pc := 807) dL_law_807 ?_
    rw [lgc]
    refine v_if_eq (pc := 808) (tgt := 813) dL_law_808 (by decide) (fun c808 => ?_) (fun c808 => absurd rfl c808)
    refine v_goto (pc := 813) (tgt := 1403) dL_law_813 (by decide) ?_
    refine v_room (ck' := 10 * m) (sk' := 750 * m) (by omega) (by omega) ?_
    refine v_sub ?_ (K _ _ _ _ _ _ _ _ _ _ _ _ _ _ _ _ _ _ _ _ _ _ _ _ _ _ _ _ _ _ _ _ _ _ _ _ _ _ _ _ _ _ _ _ _ _ (hG.se.more (by omega)) (by omega) (hA2.up (by omega)))
    exact ⟨rfl, rfl, rfl, rfl, rfl, trivial⟩
set_option maxRecDepth 100000 in
set_option maxHeartbeats 4000000 in
theorem lw_c9 {G : Cx} {Z : ZT} {g0 y0 : Nat} {w u z : Nat → Nat} {nm : String} {hd9 : List (Nat × Nat × Nat × Nat)} {n5 : Nat} (h5 : n5 = 5) {a b f : Nat → Int32} {wa : Int32} {lr : Value} {nd dg : Int32} {B : Nat → Int32} {T N S C O : Nat → Int32} {ch : Int32} {PC : Nat → Int32} {SF BF : Nat → Nat → Int32} {ps sc bc hh : Nat} {a2 b2 f2 : Nat → Int32} {wa2 : Int32} {lr2 : Value} {nd2 dg2 : Int32} {T2 N2 S2 C2 B2 O2 : Nat → Int32} {ch2 : Int32} {PC2 : Nat → Int32} {SF2 BF2 : Nat → Nat → Int32} {ps2 sc2 hh2 : Nat} {th : Int32} {MX H W : Nat → Int32} {o : Nat → Int64} {m i k : Nat} (hk : k ≤ 514) (hi : i + 6 ≤ G.2.2.2.2.2.1) (hL31 : G.2.2.2.2.2.1 < 2 ^ 31) (hG : gI N O PC ps sc bc T C ch SF BF MX (2000 * k)) (hhk : hh ≤ 200 * k) (hA2 : chB ch2 (2000 * k)) (K : ∀ (a b f : Nat → Int32) (wa : Int32) (lr : Value) (nd dg : Int32) (B : Nat → Int32) (T N S C O : Nat → Int32) (ch : Int32) (PC : Nat → Int32) (SF BF : Nat → Nat → Int32) (ps sc bc hh : Nat) (a2 b2 f2 : Nat → Int32) (wa2 : Int32) (lr2 : Value) (nd2 dg2 : Int32) (T2 N2 S2 C2 B2 O2 : Nat → Int32) (ch2 : Int32) (PC2 : Nat → Int32) (SF2 BF2 : Nat → Nat → Int32) (ps2 sc2 hh2 : Nat) (th : Int32) (MX H W : Nat → Int32) (o : Nat → Int64), gI N O PC ps sc bc T C ch SF BF MX (2000 * (k + 1)) → hh ≤ 200 * (k + 1) → chB ch2 (2000 * (k + 1)) → V G (YL nm hd9) Z 10 (10 * m) (750 * m) 1403 [some (.ref G.2.2.2.1), some (.ref g0), some (.ref (z 0)), some (.ref y0), some (.int (nI i)), none, none, none, none] [] (LawM g0 y0 w u z a b f wa lr nd dg B T N S C O ch PC SF BF ps sc bc hh a2 b2 f2 wa2 lr2 nd2 dg2 T2 N2 S2 C2 B2 O2 ch2 PC2 SF2 BF2 ps2 sc2 hh2 th MX H W o)) : V G (YL nm hd9) Z 10 (10 * (m + 1)) (750 * (m + 1)) 816 [some (.ref G.2.2.2.1), some (.ref g0), some (.ref (z 0)), some (.ref y0), some (.int (nI i)), none, none, none, none] [] (LawM g0 y0 w u z a b f wa lr nd dg B T N S C O ch PC SF BF ps sc bc hh a2 b2 f2 wa2 lr2 nd2 dg2 T2 N2 S2 C2 B2 O2 ch2 PC2 SF2 BF2 ps2 sc2 hh2 th MX H W o) := by
  obtain ⟨⟨hps, hsc, hbc⟩, hPC, ⟨hN, hO⟩, hI, hz, hs, hd⟩ := id hG
  obtain ⟨hx, hP9, hW9, hw, hb, ⟨hT, hC, hLK⟩, hM9, hB9⟩ := id hI
  try dsimp only [wb, LawM, ModelM, LakeM, WaysM, WorldM, List.set_cons_succ, List.set_cons_zero, List.append_nil, List.nil_append, List.cons_append, Option.toList, Nat.sub_zero, List.take_succ_cons, List.take_zero]
  refine v_aload_nR (pc := 816) dL_law_816 rfl rfl ?_
  refine v_aload_nR (pc := 817) dL_law_817 rfl rfl ?_
  refine v_iload (pc := 818) dL_law_818 rfl ?_
  refine v_iconst (pc := 820) (v := 1) dL_law_820 rfl ?_
  refine v_iadd (pc := 821) dL_law_821 ?_
  rw [show nI i + 1 = nI (i + 1) from nI_add i 1]
  refine v_sld (pc := 822) (k := (i + 1)) (by omega) hL31 dL_law_822 ?_
  refine v_aload_nR (pc := 823) dL_law_823 rfl rfl ?_
  refine v_iload (pc := 824) dL_law_824 rfl ?_
  refine v_iconst (pc := 826) (v := 2) dL_law_826 rfl ?_
  refine v_iadd (pc := 827) dL_law_827 ?_
  rw [show nI i + 2 = nI (i + 2) from nI_add i 2]
  refine v_sld (pc := 828) (k := (i + 2)) (by omega) hL31 dL_law_828 ?_
  refine v_aload_nR (pc := 829) dL_law_829 rfl rfl ?_
  refine v_callSH4 (pc := 830) (c_L_sleigh hps hsc hbc) ch_L_sleigh q609 q610 [0, 1, 2, 3, 4, 5, 6, 7, 8, 9, 10, 11, 12, 13, 14, 15, 16, 17, 47] (by rfl) (by decide) (fun _ _ h => h) (by omega) (by omega) (by decide) (Nat.le_of_ble_eq_true rfl) dL_law_830 (fun v830 M830 hQ830 => ?_)
  obtain ⟨rfl, o9, ho, rfl⟩ := hQ830
  try dsimp only [wb, LawM, ModelM, LakeM, WaysM, WorldM, List.set_cons_succ, List.set_cons_zero, List.append_nil, List.nil_append, List.cons_append, Option.toList, Nat.sub_zero, List.take_succ_cons, List.take_zero]
  refine v_istore (pc := 833) dL_law_833 (by show _ < 9; decide) rfl ?_
  refine v_aload_nR (pc := 835) dL_law_835 rfl rfl ?_
  refine v_aload_nR (pc := 836) dL_law_836 rfl rfl ?_
  refine v_iload (pc := 837) dL_law_837 rfl ?_
  refine v_iconst (pc := 839) (v := 1) dL_law_839 rfl ?_
  refine v_iadd (pc := 840) dL_law_840 ?_
  rw [show nI i + 1 = nI (i + 1) from nI_add i 1]
  refine v_sld (pc := 841) (k := (i + 1)) (by omega) hL31 dL_law_841 ?_
  refine v_aload_nR (pc := 842) dL_law_842 rfl rfl ?_
  refine v_iload (pc := 843) dL_law_843 rfl ?_
  refine v_iconst (pc := 845) (v := 2) dL_law_845 rfl ?_
  refine v_iadd (pc := 846) dL_law_846 ?_
  rw [show nI i + 2 = nI (i + 2) from nI_add i 2]
  refine v_sld (pc := 847) (k := (i + 2)) (by omega) hL31 dL_law_847 ?_
  refine v_callV2 (pc := 848) (c_X6_sleigh hps hsc hbc hw) cm_X6_sleigh q967 q968 q969 (ci := 6) rfl rfl (orcO 35 rfl) [35, 36, 37, 38, 39, 40, 41, 42, 43, 44, 45, 46] (by rfl) (by decide) (fun _ _ h => h) (by omega) (by omega) (by decide) (Nat.le_of_ble_eq_true rfl) dL_law_848 (fun v848 M848 hQ848 => ?_)
  obtain ⟨rfl, rfl⟩ := hQ848
  try dsimp only [wb, LawM, ModelM, LakeM, WaysM, WorldM, List.set_cons_succ, List.set_cons_zero, List.append_nil, List.nil_append, List.cons_append, Option.toList, Nat.sub_zero, List.take_succ_cons, List.take_zero]
  refine v_istore (pc := 851) dL_law_851 (by show _ < 9; decide) rfl ?_
  refine v_aload_nR (pc := 853) dL_law_853 rfl rfl ?_
  refine v_callV0 (pc := 854) (c_X6_thrown hps hsc hbc) cm_X6_thrown q848 q849 q850 (ci := 6) rfl rfl (orcO 35 rfl) [35, 36, 37, 38, 39, 40, 41, 42, 43, 44, 45, 46] (by rfl) (by decide) (fun _ _ h => h) (by omega) (by omega) (by decide) (Nat.le_of_ble_eq_true rfl) dL_law_854 (fun v854 M854 hQ854 => ?_)
  obtain ⟨rfl, rfl⟩ := hQ854
  try dsimp only [wb, LawM, ModelM, LakeM, WaysM, WorldM, List.set_cons_succ, List.set_cons_zero, List.append_nil, List.nil_append, List.cons_append, Option.toList, Nat.sub_zero, List.take_succ_cons, List.take_zero]
  refine v_iload (pc := 857) dL_law_857 rfl ?_
  refine v_icmp_eq (pc := 859) (tgt := 864) dL_law_859 (by decide) (fun c859 => ?_) (fun c859 => absurd rfl c859)
  refine v_iload (pc := 864) dL_law_864 rfl ?_
  refine v_if_ne (pc := 866) (tgt := 881) dL_law_866 (by decide) (fun c866 => ?_) (fun c866 => ?_)
  · refine v_goto (pc := 881) (tgt := 1403) dL_law_881 (by decide) ?_
    refine v_room (ck' := 10 * m) (sk' := 750 * m) (by omega) (by omega) ?_
    refine v_sub ?_ (K _ _ _ _ _ _ _ _ _ _ _ _ _ _ _ _ _ _ _ _ _ _ _ _ _ _ _ _ _ _ _ _ _ _ _ _ _ _ _ _ _ _ _ _ _ _ (hG.more (by omega)) (by omega) (hA2.up (by omega)))
    exact ⟨rfl, rfl, rfl, rfl, rfl, trivial⟩
  · refine v_aload_nR (pc := 869) dL_law_869 rfl rfl ?_
    refine v_iconst (pc := 870) (v := 0) dL_law_870 rfl ?_
    refine v_lald (pc := 871) 47 rfl (by unfold vp_in; decide) dL_law_871 ?_
    refine v_iload (pc := 872) dL_law_872 rfl ?_
    refine v_i2l (pc := 874) dL_law_874 ?_
    rw [cl0, ho c866]
    refine v_lcmp (pc := 875) dL_law_875 ?_
    rw [lgc]
    refine v_if_eq (pc := 876) (tgt := 881) dL_law_876 (by decide) (fun c876 => ?_) (fun c876 => absurd rfl c876)
    refine v_goto (pc := 881) (tgt := 1403) dL_law_881 (by decide) ?_
    refine v_room (ck' := 10 * m) (sk' := 750 * m) (by omega) (by omega) ?_
    refine v_sub ?_ (K _ _ _ _ _ _ _ _ _ _ _ _ _ _ _ _ _ _ _ _ _ _ _ _ _ _ _ _ _ _ _ _ _ _ _ _ _ _ _ _ _ _ _ _ _ _ (hG.more (by omega)) (by omega) (hA2.up (by omega)))
    exact ⟨rfl, rfl, rfl, rfl, rfl, trivial⟩
set_option maxRecDepth 100000 in
set_option maxHeartbeats 4000000 in
theorem lw_c10 {G : Cx} {Z : ZT} {g0 y0 : Nat} {w u z : Nat → Nat} {nm : String} {hd9 : List (Nat × Nat × Nat × Nat)} {n5 : Nat} (h5 : n5 = 5) {a b f : Nat → Int32} {wa : Int32} {lr : Value} {nd dg : Int32} {B : Nat → Int32} {T N S C O : Nat → Int32} {ch : Int32} {PC : Nat → Int32} {SF BF : Nat → Nat → Int32} {ps sc bc hh : Nat} {a2 b2 f2 : Nat → Int32} {wa2 : Int32} {lr2 : Value} {nd2 dg2 : Int32} {T2 N2 S2 C2 B2 O2 : Nat → Int32} {ch2 : Int32} {PC2 : Nat → Int32} {SF2 BF2 : Nat → Nat → Int32} {ps2 sc2 hh2 : Nat} {th : Int32} {MX H W : Nat → Int32} {o : Nat → Int64} {m i k : Nat} (hk : k ≤ 514) (hi : i + 6 ≤ G.2.2.2.2.2.1) (hL31 : G.2.2.2.2.2.1 < 2 ^ 31) (hG : gI N O PC ps sc bc T C ch SF BF MX (2000 * k)) (hhk : hh ≤ 200 * k) (hA2 : chB ch2 (2000 * k)) (K : ∀ (a b f : Nat → Int32) (wa : Int32) (lr : Value) (nd dg : Int32) (B : Nat → Int32) (T N S C O : Nat → Int32) (ch : Int32) (PC : Nat → Int32) (SF BF : Nat → Nat → Int32) (ps sc bc hh : Nat) (a2 b2 f2 : Nat → Int32) (wa2 : Int32) (lr2 : Value) (nd2 dg2 : Int32) (T2 N2 S2 C2 B2 O2 : Nat → Int32) (ch2 : Int32) (PC2 : Nat → Int32) (SF2 BF2 : Nat → Nat → Int32) (ps2 sc2 hh2 : Nat) (th : Int32) (MX H W : Nat → Int32) (o : Nat → Int64), gI N O PC ps sc bc T C ch SF BF MX (2000 * (k + 1)) → hh ≤ 200 * (k + 1) → chB ch2 (2000 * (k + 1)) → V G (YL nm hd9) Z 10 (10 * m) (750 * m) 1403 [some (.ref G.2.2.2.1), some (.ref g0), some (.ref (z 0)), some (.ref y0), some (.int (nI i)), none, none, none, none] [] (LawM g0 y0 w u z a b f wa lr nd dg B T N S C O ch PC SF BF ps sc bc hh a2 b2 f2 wa2 lr2 nd2 dg2 T2 N2 S2 C2 B2 O2 ch2 PC2 SF2 BF2 ps2 sc2 hh2 th MX H W o)) : V G (YL nm hd9) Z 10 (10 * (m + 1)) (750 * (m + 1)) 884 [some (.ref G.2.2.2.1), some (.ref g0), some (.ref (z 0)), some (.ref y0), some (.int (nI i)), none, none, none, none] [] (LawM g0 y0 w u z a b f wa lr nd dg B T N S C O ch PC SF BF ps sc bc hh a2 b2 f2 wa2 lr2 nd2 dg2 T2 N2 S2 C2 B2 O2 ch2 PC2 SF2 BF2 ps2 sc2 hh2 th MX H W o) := by
  obtain ⟨⟨hps, hsc, hbc⟩, hPC, ⟨hN, hO⟩, hI, hz, hs, hd⟩ := id hG
  obtain ⟨hx, hP9, hW9, hw, hb, ⟨hT, hC, hLK⟩, hM9, hB9⟩ := id hI
  try dsimp only [wb, LawM, ModelM, LakeM, WaysM, WorldM, List.set_cons_succ, List.set_cons_zero, List.append_nil, List.nil_append, List.cons_append, Option.toList, Nat.sub_zero, List.take_succ_cons, List.take_zero]
  refine v_aload_nR (pc := 884) dL_law_884 rfl rfl ?_
  refine v_aload_nR (pc := 885) dL_law_885 rfl rfl ?_
  refine v_iload (pc := 886) dL_law_886 rfl ?_
  refine v_iconst (pc := 888) (v := 1) dL_law_888 rfl ?_
  refine v_iadd (pc := 889) dL_law_889 ?_
  rw [show nI i + 1 = nI (i + 1) from nI_add i 1]
  refine v_sld (pc := 890) (k := (i + 1)) (by omega) hL31 dL_law_890 ?_
  refine v_aload_nR (pc := 891) dL_law_891 rfl rfl ?_
  refine v_iload (pc := 892) dL_law_892 rfl ?_
  refine v_iconst (pc := 894) (v := 2) dL_law_894 rfl ?_
  refine v_iadd (pc := 895) dL_law_895 ?_
  rw [show nI i + 2 = nI (i + 2) from nI_add i 2]
  refine v_sld (pc := 896) (k := (i + 2)) (by omega) hL31 dL_law_896 ?_
  refine v_aload_nR (pc := 897) dL_law_897 rfl rfl ?_
  refine v_callSH4 (pc := 898) (c_L_bag hps hsc hbc) ch_L_bag q618 q619 [0, 1, 2, 3, 4, 5, 6, 7, 8, 9, 10, 11, 12, 13, 14, 15, 16, 17, 47] (by rfl) (by decide) (fun _ _ h => h) (by omega) (by omega) (by decide) (Nat.le_of_ble_eq_true rfl) dL_law_898 (fun v898 M898 hQ898 => ?_)
  obtain ⟨rfl, o9, ho, rfl⟩ := hQ898
  try dsimp only [wb, LawM, ModelM, LakeM, WaysM, WorldM, List.set_cons_succ, List.set_cons_zero, List.append_nil, List.nil_append, List.cons_append, Option.toList, Nat.sub_zero, List.take_succ_cons, List.take_zero]
  refine v_istore (pc := 901) dL_law_901 (by show _ < 9; decide) rfl ?_
  refine v_aload_nR (pc := 903) dL_law_903 rfl rfl ?_
  refine v_aload_nR (pc := 904) dL_law_904 rfl rfl ?_
  refine v_iload (pc := 905) dL_law_905 rfl ?_
  refine v_iconst (pc := 907) (v := 1) dL_law_907 rfl ?_
  refine v_iadd (pc := 908) dL_law_908 ?_
  rw [show nI i + 1 = nI (i + 1) from nI_add i 1]
  refine v_sld (pc := 909) (k := (i + 1)) (by omega) hL31 dL_law_909 ?_
  refine v_aload_nR (pc := 910) dL_law_910 rfl rfl ?_
  refine v_iload (pc := 911) dL_law_911 rfl ?_
  refine v_iconst (pc := 913) (v := 2) dL_law_913 rfl ?_
  refine v_iadd (pc := 914) dL_law_914 ?_
  rw [show nI i + 2 = nI (i + 2) from nI_add i 2]
  refine v_sld (pc := 915) (k := (i + 2)) (by omega) hL31 dL_law_915 ?_
  refine v_callV2 (pc := 916) (c_X6_bag hps hsc hbc) cm_X6_bag q975 q976 q977 (ci := 6) rfl rfl (orcO 35 rfl) [35, 36, 37, 38, 39, 40, 41, 42, 43, 44, 45, 46] (by rfl) (by decide) (fun _ _ h => h) (by omega) (by omega) (by decide) (Nat.le_of_ble_eq_true rfl) dL_law_916 (fun v916 M916 hQ916 => ?_)
  obtain ⟨rfl, rfl⟩ := hQ916
  try dsimp only [wb, LawM, ModelM, LakeM, WaysM, WorldM, List.set_cons_succ, List.set_cons_zero, List.append_nil, List.nil_append, List.cons_append, Option.toList, Nat.sub_zero, List.take_succ_cons, List.take_zero]
  refine v_istore (pc := 919) dL_law_919 (by show _ < 9; decide) rfl ?_
  refine v_aload_nR (pc := 921) dL_law_921 rfl rfl ?_
  refine v_callV0 (pc := 922) (c_X6_thrown hps hsc hbc) cm_X6_thrown q848 q849 q850 (ci := 6) rfl rfl (orcO 35 rfl) [35, 36, 37, 38, 39, 40, 41, 42, 43, 44, 45, 46] (by rfl) (by decide) (fun _ _ h => h) (by omega) (by omega) (by decide) (Nat.le_of_ble_eq_true rfl) dL_law_922 (fun v922 M922 hQ922 => ?_)
  obtain ⟨rfl, rfl⟩ := hQ922
  try dsimp only [wb, LawM, ModelM, LakeM, WaysM, WorldM, List.set_cons_succ, List.set_cons_zero, List.append_nil, List.nil_append, List.cons_append, Option.toList, Nat.sub_zero, List.take_succ_cons, List.take_zero]
  refine v_iload (pc := 925) dL_law_925 rfl ?_
  refine v_icmp_eq (pc := 927) (tgt := 932) dL_law_927 (by decide) (fun c927 => ?_) (fun c927 => absurd rfl c927)
  refine v_iload (pc := 932) dL_law_932 rfl ?_
  refine v_if_ne (pc := 934) (tgt := 949) dL_law_934 (by decide) (fun c934 => ?_) (fun c934 => ?_)
  · refine v_goto (pc := 949) (tgt := 1403) dL_law_949 (by decide) ?_
    refine v_room (ck' := 10 * m) (sk' := 750 * m) (by omega) (by omega) ?_
    refine v_sub ?_ (K _ _ _ _ _ _ _ _ _ _ _ _ _ _ _ _ _ _ _ _ _ _ _ _ _ _ _ _ _ _ _ _ _ _ _ _ _ _ _ _ _ _ _ _ _ _ (hG.more (by omega)) (by omega) (hA2.up (by omega)))
    exact ⟨rfl, rfl, rfl, rfl, rfl, trivial⟩
  · refine v_aload_nR (pc := 937) dL_law_937 rfl rfl ?_
    refine v_iconst (pc := 938) (v := 0) dL_law_938 rfl ?_
    refine v_lald (pc := 939) 47 rfl (by unfold vp_in; decide) dL_law_939 ?_
    refine v_iload (pc := 940) dL_law_940 rfl ?_
    refine v_i2l (pc := 942) dL_law_942 ?_
    rw [cl0, ho c934]
    refine v_lcmp (pc := 943) dL_law_943 ?_
    rw [lgc]
    refine v_if_eq (pc := 944) (tgt := 949) dL_law_944 (by decide) (fun c944 => ?_) (fun c944 => absurd rfl c944)
    refine v_goto (pc := 949) (tgt := 1403) dL_law_949 (by decide) ?_
    refine v_room (ck' := 10 * m) (sk' := 750 * m) (by omega) (by omega) ?_
    refine v_sub ?_ (K _ _ _ _ _ _ _ _ _ _ _ _ _ _ _ _ _ _ _ _ _ _ _ _ _ _ _ _ _ _ _ _ _ _ _ _ _ _ _ _ _ _ _ _ _ _ (hG.more (by omega)) (by omega) (hA2.up (by omega)))
    exact ⟨rfl, rfl, rfl, rfl, rfl, trivial⟩
set_option maxRecDepth 100000 in
set_option maxHeartbeats 4000000 in
theorem lw_c11 {G : Cx} {Z : ZT} {g0 y0 : Nat} {w u z : Nat → Nat} {nm : String} {hd9 : List (Nat × Nat × Nat × Nat)} {n5 : Nat} (h5 : n5 = 5) {a b f : Nat → Int32} {wa : Int32} {lr : Value} {nd dg : Int32} {B : Nat → Int32} {T N S C O : Nat → Int32} {ch : Int32} {PC : Nat → Int32} {SF BF : Nat → Nat → Int32} {ps sc bc hh : Nat} {a2 b2 f2 : Nat → Int32} {wa2 : Int32} {lr2 : Value} {nd2 dg2 : Int32} {T2 N2 S2 C2 B2 O2 : Nat → Int32} {ch2 : Int32} {PC2 : Nat → Int32} {SF2 BF2 : Nat → Nat → Int32} {ps2 sc2 hh2 : Nat} {th : Int32} {MX H W : Nat → Int32} {o : Nat → Int64} {m i k : Nat} (hk : k ≤ 514) (hi : i + 6 ≤ G.2.2.2.2.2.1) (hL31 : G.2.2.2.2.2.1 < 2 ^ 31) (hG : gI N O PC ps sc bc T C ch SF BF MX (2000 * k)) (hhk : hh ≤ 200 * k) (hA2 : chB ch2 (2000 * k)) (K : ∀ (a b f : Nat → Int32) (wa : Int32) (lr : Value) (nd dg : Int32) (B : Nat → Int32) (T N S C O : Nat → Int32) (ch : Int32) (PC : Nat → Int32) (SF BF : Nat → Nat → Int32) (ps sc bc hh : Nat) (a2 b2 f2 : Nat → Int32) (wa2 : Int32) (lr2 : Value) (nd2 dg2 : Int32) (T2 N2 S2 C2 B2 O2 : Nat → Int32) (ch2 : Int32) (PC2 : Nat → Int32) (SF2 BF2 : Nat → Nat → Int32) (ps2 sc2 hh2 : Nat) (th : Int32) (MX H W : Nat → Int32) (o : Nat → Int64), gI N O PC ps sc bc T C ch SF BF MX (2000 * (k + 1)) → hh ≤ 200 * (k + 1) → chB ch2 (2000 * (k + 1)) → V G (YL nm hd9) Z 10 (10 * m) (750 * m) 1403 [some (.ref G.2.2.2.1), some (.ref g0), some (.ref (z 0)), some (.ref y0), some (.int (nI i)), none, none, none, none] [] (LawM g0 y0 w u z a b f wa lr nd dg B T N S C O ch PC SF BF ps sc bc hh a2 b2 f2 wa2 lr2 nd2 dg2 T2 N2 S2 C2 B2 O2 ch2 PC2 SF2 BF2 ps2 sc2 hh2 th MX H W o)) : V G (YL nm hd9) Z 10 (10 * (m + 1)) (750 * (m + 1)) 952 [some (.ref G.2.2.2.1), some (.ref g0), some (.ref (z 0)), some (.ref y0), some (.int (nI i)), none, none, none, none] [] (LawM g0 y0 w u z a b f wa lr nd dg B T N S C O ch PC SF BF ps sc bc hh a2 b2 f2 wa2 lr2 nd2 dg2 T2 N2 S2 C2 B2 O2 ch2 PC2 SF2 BF2 ps2 sc2 hh2 th MX H W o) := by
  obtain ⟨⟨hps, hsc, hbc⟩, hPC, ⟨hN, hO⟩, hI, hz, hs, hd⟩ := id hG
  obtain ⟨hx, hP9, hW9, hw, hb, ⟨hT, hC, hLK⟩, hM9, hB9⟩ := id hI
  try dsimp only [wb, LawM, ModelM, LakeM, WaysM, WorldM, List.set_cons_succ, List.set_cons_zero, List.append_nil, List.nil_append, List.cons_append, Option.toList, Nat.sub_zero, List.take_succ_cons, List.take_zero]
  refine v_aload_nR (pc := 952) dL_law_952 rfl rfl ?_
  refine v_aload_nR (pc := 953) dL_law_953 rfl rfl ?_
  refine v_iload (pc := 954) dL_law_954 rfl ?_
  refine v_iconst (pc := 956) (v := 1) dL_law_956 rfl ?_
  refine v_iadd (pc := 957) dL_law_957 ?_
  rw [show nI i + 1 = nI (i + 1) from nI_add i 1]
  refine v_sld (pc := 958) (k := (i + 1)) (by omega) hL31 dL_law_958 ?_
  refine v_aload_nR (pc := 959) dL_law_959 rfl rfl ?_
  refine v_callSH3 (pc := 960) (c_L_pass (x := (SF, BF, T, B, (a, b, f, wa), lr, nd, dg, S, C, ch)) (hh := hh) hps hsc hbc h5 (by omega) hPC hx hC) ch_L_pass q627 q628 [0, 1, 2, 3, 4, 5, 6, 7, 8, 9, 10, 11, 12, 13, 14, 15, 16, 17, 47] (by rfl) (by decide) (fun _ _ h => h) (by omega) (by omega) (by decide) (Nat.le_of_ble_eq_true rfl) dL_law_960 (fun v960 M960 hQ960 => ?_)
  obtain ⟨rfl, o9, ho, rfl⟩ := hQ960
  try dsimp only [wb, LawM, ModelM, LakeM, WaysM, WorldM, List.set_cons_succ, List.set_cons_zero, List.append_nil, List.nil_append, List.cons_append, Option.toList, Nat.sub_zero, List.take_succ_cons, List.take_zero]
  refine v_istore (pc := 963) dL_law_963 (by show _ < 9; decide) rfl ?_
  refine v_aload_nR (pc := 965) dL_law_965 rfl rfl ?_
  refine v_aload_nR (pc := 966) dL_law_966 rfl rfl ?_
  refine v_iload (pc := 967) dL_law_967 rfl ?_
  refine v_iconst (pc := 969) (v := 1) dL_law_969 rfl ?_
  refine v_iadd (pc := 970) dL_law_970 ?_
  rw [show nI i + 1 = nI (i + 1) from nI_add i 1]
  refine v_sld (pc := 971) (k := (i + 1)) (by omega) hL31 dL_law_971 ?_
  refine v_callV1 (pc := 972) (c_X6_pass hps hsc hbc h5 (l5 := .ref (w 5)) (hh := hh) (x := (SF, BF, T, B, (a, b, f, wa), lr, nd, dg, S, C, ch)) (B := 2000 * k) (by omega) (by omega) hPC hN hO hI) cm_X6_pass q979 q980 q981 (ci := 6) rfl rfl (orcO 35 rfl) [35, 36, 37, 38, 39, 40, 41, 42, 43, 44, 45, 46] (by rfl) (by decide) (fun _ _ h => h) (by omega) (by omega) (by decide) (Nat.le_of_ble_eq_true rfl) dL_law_972 (fun v972 M972 hQ972 => ?_)
  obtain ⟨rfl, MX9, H9, W9, rfl, hY9⟩ := hQ972
  try dsimp only [wb, LawM, ModelM, LakeM, WaysM, WorldM, List.set_cons_succ, List.set_cons_zero, List.append_nil, List.nil_append, List.cons_append, Option.toList, Nat.sub_zero, List.take_succ_cons, List.take_zero]
  refine v_istore (pc := 975) dL_law_975 (by show _ < 9; decide) rfl ?_
  refine v_aload_nR (pc := 977) dL_law_977 rfl rfl ?_
  refine v_callV0 (pc := 978) (c_X6_thrown hps hsc hbc) cm_X6_thrown q848 q849 q850 (ci := 6) rfl rfl (orcO 35 rfl) [35, 36, 37, 38, 39, 40, 41, 42, 43, 44, 45, 46] (by rfl) (by decide) (fun _ _ h => h) (by omega) (by omega) (by decide) (Nat.le_of_ble_eq_true rfl) dL_law_978 (fun v978 M978 hQ978 => ?_)
  obtain ⟨rfl, rfl⟩ := hQ978
  try dsimp only [wb, LawM, ModelM, LakeM, WaysM, WorldM, List.set_cons_succ, List.set_cons_zero, List.append_nil, List.nil_append, List.cons_append, Option.toList, Nat.sub_zero, List.take_succ_cons, List.take_zero]
  refine v_iload (pc := 981) dL_law_981 rfl ?_
  refine v_icmp_eq (pc := 983) (tgt := 988) dL_law_983 (by decide) (fun c983 => ?_) (fun c983 => absurd rfl c983)
  refine v_iload (pc := 988) dL_law_988 rfl ?_
  refine v_if_ne (pc := 990) (tgt := 1005) dL_law_990 (by decide) (fun c990 => ?_) (fun c990 => ?_)
  · refine v_goto (pc := 1005) (tgt := 1403) dL_law_1005 (by decide) ?_
    refine v_room (ck' := 10 * m) (sk' := 750 * m) (by omega) (by omega) ?_
    refine v_sub ?_ (K _ _ _ _ _ _ _ _ _ _ _ _ _ _ _ _ _ _ _ _ _ _ _ _ _ _ _ _ _ _ _ _ _ _ _ _ _ _ _ _ _ _ _ _ _ _ ((gI.pa (hh := hh) hG hY9).more (by omega)) (Nat.le_trans rPs_hh (by omega)) (hA2.up (by omega)))
    exact ⟨rfl, rfl, rfl, rfl, rfl, trivial⟩
  · refine v_aload_nR (pc := 993) dL_law_993 rfl rfl ?_
    refine v_iconst (pc := 994) (v := 0) dL_law_994 rfl ?_
    refine v_lald (pc := 995) 47 rfl (by unfold vp_in; decide) dL_law_995 ?_
    refine v_iload (pc := 996) dL_law_996 rfl ?_
    refine v_i2l (pc := 998) dL_law_998 ?_
    rw [cl0, ho c990]
    refine v_lcmp (pc := 999) dL_law_999 ?_
    rw [lgc]
    refine v_if_eq (pc := 1000) (tgt := 1005) dL_law_1000 (by decide) (fun c1000 => ?_) (fun c1000 => absurd rfl c1000)
    refine v_goto (pc := 1005) (tgt := 1403) dL_law_1005 (by decide) ?_
    refine v_room (ck' := 10 * m) (sk' := 750 * m) (by omega) (by omega) ?_
    refine v_sub ?_ (K _ _ _ _ _ _ _ _ _ _ _ _ _ _ _ _ _ _ _ _ _ _ _ _ _ _ _ _ _ _ _ _ _ _ _ _ _ _ _ _ _ _ _ _ _ _ ((gI.pa (hh := hh) hG hY9).more (by omega)) (Nat.le_trans rPs_hh (by omega)) (hA2.up (by omega)))
    exact ⟨rfl, rfl, rfl, rfl, rfl, trivial⟩
set_option maxRecDepth 100000 in
set_option maxHeartbeats 4000000 in
theorem lw_c12 {G : Cx} {Z : ZT} {g0 y0 : Nat} {w u z : Nat → Nat} {nm : String} {hd9 : List (Nat × Nat × Nat × Nat)} {n5 : Nat} (h5 : n5 = 5) {a b f : Nat → Int32} {wa : Int32} {lr : Value} {nd dg : Int32} {B : Nat → Int32} {T N S C O : Nat → Int32} {ch : Int32} {PC : Nat → Int32} {SF BF : Nat → Nat → Int32} {ps sc bc hh : Nat} {a2 b2 f2 : Nat → Int32} {wa2 : Int32} {lr2 : Value} {nd2 dg2 : Int32} {T2 N2 S2 C2 B2 O2 : Nat → Int32} {ch2 : Int32} {PC2 : Nat → Int32} {SF2 BF2 : Nat → Nat → Int32} {ps2 sc2 hh2 : Nat} {th : Int32} {MX H W : Nat → Int32} {o : Nat → Int64} {m i k : Nat} (hk : k ≤ 514) (hi : i + 6 ≤ G.2.2.2.2.2.1) (hL31 : G.2.2.2.2.2.1 < 2 ^ 31) (hG : gI N O PC ps sc bc T C ch SF BF MX (2000 * k)) (hhk : hh ≤ 200 * k) (hA2 : chB ch2 (2000 * k)) (K : ∀ (a b f : Nat → Int32) (wa : Int32) (lr : Value) (nd dg : Int32) (B : Nat → Int32) (T N S C O : Nat → Int32) (ch : Int32) (PC : Nat → Int32) (SF BF : Nat → Nat → Int32) (ps sc bc hh : Nat) (a2 b2 f2 : Nat → Int32) (wa2 : Int32) (lr2 : Value) (nd2 dg2 : Int32) (T2 N2 S2 C2 B2 O2 : Nat → Int32) (ch2 : Int32) (PC2 : Nat → Int32) (SF2 BF2 : Nat → Nat → Int32) (ps2 sc2 hh2 : Nat) (th : Int32) (MX H W : Nat → Int32) (o : Nat → Int64), gI N O PC ps sc bc T C ch SF BF MX (2000 * (k + 1)) → hh ≤ 200 * (k + 1) → chB ch2 (2000 * (k + 1)) → V G (YL nm hd9) Z 10 (10 * m) (750 * m) 1403 [some (.ref G.2.2.2.1), some (.ref g0), some (.ref (z 0)), some (.ref y0), some (.int (nI i)), none, none, none, none] [] (LawM g0 y0 w u z a b f wa lr nd dg B T N S C O ch PC SF BF ps sc bc hh a2 b2 f2 wa2 lr2 nd2 dg2 T2 N2 S2 C2 B2 O2 ch2 PC2 SF2 BF2 ps2 sc2 hh2 th MX H W o)) : V G (YL nm hd9) Z 10 (10 * (m + 1)) (750 * (m + 1)) 1008 [some (.ref G.2.2.2.1), some (.ref g0), some (.ref (z 0)), some (.ref y0), some (.int (nI i)), none, none, none, none] [] (LawM g0 y0 w u z a b f wa lr nd dg B T N S C O ch PC SF BF ps sc bc hh a2 b2 f2 wa2 lr2 nd2 dg2 T2 N2 S2 C2 B2 O2 ch2 PC2 SF2 BF2 ps2 sc2 hh2 th MX H W o) := by
  obtain ⟨⟨hps, hsc, hbc⟩, hPC, ⟨hN, hO⟩, hI, hz, hs, hd⟩ := id hG
  obtain ⟨hx, hP9, hW9, hw, hb, ⟨hT, hC, hLK⟩, hM9, hB9⟩ := id hI
  try dsimp only [wb, LawM, ModelM, LakeM, WaysM, WorldM, List.set_cons_succ, List.set_cons_zero, List.append_nil, List.nil_append, List.cons_append, Option.toList, Nat.sub_zero, List.take_succ_cons, List.take_zero]
  refine v_aload_nR (pc := 1008) dL_law_1008 rfl rfl ?_
  refine v_aload_nR (pc := 1009) dL_law_1009 rfl rfl ?_
  refine v_iload (pc := 1010) dL_law_1010 rfl ?_
  refine v_iconst (pc := 1012) (v := 1) dL_law_1012 rfl ?_
  refine v_iadd (pc := 1013) dL_law_1013 ?_
  rw [show nI i + 1 = nI (i + 1) from nI_add i 1]
  refine v_sld (pc := 1014) (k := (i + 1)) (by omega) hL31 dL_law_1014 ?_
  refine v_aload_nR (pc := 1015) dL_law_1015 rfl rfl ?_
  refine v_callSH3 (pc := 1016) (c_L_count hps hsc hbc) ch_L_count q733 q734 [0, 1, 2, 3, 4, 5, 6, 7, 8, 9, 10, 11, 12, 13, 14, 15, 16, 17, 47] (by rfl) (by decide) (fun _ _ h => h) (by omega) (by omega) (by decide) (Nat.le_of_ble_eq_true rfl) dL_law_1016 (fun v1016 M1016 hQ1016 => ?_)
  obtain ⟨rfl, o9, ho, rfl⟩ := hQ1016
  try dsimp only [wb, LawM, ModelM, LakeM, WaysM, WorldM, List.set_cons_succ, List.set_cons_zero, List.append_nil, List.nil_append, List.cons_append, Option.toList, Nat.sub_zero, List.take_succ_cons, List.take_zero]
  refine v_istore (pc := 1019) dL_law_1019 (by show _ < 9; decide) rfl ?_
  refine v_aload_nR (pc := 1021) dL_law_1021 rfl rfl ?_
  refine v_aload_nR (pc := 1022) dL_law_1022 rfl rfl ?_
  refine v_iload (pc := 1023) dL_law_1023 rfl ?_
  refine v_iconst (pc := 1025) (v := 1) dL_law_1025 rfl ?_
  refine v_iadd (pc := 1026) dL_law_1026 ?_
  rw [show nI i + 1 = nI (i + 1) from nI_add i 1]
  refine v_sld (pc := 1027) (k := (i + 1)) (by omega) hL31 dL_law_1027 ?_
  refine v_callV1 (pc := 1028) (c_X6_count hps hsc hbc hT hLK hC) cm_X6_count q1009 q1010 q1011 (ci := 6) rfl rfl (orcO 35 rfl) [35, 36, 37, 38, 39, 40, 41, 42, 43, 44, 45, 46] (by rfl) (by decide) (fun _ _ h => h) (by omega) (by omega) (by decide) (Nat.le_of_ble_eq_true rfl) dL_law_1028 (fun v1028 M1028 hQ1028 => ?_)
  obtain ⟨rfl, rfl⟩ := hQ1028
  try dsimp only [wb, LawM, ModelM, LakeM, WaysM, WorldM, List.set_cons_succ, List.set_cons_zero, List.append_nil, List.nil_append, List.cons_append, Option.toList, Nat.sub_zero, List.take_succ_cons, List.take_zero]
  refine v_istore (pc := 1031) dL_law_1031 (by show _ < 9; decide) rfl ?_
  refine v_aload_nR (pc := 1033) dL_law_1033 rfl rfl ?_
  refine v_callV0 (pc := 1034) (c_X6_thrown hps hsc hbc) cm_X6_thrown q848 q849 q850 (ci := 6) rfl rfl (orcO 35 rfl) [35, 36, 37, 38, 39, 40, 41, 42, 43, 44, 45, 46] (by rfl) (by decide) (fun _ _ h => h) (by omega) (by omega) (by decide) (Nat.le_of_ble_eq_true rfl) dL_law_1034 (fun v1034 M1034 hQ1034 => ?_)
  obtain ⟨rfl, rfl⟩ := hQ1034
  try dsimp only [wb, LawM, ModelM, LakeM, WaysM, WorldM, List.set_cons_succ, List.set_cons_zero, List.append_nil, List.nil_append, List.cons_append, Option.toList, Nat.sub_zero, List.take_succ_cons, List.take_zero]
  refine v_iload (pc := 1037) dL_law_1037 rfl ?_
  refine v_icmp_eq (pc := 1039) (tgt := 1044) dL_law_1039 (by decide) (fun c1039 => ?_) (fun c1039 => absurd rfl c1039)
  refine v_iload (pc := 1044) dL_law_1044 rfl ?_
  refine v_if_ne (pc := 1046) (tgt := 1061) dL_law_1046 (by decide) (fun c1046 => ?_) (fun c1046 => ?_)
  · refine v_goto (pc := 1061) (tgt := 1403) dL_law_1061 (by decide) ?_
    refine v_room (ck' := 10 * m) (sk' := 750 * m) (by omega) (by omega) ?_
    refine v_sub ?_ (K _ _ _ _ _ _ _ _ _ _ _ _ _ _ _ _ _ _ _ _ _ _ _ _ _ _ _ _ _ _ _ _ _ _ _ _ _ _ _ _ _ _ _ _ _ _ (hG.more (by omega)) (by omega) (hA2.up (by omega)))
    exact ⟨rfl, rfl, rfl, rfl, rfl, trivial⟩
  · refine v_aload_nR (pc := 1049) dL_law_1049 rfl rfl ?_
    refine v_iconst (pc := 1050) (v := 0) dL_law_1050 rfl ?_
    refine v_lald (pc := 1051) 47 rfl (by unfold vp_in; decide) dL_law_1051 ?_
    refine v_iload (pc := 1052) dL_law_1052 rfl ?_
    refine v_i2l (pc := 1054) dL_law_1054 ?_
    rw [cl0, ho c1046]
    refine v_lcmp (pc := 1055) dL_law_1055 ?_
    rw [lgc]
    refine v_if_eq (pc := 1056) (tgt := 1061) dL_law_1056 (by decide) (fun c1056 => ?_) (fun c1056 => absurd rfl c1056)
    refine v_goto (pc := 1061) (tgt := 1403) dL_law_1061 (by decide) ?_
    refine v_room (ck' := 10 * m) (sk' := 750 * m) (by omega) (by omega) ?_
    refine v_sub ?_ (K _ _ _ _ _ _ _ _ _ _ _ _ _ _ _ _ _ _ _ _ _ _ _ _ _ _ _ _ _ _ _ _ _ _ _ _ _ _ _ _ _ _ _ _ _ _ (hG.more (by omega)) (by omega) (hA2.up (by omega)))
    exact ⟨rfl, rfl, rfl, rfl, rfl, trivial⟩
set_option maxRecDepth 100000 in
set_option maxHeartbeats 4000000 in
theorem lw_c13 {G : Cx} {Z : ZT} {g0 y0 : Nat} {w u z : Nat → Nat} {nm : String} {hd9 : List (Nat × Nat × Nat × Nat)} {n5 : Nat} (h5 : n5 = 5) {a b f : Nat → Int32} {wa : Int32} {lr : Value} {nd dg : Int32} {B : Nat → Int32} {T N S C O : Nat → Int32} {ch : Int32} {PC : Nat → Int32} {SF BF : Nat → Nat → Int32} {ps sc bc hh : Nat} {a2 b2 f2 : Nat → Int32} {wa2 : Int32} {lr2 : Value} {nd2 dg2 : Int32} {T2 N2 S2 C2 B2 O2 : Nat → Int32} {ch2 : Int32} {PC2 : Nat → Int32} {SF2 BF2 : Nat → Nat → Int32} {ps2 sc2 hh2 : Nat} {th : Int32} {MX H W : Nat → Int32} {o : Nat → Int64} {m i k : Nat} (hk : k ≤ 514) (hi : i + 6 ≤ G.2.2.2.2.2.1) (hL31 : G.2.2.2.2.2.1 < 2 ^ 31) (hG : gI N O PC ps sc bc T C ch SF BF MX (2000 * k)) (hhk : hh ≤ 200 * k) (hA2 : chB ch2 (2000 * k)) (K : ∀ (a b f : Nat → Int32) (wa : Int32) (lr : Value) (nd dg : Int32) (B : Nat → Int32) (T N S C O : Nat → Int32) (ch : Int32) (PC : Nat → Int32) (SF BF : Nat → Nat → Int32) (ps sc bc hh : Nat) (a2 b2 f2 : Nat → Int32) (wa2 : Int32) (lr2 : Value) (nd2 dg2 : Int32) (T2 N2 S2 C2 B2 O2 : Nat → Int32) (ch2 : Int32) (PC2 : Nat → Int32) (SF2 BF2 : Nat → Nat → Int32) (ps2 sc2 hh2 : Nat) (th : Int32) (MX H W : Nat → Int32) (o : Nat → Int64), gI N O PC ps sc bc T C ch SF BF MX (2000 * (k + 1)) → hh ≤ 200 * (k + 1) → chB ch2 (2000 * (k + 1)) → V G (YL nm hd9) Z 10 (10 * m) (750 * m) 1403 [some (.ref G.2.2.2.1), some (.ref g0), some (.ref (z 0)), some (.ref y0), some (.int (nI i)), none, none, none, none] [] (LawM g0 y0 w u z a b f wa lr nd dg B T N S C O ch PC SF BF ps sc bc hh a2 b2 f2 wa2 lr2 nd2 dg2 T2 N2 S2 C2 B2 O2 ch2 PC2 SF2 BF2 ps2 sc2 hh2 th MX H W o)) : V G (YL nm hd9) Z 10 (10 * (m + 1)) (750 * (m + 1)) 1064 [some (.ref G.2.2.2.1), some (.ref g0), some (.ref (z 0)), some (.ref y0), some (.int (nI i)), none, none, none, none] [] (LawM g0 y0 w u z a b f wa lr nd dg B T N S C O ch PC SF BF ps sc bc hh a2 b2 f2 wa2 lr2 nd2 dg2 T2 N2 S2 C2 B2 O2 ch2 PC2 SF2 BF2 ps2 sc2 hh2 th MX H W o) := by
  obtain ⟨⟨hps, hsc, hbc⟩, hPC, ⟨hN, hO⟩, hI, hz, hs, hd⟩ := id hG
  obtain ⟨hx, hP9, hW9, hw, hb, ⟨hT, hC, hLK⟩, hM9, hB9⟩ := id hI
  try dsimp only [wb, LawM, ModelM, LakeM, WaysM, WorldM, List.set_cons_succ, List.set_cons_zero, List.append_nil, List.nil_append, List.cons_append, Option.toList, Nat.sub_zero, List.take_succ_cons, List.take_zero]
  refine v_aload_nR (pc := 1064) dL_law_1064 rfl rfl ?_
  refine v_aload_nR (pc := 1065) dL_law_1065 rfl rfl ?_
  refine v_iload (pc := 1066) dL_law_1066 rfl ?_
  refine v_iconst (pc := 1068) (v := 1) dL_law_1068 rfl ?_
  refine v_iadd (pc := 1069) dL_law_1069 ?_
  rw [show nI i + 1 = nI (i + 1) from nI_add i 1]
  refine v_sld (pc := 1070) (k := (i + 1)) (by omega) hL31 dL_law_1070 ?_
  refine v_aload_nR (pc := 1071) dL_law_1071 rfl rfl ?_
  refine v_iload (pc := 1072) dL_law_1072 rfl ?_
  refine v_iconst (pc := 1074) (v := 2) dL_law_1074 rfl ?_
  refine v_iadd (pc := 1075) dL_law_1075 ?_
  rw [show nI i + 2 = nI (i + 2) from nI_add i 2]
  refine v_sld (pc := 1076) (k := (i + 2)) (by omega) hL31 dL_law_1076 ?_
  refine v_aload_nR (pc := 1077) dL_law_1077 rfl rfl ?_
  refine v_iload (pc := 1078) dL_law_1078 rfl ?_
  refine v_iconst (pc := 1080) (v := 3) dL_law_1080 rfl ?_
  refine v_iadd (pc := 1081) dL_law_1081 ?_
  rw [show nI i + 3 = nI (i + 3) from nI_add i 3]
  refine v_sld (pc := 1082) (k := (i + 3)) (by omega) hL31 dL_law_1082 ?_
  refine v_aload_nR (pc := 1083) dL_law_1083 rfl rfl ?_
  refine v_iload (pc := 1084) dL_law_1084 rfl ?_
  refine v_iconst (pc := 1086) (v := 4) dL_law_1086 rfl ?_
  refine v_iadd (pc := 1087) dL_law_1087 ?_
  rw [show nI i + 4 = nI (i + 4) from nI_add i 4]
  refine v_sld (pc := 1088) (k := (i + 4)) (by omega) hL31 dL_law_1088 ?_
  refine v_aload_nR (pc := 1089) dL_law_1089 rfl rfl ?_
  refine v_callSH6 (pc := 1090) (c_L_way hps hsc hbc hPC) ch_L_way q741 q742 [0, 1, 2, 3, 4, 5, 6, 7, 8, 9, 10, 11, 12, 13, 14, 15, 16, 17, 47] (by rfl) (by decide) (fun _ _ h => h) (by omega) (by omega) (by decide) (Nat.le_of_ble_eq_true rfl) dL_law_1090 (fun v1090 M1090 hQ1090 => ?_)
  obtain ⟨rfl, o9, ho, a1x, b1x, f1x, wax, lrx, ndx, dgx, rfl⟩ := hQ1090
  try dsimp only [wb, LawM, ModelM, LakeM, WaysM, WorldM, List.set_cons_succ, List.set_cons_zero, List.append_nil, List.nil_append, List.cons_append, Option.toList, Nat.sub_zero, List.take_succ_cons, List.take_zero]
  refine v_istore (pc := 1093) dL_law_1093 (by show _ < 9; decide) rfl ?_
  refine v_aload_nR (pc := 1095) dL_law_1095 rfl rfl ?_
  refine v_aload_nR (pc := 1096) dL_law_1096 rfl rfl ?_
  refine v_iload (pc := 1097) dL_law_1097 rfl ?_
  refine v_iconst (pc := 1099) (v := 1) dL_law_1099 rfl ?_
  refine v_iadd (pc := 1100) dL_law_1100 ?_
  rw [show nI i + 1 = nI (i + 1) from nI_add i 1]
  refine v_sld (pc := 1101) (k := (i + 1)) (by omega) hL31 dL_law_1101 ?_
  refine v_aload_nR (pc := 1102) dL_law_1102 rfl rfl ?_
  refine v_iload (pc := 1103) dL_law_1103 rfl ?_
  refine v_iconst (pc := 1105) (v := 2) dL_law_1105 rfl ?_
  refine v_iadd (pc := 1106) dL_law_1106 ?_
  rw [show nI i + 2 = nI (i + 2) from nI_add i 2]
  refine v_sld (pc := 1107) (k := (i + 2)) (by omega) hL31 dL_law_1107 ?_
  refine v_aload_nR (pc := 1108) dL_law_1108 rfl rfl ?_
  refine v_iload (pc := 1109) dL_law_1109 rfl ?_
  refine v_iconst (pc := 1111) (v := 3) dL_law_1111 rfl ?_
  refine v_iadd (pc := 1112) dL_law_1112 ?_
  rw [show nI i + 3 = nI (i + 3) from nI_add i 3]
  refine v_sld (pc := 1113) (k := (i + 3)) (by omega) hL31 dL_law_1113 ?_
  refine v_aload_nR (pc := 1114) dL_law_1114 rfl rfl ?_
  refine v_iload (pc := 1115) dL_law_1115 rfl ?_
  refine v_iconst (pc := 1117) (v := 4) dL_law_1117 rfl ?_
  refine v_iadd (pc := 1118) dL_law_1118 ?_
  rw [show nI i + 4 = nI (i + 4) from nI_add i 4]
  refine v_sld (pc := 1119) (k := (i + 4)) (by omega) hL31 dL_law_1119 ?_
  refine v_callV4 (pc := 1120) (c_X6_way hps hsc hbc (f := f) hPC hN hT hC) cm_X6_way q1021 q1022 q1023 (ci := 6) rfl rfl (orcO 35 rfl) [35, 36, 37, 38, 39, 40, 41, 42, 43, 44, 45, 46] (by rfl) (by decide) (fun _ _ h => h) (by omega) (by omega) (by decide) (Nat.le_of_ble_eq_true rfl) dL_law_1120 (fun v1120 M1120 hQ1120 => ?_)
  obtain ⟨rfl, H9, rfl⟩ := hQ1120
  try dsimp only [wb, LawM, ModelM, LakeM, WaysM, WorldM, List.set_cons_succ, List.set_cons_zero, List.append_nil, List.nil_append, List.cons_append, Option.toList, Nat.sub_zero, List.take_succ_cons, List.take_zero]
  refine v_istore (pc := 1123) dL_law_1123 (by show _ < 9; decide) rfl ?_
  refine v_aload_nR (pc := 1125) dL_law_1125 rfl rfl ?_
  refine v_callV0 (pc := 1126) (c_X6_thrown hps hsc hbc) cm_X6_thrown q848 q849 q850 (ci := 6) rfl rfl (orcO 35 rfl) [35, 36, 37, 38, 39, 40, 41, 42, 43, 44, 45, 46] (by rfl) (by decide) (fun _ _ h => h) (by omega) (by omega) (by decide) (Nat.le_of_ble_eq_true rfl) dL_law_1126 (fun v1126 M1126 hQ1126 => ?_)
  obtain ⟨rfl, rfl⟩ := hQ1126
  try dsimp only [wb, LawM, ModelM, LakeM, WaysM, WorldM, List.set_cons_succ, List.set_cons_zero, List.append_nil, List.nil_append, List.cons_append, Option.toList, Nat.sub_zero, List.take_succ_cons, List.take_zero]
  refine v_iload (pc := 1129) dL_law_1129 rfl ?_
  refine v_icmp_eq (pc := 1131) (tgt := 1136) dL_law_1131 (by decide) (fun c1131 => ?_) (fun c1131 => absurd rfl c1131)
  refine v_iload (pc := 1136) dL_law_1136 rfl ?_
  refine v_if_ne (pc := 1138) (tgt := 1153) dL_law_1138 (by decide) (fun c1138 => ?_) (fun c1138 => ?_)
  · refine v_goto (pc := 1153) (tgt := 1403) dL_law_1153 (by decide) ?_
    refine v_room (ck' := 10 * m) (sk' := 750 * m) (by omega) (by omega) ?_
    refine v_sub ?_ (K _ _ _ _ _ _ _ _ _ _ _ _ _ _ _ _ _ _ _ _ _ _ _ _ _ _ _ _ _ _ _ _ _ _ _ _ _ _ _ _ _ _ _ _ _ _ (hG.more (by omega)) (by omega) (hA2.up (by omega)))
    exact ⟨rfl, rfl, rfl, rfl, rfl, trivial⟩
  · refine v_aload_nR (pc := 1141) dL_law_1141 rfl rfl ?_
    refine v_iconst (pc := 1142) (v := 0) dL_law_1142 rfl ?_
    refine v_lald (pc := 1143) 47 rfl (by unfold vp_in; decide) dL_law_1143 ?_
    refine v_iload (pc := 1144) dL_law_1144 rfl ?_
    refine v_i2l (pc := 1146) dL_law_1146 ?_
    rw [cl0, ho c1138]
    refine v_lcmp (pc := 1147) dL_law_1147 ?_
    rw [lgc]
    refine v_if_eq (pc := 1148) (tgt := 1153) dL_law_1148 (by decide) (fun c1148 => ?_) (fun c1148 => absurd rfl c1148)
    refine v_goto (pc := 1153) (tgt := 1403) dL_law_1153 (by decide) ?_
    refine v_room (ck' := 10 * m) (sk' := 750 * m) (by omega) (by omega) ?_
    refine v_sub ?_ (K _ _ _ _ _ _ _ _ _ _ _ _ _ _ _ _ _ _ _ _ _ _ _ _ _ _ _ _ _ _ _ _ _ _ _ _ _ _ _ _ _ _ _ _ _ _ (hG.more (by omega)) (by omega) (hA2.up (by omega)))
    exact ⟨rfl, rfl, rfl, rfl, rfl, trivial⟩
set_option maxRecDepth 100000 in
set_option maxHeartbeats 4000000 in
theorem lw_c14 {G : Cx} {Z : ZT} {g0 y0 : Nat} {w u z : Nat → Nat} {nm : String} {hd9 : List (Nat × Nat × Nat × Nat)} {n5 : Nat} (h5 : n5 = 5) {a b f : Nat → Int32} {wa : Int32} {lr : Value} {nd dg : Int32} {B : Nat → Int32} {T N S C O : Nat → Int32} {ch : Int32} {PC : Nat → Int32} {SF BF : Nat → Nat → Int32} {ps sc bc hh : Nat} {a2 b2 f2 : Nat → Int32} {wa2 : Int32} {lr2 : Value} {nd2 dg2 : Int32} {T2 N2 S2 C2 B2 O2 : Nat → Int32} {ch2 : Int32} {PC2 : Nat → Int32} {SF2 BF2 : Nat → Nat → Int32} {ps2 sc2 hh2 : Nat} {th : Int32} {MX H W : Nat → Int32} {o : Nat → Int64} {m i k : Nat} (hk : k ≤ 514) (hi : i + 6 ≤ G.2.2.2.2.2.1) (hL31 : G.2.2.2.2.2.1 < 2 ^ 31) (hG : gI N O PC ps sc bc T C ch SF BF MX (2000 * k)) (hhk : hh ≤ 200 * k) (hA2 : chB ch2 (2000 * k)) (K : ∀ (a b f : Nat → Int32) (wa : Int32) (lr : Value) (nd dg : Int32) (B : Nat → Int32) (T N S C O : Nat → Int32) (ch : Int32) (PC : Nat → Int32) (SF BF : Nat → Nat → Int32) (ps sc bc hh : Nat) (a2 b2 f2 : Nat → Int32) (wa2 : Int32) (lr2 : Value) (nd2 dg2 : Int32) (T2 N2 S2 C2 B2 O2 : Nat → Int32) (ch2 : Int32) (PC2 : Nat → Int32) (SF2 BF2 : Nat → Nat → Int32) (ps2 sc2 hh2 : Nat) (th : Int32) (MX H W : Nat → Int32) (o : Nat → Int64), gI N O PC ps sc bc T C ch SF BF MX (2000 * (k + 1)) → hh ≤ 200 * (k + 1) → chB ch2 (2000 * (k + 1)) → V G (YL nm hd9) Z 10 (10 * m) (750 * m) 1403 [some (.ref G.2.2.2.1), some (.ref g0), some (.ref (z 0)), some (.ref y0), some (.int (nI i)), none, none, none, none] [] (LawM g0 y0 w u z a b f wa lr nd dg B T N S C O ch PC SF BF ps sc bc hh a2 b2 f2 wa2 lr2 nd2 dg2 T2 N2 S2 C2 B2 O2 ch2 PC2 SF2 BF2 ps2 sc2 hh2 th MX H W o)) : V G (YL nm hd9) Z 10 (10 * (m + 1)) (750 * (m + 1)) 1156 [some (.ref G.2.2.2.1), some (.ref g0), some (.ref (z 0)), some (.ref y0), some (.int (nI i)), none, none, none, none] [] (LawM g0 y0 w u z a b f wa lr nd dg B T N S C O ch PC SF BF ps sc bc hh a2 b2 f2 wa2 lr2 nd2 dg2 T2 N2 S2 C2 B2 O2 ch2 PC2 SF2 BF2 ps2 sc2 hh2 th MX H W o) := by
  obtain ⟨⟨hps, hsc, hbc⟩, hPC, ⟨hN, hO⟩, hI, hz, hs, hd⟩ := id hG
  obtain ⟨hx, hP9, hW9, hw, hb, ⟨hT, hC, hLK⟩, hM9, hB9⟩ := id hI
  try dsimp only [wb, LawM, ModelM, LakeM, WaysM, WorldM, List.set_cons_succ, List.set_cons_zero, List.append_nil, List.nil_append, List.cons_append, Option.toList, Nat.sub_zero, List.take_succ_cons, List.take_zero]
  refine v_aload_nR (pc := 1156) dL_law_1156 rfl rfl ?_
  refine v_aload_nR (pc := 1157) dL_law_1157 rfl rfl ?_
  refine v_iload (pc := 1158) dL_law_1158 rfl ?_
  refine v_iconst (pc := 1160) (v := 1) dL_law_1160 rfl ?_
  refine v_iadd (pc := 1161) dL_law_1161 ?_
  rw [show nI i + 1 = nI (i + 1) from nI_add i 1]
  refine v_sld (pc := 1162) (k := (i + 1)) (by omega) hL31 dL_law_1162 ?_
  refine v_aload_nR (pc := 1163) dL_law_1163 rfl rfl ?_
  refine v_iload (pc := 1164) dL_law_1164 rfl ?_
  refine v_iconst (pc := 1166) (v := 2) dL_law_1166 rfl ?_
  refine v_iadd (pc := 1167) dL_law_1167 ?_
  rw [show nI i + 2 = nI (i + 2) from nI_add i 2]
  refine v_sld (pc := 1168) (k := (i + 2)) (by omega) hL31 dL_law_1168 ?_
  refine v_aload_nR (pc := 1169) dL_law_1169 rfl rfl ?_
  refine v_callSH4 (pc := 1170) (c_L_bears hps hsc hbc hN hPC) ch_L_bears q753 q754 [0, 1, 2, 3, 4, 5, 6, 7, 8, 9, 10, 11, 12, 13, 14, 15, 16, 17, 47] (by rfl) (by decide) (fun _ _ h => h) (by omega) (by omega) (by decide) (Nat.le_of_ble_eq_true rfl) dL_law_1170 (fun v1170 M1170 hQ1170 => ?_)
  obtain ⟨nb, o9, rfl, hcs, a1x, b1x, f1x, wax, lrx, ndx, dgx, rfl⟩ := hQ1170
  try dsimp only [wb, LawM, ModelM, LakeM, WaysM, WorldM, List.set_cons_succ, List.set_cons_zero, List.append_nil, List.nil_append, List.cons_append, Option.toList, Nat.sub_zero, List.take_succ_cons, List.take_zero]
  refine v_istore (pc := 1173) dL_law_1173 (by show _ < 9; decide) rfl ?_
  refine v_aload_nR (pc := 1175) dL_law_1175 rfl rfl ?_
  refine v_aload_nR (pc := 1176) dL_law_1176 rfl rfl ?_
  refine v_iload (pc := 1177) dL_law_1177 rfl ?_
  refine v_iconst (pc := 1179) (v := 1) dL_law_1179 rfl ?_
  refine v_iadd (pc := 1180) dL_law_1180 ?_
  rw [show nI i + 1 = nI (i + 1) from nI_add i 1]
  refine v_sld (pc := 1181) (k := (i + 1)) (by omega) hL31 dL_law_1181 ?_
  refine v_aload_nR (pc := 1182) dL_law_1182 rfl rfl ?_
  refine v_iload (pc := 1183) dL_law_1183 rfl ?_
  refine v_iconst (pc := 1185) (v := 2) dL_law_1185 rfl ?_
  refine v_iadd (pc := 1186) dL_law_1186 ?_
  rw [show nI i + 2 = nI (i + 2) from nI_add i 2]
  refine v_sld (pc := 1187) (k := (i + 2)) (by omega) hL31 dL_law_1187 ?_
  refine v_callV2 (pc := 1188) (c_X6_bears hps hsc hbc hPC hN hT hC) cm_X6_bears q1025 q1026 q1027 (ci := 6) rfl rfl (orcO 35 rfl) [35, 36, 37, 38, 39, 40, 41, 42, 43, 44, 45, 46] (by rfl) (by decide) (fun _ _ h => h) (by omega) (by omega) (by decide) (Nat.le_of_ble_eq_true rfl) dL_law_1188 (fun v9 M9 hQ9 => ?_)
  rcases hQ9 with ⟨hcc, ⟨r8, rfl, hr9⟩, H9, rfl⟩ | ⟨hcc, rfl, rfl⟩
  · rcases hcs with ⟨rfl, -, r9, ho9, hb9⟩ | ⟨-, hno⟩
    · try dsimp only [wb, LawM, ModelM, LakeM, WaysM, WorldM, List.set_cons_succ, List.set_cons_zero, List.append_nil, List.nil_append, List.cons_append, Option.toList, Nat.sub_zero, List.take_succ_cons, List.take_zero]
      refine v_istore (pc := 1191) dL_law_1191 (by show _ < 9; decide) rfl ?_
      refine v_aload_nR (pc := 1193) dL_law_1193 rfl rfl ?_
      refine v_callV0 (pc := 1194) (c_X6_thrown hps hsc hbc) cm_X6_thrown q848 q849 q850 (ci := 6) rfl rfl (orcO 35 rfl) [35, 36, 37, 38, 39, 40, 41, 42, 43, 44, 45, 46] (by rfl) (by decide) (fun _ _ h => h) (by omega) (by omega) (by decide) (Nat.le_of_ble_eq_true rfl) dL_law_1194 (fun v1194 M1194 hQ1194 => ?_)
      obtain ⟨rfl, rfl⟩ := hQ1194
      try dsimp only [wb, LawM, ModelM, LakeM, WaysM, WorldM, List.set_cons_succ, List.set_cons_zero, List.append_nil, List.nil_append, List.cons_append, Option.toList, Nat.sub_zero, List.take_succ_cons, List.take_zero]
      refine v_iload (pc := 1197) dL_law_1197 rfl ?_
      refine v_icmp_eq (pc := 1199) (tgt := 1204) dL_law_1199 (by decide) (fun c1199 => ?_) (fun c1199 => absurd rfl c1199)
      refine v_iload (pc := 1204) dL_law_1204 rfl ?_
      refine v_if_ne (pc := 1206) (tgt := 1221) dL_law_1206 (by decide) (fun c1206 => absurd rfl c1206) (fun c1206 => ?_)
      refine v_aload_nR (pc := 1209) dL_law_1209 rfl rfl ?_
      refine v_iconst (pc := 1210) (v := 0) dL_law_1210 rfl ?_
      refine v_lald (pc := 1211) 47 rfl (by unfold vp_in; decide) dL_law_1211 ?_
      refine v_iload (pc := 1212) dL_law_1212 rfl ?_
      refine v_i2l (pc := 1214) dL_law_1214 ?_
      rw [cl0, ho9, hb9.one hr9]
      refine v_lcmp (pc := 1215) dL_law_1215 ?_
      rw [lgc]
      refine v_if_eq (pc := 1216) (tgt := 1221) dL_law_1216 (by decide) (fun c1216 => ?_) (fun c1216 => absurd rfl c1216)
      refine v_goto (pc := 1221) (tgt := 1403) dL_law_1221 (by decide) ?_
      refine v_room (ck' := 10 * m) (sk' := 750 * m) (by omega) (by omega) ?_
      refine v_sub ?_ (K _ _ _ _ _ _ _ _ _ _ _ _ _ _ _ _ _ _ _ _ _ _ _ _ _ _ _ _ _ _ _ _ _ _ _ _ _ _ _ _ _ _ _ _ _ _ (hG.more (by omega)) (by omega) (hA2.up (by omega)))
      exact ⟨rfl, rfl, rfl, rfl, rfl, trivial⟩
    · exact absurd hcc hno
  · rcases hcs with ⟨-, hyes, -⟩ | ⟨rfl, -⟩
    · exact absurd hyes hcc
    · try dsimp only [wb, LawM, ModelM, LakeM, WaysM, WorldM, List.set_cons_succ, List.set_cons_zero, List.append_nil, List.nil_append, List.cons_append, Option.toList, Nat.sub_zero, List.take_succ_cons, List.take_zero]
      refine v_istore (pc := 1191) dL_law_1191 (by show _ < 9; decide) rfl ?_
      refine v_aload_nR (pc := 1193) dL_law_1193 rfl rfl ?_
      refine v_callV0 (pc := 1194) (c_X6_thrown hps hsc hbc) cm_X6_thrown q848 q849 q850 (ci := 6) rfl rfl (orcO 35 rfl) [35, 36, 37, 38, 39, 40, 41, 42, 43, 44, 45, 46] (by rfl) (by decide) (fun _ _ h => h) (by omega) (by omega) (by decide) (Nat.le_of_ble_eq_true rfl) dL_law_1194 (fun v1194 M1194 hQ1194 => ?_)
      obtain ⟨rfl, rfl⟩ := hQ1194
      try dsimp only [wb, LawM, ModelM, LakeM, WaysM, WorldM, List.set_cons_succ, List.set_cons_zero, List.append_nil, List.nil_append, List.cons_append, Option.toList, Nat.sub_zero, List.take_succ_cons, List.take_zero]
      refine v_iload (pc := 1197) dL_law_1197 rfl ?_
      refine v_icmp_eq (pc := 1199) (tgt := 1204) dL_law_1199 (by decide) (fun c1199 => ?_) (fun c1199 => absurd rfl c1199)
      refine v_iload (pc := 1204) dL_law_1204 rfl ?_
      refine v_if_ne (pc := 1206) (tgt := 1221) dL_law_1206 (by decide) (fun c1206 => ?_) (fun c1206 => absurd c1206 (by decide))
      refine v_goto (pc := 1221) (tgt := 1403) dL_law_1221 (by decide) ?_
      refine v_room (ck' := 10 * m) (sk' := 750 * m) (by omega) (by omega) ?_
      refine v_sub ?_ (K _ _ _ _ _ _ _ _ _ _ _ _ _ _ _ _ _ _ _ _ _ _ _ _ _ _ _ _ _ _ _ _ _ _ _ _ _ _ _ _ _ _ _ _ _ _ (hG.more (by omega)) (by omega) (hA2.up (by omega)))
      exact ⟨rfl, rfl, rfl, rfl, rfl, trivial⟩
set_option maxRecDepth 100000 in
set_option maxHeartbeats 4000000 in
theorem lw_c15 {G : Cx} {Z : ZT} {g0 y0 : Nat} {w u z : Nat → Nat} {nm : String} {hd9 : List (Nat × Nat × Nat × Nat)} {n5 : Nat} (h5 : n5 = 5) {a b f : Nat → Int32} {wa : Int32} {lr : Value} {nd dg : Int32} {B : Nat → Int32} {T N S C O : Nat → Int32} {ch : Int32} {PC : Nat → Int32} {SF BF : Nat → Nat → Int32} {ps sc bc hh : Nat} {a2 b2 f2 : Nat → Int32} {wa2 : Int32} {lr2 : Value} {nd2 dg2 : Int32} {T2 N2 S2 C2 B2 O2 : Nat → Int32} {ch2 : Int32} {PC2 : Nat → Int32} {SF2 BF2 : Nat → Nat → Int32} {ps2 sc2 hh2 : Nat} {th : Int32} {MX H W : Nat → Int32} {o : Nat → Int64} {m i k : Nat} (hk : k ≤ 514) (hi : i + 6 ≤ G.2.2.2.2.2.1) (hL31 : G.2.2.2.2.2.1 < 2 ^ 31) (hG : gI N O PC ps sc bc T C ch SF BF MX (2000 * k)) (hhk : hh ≤ 200 * k) (hA2 : chB ch2 (2000 * k)) (K : ∀ (a b f : Nat → Int32) (wa : Int32) (lr : Value) (nd dg : Int32) (B : Nat → Int32) (T N S C O : Nat → Int32) (ch : Int32) (PC : Nat → Int32) (SF BF : Nat → Nat → Int32) (ps sc bc hh : Nat) (a2 b2 f2 : Nat → Int32) (wa2 : Int32) (lr2 : Value) (nd2 dg2 : Int32) (T2 N2 S2 C2 B2 O2 : Nat → Int32) (ch2 : Int32) (PC2 : Nat → Int32) (SF2 BF2 : Nat → Nat → Int32) (ps2 sc2 hh2 : Nat) (th : Int32) (MX H W : Nat → Int32) (o : Nat → Int64), gI N O PC ps sc bc T C ch SF BF MX (2000 * (k + 1)) → hh ≤ 200 * (k + 1) → chB ch2 (2000 * (k + 1)) → V G (YL nm hd9) Z 10 (10 * m) (750 * m) 1403 [some (.ref G.2.2.2.1), some (.ref g0), some (.ref (z 0)), some (.ref y0), some (.int (nI i)), none, none, none, none] [] (LawM g0 y0 w u z a b f wa lr nd dg B T N S C O ch PC SF BF ps sc bc hh a2 b2 f2 wa2 lr2 nd2 dg2 T2 N2 S2 C2 B2 O2 ch2 PC2 SF2 BF2 ps2 sc2 hh2 th MX H W o)) : V G (YL nm hd9) Z 10 (10 * (m + 1)) (750 * (m + 1)) 1224 [some (.ref G.2.2.2.1), some (.ref g0), some (.ref (z 0)), some (.ref y0), some (.int (nI i)), none, none, none, none] [] (LawM g0 y0 w u z a b f wa lr nd dg B T N S C O ch PC SF BF ps sc bc hh a2 b2 f2 wa2 lr2 nd2 dg2 T2 N2 S2 C2 B2 O2 ch2 PC2 SF2 BF2 ps2 sc2 hh2 th MX H W o) := by
  obtain ⟨⟨hps, hsc, hbc⟩, hPC, ⟨hN, hO⟩, hI, hz, hs, hd⟩ := id hG
  obtain ⟨hx, hP9, hW9, hw, hb, ⟨hT, hC, hLK⟩, hM9, hB9⟩ := id hI
  try dsimp only [wb, LawM, ModelM, LakeM, WaysM, WorldM, List.set_cons_succ, List.set_cons_zero, List.append_nil, List.nil_append, List.cons_append, Option.toList, Nat.sub_zero, List.take_succ_cons, List.take_zero]
  refine v_aload_nR (pc := 1224) dL_law_1224 rfl rfl ?_
  refine v_aload_nR (pc := 1225) dL_law_1225 rfl rfl ?_
  refine v_iload (pc := 1226) dL_law_1226 rfl ?_
  refine v_iconst (pc := 1228) (v := 1) dL_law_1228 rfl ?_
  refine v_iadd (pc := 1229) dL_law_1229 ?_
  rw [show nI i + 1 = nI (i + 1) from nI_add i 1]
  refine v_sld (pc := 1230) (k := (i + 1)) (by omega) hL31 dL_law_1230 ?_
  refine v_aload_nR (pc := 1231) dL_law_1231 rfl rfl ?_
  refine v_iload (pc := 1232) dL_law_1232 rfl ?_
  refine v_iconst (pc := 1234) (v := 2) dL_law_1234 rfl ?_
  refine v_iadd (pc := 1235) dL_law_1235 ?_
  rw [show nI i + 2 = nI (i + 2) from nI_add i 2]
  refine v_sld (pc := 1236) (k := (i + 2)) (by omega) hL31 dL_law_1236 ?_
  refine v_aload_nR (pc := 1237) dL_law_1237 rfl rfl ?_
  refine v_callSH4 (pc := 1238) (c_L_foresee (hh := hh) hps hsc hbc h5 hPC hx hC (by omega) hA2 (by omega)) ch_L_foresee q764 q765 [0, 1, 2, 3, 4, 5, 6, 7, 8, 9, 10, 11, 12, 13, 14, 15, 16, 17, 18, 19, 20, 21, 22, 23, 24, 25, 26, 27, 28, 29, 30, 31, 32, 33, 34, 47] (by rfl) (by decide) (fun _ _ h => h) (by omega) (by omega) (by decide) (Nat.le_of_ble_eq_true rfl) dL_law_1238 (fun v1238 M1238 hQ1238 => ?_)
  obtain ⟨rfl, o9, ho, u0x, u1x, u2x, u3x, u4x, u5x, u6x, u7x, u8x, u9x, u10x, u11x, u12x, u13x, u14x, u15x, u16x, u17x, u18x, u19x, hA9, rfl⟩ := hQ1238
  try dsimp only [wb, LawM, ModelM, LakeM, WaysM, WorldM, List.set_cons_succ, List.set_cons_zero, List.append_nil, List.nil_append, List.cons_append, Option.toList, Nat.sub_zero, List.take_succ_cons, List.take_zero]
  refine v_istore (pc := 1241) dL_law_1241 (by show _ < 9; decide) rfl ?_
  refine v_aload_nR (pc := 1243) dL_law_1243 rfl rfl ?_
  refine v_aload_nR (pc := 1244) dL_law_1244 rfl rfl ?_
  refine v_iload (pc := 1245) dL_law_1245 rfl ?_
  refine v_iconst (pc := 1247) (v := 1) dL_law_1247 rfl ?_
  refine v_iadd (pc := 1248) dL_law_1248 ?_
  rw [show nI i + 1 = nI (i + 1) from nI_add i 1]
  refine v_sld (pc := 1249) (k := (i + 1)) (by omega) hL31 dL_law_1249 ?_
  refine v_aload_nR (pc := 1250) dL_law_1250 rfl rfl ?_
  refine v_iload (pc := 1251) dL_law_1251 rfl ?_
  refine v_iconst (pc := 1253) (v := 2) dL_law_1253 rfl ?_
  refine v_iadd (pc := 1254) dL_law_1254 ?_
  rw [show nI i + 2 = nI (i + 2) from nI_add i 2]
  refine v_sld (pc := 1255) (k := (i + 2)) (by omega) hL31 dL_law_1255 ?_
  refine v_callV2 (pc := 1256) (c_X6_foreseeN (hh := hh) hps hsc hbc h5 (BF2 := BF2) (SF2 := SF2) (Bk := B2) (qs := (a2, b2, f2, wa2)) (lr := lr2) (l5 := .ref (u 5)) (nd := nd2) (dg := dg2) (ch2 := ch2) (B2 := 2000 * k) (by omega) (by omega) hPC hN hO hI hA2) cm_X6_foresee q1033 q1034 q1035 (ci := 6) rfl rfl (orcO 35 rfl) [35, 36, 37, 38, 39, 40, 41, 42, 43, 44, 45, 46] (by rfl) (by decide) (fun _ _ h => h) (by omega) (by omega) (by decide) (Nat.le_of_ble_eq_true rfl) dL_law_1256 (fun v1256 M1256 hQ1256 => ?_)
  obtain ⟨rfl, H9, W9, rfl⟩ := hQ1256
  try dsimp only [wb, LawM, ModelM, LakeM, WaysM, WorldM, List.set_cons_succ, List.set_cons_zero, List.append_nil, List.nil_append, List.cons_append, Option.toList, Nat.sub_zero, List.take_succ_cons, List.take_zero]
  refine v_istore (pc := 1259) dL_law_1259 (by show _ < 9; decide) rfl ?_
  refine v_aload_nR (pc := 1261) dL_law_1261 rfl rfl ?_
  refine v_callV0 (pc := 1262) (c_X6_thrown hps hsc hbc) cm_X6_thrown q848 q849 q850 (ci := 6) rfl rfl (orcO 35 rfl) [35, 36, 37, 38, 39, 40, 41, 42, 43, 44, 45, 46] (by rfl) (by decide) (fun _ _ h => h) (by omega) (by omega) (by decide) (Nat.le_of_ble_eq_true rfl) dL_law_1262 (fun v1262 M1262 hQ1262 => ?_)
  obtain ⟨rfl, rfl⟩ := hQ1262
  try dsimp only [wb, LawM, ModelM, LakeM, WaysM, WorldM, List.set_cons_succ, List.set_cons_zero, List.append_nil, List.nil_append, List.cons_append, Option.toList, Nat.sub_zero, List.take_succ_cons, List.take_zero]
  refine v_iload (pc := 1265) dL_law_1265 rfl ?_
  refine v_icmp_eq (pc := 1267) (tgt := 1272) dL_law_1267 (by decide) (fun c1267 => ?_) (fun c1267 => absurd rfl c1267)
  refine v_iload (pc := 1272) dL_law_1272 rfl ?_
  refine v_if_ne (pc := 1274) (tgt := 1289) dL_law_1274 (by decide) (fun c1274 => ?_) (fun c1274 => ?_)
  · refine v_goto (pc := 1289) (tgt := 1403) dL_law_1289 (by decide) ?_
    refine v_room (ck' := 10 * m) (sk' := 750 * m) (by omega) (by omega) ?_
    refine v_sub ?_ (K _ _ _ _ _ _ _ _ _ _ _ _ _ _ _ _ _ _ _ _ _ _ _ _ _ _ _ _ _ _ _ _ _ _ _ _ _ _ _ _ _ _ _ _ _ _ (hG.more (by omega)) (by omega) (hA9.up (by omega)))
    exact ⟨rfl, rfl, rfl, rfl, rfl, trivial⟩
  · refine v_aload_nR (pc := 1277) dL_law_1277 rfl rfl ?_
    refine v_iconst (pc := 1278) (v := 0) dL_law_1278 rfl ?_
    refine v_lald (pc := 1279) 47 rfl (by unfold vp_in; decide) dL_law_1279 ?_
    refine v_iload (pc := 1280) dL_law_1280 rfl ?_
    refine v_i2l (pc := 1282) dL_law_1282 ?_
    rw [cl0, ho c1274]
    refine v_lcmp (pc := 1283) dL_law_1283 ?_
    rw [lgc]
    refine v_if_eq (pc := 1284) (tgt := 1289) dL_law_1284 (by decide) (fun c1284 => ?_) (fun c1284 => absurd rfl c1284)
    refine v_goto (pc := 1289) (tgt := 1403) dL_law_1289 (by decide) ?_
    refine v_room (ck' := 10 * m) (sk' := 750 * m) (by omega) (by omega) ?_
    refine v_sub ?_ (K _ _ _ _ _ _ _ _ _ _ _ _ _ _ _ _ _ _ _ _ _ _ _ _ _ _ _ _ _ _ _ _ _ _ _ _ _ _ _ _ _ _ _ _ _ _ (hG.more (by omega)) (by omega) (hA9.up (by omega)))
    exact ⟨rfl, rfl, rfl, rfl, rfl, trivial⟩
set_option maxRecDepth 100000 in
set_option maxHeartbeats 4000000 in
theorem lw_c16 {G : Cx} {Z : ZT} {g0 y0 : Nat} {w u z : Nat → Nat} {nm : String} {hd9 : List (Nat × Nat × Nat × Nat)} {n5 : Nat} (h5 : n5 = 5) {a b f : Nat → Int32} {wa : Int32} {lr : Value} {nd dg : Int32} {B : Nat → Int32} {T N S C O : Nat → Int32} {ch : Int32} {PC : Nat → Int32} {SF BF : Nat → Nat → Int32} {ps sc bc hh : Nat} {a2 b2 f2 : Nat → Int32} {wa2 : Int32} {lr2 : Value} {nd2 dg2 : Int32} {T2 N2 S2 C2 B2 O2 : Nat → Int32} {ch2 : Int32} {PC2 : Nat → Int32} {SF2 BF2 : Nat → Nat → Int32} {ps2 sc2 hh2 : Nat} {th : Int32} {MX H W : Nat → Int32} {o : Nat → Int64} {m i k : Nat} (hk : k ≤ 514) (hi : i + 6 ≤ G.2.2.2.2.2.1) (hL31 : G.2.2.2.2.2.1 < 2 ^ 31) (hG : gI N O PC ps sc bc T C ch SF BF MX (2000 * k)) (hhk : hh ≤ 200 * k) (hA2 : chB ch2 (2000 * k)) (K : ∀ (a b f : Nat → Int32) (wa : Int32) (lr : Value) (nd dg : Int32) (B : Nat → Int32) (T N S C O : Nat → Int32) (ch : Int32) (PC : Nat → Int32) (SF BF : Nat → Nat → Int32) (ps sc bc hh : Nat) (a2 b2 f2 : Nat → Int32) (wa2 : Int32) (lr2 : Value) (nd2 dg2 : Int32) (T2 N2 S2 C2 B2 O2 : Nat → Int32) (ch2 : Int32) (PC2 : Nat → Int32) (SF2 BF2 : Nat → Nat → Int32) (ps2 sc2 hh2 : Nat) (th : Int32) (MX H W : Nat → Int32) (o : Nat → Int64), gI N O PC ps sc bc T C ch SF BF MX (2000 * (k + 1)) → hh ≤ 200 * (k + 1) → chB ch2 (2000 * (k + 1)) → V G (YL nm hd9) Z 10 (10 * m) (750 * m) 1403 [some (.ref G.2.2.2.1), some (.ref g0), some (.ref (z 0)), some (.ref y0), some (.int (nI i)), none, none, none, none] [] (LawM g0 y0 w u z a b f wa lr nd dg B T N S C O ch PC SF BF ps sc bc hh a2 b2 f2 wa2 lr2 nd2 dg2 T2 N2 S2 C2 B2 O2 ch2 PC2 SF2 BF2 ps2 sc2 hh2 th MX H W o)) : V G (YL nm hd9) Z 10 (10 * (m + 1)) (750 * (m + 1)) 1292 [some (.ref G.2.2.2.1), some (.ref g0), some (.ref (z 0)), some (.ref y0), some (.int (nI i)), none, none, none, none] [] (LawM g0 y0 w u z a b f wa lr nd dg B T N S C O ch PC SF BF ps sc bc hh a2 b2 f2 wa2 lr2 nd2 dg2 T2 N2 S2 C2 B2 O2 ch2 PC2 SF2 BF2 ps2 sc2 hh2 th MX H W o) := by
  obtain ⟨⟨hps, hsc, hbc⟩, hPC, ⟨hN, hO⟩, hI, hz, hs, hd⟩ := id hG
  obtain ⟨hx, hP9, hW9, hw, hb, ⟨hT, hC, hLK⟩, hM9, hB9⟩ := id hI
  try dsimp only [wb, LawM, ModelM, LakeM, WaysM, WorldM, List.set_cons_succ, List.set_cons_zero, List.append_nil, List.nil_append, List.cons_append, Option.toList, Nat.sub_zero, List.take_succ_cons, List.take_zero]
  refine v_aload_nR (pc := 1292) dL_law_1292 rfl rfl ?_
  refine v_aload_nR (pc := 1293) dL_law_1293 rfl rfl ?_
  refine v_iload (pc := 1294) dL_law_1294 rfl ?_
  refine v_iconst (pc := 1296) (v := 1) dL_law_1296 rfl ?_
  refine v_iadd (pc := 1297) dL_law_1297 ?_
  rw [show nI i + 1 = nI (i + 1) from nI_add i 1]
  refine v_sld (pc := 1298) (k := (i + 1)) (by omega) hL31 dL_law_1298 ?_
  refine v_aload_nR (pc := 1299) dL_law_1299 rfl rfl ?_
  refine v_callSH3 (pc := 1300) (c_L_arrives (hh := hh) hps hsc hbc h5 hPC hx hC (by omega) hA2 (by omega)) ch_L_arrives q788 q789 [0, 1, 2, 3, 4, 5, 6, 7, 8, 9, 10, 11, 12, 13, 14, 15, 16, 17, 18, 19, 20, 21, 22, 23, 24, 25, 26, 27, 28, 29, 30, 31, 32, 33, 34, 47] (by rfl) (by decide) (fun _ _ h => h) (by omega) (by omega) (by decide) (Nat.le_of_ble_eq_true rfl) dL_law_1300 (fun v1300 M1300 hQ1300 => ?_)
  obtain ⟨rfl, o9, ho, u0x, u1x, u2x, u3x, u4x, u5x, u6x, u7x, u8x, u9x, u10x, u11x, u12x, u13x, u14x, u15x, u16x, u17x, u18x, u19x, hA9, rfl⟩ := hQ1300
  try dsimp only [wb, LawM, ModelM, LakeM, WaysM, WorldM, List.set_cons_succ, List.set_cons_zero, List.append_nil, List.nil_append, List.cons_append, Option.toList, Nat.sub_zero, List.take_succ_cons, List.take_zero]
  refine v_istore (pc := 1303) dL_law_1303 (by show _ < 9; decide) rfl ?_
  refine v_aload_nR (pc := 1305) dL_law_1305 rfl rfl ?_
  refine v_aload_nR (pc := 1306) dL_law_1306 rfl rfl ?_
  refine v_iload (pc := 1307) dL_law_1307 rfl ?_
  refine v_iconst (pc := 1309) (v := 1) dL_law_1309 rfl ?_
  refine v_iadd (pc := 1310) dL_law_1310 ?_
  rw [show nI i + 1 = nI (i + 1) from nI_add i 1]
  refine v_sld (pc := 1311) (k := (i + 1)) (by omega) hL31 dL_law_1311 ?_
  refine v_callV1 (pc := 1312) (c_X6_arrivesN (hh := hh) hps hsc hbc h5 (BF2 := BF2) (SF2 := SF2) (Bk := B2) (qs := (a2, b2, f2, wa2)) (lr := lr2) (l5 := .ref (u 5)) (nd := nd2) (dg := dg2) (ch2 := ch2) (B2 := 2000 * k) (by omega) (by omega) hPC hN hO hI hA2) cm_X6_arrives q1053 q1054 q1055 (ci := 6) rfl rfl (orcO 35 rfl) [35, 36, 37, 38, 39, 40, 41, 42, 43, 44, 45, 46] (by rfl) (by decide) (fun _ _ h => h) (by omega) (by omega) (by decide) (Nat.le_of_ble_eq_true rfl) dL_law_1312 (fun v1312 M1312 hQ1312 => ?_)
  obtain ⟨rfl, H9, W9, rfl⟩ := hQ1312
  try dsimp only [wb, LawM, ModelM, LakeM, WaysM, WorldM, List.set_cons_succ, List.set_cons_zero, List.append_nil, List.nil_append, List.cons_append, Option.toList, Nat.sub_zero, List.take_succ_cons, List.take_zero]
  refine v_istore (pc := 1315) dL_law_1315 (by show _ < 9; decide) rfl ?_
  refine v_aload_nR (pc := 1317) dL_law_1317 rfl rfl ?_
  refine v_callV0 (pc := 1318) (c_X6_thrown hps hsc hbc) cm_X6_thrown q848 q849 q850 (ci := 6) rfl rfl (orcO 35 rfl) [35, 36, 37, 38, 39, 40, 41, 42, 43, 44, 45, 46] (by rfl) (by decide) (fun _ _ h => h) (by omega) (by omega) (by decide) (Nat.le_of_ble_eq_true rfl) dL_law_1318 (fun v1318 M1318 hQ1318 => ?_)
  obtain ⟨rfl, rfl⟩ := hQ1318
  try dsimp only [wb, LawM, ModelM, LakeM, WaysM, WorldM, List.set_cons_succ, List.set_cons_zero, List.append_nil, List.nil_append, List.cons_append, Option.toList, Nat.sub_zero, List.take_succ_cons, List.take_zero]
  refine v_iload (pc := 1321) dL_law_1321 rfl ?_
  refine v_icmp_eq (pc := 1323) (tgt := 1328) dL_law_1323 (by decide) (fun c1323 => ?_) (fun c1323 => absurd rfl c1323)
  refine v_iload (pc := 1328) dL_law_1328 rfl ?_
  refine v_if_ne (pc := 1330) (tgt := 1345) dL_law_1330 (by decide) (fun c1330 => ?_) (fun c1330 => ?_)
  · refine v_goto (pc := 1345) (tgt := 1403) dL_law_1345 (by decide) ?_
    refine v_room (ck' := 10 * m) (sk' := 750 * m) (by omega) (by omega) ?_
    refine v_sub ?_ (K _ _ _ _ _ _ _ _ _ _ _ _ _ _ _ _ _ _ _ _ _ _ _ _ _ _ _ _ _ _ _ _ _ _ _ _ _ _ _ _ _ _ _ _ _ _ (hG.more (by omega)) (by omega) (hA9.up (by omega)))
    exact ⟨rfl, rfl, rfl, rfl, rfl, trivial⟩
  · refine v_aload_nR (pc := 1333) dL_law_1333 rfl rfl ?_
    refine v_iconst (pc := 1334) (v := 0) dL_law_1334 rfl ?_
    refine v_lald (pc := 1335) 47 rfl (by unfold vp_in; decide) dL_law_1335 ?_
    refine v_iload (pc := 1336) dL_law_1336 rfl ?_
    refine v_i2l (pc := 1338) dL_law_1338 ?_
    rw [cl0, ho c1330]
    refine v_lcmp (pc := 1339) dL_law_1339 ?_
    rw [lgc]
    refine v_if_eq (pc := 1340) (tgt := 1345) dL_law_1340 (by decide) (fun c1340 => ?_) (fun c1340 => absurd rfl c1340)
    refine v_goto (pc := 1345) (tgt := 1403) dL_law_1345 (by decide) ?_
    refine v_room (ck' := 10 * m) (sk' := 750 * m) (by omega) (by omega) ?_
    refine v_sub ?_ (K _ _ _ _ _ _ _ _ _ _ _ _ _ _ _ _ _ _ _ _ _ _ _ _ _ _ _ _ _ _ _ _ _ _ _ _ _ _ _ _ _ _ _ _ _ _ (hG.more (by omega)) (by omega) (hA9.up (by omega)))
    exact ⟨rfl, rfl, rfl, rfl, rfl, trivial⟩
set_option maxRecDepth 100000 in
set_option maxHeartbeats 4000000 in
theorem lw_c17 {G : Cx} {Z : ZT} {g0 y0 : Nat} {w u z : Nat → Nat} {nm : String} {hd9 : List (Nat × Nat × Nat × Nat)} {n5 : Nat} (h5 : n5 = 5) {a b f : Nat → Int32} {wa : Int32} {lr : Value} {nd dg : Int32} {B : Nat → Int32} {T N S C O : Nat → Int32} {ch : Int32} {PC : Nat → Int32} {SF BF : Nat → Nat → Int32} {ps sc bc hh : Nat} {a2 b2 f2 : Nat → Int32} {wa2 : Int32} {lr2 : Value} {nd2 dg2 : Int32} {T2 N2 S2 C2 B2 O2 : Nat → Int32} {ch2 : Int32} {PC2 : Nat → Int32} {SF2 BF2 : Nat → Nat → Int32} {ps2 sc2 hh2 : Nat} {th : Int32} {MX H W : Nat → Int32} {o : Nat → Int64} {m i k : Nat} (hk : k ≤ 514) (hi : i + 6 ≤ G.2.2.2.2.2.1) (hL31 : G.2.2.2.2.2.1 < 2 ^ 31) (hG : gI N O PC ps sc bc T C ch SF BF MX (2000 * k)) (hhk : hh ≤ 200 * k) (hA2 : chB ch2 (2000 * k)) (K : ∀ (a b f : Nat → Int32) (wa : Int32) (lr : Value) (nd dg : Int32) (B : Nat → Int32) (T N S C O : Nat → Int32) (ch : Int32) (PC : Nat → Int32) (SF BF : Nat → Nat → Int32) (ps sc bc hh : Nat) (a2 b2 f2 : Nat → Int32) (wa2 : Int32) (lr2 : Value) (nd2 dg2 : Int32) (T2 N2 S2 C2 B2 O2 : Nat → Int32) (ch2 : Int32) (PC2 : Nat → Int32) (SF2 BF2 : Nat → Nat → Int32) (ps2 sc2 hh2 : Nat) (th : Int32) (MX H W : Nat → Int32) (o : Nat → Int64), gI N O PC ps sc bc T C ch SF BF MX (2000 * (k + 1)) → hh ≤ 200 * (k + 1) → chB ch2 (2000 * (k + 1)) → V G (YL nm hd9) Z 10 (10 * m) (750 * m) 1403 [some (.ref G.2.2.2.1), some (.ref g0), some (.ref (z 0)), some (.ref y0), some (.int (nI i)), none, none, none, none] [] (LawM g0 y0 w u z a b f wa lr nd dg B T N S C O ch PC SF BF ps sc bc hh a2 b2 f2 wa2 lr2 nd2 dg2 T2 N2 S2 C2 B2 O2 ch2 PC2 SF2 BF2 ps2 sc2 hh2 th MX H W o)) : V G (YL nm hd9) Z 10 (10 * (m + 1)) (750 * (m + 1)) 1348 [some (.ref G.2.2.2.1), some (.ref g0), some (.ref (z 0)), some (.ref y0), some (.int (nI i)), none, none, none, none] [] (LawM g0 y0 w u z a b f wa lr nd dg B T N S C O ch PC SF BF ps sc bc hh a2 b2 f2 wa2 lr2 nd2 dg2 T2 N2 S2 C2 B2 O2 ch2 PC2 SF2 BF2 ps2 sc2 hh2 th MX H W o) := by
  obtain ⟨⟨hps, hsc, hbc⟩, hPC, ⟨hN, hO⟩, hI, hz, hs, hd⟩ := id hG
  obtain ⟨hx, hP9, hW9, hw, hb, ⟨hT, hC, hLK⟩, hM9, hB9⟩ := id hI
  try dsimp only [wb, LawM, ModelM, LakeM, WaysM, WorldM, List.set_cons_succ, List.set_cons_zero, List.append_nil, List.nil_append, List.cons_append, Option.toList, Nat.sub_zero, List.take_succ_cons, List.take_zero]
  refine v_aload_nR (pc := 1348) dL_law_1348 rfl rfl ?_
  refine v_callV0 (pc := 1349) (c_X5_mean hps hsc hbc hT) cm_X5_mean q208 q209 q210 (ci := 5) rfl rfl (orcO 0 rfl) [0, 1, 2, 3, 4, 5, 6, 7, 8, 9, 10, 11, 12, 13, 14, 15, 16, 17] (by rfl) (by decide) (fun _ _ h => h) (by omega) (by omega) (by decide) (Nat.le_of_ble_eq_true rfl) dL_law_1349 (fun v1349 M1349 hQ1349 => ?_)
  obtain ⟨rfl, rfl⟩ := hQ1349
  try dsimp only [wb, LawM, ModelM, LakeM, WaysM, WorldM, List.set_cons_succ, List.set_cons_zero, List.append_nil, List.nil_append, List.cons_append, Option.toList, Nat.sub_zero, List.take_succ_cons, List.take_zero]
  refine v_dstore (pc := 1352) dL_law_1352 (by show _ < 9; decide) rfl ?_
  refine v_aload_nR (pc := 1354) dL_law_1354 rfl rfl ?_
  refine v_callV0 (pc := 1355) (c_X6_mean hps hsc hbc hT hC hLK) cm_X6_mean q1057 q1058 q1059 (ci := 6) rfl rfl (orcO 35 rfl) [35, 36, 37, 38, 39, 40, 41, 42, 43, 44, 45, 46] (by rfl) (by decide) (fun _ _ h => h) (by omega) (by omega) (by decide) (Nat.le_of_ble_eq_true rfl) dL_law_1355 (fun v1355 M1355 hQ1355 => ?_)
  obtain ⟨rfl, rfl⟩ := hQ1355
  try dsimp only [wb, LawM, ModelM, LakeM, WaysM, WorldM, List.set_cons_succ, List.set_cons_zero, List.append_nil, List.nil_append, List.cons_append, Option.toList, Nat.sub_zero, List.take_succ_cons, List.take_zero]
  refine v_dstore (pc := 1358) dL_law_1358 (by show _ < 9; decide) rfl ?_
  refine v_dload (pc := 1360) dL_law_1360 rfl ?_
  refine v_dload (pc := 1362) dL_law_1362 rfl ?_
  refine v_dcmp (pc := 1364) dL_law_1364 ?_
  rw [dcmp_eq (mnD_n64 hT)]
  refine v_if_eq (pc := 1365) (tgt := 1386) dL_law_1365 (by decide) (fun c1365 => ?_) (fun c1365 => absurd rfl c1365)
  refine v_goto (pc := 1386) (tgt := 1403) dL_law_1386 (by decide) ?_
  refine v_room (ck' := 10 * m) (sk' := 750 * m) (by omega) (by omega) ?_
  refine v_sub ?_ (K _ _ _ _ _ _ _ _ _ _ _ _ _ _ _ _ _ _ _ _ _ _ _ _ _ _ _ _ _ _ _ _ _ _ _ _ _ _ _ _ _ _ _ _ _ _ (hG.more (by omega)) (by omega) (hA2.up (by omega)))
  exact ⟨rfl, rfl, rfl, rfl, rfl, trivial⟩
set_option maxRecDepth 100000 in
set_option maxHeartbeats 4000000 in
theorem lw_c18 {G : Cx} {Z : ZT} {g0 y0 : Nat} {w u z : Nat → Nat} {nm : String} {hd9 : List (Nat × Nat × Nat × Nat)} {n5 : Nat} (h5 : n5 = 5) {a b f : Nat → Int32} {wa : Int32} {lr : Value} {nd dg : Int32} {B : Nat → Int32} {T N S C O : Nat → Int32} {ch : Int32} {PC : Nat → Int32} {SF BF : Nat → Nat → Int32} {ps sc bc hh : Nat} {a2 b2 f2 : Nat → Int32} {wa2 : Int32} {lr2 : Value} {nd2 dg2 : Int32} {T2 N2 S2 C2 B2 O2 : Nat → Int32} {ch2 : Int32} {PC2 : Nat → Int32} {SF2 BF2 : Nat → Nat → Int32} {ps2 sc2 hh2 : Nat} {th : Int32} {MX H W : Nat → Int32} {o : Nat → Int64} {m i k : Nat} (hk : k ≤ 514) (hi : i + 6 ≤ G.2.2.2.2.2.1) (hL31 : G.2.2.2.2.2.1 < 2 ^ 31) (hG : gI N O PC ps sc bc T C ch SF BF MX (2000 * k)) (hhk : hh ≤ 200 * k) (hA2 : chB ch2 (2000 * k)) (K : ∀ (a b f : Nat → Int32) (wa : Int32) (lr : Value) (nd dg : Int32) (B : Nat → Int32) (T N S C O : Nat → Int32) (ch : Int32) (PC : Nat → Int32) (SF BF : Nat → Nat → Int32) (ps sc bc hh : Nat) (a2 b2 f2 : Nat → Int32) (wa2 : Int32) (lr2 : Value) (nd2 dg2 : Int32) (T2 N2 S2 C2 B2 O2 : Nat → Int32) (ch2 : Int32) (PC2 : Nat → Int32) (SF2 BF2 : Nat → Nat → Int32) (ps2 sc2 hh2 : Nat) (th : Int32) (MX H W : Nat → Int32) (o : Nat → Int64), gI N O PC ps sc bc T C ch SF BF MX (2000 * (k + 1)) → hh ≤ 200 * (k + 1) → chB ch2 (2000 * (k + 1)) → V G (YL nm hd9) Z 10 (10 * m) (750 * m) 1403 [some (.ref G.2.2.2.1), some (.ref g0), some (.ref (z 0)), some (.ref y0), some (.int (nI i)), none, none, none, none] [] (LawM g0 y0 w u z a b f wa lr nd dg B T N S C O ch PC SF BF ps sc bc hh a2 b2 f2 wa2 lr2 nd2 dg2 T2 N2 S2 C2 B2 O2 ch2 PC2 SF2 BF2 ps2 sc2 hh2 th MX H W o)) : V G (YL nm hd9) Z 10 (10 * (m + 1)) (750 * (m + 1)) 1389 [some (.ref G.2.2.2.1), some (.ref g0), some (.ref (z 0)), some (.ref y0), some (.int (nI i)), none, none, none, none] [] (LawM g0 y0 w u z a b f wa lr nd dg B T N S C O ch PC SF BF ps sc bc hh a2 b2 f2 wa2 lr2 nd2 dg2 T2 N2 S2 C2 B2 O2 ch2 PC2 SF2 BF2 ps2 sc2 hh2 th MX H W o) := by
  obtain ⟨⟨hps, hsc, hbc⟩, hPC, ⟨hN, hO⟩, hI, hz, hs, hd⟩ := id hG
  obtain ⟨hx, hP9, hW9, hw, hb, ⟨hT, hC, hLK⟩, hM9, hB9⟩ := id hI
  try dsimp only [wb, LawM, ModelM, LakeM, WaysM, WorldM, List.set_cons_succ, List.set_cons_zero, List.append_nil, List.nil_append, List.cons_append, Option.toList, Nat.sub_zero, List.take_succ_cons, List.take_zero]
  refine v_aload_nR (pc := 1389) dL_law_1389 rfl rfl ?_
  refine v_callV0 (pc := 1390) (c_X5_digest hps hsc hbc) cm_X5_digest q223 q224 q225 (ci := 5) rfl rfl (orcO 0 rfl) [0, 1, 2, 3, 4, 5, 6, 7, 8, 9, 10, 11, 12, 13, 14, 15, 16, 17] (by rfl) (by decide) (fun _ _ h => h) (by omega) (by omega) (by decide) (Nat.le_of_ble_eq_true rfl) dL_law_1390 (fun v1390 M1390 hQ1390 => ?_)
  obtain ⟨rfl, rfl⟩ := hQ1390
  try dsimp only [wb, LawM, ModelM, LakeM, WaysM, WorldM, List.set_cons_succ, List.set_cons_zero, List.append_nil, List.nil_append, List.cons_append, Option.toList, Nat.sub_zero, List.take_succ_cons, List.take_zero]
  refine v_aload_nR (pc := 1393) dL_law_1393 rfl rfl ?_
  refine v_callV0 (pc := 1394) (c_X6_digest hps hsc hbc hT hC hLK hw) cm_X6_digest q1061 q1062 q1063 (ci := 6) rfl rfl (orcO 35 rfl) [35, 36, 37, 38, 39, 40, 41, 42, 43, 44, 45, 46] (by rfl) (by decide) (fun _ _ h => h) (by omega) (by omega) (by decide) (Nat.le_of_ble_eq_true rfl) dL_law_1394 (fun v1394 M1394 hQ1394 => ?_)
  obtain ⟨rfl, rfl⟩ := hQ1394
  try dsimp only [wb, LawM, ModelM, LakeM, WaysM, WorldM, List.set_cons_succ, List.set_cons_zero, List.append_nil, List.nil_append, List.cons_append, Option.toList, Nat.sub_zero, List.take_succ_cons, List.take_zero]
  refine v_lcmp (pc := 1397) dL_law_1397 ?_
  rw [lgc]
  refine v_if_eq (pc := 1398) (tgt := 1403) dL_law_1398 (by decide) (fun c1398 => ?_) (fun c1398 => absurd rfl c1398)
  refine v_room (ck' := 10 * m) (sk' := 750 * m) (by omega) (by omega) ?_
  refine v_sub ?_ (K _ _ _ _ _ _ _ _ _ _ _ _ _ _ _ _ _ _ _ _ _ _ _ _ _ _ _ _ _ _ _ _ _ _ _ _ _ _ _ _ _ _ _ _ _ _ (hG.more (by omega)) (by omega) (hA2.up (by omega)))
  exact ⟨rfl, rfl, rfl, rfl, rfl, trivial⟩
