/-! an hour of the world, and what a world is asked and told -/
/-- sleighs, bags, thickness, cracks before; the search's own, its lake, need, drag; strain, cracks, changes -/
abbrev HW := (Nat → Nat → Int32) × (Nat → Nat → Int32) × (Nat → Int32) × (Nat → Int32) × QS × Value × Int32 × Int32 × (Nat → Int32) × (Nat → Int32) × Int32
abbrev WH (w : Nat → Nat) (N O PC : Nat → Int32) (ps sc bc hh : Nat) (x : HW) : List ME := WorldM w x.2.2.2.2.1.1 x.2.2.2.2.1.2.1 x.2.2.2.2.1.2.2.1 x.2.2.2.2.1.2.2.2 x.2.2.2.2.2.1 x.2.2.2.2.2.2.1 x.2.2.2.2.2.2.2.1 x.2.2.1 N x.2.2.2.2.2.2.2.2.1 x.2.2.2.2.2.2.2.2.2.1 x.2.2.2.1 O x.2.2.2.2.2.2.2.2.2.2 PC x.1 x.2.1 ps sc bc hh
def hrA (O : Nat → Int32) (hh : Nat) (x : HW) : HW := if hh % 24 = 0 then (x.1, x.2.1, dT (O (hh / 24 % 8)) x.2.2.1, dB (O (hh / 24 % 8)) x.2.2.2.2.2.2.2.2.2.1 x.2.2.2.1, x.2.2.2.2.1, x.2.2.2.2.2.1, x.2.2.2.2.2.2.1, x.2.2.2.2.2.2.2.1, dS (O (hh / 24 % 8)) x.2.2.1 x.2.2.2.2.2.2.2.2.1, dC (O (hh / 24 % 8)) x.2.2.1 x.2.2.2.2.2.2.2.2.1 x.2.2.2.2.2.2.2.2.2.1, dH (O (hh / 24 % 8)) x.2.2.2.2.2.2.2.2.2.2) else x
def hrB (n5 : Nat) (sc bc : Nat) (x : HW) : HW := ((skL x.2.2.1 x.2.2.2.2.2.2.2.2.2.1 sc bc n5 0 (x.1, x.2.1)).1, (skL x.2.2.1 x.2.2.2.2.2.2.2.2.2.1 sc bc n5 0 (x.1, x.2.1)).2, x.2.2)
def hrC (n5 : Nat) (PC : Nat → Int32) (ps sc bc hh : Nat) (x : HW) : HW := ((mvL PC ps sc bc hh n5 0 (x.1, x.2.1, 0)).1, (mvL PC ps sc bc hh n5 0 (x.1, x.2.1, 0)).2.1, x.2.2)
def hrV (n5 : Nat) (PC : Nat → Int32) (ps sc bc hh : Nat) (x : HW) : Int32 := (mvL PC ps sc bc hh n5 0 (x.1, x.2.1, 0)).2.2
def hrE (n5 : Nat) (l5 : Value) (N PC : Nat → Int32) (ps sc : Nat) (x : HW) : HW := ((soL l5 x.2.2.1 N PC ps sc n5 0 (x.1, x.2.2.2.2)).1, x.2.1, x.2.2.1, x.2.2.2.1, (soL l5 x.2.2.1 N PC ps sc n5 0 (x.1, x.2.2.2.2)).2)
def hrR (n5 : Nat) (sc : Nat) (x : HW) : HW := (reL sc n5 0 x.1, x.2)
/-- the world after an hour, and the bags that came in it -/
def hrW (n5 : Nat) (l5 : Value) (N O PC : Nat → Int32) (ps sc bc hh : Nat) (x : HW) : HW := hrR n5 sc (hrE n5 l5 N PC ps sc (hrC n5 PC ps sc bc hh (hrB n5 sc bc (hrA O hh x))))
def hrN (n5 : Nat) (O PC : Nat → Int32) (ps sc bc hh : Nat) (x : HW) : Int32 := hrV n5 PC ps sc bc hh (hrB n5 sc bc (hrA O hh x))
theorem hrA_ok {O : Nat → Int32} {hh sc : Nat} {x : HW} (h : sOK x.1 sc) : sOK (hrA O hh x).1 sc := by unfold hrA; split <;> exact h
theorem hrB_ok {n5 : Nat} {sc bc : Nat} {x : HW} (h : sOK x.1 sc) : sOK (hrB n5 sc bc x).1 sc := skL_ok n5 0 h
theorem hrC_ok {n5 : Nat} {PC : Nat → Int32} {ps sc bc hh : Nat} {x : HW} (h : sOK x.1 sc) : sOK (hrC n5 PC ps sc bc hh x).1 sc := mvL_ok n5 0 h
theorem hrE_ok {n5 : Nat} {l5 : Value} {N PC : Nat → Int32} {ps sc : Nat} {x : HW} (h : sOK x.1 sc) : sOK (hrE n5 l5 N PC ps sc x).1 sc := soL_ok n5 0 (x := (x.1, x.2.2.2.2)) h
theorem hrW_ok {n5 : Nat} {l5 : Value} {N O PC : Nat → Int32} {ps sc bc hh : Nat} {x : HW} (h : sOK x.1 sc) : sOK (hrW n5 l5 N O PC ps sc bc hh x).1 sc := reL_ok n5 0 (hrE_ok (hrC_ok (hrB_ok (hrA_ok h))))
/-- what the walks need of the cracks -/
def cOK (C : Nat → Int32) : Prop := ∀ j, vp_nar .boolean (C j) = C j
theorem dC_ok {fr : Int32} {T S C : Nat → Int32} (h : cOK C) : cOK (dC fr T S C) := by
  intro j
  unfold dC
  split
  · exact h j
  · split
    · unfold fillU
      split
      · unfold spC
        split
        · rfl
        · exact h j
      · exact h j
    · exact h j
theorem upd_ok {C : Nat → Int32} {k : Nat} {v : Int32} (h : cOK C) (hv : vp_nar .boolean v = v) : cOK (upd C k v) := by
  intro j
  unfold upd
  split
  · exact hv
  · exact h j
theorem stU_ok {T S C : Nat → Int32} {k : Nat} {nd ch : Int32} (h : cOK C) : cOK (stU T S C k nd ch).2.1 := by
  unfold stU
  split
  · exact upd_ok h bI_vp
  · exact h
theorem soT_cok {l5 : Value} {T N PC : Nat → Int32} {ps sc n : Nat} {x : SO} (h : cOK x.2.2.2.2.2.2.1) : cOK (soT l5 T N PC ps sc n x).2.2.2.2.2.2.1 := by
  unfold soT
  split
  · split
    · exact h
    · exact stU_ok h
  · exact h
theorem soL_cok {l5 : Value} {T N PC : Nat → Int32} {ps sc : Nat} : ∀ m i {x : SO}, cOK x.2.2.2.2.2.2.1 → cOK (soL l5 T N PC ps sc m i x).2.2.2.2.2.2.1
  | 0, _, _, h => h
  | m + 1, i, _, h => soL_cok m (i + 1) (soT_cok h)
theorem hrW_cok {n5 : Nat} {l5 : Value} {N O PC : Nat → Int32} {ps sc bc hh : Nat} {x : HW} (h : cOK x.2.2.2.2.2.2.2.2.2.1) : cOK (hrW n5 l5 N O PC ps sc bc hh x).2.2.2.2.2.2.2.2.2.1 := by
  refine soL_cok (x := (_, (hrC n5 PC ps sc bc hh (hrB n5 sc bc (hrA O hh x))).2.2.2.2)) n5 0 ?_
  show cOK (hrA O hh x).2.2.2.2.2.2.2.2.2.1
  unfold hrA
  split
  · exact dC_ok h
  · exact h
theorem nI_p1 {n : Nat} : nI (n + 1) - 1 = nI n := by rw [← nI_1, Int32.add_sub_cancel]
theorem c_X4_sinkSleighsN {n5 : Nat} (h5 : n5 = 5) {G : Cx} {w : Nat → Nat} {a b f : Nat → Int32} {wa : Int32} {lr : Value} {nd dg : Int32} {T N S C B O : Nat → Int32} {ch : Int32} {PC : Nat → Int32} {SF BF : Nat → Nat → Int32} {ps sc bc hh : Nat} (hps : ps ≤ 8) (hsc : sc ≤ 5) (hbc : bc ≤ 40) (hx : sOK SF sc) : Mt G Y_X4_sinkSleighs 2 0 0 [.ref (w 0)] (WorldM w a b f wa lr nd dg T N S C B O ch PC SF BF ps sc bc hh) (fun v M' => v = none ∧ M' = WorldM w a b f wa lr nd dg T N S C B O ch PC (skL T C sc bc n5 0 (SF, BF)).1 (skL T C sc bc n5 0 (SF, BF)).2 ps sc bc hh) noX := by
  subst h5
  exact c_X4_sinkSleighs hps hsc hbc hx
theorem c_X4_moveSleighsN {n5 : Nat} (h5 : n5 = 5) {G : Cx} {w : Nat → Nat} {a b f : Nat → Int32} {wa : Int32} {lr : Value} {nd dg : Int32} {T N S C B O : Nat → Int32} {ch : Int32} {PC : Nat → Int32} {SF BF : Nat → Nat → Int32} {ps sc bc hh : Nat} (hps : ps ≤ 8) (hsc : sc ≤ 5) (hbc : bc ≤ 40) (hx : sOK SF sc) : Mt G Y_X4_moveSleighs 2 0 0 [.ref (w 0)] (WorldM w a b f wa lr nd dg T N S C B O ch PC SF BF ps sc bc hh) (fun v M' => v = some (.int (mvL PC ps sc bc hh n5 0 (SF, BF, 0)).2.2) ∧ M' = WorldM w a b f wa lr nd dg T N S C B O ch PC (mvL PC ps sc bc hh n5 0 (SF, BF, 0)).1 (mvL PC ps sc bc hh n5 0 (SF, BF, 0)).2.1 ps sc bc hh) noX := by
  subst h5
  exact c_X4_moveSleighs hps hsc hbc hx
theorem c_X4_setOutSleighsN {n5 : Nat} (h5 : n5 = 5) {G : Cx} {w : Nat → Nat} {a b f : Nat → Int32} {wa : Int32} {lr : Value} {nd dg : Int32} {T N S C B O : Nat → Int32} {ch : Int32} {PC : Nat → Int32} {SF BF : Nat → Nat → Int32} {ps sc bc hh : Nat} (hps : ps ≤ 8) (hsc : sc ≤ 5) (hbc : bc ≤ 40) (hPC : ∀ k, k < 8 → 0 ≤ PC k ∧ PC k < 160) (hx : sOK SF sc) : Mt G Y_X4_setOutSleighs 4 0 0 [.ref (w 0)] (WorldM w a b f wa lr nd dg T N S C B O ch PC SF BF ps sc bc hh) (fun v M' => v = none ∧ M' = WorldM w (soL (.ref (w 5)) T N PC ps sc n5 0 (SF, (a, b, f, wa), lr, nd, dg, S, C, ch)).2.1.1 (soL (.ref (w 5)) T N PC ps sc n5 0 (SF, (a, b, f, wa), lr, nd, dg, S, C, ch)).2.1.2.1 (soL (.ref (w 5)) T N PC ps sc n5 0 (SF, (a, b, f, wa), lr, nd, dg, S, C, ch)).2.1.2.2.1 (soL (.ref (w 5)) T N PC ps sc n5 0 (SF, (a, b, f, wa), lr, nd, dg, S, C, ch)).2.1.2.2.2 (soL (.ref (w 5)) T N PC ps sc n5 0 (SF, (a, b, f, wa), lr, nd, dg, S, C, ch)).2.2.1 (soL (.ref (w 5)) T N PC ps sc n5 0 (SF, (a, b, f, wa), lr, nd, dg, S, C, ch)).2.2.2.1 (soL (.ref (w 5)) T N PC ps sc n5 0 (SF, (a, b, f, wa), lr, nd, dg, S, C, ch)).2.2.2.2.1 T N (soL (.ref (w 5)) T N PC ps sc n5 0 (SF, (a, b, f, wa), lr, nd, dg, S, C, ch)).2.2.2.2.2.1 (soL (.ref (w 5)) T N PC ps sc n5 0 (SF, (a, b, f, wa), lr, nd, dg, S, C, ch)).2.2.2.2.2.2.1 B O (soL (.ref (w 5)) T N PC ps sc n5 0 (SF, (a, b, f, wa), lr, nd, dg, S, C, ch)).2.2.2.2.2.2.2 PC (soL (.ref (w 5)) T N PC ps sc n5 0 (SF, (a, b, f, wa), lr, nd, dg, S, C, ch)).1 BF ps sc bc hh) noX := by
  subst h5
  exact c_X4_setOutSleighs hps hsc hbc hPC hx
theorem c_X4_restSleighsN {n5 : Nat} (h5 : n5 = 5) {G : Cx} {w : Nat → Nat} {a b f : Nat → Int32} {wa : Int32} {lr : Value} {nd dg : Int32} {T N S C B O : Nat → Int32} {ch : Int32} {PC : Nat → Int32} {SF BF : Nat → Nat → Int32} {ps sc bc hh : Nat} (hps : ps ≤ 8) (hsc : sc ≤ 5) (hbc : bc ≤ 40) : Mt G Y_X4_restSleighs 2 0 0 [.ref (w 0)] (WorldM w a b f wa lr nd dg T N S C B O ch PC SF BF ps sc bc hh) (fun v M' => v = none ∧ M' = WorldM w a b f wa lr nd dg T N S C B O ch PC (reL sc n5 0 SF) BF ps sc bc hh) noX := by
  subst h5
  exact c_X4_restSleighs hps hsc hbc
theorem c_X4_sinkSleighsH {n5 : Nat} (h5 : n5 = 5) {G : Cx} {w : Nat → Nat} {N O PC : Nat → Int32} {ps sc bc hh : Nat} {x : HW} (hps : ps ≤ 8) (hsc : sc ≤ 5) (hbc : bc ≤ 40) (hx : sOK x.1 sc) : Mt G Y_X4_sinkSleighs 2 0 0 [.ref (w 0)] (WH w N O PC ps sc bc hh x) (fun v M' => v = none ∧ M' = WH w N O PC ps sc bc hh (hrB n5 sc bc x)) noX :=
  c_X4_sinkSleighsN h5 hps hsc hbc hx
theorem c_X4_moveSleighsH {n5 : Nat} (h5 : n5 = 5) {G : Cx} {w : Nat → Nat} {N O PC : Nat → Int32} {ps sc bc hh : Nat} {x : HW} (hps : ps ≤ 8) (hsc : sc ≤ 5) (hbc : bc ≤ 40) (hx : sOK x.1 sc) : Mt G Y_X4_moveSleighs 2 0 0 [.ref (w 0)] (WH w N O PC ps sc bc hh x) (fun v M' => v = some (.int (hrV n5 PC ps sc bc hh x)) ∧ M' = WH w N O PC ps sc bc hh (hrC n5 PC ps sc bc hh x)) noX :=
  c_X4_moveSleighsN h5 hps hsc hbc hx
theorem c_X4_setOutSleighsH {n5 : Nat} (h5 : n5 = 5) {G : Cx} {w : Nat → Nat} {N O PC : Nat → Int32} {ps sc bc hh : Nat} {x : HW} (hps : ps ≤ 8) (hsc : sc ≤ 5) (hbc : bc ≤ 40) (hPC : ∀ k, k < 8 → 0 ≤ PC k ∧ PC k < 160) (hx : sOK x.1 sc) : Mt G Y_X4_setOutSleighs 4 0 0 [.ref (w 0)] (WH w N O PC ps sc bc hh x) (fun v M' => v = none ∧ M' = WH w N O PC ps sc bc hh (hrE n5 (.ref (w 5)) N PC ps sc x)) noX :=
  c_X4_setOutSleighsN h5 hps hsc hbc hPC hx
theorem c_X4_restSleighsH {n5 : Nat} (h5 : n5 = 5) {G : Cx} {w : Nat → Nat} {N O PC : Nat → Int32} {ps sc bc hh : Nat} {x : HW} (hps : ps ≤ 8) (hsc : sc ≤ 5) (hbc : bc ≤ 40) : Mt G Y_X4_restSleighs 2 0 0 [.ref (w 0)] (WH w N O PC ps sc bc hh x) (fun v M' => v = none ∧ M' = WH w N O PC ps sc bc hh (hrR n5 sc x)) noX :=
  c_X4_restSleighsN h5 hps hsc hbc
set_option maxRecDepth 100000 in
set_option maxHeartbeats 4000000 in
theorem lp_X4_hour {n5 : Nat} (h5 : n5 = 5) {G : Cx} {w : Nat → Nat} {N O PC : Nat → Int32} {ps sc bc hh : Nat} {x : HW} (hps : ps ≤ 8) (hsc : sc ≤ 5) (hbc : bc ≤ 40) {sz : Nat} {x0 : HW} (hhh : hh < 2 ^ 31 - 1) (hPC : ∀ k, k < 8 → 0 ≤ PC k ∧ PC k < 160) (hx : sOK x.1 sc) : V G Y_X4_goOneHour (ZM G (WH w N O PC ps sc bc hh x0) sz (fun v M' => v = some (.int (hrV n5 PC ps sc bc hh (hrB n5 sc bc x))) ∧ M' = WH w N O PC ps sc bc (hh + 1) (hrR n5 sc (hrE n5 (.ref (w 5)) N PC ps sc (hrC n5 PC ps sc bc hh (hrB n5 sc bc x))))) noX) 5 0 0 24 [some (.ref (w 0)), none] [] (WH w N O PC ps sc bc hh x) := by

  refine v_aload_nR (pc := 24) dX4_goOneHour_24 rfl rfl ?_
  refine v_callV0 (pc := 25) (c_X4_sinkSleighsH (x := x) h5 hps hsc hbc hx) cm_X4_sinkSleighs q423 q425 qs5 (ci := 4) rfl rfl (orcO 0 rfl) [0, 1, 2, 3, 4, 5, 6, 7, 8, 9, 10, 11, 12, 13, 14, 15, 16] (by rfl) (by decide) (fun _ _ h => h) (by decide) (by decide) (by decide) (Nat.le_of_ble_eq_true rfl) dX4_goOneHour_25 (fun v25 M25 hQ25 => ?_)
  obtain ⟨rfl, rfl⟩ := hQ25
  try dsimp only [wb, LakeM, WaysM, WorldM, WH, List.set_cons_succ, List.set_cons_zero, List.append_nil, List.nil_append, List.cons_append, Option.toList, Nat.sub_zero]
  have h2 := hrB_ok (n5 := n5) (bc := bc) hx
  generalize hrB n5 sc bc x = y2 at h2 ⊢
  refine v_aload_nR (pc := 28) dX4_goOneHour_28 rfl rfl ?_
  refine v_callV0 (pc := 29) (c_X4_moveSleighsH (x := y2) h5 hps hsc hbc h2) cm_X4_moveSleighs q443 q445 qs7 (ci := 4) rfl rfl (orcO 0 rfl) [0, 1, 2, 3, 4, 5, 6, 7, 8, 9, 10, 11, 12, 13, 14, 15, 16] (by rfl) (by decide) (fun _ _ h => h) (by decide) (by decide) (by decide) (Nat.le_of_ble_eq_true rfl) dX4_goOneHour_29 (fun v29 M29 hQ29 => ?_)
  obtain ⟨rfl, rfl⟩ := hQ29
  try dsimp only [wb, LakeM, WaysM, WorldM, WH, List.set_cons_succ, List.set_cons_zero, List.append_nil, List.nil_append, List.cons_append, Option.toList, Nat.sub_zero]
  have h3 := hrC_ok (n5 := n5) (PC := PC) (ps := ps) (bc := bc) (hh := hh) h2
  generalize hrC n5 PC ps sc bc hh y2 = y3 at h3 ⊢
  refine v_istore_n (pc := 32) dX4_goOneHour_32 rfl (by decide) rfl ?_
  refine v_aload_nR (pc := 33) dX4_goOneHour_33 rfl rfl ?_
  refine v_callV0 (pc := 34) (c_X4_setOutSleighsH (x := y3) h5 hps hsc hbc hPC h3) cm_X4_setOutSleighs q476 q478 qs9 (ci := 4) rfl rfl (orcO 0 rfl) [0, 1, 2, 3, 4, 5, 6, 7, 8, 9, 10, 11, 12, 13, 14, 15, 16] (by rfl) (by decide) (fun _ _ h => h) (by decide) (by decide) (by decide) (Nat.le_of_ble_eq_true rfl) dX4_goOneHour_34 (fun v34 M34 hQ34 => ?_)
  obtain ⟨rfl, rfl⟩ := hQ34
  try dsimp only [wb, LakeM, WaysM, WorldM, WH, List.set_cons_succ, List.set_cons_zero, List.append_nil, List.nil_append, List.cons_append, Option.toList, Nat.sub_zero]
  generalize hrE n5 (.ref (w 5)) N PC ps sc y3 = y4
  refine v_aload_nR (pc := 37) dX4_goOneHour_37 rfl rfl ?_
  refine v_callV0 (pc := 38) (c_X4_restSleighsH (x := y4) h5 hps hsc hbc) cm_X4_restSleighs q516 q518 qs12 (ci := 4) rfl rfl (orcO 0 rfl) [0, 1, 2, 3, 4, 5, 6, 7, 8, 9, 10, 11, 12, 13, 14, 15, 16] (by rfl) (by decide) (fun _ _ h => h) (by decide) (by decide) (by decide) (Nat.le_of_ble_eq_true rfl) dX4_goOneHour_38 (fun v38 M38 hQ38 => ?_)
  obtain ⟨rfl, rfl⟩ := hQ38
  try dsimp only [wb, LakeM, WaysM, WorldM, WH, List.set_cons_succ, List.set_cons_zero, List.append_nil, List.nil_append, List.cons_append, Option.toList, Nat.sub_zero]
  generalize hrR n5 sc y4 = y5
  refine v_aload_nR (pc := 41) dX4_goOneHour_41 rfl rfl ?_
  refine v_dup (pc := 42) dX4_goOneHour_42 rfl ?_
  refine v_get (pc := 43) 8 0 fg_X4_60 rfl rfl dX4_goOneHour_43 ?_
  refine v_iconst (pc := 46) (v := 1) dX4_goOneHour_46 rfl ?_
  refine v_iadd (pc := 47) dX4_goOneHour_47 ?_
  rw [nI_1]
  refine v_put (pc := 48) 8 0 fp_X4_goOneHour_60 rfl rfl rfl (Nat.le_of_ble_eq_true rfl) dX4_goOneHour_48 ?_
  try dsimp only [wb, LakeM, WaysM, WorldM, WH, List.set_cons_succ, List.set_cons_zero, List.append_nil, List.nil_append, List.cons_append, Option.toList, Nat.sub_zero]
  refine v_iload_n (pc := 51) dX4_goOneHour_51 rfl rfl ?_
  refine v_iret (pc := 52) rfl rfl (Nat.le_of_ble_eq_true rfl) dX4_goOneHour_52 ?_
  exact ⟨rfl, rfl⟩
set_option maxRecDepth 100000 in
set_option maxHeartbeats 4000000 in
theorem c_X4_goOneHour0 {n5 : Nat} (h5 : n5 = 5) {G : Cx} {w : Nat → Nat} {N O PC : Nat → Int32} {ps sc bc hh : Nat} {x : HW} (hps : ps ≤ 8) (hsc : sc ≤ 5) (hbc : bc ≤ 40) (hhh0 : hh < 2 ^ 31 - 1) (hPC : ∀ k, k < 8 → 0 ≤ PC k ∧ PC k < 160) (hx : sOK x.1 sc) (hC : cOK x.2.2.2.2.2.2.2.2.2.1) : Mt G Y_X4_goOneHour 5 0 0 [.ref (w 0)] (WH w N O PC ps sc bc hh x) (fun v M' => v = some (.int (hrV n5 PC ps sc bc hh (hrB n5 sc bc (hrA O hh x)))) ∧ M' = WH w N O PC ps sc bc (hh + 1) (hrR n5 sc (hrE n5 (.ref (w 5)) N PC ps sc (hrC n5 PC ps sc bc hh (hrB n5 sc bc (hrA O hh x)))))) noX := by
  refine Mt.of (L := [some (.ref (w 0)), none]) rfl (by decide) (by simp [lg_sl, Value.category]) ⟨rfl, trivial⟩ (fun sz => ?_)
  have hhh : hh < 2 ^ 31 := by omega
  have h1 := hrA_ok (O := O) (hh := hh) hx
  generalize hy : hrA O hh x = y at h1 ⊢
  refine v_aload_nR (pc := 0) dX4_goOneHour_0 rfl rfl ?_
  refine v_get (pc := 1) 8 0 fg_X4_60 rfl rfl dX4_goOneHour_1 ?_
  refine v_bipush (pc := 4) (v := 24) dX4_goOneHour_4 rfl ?_
  refine v_irem (pc := 6) dX4_goOneHour_6 (by decide) ?_
  rw [show nI hh - nI hh / 24 * 24 = nI (hh % 24) from pk_rem (d := 24) hhh (by decide) (by decide)]
  refine v_if_ne (pc := 7) (tgt := 24) dX4_goOneHour_7 (by decide) (fun c7 => ?_) (fun c7 => ?_)
  · have c7 : ¬ (hh % 24) = 0 := fun h => c7 ((nI_eq (a := (hh % 24)) (b := 0) (by omega) (by omega)).mpr h)
    have eA : y = x := hy.symm.trans (if_neg c7)
    subst eA
    refine v_sub ?_ (lp_X4_hour (x := y) h5 hps hsc hbc hhh0 hPC h1)
    exact ⟨rfl, trivial⟩
  · have c7 : (hh % 24) = 0 := (nI_eq (a := (hh % 24)) (b := 0) (by omega) (by omega)).mp c7
    refine v_aload_nR (pc := 10) dX4_goOneHour_10 rfl rfl ?_
    refine v_get (pc := 11) 1 0 fg_X4_21 rfl rfl dX4_goOneHour_11 ?_
    refine v_aload_nR (pc := 14) dX4_goOneHour_14 rfl rfl ?_
    refine v_get (pc := 15) 8 0 fg_X4_60 rfl rfl dX4_goOneHour_15 ?_
    refine v_bipush (pc := 18) (v := 24) dX4_goOneHour_18 rfl ?_
    refine v_idiv (pc := 20) dX4_goOneHour_20 (by decide) ?_
    rw [show nI hh / 24 = nI (hh / 24) from pk_div (d := 24) hhh (by decide) (by decide)]
    refine v_callV1 (pc := 21) (c_X1_beginDay (dd := hh / 24) (by omega) hC) cm_X1_beginDay q391 q392 q393 (ci := 1) rfl rfl (orcO 5 rfl) [5, 6, 7, 8, 9, 10, 11] (by rfl) (by decide) (fun _ _ h => h) (by decide) (by decide) (by decide) (Nat.le_of_ble_eq_true rfl) dX4_goOneHour_21 (fun v21 M21 hQ21 => ?_)
    obtain ⟨rfl, rfl⟩ := hQ21
    try dsimp only [wb, LakeM, WaysM, WorldM, WH, List.set_cons_succ, List.set_cons_zero, List.append_nil, List.nil_append, List.cons_append, Option.toList, Nat.sub_zero]
    have eA : y = (x.1, x.2.1, dT (O (hh / 24 % 8)) x.2.2.1, dB (O (hh / 24 % 8)) x.2.2.2.2.2.2.2.2.2.1 x.2.2.2.1, x.2.2.2.2.1, x.2.2.2.2.2.1, x.2.2.2.2.2.2.1, x.2.2.2.2.2.2.2.1, dS (O (hh / 24 % 8)) x.2.2.1 x.2.2.2.2.2.2.2.2.1, dC (O (hh / 24 % 8)) x.2.2.1 x.2.2.2.2.2.2.2.2.1 x.2.2.2.2.2.2.2.2.2.1, dH (O (hh / 24 % 8)) x.2.2.2.2.2.2.2.2.2.2) := hy.symm.trans (if_pos c7)
    subst eA
    refine v_sub ?_ (lp_X4_hour (x := (x.1, x.2.1, dT (O (hh / 24 % 8)) x.2.2.1, dB (O (hh / 24 % 8)) x.2.2.2.2.2.2.2.2.2.1 x.2.2.2.1, x.2.2.2.2.1, x.2.2.2.2.2.1, x.2.2.2.2.2.2.1, x.2.2.2.2.2.2.2.1, dS (O (hh / 24 % 8)) x.2.2.1 x.2.2.2.2.2.2.2.2.1, dC (O (hh / 24 % 8)) x.2.2.1 x.2.2.2.2.2.2.2.2.1 x.2.2.2.2.2.2.2.2.2.1, dH (O (hh / 24 % 8)) x.2.2.2.2.2.2.2.2.2.2)) h5 hps hsc hbc hhh0 hPC h1)
    exact ⟨rfl, trivial⟩
theorem c_X4_goOneHour {n5 : Nat} (h5 : n5 = 5) {G : Cx} {w : Nat → Nat} {N O PC : Nat → Int32} {ps sc bc hh : Nat} {x : HW} (hps : ps ≤ 8) (hsc : sc ≤ 5) (hbc : bc ≤ 40) (hhh : hh < 2 ^ 31 - 1) (hPC : ∀ k, k < 8 → 0 ≤ PC k ∧ PC k < 160) (hx : sOK x.1 sc) (hC : cOK x.2.2.2.2.2.2.2.2.2.1) : Mt G Y_X4_goOneHour 5 0 0 [.ref (w 0)] (WH w N O PC ps sc bc hh x) (fun v M' => v = some (.int (hrN n5 O PC ps sc bc hh x)) ∧ M' = WH w N O PC ps sc bc (hh + 1) (hrW n5 (.ref (w 5)) N O PC ps sc bc hh x)) noX :=
  c_X4_goOneHour0 h5 hps hsc hbc hhh hPC hx hC
def begS (S : Nat → Nat → Int32) (i : Nat) (a b c : Int32) : Nat → Nat → Int32 := upS (upS (upS (upS (upS S i 0 c) i 3 0) i 4 b) i 5 a) i 6 (-1)
def begB (B : Nat → Nat → Int32) (i : Nat) (a b c : Int32) : Nat → Nat → Int32 := upS (upS (upS (upS (upS B i 0 c) i 1 b) i 2 0) i 3 a) i 4 (-1)
def tlS (SF BF : Nat → Nat → Int32) (bc i : Nat) : Nat → Int32
  | 0 => SF i 0
  | 1 => slW SF i
  | 2 => SF i 2
  | 3 => SF i 3
  | 4 => SF i 4
  | 5 => SF i 5
  | 6 => SF i 7
  | 7 => slN SF i
  | _ => sumN (bgF BF bc (nI i)) 40
def tlC (T N S C PC : Nat → Int32) (SF : Nat → Nat → Int32) (ps sc k : Nat) : Nat → Int32
  | 0 => T k
  | 1 => N k
  | 2 => S k
  | 3 => bI (¬ C k = 0)
  | 4 => oI (pOn PC ps (nI k) 8 0)
  | _ => sumN (onF SF sc (nI k)) 5
def tlN (T C : Nat → Int32) (SF BF : Nat → Nat → Int32) (ps sc bc hh : Nat) : Nat → Int32
  | 0 => nI hh
  | 1 => nI ps
  | 2 => nI sc
  | 3 => sumN (skF SF sc) 5
  | 4 => nI bc
  | 5 => sumN (btF BF bc 2) 40
  | 6 => sumN (btF BF bc 3) 40
  | 7 => sumN (fun j => if C j = 0 then 0 else 1) 160
  | _ => sumN (fun j => if 0 < T j then T j else 0) 160
set_option maxRecDepth 100000 in
set_option maxHeartbeats 4000000 in
theorem c_X4_buildPost {G : Cx} {w : Nat → Nat} {a b f : Nat → Int32} {wa : Int32} {lr : Value} {nd dg : Int32} {T N S C B O : Nat → Int32} {ch : Int32} {PC : Nat → Int32} {SF BF : Nat → Nat → Int32} {ps sc bc hh : Nat} (hps : ps ≤ 8) (hsc : sc ≤ 5) (hbc : bc ≤ 40) {k : Nat} (hk : k < 160) (hlt : ps < 8) : Mt G Y_X4_buildPost 2 0 0 [.ref (w 0), .int (nI k)] (WorldM w a b f wa lr nd dg T N S C B O ch PC SF BF ps sc bc hh) (fun v M' => v = some (.int (nI ps)) ∧ M' = WorldM w a b f wa lr nd dg (upd T k (-1)) N (upd S k 0) (upd C k 0) B O (ch + 1) (upd PC ps (nI k)) SF BF (ps + 1) sc bc hh) noX := by
  refine Mt.of (L := [some (.ref (w 0)), some (.int (nI k))]) rfl (by decide) (by simp [lg_sl, Value.category]) ⟨rfl, rfl, trivial⟩ (fun sz => ?_)
  refine v_aload_nR (pc := 0) dX4_buildPost_0 rfl rfl ?_
  refine v_get (pc := 1) 5 0 fg_X4_53 rfl rfl dX4_buildPost_1 ?_
  refine v_if_lt (pc := 4) (tgt := 16) dX4_buildPost_4 (by decide) (fun c4 => absurd c4 (nI_pos (by omega))) (fun c4 => ?_)
  have c4 : ¬ ps < 0 := fun h => c4 ((nI_ltI (a := ps) (b := 0) (by omega) (by omega)).mpr h)
  refine v_aload_nR (pc := 7) dX4_buildPost_7 rfl rfl ?_
  refine v_get (pc := 8) 5 0 fg_X4_53 rfl rfl dX4_buildPost_8 ?_
  refine v_bipush (pc := 11) (v := 8) dX4_buildPost_11 rfl ?_
  refine v_icmp_lt (pc := 13) (tgt := 18) dX4_buildPost_13 (by decide) (fun c13 => ?_) (fun c13 => absurd (nI_lt (b := 8) hlt (by decide)) c13)
  have c13 : ps < 8 := (nI_ltI (a := ps) (b := 8) (by omega) (by omega)).mp c13
  refine v_aload_nR (pc := 18) dX4_buildPost_18 rfl rfl ?_
  refine v_get (pc := 19) 2 0 fg_X4_25 rfl rfl dX4_buildPost_19 ?_
  refine v_aload_nR (pc := 22) dX4_buildPost_22 rfl rfl ?_
  refine v_get (pc := 23) 5 0 fg_X4_53 rfl rfl dX4_buildPost_23 ?_
  refine v_iload_n (pc := 26) dX4_buildPost_26 rfl rfl ?_
  refine v_iastN (pc := 27) 12 (k := ps) rfl (by omega) (by decide) dX4_buildPost_27 ?_
  try dsimp only [wb, LakeM, WaysM, WorldM, WH, List.set_cons_succ, List.set_cons_zero, List.append_nil, List.nil_append, List.cons_append, Option.toList, Nat.sub_zero]
  refine v_aload_nR (pc := 28) dX4_buildPost_28 rfl rfl ?_
  refine v_get (pc := 29) 1 0 fg_X4_21 rfl rfl dX4_buildPost_29 ?_
  refine v_iload_n (pc := 32) dX4_buildPost_32 rfl rfl ?_
  refine v_iconst (pc := 33) (v := -1) dX4_buildPost_33 rfl ?_
  refine v_callV2 (pc := 34) (c_X1_lay hk) cm_X1_lay q747 q708 q709 (ci := 1) rfl rfl (orcO 5 rfl) [5, 6, 7, 8, 9, 10, 11] (by rfl) (by decide) (fun _ _ h => h) (by decide) (by decide) (by decide) (Nat.le_of_ble_eq_true rfl) dX4_buildPost_34 (fun v34 M34 hQ34 => ?_)
  obtain ⟨rfl, rfl⟩ := hQ34
  try dsimp only [wb, LakeM, WaysM, WorldM, WH, List.set_cons_succ, List.set_cons_zero, List.append_nil, List.nil_append, List.cons_append, Option.toList, Nat.sub_zero]
  refine v_aload_nR (pc := 37) dX4_buildPost_37 rfl rfl ?_
  refine v_dup (pc := 38) dX4_buildPost_38 rfl ?_
  refine v_get (pc := 39) 5 0 fg_X4_53 rfl rfl dX4_buildPost_39 ?_
  refine v_iconst (pc := 42) (v := 1) dX4_buildPost_42 rfl ?_
  refine v_iadd (pc := 43) dX4_buildPost_43 ?_
  rw [nI_1]
  refine v_put (pc := 44) 5 0 fp_X4_buildPost_53 rfl rfl rfl (Nat.le_of_ble_eq_true rfl) dX4_buildPost_44 ?_
  try dsimp only [wb, LakeM, WaysM, WorldM, WH, List.set_cons_succ, List.set_cons_zero, List.append_nil, List.nil_append, List.cons_append, Option.toList, Nat.sub_zero]
  refine v_aload_nR (pc := 47) dX4_buildPost_47 rfl rfl ?_
  refine v_get (pc := 48) 5 0 fg_X4_53 rfl rfl dX4_buildPost_48 ?_
  refine v_iconst (pc := 51) (v := 1) dX4_buildPost_51 rfl ?_
  refine v_isub (pc := 52) dX4_buildPost_52 ?_
  rw [nI_p1]
  refine v_iret (pc := 53) rfl rfl (Nat.le_of_ble_eq_true rfl) dX4_buildPost_53 ?_
  exact ⟨rfl, rfl⟩
set_option maxRecDepth 100000 in
set_option maxHeartbeats 4000000 in
theorem c_X4_harness {G : Cx} {w : Nat → Nat} {a b f : Nat → Int32} {wa : Int32} {lr : Value} {nd dg : Int32} {T N S C B O : Nat → Int32} {ch : Int32} {PC : Nat → Int32} {SF BF : Nat → Nat → Int32} {ps sc bc hh : Nat} (hps : ps ≤ 8) (hsc : sc ≤ 5) (hbc : bc ≤ 40) {a1 c1 : Int32} (hlt : sc < 5) : Mt G Y_X4_harness 2 0 0 [.ref (w 0), .int a1, .int c1] (WorldM w a b f wa lr nd dg T N S C B O ch PC SF BF ps sc bc hh) (fun v M' => v = some (.int (nI sc)) ∧ M' = WorldM w a b f wa lr nd dg T N S C B O ch PC (begS SF sc a1 (cop PC ps a1) c1) BF ps (sc + 1) bc hh) noX := by
  refine Mt.of (L := [some (.ref (w 0)), some (.int a1), some (.int c1), none]) rfl (by decide) (by simp [lg_sl, Value.category]) ⟨rfl, rfl, rfl, trivial⟩ (fun sz => ?_)
  refine v_aload_nR (pc := 0) dX4_harness_0 rfl rfl ?_
  refine v_get (pc := 1) 6 0 fg_X4_57 rfl rfl dX4_harness_1 ?_
  refine v_if_lt (pc := 4) (tgt := 27) dX4_harness_4 (by decide) (fun c4 => absurd c4 (nI_pos (by omega))) (fun c4 => ?_)
  have c4 : ¬ sc < 0 := fun h => c4 ((nI_ltI (a := sc) (b := 0) (by omega) (by omega)).mpr h)
  refine v_aload_nR (pc := 7) dX4_harness_7 rfl rfl ?_
  refine v_get (pc := 8) 6 0 fg_X4_57 rfl rfl dX4_harness_8 ?_
  refine v_iconst (pc := 11) (v := 5) dX4_harness_11 rfl ?_
  refine v_icmp_ge (pc := 12) (tgt := 27) dX4_harness_12 (by decide) (fun c12 => absurd c12 (nI_ge (a := sc) (b := 5) hlt (by decide))) (fun c12 => ?_)
  have c12 : ¬ 5 ≤ sc := fun h => c12 ((nI_leI (a := 5) (b := sc) (by omega) (by omega)).mpr h)
  refine v_aload_nR (pc := 15) dX4_harness_15 rfl rfl ?_
  refine v_get (pc := 16) 3 0 fg_X4_31 rfl rfl dX4_harness_16 ?_
  refine v_aload_nR (pc := 19) dX4_harness_19 rfl rfl ?_
  refine v_get (pc := 20) 6 0 fg_X4_57 rfl rfl dX4_harness_20 ?_
  refine v_aaldS (pc := 23) 13 (k := sc) (by decide) rfl (by omega) (by decide) dX4_harness_23 ?_
  refine v_goto (pc := 24) (tgt := 28) dX4_harness_24 (by decide) ?_
  refine v_astore_nR (pc := 28) dX4_harness_28 rfl (by decide) rfl ?_
  refine v_aload_nR (pc := 29) dX4_harness_29 rfl rfl ?_
  refine v_ifnonnullR (pc := 30) (tgt := 35) dX4_harness_30 (by decide) ?_
  refine v_aload_nR (pc := 35) dX4_harness_35 rfl rfl ?_
  refine v_iload_n (pc := 36) dX4_harness_36 rfl rfl ?_
  refine v_aload_nR (pc := 37) dX4_harness_37 rfl rfl ?_
  refine v_iload_n (pc := 38) dX4_harness_38 rfl rfl ?_
  refine v_callV1 (pc := 39) (c_X4_cellOfPost hps hsc hbc) cm_X4_cellOfPost q456 q457 q458 (ci := 4) rfl rfl (orcO 0 rfl) [0, 1, 2, 3, 4, 5, 6, 7, 8, 9, 10, 11, 12, 13, 14, 15, 16] (by rfl) (by decide) (fun _ _ h => h) (by decide) (by decide) (by decide) (Nat.le_of_ble_eq_true rfl) dX4_harness_39 (fun v39 M39 hQ39 => ?_)
  obtain ⟨rfl, rfl⟩ := hQ39
  try dsimp only [wb, LakeM, WaysM, WorldM, WH, List.set_cons_succ, List.set_cons_zero, List.append_nil, List.nil_append, List.cons_append, Option.toList, Nat.sub_zero]
  refine v_iload_n (pc := 42) dX4_harness_42 rfl rfl ?_
  refine v_callV3 (pc := 43) (c_X2_begin (n := 5) (i := sc) (by omega)) cm_X2_begin q765 q766 q767 (ci := 2) rfl rfl (orcF 15 rfl (by omega)) [15] (by rfl) (by decide) (fun _ _ h => h) (by decide) (by decide) (by decide) (Nat.le_of_ble_eq_true rfl) dX4_harness_43 (fun v43 M43 hQ43 => ?_)
  obtain ⟨rfl, rfl⟩ := hQ43
  try dsimp only [wb, LakeM, WaysM, WorldM, WH, List.set_cons_succ, List.set_cons_zero, List.append_nil, List.nil_append, List.cons_append, Option.toList, Nat.sub_zero]
  refine v_aload_nR (pc := 46) dX4_harness_46 rfl rfl ?_
  refine v_dup (pc := 47) dX4_harness_47 rfl ?_
  refine v_get (pc := 48) 6 0 fg_X4_57 rfl rfl dX4_harness_48 ?_
  refine v_iconst (pc := 51) (v := 1) dX4_harness_51 rfl ?_
  refine v_iadd (pc := 52) dX4_harness_52 ?_
  rw [nI_1]
  refine v_put (pc := 53) 6 0 fp_X4_harness_57 rfl rfl rfl (Nat.le_of_ble_eq_true rfl) dX4_harness_53 ?_
  try dsimp only [wb, LakeM, WaysM, WorldM, WH, List.set_cons_succ, List.set_cons_zero, List.append_nil, List.nil_append, List.cons_append, Option.toList, Nat.sub_zero]
  refine v_aload_nR (pc := 56) dX4_harness_56 rfl rfl ?_
  refine v_get (pc := 57) 6 0 fg_X4_57 rfl rfl dX4_harness_57 ?_
  refine v_iconst (pc := 60) (v := 1) dX4_harness_60 rfl ?_
  refine v_isub (pc := 61) dX4_harness_61 ?_
  rw [nI_p1]
  refine v_iret (pc := 62) rfl rfl (Nat.le_of_ble_eq_true rfl) dX4_harness_62 ?_
  exact ⟨rfl, rfl⟩
set_option maxRecDepth 100000 in
set_option maxHeartbeats 4000000 in
theorem c_X4_postMail {G : Cx} {w : Nat → Nat} {a b f : Nat → Int32} {wa : Int32} {lr : Value} {nd dg : Int32} {T N S C B O : Nat → Int32} {ch : Int32} {PC : Nat → Int32} {SF BF : Nat → Nat → Int32} {ps sc bc hh : Nat} (hps : ps ≤ 8) (hsc : sc ≤ 5) (hbc : bc ≤ 40) {a1 b1 c1 : Int32} (hlt : bc < 40) : Mt G Y_X4_postMail 1 0 0 [.ref (w 0), .int a1, .int b1, .int c1] (WorldM w a b f wa lr nd dg T N S C B O ch PC SF BF ps sc bc hh) (fun v M' => v = some (.int (nI bc)) ∧ M' = WorldM w a b f wa lr nd dg T N S C B O ch PC SF (begB BF bc a1 b1 c1) ps sc (bc + 1) hh) noX := by
  refine Mt.of (L := [some (.ref (w 0)), some (.int a1), some (.int b1), some (.int c1), none]) rfl (by decide) (by simp [lg_sl, Value.category]) ⟨rfl, rfl, rfl, rfl, trivial⟩ (fun sz => ?_)
  refine v_aload_nR (pc := 0) dX4_postMail_0 rfl rfl ?_
  refine v_get (pc := 1) 7 0 fg_X4_75 rfl rfl dX4_postMail_1 ?_
  refine v_if_lt (pc := 4) (tgt := 28) dX4_postMail_4 (by decide) (fun c4 => absurd c4 (nI_pos (by omega))) (fun c4 => ?_)
  have c4 : ¬ bc < 0 := fun h => c4 ((nI_ltI (a := bc) (b := 0) (by omega) (by omega)).mpr h)
  refine v_aload_nR (pc := 7) dX4_postMail_7 rfl rfl ?_
  refine v_get (pc := 8) 7 0 fg_X4_75 rfl rfl dX4_postMail_8 ?_
  refine v_bipush (pc := 11) (v := 40) dX4_postMail_11 rfl ?_
  refine v_icmp_ge (pc := 13) (tgt := 28) dX4_postMail_13 (by decide) (fun c13 => absurd c13 (nI_ge (a := bc) (b := 40) hlt (by decide))) (fun c13 => ?_)
  have c13 : ¬ 40 ≤ bc := fun h => c13 ((nI_leI (a := 40) (b := bc) (by omega) (by omega)).mpr h)
  refine v_aload_nR (pc := 16) dX4_postMail_16 rfl rfl ?_
  refine v_get (pc := 17) 4 0 fg_X4_37 rfl rfl dX4_postMail_17 ?_
  refine v_aload_nR (pc := 20) dX4_postMail_20 rfl rfl ?_
  refine v_get (pc := 21) 7 0 fg_X4_75 rfl rfl dX4_postMail_21 ?_
  refine v_aaldS (pc := 24) 14 (k := bc) (by decide) rfl (by omega) (by decide) dX4_postMail_24 ?_
  refine v_goto (pc := 25) (tgt := 29) dX4_postMail_25 (by decide) ?_
  refine v_astoreR (pc := 29) dX4_postMail_29 (by decide) rfl ?_
  refine v_aloadR (pc := 31) dX4_postMail_31 rfl ?_
  refine v_ifnonnullR (pc := 33) (tgt := 38) dX4_postMail_33 (by decide) ?_
  refine v_aloadR (pc := 38) dX4_postMail_38 rfl ?_
  refine v_iload_n (pc := 40) dX4_postMail_40 rfl rfl ?_
  refine v_iload_n (pc := 41) dX4_postMail_41 rfl rfl ?_
  refine v_iload_n (pc := 42) dX4_postMail_42 rfl rfl ?_
  refine v_callV3 (pc := 43) (c_X0_begin (n := 40) (i := bc) (by omega)) cm_X0_begin q815 q816 q817 (ci := 0) rfl rfl (orcF 16 rfl (by omega)) [16] (by rfl) (by decide) (fun _ _ h => h) (by decide) (by decide) (by decide) (Nat.le_of_ble_eq_true rfl) dX4_postMail_43 (fun v43 M43 hQ43 => ?_)
  obtain ⟨rfl, rfl⟩ := hQ43
  try dsimp only [wb, LakeM, WaysM, WorldM, WH, List.set_cons_succ, List.set_cons_zero, List.append_nil, List.nil_append, List.cons_append, Option.toList, Nat.sub_zero]
  refine v_aload_nR (pc := 46) dX4_postMail_46 rfl rfl ?_
  refine v_dup (pc := 47) dX4_postMail_47 rfl ?_
  refine v_get (pc := 48) 7 0 fg_X4_75 rfl rfl dX4_postMail_48 ?_
  refine v_iconst (pc := 51) (v := 1) dX4_postMail_51 rfl ?_
  refine v_iadd (pc := 52) dX4_postMail_52 ?_
  rw [nI_1]
  refine v_put (pc := 53) 7 0 fp_X4_postMail_75 rfl rfl rfl (Nat.le_of_ble_eq_true rfl) dX4_postMail_53 ?_
  try dsimp only [wb, LakeM, WaysM, WorldM, WH, List.set_cons_succ, List.set_cons_zero, List.append_nil, List.nil_append, List.cons_append, Option.toList, Nat.sub_zero]
  refine v_aload_nR (pc := 56) dX4_postMail_56 rfl rfl ?_
  refine v_get (pc := 57) 7 0 fg_X4_75 rfl rfl dX4_postMail_57 ?_
  refine v_iconst (pc := 60) (v := 1) dX4_postMail_60 rfl ?_
  refine v_isub (pc := 61) dX4_postMail_61 ?_
  rw [nI_p1]
  refine v_iret (pc := 62) rfl rfl (Nat.le_of_ble_eq_true rfl) dX4_postMail_62 ?_
  exact ⟨rfl, rfl⟩
set_option maxRecDepth 100000 in
set_option maxHeartbeats 4000000 in
theorem c_X4_tellSleigh {G : Cx} {w : Nat → Nat} {a b f : Nat → Int32} {wa : Int32} {lr : Value} {nd dg : Int32} {T N S C B O : Nat → Int32} {ch : Int32} {PC : Nat → Int32} {SF BF : Nat → Nat → Int32} {ps sc bc hh : Nat} (hps : ps ≤ 8) (hsc : sc ≤ 5) (hbc : bc ≤ 40) {k : Nat} (hk : k < sc) {q : Nat} (hq : q < 9) : Mt G Y_X4_tellSleigh 2 0 0 [.ref (w 0), .int (nI k), .int (nI q)] (WorldM w a b f wa lr nd dg T N S C B O ch PC SF BF ps sc bc hh) (fun v M' => v = some (.int (tlS SF BF bc k q)) ∧ M' = WorldM w a b f wa lr nd dg T N S C B O ch PC SF BF ps sc bc hh) noX := by
  refine Mt.of (L := [some (.ref (w 0)), some (.int (nI k)), some (.int (nI q)), none]) rfl (by decide) (by simp [lg_sl, Value.category]) ⟨rfl, rfl, rfl, trivial⟩ (fun sz => ?_)
  refine v_aload_nR (pc := 0) dX4_tellSleigh_0 rfl rfl ?_
  refine v_iload_n (pc := 1) dX4_tellSleigh_1 rfl rfl ?_
  refine v_callV1 (pc := 2) (c_X4_sleighAt_k hps hsc hbc hk) cm_X4_sleighAt q319 q320 q321 (ci := 4) rfl rfl (orcO 0 rfl) [0, 1, 2, 3, 4, 5, 6, 7, 8, 9, 10, 11, 12, 13, 14, 15, 16] (by rfl) (by decide) (fun _ _ h => h) (by decide) (by decide) (by decide) (Nat.le_of_ble_eq_true rfl) dX4_tellSleigh_2 (fun v2 M2 hQ2 => ?_)
  obtain ⟨rfl, rfl⟩ := hQ2
  try dsimp only [wb, LakeM, WaysM, WorldM, WH, List.set_cons_succ, List.set_cons_zero, List.append_nil, List.nil_append, List.cons_append, Option.toList, Nat.sub_zero]
  refine v_astore_nR (pc := 5) dX4_tellSleigh_5 rfl (by decide) rfl ?_
  refine v_aload_nR (pc := 6) dX4_tellSleigh_6 rfl rfl ?_
  refine v_ifnonnullR (pc := 7) (tgt := 12) dX4_tellSleigh_7 (by decide) ?_
  refine v_iload_n (pc := 12) dX4_tellSleigh_12 rfl rfl ?_
  by_cases w13_0 : nI q = nI 0
  · refine v_tsIn (pc := 13) (tgt := 60) dX4_tellSleigh_13 (sw_in (n := 7) w13_0 (by decide) (by decide)).1 (sw_in (n := 7) w13_0 (by decide) (by decide)).2.1 (off := 47) (by rw [(sw_in (n := 7) w13_0 (by decide) (by decide)).2.2]; rfl) (by decide) ?_
    refine v_aload_nR (pc := 60) dX4_tellSleigh_60 rfl rfl ?_
    refine v_getS (pc := 61) 0 15 fg_X4_203 rfl (by omega) (by decide) dX4_tellSleigh_61 ?_
    refine v_iret (pc := 64) rfl rfl (Nat.le_of_ble_eq_true rfl) dX4_tellSleigh_64 ?_
    obtain rfl : q = 0 := (nI_eq (by omega) (by omega)).mp w13_0
    exact ⟨rfl, rfl⟩
  by_cases w13_1 : nI q = nI 1
  · refine v_tsIn (pc := 13) (tgt := 65) dX4_tellSleigh_13 (sw_in (n := 7) w13_1 (by decide) (by decide)).1 (sw_in (n := 7) w13_1 (by decide) (by decide)).2.1 (off := 52) (by rw [(sw_in (n := 7) w13_1 (by decide) (by decide)).2.2]; rfl) (by decide) ?_
    refine v_aload_nR (pc := 65) dX4_tellSleigh_65 rfl rfl ?_
    refine v_callV0 (pc := 66) (c_X2_weight (n := 5) (i := k) (by omega)) cm_X2_weight q333 q334 q335 (ci := 2) rfl rfl (orcF 15 rfl (by omega)) [15] (by rfl) (by decide) (fun _ _ h => h) (by decide) (by decide) (by decide) (Nat.le_of_ble_eq_true rfl) dX4_tellSleigh_66 (fun v66 M66 hQ66 => ?_)
    obtain ⟨rfl, rfl⟩ := hQ66
    try dsimp only [wb, LakeM, WaysM, WorldM, WH, List.set_cons_succ, List.set_cons_zero, List.append_nil, List.nil_append, List.cons_append, Option.toList, Nat.sub_zero]
    refine v_iret (pc := 69) rfl rfl (Nat.le_of_ble_eq_true rfl) dX4_tellSleigh_69 ?_
    obtain rfl : q = 1 := (nI_eq (by omega) (by omega)).mp w13_1
    exact ⟨rfl, rfl⟩
  by_cases w13_2 : nI q = nI 2
  · refine v_tsIn (pc := 13) (tgt := 70) dX4_tellSleigh_13 (sw_in (n := 7) w13_2 (by decide) (by decide)).1 (sw_in (n := 7) w13_2 (by decide) (by decide)).2.1 (off := 57) (by rw [(sw_in (n := 7) w13_2 (by decide) (by decide)).2.2]; rfl) (by decide) ?_
    refine v_aload_nR (pc := 70) dX4_tellSleigh_70 rfl rfl ?_
    refine v_getS (pc := 71) 2 15 fg_X4_209 rfl (by omega) (by decide) dX4_tellSleigh_71 ?_
    refine v_iret (pc := 74) rfl rfl (Nat.le_of_ble_eq_true rfl) dX4_tellSleigh_74 ?_
    obtain rfl : q = 2 := (nI_eq (by omega) (by omega)).mp w13_2
    exact ⟨rfl, rfl⟩
  by_cases w13_3 : nI q = nI 3
  · refine v_tsIn (pc := 13) (tgt := 75) dX4_tellSleigh_13 (sw_in (n := 7) w13_3 (by decide) (by decide)).1 (sw_in (n := 7) w13_3 (by decide) (by decide)).2.1 (off := 62) (by rw [(sw_in (n := 7) w13_3 (by decide) (by decide)).2.2]; rfl) (by decide) ?_
    refine v_aload_nR (pc := 75) dX4_tellSleigh_75 rfl rfl ?_
    refine v_getS (pc := 76) 3 15 fg_X4_101 rfl (by omega) (by decide) dX4_tellSleigh_76 ?_
    refine v_iret (pc := 79) rfl rfl (Nat.le_of_ble_eq_true rfl) dX4_tellSleigh_79 ?_
    obtain rfl : q = 3 := (nI_eq (by omega) (by omega)).mp w13_3
    exact ⟨rfl, rfl⟩
  by_cases w13_4 : nI q = nI 4
  · refine v_tsIn (pc := 13) (tgt := 80) dX4_tellSleigh_13 (sw_in (n := 7) w13_4 (by decide) (by decide)).1 (sw_in (n := 7) w13_4 (by decide) (by decide)).2.1 (off := 67) (by rw [(sw_in (n := 7) w13_4 (by decide) (by decide)).2.2]; rfl) (by decide) ?_
    refine v_aload_nR (pc := 80) dX4_tellSleigh_80 rfl rfl ?_
    refine v_getS (pc := 81) 4 15 fg_X4_104 rfl (by omega) (by decide) dX4_tellSleigh_81 ?_
    refine v_iret (pc := 84) rfl rfl (Nat.le_of_ble_eq_true rfl) dX4_tellSleigh_84 ?_
    obtain rfl : q = 4 := (nI_eq (by omega) (by omega)).mp w13_4
    exact ⟨rfl, rfl⟩
  by_cases w13_5 : nI q = nI 5
  · refine v_tsIn (pc := 13) (tgt := 85) dX4_tellSleigh_13 (sw_in (n := 7) w13_5 (by decide) (by decide)).1 (sw_in (n := 7) w13_5 (by decide) (by decide)).2.1 (off := 72) (by rw [(sw_in (n := 7) w13_5 (by decide) (by decide)).2.2]; rfl) (by decide) ?_
    refine v_aload_nR (pc := 85) dX4_tellSleigh_85 rfl rfl ?_
    refine v_getS (pc := 86) 5 15 fg_X4_114 rfl (by omega) (by decide) dX4_tellSleigh_86 ?_
    refine v_iret (pc := 89) rfl rfl (Nat.le_of_ble_eq_true rfl) dX4_tellSleigh_89 ?_
    obtain rfl : q = 5 := (nI_eq (by omega) (by omega)).mp w13_5
    exact ⟨rfl, rfl⟩
  by_cases w13_6 : nI q = nI 6
  · refine v_tsIn (pc := 13) (tgt := 90) dX4_tellSleigh_13 (sw_in (n := 7) w13_6 (by decide) (by decide)).1 (sw_in (n := 7) w13_6 (by decide) (by decide)).2.1 (off := 77) (by rw [(sw_in (n := 7) w13_6 (by decide) (by decide)).2.2]; rfl) (by decide) ?_
    refine v_aload_nR (pc := 90) dX4_tellSleigh_90 rfl rfl ?_
    refine v_getS (pc := 91) 7 15 fg_X4_212 rfl (by omega) (by decide) dX4_tellSleigh_91 ?_
    refine v_iret (pc := 94) rfl rfl (Nat.le_of_ble_eq_true rfl) dX4_tellSleigh_94 ?_
    obtain rfl : q = 6 := (nI_eq (by omega) (by omega)).mp w13_6
    exact ⟨rfl, rfl⟩
  by_cases w13_7 : nI q = nI 7
  · refine v_tsIn (pc := 13) (tgt := 95) dX4_tellSleigh_13 (sw_in (n := 7) w13_7 (by decide) (by decide)).1 (sw_in (n := 7) w13_7 (by decide) (by decide)).2.1 (off := 82) (by rw [(sw_in (n := 7) w13_7 (by decide) (by decide)).2.2]; rfl) (by decide) ?_
    refine v_aload_nR (pc := 95) dX4_tellSleigh_95 rfl rfl ?_
    refine v_callV0 (pc := 96) (c_X2_need (n := 5) (i := k) (by omega)) cm_X2_need q337 q338 q339 (ci := 2) rfl rfl (orcF 15 rfl (by omega)) [15] (by rfl) (by decide) (fun _ _ h => h) (by decide) (by decide) (by decide) (Nat.le_of_ble_eq_true rfl) dX4_tellSleigh_96 (fun v96 M96 hQ96 => ?_)
    obtain ⟨rfl, rfl⟩ := hQ96
    try dsimp only [wb, LakeM, WaysM, WorldM, WH, List.set_cons_succ, List.set_cons_zero, List.append_nil, List.nil_append, List.cons_append, Option.toList, Nat.sub_zero]
    refine v_iret (pc := 99) rfl rfl (Nat.le_of_ble_eq_true rfl) dX4_tellSleigh_99 ?_
    obtain rfl : q = 7 := (nI_eq (by omega) (by omega)).mp w13_7
    exact ⟨rfl, rfl⟩
  refine v_tsOut (pc := 13) (tgt := 100) dX4_tellSleigh_13 (sw_out 7 (fun k hk h => by
    have hk2 : k = 0 ∨ k = 1 ∨ k = 2 ∨ k = 3 ∨ k = 4 ∨ k = 5 ∨ k = 6 ∨ k = 7 := by omega
    rcases hk2 with rfl | rfl | rfl | rfl | rfl | rfl | rfl | rfl
    · exact w13_0 h
    · exact w13_1 h
    · exact w13_2 h
    · exact w13_3 h
    · exact w13_4 h
    · exact w13_5 h
    · exact w13_6 h
    · exact w13_7 h)) (by decide) ?_
  refine v_aload_nR (pc := 100) dX4_tellSleigh_100 rfl rfl ?_
  refine v_iload_n (pc := 101) dX4_tellSleigh_101 rfl rfl ?_
  refine v_callV1 (pc := 102) (c_X4_bagsOn hps hsc hbc) cm_X4_bagsOn q345 q346 q347 (ci := 4) rfl rfl (orcO 0 rfl) [0, 1, 2, 3, 4, 5, 6, 7, 8, 9, 10, 11, 12, 13, 14, 15, 16] (by rfl) (by decide) (fun _ _ h => h) (by decide) (by decide) (by decide) (Nat.le_of_ble_eq_true rfl) dX4_tellSleigh_102 (fun v102 M102 hQ102 => ?_)
  obtain ⟨rfl, rfl⟩ := hQ102
  try dsimp only [wb, LakeM, WaysM, WorldM, WH, List.set_cons_succ, List.set_cons_zero, List.append_nil, List.nil_append, List.cons_append, Option.toList, Nat.sub_zero]
  refine v_iret (pc := 105) rfl rfl (Nat.le_of_ble_eq_true rfl) dX4_tellSleigh_105 ?_
  have h0 : ¬ q = 0 := (fun h => w13_0 (by rw [h]))
  have h1 : ¬ q = 1 := (fun h => w13_1 (by rw [h]))
  have h2 : ¬ q = 2 := (fun h => w13_2 (by rw [h]))
  have h3 : ¬ q = 3 := (fun h => w13_3 (by rw [h]))
  have h4 : ¬ q = 4 := (fun h => w13_4 (by rw [h]))
  have h5 : ¬ q = 5 := (fun h => w13_5 (by rw [h]))
  have h6 : ¬ q = 6 := (fun h => w13_6 (by rw [h]))
  have h7 : ¬ q = 7 := (fun h => w13_7 (by rw [h]))
  obtain rfl : q = 8 := by omega
  exact ⟨rfl, rfl⟩
set_option maxRecDepth 100000 in
set_option maxHeartbeats 4000000 in
theorem c_X4_tellCount {G : Cx} {w : Nat → Nat} {a b f : Nat → Int32} {wa : Int32} {lr : Value} {nd dg : Int32} {T N S C B O : Nat → Int32} {ch : Int32} {PC : Nat → Int32} {SF BF : Nat → Nat → Int32} {ps sc bc hh : Nat} (hps : ps ≤ 8) (hsc : sc ≤ 5) (hbc : bc ≤ 40) {q : Nat} (hq : q < 9) : Mt G Y_X4_tellCount 2 0 0 [.ref (w 0), .int (nI q)] (WorldM w a b f wa lr nd dg T N S C B O ch PC SF BF ps sc bc hh) (fun v M' => v = some (.int (tlN T C SF BF ps sc bc hh q)) ∧ M' = WorldM w a b f wa lr nd dg T N S C B O ch PC SF BF ps sc bc hh) noX := by
  refine Mt.of (L := [some (.ref (w 0)), some (.int (nI q))]) rfl (by decide) (by simp [lg_sl, Value.category]) ⟨rfl, rfl, trivial⟩ (fun sz => ?_)
  refine v_iload_n (pc := 0) dX4_tellCount_0 rfl rfl ?_
  by_cases w1_0 : nI q = nI 0
  · refine v_tsIn (pc := 1) (tgt := 48) dX4_tellCount_1 (sw_in (n := 7) w1_0 (by decide) (by decide)).1 (sw_in (n := 7) w1_0 (by decide) (by decide)).2.1 (off := 47) (by rw [(sw_in (n := 7) w1_0 (by decide) (by decide)).2.2]; rfl) (by decide) ?_
    refine v_aload_nR (pc := 48) dX4_tellCount_48 rfl rfl ?_
    refine v_get (pc := 49) 8 0 fg_X4_60 rfl rfl dX4_tellCount_49 ?_
    refine v_iret (pc := 52) rfl rfl (Nat.le_of_ble_eq_true rfl) dX4_tellCount_52 ?_
    obtain rfl : q = 0 := (nI_eq (by omega) (by omega)).mp w1_0
    exact ⟨rfl, rfl⟩
  by_cases w1_1 : nI q = nI 1
  · refine v_tsIn (pc := 1) (tgt := 53) dX4_tellCount_1 (sw_in (n := 7) w1_1 (by decide) (by decide)).1 (sw_in (n := 7) w1_1 (by decide) (by decide)).2.1 (off := 52) (by rw [(sw_in (n := 7) w1_1 (by decide) (by decide)).2.2]; rfl) (by decide) ?_
    refine v_aload_nR (pc := 53) dX4_tellCount_53 rfl rfl ?_
    refine v_get (pc := 54) 5 0 fg_X4_53 rfl rfl dX4_tellCount_54 ?_
    refine v_iret (pc := 57) rfl rfl (Nat.le_of_ble_eq_true rfl) dX4_tellCount_57 ?_
    obtain rfl : q = 1 := (nI_eq (by omega) (by omega)).mp w1_1
    exact ⟨rfl, rfl⟩
  by_cases w1_2 : nI q = nI 2
  · refine v_tsIn (pc := 1) (tgt := 58) dX4_tellCount_1 (sw_in (n := 7) w1_2 (by decide) (by decide)).1 (sw_in (n := 7) w1_2 (by decide) (by decide)).2.1 (off := 57) (by rw [(sw_in (n := 7) w1_2 (by decide) (by decide)).2.2]; rfl) (by decide) ?_
    refine v_aload_nR (pc := 58) dX4_tellCount_58 rfl rfl ?_
    refine v_get (pc := 59) 6 0 fg_X4_57 rfl rfl dX4_tellCount_59 ?_
    refine v_iret (pc := 62) rfl rfl (Nat.le_of_ble_eq_true rfl) dX4_tellCount_62 ?_
    obtain rfl : q = 2 := (nI_eq (by omega) (by omega)).mp w1_2
    exact ⟨rfl, rfl⟩
  by_cases w1_3 : nI q = nI 3
  · refine v_tsIn (pc := 1) (tgt := 63) dX4_tellCount_1 (sw_in (n := 7) w1_3 (by decide) (by decide)).1 (sw_in (n := 7) w1_3 (by decide) (by decide)).2.1 (off := 62) (by rw [(sw_in (n := 7) w1_3 (by decide) (by decide)).2.2]; rfl) (by decide) ?_
    refine v_aload_nR (pc := 63) dX4_tellCount_63 rfl rfl ?_
    refine v_callV0 (pc := 64) (c_X4_sunkSleighs hps hsc hbc) cm_X4_sunkSleighs q534 q536 qs13 (ci := 4) rfl rfl (orcO 0 rfl) [0, 1, 2, 3, 4, 5, 6, 7, 8, 9, 10, 11, 12, 13, 14, 15, 16] (by rfl) (by decide) (fun _ _ h => h) (by decide) (by decide) (by decide) (Nat.le_of_ble_eq_true rfl) dX4_tellCount_64 (fun v64 M64 hQ64 => ?_)
    obtain ⟨rfl, rfl⟩ := hQ64
    try dsimp only [wb, LakeM, WaysM, WorldM, WH, List.set_cons_succ, List.set_cons_zero, List.append_nil, List.nil_append, List.cons_append, Option.toList, Nat.sub_zero]
    refine v_iret (pc := 67) rfl rfl (Nat.le_of_ble_eq_true rfl) dX4_tellCount_67 ?_
    obtain rfl : q = 3 := (nI_eq (by omega) (by omega)).mp w1_3
    exact ⟨rfl, rfl⟩
  by_cases w1_4 : nI q = nI 4
  · refine v_tsIn (pc := 1) (tgt := 68) dX4_tellCount_1 (sw_in (n := 7) w1_4 (by decide) (by decide)).1 (sw_in (n := 7) w1_4 (by decide) (by decide)).2.1 (off := 67) (by rw [(sw_in (n := 7) w1_4 (by decide) (by decide)).2.2]; rfl) (by decide) ?_
    refine v_aload_nR (pc := 68) dX4_tellCount_68 rfl rfl ?_
    refine v_get (pc := 69) 7 0 fg_X4_75 rfl rfl dX4_tellCount_69 ?_
    refine v_iret (pc := 72) rfl rfl (Nat.le_of_ble_eq_true rfl) dX4_tellCount_72 ?_
    obtain rfl : q = 4 := (nI_eq (by omega) (by omega)).mp w1_4
    exact ⟨rfl, rfl⟩
  by_cases w1_5 : nI q = nI 5
  · refine v_tsIn (pc := 1) (tgt := 73) dX4_tellCount_1 (sw_in (n := 7) w1_5 (by decide) (by decide)).1 (sw_in (n := 7) w1_5 (by decide) (by decide)).2.1 (off := 72) (by rw [(sw_in (n := 7) w1_5 (by decide) (by decide)).2.2]; rfl) (by decide) ?_
    refine v_aload_nR (pc := 73) dX4_tellCount_73 rfl rfl ?_
    refine v_iconst (pc := 74) (v := 2) dX4_tellCount_74 rfl ?_
    refine v_callV1 (pc := 75) (c_X4_bagsThat hps hsc hbc) cm_X4_bagsThat q538 q540 qs14 (ci := 4) rfl rfl (orcO 0 rfl) [0, 1, 2, 3, 4, 5, 6, 7, 8, 9, 10, 11, 12, 13, 14, 15, 16] (by rfl) (by decide) (fun _ _ h => h) (by decide) (by decide) (by decide) (Nat.le_of_ble_eq_true rfl) dX4_tellCount_75 (fun v75 M75 hQ75 => ?_)
    obtain ⟨rfl, rfl⟩ := hQ75
    try dsimp only [wb, LakeM, WaysM, WorldM, WH, List.set_cons_succ, List.set_cons_zero, List.append_nil, List.nil_append, List.cons_append, Option.toList, Nat.sub_zero]
    refine v_iret (pc := 78) rfl rfl (Nat.le_of_ble_eq_true rfl) dX4_tellCount_78 ?_
    obtain rfl : q = 5 := (nI_eq (by omega) (by omega)).mp w1_5
    exact ⟨rfl, rfl⟩
  by_cases w1_6 : nI q = nI 6
  · refine v_tsIn (pc := 1) (tgt := 79) dX4_tellCount_1 (sw_in (n := 7) w1_6 (by decide) (by decide)).1 (sw_in (n := 7) w1_6 (by decide) (by decide)).2.1 (off := 78) (by rw [(sw_in (n := 7) w1_6 (by decide) (by decide)).2.2]; rfl) (by decide) ?_
    refine v_aload_nR (pc := 79) dX4_tellCount_79 rfl rfl ?_
    refine v_iconst (pc := 80) (v := 3) dX4_tellCount_80 rfl ?_
    refine v_callV1 (pc := 81) (c_X4_bagsThat hps hsc hbc) cm_X4_bagsThat q538 q540 qs14 (ci := 4) rfl rfl (orcO 0 rfl) [0, 1, 2, 3, 4, 5, 6, 7, 8, 9, 10, 11, 12, 13, 14, 15, 16] (by rfl) (by decide) (fun _ _ h => h) (by decide) (by decide) (by decide) (Nat.le_of_ble_eq_true rfl) dX4_tellCount_81 (fun v81 M81 hQ81 => ?_)
    obtain ⟨rfl, rfl⟩ := hQ81
    try dsimp only [wb, LakeM, WaysM, WorldM, WH, List.set_cons_succ, List.set_cons_zero, List.append_nil, List.nil_append, List.cons_append, Option.toList, Nat.sub_zero]
    refine v_iret (pc := 84) rfl rfl (Nat.le_of_ble_eq_true rfl) dX4_tellCount_84 ?_
    obtain rfl : q = 6 := (nI_eq (by omega) (by omega)).mp w1_6
    exact ⟨rfl, rfl⟩
  by_cases w1_7 : nI q = nI 7
  · refine v_tsIn (pc := 1) (tgt := 85) dX4_tellCount_1 (sw_in (n := 7) w1_7 (by decide) (by decide)).1 (sw_in (n := 7) w1_7 (by decide) (by decide)).2.1 (off := 84) (by rw [(sw_in (n := 7) w1_7 (by decide) (by decide)).2.2]; rfl) (by decide) ?_
    refine v_aload_nR (pc := 85) dX4_tellCount_85 rfl rfl ?_
    refine v_get (pc := 86) 1 0 fg_X4_21 rfl rfl dX4_tellCount_86 ?_
    refine v_callV0 (pc := 89) (c_X1_crackedCells ) cm_X1_crackedCells q542 q543 q544 (ci := 1) rfl rfl (orcO 5 rfl) [5, 6, 7, 8, 9, 10, 11] (by rfl) (by decide) (fun _ _ h => h) (by decide) (by decide) (by decide) (Nat.le_of_ble_eq_true rfl) dX4_tellCount_89 (fun v89 M89 hQ89 => ?_)
    obtain ⟨rfl, rfl⟩ := hQ89
    try dsimp only [wb, LakeM, WaysM, WorldM, WH, List.set_cons_succ, List.set_cons_zero, List.append_nil, List.nil_append, List.cons_append, Option.toList, Nat.sub_zero]
    refine v_iret (pc := 92) rfl rfl (Nat.le_of_ble_eq_true rfl) dX4_tellCount_92 ?_
    obtain rfl : q = 7 := (nI_eq (by omega) (by omega)).mp w1_7
    exact ⟨rfl, rfl⟩
  refine v_tsOut (pc := 1) (tgt := 93) dX4_tellCount_1 (sw_out 7 (fun k hk h => by
    have hk2 : k = 0 ∨ k = 1 ∨ k = 2 ∨ k = 3 ∨ k = 4 ∨ k = 5 ∨ k = 6 ∨ k = 7 := by omega
    rcases hk2 with rfl | rfl | rfl | rfl | rfl | rfl | rfl | rfl
    · exact w1_0 h
    · exact w1_1 h
    · exact w1_2 h
    · exact w1_3 h
    · exact w1_4 h
    · exact w1_5 h
    · exact w1_6 h
    · exact w1_7 h)) (by decide) ?_
  refine v_aload_nR (pc := 93) dX4_tellCount_93 rfl rfl ?_
  refine v_get (pc := 94) 1 0 fg_X4_21 rfl rfl dX4_tellCount_94 ?_
  refine v_callV0 (pc := 97) (c_X1_allThickness ) cm_X1_allThickness q546 q547 q548 (ci := 1) rfl rfl (orcO 5 rfl) [5, 6, 7, 8, 9, 10, 11] (by rfl) (by decide) (fun _ _ h => h) (by decide) (by decide) (by decide) (Nat.le_of_ble_eq_true rfl) dX4_tellCount_97 (fun v97 M97 hQ97 => ?_)
  obtain ⟨rfl, rfl⟩ := hQ97
  try dsimp only [wb, LakeM, WaysM, WorldM, WH, List.set_cons_succ, List.set_cons_zero, List.append_nil, List.nil_append, List.cons_append, Option.toList, Nat.sub_zero]
  refine v_iret (pc := 100) rfl rfl (Nat.le_of_ble_eq_true rfl) dX4_tellCount_100 ?_
  have h0 : ¬ q = 0 := (fun h => w1_0 (by rw [h]))
  have h1 : ¬ q = 1 := (fun h => w1_1 (by rw [h]))
  have h2 : ¬ q = 2 := (fun h => w1_2 (by rw [h]))
  have h3 : ¬ q = 3 := (fun h => w1_3 (by rw [h]))
  have h4 : ¬ q = 4 := (fun h => w1_4 (by rw [h]))
  have h5 : ¬ q = 5 := (fun h => w1_5 (by rw [h]))
  have h6 : ¬ q = 6 := (fun h => w1_6 (by rw [h]))
  have h7 : ¬ q = 7 := (fun h => w1_7 (by rw [h]))
  obtain rfl : q = 8 := by omega
  exact ⟨rfl, rfl⟩
set_option maxRecDepth 100000 in
set_option maxHeartbeats 4000000 in
theorem c_X4_tellCell {G : Cx} {w : Nat → Nat} {a b f : Nat → Int32} {wa : Int32} {lr : Value} {nd dg : Int32} {T N S C B O : Nat → Int32} {ch : Int32} {PC : Nat → Int32} {SF BF : Nat → Nat → Int32} {ps sc bc hh : Nat} (hps : ps ≤ 8) (hsc : sc ≤ 5) (hbc : bc ≤ 40) {k : Nat} (hk : k < 160) {q : Nat} (hq : q < 6) : Mt G Y_X4_tellCell 2 0 0 [.ref (w 0), .int (nI k), .int (nI q)] (WorldM w a b f wa lr nd dg T N S C B O ch PC SF BF ps sc bc hh) (fun v M' => v = some (.int (tlC T N S C PC SF ps sc k q)) ∧ M' = WorldM w a b f wa lr nd dg T N S C B O ch PC SF BF ps sc bc hh) noX := by
  refine Mt.of (L := [some (.ref (w 0)), some (.int (nI k)), some (.int (nI q))]) rfl (by decide) (by simp [lg_sl, Value.category]) ⟨rfl, rfl, rfl, trivial⟩ (fun sz => ?_)
  refine v_iload_n (pc := 0) dX4_tellCell_0 rfl rfl ?_
  by_cases w1_0 : nI q = nI 0
  · refine v_tsIn (pc := 1) (tgt := 36) dX4_tellCell_1 (sw_in (n := 4) w1_0 (by decide) (by decide)).1 (sw_in (n := 4) w1_0 (by decide) (by decide)).2.1 (off := 35) (by rw [(sw_in (n := 4) w1_0 (by decide) (by decide)).2.2]; rfl) (by decide) ?_
    refine v_aload_nR (pc := 36) dX4_tellCell_36 rfl rfl ?_
    refine v_get (pc := 37) 1 0 fg_X4_21 rfl rfl dX4_tellCell_37 ?_
    refine v_iload_n (pc := 40) dX4_tellCell_40 rfl rfl ?_
    refine v_callV1 (pc := 41) (c_X1_thicknessOf hk) cm_X1_thicknessOf q292 q293 q294 (ci := 1) rfl rfl (orcO 5 rfl) [5, 6, 7, 8, 9, 10, 11] (by rfl) (by decide) (fun _ _ h => h) (by decide) (by decide) (by decide) (Nat.le_of_ble_eq_true rfl) dX4_tellCell_41 (fun v41 M41 hQ41 => ?_)
    obtain ⟨rfl, rfl⟩ := hQ41
    try dsimp only [wb, LakeM, WaysM, WorldM, WH, List.set_cons_succ, List.set_cons_zero, List.append_nil, List.nil_append, List.cons_append, Option.toList, Nat.sub_zero]
    refine v_iret (pc := 44) rfl rfl (Nat.le_of_ble_eq_true rfl) dX4_tellCell_44 ?_
    obtain rfl : q = 0 := (nI_eq (by omega) (by omega)).mp w1_0
    exact ⟨rfl, rfl⟩
  by_cases w1_1 : nI q = nI 1
  · refine v_tsIn (pc := 1) (tgt := 45) dX4_tellCell_1 (sw_in (n := 4) w1_1 (by decide) (by decide)).1 (sw_in (n := 4) w1_1 (by decide) (by decide)).2.1 (off := 44) (by rw [(sw_in (n := 4) w1_1 (by decide) (by decide)).2.2]; rfl) (by decide) ?_
    refine v_aload_nR (pc := 45) dX4_tellCell_45 rfl rfl ?_
    refine v_get (pc := 46) 1 0 fg_X4_21 rfl rfl dX4_tellCell_46 ?_
    refine v_iload_n (pc := 49) dX4_tellCell_49 rfl rfl ?_
    refine v_callV1 (pc := 50) (c_X1_snowOf hk) cm_X1_snowOf q299 q300 q301 (ci := 1) rfl rfl (orcO 5 rfl) [5, 6, 7, 8, 9, 10, 11] (by rfl) (by decide) (fun _ _ h => h) (by decide) (by decide) (by decide) (Nat.le_of_ble_eq_true rfl) dX4_tellCell_50 (fun v50 M50 hQ50 => ?_)
    obtain ⟨rfl, rfl⟩ := hQ50
    try dsimp only [wb, LakeM, WaysM, WorldM, WH, List.set_cons_succ, List.set_cons_zero, List.append_nil, List.nil_append, List.cons_append, Option.toList, Nat.sub_zero]
    refine v_iret (pc := 53) rfl rfl (Nat.le_of_ble_eq_true rfl) dX4_tellCell_53 ?_
    obtain rfl : q = 1 := (nI_eq (by omega) (by omega)).mp w1_1
    exact ⟨rfl, rfl⟩
  by_cases w1_2 : nI q = nI 2
  · refine v_tsIn (pc := 1) (tgt := 54) dX4_tellCell_1 (sw_in (n := 4) w1_2 (by decide) (by decide)).1 (sw_in (n := 4) w1_2 (by decide) (by decide)).2.1 (off := 53) (by rw [(sw_in (n := 4) w1_2 (by decide) (by decide)).2.2]; rfl) (by decide) ?_
    refine v_aload_nR (pc := 54) dX4_tellCell_54 rfl rfl ?_
    refine v_get (pc := 55) 1 0 fg_X4_21 rfl rfl dX4_tellCell_55 ?_
    refine v_iload_n (pc := 58) dX4_tellCell_58 rfl rfl ?_
    refine v_callV1 (pc := 59) (c_X1_strainOf hk) cm_X1_strainOf q303 q304 q305 (ci := 1) rfl rfl (orcO 5 rfl) [5, 6, 7, 8, 9, 10, 11] (by rfl) (by decide) (fun _ _ h => h) (by decide) (by decide) (by decide) (Nat.le_of_ble_eq_true rfl) dX4_tellCell_59 (fun v59 M59 hQ59 => ?_)
    obtain ⟨rfl, rfl⟩ := hQ59
    try dsimp only [wb, LakeM, WaysM, WorldM, WH, List.set_cons_succ, List.set_cons_zero, List.append_nil, List.nil_append, List.cons_append, Option.toList, Nat.sub_zero]
    refine v_iret (pc := 62) rfl rfl (Nat.le_of_ble_eq_true rfl) dX4_tellCell_62 ?_
    obtain rfl : q = 2 := (nI_eq (by omega) (by omega)).mp w1_2
    exact ⟨rfl, rfl⟩
  by_cases w1_3 : nI q = nI 3
  · refine v_tsIn (pc := 1) (tgt := 63) dX4_tellCell_1 (sw_in (n := 4) w1_3 (by decide) (by decide)).1 (sw_in (n := 4) w1_3 (by decide) (by decide)).2.1 (off := 62) (by rw [(sw_in (n := 4) w1_3 (by decide) (by decide)).2.2]; rfl) (by decide) ?_
    refine v_aload_nR (pc := 63) dX4_tellCell_63 rfl rfl ?_
    refine v_get (pc := 64) 1 0 fg_X4_21 rfl rfl dX4_tellCell_64 ?_
    refine v_iload_n (pc := 67) dX4_tellCell_67 rfl rfl ?_
    refine v_callV1 (pc := 68) (c_X1_isCracked hk) cm_X1_isCracked q307 q308 q309 (ci := 1) rfl rfl (orcO 5 rfl) [5, 6, 7, 8, 9, 10, 11] (by rfl) (by decide) (fun _ _ h => h) (by decide) (by decide) (by decide) (Nat.le_of_ble_eq_true rfl) dX4_tellCell_68 (fun v68 M68 hQ68 => ?_)
    obtain ⟨rfl, rfl⟩ := hQ68
    try dsimp only [wb, LakeM, WaysM, WorldM, WH, List.set_cons_succ, List.set_cons_zero, List.append_nil, List.nil_append, List.cons_append, Option.toList, Nat.sub_zero]
    refine v_if_eq (pc := 71) (tgt := 78) dX4_tellCell_71 (by decide) (fun c71 => ?_) (fun c71 => ?_)
    · have c71 := bI_0.mp c71
      refine v_iconst (pc := 78) (v := 0) dX4_tellCell_78 rfl ?_
      refine v_iret (pc := 79) rfl rfl (Nat.le_of_ble_eq_true rfl) dX4_tellCell_79 ?_
      obtain rfl : q = 3 := (nI_eq (by omega) (by omega)).mp w1_3
      exact ⟨by show _ = some (Value.int (bI (¬ C k = 0))); rw [bI_f c71], rfl⟩
    · have c71 := bI_n.mp c71
      refine v_iconst (pc := 74) (v := 1) dX4_tellCell_74 rfl ?_
      refine v_goto (pc := 75) (tgt := 79) dX4_tellCell_75 (by decide) ?_
      refine v_iret (pc := 79) rfl rfl (Nat.le_of_ble_eq_true rfl) dX4_tellCell_79 ?_
      obtain rfl : q = 3 := (nI_eq (by omega) (by omega)).mp w1_3
      exact ⟨by show _ = some (Value.int (bI (¬ C k = 0))); rw [bI_t c71], rfl⟩
  by_cases w1_4 : nI q = nI 4
  · refine v_tsIn (pc := 1) (tgt := 80) dX4_tellCell_1 (sw_in (n := 4) w1_4 (by decide) (by decide)).1 (sw_in (n := 4) w1_4 (by decide) (by decide)).2.1 (off := 79) (by rw [(sw_in (n := 4) w1_4 (by decide) (by decide)).2.2]; rfl) (by decide) ?_
    refine v_aload_nR (pc := 80) dX4_tellCell_80 rfl rfl ?_
    refine v_iload_n (pc := 81) dX4_tellCell_81 rfl rfl ?_
    refine v_callV1 (pc := 82) (c_X4_postOn hps hsc hbc) cm_X4_postOn q311 q312 q313 (ci := 4) rfl rfl (orcO 0 rfl) [0, 1, 2, 3, 4, 5, 6, 7, 8, 9, 10, 11, 12, 13, 14, 15, 16] (by rfl) (by decide) (fun _ _ h => h) (by decide) (by decide) (by decide) (Nat.le_of_ble_eq_true rfl) dX4_tellCell_82 (fun v82 M82 hQ82 => ?_)
    obtain ⟨rfl, rfl⟩ := hQ82
    try dsimp only [wb, LakeM, WaysM, WorldM, WH, List.set_cons_succ, List.set_cons_zero, List.append_nil, List.nil_append, List.cons_append, Option.toList, Nat.sub_zero]
    refine v_iret (pc := 85) rfl rfl (Nat.le_of_ble_eq_true rfl) dX4_tellCell_85 ?_
    obtain rfl : q = 4 := (nI_eq (by omega) (by omega)).mp w1_4
    exact ⟨rfl, rfl⟩
  refine v_tsOut (pc := 1) (tgt := 86) dX4_tellCell_1 (sw_out 4 (fun k hk h => by
    have hk2 : k = 0 ∨ k = 1 ∨ k = 2 ∨ k = 3 ∨ k = 4 := by omega
    rcases hk2 with rfl | rfl | rfl | rfl | rfl
    · exact w1_0 h
    · exact w1_1 h
    · exact w1_2 h
    · exact w1_3 h
    · exact w1_4 h)) (by decide) ?_
  refine v_aload_nR (pc := 86) dX4_tellCell_86 rfl rfl ?_
  refine v_iload_n (pc := 87) dX4_tellCell_87 rfl rfl ?_
  refine v_callV1 (pc := 88) (c_X4_sleighsOn hps hsc hbc) cm_X4_sleighsOn q315 q316 q317 (ci := 4) rfl rfl (orcO 0 rfl) [0, 1, 2, 3, 4, 5, 6, 7, 8, 9, 10, 11, 12, 13, 14, 15, 16] (by rfl) (by decide) (fun _ _ h => h) (by decide) (by decide) (by decide) (Nat.le_of_ble_eq_true rfl) dX4_tellCell_88 (fun v88 M88 hQ88 => ?_)
  obtain ⟨rfl, rfl⟩ := hQ88
  try dsimp only [wb, LakeM, WaysM, WorldM, WH, List.set_cons_succ, List.set_cons_zero, List.append_nil, List.nil_append, List.cons_append, Option.toList, Nat.sub_zero]
  refine v_iret (pc := 91) rfl rfl (Nat.le_of_ble_eq_true rfl) dX4_tellCell_91 ?_
  have h0 : ¬ q = 0 := (fun h => w1_0 (by rw [h]))
  have h1 : ¬ q = 1 := (fun h => w1_1 (by rw [h]))
  have h2 : ¬ q = 2 := (fun h => w1_2 (by rw [h]))
  have h3 : ¬ q = 3 := (fun h => w1_3 (by rw [h]))
  have h4 : ¬ q = 4 := (fun h => w1_4 (by rw [h]))
  obtain rfl : q = 5 := by omega
  exact ⟨rfl, rfl⟩
