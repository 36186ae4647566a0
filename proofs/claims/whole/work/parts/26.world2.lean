/-! an hour of the world, and what a world is asked and told -/
/-- sleighs, bags, thickness, cracks before; the search's own, its lake, need, drag; strain, cracks, changes -/
abbrev HW := (Nat → Nat → Int32) × (Nat → Nat → Int32) × (Nat → Int32) × (Nat → Int32) × QS × Value × Int32 × Int32 × (Nat → Int32) × (Nat → Int32) × Int32
abbrev WH (w : Nat → Nat) (N O PC : Nat → Int32) (ps sc bc hh : Nat) (x : HW) : List ME := WorldM w x.2.2.2.2.1.1 x.2.2.2.2.1.2.1 x.2.2.2.2.1.2.2.1 x.2.2.2.2.1.2.2.2 x.2.2.2.2.2.1 x.2.2.2.2.2.2.1 x.2.2.2.2.2.2.2.1 x.2.2.1 N x.2.2.2.2.2.2.2.2.1 x.2.2.2.2.2.2.2.2.2.1 x.2.2.2.1 O x.2.2.2.2.2.2.2.2.2.2 PC x.1 x.2.1 ps sc bc hh
def hrA (O : Nat → Int32) (hh : Nat) (x : HW) : HW := if hh % 24 = 0 then (x.1, x.2.1, dT (O (hh / 24 % 8)) x.2.2.1, dB (O (hh / 24 % 8)) x.2.2.2.2.2.2.2.2.2.1 x.2.2.2.1, x.2.2.2.2.1, x.2.2.2.2.2.1, x.2.2.2.2.2.2.1, x.2.2.2.2.2.2.2.1, dS (O (hh / 24 % 8)) x.2.2.1 x.2.2.2.2.2.2.2.2.1, dC (O (hh / 24 % 8)) x.2.2.1 x.2.2.2.2.2.2.2.2.1 x.2.2.2.2.2.2.2.2.2.1, x.2.2.2.2.2.2.2.2.2.2 + 1) else x
def hrB (n5 : Nat) (sc bc : Nat) (x : HW) : HW := ((skL x.2.2.1 x.2.2.2.2.2.2.2.2.2.1 sc bc n5 0 (x.1, x.2.1)).1, (skL x.2.2.1 x.2.2.2.2.2.2.2.2.2.1 sc bc n5 0 (x.1, x.2.1)).2, x.2.2)
def hrC (n5 : Nat) (PC : Nat → Int32) (ps sc bc hh : Nat) (x : HW) : HW := ((mvL PC ps sc bc hh n5 0 (x.1, x.2.1, 0)).1, (mvL PC ps sc bc hh n5 0 (x.1, x.2.1, 0)).2.1, x.2.2)
def hrV (n5 : Nat) (PC : Nat → Int32) (ps sc bc hh : Nat) (x : HW) : Int32 := (mvL PC ps sc bc hh n5 0 (x.1, x.2.1, 0)).2.2
def hrE (n5 : Nat) (l5 : Value) (N PC : Nat → Int32) (ps sc : Nat) (x : HW) : HW := ((soL l5 x.2.2.1 N PC ps sc n5 0 (x.1, x.2.2.2.2)).1, x.2.1, x.2.2.1, x.2.2.2.1, (soL l5 x.2.2.1 N PC ps sc n5 0 (x.1, x.2.2.2.2)).2)
def hrR (n5 : Nat) (sc : Nat) (x : HW) : HW := (reL sc n5 0 x.1, x.2)
/-- the world after an hour, and the bags that came in it -/
def hrW (n5 : Nat) (l5 : Value) (N O PC : Nat → Int32) (ps sc bc hh : Nat) (x : HW) : HW := hrR n5 sc (hrE n5 l5 N PC ps sc (hrC n5 PC ps sc bc hh (hrB n5 sc bc (hrA O hh x))))
def hrN (n5 : Nat) (O PC : Nat → Int32) (ps sc bc hh : Nat) (x : HW) : Int32 := hrV n5 PC ps sc bc hh (hrB n5 sc bc (hrA O hh x))
theorem hrA_ok {O : Nat → Int32} {hh sc : Nat} {x : HW} (h : sOK x.1 sc) : sOK (hrA O hh x).1 sc := by unfold hrA; split <;> exact h
theorem hrB_ok {n5 : Nat} {sc bc : Nat} {x : HW} (h : sOK x.1 sc) : sOK (hrB n5 sc bc x).1 sc := skL_ok n5 0 h
theorem hrC_ok {n5 : Nat} {PC : Nat → Int32} {ps sc bc hh : Nat} {x : HW} (h : sOK x.1 sc) : sOK (hrC n5 PC ps sc bc hh x).1 sc := mvL_ok n5 0 h
theorem hrE_ok {n5 : Nat} {l5 : Value} {N PC : Nat → Int32} {ps sc : Nat} {x : HW} (h : sOK x.1 sc) : sOK (hrE n5 l5 N PC ps sc x).1 sc := soL_ok n5 0 (x := (x.1, x.2.2.2.2)) h
theorem hrW_ok {n5 : Nat} {l5 : Value} {N O PC : Nat → Int32} {ps sc bc hh : Nat} {x : HW} (h : sOK x.1 sc) : sOK (hrW n5 l5 N O PC ps sc bc hh x).1 sc := reL_ok n5 0 (hrE_ok (hrC_ok (hrB_ok (hrA_ok h))))
/-- what the walks need of the cracks -/
def cOK (C : Nat → Int32) : Prop := ∀ j, vp_nar .boolean (C j) = C j
theorem dC_ok {fr : Int32} {T S C : Nat → Int32} (h : cOK C) : cOK (dC fr T S C) := by
  intro j
  unfold dC
  split
  · exact h j
  · split
    · unfold fillU
      split
      · unfold spC
        split
        · rfl
        · exact h j
      · exact h j
    · exact h j
theorem upd_ok {C : Nat → Int32} {k : Nat} {v : Int32} (h : cOK C) (hv : vp_nar .boolean v = v) : cOK (upd C k v) := by
  intro j
  unfold upd
  split
  · exact hv
  · exact h j
theorem stU_ok {T S C : Nat → Int32} {k : Nat} {nd ch : Int32} (h : cOK C) : cOK (stU T S C k nd ch).2.1 := by
  unfold stU
  split
  · exact upd_ok h bI_vp
  · exact h
theorem soT_cok {l5 : Value} {T N PC : Nat → Int32} {ps sc n : Nat} {x : SO} (h : cOK x.2.2.2.2.2.2.1) : cOK (soT l5 T N PC ps sc n x).2.2.2.2.2.2.1 := by
  unfold soT
  split
  · split
    · exact h
    · exact stU_ok h
  · exact h
theorem soL_cok {l5 : Value} {T N PC : Nat → Int32} {ps sc : Nat} : ∀ m i {x : SO}, cOK x.2.2.2.2.2.2.1 → cOK (soL l5 T N PC ps sc m i x).2.2.2.2.2.2.1
  | 0, _, _, h => h
  | m + 1, i, _, h => soL_cok m (i + 1) (soT_cok h)
theorem hrW_cok {n5 : Nat} {l5 : Value} {N O PC : Nat → Int32} {ps sc bc hh : Nat} {x : HW} (h : cOK x.2.2.2.2.2.2.2.2.2.1) : cOK (hrW n5 l5 N O PC ps sc bc hh x).2.2.2.2.2.2.2.2.2.1 := by
  refine soL_cok (x := (_, (hrC n5 PC ps sc bc hh (hrB n5 sc bc (hrA O hh x))).2.2.2.2)) n5 0 ?_
  show cOK (hrA O hh x).2.2.2.2.2.2.2.2.2.1
  unfold hrA
  split
  · exact dC_ok h
  · exact h
theorem nI_p1 {n : Nat} : nI (n + 1) - 1 = nI n := by rw [← nI_1, Int32.add_sub_cancel]
theorem c_X4_sinkSleighsN {n5 : Nat} (h5 : n5 = 5) {G : Cx} {w : Nat → Nat} {a b f : Nat → Int32} {wa : Int32} {lr : Value} {nd dg : Int32} {T N S C B O : Nat → Int32} {ch : Int32} {PC : Nat → Int32} {SF BF : Nat → Nat → Int32} {ps sc bc hh : Nat} (hps : ps ≤ 8) (hsc : sc ≤ 5) (hbc : bc ≤ 40) (hx : sOK SF sc) : Mt G Y_X4_sinkSleighs 2 0 0 [.ref (w 0)] (WorldM w a b f wa lr nd dg T N S C B O ch PC SF BF ps sc bc hh) (fun v M' => v = none ∧ M' = WorldM w a b f wa lr nd dg T N S C B O ch PC (skL T C sc bc n5 0 (SF, BF)).1 (skL T C sc bc n5 0 (SF, BF)).2 ps sc bc hh) noX := by
  subst h5
  exact c_X4_sinkSleighs hps hsc hbc hx
theorem c_X4_moveSleighsN {n5 : Nat} (h5 : n5 = 5) {G : Cx} {w : Nat → Nat} {a b f : Nat → Int32} {wa : Int32} {lr : Value} {nd dg : Int32} {T N S C B O : Nat → Int32} {ch : Int32} {PC : Nat → Int32} {SF BF : Nat → Nat → Int32} {ps sc bc hh : Nat} (hps : ps ≤ 8) (hsc : sc ≤ 5) (hbc : bc ≤ 40) (hx : sOK SF sc) : Mt G Y_X4_moveSleighs 2 0 0 [.ref (w 0)] (WorldM w a b f wa lr nd dg T N S C B O ch PC SF BF ps sc bc hh) (fun v M' => v = some (.int (mvL PC ps sc bc hh n5 0 (SF, BF, 0)).2.2) ∧ M' = WorldM w a b f wa lr nd dg T N S C B O ch PC (mvL PC ps sc bc hh n5 0 (SF, BF, 0)).1 (mvL PC ps sc bc hh n5 0 (SF, BF, 0)).2.1 ps sc bc hh) noX := by
  subst h5
  exact c_X4_moveSleighs hps hsc hbc hx
theorem c_X4_setOutSleighsN {n5 : Nat} (h5 : n5 = 5) {G : Cx} {w : Nat → Nat} {a b f : Nat → Int32} {wa : Int32} {lr : Value} {nd dg : Int32} {T N S C B O : Nat → Int32} {ch : Int32} {PC : Nat → Int32} {SF BF : Nat → Nat → Int32} {ps sc bc hh : Nat} (hps : ps ≤ 8) (hsc : sc ≤ 5) (hbc : bc ≤ 40) (hPC : ∀ k, k < 8 → 0 ≤ PC k ∧ PC k < 160) (hx : sOK SF sc) : Mt G Y_X4_setOutSleighs 4 0 0 [.ref (w 0)] (WorldM w a b f wa lr nd dg T N S C B O ch PC SF BF ps sc bc hh) (fun v M' => v = none ∧ M' = WorldM w (soL (.ref (w 5)) T N PC ps sc n5 0 (SF, (a, b, f, wa), lr, nd, dg, S, C, ch)).2.1.1 (soL (.ref (w 5)) T N PC ps sc n5 0 (SF, (a, b, f, wa), lr, nd, dg, S, C, ch)).2.1.2.1 (soL (.ref (w 5)) T N PC ps sc n5 0 (SF, (a, b, f, wa), lr, nd, dg, S, C, ch)).2.1.2.2.1 (soL (.ref (w 5)) T N PC ps sc n5 0 (SF, (a, b, f, wa), lr, nd, dg, S, C, ch)).2.1.2.2.2 (soL (.ref (w 5)) T N PC ps sc n5 0 (SF, (a, b, f, wa), lr, nd, dg, S, C, ch)).2.2.1 (soL (.ref (w 5)) T N PC ps sc n5 0 (SF, (a, b, f, wa), lr, nd, dg, S, C, ch)).2.2.2.1 (soL (.ref (w 5)) T N PC ps sc n5 0 (SF, (a, b, f, wa), lr, nd, dg, S, C, ch)).2.2.2.2.1 T N (soL (.ref (w 5)) T N PC ps sc n5 0 (SF, (a, b, f, wa), lr, nd, dg, S, C, ch)).2.2.2.2.2.1 (soL (.ref (w 5)) T N PC ps sc n5 0 (SF, (a, b, f, wa), lr, nd, dg, S, C, ch)).2.2.2.2.2.2.1 B O (soL (.ref (w 5)) T N PC ps sc n5 0 (SF, (a, b, f, wa), lr, nd, dg, S, C, ch)).2.2.2.2.2.2.2 PC (soL (.ref (w 5)) T N PC ps sc n5 0 (SF, (a, b, f, wa), lr, nd, dg, S, C, ch)).1 BF ps sc bc hh) noX := by
  subst h5
  exact c_X4_setOutSleighs hps hsc hbc hPC hx
theorem c_X4_restSleighsN {n5 : Nat} (h5 : n5 = 5) {G : Cx} {w : Nat → Nat} {a b f : Nat → Int32} {wa : Int32} {lr : Value} {nd dg : Int32} {T N S C B O : Nat → Int32} {ch : Int32} {PC : Nat → Int32} {SF BF : Nat → Nat → Int32} {ps sc bc hh : Nat} (hps : ps ≤ 8) (hsc : sc ≤ 5) (hbc : bc ≤ 40) : Mt G Y_X4_restSleighs 2 0 0 [.ref (w 0)] (WorldM w a b f wa lr nd dg T N S C B O ch PC SF BF ps sc bc hh) (fun v M' => v = none ∧ M' = WorldM w a b f wa lr nd dg T N S C B O ch PC (reL sc n5 0 SF) BF ps sc bc hh) noX := by
  subst h5
  exact c_X4_restSleighs hps hsc hbc
theorem c_X4_sinkSleighsH {n5 : Nat} (h5 : n5 = 5) {G : Cx} {w : Nat → Nat} {N O PC : Nat → Int32} {ps sc bc hh : Nat} {x : HW} (hps : ps ≤ 8) (hsc : sc ≤ 5) (hbc : bc ≤ 40) (hx : sOK x.1 sc) : Mt G Y_X4_sinkSleighs 2 0 0 [.ref (w 0)] (WH w N O PC ps sc bc hh x) (fun v M' => v = none ∧ M' = WH w N O PC ps sc bc hh (hrB n5 sc bc x)) noX :=
  c_X4_sinkSleighsN h5 hps hsc hbc hx
theorem c_X4_moveSleighsH {n5 : Nat} (h5 : n5 = 5) {G : Cx} {w : Nat → Nat} {N O PC : Nat → Int32} {ps sc bc hh : Nat} {x : HW} (hps : ps ≤ 8) (hsc : sc ≤ 5) (hbc : bc ≤ 40) (hx : sOK x.1 sc) : Mt G Y_X4_moveSleighs 2 0 0 [.ref (w 0)] (WH w N O PC ps sc bc hh x) (fun v M' => v = some (.int (hrV n5 PC ps sc bc hh x)) ∧ M' = WH w N O PC ps sc bc hh (hrC n5 PC ps sc bc hh x)) noX :=
  c_X4_moveSleighsN h5 hps hsc hbc hx
theorem c_X4_setOutSleighsH {n5 : Nat} (h5 : n5 = 5) {G : Cx} {w : Nat → Nat} {N O PC : Nat → Int32} {ps sc bc hh : Nat} {x : HW} (hps : ps ≤ 8) (hsc : sc ≤ 5) (hbc : bc ≤ 40) (hPC : ∀ k, k < 8 → 0 ≤ PC k ∧ PC k < 160) (hx : sOK x.1 sc) : Mt G Y_X4_setOutSleighs 4 0 0 [.ref (w 0)] (WH w N O PC ps sc bc hh x) (fun v M' => v = none ∧ M' = WH w N O PC ps sc bc hh (hrE n5 (.ref (w 5)) N PC ps sc x)) noX :=
  c_X4_setOutSleighsN h5 hps hsc hbc hPC hx
theorem c_X4_restSleighsH {n5 : Nat} (h5 : n5 = 5) {G : Cx} {w : Nat → Nat} {N O PC : Nat → Int32} {ps sc bc hh : Nat} {x : HW} (hps : ps ≤ 8) (hsc : sc ≤ 5) (hbc : bc ≤ 40) : Mt G Y_X4_restSleighs 2 0 0 [.ref (w 0)] (WH w N O PC ps sc bc hh x) (fun v M' => v = none ∧ M' = WH w N O PC ps sc bc hh (hrR n5 sc x)) noX :=
  c_X4_restSleighsN h5 hps hsc hbc
set_option maxRecDepth 100000 in
set_option maxHeartbeats 4000000 in
theorem lp_X4_hour {n5 : Nat} (h5 : n5 = 5) {G : Cx} {w : Nat → Nat} {N O PC : Nat → Int32} {ps sc bc hh : Nat} {x : HW} (hps : ps ≤ 8) (hsc : sc ≤ 5) (hbc : bc ≤ 40) {sz : Nat} {x0 : HW} (hhh : hh < 2 ^ 31 - 1) (hPC : ∀ k, k < 8 → 0 ≤ PC k ∧ PC k < 160) (hx : sOK x.1 sc) : V G Y_X4_goOneHour (ZM G (WH w N O PC ps sc bc hh x0) sz (fun v M' => v = some (.int (hrV n5 PC ps sc bc hh (hrB n5 sc bc x))) ∧ M' = WH w N O PC ps sc bc (hh + 1) (hrR n5 sc (hrE n5 (.ref (w 5)) N PC ps sc (hrC n5 PC ps sc bc hh (hrB n5 sc bc x))))) noX) 5 0 0 24 [some (.ref (w 0)), none] [] (WH w N O PC ps sc bc hh x) := by

  refine v_aload_nR (pc := 24) dX4_goOneHour_24 rfl rfl ?_
  refine v_callV0 (pc := 25) (c_X4_sinkSleighsH (x := x) h5 hps hsc hbc hx) cm_X4_sinkSleighs q666 q668 qs9 (ci := 4) rfl rfl (orcO 0 rfl) [0, 1, 2, 3, 4, 5, 6, 7, 8, 9, 10, 11, 12, 13, 14, 15, 16] (by rfl) (by decide) (fun _ _ h => h) (by decide) (by decide) (by decide) (Nat.le_of_ble_eq_true rfl) dX4_goOneHour_25 (fun v25 M25 hQ25 => ?_)
  obtain ⟨rfl, rfl⟩ := hQ25
  try dsimp only [wb, LakeM, WaysM, WorldM, WH, List.set_cons_succ, List.set_cons_zero, List.append_nil, List.nil_append, List.cons_append, Option.toList, Nat.sub_zero]
  have h2 := hrB_ok (n5 := n5) (bc := bc) hx
  generalize hrB n5 sc bc x = y2 at h2 ⊢
  refine v_aload_nR (pc := 28) dX4_goOneHour_28 rfl rfl ?_
  refine v_callV0 (pc := 29) (c_X4_moveSleighsH (x := y2) h5 hps hsc hbc h2) cm_X4_moveSleighs q683 q685 qs11 (ci := 4) rfl rfl (orcO 0 rfl) [0, 1, 2, 3, 4, 5, 6, 7, 8, 9, 10, 11, 12, 13, 14, 15, 16] (by rfl) (by decide) (fun _ _ h => h) (by decide) (by decide) (by decide) (Nat.le_of_ble_eq_true rfl) dX4_goOneHour_29 (fun v29 M29 hQ29 => ?_)
  obtain ⟨rfl, rfl⟩ := hQ29
  try dsimp only [wb, LakeM, WaysM, WorldM, WH, List.set_cons_succ, List.set_cons_zero, List.append_nil, List.nil_append, List.cons_append, Option.toList, Nat.sub_zero]
  have h3 := hrC_ok (n5 := n5) (PC := PC) (ps := ps) (bc := bc) (hh := hh) h2
  generalize hrC n5 PC ps sc bc hh y2 = y3 at h3 ⊢
  refine v_istore_n (pc := 32) dX4_goOneHour_32 rfl (by decide) rfl ?_
  refine v_aload_nR (pc := 33) dX4_goOneHour_33 rfl rfl ?_
  refine v_callV0 (pc := 34) (c_X4_setOutSleighsH (x := y3) h5 hps hsc hbc hPC h3) cm_X4_setOutSleighs q708 q710 qs13 (ci := 4) rfl rfl (orcO 0 rfl) [0, 1, 2, 3, 4, 5, 6, 7, 8, 9, 10, 11, 12, 13, 14, 15, 16] (by rfl) (by decide) (fun _ _ h => h) (by decide) (by decide) (by decide) (Nat.le_of_ble_eq_true rfl) dX4_goOneHour_34 (fun v34 M34 hQ34 => ?_)
  obtain ⟨rfl, rfl⟩ := hQ34
  try dsimp only [wb, LakeM, WaysM, WorldM, WH, List.set_cons_succ, List.set_cons_zero, List.append_nil, List.nil_append, List.cons_append, Option.toList, Nat.sub_zero]
  generalize hrE n5 (.ref (w 5)) N PC ps sc y3 = y4
  refine v_aload_nR (pc := 37) dX4_goOneHour_37 rfl rfl ?_
  refine v_callV0 (pc := 38) (c_X4_restSleighsH (x := y4) h5 hps hsc hbc) cm_X4_restSleighs q724 q726 qs14 (ci := 4) rfl rfl (orcO 0 rfl) [0, 1, 2, 3, 4, 5, 6, 7, 8, 9, 10, 11, 12, 13, 14, 15, 16] (by rfl) (by decide) (fun _ _ h => h) (by decide) (by decide) (by decide) (Nat.le_of_ble_eq_true rfl) dX4_goOneHour_38 (fun v38 M38 hQ38 => ?_)
  obtain ⟨rfl, rfl⟩ := hQ38
  try dsimp only [wb, LakeM, WaysM, WorldM, WH, List.set_cons_succ, List.set_cons_zero, List.append_nil, List.nil_append, List.cons_append, Option.toList, Nat.sub_zero]
  generalize hrR n5 sc y4 = y5
  refine v_aload_nR (pc := 41) dX4_goOneHour_41 rfl rfl ?_
  refine v_dup (pc := 42) dX4_goOneHour_42 rfl ?_
  refine v_get (pc := 43) 8 0 fg_X4_60 rfl rfl dX4_goOneHour_43 ?_
  refine v_iconst (pc := 46) (v := 1) dX4_goOneHour_46 rfl ?_
  refine v_iadd (pc := 47) dX4_goOneHour_47 ?_
  rw [nI_1]
  refine v_put (pc := 48) 8 0 fp_X4_goOneHour_60 rfl rfl rfl (Nat.le_of_ble_eq_true rfl) dX4_goOneHour_48 ?_
  try dsimp only [wb, LakeM, WaysM, WorldM, WH, List.set_cons_succ, List.set_cons_zero, List.append_nil, List.nil_append, List.cons_append, Option.toList, Nat.sub_zero]
  refine v_iload_n (pc := 51) dX4_goOneHour_51 rfl rfl ?_
  refine v_iret (pc := 52) rfl rfl (Nat.le_of_ble_eq_true rfl) dX4_goOneHour_52 ?_
  exact ⟨rfl, rfl⟩
set_option maxRecDepth 100000 in
set_option maxHeartbeats 4000000 in
theorem c_X4_goOneHour0 {n5 : Nat} (h5 : n5 = 5) {G : Cx} {w : Nat → Nat} {N O PC : Nat → Int32} {ps sc bc hh : Nat} {x : HW} (hps : ps ≤ 8) (hsc : sc ≤ 5) (hbc : bc ≤ 40) (hhh0 : hh < 2 ^ 31 - 1) (hPC : ∀ k, k < 8 → 0 ≤ PC k ∧ PC k < 160) (hx : sOK x.1 sc) (hC : cOK x.2.2.2.2.2.2.2.2.2.1) : Mt G Y_X4_goOneHour 5 0 0 [.ref (w 0)] (WH w N O PC ps sc bc hh x) (fun v M' => v = some (.int (hrV n5 PC ps sc bc hh (hrB n5 sc bc (hrA O hh x)))) ∧ M' = WH w N O PC ps sc bc (hh + 1) (hrR n5 sc (hrE n5 (.ref (w 5)) N PC ps sc (hrC n5 PC ps sc bc hh (hrB n5 sc bc (hrA O hh x)))))) noX := by
  refine Mt.of (L := [some (.ref (w 0)), none]) rfl (by decide) (by simp [lg_sl, Value.category]) ⟨rfl, trivial⟩ (fun sz => ?_)
  have hhh : hh < 2 ^ 31 := by omega
  have h1 := hrA_ok (O := O) (hh := hh) hx
  generalize hy : hrA O hh x = y at h1 ⊢
  refine v_aload_nR (pc := 0) dX4_goOneHour_0 rfl rfl ?_
  refine v_get (pc := 1) 8 0 fg_X4_60 rfl rfl dX4_goOneHour_1 ?_
  refine v_bipush (pc := 4) (v := 24) dX4_goOneHour_4 rfl ?_
  refine v_irem (pc := 6) dX4_goOneHour_6 (by decide) ?_
  rw [show nI hh - nI hh / 24 * 24 = nI (hh % 24) from pk_rem (d := 24) hhh (by decide) (by decide)]
  refine v_if_ne (pc := 7) (tgt := 24) dX4_goOneHour_7 (by decide) (fun c7 => ?_) (fun c7 => ?_)
  · have c7 : ¬ (hh % 24) = 0 := fun h => c7 ((nI_eq (a := (hh % 24)) (b := 0) (by omega) (by omega)).mpr h)
    have eA : y = x := hy.symm.trans (if_neg c7)
    subst eA
    refine v_sub ?_ (lp_X4_hour (x := y) h5 hps hsc hbc hhh0 hPC h1)
    exact ⟨rfl, trivial⟩
  · have c7 : (hh % 24) = 0 := (nI_eq (a := (hh % 24)) (b := 0) (by omega) (by omega)).mp c7
    refine v_aload_nR (pc := 10) dX4_goOneHour_10 rfl rfl ?_
    refine v_get (pc := 11) 1 0 fg_X4_21 rfl rfl dX4_goOneHour_11 ?_
    refine v_aload_nR (pc := 14) dX4_goOneHour_14 rfl rfl ?_
    refine v_get (pc := 15) 8 0 fg_X4_60 rfl rfl dX4_goOneHour_15 ?_
    refine v_bipush (pc := 18) (v := 24) dX4_goOneHour_18 rfl ?_
    refine v_idiv (pc := 20) dX4_goOneHour_20 (by decide) ?_
    rw [show nI hh / 24 = nI (hh / 24) from pk_div (d := 24) hhh (by decide) (by decide)]
    refine v_callV1 (pc := 21) (c_X1_beginDay (dd := hh / 24) (by omega) hC) cm_X1_beginDay q639 q640 q641 (ci := 1) rfl rfl (orcO 5 rfl) [5, 6, 7, 8, 9, 10, 11] (by rfl) (by decide) (fun _ _ h => h) (by decide) (by decide) (by decide) (Nat.le_of_ble_eq_true rfl) dX4_goOneHour_21 (fun v21 M21 hQ21 => ?_)
    obtain ⟨rfl, rfl⟩ := hQ21
    try dsimp only [wb, LakeM, WaysM, WorldM, WH, List.set_cons_succ, List.set_cons_zero, List.append_nil, List.nil_append, List.cons_append, Option.toList, Nat.sub_zero]
    have eA : y = (x.1, x.2.1, dT (O (hh / 24 % 8)) x.2.2.1, dB (O (hh / 24 % 8)) x.2.2.2.2.2.2.2.2.2.1 x.2.2.2.1, x.2.2.2.2.1, x.2.2.2.2.2.1, x.2.2.2.2.2.2.1, x.2.2.2.2.2.2.2.1, dS (O (hh / 24 % 8)) x.2.2.1 x.2.2.2.2.2.2.2.2.1, dC (O (hh / 24 % 8)) x.2.2.1 x.2.2.2.2.2.2.2.2.1 x.2.2.2.2.2.2.2.2.2.1, x.2.2.2.2.2.2.2.2.2.2 + 1) := hy.symm.trans (if_pos c7)
    subst eA
    refine v_sub ?_ (lp_X4_hour (x := (x.1, x.2.1, dT (O (hh / 24 % 8)) x.2.2.1, dB (O (hh / 24 % 8)) x.2.2.2.2.2.2.2.2.2.1 x.2.2.2.1, x.2.2.2.2.1, x.2.2.2.2.2.1, x.2.2.2.2.2.2.1, x.2.2.2.2.2.2.2.1, dS (O (hh / 24 % 8)) x.2.2.1 x.2.2.2.2.2.2.2.2.1, dC (O (hh / 24 % 8)) x.2.2.1 x.2.2.2.2.2.2.2.2.1 x.2.2.2.2.2.2.2.2.2.1, x.2.2.2.2.2.2.2.2.2.2 + 1)) h5 hps hsc hbc hhh0 hPC h1)
    exact ⟨rfl, trivial⟩
theorem c_X4_goOneHour {n5 : Nat} (h5 : n5 = 5) {G : Cx} {w : Nat → Nat} {N O PC : Nat → Int32} {ps sc bc hh : Nat} {x : HW} (hps : ps ≤ 8) (hsc : sc ≤ 5) (hbc : bc ≤ 40) (hhh : hh < 2 ^ 31 - 1) (hPC : ∀ k, k < 8 → 0 ≤ PC k ∧ PC k < 160) (hx : sOK x.1 sc) (hC : cOK x.2.2.2.2.2.2.2.2.2.1) : Mt G Y_X4_goOneHour 5 0 0 [.ref (w 0)] (WH w N O PC ps sc bc hh x) (fun v M' => v = some (.int (hrN n5 O PC ps sc bc hh x)) ∧ M' = WH w N O PC ps sc bc (hh + 1) (hrW n5 (.ref (w 5)) N O PC ps sc bc hh x)) noX :=
  c_X4_goOneHour0 h5 hps hsc hbc hhh hPC hx hC
set_option maxRecDepth 100000 in
set_option maxHeartbeats 4000000 in
theorem c_X4_sleighAt_k {G : Cx} {w : Nat → Nat} {a b f : Nat → Int32} {wa : Int32} {lr : Value} {nd dg : Int32} {T N S C B O : Nat → Int32} {ch : Int32} {PC : Nat → Int32} {SF BF : Nat → Nat → Int32} {ps sc bc hh : Nat} (hps : ps ≤ 8) (hsc : sc ≤ 5) (hbc : bc ≤ 40) {k : Nat} (hk : k < sc) : Mt G Y_X4_sleighAt 0 0 0 [.ref (w 0), .int (nI k)] (WorldM w a b f wa lr nd dg T N S C B O ch PC SF BF ps sc bc hh) (fun v M' => v = some (.ref (sS w k)) ∧ M' = WorldM w a b f wa lr nd dg T N S C B O ch PC SF BF ps sc bc hh) noX := by
  refine Mt.of (L := [some (.ref (w 0)), some (.int (nI k))]) rfl (by decide) (by simp [lg_sl, Value.category]) ⟨rfl, rfl, trivial⟩ (fun sz => ?_)
  refine v_iload_n (pc := 0) dX4_sleighAt_0 rfl rfl ?_
  refine v_if_lt (pc := 1) (tgt := 26) dX4_sleighAt_1 (by decide) (fun c1 => absurd c1 (nI_pos (by omega))) (fun c1 => ?_)
  have c1 : ¬ k < 0 := fun h => c1 ((nI_ltI (a := k) (b := 0) (by omega) (by omega)).mpr h)
  refine v_iload_n (pc := 4) dX4_sleighAt_4 rfl rfl ?_
  refine v_aload_nR (pc := 5) dX4_sleighAt_5 rfl rfl ?_
  refine v_get (pc := 6) 6 0 fg_X4_57 rfl rfl dX4_sleighAt_6 ?_
  refine v_icmp_ge (pc := 9) (tgt := 26) dX4_sleighAt_9 (by decide) (fun c9 => absurd c9 (nI_ge (a := k) (b := sc) hk (by omega))) (fun c9 => ?_)
  have c9 : ¬ sc ≤ k := fun h => c9 ((nI_leI (a := sc) (b := k) (by omega) (by omega)).mpr h)
  refine v_iload_n (pc := 12) dX4_sleighAt_12 rfl rfl ?_
  refine v_iconst (pc := 13) (v := 5) dX4_sleighAt_13 rfl ?_
  refine v_icmp_ge (pc := 14) (tgt := 26) dX4_sleighAt_14 (by decide) (fun c14 => absurd c14 (nI_ge (a := k) (b := 5) (by omega) (by omega))) (fun c14 => ?_)
  have c14 : ¬ 5 ≤ k := fun h => c14 ((nI_leI (a := 5) (b := k) (by omega) (by omega)).mpr h)
  refine v_aload_nR (pc := 17) dX4_sleighAt_17 rfl rfl ?_
  refine v_get (pc := 18) 3 0 fg_X4_31 rfl rfl dX4_sleighAt_18 ?_
  refine v_iload_n (pc := 21) dX4_sleighAt_21 rfl rfl ?_
  refine v_aaldS (pc := 22) 13 (k := k) (by decide) rfl (by omega) (by decide) dX4_sleighAt_22 ?_
  refine v_goto (pc := 23) (tgt := 27) dX4_sleighAt_23 (by decide) ?_
  refine v_aret (pc := 27) rfl (Or.inl ⟨_, rfl⟩) (Or.inr ⟨_, rfl⟩) (Nat.le_of_ble_eq_true rfl) dX4_sleighAt_27 ?_
  exact ⟨rfl, rfl⟩
set_option maxRecDepth 100000 in
set_option maxHeartbeats 4000000 in
theorem c_X4_sleighAt_n {G : Cx} {w : Nat → Nat} {a b f : Nat → Int32} {wa : Int32} {lr : Value} {nd dg : Int32} {T N S C B O : Nat → Int32} {ch : Int32} {PC : Nat → Int32} {SF BF : Nat → Nat → Int32} {ps sc bc hh : Nat} (hps : ps ≤ 8) (hsc : sc ≤ 5) (hbc : bc ≤ 40) {q : Int32} (hq : ¬ (0 ≤ q ∧ q < nI sc)) : Mt G Y_X4_sleighAt 0 0 0 [.ref (w 0), .int q] (WorldM w a b f wa lr nd dg T N S C B O ch PC SF BF ps sc bc hh) (fun v M' => v = some .null ∧ M' = WorldM w a b f wa lr nd dg T N S C B O ch PC SF BF ps sc bc hh) noX := by
  refine Mt.of (L := [some (.ref (w 0)), some (.int q)]) rfl (by decide) (by simp [lg_sl, Value.category]) ⟨rfl, rfl, trivial⟩ (fun sz => ?_)
  refine v_iload_n (pc := 0) dX4_sleighAt_0 rfl rfl ?_
  refine v_if_lt (pc := 1) (tgt := 26) dX4_sleighAt_1 (by decide) (fun c1 => ?_) (fun c1 => ?_)
  · refine v_null (pc := 26) dX4_sleighAt_26 ?_
    refine v_aret (pc := 27) rfl (Or.inl ⟨_, rfl⟩) (Or.inl rfl) (Nat.le_of_ble_eq_true rfl) dX4_sleighAt_27 ?_
    exact ⟨rfl, rfl⟩
  · refine v_iload_n (pc := 4) dX4_sleighAt_4 rfl rfl ?_
    refine v_aload_nR (pc := 5) dX4_sleighAt_5 rfl rfl ?_
    refine v_get (pc := 6) 6 0 fg_X4_57 rfl rfl dX4_sleighAt_6 ?_
    refine v_icmp_ge (pc := 9) (tgt := 26) dX4_sleighAt_9 (by decide) (fun c9 => ?_) (fun c9 => ?_)
    · refine v_null (pc := 26) dX4_sleighAt_26 ?_
      refine v_aret (pc := 27) rfl (Or.inl ⟨_, rfl⟩) (Or.inl rfl) (Nat.le_of_ble_eq_true rfl) dX4_sleighAt_27 ?_
      exact ⟨rfl, rfl⟩
    · refine v_iload_n (pc := 12) dX4_sleighAt_12 rfl rfl ?_
      refine v_iconst (pc := 13) (v := 5) dX4_sleighAt_13 rfl ?_
      refine v_icmp_ge (pc := 14) (tgt := 26) dX4_sleighAt_14 (by decide) (fun c14 => ?_) (fun c14 => absurd ⟨Int32.not_lt.mp c1, Int32.not_le.mp c9⟩ hq)
      refine v_null (pc := 26) dX4_sleighAt_26 ?_
      refine v_aret (pc := 27) rfl (Or.inl ⟨_, rfl⟩) (Or.inl rfl) (Nat.le_of_ble_eq_true rfl) dX4_sleighAt_27 ?_
      exact ⟨rfl, rfl⟩
set_option maxRecDepth 100000 in
set_option maxHeartbeats 4000000 in
theorem c_X4_bagAt_k {G : Cx} {w : Nat → Nat} {a b f : Nat → Int32} {wa : Int32} {lr : Value} {nd dg : Int32} {T N S C B O : Nat → Int32} {ch : Int32} {PC : Nat → Int32} {SF BF : Nat → Nat → Int32} {ps sc bc hh : Nat} (hps : ps ≤ 8) (hsc : sc ≤ 5) (hbc : bc ≤ 40) {k : Nat} (hk : k < bc) : Mt G Y_X4_bagAt 0 0 0 [.ref (w 0), .int (nI k)] (WorldM w a b f wa lr nd dg T N S C B O ch PC SF BF ps sc bc hh) (fun v M' => v = some (.ref (sB w k)) ∧ M' = WorldM w a b f wa lr nd dg T N S C B O ch PC SF BF ps sc bc hh) noX := by
  refine Mt.of (L := [some (.ref (w 0)), some (.int (nI k))]) rfl (by decide) (by simp [lg_sl, Value.category]) ⟨rfl, rfl, trivial⟩ (fun sz => ?_)
  refine v_iload_n (pc := 0) dX4_bagAt_0 rfl rfl ?_
  refine v_if_lt (pc := 1) (tgt := 27) dX4_bagAt_1 (by decide) (fun c1 => absurd c1 (nI_pos (by omega))) (fun c1 => ?_)
  have c1 : ¬ k < 0 := fun h => c1 ((nI_ltI (a := k) (b := 0) (by omega) (by omega)).mpr h)
  refine v_iload_n (pc := 4) dX4_bagAt_4 rfl rfl ?_
  refine v_aload_nR (pc := 5) dX4_bagAt_5 rfl rfl ?_
  refine v_get (pc := 6) 7 0 fg_X4_71 rfl rfl dX4_bagAt_6 ?_
  refine v_icmp_ge (pc := 9) (tgt := 27) dX4_bagAt_9 (by decide) (fun c9 => absurd c9 (nI_ge (a := k) (b := bc) hk (by omega))) (fun c9 => ?_)
  have c9 : ¬ bc ≤ k := fun h => c9 ((nI_leI (a := bc) (b := k) (by omega) (by omega)).mpr h)
  refine v_iload_n (pc := 12) dX4_bagAt_12 rfl rfl ?_
  refine v_bipush (pc := 13) (v := 40) dX4_bagAt_13 rfl ?_
  refine v_icmp_ge (pc := 15) (tgt := 27) dX4_bagAt_15 (by decide) (fun c15 => absurd c15 (nI_ge (a := k) (b := 40) (by omega) (by omega))) (fun c15 => ?_)
  have c15 : ¬ 40 ≤ k := fun h => c15 ((nI_leI (a := 40) (b := k) (by omega) (by omega)).mpr h)
  refine v_aload_nR (pc := 18) dX4_bagAt_18 rfl rfl ?_
  refine v_get (pc := 19) 4 0 fg_X4_37 rfl rfl dX4_bagAt_19 ?_
  refine v_iload_n (pc := 22) dX4_bagAt_22 rfl rfl ?_
  refine v_aaldS (pc := 23) 14 (k := k) (by decide) rfl (by omega) (by decide) dX4_bagAt_23 ?_
  refine v_goto (pc := 24) (tgt := 28) dX4_bagAt_24 (by decide) ?_
  refine v_aret (pc := 28) rfl (Or.inl ⟨_, rfl⟩) (Or.inr ⟨_, rfl⟩) (Nat.le_of_ble_eq_true rfl) dX4_bagAt_28 ?_
  exact ⟨rfl, rfl⟩
set_option maxRecDepth 100000 in
set_option maxHeartbeats 4000000 in
theorem c_X4_bagAt_n {G : Cx} {w : Nat → Nat} {a b f : Nat → Int32} {wa : Int32} {lr : Value} {nd dg : Int32} {T N S C B O : Nat → Int32} {ch : Int32} {PC : Nat → Int32} {SF BF : Nat → Nat → Int32} {ps sc bc hh : Nat} (hps : ps ≤ 8) (hsc : sc ≤ 5) (hbc : bc ≤ 40) {q : Int32} (hq : ¬ (0 ≤ q ∧ q < nI bc)) : Mt G Y_X4_bagAt 0 0 0 [.ref (w 0), .int q] (WorldM w a b f wa lr nd dg T N S C B O ch PC SF BF ps sc bc hh) (fun v M' => v = some .null ∧ M' = WorldM w a b f wa lr nd dg T N S C B O ch PC SF BF ps sc bc hh) noX := by
  refine Mt.of (L := [some (.ref (w 0)), some (.int q)]) rfl (by decide) (by simp [lg_sl, Value.category]) ⟨rfl, rfl, trivial⟩ (fun sz => ?_)
  refine v_iload_n (pc := 0) dX4_bagAt_0 rfl rfl ?_
  refine v_if_lt (pc := 1) (tgt := 27) dX4_bagAt_1 (by decide) (fun c1 => ?_) (fun c1 => ?_)
  · refine v_null (pc := 27) dX4_bagAt_27 ?_
    refine v_aret (pc := 28) rfl (Or.inl ⟨_, rfl⟩) (Or.inl rfl) (Nat.le_of_ble_eq_true rfl) dX4_bagAt_28 ?_
    exact ⟨rfl, rfl⟩
  · refine v_iload_n (pc := 4) dX4_bagAt_4 rfl rfl ?_
    refine v_aload_nR (pc := 5) dX4_bagAt_5 rfl rfl ?_
    refine v_get (pc := 6) 7 0 fg_X4_71 rfl rfl dX4_bagAt_6 ?_
    refine v_icmp_ge (pc := 9) (tgt := 27) dX4_bagAt_9 (by decide) (fun c9 => ?_) (fun c9 => ?_)
    · refine v_null (pc := 27) dX4_bagAt_27 ?_
      refine v_aret (pc := 28) rfl (Or.inl ⟨_, rfl⟩) (Or.inl rfl) (Nat.le_of_ble_eq_true rfl) dX4_bagAt_28 ?_
      exact ⟨rfl, rfl⟩
    · refine v_iload_n (pc := 12) dX4_bagAt_12 rfl rfl ?_
      refine v_bipush (pc := 13) (v := 40) dX4_bagAt_13 rfl ?_
      refine v_icmp_ge (pc := 15) (tgt := 27) dX4_bagAt_15 (by decide) (fun c15 => ?_) (fun c15 => absurd ⟨Int32.not_lt.mp c1, Int32.not_le.mp c9⟩ hq)
      refine v_null (pc := 27) dX4_bagAt_27 ?_
      refine v_aret (pc := 28) rfl (Or.inl ⟨_, rfl⟩) (Or.inl rfl) (Nat.le_of_ble_eq_true rfl) dX4_bagAt_28 ?_
      exact ⟨rfl, rfl⟩
