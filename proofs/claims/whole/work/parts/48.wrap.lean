/-! the law's own calls of the class: code, value -/
theorem nc_ISX_IAX : (ISX, IAX) ∈ NC := .head _
theorem nc_IOX_IAX : (IOX, IAX) ∈ NC := .tail _ (.head _)
theorem nc_IAX_ISX : (IAX, ISX) ∈ NC := .tail _ (.tail _ (.head _))
theorem nc_IOX_ISX : (IOX, ISX) ∈ NC := .tail _ (.tail _ (.tail _ (.head _)))
theorem nc_IAX_IOX : (IAX, IOX) ∈ NC := .tail _ (.tail _ (.tail _ (.tail _ (.head _))))
theorem nc_ISX_IOX : (ISX, IOX) ∈ NC := .tail _ (.tail _ (.tail _ (.tail _ (.tail _ (.head _)))))
set_option maxRecDepth 100000 in
set_option maxHeartbeats 4000000 in
theorem c_L_setSnow {G : Cx} {w : Nat → Nat} {a b f : Nat → Int32} {wa : Int32} {lr : Value} {nd dg : Int32} {T N S C B O : Nat → Int32} {ch : Int32} {PC : Nat → Int32} {SF BF : Nat → Nat → Int32} {ps sc bc hh : Nat} {g0 u0 : Nat} (hps : ps ≤ 8) (hsc : sc ≤ 5) (hbc : bc ≤ 40) {x y s : Int32} {y0 : Nat} {o : Nat → Int64} : Mt G Y_L_setSnow 8 1 6 [.ref g0, .int x, .int y, .int s, .ref y0] ((eO 5 g0 [.ref (w 0), .ref u0] :: WorldM w a b f wa lr nd dg T N S C B O ch PC SF BF ps sc bc hh) ++ [eJ y0 1 o]) (fun v M' => v = some (.int ((rSn N x y s).1)) ∧ ∃ o' : Nat → Int64, ((rSn N x y s).1 = 0 → o' 0 = ((rSn N x y s).2.1).toInt64) ∧ M' = eO 5 g0 [.ref (w 0), .ref u0] :: WorldM w a b f wa lr nd dg T (rSn N x y s).2.2 S C B O ch PC SF BF ps sc bc hh ++ [eJ y0 1 o']) noX := by
  refine Mt.ofH (L := [some (.ref g0), some (.int x), some (.int y), some (.int s), some (.ref y0), none]) rfl (by decide) (by simp [lg_sl, Value.category]) ⟨rfl, rfl, rfl, rfl, rfl, trivial⟩ (fun sz => ?_)
  refine v_aloadR (pc := 0) dL_setSnow_0 rfl ?_
  refine v_iconst (pc := 2) (v := 0) dL_setSnow_2 rfl ?_
  refine v_aload_nR (pc := 3) dL_setSnow_3 rfl rfl ?_
  refine v_iload_n (pc := 4) dL_setSnow_4 rfl rfl ?_
  refine v_iload_n (pc := 5) dL_setSnow_5 rfl rfl ?_
  refine v_iload_n (pc := 6) dL_setSnow_6 rfl rfl ?_
  refine v_callVX3 (pc := 7) (c_X5_setSnow hps hsc hbc) cm_X5_setSnow q429 q430 q431 (ci := 5) rfl rfl (orcO 0 rfl) [0, 1, 2, 3, 4, 5, 6, 7, 8, 9, 10, 11, 12, 13, 14, 15, 16, 17] (by rfl) (by decide) (by decide) (by decide) (by decide) (Nat.le_of_ble_eq_true rfl) dL_setSnow_7 (fun v9 M9 hQ => ?_) (fun E9 M9 hX => ?_)
  · obtain ⟨h0, rfl, rfl⟩ := hQ
    try dsimp only [wb, LakeM, WaysM, WorldM, List.set_cons_succ, List.set_cons_zero, List.append_nil, List.nil_append, List.cons_append, Option.toList, Nat.sub_zero]
    refine v_i2l (pc := 10) dL_setSnow_10 ?_
    refine v_last (pc := 11) 18 rfl (by unfold vp_in; decide) dL_setSnow_11 ?_
    try dsimp only [wb, LakeM, WaysM, WorldM, List.set_cons_succ, List.set_cons_zero, List.append_nil, List.nil_append, List.cons_append, Option.toList, Nat.sub_zero]
    refine v_goto (pc := 12) (tgt := 23) dL_setSnow_12 (by decide) ?_
    refine v_iconst (pc := 23) (v := 0) dL_setSnow_23 rfl ?_
    refine v_iret (pc := 24) rfl rfl (Nat.le_of_ble_eq_true rfl) dL_setSnow_24 ?_
    exact ⟨by rw [h0], _, fun _ => by rw [cl0]; exact if_pos rfl, rfl⟩
  · obtain ⟨rfl, hE⟩ := hX
    try dsimp only [wb, LakeM, WaysM, WorldM, List.set_cons_succ, List.set_cons_zero, List.append_nil, List.nil_append, List.cons_append, Option.toList, Nat.sub_zero]
    rcases hE with ⟨rfl, h1⟩ | ⟨rfl, h1⟩
    · refine v_catch [] (⟨0, 12, 15, 21⟩ : ExceptionTableEntry) [(⟨0, 12, 19, 13⟩ : ExceptionTableEntry)] rfl (fun z9 hz => by cases hz) (by decide) (by decide) q428 q435 (fun q9 => ?_)
      refine v_astoreR (pc := 15) dL_setSnow_15 (by decide) rfl ?_
      refine v_iconst (pc := 17) (v := 1) dL_setSnow_17 rfl ?_
      refine v_iret (pc := 18) rfl rfl (Nat.le_of_ble_eq_true rfl) dL_setSnow_18 ?_
      exact ⟨by rw [h1], o, fun h => absurd (h1.symm.trans h) (by decide), rfl⟩
    · refine v_catch [(⟨0, 12, 15, 21⟩ : ExceptionTableEntry)] (⟨0, 12, 19, 13⟩ : ExceptionTableEntry) [] rfl (fun z9 hz => by simp only [List.mem_cons, List.not_mem_nil, or_false] at hz; rcases hz with rfl <;> first | exact ⟨by decide, _, q428, nc_IAX_IOX⟩) (by decide) (by decide) q303 q320 (fun q9 => ?_)
      refine v_astoreR (pc := 19) dL_setSnow_19 (by decide) rfl ?_
      refine v_iconst (pc := 21) (v := 2) dL_setSnow_21 rfl ?_
      refine v_iret (pc := 22) rfl rfl (Nat.le_of_ble_eq_true rfl) dL_setSnow_22 ?_
      exact ⟨by rw [h1], o, fun h => absurd (h1.symm.trans h) (by decide), rfl⟩
set_option maxRecDepth 100000 in
set_option maxHeartbeats 4000000 in
theorem c_L_setCold {G : Cx} {w : Nat → Nat} {a b f : Nat → Int32} {wa : Int32} {lr : Value} {nd dg : Int32} {T N S C B O : Nat → Int32} {ch : Int32} {PC : Nat → Int32} {SF BF : Nat → Nat → Int32} {ps sc bc hh : Nat} {g0 u0 : Nat} (hps : ps ≤ 8) (hsc : sc ≤ 5) (hbc : bc ≤ 40) {q c : Int32} {y0 : Nat} {o : Nat → Int64} : Mt G Y_L_setCold 8 1 6 [.ref g0, .int q, .int c, .ref y0] ((eO 5 g0 [.ref (w 0), .ref u0] :: WorldM w a b f wa lr nd dg T N S C B O ch PC SF BF ps sc bc hh) ++ [eJ y0 1 o]) (fun v M' => v = some (.int ((rCo O q c).1)) ∧ ∃ o' : Nat → Int64, ((rCo O q c).1 = 0 → o' 0 = ((rCo O q c).2.1).toInt64) ∧ M' = eO 5 g0 [.ref (w 0), .ref u0] :: WorldM w a b f wa lr nd dg T N S C B (rCo O q c).2.2 ch PC SF BF ps sc bc hh ++ [eJ y0 1 o']) noX := by
  refine Mt.ofH (L := [some (.ref g0), some (.int q), some (.int c), some (.ref y0), none]) rfl (by decide) (by simp [lg_sl, Value.category]) ⟨rfl, rfl, rfl, rfl, trivial⟩ (fun sz => ?_)
  refine v_aload_nR (pc := 0) dL_setCold_0 rfl rfl ?_
  refine v_iconst (pc := 1) (v := 0) dL_setCold_1 rfl ?_
  refine v_aload_nR (pc := 2) dL_setCold_2 rfl rfl ?_
  refine v_iload_n (pc := 3) dL_setCold_3 rfl rfl ?_
  refine v_iload_n (pc := 4) dL_setCold_4 rfl rfl ?_
  refine v_callVX2 (pc := 5) (c_X5_setCold hps hsc hbc) cm_X5_setCold q461 q462 q463 (ci := 5) rfl rfl (orcO 0 rfl) [0, 1, 2, 3, 4, 5, 6, 7, 8, 9, 10, 11, 12, 13, 14, 15, 16, 17] (by rfl) (by decide) (by decide) (by decide) (by decide) (Nat.le_of_ble_eq_true rfl) dL_setCold_5 (fun v9 M9 hQ => ?_) (fun E9 M9 hX => ?_)
  · obtain ⟨h0, rfl, rfl⟩ := hQ
    try dsimp only [wb, LakeM, WaysM, WorldM, List.set_cons_succ, List.set_cons_zero, List.append_nil, List.nil_append, List.cons_append, Option.toList, Nat.sub_zero]
    refine v_i2l (pc := 8) dL_setCold_8 ?_
    refine v_last (pc := 9) 18 rfl (by unfold vp_in; decide) dL_setCold_9 ?_
    try dsimp only [wb, LakeM, WaysM, WorldM, List.set_cons_succ, List.set_cons_zero, List.append_nil, List.nil_append, List.cons_append, Option.toList, Nat.sub_zero]
    refine v_goto (pc := 10) (tgt := 21) dL_setCold_10 (by decide) ?_
    refine v_iconst (pc := 21) (v := 0) dL_setCold_21 rfl ?_
    refine v_iret (pc := 22) rfl rfl (Nat.le_of_ble_eq_true rfl) dL_setCold_22 ?_
    exact ⟨by rw [h0], _, fun _ => by rw [cl0]; exact if_pos rfl, rfl⟩
  · obtain ⟨rfl, hE⟩ := hX
    try dsimp only [wb, LakeM, WaysM, WorldM, List.set_cons_succ, List.set_cons_zero, List.append_nil, List.nil_append, List.cons_append, Option.toList, Nat.sub_zero]
    rcases hE with ⟨rfl, h1⟩ | ⟨rfl, h1⟩
    · refine v_catch [] (⟨0, 10, 13, 21⟩ : ExceptionTableEntry) [(⟨0, 10, 17, 13⟩ : ExceptionTableEntry)] rfl (fun z9 hz => by cases hz) (by decide) (by decide) q428 q435 (fun q9 => ?_)
      refine v_astoreR (pc := 13) dL_setCold_13 (by decide) rfl ?_
      refine v_iconst (pc := 15) (v := 1) dL_setCold_15 rfl ?_
      refine v_iret (pc := 16) rfl rfl (Nat.le_of_ble_eq_true rfl) dL_setCold_16 ?_
      exact ⟨by rw [h1], o, fun h => absurd (h1.symm.trans h) (by decide), rfl⟩
    · refine v_catch [(⟨0, 10, 13, 21⟩ : ExceptionTableEntry)] (⟨0, 10, 17, 13⟩ : ExceptionTableEntry) [] rfl (fun z9 hz => by simp only [List.mem_cons, List.not_mem_nil, or_false] at hz; rcases hz with rfl <;> first | exact ⟨by decide, _, q428, nc_IAX_IOX⟩) (by decide) (by decide) q303 q320 (fun q9 => ?_)
      refine v_astoreR (pc := 17) dL_setCold_17 (by decide) rfl ?_
      refine v_iconst (pc := 19) (v := 2) dL_setCold_19 rfl ?_
      refine v_iret (pc := 20) rfl rfl (Nat.le_of_ble_eq_true rfl) dL_setCold_20 ?_
      exact ⟨by rw [h1], o, fun h => absurd (h1.symm.trans h) (by decide), rfl⟩
set_option maxRecDepth 100000 in
set_option maxHeartbeats 4000000 in
theorem c_L_cell {G : Cx} {w : Nat → Nat} {a b f : Nat → Int32} {wa : Int32} {lr : Value} {nd dg : Int32} {T N S C B O : Nat → Int32} {ch : Int32} {PC : Nat → Int32} {SF BF : Nat → Nat → Int32} {ps sc bc hh : Nat} {g0 u0 : Nat} (hps : ps ≤ 8) (hsc : sc ≤ 5) (hbc : bc ≤ 40) {x y q : Int32} {y0 : Nat} {o : Nat → Int64} : Mt G Y_L_cell 8 1 6 [.ref g0, .int x, .int y, .int q, .ref y0] ((eO 5 g0 [.ref (w 0), .ref u0] :: WorldM w a b f wa lr nd dg T N S C B O ch PC SF BF ps sc bc hh) ++ [eJ y0 1 o]) (fun v M' => v = some (.int ((rCe T N S C PC SF ps sc x y q).1)) ∧ ∃ o' : Nat → Int64, ((rCe T N S C PC SF ps sc x y q).1 = 0 → o' 0 = ((rCe T N S C PC SF ps sc x y q).2).toInt64) ∧ M' = eO 5 g0 [.ref (w 0), .ref u0] :: WorldM w a b f wa lr nd dg T N S C B O ch PC SF BF ps sc bc hh ++ [eJ y0 1 o']) noX := by
  refine Mt.ofH (L := [some (.ref g0), some (.int x), some (.int y), some (.int q), some (.ref y0), none]) rfl (by decide) (by simp [lg_sl, Value.category]) ⟨rfl, rfl, rfl, rfl, rfl, trivial⟩ (fun sz => ?_)
  refine v_aloadR (pc := 0) dL_cell_0 rfl ?_
  refine v_iconst (pc := 2) (v := 0) dL_cell_2 rfl ?_
  refine v_aload_nR (pc := 3) dL_cell_3 rfl rfl ?_
  refine v_iload_n (pc := 4) dL_cell_4 rfl rfl ?_
  refine v_iload_n (pc := 5) dL_cell_5 rfl rfl ?_
  refine v_iload_n (pc := 6) dL_cell_6 rfl rfl ?_
  refine v_callVX3 (pc := 7) (c_X5_cell hps hsc hbc) cm_X5_cell q470 q471 q472 (ci := 5) rfl rfl (orcO 0 rfl) [0, 1, 2, 3, 4, 5, 6, 7, 8, 9, 10, 11, 12, 13, 14, 15, 16, 17] (by rfl) (by decide) (by decide) (by decide) (by decide) (Nat.le_of_ble_eq_true rfl) dL_cell_7 (fun v9 M9 hQ => ?_) (fun E9 M9 hX => ?_)
  · obtain ⟨h0, rfl, rfl⟩ := hQ
    try dsimp only [wb, LakeM, WaysM, WorldM, List.set_cons_succ, List.set_cons_zero, List.append_nil, List.nil_append, List.cons_append, Option.toList, Nat.sub_zero]
    refine v_i2l (pc := 10) dL_cell_10 ?_
    refine v_last (pc := 11) 18 rfl (by unfold vp_in; decide) dL_cell_11 ?_
    try dsimp only [wb, LakeM, WaysM, WorldM, List.set_cons_succ, List.set_cons_zero, List.append_nil, List.nil_append, List.cons_append, Option.toList, Nat.sub_zero]
    refine v_goto (pc := 12) (tgt := 19) dL_cell_12 (by decide) ?_
    refine v_iconst (pc := 19) (v := 0) dL_cell_19 rfl ?_
    refine v_iret (pc := 20) rfl rfl (Nat.le_of_ble_eq_true rfl) dL_cell_20 ?_
    exact ⟨by rw [h0], _, fun _ => by rw [cl0]; exact if_pos rfl, rfl⟩
  · obtain ⟨rfl, ⟨rfl, h1⟩⟩ := hX
    try dsimp only [wb, LakeM, WaysM, WorldM, List.set_cons_succ, List.set_cons_zero, List.append_nil, List.nil_append, List.cons_append, Option.toList, Nat.sub_zero]
    refine v_catch [] (⟨0, 12, 15, 21⟩ : ExceptionTableEntry) [] rfl (fun z9 hz => by cases hz) (by decide) (by decide) q428 q435 (fun q9 => ?_)
    refine v_astoreR (pc := 15) dL_cell_15 (by decide) rfl ?_
    refine v_iconst (pc := 17) (v := 1) dL_cell_17 rfl ?_
    refine v_iret (pc := 18) rfl rfl (Nat.le_of_ble_eq_true rfl) dL_cell_18 ?_
    exact ⟨by rw [h1], o, fun h => absurd (h1.symm.trans h) (by decide), rfl⟩
set_option maxRecDepth 100000 in
set_option maxHeartbeats 4000000 in
theorem c_L_addPost {G : Cx} {w : Nat → Nat} {a b f : Nat → Int32} {wa : Int32} {lr : Value} {nd dg : Int32} {T N S C B O : Nat → Int32} {ch : Int32} {PC : Nat → Int32} {SF BF : Nat → Nat → Int32} {ps sc bc hh : Nat} {g0 u0 : Nat} (hps : ps ≤ 8) (hsc : sc ≤ 5) (hbc : bc ≤ 40) {x y : Int32} {y0 : Nat} {o : Nat → Int64} : Mt G Y_L_addPost 8 1 6 [.ref g0, .int x, .int y, .ref y0] ((eO 5 g0 [.ref (w 0), .ref u0] :: WorldM w a b f wa lr nd dg T N S C B O ch PC SF BF ps sc bc hh) ++ [eJ y0 1 o]) (fun v M' => v = some (.int ((rAP T S C PC ps ch x y).1)) ∧ ∃ o' : Nat → Int64, ((rAP T S C PC ps ch x y).1 = 0 → o' 0 = ((rAP T S C PC ps ch x y).2.1).toInt64) ∧ M' = eO 5 g0 [.ref (w 0), .ref u0] :: WorldM w a b f wa lr nd dg (rAP T S C PC ps ch x y).2.2.1 N (rAP T S C PC ps ch x y).2.2.2.1 (rAP T S C PC ps ch x y).2.2.2.2.1 B O (rAP T S C PC ps ch x y).2.2.2.2.2.2.2 (rAP T S C PC ps ch x y).2.2.2.2.2.1 SF BF (rAP T S C PC ps ch x y).2.2.2.2.2.2.1 sc bc hh ++ [eJ y0 1 o']) noX := by
  refine Mt.ofH (L := [some (.ref g0), some (.int x), some (.int y), some (.ref y0), none]) rfl (by decide) (by simp [lg_sl, Value.category]) ⟨rfl, rfl, rfl, rfl, trivial⟩ (fun sz => ?_)
  refine v_aload_nR (pc := 0) dL_addPost_0 rfl rfl ?_
  refine v_iconst (pc := 1) (v := 0) dL_addPost_1 rfl ?_
  refine v_aload_nR (pc := 2) dL_addPost_2 rfl rfl ?_
  refine v_iload_n (pc := 3) dL_addPost_3 rfl rfl ?_
  refine v_iload_n (pc := 4) dL_addPost_4 rfl rfl ?_
  refine v_callVX2 (pc := 5) (c_X5_addPost hps hsc hbc) cm_X5_addPost q495 q496 q497 (ci := 5) rfl rfl (orcO 0 rfl) [0, 1, 2, 3, 4, 5, 6, 7, 8, 9, 10, 11, 12, 13, 14, 15, 16, 17] (by rfl) (by decide) (by decide) (by decide) (by decide) (Nat.le_of_ble_eq_true rfl) dL_addPost_5 (fun v9 M9 hQ => ?_) (fun E9 M9 hX => ?_)
  · obtain ⟨h0, rfl, rfl⟩ := hQ
    try dsimp only [wb, LakeM, WaysM, WorldM, List.set_cons_succ, List.set_cons_zero, List.append_nil, List.nil_append, List.cons_append, Option.toList, Nat.sub_zero]
    refine v_i2l (pc := 8) dL_addPost_8 ?_
    refine v_last (pc := 9) 18 rfl (by unfold vp_in; decide) dL_addPost_9 ?_
    try dsimp only [wb, LakeM, WaysM, WorldM, List.set_cons_succ, List.set_cons_zero, List.append_nil, List.nil_append, List.cons_append, Option.toList, Nat.sub_zero]
    refine v_goto (pc := 10) (tgt := 21) dL_addPost_10 (by decide) ?_
    refine v_iconst (pc := 21) (v := 0) dL_addPost_21 rfl ?_
    refine v_iret (pc := 22) rfl rfl (Nat.le_of_ble_eq_true rfl) dL_addPost_22 ?_
    exact ⟨by rw [h0], _, fun _ => by rw [cl0]; exact if_pos rfl, rfl⟩
  · obtain ⟨rfl, hE⟩ := hX
    try dsimp only [wb, LakeM, WaysM, WorldM, List.set_cons_succ, List.set_cons_zero, List.append_nil, List.nil_append, List.cons_append, Option.toList, Nat.sub_zero]
    rcases hE with ⟨rfl, h1⟩ | ⟨rfl, h1⟩
    · refine v_catch [] (⟨0, 10, 13, 21⟩ : ExceptionTableEntry) [(⟨0, 10, 17, 15⟩ : ExceptionTableEntry)] rfl (fun z9 hz => by cases hz) (by decide) (by decide) q428 q435 (fun q9 => ?_)
      refine v_astoreR (pc := 13) dL_addPost_13 (by decide) rfl ?_
      refine v_iconst (pc := 15) (v := 1) dL_addPost_15 rfl ?_
      refine v_iret (pc := 16) rfl rfl (Nat.le_of_ble_eq_true rfl) dL_addPost_16 ?_
      exact ⟨by rw [h1], o, fun h => absurd (h1.symm.trans h) (by decide), rfl⟩
    · refine v_catch [(⟨0, 10, 13, 21⟩ : ExceptionTableEntry)] (⟨0, 10, 17, 15⟩ : ExceptionTableEntry) [] rfl (fun z9 hz => by simp only [List.mem_cons, List.not_mem_nil, or_false] at hz; rcases hz with rfl <;> first | exact ⟨by decide, _, q428, nc_ISX_IOX⟩) (by decide) (by decide) q304 q403 (fun q9 => ?_)
      refine v_astoreR (pc := 17) dL_addPost_17 (by decide) rfl ?_
      refine v_iconst (pc := 19) (v := 2) dL_addPost_19 rfl ?_
      refine v_iret (pc := 20) rfl rfl (Nat.le_of_ble_eq_true rfl) dL_addPost_20 ?_
      exact ⟨by rw [h1], o, fun h => absurd (h1.symm.trans h) (by decide), rfl⟩
set_option maxRecDepth 100000 in
set_option maxHeartbeats 4000000 in
theorem c_L_addSleigh {G : Cx} {w : Nat → Nat} {a b f : Nat → Int32} {wa : Int32} {lr : Value} {nd dg : Int32} {T N S C B O : Nat → Int32} {ch : Int32} {PC : Nat → Int32} {SF BF : Nat → Nat → Int32} {ps sc bc hh : Nat} {g0 u0 : Nat} (hps : ps ≤ 8) (hsc : sc ≤ 5) (hbc : bc ≤ 40) {q r : Int32} {y0 : Nat} {o : Nat → Int64} : Mt G Y_L_addSleigh 8 1 6 [.ref g0, .int q, .int r, .ref y0] ((eO 5 g0 [.ref (w 0), .ref u0] :: WorldM w a b f wa lr nd dg T N S C B O ch PC SF BF ps sc bc hh) ++ [eJ y0 1 o]) (fun v M' => v = some (.int ((rAS PC SF ps sc q r).1)) ∧ ∃ o' : Nat → Int64, ((rAS PC SF ps sc q r).1 = 0 → o' 0 = ((rAS PC SF ps sc q r).2.1).toInt64) ∧ M' = eO 5 g0 [.ref (w 0), .ref u0] :: WorldM w a b f wa lr nd dg T N S C B O ch PC (rAS PC SF ps sc q r).2.2.1 BF ps (rAS PC SF ps sc q r).2.2.2 bc hh ++ [eJ y0 1 o']) noX := by
  refine Mt.ofH (L := [some (.ref g0), some (.int q), some (.int r), some (.ref y0), none]) rfl (by decide) (by simp [lg_sl, Value.category]) ⟨rfl, rfl, rfl, rfl, trivial⟩ (fun sz => ?_)
  refine v_aload_nR (pc := 0) dL_addSleigh_0 rfl rfl ?_
  refine v_iconst (pc := 1) (v := 0) dL_addSleigh_1 rfl ?_
  refine v_aload_nR (pc := 2) dL_addSleigh_2 rfl rfl ?_
  refine v_iload_n (pc := 3) dL_addSleigh_3 rfl rfl ?_
  refine v_iload_n (pc := 4) dL_addSleigh_4 rfl rfl ?_
  refine v_callVX2 (pc := 5) (c_X5_addSleigh hps hsc hbc) cm_X5_addSleigh q509 q510 q511 (ci := 5) rfl rfl (orcO 0 rfl) [0, 1, 2, 3, 4, 5, 6, 7, 8, 9, 10, 11, 12, 13, 14, 15, 16, 17] (by rfl) (by decide) (by decide) (by decide) (by decide) (Nat.le_of_ble_eq_true rfl) dL_addSleigh_5 (fun v9 M9 hQ => ?_) (fun E9 M9 hX => ?_)
  · obtain ⟨h0, rfl, rfl⟩ := hQ
    try dsimp only [wb, LakeM, WaysM, WorldM, List.set_cons_succ, List.set_cons_zero, List.append_nil, List.nil_append, List.cons_append, Option.toList, Nat.sub_zero]
    refine v_i2l (pc := 8) dL_addSleigh_8 ?_
    refine v_last (pc := 9) 18 rfl (by unfold vp_in; decide) dL_addSleigh_9 ?_
    try dsimp only [wb, LakeM, WaysM, WorldM, List.set_cons_succ, List.set_cons_zero, List.append_nil, List.nil_append, List.cons_append, Option.toList, Nat.sub_zero]
    refine v_goto (pc := 10) (tgt := 25) dL_addSleigh_10 (by decide) ?_
    refine v_iconst (pc := 25) (v := 0) dL_addSleigh_25 rfl ?_
    refine v_iret (pc := 26) rfl rfl (Nat.le_of_ble_eq_true rfl) dL_addSleigh_26 ?_
    exact ⟨by rw [h0], _, fun _ => by rw [cl0]; exact if_pos rfl, rfl⟩
  · obtain ⟨rfl, hE⟩ := hX
    try dsimp only [wb, LakeM, WaysM, WorldM, List.set_cons_succ, List.set_cons_zero, List.append_nil, List.nil_append, List.cons_append, Option.toList, Nat.sub_zero]
    rcases hE with ⟨rfl, h1⟩ | ⟨rfl, h1⟩ | ⟨rfl, h1⟩
    · refine v_catch [] (⟨0, 10, 13, 21⟩ : ExceptionTableEntry) [(⟨0, 10, 17, 13⟩ : ExceptionTableEntry), (⟨0, 10, 21, 15⟩ : ExceptionTableEntry)] rfl (fun z9 hz => by cases hz) (by decide) (by decide) q428 q435 (fun q9 => ?_)
      refine v_astoreR (pc := 13) dL_addSleigh_13 (by decide) rfl ?_
      refine v_iconst (pc := 15) (v := 1) dL_addSleigh_15 rfl ?_
      refine v_iret (pc := 16) rfl rfl (Nat.le_of_ble_eq_true rfl) dL_addSleigh_16 ?_
      exact ⟨by rw [h1], o, fun h => absurd (h1.symm.trans h) (by decide), rfl⟩
    · refine v_catch [(⟨0, 10, 13, 21⟩ : ExceptionTableEntry)] (⟨0, 10, 17, 13⟩ : ExceptionTableEntry) [(⟨0, 10, 21, 15⟩ : ExceptionTableEntry)] rfl (fun z9 hz => by simp only [List.mem_cons, List.not_mem_nil, or_false] at hz; rcases hz with rfl <;> first | exact ⟨by decide, _, q428, nc_IAX_IOX⟩) (by decide) (by decide) q303 q320 (fun q9 => ?_)
      refine v_astoreR (pc := 17) dL_addSleigh_17 (by decide) rfl ?_
      refine v_iconst (pc := 19) (v := 2) dL_addSleigh_19 rfl ?_
      refine v_iret (pc := 20) rfl rfl (Nat.le_of_ble_eq_true rfl) dL_addSleigh_20 ?_
      exact ⟨by rw [h1], o, fun h => absurd (h1.symm.trans h) (by decide), rfl⟩
    · refine v_catch [(⟨0, 10, 13, 21⟩ : ExceptionTableEntry), (⟨0, 10, 17, 13⟩ : ExceptionTableEntry)] (⟨0, 10, 21, 15⟩ : ExceptionTableEntry) [] rfl (fun z9 hz => by simp only [List.mem_cons, List.not_mem_nil, or_false] at hz; rcases hz with rfl | rfl <;> first | exact ⟨by decide, _, q428, nc_ISX_IOX⟩ | exact ⟨by decide, _, q303, nc_ISX_IAX⟩) (by decide) (by decide) q304 q403 (fun q9 => ?_)
      refine v_astoreR (pc := 21) dL_addSleigh_21 (by decide) rfl ?_
      refine v_iconst (pc := 23) (v := 3) dL_addSleigh_23 rfl ?_
      refine v_iret (pc := 24) rfl rfl (Nat.le_of_ble_eq_true rfl) dL_addSleigh_24 ?_
      exact ⟨by rw [h1], o, fun h => absurd (h1.symm.trans h) (by decide), rfl⟩
set_option maxRecDepth 100000 in
set_option maxHeartbeats 4000000 in
theorem c_L_addBag {G : Cx} {w : Nat → Nat} {a b f : Nat → Int32} {wa : Int32} {lr : Value} {nd dg : Int32} {T N S C B O : Nat → Int32} {ch : Int32} {PC : Nat → Int32} {SF BF : Nat → Nat → Int32} {ps sc bc hh : Nat} {g0 u0 : Nat} (hps : ps ≤ 8) (hsc : sc ≤ 5) (hbc : bc ≤ 40) {a1 b1 c1 : Int32} {y0 : Nat} {o : Nat → Int64} : Mt G Y_L_addBag 8 1 6 [.ref g0, .int a1, .int b1, .int c1, .ref y0] ((eO 5 g0 [.ref (w 0), .ref u0] :: WorldM w a b f wa lr nd dg T N S C B O ch PC SF BF ps sc bc hh) ++ [eJ y0 1 o]) (fun v M' => v = some (.int ((rAB BF ps bc a1 b1 c1).1)) ∧ ∃ o' : Nat → Int64, ((rAB BF ps bc a1 b1 c1).1 = 0 → o' 0 = ((rAB BF ps bc a1 b1 c1).2.1).toInt64) ∧ M' = eO 5 g0 [.ref (w 0), .ref u0] :: WorldM w a b f wa lr nd dg T N S C B O ch PC SF (rAB BF ps bc a1 b1 c1).2.2.1 ps sc (rAB BF ps bc a1 b1 c1).2.2.2 hh ++ [eJ y0 1 o']) noX := by
  refine Mt.ofH (L := [some (.ref g0), some (.int a1), some (.int b1), some (.int c1), some (.ref y0), none]) rfl (by decide) (by simp [lg_sl, Value.category]) ⟨rfl, rfl, rfl, rfl, rfl, trivial⟩ (fun sz => ?_)
  refine v_aloadR (pc := 0) dL_addBag_0 rfl ?_
  refine v_iconst (pc := 2) (v := 0) dL_addBag_2 rfl ?_
  refine v_aload_nR (pc := 3) dL_addBag_3 rfl rfl ?_
  refine v_iload_n (pc := 4) dL_addBag_4 rfl rfl ?_
  refine v_iload_n (pc := 5) dL_addBag_5 rfl rfl ?_
  refine v_iload_n (pc := 6) dL_addBag_6 rfl rfl ?_
  refine v_callVX3 (pc := 7) (c_X5_addBag hps hsc hbc) cm_X5_addBag q536 q537 q538 (ci := 5) rfl rfl (orcO 0 rfl) [0, 1, 2, 3, 4, 5, 6, 7, 8, 9, 10, 11, 12, 13, 14, 15, 16, 17] (by rfl) (by decide) (by decide) (by decide) (by decide) (Nat.le_of_ble_eq_true rfl) dL_addBag_7 (fun v9 M9 hQ => ?_) (fun E9 M9 hX => ?_)
  · obtain ⟨h0, rfl, rfl⟩ := hQ
    try dsimp only [wb, LakeM, WaysM, WorldM, List.set_cons_succ, List.set_cons_zero, List.append_nil, List.nil_append, List.cons_append, Option.toList, Nat.sub_zero]
    refine v_i2l (pc := 10) dL_addBag_10 ?_
    refine v_last (pc := 11) 18 rfl (by unfold vp_in; decide) dL_addBag_11 ?_
    try dsimp only [wb, LakeM, WaysM, WorldM, List.set_cons_succ, List.set_cons_zero, List.append_nil, List.nil_append, List.cons_append, Option.toList, Nat.sub_zero]
    refine v_goto (pc := 12) (tgt := 27) dL_addBag_12 (by decide) ?_
    refine v_iconst (pc := 27) (v := 0) dL_addBag_27 rfl ?_
    refine v_iret (pc := 28) rfl rfl (Nat.le_of_ble_eq_true rfl) dL_addBag_28 ?_
    exact ⟨by rw [h0], _, fun _ => by rw [cl0]; exact if_pos rfl, rfl⟩
  · obtain ⟨rfl, hE⟩ := hX
    try dsimp only [wb, LakeM, WaysM, WorldM, List.set_cons_succ, List.set_cons_zero, List.append_nil, List.nil_append, List.cons_append, Option.toList, Nat.sub_zero]
    rcases hE with ⟨rfl, h1⟩ | ⟨rfl, h1⟩ | ⟨rfl, h1⟩
    · refine v_catch [] (⟨0, 12, 15, 21⟩ : ExceptionTableEntry) [(⟨0, 12, 19, 13⟩ : ExceptionTableEntry), (⟨0, 12, 23, 15⟩ : ExceptionTableEntry)] rfl (fun z9 hz => by cases hz) (by decide) (by decide) q428 q435 (fun q9 => ?_)
      refine v_astoreR (pc := 15) dL_addBag_15 (by decide) rfl ?_
      refine v_iconst (pc := 17) (v := 1) dL_addBag_17 rfl ?_
      refine v_iret (pc := 18) rfl rfl (Nat.le_of_ble_eq_true rfl) dL_addBag_18 ?_
      exact ⟨by rw [h1], o, fun h => absurd (h1.symm.trans h) (by decide), rfl⟩
    · refine v_catch [(⟨0, 12, 15, 21⟩ : ExceptionTableEntry)] (⟨0, 12, 19, 13⟩ : ExceptionTableEntry) [(⟨0, 12, 23, 15⟩ : ExceptionTableEntry)] rfl (fun z9 hz => by simp only [List.mem_cons, List.not_mem_nil, or_false] at hz; rcases hz with rfl <;> first | exact ⟨by decide, _, q428, nc_IAX_IOX⟩) (by decide) (by decide) q303 q320 (fun q9 => ?_)
      refine v_astoreR (pc := 19) dL_addBag_19 (by decide) rfl ?_
      refine v_iconst (pc := 21) (v := 2) dL_addBag_21 rfl ?_
      refine v_iret (pc := 22) rfl rfl (Nat.le_of_ble_eq_true rfl) dL_addBag_22 ?_
      exact ⟨by rw [h1], o, fun h => absurd (h1.symm.trans h) (by decide), rfl⟩
    · refine v_catch [(⟨0, 12, 15, 21⟩ : ExceptionTableEntry), (⟨0, 12, 19, 13⟩ : ExceptionTableEntry)] (⟨0, 12, 23, 15⟩ : ExceptionTableEntry) [] rfl (fun z9 hz => by simp only [List.mem_cons, List.not_mem_nil, or_false] at hz; rcases hz with rfl | rfl <;> first | exact ⟨by decide, _, q428, nc_ISX_IOX⟩ | exact ⟨by decide, _, q303, nc_ISX_IAX⟩) (by decide) (by decide) q304 q403 (fun q9 => ?_)
      refine v_astoreR (pc := 23) dL_addBag_23 (by decide) rfl ?_
      refine v_iconst (pc := 25) (v := 3) dL_addBag_25 rfl ?_
      refine v_iret (pc := 26) rfl rfl (Nat.le_of_ble_eq_true rfl) dL_addBag_26 ?_
      exact ⟨by rw [h1], o, fun h => absurd (h1.symm.trans h) (by decide), rfl⟩
set_option maxRecDepth 100000 in
set_option maxHeartbeats 4000000 in
theorem c_L_count {G : Cx} {w : Nat → Nat} {a b f : Nat → Int32} {wa : Int32} {lr : Value} {nd dg : Int32} {T N S C B O : Nat → Int32} {ch : Int32} {PC : Nat → Int32} {SF BF : Nat → Nat → Int32} {ps sc bc hh : Nat} {g0 u0 : Nat} (hps : ps ≤ 8) (hsc : sc ≤ 5) (hbc : bc ≤ 40) {q : Int32} {y0 : Nat} {o : Nat → Int64} : Mt G Y_L_count 8 1 6 [.ref g0, .int q, .ref y0] ((eO 5 g0 [.ref (w 0), .ref u0] :: WorldM w a b f wa lr nd dg T N S C B O ch PC SF BF ps sc bc hh) ++ [eJ y0 1 o]) (fun v M' => v = some (.int ((rCn T C SF BF ps sc bc hh q).1)) ∧ ∃ o' : Nat → Int64, ((rCn T C SF BF ps sc bc hh q).1 = 0 → o' 0 = ((rCn T C SF BF ps sc bc hh q).2).toInt64) ∧ M' = eO 5 g0 [.ref (w 0), .ref u0] :: WorldM w a b f wa lr nd dg T N S C B O ch PC SF BF ps sc bc hh ++ [eJ y0 1 o']) noX := by
  refine Mt.ofH (L := [some (.ref g0), some (.int q), some (.ref y0), none]) rfl (by decide) (by simp [lg_sl, Value.category]) ⟨rfl, rfl, rfl, trivial⟩ (fun sz => ?_)
  refine v_aload_nR (pc := 0) dL_count_0 rfl rfl ?_
  refine v_iconst (pc := 1) (v := 0) dL_count_1 rfl ?_
  refine v_aload_nR (pc := 2) dL_count_2 rfl rfl ?_
  refine v_iload_n (pc := 3) dL_count_3 rfl rfl ?_
  refine v_callVX1 (pc := 4) (c_X5_count hps hsc hbc) cm_X5_count q736 q737 q738 (ci := 5) rfl rfl (orcO 0 rfl) [0, 1, 2, 3, 4, 5, 6, 7, 8, 9, 10, 11, 12, 13, 14, 15, 16, 17] (by rfl) (by decide) (by decide) (by decide) (by decide) (Nat.le_of_ble_eq_true rfl) dL_count_4 (fun v9 M9 hQ => ?_) (fun E9 M9 hX => ?_)
  · obtain ⟨h0, rfl, rfl⟩ := hQ
    try dsimp only [wb, LakeM, WaysM, WorldM, List.set_cons_succ, List.set_cons_zero, List.append_nil, List.nil_append, List.cons_append, Option.toList, Nat.sub_zero]
    refine v_i2l (pc := 7) dL_count_7 ?_
    refine v_last (pc := 8) 18 rfl (by unfold vp_in; decide) dL_count_8 ?_
    try dsimp only [wb, LakeM, WaysM, WorldM, List.set_cons_succ, List.set_cons_zero, List.append_nil, List.nil_append, List.cons_append, Option.toList, Nat.sub_zero]
    refine v_goto (pc := 9) (tgt := 15) dL_count_9 (by decide) ?_
    refine v_iconst (pc := 15) (v := 0) dL_count_15 rfl ?_
    refine v_iret (pc := 16) rfl rfl (Nat.le_of_ble_eq_true rfl) dL_count_16 ?_
    exact ⟨by rw [h0], _, fun _ => by rw [cl0]; exact if_pos rfl, rfl⟩
  · obtain ⟨rfl, ⟨rfl, h1⟩⟩ := hX
    try dsimp only [wb, LakeM, WaysM, WorldM, List.set_cons_succ, List.set_cons_zero, List.append_nil, List.nil_append, List.cons_append, Option.toList, Nat.sub_zero]
    refine v_catch [] (⟨0, 9, 12, 21⟩ : ExceptionTableEntry) [] rfl (fun z9 hz => by cases hz) (by decide) (by decide) q428 q435 (fun q9 => ?_)
    refine v_astore_nR (pc := 12) dL_count_12 rfl (by decide) rfl ?_
    refine v_iconst (pc := 13) (v := 1) dL_count_13 rfl ?_
    refine v_iret (pc := 14) rfl rfl (Nat.le_of_ble_eq_true rfl) dL_count_14 ?_
    exact ⟨by rw [h1], o, fun h => absurd (h1.symm.trans h) (by decide), rfl⟩
set_option maxRecDepth 100000 in
set_option maxHeartbeats 4000000 in
theorem c_L_sleigh {G : Cx} {w : Nat → Nat} {a b f : Nat → Int32} {wa : Int32} {lr : Value} {nd dg : Int32} {T N S C B O : Nat → Int32} {ch : Int32} {PC : Nat → Int32} {SF BF : Nat → Nat → Int32} {ps sc bc hh : Nat} {g0 u0 : Nat} (hps : ps ≤ 8) (hsc : sc ≤ 5) (hbc : bc ≤ 40) {s q : Int32} {y0 : Nat} {o : Nat → Int64} : Mt G Y_L_sleigh 8 1 6 [.ref g0, .int s, .int q, .ref y0] ((eO 5 g0 [.ref (w 0), .ref u0] :: WorldM w a b f wa lr nd dg T N S C B O ch PC SF BF ps sc bc hh) ++ [eJ y0 1 o]) (fun v M' => v = some (.int ((rSl SF BF sc bc s q).1)) ∧ ∃ o' : Nat → Int64, ((rSl SF BF sc bc s q).1 = 0 → o' 0 = ((rSl SF BF sc bc s q).2).toInt64) ∧ M' = eO 5 g0 [.ref (w 0), .ref u0] :: WorldM w a b f wa lr nd dg T N S C B O ch PC SF BF ps sc bc hh ++ [eJ y0 1 o']) noX := by
  refine Mt.ofH (L := [some (.ref g0), some (.int s), some (.int q), some (.ref y0), none]) rfl (by decide) (by simp [lg_sl, Value.category]) ⟨rfl, rfl, rfl, rfl, trivial⟩ (fun sz => ?_)
  refine v_aload_nR (pc := 0) dL_sleigh_0 rfl rfl ?_
  refine v_iconst (pc := 1) (v := 0) dL_sleigh_1 rfl ?_
  refine v_aload_nR (pc := 2) dL_sleigh_2 rfl rfl ?_
  refine v_iload_n (pc := 3) dL_sleigh_3 rfl rfl ?_
  refine v_iload_n (pc := 4) dL_sleigh_4 rfl rfl ?_
  refine v_callVX2 (pc := 5) (c_X5_sleigh hps hsc hbc) cm_X5_sleigh q612 q613 q614 (ci := 5) rfl rfl (orcO 0 rfl) [0, 1, 2, 3, 4, 5, 6, 7, 8, 9, 10, 11, 12, 13, 14, 15, 16, 17] (by rfl) (by decide) (by decide) (by decide) (by decide) (Nat.le_of_ble_eq_true rfl) dL_sleigh_5 (fun v9 M9 hQ => ?_) (fun E9 M9 hX => ?_)
  · obtain ⟨h0, rfl, rfl⟩ := hQ
    try dsimp only [wb, LakeM, WaysM, WorldM, List.set_cons_succ, List.set_cons_zero, List.append_nil, List.nil_append, List.cons_append, Option.toList, Nat.sub_zero]
    refine v_i2l (pc := 8) dL_sleigh_8 ?_
    refine v_last (pc := 9) 18 rfl (by unfold vp_in; decide) dL_sleigh_9 ?_
    try dsimp only [wb, LakeM, WaysM, WorldM, List.set_cons_succ, List.set_cons_zero, List.append_nil, List.nil_append, List.cons_append, Option.toList, Nat.sub_zero]
    refine v_goto (pc := 10) (tgt := 17) dL_sleigh_10 (by decide) ?_
    refine v_iconst (pc := 17) (v := 0) dL_sleigh_17 rfl ?_
    refine v_iret (pc := 18) rfl rfl (Nat.le_of_ble_eq_true rfl) dL_sleigh_18 ?_
    exact ⟨by rw [h0], _, fun _ => by rw [cl0]; exact if_pos rfl, rfl⟩
  · obtain ⟨rfl, ⟨rfl, h1⟩⟩ := hX
    try dsimp only [wb, LakeM, WaysM, WorldM, List.set_cons_succ, List.set_cons_zero, List.append_nil, List.nil_append, List.cons_append, Option.toList, Nat.sub_zero]
    refine v_catch [] (⟨0, 10, 13, 21⟩ : ExceptionTableEntry) [] rfl (fun z9 hz => by cases hz) (by decide) (by decide) q428 q435 (fun q9 => ?_)
    refine v_astoreR (pc := 13) dL_sleigh_13 (by decide) rfl ?_
    refine v_iconst (pc := 15) (v := 1) dL_sleigh_15 rfl ?_
    refine v_iret (pc := 16) rfl rfl (Nat.le_of_ble_eq_true rfl) dL_sleigh_16 ?_
    exact ⟨by rw [h1], o, fun h => absurd (h1.symm.trans h) (by decide), rfl⟩
set_option maxRecDepth 100000 in
set_option maxHeartbeats 4000000 in
theorem c_L_bag {G : Cx} {w : Nat → Nat} {a b f : Nat → Int32} {wa : Int32} {lr : Value} {nd dg : Int32} {T N S C B O : Nat → Int32} {ch : Int32} {PC : Nat → Int32} {SF BF : Nat → Nat → Int32} {ps sc bc hh : Nat} {g0 u0 : Nat} (hps : ps ≤ 8) (hsc : sc ≤ 5) (hbc : bc ≤ 40) {s q : Int32} {y0 : Nat} {o : Nat → Int64} : Mt G Y_L_bag 8 1 6 [.ref g0, .int s, .int q, .ref y0] ((eO 5 g0 [.ref (w 0), .ref u0] :: WorldM w a b f wa lr nd dg T N S C B O ch PC SF BF ps sc bc hh) ++ [eJ y0 1 o]) (fun v M' => v = some (.int ((rBg BF bc s q).1)) ∧ ∃ o' : Nat → Int64, ((rBg BF bc s q).1 = 0 → o' 0 = ((rBg BF bc s q).2).toInt64) ∧ M' = eO 5 g0 [.ref (w 0), .ref u0] :: WorldM w a b f wa lr nd dg T N S C B O ch PC SF BF ps sc bc hh ++ [eJ y0 1 o']) noX := by
  refine Mt.ofH (L := [some (.ref g0), some (.int s), some (.int q), some (.ref y0), none]) rfl (by decide) (by simp [lg_sl, Value.category]) ⟨rfl, rfl, rfl, rfl, trivial⟩ (fun sz => ?_)
  refine v_aload_nR (pc := 0) dL_bag_0 rfl rfl ?_
  refine v_iconst (pc := 1) (v := 0) dL_bag_1 rfl ?_
  refine v_aload_nR (pc := 2) dL_bag_2 rfl rfl ?_
  refine v_iload_n (pc := 3) dL_bag_3 rfl rfl ?_
  refine v_iload_n (pc := 4) dL_bag_4 rfl rfl ?_
  refine v_callVX2 (pc := 5) (c_X5_bag hps hsc hbc) cm_X5_bag q621 q622 q623 (ci := 5) rfl rfl (orcO 0 rfl) [0, 1, 2, 3, 4, 5, 6, 7, 8, 9, 10, 11, 12, 13, 14, 15, 16, 17] (by rfl) (by decide) (by decide) (by decide) (by decide) (Nat.le_of_ble_eq_true rfl) dL_bag_5 (fun v9 M9 hQ => ?_) (fun E9 M9 hX => ?_)
  · obtain ⟨h0, rfl, rfl⟩ := hQ
    try dsimp only [wb, LakeM, WaysM, WorldM, List.set_cons_succ, List.set_cons_zero, List.append_nil, List.nil_append, List.cons_append, Option.toList, Nat.sub_zero]
    refine v_i2l (pc := 8) dL_bag_8 ?_
    refine v_last (pc := 9) 18 rfl (by unfold vp_in; decide) dL_bag_9 ?_
    try dsimp only [wb, LakeM, WaysM, WorldM, List.set_cons_succ, List.set_cons_zero, List.append_nil, List.nil_append, List.cons_append, Option.toList, Nat.sub_zero]
    refine v_goto (pc := 10) (tgt := 17) dL_bag_10 (by decide) ?_
    refine v_iconst (pc := 17) (v := 0) dL_bag_17 rfl ?_
    refine v_iret (pc := 18) rfl rfl (Nat.le_of_ble_eq_true rfl) dL_bag_18 ?_
    exact ⟨by rw [h0], _, fun _ => by rw [cl0]; exact if_pos rfl, rfl⟩
  · obtain ⟨rfl, ⟨rfl, h1⟩⟩ := hX
    try dsimp only [wb, LakeM, WaysM, WorldM, List.set_cons_succ, List.set_cons_zero, List.append_nil, List.nil_append, List.cons_append, Option.toList, Nat.sub_zero]
    refine v_catch [] (⟨0, 10, 13, 21⟩ : ExceptionTableEntry) [] rfl (fun z9 hz => by cases hz) (by decide) (by decide) q428 q435 (fun q9 => ?_)
    refine v_astoreR (pc := 13) dL_bag_13 (by decide) rfl ?_
    refine v_iconst (pc := 15) (v := 1) dL_bag_15 rfl ?_
    refine v_iret (pc := 16) rfl rfl (Nat.le_of_ble_eq_true rfl) dL_bag_16 ?_
    exact ⟨by rw [h1], o, fun h => absurd (h1.symm.trans h) (by decide), rfl⟩
set_option maxRecDepth 100000 in
set_option maxHeartbeats 4000000 in
theorem c_L_load {G : Cx} {w : Nat → Nat} {a b f : Nat → Int32} {wa : Int32} {lr : Value} {nd dg : Int32} {T N S C B O : Nat → Int32} {ch : Int32} {PC : Nat → Int32} {SF BF : Nat → Nat → Int32} {ps sc bc hh : Nat} {g0 u0 : Nat} (hps : ps ≤ 8) (hsc : sc ≤ 5) (hbc : bc ≤ 40) {s b1 : Int32} {y0 : Nat} {o : Nat → Int64} : Mt G Y_L_load 8 1 6 [.ref g0, .int s, .int b1, .ref y0] ((eO 5 g0 [.ref (w 0), .ref u0] :: WorldM w a b f wa lr nd dg T N S C B O ch PC SF BF ps sc bc hh) ++ [eJ y0 1 o]) (fun v M' => v = some (.int ((rLd SF BF sc bc s b1).1)) ∧ ∃ o' : Nat → Int64, ((rLd SF BF sc bc s b1).1 = 0 → o' 0 = ((rLd SF BF sc bc s b1).2.1).toInt64) ∧ M' = eO 5 g0 [.ref (w 0), .ref u0] :: WorldM w a b f wa lr nd dg T N S C B O ch PC (rLd SF BF sc bc s b1).2.2.1 (rLd SF BF sc bc s b1).2.2.2 ps sc bc hh ++ [eJ y0 1 o']) noX := by
  refine Mt.ofH (L := [some (.ref g0), some (.int s), some (.int b1), some (.ref y0), none]) rfl (by decide) (by simp [lg_sl, Value.category]) ⟨rfl, rfl, rfl, rfl, trivial⟩ (fun sz => ?_)
  refine v_aload_nR (pc := 0) dL_load_0 rfl rfl ?_
  refine v_iconst (pc := 1) (v := 0) dL_load_1 rfl ?_
  refine v_aload_nR (pc := 2) dL_load_2 rfl rfl ?_
  refine v_iload_n (pc := 3) dL_load_3 rfl rfl ?_
  refine v_iload_n (pc := 4) dL_load_4 rfl rfl ?_
  refine v_callVX2 (pc := 5) (c_X5_load hps hsc hbc) cm_X5_load q553 q554 q555 (ci := 5) rfl rfl (orcO 0 rfl) [0, 1, 2, 3, 4, 5, 6, 7, 8, 9, 10, 11, 12, 13, 14, 15, 16, 17] (by rfl) (by decide) (by decide) (by decide) (by decide) (Nat.le_of_ble_eq_true rfl) dL_load_5 (fun v9 M9 hQ => ?_) (fun E9 M9 hX => ?_)
  · obtain ⟨h0, rfl, rfl⟩ := hQ
    try dsimp only [wb, LakeM, WaysM, WorldM, List.set_cons_succ, List.set_cons_zero, List.append_nil, List.nil_append, List.cons_append, Option.toList, Nat.sub_zero]
    refine v_i2l (pc := 8) dL_load_8 ?_
    refine v_last (pc := 9) 18 rfl (by unfold vp_in; decide) dL_load_9 ?_
    try dsimp only [wb, LakeM, WaysM, WorldM, List.set_cons_succ, List.set_cons_zero, List.append_nil, List.nil_append, List.cons_append, Option.toList, Nat.sub_zero]
    refine v_goto (pc := 10) (tgt := 21) dL_load_10 (by decide) ?_
    refine v_iconst (pc := 21) (v := 0) dL_load_21 rfl ?_
    refine v_iret (pc := 22) rfl rfl (Nat.le_of_ble_eq_true rfl) dL_load_22 ?_
    exact ⟨by rw [h0], _, fun _ => by rw [cl0]; exact if_pos rfl, rfl⟩
  · obtain ⟨rfl, hE⟩ := hX
    try dsimp only [wb, LakeM, WaysM, WorldM, List.set_cons_succ, List.set_cons_zero, List.append_nil, List.nil_append, List.cons_append, Option.toList, Nat.sub_zero]
    rcases hE with ⟨rfl, h1⟩ | ⟨rfl, h1⟩
    · refine v_catch [] (⟨0, 10, 13, 21⟩ : ExceptionTableEntry) [(⟨0, 10, 17, 15⟩ : ExceptionTableEntry)] rfl (fun z9 hz => by cases hz) (by decide) (by decide) q428 q435 (fun q9 => ?_)
      refine v_astoreR (pc := 13) dL_load_13 (by decide) rfl ?_
      refine v_iconst (pc := 15) (v := 1) dL_load_15 rfl ?_
      refine v_iret (pc := 16) rfl rfl (Nat.le_of_ble_eq_true rfl) dL_load_16 ?_
      exact ⟨by rw [h1], o, fun h => absurd (h1.symm.trans h) (by decide), rfl⟩
    · refine v_catch [(⟨0, 10, 13, 21⟩ : ExceptionTableEntry)] (⟨0, 10, 17, 15⟩ : ExceptionTableEntry) [] rfl (fun z9 hz => by simp only [List.mem_cons, List.not_mem_nil, or_false] at hz; rcases hz with rfl <;> first | exact ⟨by decide, _, q428, nc_ISX_IOX⟩) (by decide) (by decide) q304 q403 (fun q9 => ?_)
      refine v_astoreR (pc := 17) dL_load_17 (by decide) rfl ?_
      refine v_iconst (pc := 19) (v := 2) dL_load_19 rfl ?_
      refine v_iret (pc := 20) rfl rfl (Nat.le_of_ble_eq_true rfl) dL_load_20 ?_
      exact ⟨by rw [h1], o, fun h => absurd (h1.symm.trans h) (by decide), rfl⟩
set_option maxRecDepth 100000 in
set_option maxHeartbeats 4000000 in
theorem c_L_send {G : Cx} {w : Nat → Nat} {a b f : Nat → Int32} {wa : Int32} {lr : Value} {nd dg : Int32} {T N S C B O : Nat → Int32} {ch : Int32} {PC : Nat → Int32} {SF BF : Nat → Nat → Int32} {ps sc bc hh : Nat} {g0 u0 : Nat} (hps : ps ≤ 8) (hsc : sc ≤ 5) (hbc : bc ≤ 40) {s q : Int32} (hPC : ∀ k, k < 8 → 0 ≤ PC k ∧ PC k < 160) (hx : sOK SF sc) {y0 : Nat} {o : Nat → Int64} : Mt G Y_L_send 8 1 6 [.ref g0, .int s, .int q, .ref y0] ((eO 5 g0 [.ref (w 0), .ref u0] :: WorldM w a b f wa lr nd dg T N S C B O ch PC SF BF ps sc bc hh) ++ [eJ y0 1 o]) (fun v M' => v = some (.int ((rSe T N C PC SF ps sc f s q).1)) ∧ ∃ o' : Nat → Int64, ((rSe T N C PC SF ps sc f s q).1 = 0 → o' 0 = ((rSe T N C PC SF ps sc f s q).2.1).toInt64) ∧ ∃ (a' b' f' : Nat → Int32) (wa' : Int32) (lr' : Value) (nd' dg' : Int32), M' = eO 5 g0 [.ref (w 0), .ref u0] :: WorldM w a' b' f' wa' lr' nd' dg' T N S C B O ch PC (rSe T N C PC SF ps sc f s q).2.2 BF ps sc bc hh ++ [eJ y0 1 o']) noX := by
  refine Mt.ofH (L := [some (.ref g0), some (.int s), some (.int q), some (.ref y0), none]) rfl (by decide) (by simp [lg_sl, Value.category]) ⟨rfl, rfl, rfl, rfl, trivial⟩ (fun sz => ?_)
  refine v_aload_nR (pc := 0) dL_send_0 rfl rfl ?_
  refine v_iconst (pc := 1) (v := 0) dL_send_1 rfl ?_
  refine v_aload_nR (pc := 2) dL_send_2 rfl rfl ?_
  refine v_iload_n (pc := 3) dL_send_3 rfl rfl ?_
  refine v_iload_n (pc := 4) dL_send_4 rfl rfl ?_
  refine v_callVX2 (pc := 5) (c_X5_send hps hsc hbc hPC hx) cm_X5_send q565 q566 q567 (ci := 5) rfl rfl (orcO 0 rfl) [0, 1, 2, 3, 4, 5, 6, 7, 8, 9, 10, 11, 12, 13, 14, 15, 16, 17] (by rfl) (by decide) (by decide) (by decide) (by decide) (Nat.le_of_ble_eq_true rfl) dL_send_5 (fun v9 M9 hQ => ?_) (fun E9 M9 hX => ?_)
  · obtain ⟨h0, rfl, a1x, b1x, f1x, wax, lrx, ndx, dgx, rfl⟩ := hQ
    try dsimp only [wb, LakeM, WaysM, WorldM, List.set_cons_succ, List.set_cons_zero, List.append_nil, List.nil_append, List.cons_append, Option.toList, Nat.sub_zero]
    refine v_i2l (pc := 8) dL_send_8 ?_
    refine v_last (pc := 9) 18 rfl (by unfold vp_in; decide) dL_send_9 ?_
    try dsimp only [wb, LakeM, WaysM, WorldM, List.set_cons_succ, List.set_cons_zero, List.append_nil, List.nil_append, List.cons_append, Option.toList, Nat.sub_zero]
    refine v_goto (pc := 10) (tgt := 25) dL_send_10 (by decide) ?_
    refine v_iconst (pc := 25) (v := 0) dL_send_25 rfl ?_
    refine v_iret (pc := 26) rfl rfl (Nat.le_of_ble_eq_true rfl) dL_send_26 ?_
    exact ⟨by rw [h0], _, fun _ => by rw [cl0]; exact if_pos rfl, _, _, _, _, _, _, _, rfl⟩
  · obtain ⟨rfl, hE⟩ := hX
    try dsimp only [wb, LakeM, WaysM, WorldM, List.set_cons_succ, List.set_cons_zero, List.append_nil, List.nil_append, List.cons_append, Option.toList, Nat.sub_zero]
    rcases hE with ⟨rfl, h1⟩ | ⟨rfl, h1⟩ | ⟨rfl, h1⟩
    · refine v_catch [] (⟨0, 10, 13, 21⟩ : ExceptionTableEntry) [(⟨0, 10, 17, 13⟩ : ExceptionTableEntry), (⟨0, 10, 21, 15⟩ : ExceptionTableEntry)] rfl (fun z9 hz => by cases hz) (by decide) (by decide) q428 q435 (fun q9 => ?_)
      refine v_astoreR (pc := 13) dL_send_13 (by decide) rfl ?_
      refine v_iconst (pc := 15) (v := 1) dL_send_15 rfl ?_
      refine v_iret (pc := 16) rfl rfl (Nat.le_of_ble_eq_true rfl) dL_send_16 ?_
      exact ⟨by rw [h1], o, fun h => absurd (h1.symm.trans h) (by decide), _, _, _, _, _, _, _, rfl⟩
    · refine v_catch [(⟨0, 10, 13, 21⟩ : ExceptionTableEntry)] (⟨0, 10, 17, 13⟩ : ExceptionTableEntry) [(⟨0, 10, 21, 15⟩ : ExceptionTableEntry)] rfl (fun z9 hz => by simp only [List.mem_cons, List.not_mem_nil, or_false] at hz; rcases hz with rfl <;> first | exact ⟨by decide, _, q428, nc_IAX_IOX⟩) (by decide) (by decide) q303 q320 (fun q9 => ?_)
      refine v_astoreR (pc := 17) dL_send_17 (by decide) rfl ?_
      refine v_iconst (pc := 19) (v := 2) dL_send_19 rfl ?_
      refine v_iret (pc := 20) rfl rfl (Nat.le_of_ble_eq_true rfl) dL_send_20 ?_
      exact ⟨by rw [h1], o, fun h => absurd (h1.symm.trans h) (by decide), _, _, _, _, _, _, _, rfl⟩
    · refine v_catch [(⟨0, 10, 13, 21⟩ : ExceptionTableEntry), (⟨0, 10, 17, 13⟩ : ExceptionTableEntry)] (⟨0, 10, 21, 15⟩ : ExceptionTableEntry) [] rfl (fun z9 hz => by simp only [List.mem_cons, List.not_mem_nil, or_false] at hz; rcases hz with rfl | rfl <;> first | exact ⟨by decide, _, q428, nc_ISX_IOX⟩ | exact ⟨by decide, _, q303, nc_ISX_IAX⟩) (by decide) (by decide) q304 q403 (fun q9 => ?_)
      refine v_astoreR (pc := 21) dL_send_21 (by decide) rfl ?_
      refine v_iconst (pc := 23) (v := 3) dL_send_23 rfl ?_
      refine v_iret (pc := 24) rfl rfl (Nat.le_of_ble_eq_true rfl) dL_send_24 ?_
      exact ⟨by rw [h1], o, fun h => absurd (h1.symm.trans h) (by decide), _, _, _, _, _, _, _, rfl⟩
set_option maxRecDepth 100000 in
set_option maxHeartbeats 4000000 in
theorem c_L_setIce {G : Cx} {w : Nat → Nat} {a b f : Nat → Int32} {wa : Int32} {lr : Value} {nd dg : Int32} {T N S C B O : Nat → Int32} {ch : Int32} {PC : Nat → Int32} {SF BF : Nat → Nat → Int32} {ps sc bc hh : Nat} {g0 u0 : Nat} (hps : ps ≤ 8) (hsc : sc ≤ 5) (hbc : bc ≤ 40) {x y w1 h9 t : Int32} {y0 : Nat} {o : Nat → Int64} : Mt G Y_L_setIce 8 1 6 [.ref g0, .int x, .int y, .int w1, .int h9, .int t, .ref y0] ((eO 5 g0 [.ref (w 0), .ref u0] :: WorldM w a b f wa lr nd dg T N S C B O ch PC SF BF ps sc bc hh) ++ [eJ y0 1 o]) (fun v M' => v = some (.int ((rIc T S C PC SF ps sc ch x y w1 h9 t).1)) ∧ ∃ o' : Nat → Int64, ((rIc T S C PC SF ps sc ch x y w1 h9 t).1 = 0 → o' 0 = ((rIc T S C PC SF ps sc ch x y w1 h9 t).2.1).toInt64) ∧ M' = eO 5 g0 [.ref (w 0), .ref u0] :: WorldM w a b f wa lr nd dg (rIc T S C PC SF ps sc ch x y w1 h9 t).2.2.1 N (rIc T S C PC SF ps sc ch x y w1 h9 t).2.2.2.1 (rIc T S C PC SF ps sc ch x y w1 h9 t).2.2.2.2.1 B O (rIc T S C PC SF ps sc ch x y w1 h9 t).2.2.2.2.2 PC SF BF ps sc bc hh ++ [eJ y0 1 o']) noX := by
  refine Mt.ofH (L := [some (.ref g0), some (.int x), some (.int y), some (.int w1), some (.int h9), some (.int t), some (.ref y0), none]) rfl (by decide) (by simp [lg_sl, Value.category]) ⟨rfl, rfl, rfl, rfl, rfl, rfl, rfl, trivial⟩ (fun sz => ?_)
  refine v_aloadR (pc := 0) dL_setIce_0 rfl ?_
  refine v_iconst (pc := 2) (v := 0) dL_setIce_2 rfl ?_
  refine v_aload_nR (pc := 3) dL_setIce_3 rfl rfl ?_
  refine v_iload_n (pc := 4) dL_setIce_4 rfl rfl ?_
  refine v_iload_n (pc := 5) dL_setIce_5 rfl rfl ?_
  refine v_iload_n (pc := 6) dL_setIce_6 rfl rfl ?_
  refine v_iload (pc := 7) dL_setIce_7 rfl ?_
  refine v_iload (pc := 9) dL_setIce_9 rfl ?_
  refine v_callVX5 (pc := 11) (c_X5_setIce hps hsc hbc) cm_X5_setIce q305 q306 q307 (ci := 5) rfl rfl (orcO 0 rfl) [0, 1, 2, 3, 4, 5, 6, 7, 8, 9, 10, 11, 12, 13, 14, 15, 16, 17] (by rfl) (by decide) (by decide) (by decide) (by decide) (Nat.le_of_ble_eq_true rfl) dL_setIce_11 (fun v9 M9 hQ => ?_) (fun E9 M9 hX => ?_)
  · obtain ⟨h0, rfl, rfl⟩ := hQ
    try dsimp only [wb, LakeM, WaysM, WorldM, List.set_cons_succ, List.set_cons_zero, List.append_nil, List.nil_append, List.cons_append, Option.toList, Nat.sub_zero]
    refine v_i2l (pc := 14) dL_setIce_14 ?_
    refine v_last (pc := 15) 18 rfl (by unfold vp_in; decide) dL_setIce_15 ?_
    try dsimp only [wb, LakeM, WaysM, WorldM, List.set_cons_succ, List.set_cons_zero, List.append_nil, List.nil_append, List.cons_append, Option.toList, Nat.sub_zero]
    refine v_goto (pc := 16) (tgt := 27) dL_setIce_16 (by decide) ?_
    refine v_iconst (pc := 27) (v := 0) dL_setIce_27 rfl ?_
    refine v_iret (pc := 28) rfl rfl (Nat.le_of_ble_eq_true rfl) dL_setIce_28 ?_
    exact ⟨by rw [h0], _, fun _ => by rw [cl0]; exact if_pos rfl, rfl⟩
  · obtain ⟨rfl, hE⟩ := hX
    try dsimp only [wb, LakeM, WaysM, WorldM, List.set_cons_succ, List.set_cons_zero, List.append_nil, List.nil_append, List.cons_append, Option.toList, Nat.sub_zero]
    rcases hE with ⟨rfl, h1⟩ | ⟨rfl, h1⟩
    · refine v_catch [] (⟨0, 16, 19, 13⟩ : ExceptionTableEntry) [(⟨0, 16, 23, 15⟩ : ExceptionTableEntry)] rfl (fun z9 hz => by cases hz) (by decide) (by decide) q303 q320 (fun q9 => ?_)
      refine v_astoreR (pc := 19) dL_setIce_19 (by decide) rfl ?_
      refine v_iconst (pc := 21) (v := 1) dL_setIce_21 rfl ?_
      refine v_iret (pc := 22) rfl rfl (Nat.le_of_ble_eq_true rfl) dL_setIce_22 ?_
      exact ⟨by rw [h1], o, fun h => absurd (h1.symm.trans h) (by decide), rfl⟩
    · refine v_catch [(⟨0, 16, 19, 13⟩ : ExceptionTableEntry)] (⟨0, 16, 23, 15⟩ : ExceptionTableEntry) [] rfl (fun z9 hz => by simp only [List.mem_cons, List.not_mem_nil, or_false] at hz; rcases hz with rfl <;> first | exact ⟨by decide, _, q303, nc_ISX_IAX⟩) (by decide) (by decide) q304 q403 (fun q9 => ?_)
      refine v_astoreR (pc := 23) dL_setIce_23 (by decide) rfl ?_
      refine v_iconst (pc := 25) (v := 2) dL_setIce_25 rfl ?_
      refine v_iret (pc := 26) rfl rfl (Nat.le_of_ble_eq_true rfl) dL_setIce_26 ?_
      exact ⟨by rw [h1], o, fun h => absurd (h1.symm.trans h) (by decide), rfl⟩
set_option maxRecDepth 100000 in
set_option maxHeartbeats 4000000 in
theorem c_L_way {G : Cx} {w : Nat → Nat} {a b f : Nat → Int32} {wa : Int32} {lr : Value} {nd dg : Int32} {T N S C B O : Nat → Int32} {ch : Int32} {PC : Nat → Int32} {SF BF : Nat → Nat → Int32} {ps sc bc hh : Nat} {g0 u0 : Nat} (hps : ps ≤ 8) (hsc : sc ≤ 5) (hbc : bc ≤ 40) {a1 b1 w1 r1 : Int32} (hPC : ∀ k, k < 8 → 0 ≤ PC k ∧ PC k < 160) {y0 : Nat} {o : Nat → Int64} : Mt G Y_L_way 8 1 6 [.ref g0, .int a1, .int b1, .int w1, .int r1, .ref y0] ((eO 5 g0 [.ref (w 0), .ref u0] :: WorldM w a b f wa lr nd dg T N S C B O ch PC SF BF ps sc bc hh) ++ [eJ y0 1 o]) (fun v M' => v = some (.int ((rWy T N C PC ps f a1 b1 w1 r1).1)) ∧ ∃ o' : Nat → Int64, ((rWy T N C PC ps f a1 b1 w1 r1).1 = 0 → o' 0 = ((rWy T N C PC ps f a1 b1 w1 r1).2).toInt64) ∧ ∃ (a' b' f' : Nat → Int32) (wa' : Int32) (lr' : Value) (nd' dg' : Int32), M' = eO 5 g0 [.ref (w 0), .ref u0] :: WorldM w a' b' f' wa' lr' nd' dg' T N S C B O ch PC SF BF ps sc bc hh ++ [eJ y0 1 o']) noX := by
  refine Mt.ofH (L := [some (.ref g0), some (.int a1), some (.int b1), some (.int w1), some (.int r1), some (.ref y0), none]) rfl (by decide) (by simp [lg_sl, Value.category]) ⟨rfl, rfl, rfl, rfl, rfl, rfl, trivial⟩ (fun sz => ?_)
  refine v_aloadR (pc := 0) dL_way_0 rfl ?_
  refine v_iconst (pc := 2) (v := 0) dL_way_2 rfl ?_
  refine v_aload_nR (pc := 3) dL_way_3 rfl rfl ?_
  refine v_iload_n (pc := 4) dL_way_4 rfl rfl ?_
  refine v_iload_n (pc := 5) dL_way_5 rfl rfl ?_
  refine v_iload_n (pc := 6) dL_way_6 rfl rfl ?_
  refine v_iload (pc := 7) dL_way_7 rfl ?_
  refine v_callVX4 (pc := 9) (c_X5_way hps hsc hbc hPC) cm_X5_way q744 q745 q746 (ci := 5) rfl rfl (orcO 0 rfl) [0, 1, 2, 3, 4, 5, 6, 7, 8, 9, 10, 11, 12, 13, 14, 15, 16, 17] (by rfl) (by decide) (by decide) (by decide) (by decide) (Nat.le_of_ble_eq_true rfl) dL_way_9 (fun v9 M9 hQ => ?_) (fun E9 M9 hX => ?_)
  · obtain ⟨h0, rfl, a1x, b1x, f1x, wax, lrx, ndx, dgx, rfl⟩ := hQ
    try dsimp only [wb, LakeM, WaysM, WorldM, List.set_cons_succ, List.set_cons_zero, List.append_nil, List.nil_append, List.cons_append, Option.toList, Nat.sub_zero]
    refine v_i2l (pc := 12) dL_way_12 ?_
    refine v_last (pc := 13) 18 rfl (by unfold vp_in; decide) dL_way_13 ?_
    try dsimp only [wb, LakeM, WaysM, WorldM, List.set_cons_succ, List.set_cons_zero, List.append_nil, List.nil_append, List.cons_append, Option.toList, Nat.sub_zero]
    refine v_goto (pc := 14) (tgt := 25) dL_way_14 (by decide) ?_
    refine v_iconst (pc := 25) (v := 0) dL_way_25 rfl ?_
    refine v_iret (pc := 26) rfl rfl (Nat.le_of_ble_eq_true rfl) dL_way_26 ?_
    exact ⟨by rw [h0], _, fun _ => by rw [cl0]; exact if_pos rfl, _, _, _, _, _, _, _, rfl⟩
  · obtain ⟨rfl, hE⟩ := hX
    try dsimp only [wb, LakeM, WaysM, WorldM, List.set_cons_succ, List.set_cons_zero, List.append_nil, List.nil_append, List.cons_append, Option.toList, Nat.sub_zero]
    rcases hE with ⟨rfl, h1⟩ | ⟨rfl, h1⟩
    · refine v_catch [] (⟨0, 14, 17, 21⟩ : ExceptionTableEntry) [(⟨0, 14, 21, 13⟩ : ExceptionTableEntry)] rfl (fun z9 hz => by cases hz) (by decide) (by decide) q428 q435 (fun q9 => ?_)
      refine v_astoreR (pc := 17) dL_way_17 (by decide) rfl ?_
      refine v_iconst (pc := 19) (v := 1) dL_way_19 rfl ?_
      refine v_iret (pc := 20) rfl rfl (Nat.le_of_ble_eq_true rfl) dL_way_20 ?_
      exact ⟨by rw [h1], o, fun h => absurd (h1.symm.trans h) (by decide), _, _, _, _, _, _, _, rfl⟩
    · refine v_catch [(⟨0, 14, 17, 21⟩ : ExceptionTableEntry)] (⟨0, 14, 21, 13⟩ : ExceptionTableEntry) [] rfl (fun z9 hz => by simp only [List.mem_cons, List.not_mem_nil, or_false] at hz; rcases hz with rfl <;> first | exact ⟨by decide, _, q428, nc_IAX_IOX⟩) (by decide) (by decide) q303 q320 (fun q9 => ?_)
      refine v_astoreR (pc := 21) dL_way_21 (by decide) rfl ?_
      refine v_iconst (pc := 23) (v := 2) dL_way_23 rfl ?_
      refine v_iret (pc := 24) rfl rfl (Nat.le_of_ble_eq_true rfl) dL_way_24 ?_
      exact ⟨by rw [h1], o, fun h => absurd (h1.symm.trans h) (by decide), _, _, _, _, _, _, _, rfl⟩
set_option maxRecDepth 100000 in
set_option maxHeartbeats 4000000 in
theorem c_L_bears {G : Cx} {w : Nat → Nat} {a b f : Nat → Int32} {wa : Int32} {lr : Value} {nd dg : Int32} {T N S C B O : Nat → Int32} {ch : Int32} {PC : Nat → Int32} {SF BF : Nat → Nat → Int32} {ps sc bc hh : Nat} {g0 u0 : Nat} (hps : ps ≤ 8) (hsc : sc ≤ 5) (hbc : bc ≤ 40) {a1 b1 : Int32} (hN : nOK N) (hPC : ∀ k, k < 8 → 0 ≤ PC k ∧ PC k < 160) {y0 : Nat} {o : Nat → Int64} : Mt G Y_L_bears 9 1 6 [.ref g0, .int a1, .int b1, .ref y0] ((eO 5 g0 [.ref (w 0), .ref u0] :: WorldM w a b f wa lr nd dg T N S C B O ch PC SF BF ps sc bc hh) ++ [eJ y0 1 o]) (fun v M' => ∃ (n : Int32) (o' : Nat → Int64), v = some (.int n) ∧ ((n = 0 ∧ (isP ps a1 ∧ isP ps b1) ∧ ∃ r, o' 0 = r.toInt64 ∧ bsB T C (cN (cop PC ps b1)) (cN (cop PC ps a1)) r) ∨ (n = 1 ∧ ¬ (isP ps a1 ∧ isP ps b1))) ∧ ∃ (a' b' f' : Nat → Int32) (wa' : Int32) (lr' : Value) (nd' dg' : Int32), M' = eO 5 g0 [.ref (w 0), .ref u0] :: WorldM w a' b' f' wa' lr' nd' dg' T N S C B O ch PC SF BF ps sc bc hh ++ [eJ y0 1 o']) noX := by
  refine Mt.ofH (L := [some (.ref g0), some (.int a1), some (.int b1), some (.ref y0), none]) rfl (by decide) (by simp [lg_sl, Value.category]) ⟨rfl, rfl, rfl, rfl, trivial⟩ (fun sz => ?_)
  refine v_aload_nR (pc := 0) dL_bears_0 rfl rfl ?_
  refine v_iconst (pc := 1) (v := 0) dL_bears_1 rfl ?_
  refine v_aload_nR (pc := 2) dL_bears_2 rfl rfl ?_
  refine v_iload_n (pc := 3) dL_bears_3 rfl rfl ?_
  refine v_iload_n (pc := 4) dL_bears_4 rfl rfl ?_
  refine v_callVX2 (pc := 5) (c_X5_bears hps hsc hbc hN hPC) cm_X5_bears q756 q757 q758 (ci := 5) rfl rfl (orcO 0 rfl) [0, 1, 2, 3, 4, 5, 6, 7, 8, 9, 10, 11, 12, 13, 14, 15, 16, 17] (by rfl) (by decide) (by decide) (by decide) (by decide) (Nat.le_of_ble_eq_true rfl) dL_bears_5 (fun v9 M9 hQ => ?_) (fun E9 M9 hX => ?_)
  · obtain ⟨hcc, r9, rfl, hb9, a1x, b1x, f1x, wax, lrx, ndx, dgx, rfl⟩ := hQ
    try dsimp only [wb, LakeM, WaysM, WorldM, List.set_cons_succ, List.set_cons_zero, List.append_nil, List.nil_append, List.cons_append, Option.toList, Nat.sub_zero]
    refine v_i2l (pc := 8) dL_bears_8 ?_
    refine v_last (pc := 9) 18 rfl (by unfold vp_in; decide) dL_bears_9 ?_
    try dsimp only [wb, LakeM, WaysM, WorldM, List.set_cons_succ, List.set_cons_zero, List.append_nil, List.nil_append, List.cons_append, Option.toList, Nat.sub_zero]
    refine v_goto (pc := 10) (tgt := 17) dL_bears_10 (by decide) ?_
    refine v_iconst (pc := 17) (v := 0) dL_bears_17 rfl ?_
    refine v_iret (pc := 18) rfl rfl (Nat.le_of_ble_eq_true rfl) dL_bears_18 ?_
    exact ⟨_, _, rfl, Or.inl ⟨rfl, hcc, r9, (by rw [cl0]; exact if_pos rfl), hb9⟩, _, _, _, _, _, _, _, rfl⟩
  · obtain ⟨rfl, rfl, h1⟩ := hX
    try dsimp only [wb, LakeM, WaysM, WorldM, List.set_cons_succ, List.set_cons_zero, List.append_nil, List.nil_append, List.cons_append, Option.toList, Nat.sub_zero]
    refine v_catch [] (⟨0, 10, 13, 21⟩ : ExceptionTableEntry) [] rfl (fun z9 hz => by cases hz) (by decide) (by decide) q428 q435 (fun q9 => ?_)
    refine v_astoreR (pc := 13) dL_bears_13 (by decide) rfl ?_
    refine v_iconst (pc := 15) (v := 1) dL_bears_15 rfl ?_
    refine v_iret (pc := 16) rfl rfl (Nat.le_of_ble_eq_true rfl) dL_bears_16 ?_
    exact ⟨_, o, rfl, Or.inr ⟨rfl, h1⟩, _, _, _, _, _, _, _, rfl⟩
set_option maxRecDepth 100000 in
set_option maxHeartbeats 4000000 in
theorem c_L_pass {G : Cx} {w : Nat → Nat} {N O PC : Nat → Int32} {ps sc bc hh : Nat} {g0 u0 : Nat} (hps : ps ≤ 8) (hsc : sc ≤ 5) (hbc : bc ≤ 40) {n5 : Nat} (h5 : n5 = 5) {x : HW} {q : Int32} (hhh : hh + 200 < 2 ^ 31 - 1) (hPC : ∀ k, k < 8 → 0 ≤ PC k ∧ PC k < 160) (hx : sOK x.1 sc) (hC : cOK x.2.2.2.2.2.2.2.2.2.1) {y0 : Nat} {o : Nat → Int64} : Mt G Y_L_pass 8 1 6 [.ref g0, .int q, .ref y0] ((eO 5 g0 [.ref (w 0), .ref u0] :: WH w N O PC ps sc bc hh x) ++ [eJ y0 1 o]) (fun v M' => v = some (.int ((rPs n5 (.ref (w 5)) N O PC ps sc bc hh x q).1)) ∧ ∃ o' : Nat → Int64, ((rPs n5 (.ref (w 5)) N O PC ps sc bc hh x q).1 = 0 → o' 0 = ((rPs n5 (.ref (w 5)) N O PC ps sc bc hh x q).2.1).toInt64) ∧ M' = eO 5 g0 [.ref (w 0), .ref u0] :: WH w N O PC ps sc bc (rPs n5 (.ref (w 5)) N O PC ps sc bc hh x q).2.2.2 (rPs n5 (.ref (w 5)) N O PC ps sc bc hh x q).2.2.1 ++ [eJ y0 1 o']) noX := by
  refine Mt.ofH (L := [some (.ref g0), some (.int q), some (.ref y0), none]) rfl (by decide) (by simp [lg_sl, Value.category]) ⟨rfl, rfl, rfl, trivial⟩ (fun sz => ?_)
  refine v_aload_nR (pc := 0) dL_pass_0 rfl rfl ?_
  refine v_iconst (pc := 1) (v := 0) dL_pass_1 rfl ?_
  refine v_aload_nR (pc := 2) dL_pass_2 rfl rfl ?_
  refine v_iload_n (pc := 3) dL_pass_3 rfl rfl ?_
  refine v_callVX1 (pc := 4) (c_X5_pass hps hsc hbc h5 hhh hPC hx hC) cm_X5_pass q630 q631 q632 (ci := 5) rfl rfl (orcO 0 rfl) [0, 1, 2, 3, 4, 5, 6, 7, 8, 9, 10, 11, 12, 13, 14, 15, 16, 17] (by rfl) (by decide) (by decide) (by decide) (by decide) (Nat.le_of_ble_eq_true rfl) dL_pass_4 (fun v9 M9 hQ => ?_) (fun E9 M9 hX => ?_)
  · obtain ⟨h0, rfl, rfl⟩ := hQ
    try dsimp only [wb, LakeM, WaysM, WorldM, List.set_cons_succ, List.set_cons_zero, List.append_nil, List.nil_append, List.cons_append, Option.toList, Nat.sub_zero]
    refine v_i2l (pc := 7) dL_pass_7 ?_
    refine v_last (pc := 8) 18 rfl (by unfold vp_in; decide) dL_pass_8 ?_
    try dsimp only [wb, LakeM, WaysM, WorldM, List.set_cons_succ, List.set_cons_zero, List.append_nil, List.nil_append, List.cons_append, Option.toList, Nat.sub_zero]
    refine v_goto (pc := 9) (tgt := 15) dL_pass_9 (by decide) ?_
    refine v_iconst (pc := 15) (v := 0) dL_pass_15 rfl ?_
    refine v_iret (pc := 16) rfl rfl (Nat.le_of_ble_eq_true rfl) dL_pass_16 ?_
    exact ⟨by rw [h0], _, fun _ => by rw [cl0]; exact if_pos rfl, rfl⟩
  · obtain ⟨rfl, rfl, h1⟩ := hX
    try dsimp only [wb, LakeM, WaysM, WorldM, List.set_cons_succ, List.set_cons_zero, List.append_nil, List.nil_append, List.cons_append, Option.toList, Nat.sub_zero]
    refine v_catch [] (⟨0, 9, 12, 13⟩ : ExceptionTableEntry) [] rfl (fun z9 hz => by cases hz) (by decide) (by decide) q303 q320 (fun q9 => ?_)
    refine v_astore_nR (pc := 12) dL_pass_12 rfl (by decide) rfl ?_
    refine v_iconst (pc := 13) (v := 1) dL_pass_13 rfl ?_
    refine v_iret (pc := 14) rfl rfl (Nat.le_of_ble_eq_true rfl) dL_pass_14 ?_
    exact ⟨by rw [h1], o, fun h => absurd (h1.symm.trans h) (by decide), rfl⟩
set_option maxRecDepth 100000 in
set_option maxHeartbeats 4000000 in
theorem c_L_foresee {G : Cx} {w : Nat → Nat} {a b f : Nat → Int32} {wa : Int32} {lr : Value} {nd dg : Int32} {T N S C B O : Nat → Int32} {ch : Int32} {PC : Nat → Int32} {SF BF : Nat → Nat → Int32} {ps sc bc hh : Nat} {g0 : Nat} {u : Nat → Nat} {a2 b2 f2 : Nat → Int32} {wa2 : Int32} {lr2 : Value} {nd2 dg2 : Int32} {T2 N2 S2 C2 B2 O2 : Nat → Int32} {ch2 : Int32} {PC2 : Nat → Int32} {SF2 BF2 : Nat → Nat → Int32} {ps2 sc2 hh2 : Nat} (hps : ps ≤ 8) (hsc : sc ≤ 5) (hbc : bc ≤ 40) {n5 : Nat} (h5 : n5 = 5) {s q : Int32} (hPC : ∀ k, k < 8 → 0 ≤ PC k ∧ PC k < 160) (hx : sOK SF sc) (hC : cOK C) (hhh : hh + 300 < 2 ^ 31 - 1) {B9 : Nat} (hcB : chB ch2 B9) (hB9 : B9 + 300 < 2 ^ 30) {y0 : Nat} {o : Nat → Int64} : Mt G Y_L_foresee 8 1 6 [.ref g0, .int s, .int q, .ref y0] ((eO 5 g0 [.ref (w 0), .ref (u 0)] :: (WorldM w a b f wa lr nd dg T N S C B O ch PC SF BF ps sc bc hh ++ WorldM u a2 b2 f2 wa2 lr2 nd2 dg2 T2 N2 S2 C2 B2 O2 ch2 PC2 SF2 BF2 ps2 sc2 0 hh2)) ++ [eJ y0 1 o]) (fun v M' => v = some (.int ((rFo n5 (.ref (u 5)) N O PC ps sc hh (cpN SF2 SF sc, BF2, T, B2, (a2, b2, f2, wa2), lr2, nd2, dg2, S, C, ch2) s q).1)) ∧ ∃ o' : Nat → Int64, ((rFo n5 (.ref (u 5)) N O PC ps sc hh (cpN SF2 SF sc, BF2, T, B2, (a2, b2, f2, wa2), lr2, nd2, dg2, S, C, ch2) s q).1 = 0 → o' 0 = ((rFo n5 (.ref (u 5)) N O PC ps sc hh (cpN SF2 SF sc, BF2, T, B2, (a2, b2, f2, wa2), lr2, nd2, dg2, S, C, ch2) s q).2).toInt64) ∧ ∃ (a2' b2' f2' : Nat → Int32) (wa2' : Int32) (lr2' : Value) (nd2' dg2' : Int32) (T2' N2' S2' C2' B2' O2' : Nat → Int32) (ch2' : Int32) (PC2' : Nat → Int32) (SF2' BF2' : Nat → Nat → Int32) (ps2' sc2' hh2' : Nat), chB ch2' (B9 + 300) ∧ M' = (eO 5 g0 [.ref (w 0), .ref (u 0)] :: (WorldM w a b f wa lr nd dg T N S C B O ch PC SF BF ps sc bc hh ++ WorldM u a2' b2' f2' wa2' lr2' nd2' dg2' T2' N2' S2' C2' B2' O2' ch2' PC2' SF2' BF2' ps2' sc2' 0 hh2')) ++ [eJ y0 1 o']) noX := by
  refine Mt.ofH (L := [some (.ref g0), some (.int s), some (.int q), some (.ref y0), none]) rfl (by decide) (by simp [lg_sl, Value.category]) ⟨rfl, rfl, rfl, rfl, trivial⟩ (fun sz => ?_)
  refine v_aload_nR (pc := 0) dL_foresee_0 rfl rfl ?_
  refine v_iconst (pc := 1) (v := 0) dL_foresee_1 rfl ?_
  refine v_aload_nR (pc := 2) dL_foresee_2 rfl rfl ?_
  refine v_iload_n (pc := 3) dL_foresee_3 rfl rfl ?_
  refine v_iload_n (pc := 4) dL_foresee_4 rfl rfl ?_
  refine v_callVX2 (pc := 5) (c_X5_foresee hps hsc hbc h5 hPC hx hC hhh) cm_X5_foresee q767 q768 q769 (ci := 5) rfl rfl (orcO 0 rfl) [0, 1, 2, 3, 4, 5, 6, 7, 8, 9, 10, 11, 12, 13, 14, 15, 16, 17, 18, 19, 20, 21, 22, 23, 24, 25, 26, 27, 28, 29, 30, 31, 32, 33, 34] (by rfl) (by decide) (by decide) (by decide) (by decide) (Nat.le_of_ble_eq_true rfl) dL_foresee_5 (fun v9 M9 hQ => ?_) (fun E9 M9 hX => ?_)
  · obtain ⟨hcc, rfl, h8, rfl⟩ := hQ
    try dsimp only [wb, LakeM, WaysM, WorldM, List.set_cons_succ, List.set_cons_zero, List.append_nil, List.nil_append, List.cons_append, Option.toList, Nat.sub_zero]
    refine v_i2l (pc := 8) dL_foresee_8 ?_
    refine v_last (pc := 9) 35 rfl (by unfold vp_in; decide) dL_foresee_9 ?_
    try dsimp only [wb, LakeM, WaysM, WorldM, List.set_cons_succ, List.set_cons_zero, List.append_nil, List.nil_append, List.cons_append, Option.toList, Nat.sub_zero]
    refine v_goto (pc := 10) (tgt := 21) dL_foresee_10 (by decide) ?_
    refine v_iconst (pc := 21) (v := 0) dL_foresee_21 rfl ?_
    refine v_iret (pc := 22) rfl rfl (Nat.le_of_ble_eq_true rfl) dL_foresee_22 ?_
    have e9 : (rFo n5 (.ref (u 5)) N O PC ps sc hh (cpN SF2 SF sc, BF2, T, B2, (a2, b2, f2, wa2), lr2, nd2, dg2, S, C, ch2) s q) = (0, foV (cN s) (foL n5 (.ref (u 5)) N O PC ps sc (cN s) (cN q) hh (cpN SF2 SF sc, BF2, T, B2, (a2, b2, f2, wa2), lr2, nd2, dg2, S, C, ch2))) := (if_pos hcc.1).trans (if_pos hcc.2)
    exact ⟨by rw [e9], _, fun _ => (by rw [e9, cl0]; exact if_pos rfl), _, _, _, _, _, _, _, _, _, _, _, _, _, _, _, _, _, _, _, _, (foL_ch _ _ hcB (by have := cN_le hcc.2; omega)).up (by have := cN_le hcc.2; omega), rfl⟩
  · obtain ⟨rfl, hE⟩ := hX
    try dsimp only [wb, LakeM, WaysM, WorldM, List.set_cons_succ, List.set_cons_zero, List.append_nil, List.nil_append, List.cons_append, Option.toList, Nat.sub_zero]
    rcases hE with ⟨rfl, h1⟩ | ⟨rfl, h1⟩
    · refine v_catch [] (⟨0, 10, 13, 21⟩ : ExceptionTableEntry) [(⟨0, 10, 17, 13⟩ : ExceptionTableEntry)] rfl (fun z9 hz => by cases hz) (by decide) (by decide) q428 q435 (fun q9 => ?_)
      refine v_astoreR (pc := 13) dL_foresee_13 (by decide) rfl ?_
      refine v_iconst (pc := 15) (v := 1) dL_foresee_15 rfl ?_
      refine v_iret (pc := 16) rfl rfl (Nat.le_of_ble_eq_true rfl) dL_foresee_16 ?_
      have e9 : (rFo n5 (.ref (u 5)) N O PC ps sc hh (cpN SF2 SF sc, BF2, T, B2, (a2, b2, f2, wa2), lr2, nd2, dg2, S, C, ch2) s q) = (1, 0) := if_neg h1
      exact ⟨by rw [e9], o, fun h => absurd h (by rw [e9]; decide), _, _, _, _, _, _, _, _, _, _, _, _, _, _, _, _, _, _, _, _, hcB.up (by omega), rfl⟩
    · refine v_catch [(⟨0, 10, 13, 21⟩ : ExceptionTableEntry)] (⟨0, 10, 17, 13⟩ : ExceptionTableEntry) [] rfl (fun z9 hz => by simp only [List.mem_cons, List.not_mem_nil, or_false] at hz; rcases hz with rfl <;> first | exact ⟨by decide, _, q428, nc_IAX_IOX⟩) (by decide) (by decide) q303 q320 (fun q9 => ?_)
      refine v_astoreR (pc := 17) dL_foresee_17 (by decide) rfl ?_
      refine v_iconst (pc := 19) (v := 2) dL_foresee_19 rfl ?_
      refine v_iret (pc := 20) rfl rfl (Nat.le_of_ble_eq_true rfl) dL_foresee_20 ?_
      have e9 : (rFo n5 (.ref (u 5)) N O PC ps sc hh (cpN SF2 SF sc, BF2, T, B2, (a2, b2, f2, wa2), lr2, nd2, dg2, S, C, ch2) s q) = (2, 0) := (if_pos h1.1).trans (if_neg h1.2)
      exact ⟨by rw [e9], o, fun h => absurd h (by rw [e9]; decide), _, _, _, _, _, _, _, _, _, _, _, _, _, _, _, _, _, _, _, _, hcB.up (by omega), rfl⟩
set_option maxRecDepth 100000 in
set_option maxHeartbeats 4000000 in
theorem c_L_arrives {G : Cx} {w : Nat → Nat} {a b f : Nat → Int32} {wa : Int32} {lr : Value} {nd dg : Int32} {T N S C B O : Nat → Int32} {ch : Int32} {PC : Nat → Int32} {SF BF : Nat → Nat → Int32} {ps sc bc hh : Nat} {g0 : Nat} {u : Nat → Nat} {a2 b2 f2 : Nat → Int32} {wa2 : Int32} {lr2 : Value} {nd2 dg2 : Int32} {T2 N2 S2 C2 B2 O2 : Nat → Int32} {ch2 : Int32} {PC2 : Nat → Int32} {SF2 BF2 : Nat → Nat → Int32} {ps2 sc2 hh2 : Nat} (hps : ps ≤ 8) (hsc : sc ≤ 5) (hbc : bc ≤ 40) {n5 : Nat} (h5 : n5 = 5) {s : Int32} (hPC : ∀ k, k < 8 → 0 ≤ PC k ∧ PC k < 160) (hx : sOK SF sc) (hC : cOK C) (hhh : hh + 300 < 2 ^ 31 - 1) {B9 : Nat} (hcB : chB ch2 B9) (hB9 : B9 + 300 < 2 ^ 30) {y0 : Nat} {o : Nat → Int64} : Mt G Y_L_arrives 8 1 6 [.ref g0, .int s, .ref y0] ((eO 5 g0 [.ref (w 0), .ref (u 0)] :: (WorldM w a b f wa lr nd dg T N S C B O ch PC SF BF ps sc bc hh ++ WorldM u a2 b2 f2 wa2 lr2 nd2 dg2 T2 N2 S2 C2 B2 O2 ch2 PC2 SF2 BF2 ps2 sc2 0 hh2)) ++ [eJ y0 1 o]) (fun v M' => v = some (.int ((rAr n5 (.ref (u 5)) N O PC ps sc hh (cpN SF2 SF sc, BF2, T, B2, (a2, b2, f2, wa2), lr2, nd2, dg2, S, C, ch2) s).1)) ∧ ∃ o' : Nat → Int64, ((rAr n5 (.ref (u 5)) N O PC ps sc hh (cpN SF2 SF sc, BF2, T, B2, (a2, b2, f2, wa2), lr2, nd2, dg2, S, C, ch2) s).1 = 0 → o' 0 = ((rAr n5 (.ref (u 5)) N O PC ps sc hh (cpN SF2 SF sc, BF2, T, B2, (a2, b2, f2, wa2), lr2, nd2, dg2, S, C, ch2) s).2).toInt64) ∧ ∃ (a2' b2' f2' : Nat → Int32) (wa2' : Int32) (lr2' : Value) (nd2' dg2' : Int32) (T2' N2' S2' C2' B2' O2' : Nat → Int32) (ch2' : Int32) (PC2' : Nat → Int32) (SF2' BF2' : Nat → Nat → Int32) (ps2' sc2' hh2' : Nat), chB ch2' (B9 + 300) ∧ M' = (eO 5 g0 [.ref (w 0), .ref (u 0)] :: (WorldM w a b f wa lr nd dg T N S C B O ch PC SF BF ps sc bc hh ++ WorldM u a2' b2' f2' wa2' lr2' nd2' dg2' T2' N2' S2' C2' B2' O2' ch2' PC2' SF2' BF2' ps2' sc2' 0 hh2')) ++ [eJ y0 1 o']) noX := by
  refine Mt.ofH (L := [some (.ref g0), some (.int s), some (.ref y0), none]) rfl (by decide) (by simp [lg_sl, Value.category]) ⟨rfl, rfl, rfl, trivial⟩ (fun sz => ?_)
  refine v_aload_nR (pc := 0) dL_arrives_0 rfl rfl ?_
  refine v_iconst (pc := 1) (v := 0) dL_arrives_1 rfl ?_
  refine v_aload_nR (pc := 2) dL_arrives_2 rfl rfl ?_
  refine v_iload_n (pc := 3) dL_arrives_3 rfl rfl ?_
  refine v_callVX1 (pc := 4) (c_X5_arrives hps hsc hbc h5 hPC hx hC hhh) cm_X5_arrives q791 q792 q793 (ci := 5) rfl rfl (orcO 0 rfl) [0, 1, 2, 3, 4, 5, 6, 7, 8, 9, 10, 11, 12, 13, 14, 15, 16, 17, 18, 19, 20, 21, 22, 23, 24, 25, 26, 27, 28, 29, 30, 31, 32, 33, 34] (by rfl) (by decide) (by decide) (by decide) (by decide) (Nat.le_of_ble_eq_true rfl) dL_arrives_4 (fun v9 M9 hQ => ?_) (fun E9 M9 hX => ?_)
  · obtain ⟨hcc, rfl, h8, rfl⟩ := hQ
    try dsimp only [wb, LakeM, WaysM, WorldM, List.set_cons_succ, List.set_cons_zero, List.append_nil, List.nil_append, List.cons_append, Option.toList, Nat.sub_zero]
    refine v_i2l (pc := 7) dL_arrives_7 ?_
    refine v_last (pc := 8) 35 rfl (by unfold vp_in; decide) dL_arrives_8 ?_
    try dsimp only [wb, LakeM, WaysM, WorldM, List.set_cons_succ, List.set_cons_zero, List.append_nil, List.nil_append, List.cons_append, Option.toList, Nat.sub_zero]
    refine v_goto (pc := 9) (tgt := 18) dL_arrives_9 (by decide) ?_
    refine v_iconst (pc := 18) (v := 0) dL_arrives_18 rfl ?_
    refine v_iret (pc := 19) rfl rfl (Nat.le_of_ble_eq_true rfl) dL_arrives_19 ?_
    have e9 : (rAr n5 (.ref (u 5)) N O PC ps sc hh (cpN SF2 SF sc, BF2, T, B2, (a2, b2, f2, wa2), lr2, nd2, dg2, S, C, ch2) s) = (0, arV (cN s) (arL n5 (.ref (u 5)) N O PC ps sc (cN s) 300 hh (cpN SF2 SF sc, BF2, T, B2, (a2, b2, f2, wa2), lr2, nd2, dg2, S, C, ch2))) := (if_pos hcc.1).trans (if_pos ((cpN_at (S := SF2) (U := SF) (k := 3) (isP_lt hsc hcc.1) (by decide)).trans hcc.2))
    exact ⟨by rw [e9], _, fun _ => (by rw [e9, cl0]; exact if_pos rfl), _, _, _, _, _, _, _, _, _, _, _, _, _, _, _, _, _, _, _, _, arL_ch _ _ hcB hB9, rfl⟩
  · obtain ⟨rfl, hE⟩ := hX
    try dsimp only [wb, LakeM, WaysM, WorldM, List.set_cons_succ, List.set_cons_zero, List.append_nil, List.nil_append, List.cons_append, Option.toList, Nat.sub_zero]
    rcases hE with ⟨rfl, h1⟩ | ⟨rfl, h1⟩
    · refine v_catch [] (⟨0, 9, 12, 21⟩ : ExceptionTableEntry) [(⟨0, 9, 15, 15⟩ : ExceptionTableEntry)] rfl (fun z9 hz => by cases hz) (by decide) (by decide) q428 q435 (fun q9 => ?_)
      refine v_astore_nR (pc := 12) dL_arrives_12 rfl (by decide) rfl ?_
      refine v_iconst (pc := 13) (v := 1) dL_arrives_13 rfl ?_
      refine v_iret (pc := 14) rfl rfl (Nat.le_of_ble_eq_true rfl) dL_arrives_14 ?_
      have e9 : (rAr n5 (.ref (u 5)) N O PC ps sc hh (cpN SF2 SF sc, BF2, T, B2, (a2, b2, f2, wa2), lr2, nd2, dg2, S, C, ch2) s) = (1, 0) := if_neg h1
      exact ⟨by rw [e9], o, fun h => absurd h (by rw [e9]; decide), _, _, _, _, _, _, _, _, _, _, _, _, _, _, _, _, _, _, _, _, hcB.up (by omega), rfl⟩
    · refine v_catch [(⟨0, 9, 12, 21⟩ : ExceptionTableEntry)] (⟨0, 9, 15, 15⟩ : ExceptionTableEntry) [] rfl (fun z9 hz => by simp only [List.mem_cons, List.not_mem_nil, or_false] at hz; rcases hz with rfl <;> first | exact ⟨by decide, _, q428, nc_ISX_IOX⟩) (by decide) (by decide) q304 q403 (fun q9 => ?_)
      refine v_astore_nR (pc := 15) dL_arrives_15 rfl (by decide) rfl ?_
      refine v_iconst (pc := 16) (v := 2) dL_arrives_16 rfl ?_
      refine v_iret (pc := 17) rfl rfl (Nat.le_of_ble_eq_true rfl) dL_arrives_17 ?_
      have e9 : (rAr n5 (.ref (u 5)) N O PC ps sc hh (cpN SF2 SF sc, BF2, T, B2, (a2, b2, f2, wa2), lr2, nd2, dg2, S, C, ch2) s) = (2, 0) := (if_pos h1.1).trans (if_neg (fun h => h1.2 ((cpN_at (S := SF2) (U := SF) (k := 3) (isP_lt hsc h1.1) (by decide)).symm.trans h)))
      exact ⟨by rw [e9], o, fun h => absurd h (by rw [e9]; decide), _, _, _, _, _, _, _, _, _, _, _, _, _, _, _, _, _, _, _, _, hcB.up (by omega), rfl⟩
