/-! more of the world: the hours to a goal, digests -/
def hgQ (T N C PC : Nat → Int32) (SF : Nat → Nat → Int32) (ps i : Nat) (f : Nat → Int32) : QS := lkq (fun k => hoB T C k (slN SF i)) N (slD SF i) (cN (SF i 4)) (cpo PC ps (SF i 5)) f
def dgP (PC : Nat → Int32) (ps : Nat) : Nat → Int64 → Int64
  | 0, d => d
  | n + 1, d => if n < ps then dgP PC ps n d * 31 + (PC n).toInt64 else dgP PC ps n d
def dgK (SF BF : Nat → Nat → Int32) (bc i : Nat) : Nat → Int64 → Int64
  | 0, d => d
  | n + 1, d => dgK SF BF bc i n d * 31 + (tlS SF BF bc i n).toInt64
def dgS (SF BF : Nat → Nat → Int32) (bc : Nat) : Nat → Int64 → Int64
  | 0, d => d
  | n + 1, d => dgK SF BF bc n 9 (dgS SF BF bc n d)
def dgJ (BF : Nat → Nat → Int32) (i : Nat) : Nat → Int64 → Int64
  | 0, d => d
  | n + 1, d => dgJ BF i n d * 31 + (BF i n).toInt64
def dgB (BF : Nat → Nat → Int32) : Nat → Int64 → Int64
  | 0, d => d
  | n + 1, d => dgJ BF n 5 (dgB BF n d)
set_option maxRecDepth 100000 in
set_option maxHeartbeats 4000000 in
theorem c_X4_hoursToGoal {G : Cx} {w : Nat → Nat} {a b f : Nat → Int32} {wa : Int32} {lr : Value} {nd dg : Int32} {T N S C B O : Nat → Int32} {ch : Int32} {PC : Nat → Int32} {SF BF : Nat → Nat → Int32} {ps sc bc hh : Nat} (hps : ps ≤ 8) (hsc : sc ≤ 5) (hbc : bc ≤ 40) (hPC : ∀ k, k < 8 → 0 ≤ PC k ∧ PC k < 160) (hx : sOK SF sc) {i : Nat} (hi : i < sc) : Mt G Y_X4_hoursToGoal 4 0 0 [.ref (w 0), .ref (sS w i)] (WorldM w a b f wa lr nd dg T N S C B O ch PC SF BF ps sc bc hh) (fun v M' => v = some (.int ((hgQ T N C PC SF ps i f).1 (cN (SF i 4)))) ∧ M' = WorldM w (hgQ T N C PC SF ps i f).1 (hgQ T N C PC SF ps i f).2.1 (hgQ T N C PC SF ps i f).2.2.1 (hgQ T N C PC SF ps i f).2.2.2 (.ref (w 5)) (slN SF i) (slD SF i) T N S C B O ch PC SF BF ps sc bc hh) noX := by
  refine Mt.of (L := [some (.ref (w 0)), some (.ref (sS w i))]) rfl (by decide) (by simp [lg_sl, Value.category]) ⟨rfl, rfl, trivial⟩ (fun sz => ?_)
  refine v_aload_nR (pc := 0) dX4_hoursToGoal_0 rfl rfl ?_
  refine v_get (pc := 1) 0 0 fg_X4_12 rfl rfl dX4_hoursToGoal_1 ?_
  refine v_aload_nR (pc := 4) dX4_hoursToGoal_4 rfl rfl ?_
  refine v_get (pc := 5) 1 0 fg_X4_21 rfl rfl dX4_hoursToGoal_5 ?_
  refine v_aload_nR (pc := 8) dX4_hoursToGoal_8 rfl rfl ?_
  refine v_getS (pc := 9) 4 15 fg_X4_104 rfl (by omega) (by decide) dX4_hoursToGoal_9 ?_
  refine v_aload_nR (pc := 12) dX4_hoursToGoal_12 rfl rfl ?_
  refine v_aload_nR (pc := 13) dX4_hoursToGoal_13 rfl rfl ?_
  refine v_getS (pc := 14) 5 15 fg_X4_114 rfl (by omega) (by decide) dX4_hoursToGoal_14 ?_
  refine v_callV1 (pc := 17) (c_X4_cellOfPost hps hsc hbc) cm_X4_cellOfPost q456 q457 q458 (ci := 4) rfl rfl (orcO 0 rfl) [0, 1, 2, 3, 4, 5, 6, 7, 8, 9, 10, 11, 12, 13, 14, 15, 16] (by rfl) (by decide) (fun _ _ h => h) (by decide) (by decide) (by decide) (Nat.le_of_ble_eq_true rfl) dX4_hoursToGoal_17 (fun v17 M17 hQ17 => ?_)
  obtain ⟨rfl, rfl⟩ := hQ17
  try dsimp only [wb, LakeM, WaysM, WorldM, List.set_cons_succ, List.set_cons_zero, List.append_nil, List.nil_append, List.cons_append, Option.toList, Nat.sub_zero]
  rw [cpo_eq hps hPC]
  refine v_aload_nR (pc := 20) dX4_hoursToGoal_20 rfl rfl ?_
  refine v_callV0 (pc := 21) (c_X2_need (n := 5) (i := i) (by omega)) cm_X2_need q337 q338 q339 (ci := 2) rfl rfl (orcF 15 rfl (by omega)) [15] (by rfl) (by decide) (fun _ _ h => h) (by decide) (by decide) (by decide) (Nat.le_of_ble_eq_true rfl) dX4_hoursToGoal_21 (fun v21 M21 hQ21 => ?_)
  obtain ⟨rfl, rfl⟩ := hQ21
  try dsimp only [wb, LakeM, WaysM, WorldM, List.set_cons_succ, List.set_cons_zero, List.append_nil, List.nil_append, List.cons_append, Option.toList, Nat.sub_zero]
  refine v_aload_nR (pc := 24) dX4_hoursToGoal_24 rfl rfl ?_
  refine v_callV0 (pc := 25) (c_X2_ownDrag (n := 5) (i := i) (by omega) (hx i hi).1) cm_X2_ownDrag q480 q481 q482 (ci := 2) rfl rfl (orcF 15 rfl (by omega)) [15] (by rfl) (by decide) (fun _ _ h => h) (by decide) (by decide) (by decide) (Nat.le_of_ble_eq_true rfl) dX4_hoursToGoal_25 (fun v25 M25 hQ25 => ?_)
  obtain ⟨rfl, rfl⟩ := hQ25
  try dsimp only [wb, LakeM, WaysM, WorldM, List.set_cons_succ, List.set_cons_zero, List.append_nil, List.nil_append, List.cons_append, Option.toList, Nat.sub_zero]
  refine v_callV5 (pc := 28) (c_X3_lookX (hx i hi).2.1 (cpo_lt hps hPC)) cm_X3_look q487 q488 q489 (ci := 3) rfl rfl (orcO 1 rfl) [1, 2, 3, 4, 5, 6, 7, 8, 9, 10, 11] (by rfl) (by decide) (fun _ _ h => h) (by decide) (by decide) (by decide) (Nat.le_of_ble_eq_true rfl) dX4_hoursToGoal_28 (fun v28 M28 hQ28 => ?_)
  obtain ⟨rfl, rfl⟩ := hQ28
  try dsimp only [wb, LakeM, WaysM, WorldM, List.set_cons_succ, List.set_cons_zero, List.append_nil, List.nil_append, List.cons_append, Option.toList, Nat.sub_zero]
  refine v_iret (pc := 31) rfl rfl (Nat.le_of_ble_eq_true rfl) dX4_hoursToGoal_31 ?_
  exact ⟨rfl, rfl⟩
