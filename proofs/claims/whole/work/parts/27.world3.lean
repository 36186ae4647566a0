/-! more of the world: the hours to a goal, digests -/
def hgQ (T N C PC : Nat → Int32) (SF : Nat → Nat → Int32) (ps i : Nat) (f : Nat → Int32) : QS := lkq (fun k => hoB T C k (slN SF i)) N (slD SF i) (cN (SF i 4)) (cpo PC ps (SF i 5)) f
def dgP (PC : Nat → Int32) (ps : Nat) : Nat → Int64 → Int64
  | 0, d => d
  | n + 1, d => if n < ps then dgP PC ps n d * 31 + (PC n).toInt64 else dgP PC ps n d
def dgK (SF BF : Nat → Nat → Int32) (bc i : Nat) : Nat → Int64 → Int64
  | 0, d => d
  | n + 1, d => dgK SF BF bc i n d * 31 + (tlS SF BF bc i n).toInt64
def dgS (SF BF : Nat → Nat → Int32) (bc : Nat) : Nat → Int64 → Int64
  | 0, d => d
  | n + 1, d => dgK SF BF bc n 9 (dgS SF BF bc n d)
def dgJ (BF : Nat → Nat → Int32) (i : Nat) : Nat → Int64 → Int64
  | 0, d => d
  | n + 1, d => dgJ BF i n d * 31 + (BF i n).toInt64
def dgB (BF : Nat → Nat → Int32) : Nat → Int64 → Int64
  | 0, d => d
  | n + 1, d => dgJ BF n 5 (dgB BF n d)
set_option maxRecDepth 100000 in
set_option maxHeartbeats 4000000 in
theorem c_X4_hoursToGoal {G : Cx} {w : Nat → Nat} {a b f : Nat → Int32} {wa : Int32} {lr : Value} {nd dg : Int32} {T N S C B O : Nat → Int32} {ch : Int32} {PC : Nat → Int32} {SF BF : Nat → Nat → Int32} {ps sc bc hh : Nat} (hps : ps ≤ 8) (hsc : sc ≤ 5) (hbc : bc ≤ 40) (hPC : ∀ k, k < 8 → 0 ≤ PC k ∧ PC k < 160) (hx : sOK SF sc) {i : Nat} (hi : i < sc) : Mt G Y_X4_hoursToGoal 4 0 0 [.ref (w 0), .ref (sS w i)] (WorldM w a b f wa lr nd dg T N S C B O ch PC SF BF ps sc bc hh) (fun v M' => v = some (.int ((hgQ T N C PC SF ps i f).1 (cN (SF i 4)))) ∧ M' = WorldM w (hgQ T N C PC SF ps i f).1 (hgQ T N C PC SF ps i f).2.1 (hgQ T N C PC SF ps i f).2.2.1 (hgQ T N C PC SF ps i f).2.2.2 (.ref (w 5)) (slN SF i) (slD SF i) T N S C B O ch PC SF BF ps sc bc hh) noX := by
  refine Mt.of (L := [some (.ref (w 0)), some (.ref (sS w i))]) rfl (by decide) (by simp [lg_sl, Value.category]) ⟨rfl, rfl, trivial⟩ (fun sz => ?_)
  refine v_aload_nR (pc := 0) dX4_hoursToGoal_0 rfl rfl ?_
  refine v_get (pc := 1) 0 0 fg_X4_12 rfl rfl dX4_hoursToGoal_1 ?_
  refine v_aload_nR (pc := 4) dX4_hoursToGoal_4 rfl rfl ?_
  refine v_get (pc := 5) 1 0 fg_X4_21 rfl rfl dX4_hoursToGoal_5 ?_
  refine v_aload_nR (pc := 8) dX4_hoursToGoal_8 rfl rfl ?_
  refine v_getS (pc := 9) 4 15 fg_X4_104 rfl (by omega) (by decide) dX4_hoursToGoal_9 ?_
  refine v_aload_nR (pc := 12) dX4_hoursToGoal_12 rfl rfl ?_
  refine v_aload_nR (pc := 13) dX4_hoursToGoal_13 rfl rfl ?_
  refine v_getS (pc := 14) 5 15 fg_X4_114 rfl (by omega) (by decide) dX4_hoursToGoal_14 ?_
  refine v_callV1 (pc := 17) (c_X4_cellOfPost hps hsc hbc) cm_X4_cellOfPost q524 q525 q526 (ci := 4) rfl rfl (orcO 0 rfl) [0, 1, 2, 3, 4, 5, 6, 7, 8, 9, 10, 11, 12, 13, 14, 15, 16] (by rfl) (by decide) (fun _ _ h => h) (by decide) (by decide) (by decide) (Nat.le_of_ble_eq_true rfl) dX4_hoursToGoal_17 (fun v17 M17 hQ17 => ?_)
  obtain ⟨rfl, rfl⟩ := hQ17
  try dsimp only [wb, LakeM, WaysM, WorldM, List.set_cons_succ, List.set_cons_zero, List.append_nil, List.nil_append, List.cons_append, Option.toList, Nat.sub_zero]
  rw [cpo_eq hps hPC]
  refine v_aload_nR (pc := 20) dX4_hoursToGoal_20 rfl rfl ?_
  refine v_callV0 (pc := 21) (c_X2_need (n := 5) (i := i) (by omega)) cm_X2_need q276 q277 q278 (ci := 2) rfl rfl (orcF 15 rfl (by omega)) [15] (by rfl) (by decide) (fun _ _ h => h) (by decide) (by decide) (by decide) (Nat.le_of_ble_eq_true rfl) dX4_hoursToGoal_21 (fun v21 M21 hQ21 => ?_)
  obtain ⟨rfl, rfl⟩ := hQ21
  try dsimp only [wb, LakeM, WaysM, WorldM, List.set_cons_succ, List.set_cons_zero, List.append_nil, List.nil_append, List.cons_append, Option.toList, Nat.sub_zero]
  refine v_aload_nR (pc := 24) dX4_hoursToGoal_24 rfl rfl ?_
  refine v_callV0 (pc := 25) (c_X2_ownDrag (n := 5) (i := i) (by omega) (hx i hi).1) cm_X2_ownDrag q580 q581 q582 (ci := 2) rfl rfl (orcF 15 rfl (by omega)) [15] (by rfl) (by decide) (fun _ _ h => h) (by decide) (by decide) (by decide) (Nat.le_of_ble_eq_true rfl) dX4_hoursToGoal_25 (fun v25 M25 hQ25 => ?_)
  obtain ⟨rfl, rfl⟩ := hQ25
  try dsimp only [wb, LakeM, WaysM, WorldM, List.set_cons_succ, List.set_cons_zero, List.append_nil, List.nil_append, List.cons_append, Option.toList, Nat.sub_zero]
  refine v_callV5 (pc := 28) (c_X3_lookX (hx i hi).2.1 (cpo_lt hps hPC)) cm_X3_look q587 q588 q589 (ci := 3) rfl rfl (orcO 1 rfl) [1, 2, 3, 4, 5, 6, 7, 8, 9, 10, 11] (by rfl) (by decide) (fun _ _ h => h) (by decide) (by decide) (by decide) (Nat.le_of_ble_eq_true rfl) dX4_hoursToGoal_28 (fun v28 M28 hQ28 => ?_)
  obtain ⟨rfl, rfl⟩ := hQ28
  try dsimp only [wb, LakeM, WaysM, WorldM, List.set_cons_succ, List.set_cons_zero, List.append_nil, List.nil_append, List.cons_append, Option.toList, Nat.sub_zero]
  refine v_iret (pc := 31) rfl rfl (Nat.le_of_ble_eq_true rfl) dX4_hoursToGoal_31 ?_
  exact ⟨rfl, rfl⟩
set_option maxRecDepth 100000 in
set_option maxHeartbeats 4000000 in
theorem lp_X4_dgP {G : Cx} {w : Nat → Nat} {a b f : Nat → Int32} {wa : Int32} {lr : Value} {nd dg : Int32} {T N S C B O : Nat → Int32} {ch : Int32} {PC : Nat → Int32} {SF BF : Nat → Nat → Int32} {ps sc bc hh : Nat} (hps : ps ≤ 8) (hsc : sc ≤ 5) (hbc : bc ≤ 40) {sz : Nat} {d0 : Int64} : ∀ (m i : Nat), m + i = 8 → V G Y_X4_digestPosts (ZM G (WorldM w a b f wa lr nd dg T N S C B O ch PC SF BF ps sc bc hh) sz (fun v M' => v = some (.long (dgP PC ps 8 d0)) ∧ M' = WorldM w a b f wa lr nd dg T N S C B O ch PC SF BF ps sc bc hh) noX) 0 0 0 5 [some (.ref (w 0)), some (.long d0), none, some (.long (dgP PC ps i d0)), none, some (.int (nI i))] [] (WorldM w a b f wa lr nd dg T N S C B O ch PC SF BF ps sc bc hh) := by
  intro m
  induction m with
  | zero =>
    intro i hi
    obtain rfl : i = 8 := by omega
    refine v_iload (pc := 5) dX4_digestPosts_5 rfl ?_
    refine v_bipush (pc := 7) (v := 8) dX4_digestPosts_7 rfl ?_
    refine v_icmp_ge (pc := 9) (tgt := 42) dX4_digestPosts_9 (by decide) (fun c9 => ?_) (fun c9 => absurd (nI_le (a := 8) (b := 8) (Nat.le_refl _) (by decide)) c9)
    have c9 : 8 ≤ 8 := (nI_leI (a := 8) (b := 8) (by omega) (by omega)).mp c9
    refine v_lload_n (pc := 42) dX4_digestPosts_42 rfl rfl ?_
    refine v_lret (pc := 43) rfl (Nat.le_of_ble_eq_true rfl) dX4_digestPosts_43 ?_
    exact ⟨rfl, rfl⟩
  | succ m ih =>
    intro i hi
    refine v_iload (pc := 5) dX4_digestPosts_5 rfl ?_
    refine v_bipush (pc := 7) (v := 8) dX4_digestPosts_7 rfl ?_
    refine v_icmp_ge (pc := 9) (tgt := 42) dX4_digestPosts_9 (by decide) (fun c9 => absurd c9 (nI_ge (a := i) (b := 8) (by omega) (by decide))) (fun c9 => ?_)
    have c9 : ¬ 8 ≤ i := fun h => c9 ((nI_leI (a := 8) (b := i) (by omega) (by omega)).mpr h)
    refine v_iload (pc := 12) dX4_digestPosts_12 rfl ?_
    refine v_aload_nR (pc := 14) dX4_digestPosts_14 rfl rfl ?_
    refine v_get (pc := 15) 5 0 fg_X4_53 rfl rfl dX4_digestPosts_15 ?_
    refine v_icmp_ge (pc := 18) (tgt := 36) dX4_digestPosts_18 (by decide) (fun c18 => ?_) (fun c18 => ?_)
    · have c18 : ps ≤ i := (nI_leI (a := ps) (b := i) (by omega) (by omega)).mp c18
      refine v_iinc (pc := 36) (v := nI (i + 1)) dX4_digestPosts_36 rfl (nI_1 _) (by decide) rfl ?_
      refine v_goto (pc := 39) (tgt := 5) dX4_digestPosts_39 (by decide) ?_
      have e : dgP PC ps (i + 1) d0 = _ := if_neg (Nat.not_lt.mpr c18)
      have k9 := ih (i + 1) (by omega)
      rw [e] at k9
      refine v_sub ?_ k9
      exact ⟨rfl, rfl, rfl, rfl, trivial⟩
    · have c18 : ¬ ps ≤ i := fun h => c18 ((nI_leI (a := ps) (b := i) (by omega) (by omega)).mpr h)
      refine v_lload_n (pc := 21) dX4_digestPosts_21 rfl rfl ?_
      refine v_ldc2 (pc := 22) q263 dX4_digestPosts_22 ?_
      refine v_lmul (pc := 25) dX4_digestPosts_25 ?_
      refine v_aload_nR (pc := 26) dX4_digestPosts_26 rfl rfl ?_
      refine v_get (pc := 27) 2 0 fg_X4_25 rfl rfl dX4_digestPosts_27 ?_
      refine v_iload (pc := 30) dX4_digestPosts_30 rfl ?_
      refine v_ialdN (pc := 32) 12 (k := i) rfl (by omega) (by decide) dX4_digestPosts_32 ?_
      refine v_i2l (pc := 33) dX4_digestPosts_33 ?_
      refine v_ladd (pc := 34) dX4_digestPosts_34 ?_
      refine v_lstore_n (pc := 35) dX4_digestPosts_35 rfl (by decide) rfl ?_
      refine v_iinc (pc := 36) (v := nI (i + 1)) dX4_digestPosts_36 rfl (nI_1 _) (by decide) rfl ?_
      refine v_goto (pc := 39) (tgt := 5) dX4_digestPosts_39 (by decide) ?_
      have e : dgP PC ps (i + 1) d0 = _ := if_pos (Nat.not_le.mp c18)
      have k9 := ih (i + 1) (by omega)
      rw [e] at k9
      refine v_sub ?_ k9
      exact ⟨rfl, rfl, rfl, rfl, trivial⟩
set_option maxRecDepth 100000 in
set_option maxHeartbeats 4000000 in
theorem c_X4_digestPosts {G : Cx} {w : Nat → Nat} {a b f : Nat → Int32} {wa : Int32} {lr : Value} {nd dg : Int32} {T N S C B O : Nat → Int32} {ch : Int32} {PC : Nat → Int32} {SF BF : Nat → Nat → Int32} {ps sc bc hh : Nat} (hps : ps ≤ 8) (hsc : sc ≤ 5) (hbc : bc ≤ 40) {d0 : Int64} : Mt G Y_X4_digestPosts 0 0 0 [.ref (w 0), .long d0] (WorldM w a b f wa lr nd dg T N S C B O ch PC SF BF ps sc bc hh) (fun v M' => v = some (.long (dgP PC ps 8 d0)) ∧ M' = WorldM w a b f wa lr nd dg T N S C B O ch PC SF BF ps sc bc hh) noX := by
  refine Mt.of (L := [some (.ref (w 0)), some (.long d0), none, none, none, none]) rfl (by decide) (by simp [lg_sl, Value.category]) ⟨rfl, rfl, trivial⟩ (fun sz => ?_)
  refine v_lload_n (pc := 0) dX4_digestPosts_0 rfl rfl ?_
  refine v_lstore_n (pc := 1) dX4_digestPosts_1 rfl (by decide) rfl ?_
  refine v_iconst (pc := 2) (v := 0) dX4_digestPosts_2 rfl ?_
  refine v_istore (pc := 3) dX4_digestPosts_3 (by decide) rfl ?_
  refine v_sub ?_ (lp_X4_dgP hps hsc hbc 8 0 (by omega))
  exact ⟨rfl, rfl, rfl, rfl, trivial⟩
set_option maxRecDepth 100000 in
set_option maxHeartbeats 4000000 in
theorem lp_X4_digestSleighs_in {G : Cx} {w : Nat → Nat} {a b f : Nat → Int32} {wa : Int32} {lr : Value} {nd dg : Int32} {T N S C B O : Nat → Int32} {ch : Int32} {PC : Nat → Int32} {SF BF : Nat → Nat → Int32} {ps sc bc hh : Nat} (hps : ps ≤ 8) (hsc : sc ≤ 5) (hbc : bc ≤ 40) {sz : Nat} {Z : ZT} {d0 d1 : Int64} {k0 : Nat} (hk : k0 < sc) (K : V G Y_X4_digestSleighs Z 3 0 0 52 [some (.ref (w 0)), some (.long d0), none, some (.long (dgK SF BF bc k0 9 d1)), none, some (.int (nI k0)), none] [] (WorldM w a b f wa lr nd dg T N S C B O ch PC SF BF ps sc bc hh)) : ∀ (m i : Nat), m + i = 9 → V G Y_X4_digestSleighs Z 3 0 0 14 [some (.ref (w 0)), some (.long d0), none, some (.long (dgK SF BF bc k0 i d1)), none, some (.int (nI k0)), some (.int (nI i))] [] (WorldM w a b f wa lr nd dg T N S C B O ch PC SF BF ps sc bc hh) := by
  intro m
  induction m with
  | zero =>
    intro i hi
    obtain rfl : i = 9 := by omega
    refine v_aload_nR (pc := 14) dX4_digestSleighs_14 rfl rfl ?_
    refine v_iload (pc := 15) dX4_digestSleighs_15 rfl ?_
    refine v_callV1 (pc := 17) (c_X4_sleighAt_k hps hsc hbc hk) cm_X4_sleighAt q237 q238 q239 (ci := 4) rfl rfl (orcO 0 rfl) [0, 1, 2, 3, 4, 5, 6, 7, 8, 9, 10, 11, 12, 13, 14, 15, 16] (by rfl) (by decide) (fun _ _ h => h) (by decide) (by decide) (by decide) (Nat.le_of_ble_eq_true rfl) dX4_digestSleighs_17 (fun v17 M17 hQ17 => ?_)
    obtain ⟨rfl, rfl⟩ := hQ17
    try dsimp only [wb, LakeM, WaysM, WorldM, List.set_cons_succ, List.set_cons_zero, List.append_nil, List.nil_append, List.cons_append, Option.toList, Nat.sub_zero]
    refine v_ifnullR (pc := 20) dX4_digestSleighs_20 ?_
    refine v_iload (pc := 23) dX4_digestSleighs_23 rfl ?_
    refine v_bipush (pc := 25) (v := 9) dX4_digestSleighs_25 rfl ?_
    refine v_icmp_ge (pc := 27) (tgt := 52) dX4_digestSleighs_27 (by decide) (fun c27 => ?_) (fun c27 => absurd (nI_le (a := 9) (b := 9) (Nat.le_refl _) (by decide)) c27)
    have c27 : 9 ≤ 9 := (nI_leI (a := 9) (b := 9) (by omega) (by omega)).mp c27
    refine v_sub ?_ K
    exact ⟨rfl, rfl, rfl, rfl, trivial⟩
  | succ m ih =>
    intro i hi
    refine v_aload_nR (pc := 14) dX4_digestSleighs_14 rfl rfl ?_
    refine v_iload (pc := 15) dX4_digestSleighs_15 rfl ?_
    refine v_callV1 (pc := 17) (c_X4_sleighAt_k hps hsc hbc hk) cm_X4_sleighAt q237 q238 q239 (ci := 4) rfl rfl (orcO 0 rfl) [0, 1, 2, 3, 4, 5, 6, 7, 8, 9, 10, 11, 12, 13, 14, 15, 16] (by rfl) (by decide) (fun _ _ h => h) (by decide) (by decide) (by decide) (Nat.le_of_ble_eq_true rfl) dX4_digestSleighs_17 (fun v17 M17 hQ17 => ?_)
    obtain ⟨rfl, rfl⟩ := hQ17
    try dsimp only [wb, LakeM, WaysM, WorldM, List.set_cons_succ, List.set_cons_zero, List.append_nil, List.nil_append, List.cons_append, Option.toList, Nat.sub_zero]
    refine v_ifnullR (pc := 20) dX4_digestSleighs_20 ?_
    refine v_iload (pc := 23) dX4_digestSleighs_23 rfl ?_
    refine v_bipush (pc := 25) (v := 9) dX4_digestSleighs_25 rfl ?_
    refine v_icmp_ge (pc := 27) (tgt := 52) dX4_digestSleighs_27 (by decide) (fun c27 => absurd c27 (nI_ge (a := i) (b := 9) (by omega) (by decide))) (fun c27 => ?_)
    have c27 : ¬ 9 ≤ i := fun h => c27 ((nI_leI (a := 9) (b := i) (by omega) (by omega)).mpr h)
    refine v_lload_n (pc := 30) dX4_digestSleighs_30 rfl rfl ?_
    refine v_ldc2 (pc := 31) q263 dX4_digestSleighs_31 ?_
    refine v_lmul (pc := 34) dX4_digestSleighs_34 ?_
    refine v_aload_nR (pc := 35) dX4_digestSleighs_35 rfl rfl ?_
    refine v_iload (pc := 36) dX4_digestSleighs_36 rfl ?_
    refine v_iload (pc := 38) dX4_digestSleighs_38 rfl ?_
    refine v_callV2 (pc := 40) (c_X4_tellSleigh hps hsc hbc hk (by omega)) cm_X4_tellSleigh q268 q269 q270 (ci := 4) rfl rfl (orcO 0 rfl) [0, 1, 2, 3, 4, 5, 6, 7, 8, 9, 10, 11, 12, 13, 14, 15, 16] (by rfl) (by decide) (fun _ _ h => h) (by decide) (by decide) (by decide) (Nat.le_of_ble_eq_true rfl) dX4_digestSleighs_40 (fun v40 M40 hQ40 => ?_)
    obtain ⟨rfl, rfl⟩ := hQ40
    try dsimp only [wb, LakeM, WaysM, WorldM, List.set_cons_succ, List.set_cons_zero, List.append_nil, List.nil_append, List.cons_append, Option.toList, Nat.sub_zero]
    refine v_i2l (pc := 43) dX4_digestSleighs_43 ?_
    refine v_ladd (pc := 44) dX4_digestSleighs_44 ?_
    refine v_lstore_n (pc := 45) dX4_digestSleighs_45 rfl (by decide) rfl ?_
    refine v_iinc (pc := 46) (v := nI (i + 1)) dX4_digestSleighs_46 rfl (nI_1 _) (by decide) rfl ?_
    refine v_goto (pc := 49) (tgt := 14) dX4_digestSleighs_49 (by decide) ?_
    exact ih (i + 1) (by omega)
set_option maxRecDepth 100000 in
set_option maxHeartbeats 4000000 in
theorem lp_X4_digestSleighs {G : Cx} {w : Nat → Nat} {a b f : Nat → Int32} {wa : Int32} {lr : Value} {nd dg : Int32} {T N S C B O : Nat → Int32} {ch : Int32} {PC : Nat → Int32} {SF BF : Nat → Nat → Int32} {ps sc bc hh : Nat} (hps : ps ≤ 8) (hsc : sc ≤ 5) (hbc : bc ≤ 40) {sz : Nat} {d0 : Int64} : ∀ (m i : Nat), m + i = 5 → V G Y_X4_digestSleighs (ZM G (WorldM w a b f wa lr nd dg T N S C B O ch PC SF BF ps sc bc hh) sz (fun v M' => v = some (.long (dgS SF BF bc sc d0)) ∧ M' = WorldM w a b f wa lr nd dg T N S C B O ch PC SF BF ps sc bc hh) noX) 3 0 0 5 [some (.ref (w 0)), some (.long d0), none, some (.long (dgS SF BF bc (min i sc) d0)), none, some (.int (nI i)), none] [] (WorldM w a b f wa lr nd dg T N S C B O ch PC SF BF ps sc bc hh) := by
  intro m
  induction m with
  | zero =>
    intro i hi
    obtain rfl : i = 5 := by omega
    refine v_iload (pc := 5) dX4_digestSleighs_5 rfl ?_
    refine v_iconst (pc := 7) (v := 5) dX4_digestSleighs_7 rfl ?_
    refine v_icmp_ge (pc := 8) (tgt := 58) dX4_digestSleighs_8 (by decide) (fun c8 => ?_) (fun c8 => absurd (nI_le (a := 5) (b := 5) (Nat.le_refl _) (by decide)) c8)
    have c8 : 5 ≤ 5 := (nI_leI (a := 5) (b := 5) (by omega) (by omega)).mp c8
    refine v_lload_n (pc := 58) dX4_digestSleighs_58 rfl rfl ?_
    refine v_lret (pc := 59) rfl (Nat.le_of_ble_eq_true rfl) dX4_digestSleighs_59 ?_
    exact ⟨by rw [show min 5 sc = sc from Nat.min_eq_right hsc], rfl⟩
  | succ m ih =>
    intro i hi
    refine v_iload (pc := 5) dX4_digestSleighs_5 rfl ?_
    refine v_iconst (pc := 7) (v := 5) dX4_digestSleighs_7 rfl ?_
    refine v_icmp_ge (pc := 8) (tgt := 58) dX4_digestSleighs_8 (by decide) (fun c8 => absurd c8 (nI_ge (a := i) (b := 5) (by omega) (by decide))) (fun c8 => ?_)
    have c8 : ¬ 5 ≤ i := fun h => c8 ((nI_leI (a := 5) (b := i) (by omega) (by omega)).mpr h)
    refine v_iconst (pc := 11) (v := 0) dX4_digestSleighs_11 rfl ?_
    refine v_istore (pc := 12) dX4_digestSleighs_12 (by decide) rfl ?_
    by_cases hS : i < sc
    · rw [show min i sc = i from Nat.min_eq_left (Nat.le_of_lt hS)]
      refine v_sub (L' := [some (.ref (w 0)), some (.long d0), none, some (.long (dgS SF BF bc i d0)), none, some (.int (nI i)), some (.int (nI 0))]) ?_ (lp_X4_digestSleighs_in (sz := sz) hps hsc hbc (d1 := dgS SF BF bc i d0) (k0 := i) hS ?_ 9 0 (by omega))
      · exact ⟨rfl, rfl, rfl, rfl, rfl, trivial⟩
      · refine v_iinc (pc := 52) (v := nI (i + 1)) dX4_digestSleighs_52 rfl (nI_1 _) (by decide) rfl ?_
        refine v_goto (pc := 55) (tgt := 5) dX4_digestSleighs_55 (by decide) ?_
        have k9 := ih (i + 1) (by omega)
        rw [show min (i + 1) sc = i + 1 from Nat.min_eq_left hS] at k9
        refine v_sub ?_ k9
        exact ⟨rfl, rfl, rfl, rfl, trivial⟩
    · refine v_aload_nR (pc := 14) dX4_digestSleighs_14 rfl rfl ?_
      refine v_iload (pc := 15) dX4_digestSleighs_15 rfl ?_
      refine v_callV1 (pc := 17) (c_X4_sleighAt_n hps hsc hbc (nk_no hS (by omega) (by omega))) cm_X4_sleighAt q237 q238 q239 (ci := 4) rfl rfl (orcO 0 rfl) [0, 1, 2, 3, 4, 5, 6, 7, 8, 9, 10, 11, 12, 13, 14, 15, 16] (by rfl) (by decide) (fun _ _ h => h) (by decide) (by decide) (by decide) (Nat.le_of_ble_eq_true rfl) dX4_digestSleighs_17 (fun v17 M17 hQ17 => ?_)
      obtain ⟨rfl, rfl⟩ := hQ17
      try dsimp only [wb, LakeM, WaysM, WorldM, List.set_cons_succ, List.set_cons_zero, List.append_nil, List.nil_append, List.cons_append, Option.toList, Nat.sub_zero]
      refine v_ifnullN (pc := 20) (tgt := 52) dX4_digestSleighs_20 (by decide) ?_
      refine v_iinc (pc := 52) (v := nI (i + 1)) dX4_digestSleighs_52 rfl (nI_1 _) (by decide) rfl ?_
      refine v_goto (pc := 55) (tgt := 5) dX4_digestSleighs_55 (by decide) ?_
      have k9 := ih (i + 1) (by omega)
      rw [show min (i + 1) sc = min i sc from (Nat.min_eq_right (by omega)).trans (Nat.min_eq_right (by omega)).symm] at k9
      refine v_sub ?_ k9
      exact ⟨rfl, rfl, rfl, rfl, trivial⟩
set_option maxRecDepth 100000 in
set_option maxHeartbeats 4000000 in
theorem c_X4_digestSleighs {G : Cx} {w : Nat → Nat} {a b f : Nat → Int32} {wa : Int32} {lr : Value} {nd dg : Int32} {T N S C B O : Nat → Int32} {ch : Int32} {PC : Nat → Int32} {SF BF : Nat → Nat → Int32} {ps sc bc hh : Nat} (hps : ps ≤ 8) (hsc : sc ≤ 5) (hbc : bc ≤ 40) {d0 : Int64} : Mt G Y_X4_digestSleighs 3 0 0 [.ref (w 0), .long d0] (WorldM w a b f wa lr nd dg T N S C B O ch PC SF BF ps sc bc hh) (fun v M' => v = some (.long (dgS SF BF bc sc d0)) ∧ M' = WorldM w a b f wa lr nd dg T N S C B O ch PC SF BF ps sc bc hh) noX := by
  refine Mt.of (L := [some (.ref (w 0)), some (.long d0), none, none, none, none, none]) rfl (by decide) (by simp [lg_sl, Value.category]) ⟨rfl, rfl, trivial⟩ (fun sz => ?_)
  refine v_lload_n (pc := 0) dX4_digestSleighs_0 rfl rfl ?_
  refine v_lstore_n (pc := 1) dX4_digestSleighs_1 rfl (by decide) rfl ?_
  refine v_iconst (pc := 2) (v := 0) dX4_digestSleighs_2 rfl ?_
  refine v_istore (pc := 3) dX4_digestSleighs_3 (by decide) rfl ?_
  have k9 := lp_X4_digestSleighs (G := G) (w := w) (a := a) (b := b) (f := f) (wa := wa) (lr := lr) (nd := nd) (dg := dg) (T := T) (N := N) (S := S) (C := C) (B := B) (O := O) (ch := ch) (PC := PC) (SF := SF) (BF := BF) (hh := hh) (sz := sz) (d0 := d0) hps hsc hbc 5 0 (by omega)
  rw [show min 0 sc = 0 from Nat.min_eq_left (Nat.zero_le _)] at k9
  refine v_sub ?_ k9
  exact ⟨rfl, rfl, rfl, rfl, trivial⟩
set_option maxRecDepth 100000 in
set_option maxHeartbeats 4000000 in
theorem lp_X4_digestBags_in {G : Cx} {w : Nat → Nat} {a b f : Nat → Int32} {wa : Int32} {lr : Value} {nd dg : Int32} {T N S C B O : Nat → Int32} {ch : Int32} {PC : Nat → Int32} {SF BF : Nat → Nat → Int32} {ps sc bc hh : Nat} (hps : ps ≤ 8) (hsc : sc ≤ 5) (hbc : bc ≤ 40) {sz : Nat} {Z : ZT} {d0 d1 : Int64} {k0 : Nat} (hk : k0 < bc) (K : V G Y_X4_digestBags Z 1 0 0 55 [some (.ref (w 0)), some (.long d0), none, some (.long (dgJ BF k0 5 d1)), none, some (.int (nI k0)), none, none] [] (WorldM w a b f wa lr nd dg T N S C B O ch PC SF BF ps sc bc hh)) : ∀ (m i : Nat), m + i = 5 → V G Y_X4_digestBags Z 1 0 0 23 [some (.ref (w 0)), some (.long d0), none, some (.long (dgJ BF k0 i d1)), none, some (.int (nI k0)), some (.ref (sB w k0)), some (.int (nI i))] [] (WorldM w a b f wa lr nd dg T N S C B O ch PC SF BF ps sc bc hh) := by
  intro m
  induction m with
  | zero =>
    intro i hi
    obtain rfl : i = 5 := by omega
    refine v_aloadR (pc := 23) dX4_digestBags_23 rfl ?_
    refine v_ifnullR (pc := 25) dX4_digestBags_25 ?_
    refine v_iload (pc := 28) dX4_digestBags_28 rfl ?_
    refine v_iconst (pc := 30) (v := 5) dX4_digestBags_30 rfl ?_
    refine v_icmp_ge (pc := 31) (tgt := 55) dX4_digestBags_31 (by decide) (fun c31 => ?_) (fun c31 => absurd (nI_le (a := 5) (b := 5) (Nat.le_refl _) (by decide)) c31)
    have c31 : 5 ≤ 5 := (nI_leI (a := 5) (b := 5) (by omega) (by omega)).mp c31
    refine v_sub ?_ K
    exact ⟨rfl, rfl, rfl, rfl, trivial⟩
  | succ m ih =>
    intro i hi
    refine v_aloadR (pc := 23) dX4_digestBags_23 rfl ?_
    refine v_ifnullR (pc := 25) dX4_digestBags_25 ?_
    refine v_iload (pc := 28) dX4_digestBags_28 rfl ?_
    refine v_iconst (pc := 30) (v := 5) dX4_digestBags_30 rfl ?_
    refine v_icmp_ge (pc := 31) (tgt := 55) dX4_digestBags_31 (by decide) (fun c31 => absurd c31 (nI_ge (a := i) (b := 5) (by omega) (by decide))) (fun c31 => ?_)
    have c31 : ¬ 5 ≤ i := fun h => c31 ((nI_leI (a := 5) (b := i) (by omega) (by omega)).mpr h)
    refine v_lload_n (pc := 34) dX4_digestBags_34 rfl rfl ?_
    refine v_ldc2 (pc := 35) q263 dX4_digestBags_35 ?_
    refine v_lmul (pc := 38) dX4_digestBags_38 ?_
    refine v_aloadR (pc := 39) dX4_digestBags_39 rfl ?_
    refine v_iload (pc := 41) dX4_digestBags_41 rfl ?_
    refine v_callV1 (pc := 43) (c_X0_tell (n := 40) (i := k0) (by omega) (by omega)) cm_X0_tell q296 q297 q298 (ci := 0) rfl rfl (orcF 16 rfl (by omega)) [16] (by rfl) (by decide) (fun _ _ h => h) (by decide) (by decide) (by decide) (Nat.le_of_ble_eq_true rfl) dX4_digestBags_43 (fun v43 M43 hQ43 => ?_)
    obtain ⟨rfl, rfl⟩ := hQ43
    try dsimp only [wb, LakeM, WaysM, WorldM, List.set_cons_succ, List.set_cons_zero, List.append_nil, List.nil_append, List.cons_append, Option.toList, Nat.sub_zero]
    refine v_i2l (pc := 46) dX4_digestBags_46 ?_
    refine v_ladd (pc := 47) dX4_digestBags_47 ?_
    refine v_lstore_n (pc := 48) dX4_digestBags_48 rfl (by decide) rfl ?_
    refine v_iinc (pc := 49) (v := nI (i + 1)) dX4_digestBags_49 rfl (nI_1 _) (by decide) rfl ?_
    refine v_goto (pc := 52) (tgt := 23) dX4_digestBags_52 (by decide) ?_
    exact ih (i + 1) (by omega)
set_option maxRecDepth 100000 in
set_option maxHeartbeats 4000000 in
theorem lp_X4_digestBags {G : Cx} {w : Nat → Nat} {a b f : Nat → Int32} {wa : Int32} {lr : Value} {nd dg : Int32} {T N S C B O : Nat → Int32} {ch : Int32} {PC : Nat → Int32} {SF BF : Nat → Nat → Int32} {ps sc bc hh : Nat} (hps : ps ≤ 8) (hsc : sc ≤ 5) (hbc : bc ≤ 40) {sz : Nat} {d0 : Int64} : ∀ (m i : Nat), m + i = 40 → V G Y_X4_digestBags (ZM G (WorldM w a b f wa lr nd dg T N S C B O ch PC SF BF ps sc bc hh) sz (fun v M' => v = some (.long (dgB BF bc d0)) ∧ M' = WorldM w a b f wa lr nd dg T N S C B O ch PC SF BF ps sc bc hh) noX) 1 0 0 5 [some (.ref (w 0)), some (.long d0), none, some (.long (dgB BF (min i bc) d0)), none, some (.int (nI i)), none, none] [] (WorldM w a b f wa lr nd dg T N S C B O ch PC SF BF ps sc bc hh) := by
  intro m
  induction m with
  | zero =>
    intro i hi
    obtain rfl : i = 40 := by omega
    refine v_iload (pc := 5) dX4_digestBags_5 rfl ?_
    refine v_bipush (pc := 7) (v := 40) dX4_digestBags_7 rfl ?_
    refine v_icmp_ge (pc := 9) (tgt := 61) dX4_digestBags_9 (by decide) (fun c9 => ?_) (fun c9 => absurd (nI_le (a := 40) (b := 40) (Nat.le_refl _) (by decide)) c9)
    have c9 : 40 ≤ 40 := (nI_leI (a := 40) (b := 40) (by omega) (by omega)).mp c9
    refine v_lload_n (pc := 61) dX4_digestBags_61 rfl rfl ?_
    refine v_lret (pc := 62) rfl (Nat.le_of_ble_eq_true rfl) dX4_digestBags_62 ?_
    exact ⟨by rw [show min 40 bc = bc from Nat.min_eq_right hbc], rfl⟩
  | succ m ih =>
    intro i hi
    refine v_iload (pc := 5) dX4_digestBags_5 rfl ?_
    refine v_bipush (pc := 7) (v := 40) dX4_digestBags_7 rfl ?_
    refine v_icmp_ge (pc := 9) (tgt := 61) dX4_digestBags_9 (by decide) (fun c9 => absurd c9 (nI_ge (a := i) (b := 40) (by omega) (by decide))) (fun c9 => ?_)
    have c9 : ¬ 40 ≤ i := fun h => c9 ((nI_leI (a := 40) (b := i) (by omega) (by omega)).mpr h)
    refine v_aload_nR (pc := 12) dX4_digestBags_12 rfl rfl ?_
    refine v_iload (pc := 13) dX4_digestBags_13 rfl ?_
    by_cases c15 : i < bc
    · refine v_callV1 (pc := 15) (c_X4_bagAt_k hps hsc hbc c15) cm_X4_bagAt q245 q246 q247 (ci := 4) rfl rfl (orcO 0 rfl) [0, 1, 2, 3, 4, 5, 6, 7, 8, 9, 10, 11, 12, 13, 14, 15, 16] (by rfl) (by decide) (fun _ _ h => h) (by decide) (by decide) (by decide) (Nat.le_of_ble_eq_true rfl) dX4_digestBags_15 (fun v15 M15 hQ15 => ?_)
      obtain ⟨rfl, rfl⟩ := hQ15
      try dsimp only [wb, LakeM, WaysM, WorldM, List.set_cons_succ, List.set_cons_zero, List.append_nil, List.nil_append, List.cons_append, Option.toList, Nat.sub_zero]
      refine v_astoreR (pc := 18) dX4_digestBags_18 (by decide) rfl ?_
      refine v_iconst (pc := 20) (v := 0) dX4_digestBags_20 rfl ?_
      refine v_istore (pc := 21) dX4_digestBags_21 (by decide) rfl ?_
      have hS := c15
      rw [show min i bc = i from Nat.min_eq_left (Nat.le_of_lt hS)]
      refine v_sub (L' := [some (.ref (w 0)), some (.long d0), none, some (.long (dgB BF i d0)), none, some (.int (nI i)), some (.ref (sB w i)), some (.int (nI 0))]) ?_ (lp_X4_digestBags_in (sz := sz) hps hsc hbc (d1 := dgB BF i d0) (k0 := i) hS ?_ 5 0 (by omega))
      · exact ⟨rfl, rfl, rfl, rfl, rfl, rfl, trivial⟩
      · refine v_iinc (pc := 55) (v := nI (i + 1)) dX4_digestBags_55 rfl (nI_1 _) (by decide) rfl ?_
        refine v_goto (pc := 58) (tgt := 5) dX4_digestBags_58 (by decide) ?_
        have k9 := ih (i + 1) (by omega)
        rw [show min (i + 1) bc = i + 1 from Nat.min_eq_left hS] at k9
        refine v_sub ?_ k9
        exact ⟨rfl, rfl, rfl, rfl, trivial⟩
    · refine v_callV1 (pc := 15) (c_X4_bagAt_n hps hsc hbc (nk_no c15 (by omega) (by omega))) cm_X4_bagAt q245 q246 q247 (ci := 4) rfl rfl (orcO 0 rfl) [0, 1, 2, 3, 4, 5, 6, 7, 8, 9, 10, 11, 12, 13, 14, 15, 16] (by rfl) (by decide) (fun _ _ h => h) (by decide) (by decide) (by decide) (Nat.le_of_ble_eq_true rfl) dX4_digestBags_15 (fun v15 M15 hQ15 => ?_)
      obtain ⟨rfl, rfl⟩ := hQ15
      try dsimp only [wb, LakeM, WaysM, WorldM, List.set_cons_succ, List.set_cons_zero, List.append_nil, List.nil_append, List.cons_append, Option.toList, Nat.sub_zero]
      refine v_astoreN (pc := 18) dX4_digestBags_18 (by decide) rfl ?_
      refine v_iconst (pc := 20) (v := 0) dX4_digestBags_20 rfl ?_
      refine v_istore (pc := 21) dX4_digestBags_21 (by decide) rfl ?_
      have hS := c15
      refine v_aloadN (pc := 23) dX4_digestBags_23 rfl ?_
      refine v_ifnullN (pc := 25) (tgt := 55) dX4_digestBags_25 (by decide) ?_
      refine v_iinc (pc := 55) (v := nI (i + 1)) dX4_digestBags_55 rfl (nI_1 _) (by decide) rfl ?_
      refine v_goto (pc := 58) (tgt := 5) dX4_digestBags_58 (by decide) ?_
      have k9 := ih (i + 1) (by omega)
      rw [show min (i + 1) bc = min i bc from (Nat.min_eq_right (by omega)).trans (Nat.min_eq_right (by omega)).symm] at k9
      refine v_sub ?_ k9
      exact ⟨rfl, rfl, rfl, rfl, trivial⟩
set_option maxRecDepth 100000 in
set_option maxHeartbeats 4000000 in
theorem c_X4_digestBags {G : Cx} {w : Nat → Nat} {a b f : Nat → Int32} {wa : Int32} {lr : Value} {nd dg : Int32} {T N S C B O : Nat → Int32} {ch : Int32} {PC : Nat → Int32} {SF BF : Nat → Nat → Int32} {ps sc bc hh : Nat} (hps : ps ≤ 8) (hsc : sc ≤ 5) (hbc : bc ≤ 40) {d0 : Int64} : Mt G Y_X4_digestBags 1 0 0 [.ref (w 0), .long d0] (WorldM w a b f wa lr nd dg T N S C B O ch PC SF BF ps sc bc hh) (fun v M' => v = some (.long (dgB BF bc d0)) ∧ M' = WorldM w a b f wa lr nd dg T N S C B O ch PC SF BF ps sc bc hh) noX := by
  refine Mt.of (L := [some (.ref (w 0)), some (.long d0), none, none, none, none, none, none]) rfl (by decide) (by simp [lg_sl, Value.category]) ⟨rfl, rfl, trivial⟩ (fun sz => ?_)
  refine v_lload_n (pc := 0) dX4_digestBags_0 rfl rfl ?_
  refine v_lstore_n (pc := 1) dX4_digestBags_1 rfl (by decide) rfl ?_
  refine v_iconst (pc := 2) (v := 0) dX4_digestBags_2 rfl ?_
  refine v_istore (pc := 3) dX4_digestBags_3 (by decide) rfl ?_
  have k9 := lp_X4_digestBags (G := G) (w := w) (a := a) (b := b) (f := f) (wa := wa) (lr := lr) (nd := nd) (dg := dg) (T := T) (N := N) (S := S) (C := C) (B := B) (O := O) (ch := ch) (PC := PC) (SF := SF) (BF := BF) (hh := hh) (sz := sz) (d0 := d0) hps hsc hbc 40 0 (by omega)
  rw [show min 0 bc = 0 from Nat.min_eq_left (Nat.zero_le _)] at k9
  refine v_sub ?_ k9
  exact ⟨rfl, rfl, rfl, rfl, trivial⟩
