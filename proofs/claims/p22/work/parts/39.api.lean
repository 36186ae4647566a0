/-! the class's own calls: each by one answer: code (0, or which exception), value, new state -/
abbrev onM (x y : Int32) : Prop := (0 ≤ x ∧ x ≤ 15) ∧ (0 ≤ y ∧ y ≤ 9)
abbrev isP (ps : Nat) (q : Int32) : Prop := 0 ≤ q ∧ q < nI ps
theorem le_nI {x : Int32} (n : Nat) (hn : n < 2 ^ 31) (h : 0 ≤ x ∧ x ≤ nI n) : ∃ a, a ≤ n ∧ x = nI a := nI_of2 (nI_toInt hn) (Int32.not_lt.mpr h.1) h.2
theorem onM_of {x y : Int32} (h : onM x y) : ∃ a b, a ≤ 15 ∧ b ≤ 9 ∧ x = nI a ∧ y = nI b := by
  obtain ⟨a, h1, h2⟩ := le_nI 15 (by decide) h.1
  obtain ⟨b, h3, h4⟩ := le_nI 9 (by decide) h.2
  exact ⟨a, b, h1, h3, h2, h4⟩
def rSn (N : Nat → Int32) (x y s : Int32) : Int32 × Int32 × (Nat → Int32) := if onM x y then (if 1 ≤ s ∧ s ≤ 9 then (0, N (cN (x + 16 * y)), upd N (cN (x + 16 * y)) s) else (2, 0, N)) else (1, 0, N)
def rCo (O : Nat → Int32) (d c : Int32) : Int32 × Int32 × (Nat → Int32) := if 0 ≤ d ∧ d ≤ 7 then (if -9 ≤ c ∧ c ≤ 9 then (0, O (cN d), upd O (cN d) c) else (2, 0, O)) else (1, 0, O)
def rCe (T N S C PC : Nat → Int32) (SF : Nat → Nat → Int32) (ps sc : Nat) (x y q : Int32) : Int32 × Int32 := if onM x y ∧ (0 ≤ q ∧ q ≤ 5) then (0, tlC T N S C PC SF ps sc (cN (x + 16 * y)) (cN q)) else (1, 0)
def rAP (T S C PC : Nat → Int32) (ps : Nat) (ch x y : Int32) : Int32 × Int32 × (Nat → Int32) × (Nat → Int32) × (Nat → Int32) × (Nat → Int32) × Nat × Int32 := if onM x y then (if pOn PC ps (x + 16 * y) 8 0 = none ∧ ps < 8 then (0, nI ps, upd T (cN (x + 16 * y)) (-1), upd S (cN (x + 16 * y)) 0, upd C (cN (x + 16 * y)) 0, upd PC ps (x + 16 * y), ps + 1, ch + 1) else (2, 0, T, S, C, PC, ps, ch)) else (1, 0, T, S, C, PC, ps, ch)
def rAS (PC : Nat → Int32) (SF : Nat → Nat → Int32) (ps sc : Nat) (q r : Int32) : Int32 × Int32 × (Nat → Nat → Int32) × Nat := if isP ps q then (if 1 ≤ r ∧ r ≤ 6 then (if sc < 5 then (0, nI sc, begS SF sc q (cop PC ps q) r, sc + 1) else (3, 0, SF, sc)) else (2, 0, SF, sc)) else (1, 0, SF, sc)
def rAB (BF : Nat → Nat → Int32) (ps bc : Nat) (a b c : Int32) : Int32 × Int32 × (Nat → Nat → Int32) × Nat := if isP ps a ∧ isP ps b then (if ¬ a = b ∧ (1 ≤ c ∧ c ≤ 30) then (if bc < 40 then (0, nI bc, begB BF bc a b c, bc + 1) else (3, 0, BF, bc)) else (2, 0, BF, bc)) else (1, 0, BF, bc)
def rCn (T C : Nat → Int32) (SF BF : Nat → Nat → Int32) (ps sc bc hh : Nat) (q : Int32) : Int32 × Int32 := if 0 ≤ q ∧ q ≤ 8 then (0, tlN T C SF BF ps sc bc hh (cN q)) else (1, 0)
def rSl (SF BF : Nat → Nat → Int32) (sc bc : Nat) (s q : Int32) : Int32 × Int32 := if isP sc s ∧ (0 ≤ q ∧ q ≤ 8) then (0, tlS SF BF bc (cN s) (cN q)) else (1, 0)
def rBg (BF : Nat → Nat → Int32) (bc : Nat) (b q : Int32) : Int32 × Int32 := if isP bc b ∧ (0 ≤ q ∧ q ≤ 4) then (0, BF (cN b) (cN q)) else (1, 0)
abbrev IOX := "java/lang/IndexOutOfBoundsException"
abbrev IAX := "java/lang/IllegalArgumentException"
abbrev ISX := "java/lang/IllegalStateException"
set_option maxRecDepth 100000 in
set_option maxHeartbeats 4000000 in
theorem c_X5_setSnow {G : Cx} {w : Nat → Nat} {a b f : Nat → Int32} {wa : Int32} {lr : Value} {nd dg : Int32} {T N S C B O : Nat → Int32} {ch : Int32} {PC : Nat → Int32} {SF BF : Nat → Nat → Int32} {ps sc bc hh : Nat} {g0 u0 : Nat} (hps : ps ≤ 8) (hsc : sc ≤ 5) (hbc : bc ≤ 40) {x y s : Int32} : Mt G Y_X5_setSnow 7 1 6 [.ref g0, .int x, .int y, .int s] (eO 5 g0 [.ref (w 0), .ref u0] :: WorldM w a b f wa lr nd dg T N S C B O ch PC SF BF ps sc bc hh) (fun v M' => (rSn N x y s).1 = 0 ∧ v = some (.int ((rSn N x y s).2.1)) ∧ M' = eO 5 g0 [.ref (w 0), .ref u0] :: WorldM w a b f wa lr nd dg T (rSn N x y s).2.2 S C B O ch PC SF BF ps sc bc hh) (fun E M' => M' = eO 5 g0 [.ref (w 0), .ref u0] :: WorldM w a b f wa lr nd dg T (rSn N x y s).2.2 S C B O ch PC SF BF ps sc bc hh ∧ ((E = IOX ∧ (rSn N x y s).1 = 1) ∨ (E = IAX ∧ (rSn N x y s).1 = 2))) := by
  refine Mt.of (L := [some (.ref g0), some (.int x), some (.int y), some (.int s), none]) rfl (by decide) (by simp [lg_sl, Value.category]) ⟨rfl, rfl, rfl, rfl, trivial⟩ (fun sz => ?_)
  refine v_iload_n (pc := 0) dX5_setSnow_0 rfl rfl ?_
  refine v_iload_n (pc := 1) dX5_setSnow_1 rfl rfl ?_
  refine v_callS2 (pc := 2) (c_X5_isOnMap ) cm_X5_isOnMap q211 q212 [] (by rfl) (by decide) (fun _ _ h => h) (by decide) (by decide) (by decide) (Nat.le_of_ble_eq_true rfl) dX5_setSnow_2 (fun v2 M2 hQ2 => ?_)
  obtain ⟨rfl, rfl⟩ := hQ2
  try dsimp only [wb, LakeM, WaysM, WorldM, List.set_cons_succ, List.set_cons_zero, List.append_nil, List.nil_append, List.cons_append, Option.toList, Nat.sub_zero]
  refine v_if_ne (pc := 5) (tgt := 18) dX5_setSnow_5 (by decide) (fun c5 => ?_) (fun c5 => ?_)
  · have c5 := bI_n.mp c5
    refine v_iload_n (pc := 18) dX5_setSnow_18 rfl rfl ?_
    refine v_iconst (pc := 19) (v := 1) dX5_setSnow_19 rfl ?_
    refine v_bipush (pc := 20) (v := 9) dX5_setSnow_20 rfl ?_
    refine v_callS3 (pc := 22) (c_X5_isWithin ) cm_X5_isWithin q214 q215 [] (by rfl) (by decide) (fun _ _ h => h) (by decide) (by decide) (by decide) (Nat.le_of_ble_eq_true rfl) dX5_setSnow_22 (fun v22 M22 hQ22 => ?_)
    obtain ⟨rfl, rfl⟩ := hQ22
    try dsimp only [wb, LakeM, WaysM, WorldM, List.set_cons_succ, List.set_cons_zero, List.append_nil, List.nil_append, List.cons_append, Option.toList, Nat.sub_zero]
    refine v_if_ne (pc := 25) (tgt := 38) dX5_setSnow_25 (by decide) (fun c25 => ?_) (fun c25 => ?_)
    · have c25 := bI_n.mp c25
      obtain ⟨a, b, ha, hb, rfl, rfl⟩ := onM_of c5
      have hk : a + 16 * b < 160 := by omega
      have hcN : cN (nI a + 16 * nI b) = a + 16 * b := by rw [kf_cell, cN_nI (by omega)]
      refine v_aload_nR (pc := 38) dX5_setSnow_38 rfl rfl ?_
      refine v_get (pc := 39) 0 0 fg_X5_10 rfl rfl dX5_setSnow_39 ?_
      refine v_get (pc := 42) 1 1 fg_X5_42 rfl rfl dX5_setSnow_42 ?_
      refine v_iload_n (pc := 45) dX5_setSnow_45 rfl rfl ?_
      refine v_iload_n (pc := 46) dX5_setSnow_46 rfl rfl ?_
      refine v_callS2 (pc := 47) (c_X5_numberOf ) cm_X5_numberOf q285 q286 [] (by rfl) (by decide) (fun _ _ h => h) (by decide) (by decide) (by decide) (Nat.le_of_ble_eq_true rfl) dX5_setSnow_47 (fun v47 M47 hQ47 => ?_)
      obtain ⟨rfl, rfl⟩ := hQ47
      try dsimp only [wb, LakeM, WaysM, WorldM, List.set_cons_succ, List.set_cons_zero, List.append_nil, List.nil_append, List.cons_append, Option.toList, Nat.sub_zero]
      rw [kf_cell]
      refine v_callV1 (pc := 50) (c_X1_snowOf hk) cm_X1_snowOf q721 q300 q301 (ci := 1) rfl rfl (orcO 6 rfl) [6, 7, 8, 9, 10, 11, 12] (by rfl) (by decide) (fun _ _ h => h) (by decide) (by decide) (by decide) (Nat.le_of_ble_eq_true rfl) dX5_setSnow_50 (fun v50 M50 hQ50 => ?_)
      obtain ⟨rfl, rfl⟩ := hQ50
      try dsimp only [wb, LakeM, WaysM, WorldM, List.set_cons_succ, List.set_cons_zero, List.append_nil, List.nil_append, List.cons_append, Option.toList, Nat.sub_zero]
      refine v_istore (pc := 53) dX5_setSnow_53 (by decide) rfl ?_
      refine v_aload_nR (pc := 55) dX5_setSnow_55 rfl rfl ?_
      refine v_get (pc := 56) 0 0 fg_X5_10 rfl rfl dX5_setSnow_56 ?_
      refine v_get (pc := 59) 1 1 fg_X5_42 rfl rfl dX5_setSnow_59 ?_
      refine v_iload_n (pc := 62) dX5_setSnow_62 rfl rfl ?_
      refine v_iload_n (pc := 63) dX5_setSnow_63 rfl rfl ?_
      refine v_callS2 (pc := 64) (c_X5_numberOf ) cm_X5_numberOf q285 q286 [] (by rfl) (by decide) (fun _ _ h => h) (by decide) (by decide) (by decide) (Nat.le_of_ble_eq_true rfl) dX5_setSnow_64 (fun v64 M64 hQ64 => ?_)
      obtain ⟨rfl, rfl⟩ := hQ64
      try dsimp only [wb, LakeM, WaysM, WorldM, List.set_cons_succ, List.set_cons_zero, List.append_nil, List.nil_append, List.cons_append, Option.toList, Nat.sub_zero]
      rw [kf_cell]
      refine v_iload_n (pc := 67) dX5_setSnow_67 rfl rfl ?_
      refine v_callV2 (pc := 68) (c_X1_snowOver hk) cm_X1_snowOver q722 q723 q724 (ci := 1) rfl rfl (orcO 6 rfl) [6, 7, 8, 9, 10, 11, 12] (by rfl) (by decide) (fun _ _ h => h) (by decide) (by decide) (by decide) (Nat.le_of_ble_eq_true rfl) dX5_setSnow_68 (fun v68 M68 hQ68 => ?_)
      obtain ⟨rfl, rfl⟩ := hQ68
      try dsimp only [wb, LakeM, WaysM, WorldM, List.set_cons_succ, List.set_cons_zero, List.append_nil, List.nil_append, List.cons_append, Option.toList, Nat.sub_zero]
      refine v_iload (pc := 71) dX5_setSnow_71 rfl ?_
      refine v_iret (pc := 73) rfl rfl (Nat.le_of_ble_eq_true rfl) dX5_setSnow_73 ?_
      have e : (rSn N (nI a) (nI b) s) = (0, N (a + 16 * b), upd N (a + 16 * b) s) := by
        unfold rSn
        rw [if_pos c5, if_pos c25, hcN]
      rw [e]
      exact ⟨rfl, rfl, rfl⟩
    · have c25 := bI_0.mp c25
      exact v_throw (pc := 28) (names := ["java/lang/RuntimeException", "java/lang/Exception"]) tw_X5_27_65_31 rfl (Nat.le_of_ble_eq_true rfl) dX5_setSnow_28 dX5_setSnow_31 dX5_setSnow_32 dX5_setSnow_34 dX5_setSnow_37 (by decide) (Nat.le_of_ble_eq_true rfl) (by decide) (by decide) (by (have e : (rSn N x y s) = (2, 0, N) := ((if_pos c5).trans (if_neg c25)); rw [e]; exact ⟨rfl, Or.inr (⟨rfl, rfl⟩)⟩))
  · have c5 := bI_0.mp c5
    exact v_throw (pc := 8) (names := ["java/lang/RuntimeException", "java/lang/Exception"]) tw_X5_60_62_64 rfl (Nat.le_of_ble_eq_true rfl) dX5_setSnow_8 dX5_setSnow_11 dX5_setSnow_12 dX5_setSnow_14 dX5_setSnow_17 (by decide) (Nat.le_of_ble_eq_true rfl) (by decide) (by decide) (by (have e : (rSn N x y s) = (1, 0, N) := (if_neg c5); rw [e]; exact ⟨rfl, Or.inl ⟨rfl, rfl⟩⟩))
set_option maxRecDepth 100000 in
set_option maxHeartbeats 4000000 in
theorem c_X5_setCold {G : Cx} {w : Nat → Nat} {a b f : Nat → Int32} {wa : Int32} {lr : Value} {nd dg : Int32} {T N S C B O : Nat → Int32} {ch : Int32} {PC : Nat → Int32} {SF BF : Nat → Nat → Int32} {ps sc bc hh : Nat} {g0 u0 : Nat} (hps : ps ≤ 8) (hsc : sc ≤ 5) (hbc : bc ≤ 40) {q c : Int32} : Mt G Y_X5_setCold 7 1 6 [.ref g0, .int q, .int c] (eO 5 g0 [.ref (w 0), .ref u0] :: WorldM w a b f wa lr nd dg T N S C B O ch PC SF BF ps sc bc hh) (fun v M' => (rCo O q c).1 = 0 ∧ v = some (.int ((rCo O q c).2.1)) ∧ M' = eO 5 g0 [.ref (w 0), .ref u0] :: WorldM w a b f wa lr nd dg T N S C B (rCo O q c).2.2 ch PC SF BF ps sc bc hh) (fun E M' => M' = eO 5 g0 [.ref (w 0), .ref u0] :: WorldM w a b f wa lr nd dg T N S C B (rCo O q c).2.2 ch PC SF BF ps sc bc hh ∧ ((E = IOX ∧ (rCo O q c).1 = 1) ∨ (E = IAX ∧ (rCo O q c).1 = 2))) := by
  refine Mt.of (L := [some (.ref g0), some (.int q), some (.int c), none]) rfl (by decide) (by simp [lg_sl, Value.category]) ⟨rfl, rfl, rfl, trivial⟩ (fun sz => ?_)
  refine v_iload_n (pc := 0) dX5_setCold_0 rfl rfl ?_
  refine v_iconst (pc := 1) (v := 0) dX5_setCold_1 rfl ?_
  refine v_bipush (pc := 2) (v := 7) dX5_setCold_2 rfl ?_
  refine v_callS3 (pc := 4) (c_X5_isWithin ) cm_X5_isWithin q214 q215 [] (by rfl) (by decide) (fun _ _ h => h) (by decide) (by decide) (by decide) (Nat.le_of_ble_eq_true rfl) dX5_setCold_4 (fun v4 M4 hQ4 => ?_)
  obtain ⟨rfl, rfl⟩ := hQ4
  try dsimp only [wb, LakeM, WaysM, WorldM, List.set_cons_succ, List.set_cons_zero, List.append_nil, List.nil_append, List.cons_append, Option.toList, Nat.sub_zero]
  refine v_if_ne (pc := 7) (tgt := 20) dX5_setCold_7 (by decide) (fun c7 => ?_) (fun c7 => ?_)
  · have c7 := bI_n.mp c7
    refine v_iload_n (pc := 20) dX5_setCold_20 rfl rfl ?_
    refine v_bipush (pc := 21) (v := -9) dX5_setCold_21 rfl ?_
    refine v_bipush (pc := 23) (v := 9) dX5_setCold_23 rfl ?_
    refine v_callS3 (pc := 25) (c_X5_isWithin ) cm_X5_isWithin q214 q215 [] (by rfl) (by decide) (fun _ _ h => h) (by decide) (by decide) (by decide) (Nat.le_of_ble_eq_true rfl) dX5_setCold_25 (fun v25 M25 hQ25 => ?_)
    obtain ⟨rfl, rfl⟩ := hQ25
    try dsimp only [wb, LakeM, WaysM, WorldM, List.set_cons_succ, List.set_cons_zero, List.append_nil, List.nil_append, List.cons_append, Option.toList, Nat.sub_zero]
    refine v_if_ne (pc := 28) (tgt := 41) dX5_setCold_28 (by decide) (fun c28 => ?_) (fun c28 => ?_)
    · have c28 := bI_n.mp c28
      obtain ⟨a, ha, rfl⟩ := le_nI 7 (by decide) c7
      refine v_aload_nR (pc := 41) dX5_setCold_41 rfl rfl ?_
      refine v_get (pc := 42) 0 0 fg_X5_10 rfl rfl dX5_setCold_42 ?_
      refine v_get (pc := 45) 1 1 fg_X5_42 rfl rfl dX5_setCold_45 ?_
      refine v_get (pc := 48) 5 6 fg_X5_78 rfl rfl dX5_setCold_48 ?_
      refine v_iload_n (pc := 51) dX5_setCold_51 rfl rfl ?_
      refine v_ialdN (pc := 52) 12 (k := a) rfl (by omega) (by decide) dX5_setCold_52 ?_
      refine v_istore_n (pc := 53) dX5_setCold_53 rfl (by decide) rfl ?_
      refine v_aload_nR (pc := 54) dX5_setCold_54 rfl rfl ?_
      refine v_get (pc := 55) 0 0 fg_X5_10 rfl rfl dX5_setCold_55 ?_
      refine v_get (pc := 58) 1 1 fg_X5_42 rfl rfl dX5_setCold_58 ?_
      refine v_get (pc := 61) 5 6 fg_X5_78 rfl rfl dX5_setCold_61 ?_
      refine v_iload_n (pc := 64) dX5_setCold_64 rfl rfl ?_
      refine v_iload_n (pc := 65) dX5_setCold_65 rfl rfl ?_
      refine v_iastN (pc := 66) 12 (k := a) rfl (by omega) (by decide) dX5_setCold_66 ?_
      try dsimp only [wb, LakeM, WaysM, WorldM, List.set_cons_succ, List.set_cons_zero, List.append_nil, List.nil_append, List.cons_append, Option.toList, Nat.sub_zero]
      refine v_iload_n (pc := 67) dX5_setCold_67 rfl rfl ?_
      refine v_iret (pc := 68) rfl rfl (Nat.le_of_ble_eq_true rfl) dX5_setCold_68 ?_
      have e : rCo O (nI a) c = (0, O a, upd O a c) := by
        unfold rCo
        rw [if_pos c7, if_pos c28, cN_nI (by omega)]
      rw [e]
      exact ⟨rfl, rfl, rfl⟩
    · have c28 := bI_0.mp c28
      exact v_throw (pc := 31) (names := ["java/lang/RuntimeException", "java/lang/Exception"]) tw_X5_27_76_31 rfl (Nat.le_of_ble_eq_true rfl) dX5_setCold_31 dX5_setCold_34 dX5_setCold_35 dX5_setCold_37 dX5_setCold_40 (by decide) (Nat.le_of_ble_eq_true rfl) (by decide) (by decide) (by (have e : (rCo O q c) = (2, 0, O) := ((if_pos c7).trans (if_neg c28)); rw [e]; exact ⟨rfl, Or.inr (⟨rfl, rfl⟩)⟩))
  · have c7 := bI_0.mp c7
    exact v_throw (pc := 10) (names := ["java/lang/RuntimeException", "java/lang/Exception"]) tw_X5_60_74_64 rfl (Nat.le_of_ble_eq_true rfl) dX5_setCold_10 dX5_setCold_13 dX5_setCold_14 dX5_setCold_16 dX5_setCold_19 (by decide) (Nat.le_of_ble_eq_true rfl) (by decide) (by decide) (by (have e : (rCo O q c) = (1, 0, O) := (if_neg c7); rw [e]; exact ⟨rfl, Or.inl ⟨rfl, rfl⟩⟩))
set_option maxRecDepth 100000 in
set_option maxHeartbeats 4000000 in
theorem c_X5_cell {G : Cx} {w : Nat → Nat} {a b f : Nat → Int32} {wa : Int32} {lr : Value} {nd dg : Int32} {T N S C B O : Nat → Int32} {ch : Int32} {PC : Nat → Int32} {SF BF : Nat → Nat → Int32} {ps sc bc hh : Nat} {g0 u0 : Nat} (hps : ps ≤ 8) (hsc : sc ≤ 5) (hbc : bc ≤ 40) {x y q : Int32} : Mt G Y_X5_cell 7 1 6 [.ref g0, .int x, .int y, .int q] (eO 5 g0 [.ref (w 0), .ref u0] :: WorldM w a b f wa lr nd dg T N S C B O ch PC SF BF ps sc bc hh) (fun v M' => (rCe T N S C PC SF ps sc x y q).1 = 0 ∧ v = some (.int ((rCe T N S C PC SF ps sc x y q).2)) ∧ M' = eO 5 g0 [.ref (w 0), .ref u0] :: WorldM w a b f wa lr nd dg T N S C B O ch PC SF BF ps sc bc hh) (fun E M' => M' = eO 5 g0 [.ref (w 0), .ref u0] :: WorldM w a b f wa lr nd dg T N S C B O ch PC SF BF ps sc bc hh ∧ ((E = IOX ∧ (rCe T N S C PC SF ps sc x y q).1 = 1))) := by
  refine Mt.of (L := [some (.ref g0), some (.int x), some (.int y), some (.int q)]) rfl (by decide) (by simp [lg_sl, Value.category]) ⟨rfl, rfl, rfl, rfl, trivial⟩ (fun sz => ?_)
  refine v_iload_n (pc := 0) dX5_cell_0 rfl rfl ?_
  refine v_iload_n (pc := 1) dX5_cell_1 rfl rfl ?_
  refine v_callS2 (pc := 2) (c_X5_isOnMap ) cm_X5_isOnMap q211 q212 [] (by rfl) (by decide) (fun _ _ h => h) (by decide) (by decide) (by decide) (Nat.le_of_ble_eq_true rfl) dX5_cell_2 (fun v2 M2 hQ2 => ?_)
  obtain ⟨rfl, rfl⟩ := hQ2
  try dsimp only [wb, LakeM, WaysM, WorldM, List.set_cons_succ, List.set_cons_zero, List.append_nil, List.nil_append, List.cons_append, Option.toList, Nat.sub_zero]
  refine v_if_eq (pc := 5) (tgt := 17) dX5_cell_5 (by decide) (fun c5 => ?_) (fun c5 => ?_)
  · have c5 := bI_0.mp c5
    exact v_throw (pc := 17) (names := ["java/lang/RuntimeException", "java/lang/Exception"]) tw_X5_60_82_64 rfl (Nat.le_of_ble_eq_true rfl) dX5_cell_17 dX5_cell_20 dX5_cell_21 dX5_cell_23 dX5_cell_26 (by decide) (Nat.le_of_ble_eq_true rfl) (by decide) (by decide) (by (have e : (rCe T N S C PC SF ps sc x y q) = (1, 0) := (if_neg (fun h => c5 h.1)); rw [e]; exact ⟨rfl, ⟨rfl, rfl⟩⟩))
  · have c5 := bI_n.mp c5
    refine v_iload_n (pc := 8) dX5_cell_8 rfl rfl ?_
    refine v_iconst (pc := 9) (v := 0) dX5_cell_9 rfl ?_
    refine v_iconst (pc := 10) (v := 5) dX5_cell_10 rfl ?_
    refine v_callS3 (pc := 11) (c_X5_isWithin ) cm_X5_isWithin q214 q215 [] (by rfl) (by decide) (fun _ _ h => h) (by decide) (by decide) (by decide) (Nat.le_of_ble_eq_true rfl) dX5_cell_11 (fun v11 M11 hQ11 => ?_)
    obtain ⟨rfl, rfl⟩ := hQ11
    try dsimp only [wb, LakeM, WaysM, WorldM, List.set_cons_succ, List.set_cons_zero, List.append_nil, List.nil_append, List.cons_append, Option.toList, Nat.sub_zero]
    refine v_if_ne (pc := 14) (tgt := 27) dX5_cell_14 (by decide) (fun c14 => ?_) (fun c14 => ?_)
    · have c14 := bI_n.mp c14
      obtain ⟨a, b, ha, hb, rfl, rfl⟩ := onM_of c5
      have hk : a + 16 * b < 160 := by omega
      have hcN : cN (nI a + 16 * nI b) = a + 16 * b := by rw [kf_cell, cN_nI (by omega)]
      obtain ⟨e, he, rfl⟩ := le_nI 5 (by decide) c14
      refine v_aload_nR (pc := 27) dX5_cell_27 rfl rfl ?_
      refine v_get (pc := 28) 0 0 fg_X5_10 rfl rfl dX5_cell_28 ?_
      refine v_iload_n (pc := 31) dX5_cell_31 rfl rfl ?_
      refine v_iload_n (pc := 32) dX5_cell_32 rfl rfl ?_
      refine v_callS2 (pc := 33) (c_X5_numberOf ) cm_X5_numberOf q285 q286 [] (by rfl) (by decide) (fun _ _ h => h) (by decide) (by decide) (by decide) (Nat.le_of_ble_eq_true rfl) dX5_cell_33 (fun v33 M33 hQ33 => ?_)
      obtain ⟨rfl, rfl⟩ := hQ33
      try dsimp only [wb, LakeM, WaysM, WorldM, List.set_cons_succ, List.set_cons_zero, List.append_nil, List.nil_append, List.cons_append, Option.toList, Nat.sub_zero]
      rw [kf_cell]
      refine v_iload_n (pc := 36) dX5_cell_36 rfl rfl ?_
      refine v_callV2 (pc := 37) (c_X4_tellCell hps hsc hbc hk (by omega)) cm_X4_tellCell q288 q289 q290 (ci := 4) rfl rfl (orcO 1 rfl) [1, 2, 3, 4, 5, 6, 7, 8, 9, 10, 11, 12, 13, 14, 15, 16, 17] (by rfl) (by decide) (fun _ _ h => h) (by decide) (by decide) (by decide) (Nat.le_of_ble_eq_true rfl) dX5_cell_37 (fun v37 M37 hQ37 => ?_)
      obtain ⟨rfl, rfl⟩ := hQ37
      try dsimp only [wb, LakeM, WaysM, WorldM, List.set_cons_succ, List.set_cons_zero, List.append_nil, List.nil_append, List.cons_append, Option.toList, Nat.sub_zero]
      refine v_iret (pc := 40) rfl rfl (Nat.le_of_ble_eq_true rfl) dX5_cell_40 ?_
      have e9 : rCe T N S C PC SF ps sc (nI a) (nI b) (nI e) = (0, tlC T N S C PC SF ps sc (a + 16 * b) e) := by
        unfold rCe
        rw [if_pos ⟨c5, c14⟩, hcN, cN_nI (by omega)]
      rw [e9]
      exact ⟨rfl, rfl, rfl⟩
    · have c14 := bI_0.mp c14
      exact v_throw (pc := 17) (names := ["java/lang/RuntimeException", "java/lang/Exception"]) tw_X5_60_82_64 rfl (Nat.le_of_ble_eq_true rfl) dX5_cell_17 dX5_cell_20 dX5_cell_21 dX5_cell_23 dX5_cell_26 (by decide) (Nat.le_of_ble_eq_true rfl) (by decide) (by decide) (by (have e : (rCe T N S C PC SF ps sc x y q) = (1, 0) := (if_neg (fun h => c14 h.2)); rw [e]; exact ⟨rfl, ⟨rfl, rfl⟩⟩))
set_option maxRecDepth 100000 in
set_option maxHeartbeats 4000000 in
theorem c_X5_addPost {G : Cx} {w : Nat → Nat} {a b f : Nat → Int32} {wa : Int32} {lr : Value} {nd dg : Int32} {T N S C B O : Nat → Int32} {ch : Int32} {PC : Nat → Int32} {SF BF : Nat → Nat → Int32} {ps sc bc hh : Nat} {g0 u0 : Nat} (hps : ps ≤ 8) (hsc : sc ≤ 5) (hbc : bc ≤ 40) {x y : Int32} : Mt G Y_X5_addPost 7 1 6 [.ref g0, .int x, .int y] (eO 5 g0 [.ref (w 0), .ref u0] :: WorldM w a b f wa lr nd dg T N S C B O ch PC SF BF ps sc bc hh) (fun v M' => (rAP T S C PC ps ch x y).1 = 0 ∧ v = some (.int ((rAP T S C PC ps ch x y).2.1)) ∧ M' = eO 5 g0 [.ref (w 0), .ref u0] :: WorldM w a b f wa lr nd dg (rAP T S C PC ps ch x y).2.2.1 N (rAP T S C PC ps ch x y).2.2.2.1 (rAP T S C PC ps ch x y).2.2.2.2.1 B O (rAP T S C PC ps ch x y).2.2.2.2.2.2.2 (rAP T S C PC ps ch x y).2.2.2.2.2.1 SF BF (rAP T S C PC ps ch x y).2.2.2.2.2.2.1 sc bc hh) (fun E M' => M' = eO 5 g0 [.ref (w 0), .ref u0] :: WorldM w a b f wa lr nd dg (rAP T S C PC ps ch x y).2.2.1 N (rAP T S C PC ps ch x y).2.2.2.1 (rAP T S C PC ps ch x y).2.2.2.2.1 B O (rAP T S C PC ps ch x y).2.2.2.2.2.2.2 (rAP T S C PC ps ch x y).2.2.2.2.2.1 SF BF (rAP T S C PC ps ch x y).2.2.2.2.2.2.1 sc bc hh ∧ ((E = IOX ∧ (rAP T S C PC ps ch x y).1 = 1) ∨ (E = ISX ∧ (rAP T S C PC ps ch x y).1 = 2))) := by
  refine Mt.of (L := [some (.ref g0), some (.int x), some (.int y), none]) rfl (by decide) (by simp [lg_sl, Value.category]) ⟨rfl, rfl, rfl, trivial⟩ (fun sz => ?_)
  refine v_iload_n (pc := 0) dX5_addPost_0 rfl rfl ?_
  refine v_iload_n (pc := 1) dX5_addPost_1 rfl rfl ?_
  refine v_callS2 (pc := 2) (c_X5_isOnMap ) cm_X5_isOnMap q211 q212 [] (by rfl) (by decide) (fun _ _ h => h) (by decide) (by decide) (by decide) (Nat.le_of_ble_eq_true rfl) dX5_addPost_2 (fun v2 M2 hQ2 => ?_)
  obtain ⟨rfl, rfl⟩ := hQ2
  try dsimp only [wb, LakeM, WaysM, WorldM, List.set_cons_succ, List.set_cons_zero, List.append_nil, List.nil_append, List.cons_append, Option.toList, Nat.sub_zero]
  refine v_if_ne (pc := 5) (tgt := 18) dX5_addPost_5 (by decide) (fun c5 => ?_) (fun c5 => ?_)
  · have c5 := bI_n.mp c5
    obtain ⟨a, b, ha, hb, rfl, rfl⟩ := onM_of c5
    have hk : a + 16 * b < 160 := by omega
    have hcN : cN (nI a + 16 * nI b) = a + 16 * b := by rw [kf_cell, cN_nI (by omega)]
    refine v_iload_n (pc := 18) dX5_addPost_18 rfl rfl ?_
    refine v_iload_n (pc := 19) dX5_addPost_19 rfl rfl ?_
    refine v_callS2 (pc := 20) (c_X5_numberOf ) cm_X5_numberOf q285 q286 [] (by rfl) (by decide) (fun _ _ h => h) (by decide) (by decide) (by decide) (Nat.le_of_ble_eq_true rfl) dX5_addPost_20 (fun v20 M20 hQ20 => ?_)
    obtain ⟨rfl, rfl⟩ := hQ20
    try dsimp only [wb, LakeM, WaysM, WorldM, List.set_cons_succ, List.set_cons_zero, List.append_nil, List.nil_append, List.cons_append, Option.toList, Nat.sub_zero]
    rw [kf_cell]
    refine v_istore_n (pc := 23) dX5_addPost_23 rfl (by decide) rfl ?_
    refine v_aload_nR (pc := 24) dX5_addPost_24 rfl rfl ?_
    refine v_get (pc := 25) 0 0 fg_X5_10 rfl rfl dX5_addPost_25 ?_
    refine v_iload_n (pc := 28) dX5_addPost_28 rfl rfl ?_
    refine v_callV1 (pc := 29) (c_X4_postOn hps hsc hbc) cm_X4_postOn q741 q312 q313 (ci := 4) rfl rfl (orcO 1 rfl) [1, 2, 3, 4, 5, 6, 7, 8, 9, 10, 11, 12, 13, 14, 15, 16, 17] (by rfl) (by decide) (fun _ _ h => h) (by decide) (by decide) (by decide) (Nat.le_of_ble_eq_true rfl) dX5_addPost_29 (fun v29 M29 hQ29 => ?_)
    obtain ⟨rfl, rfl⟩ := hQ29
    try dsimp only [wb, LakeM, WaysM, WorldM, List.set_cons_succ, List.set_cons_zero, List.append_nil, List.nil_append, List.cons_append, Option.toList, Nat.sub_zero]
    refine v_iconst (pc := 32) (v := -1) dX5_addPost_32 rfl ?_
    refine v_icmp_ne (pc := 33) (tgt := 48) dX5_addPost_33 (by decide) (fun c33 => ?_) (fun c33 => ?_)
    · exact v_throw (pc := 48) (names := ["java/lang/RuntimeException", "java/lang/Exception"]) tw_X5_37_94_41 rfl (Nat.le_of_ble_eq_true rfl) dX5_addPost_48 dX5_addPost_51 dX5_addPost_52 dX5_addPost_54 dX5_addPost_57 (by decide) (Nat.le_of_ble_eq_true rfl) (by decide) (by decide) (by (have e : (rAP T S C PC ps ch (nI a) (nI b)) = (2, 0, T, S, C, PC, ps, ch) := (by unfold rAP; rw [if_pos c5, kf_cell, if_neg (fun h => c33 (pOn_none.mpr h.1))]); rw [e]; exact ⟨rfl, Or.inr (⟨rfl, rfl⟩)⟩))
    · refine v_aload_nR (pc := 36) dX5_addPost_36 rfl rfl ?_
      refine v_get (pc := 37) 0 0 fg_X5_10 rfl rfl dX5_addPost_37 ?_
      refine v_get (pc := 40) 5 1 fg_X5_90 rfl rfl dX5_addPost_40 ?_
      refine v_bipush (pc := 43) (v := 8) dX5_addPost_43 rfl ?_
      refine v_icmp_lt (pc := 45) (tgt := 58) dX5_addPost_45 (by decide) (fun c45 => ?_) (fun c45 => ?_)
      · have c45 : ps < 8 := (nI_ltI (a := ps) (b := 8) (by omega) (by omega)).mp c45
        refine v_aload_nR (pc := 58) dX5_addPost_58 rfl rfl ?_
        refine v_get (pc := 59) 0 0 fg_X5_10 rfl rfl dX5_addPost_59 ?_
        refine v_iload_n (pc := 62) dX5_addPost_62 rfl rfl ?_
        refine v_callV1 (pc := 63) (c_X4_buildPost hps hsc hbc hk c45) cm_X4_buildPost q743 q744 q745 (ci := 4) rfl rfl (orcO 1 rfl) [1, 2, 3, 4, 5, 6, 7, 8, 9, 10, 11, 12, 13, 14, 15, 16, 17] (by rfl) (by decide) (fun _ _ h => h) (by decide) (by decide) (by decide) (Nat.le_of_ble_eq_true rfl) dX5_addPost_63 (fun v63 M63 hQ63 => ?_)
        obtain ⟨rfl, rfl⟩ := hQ63
        try dsimp only [wb, LakeM, WaysM, WorldM, List.set_cons_succ, List.set_cons_zero, List.append_nil, List.nil_append, List.cons_append, Option.toList, Nat.sub_zero]
        refine v_iret (pc := 66) rfl rfl (Nat.le_of_ble_eq_true rfl) dX5_addPost_66 ?_
        have e9 : rAP T S C PC ps ch (nI a) (nI b) = (0, nI ps, upd T (a + 16 * b) (-1), upd S (a + 16 * b) 0, upd C (a + 16 * b) 0, upd PC ps (nI (a + 16 * b)), ps + 1, ch + 1) := by
          unfold rAP
          rw [if_pos c5, hcN, kf_cell, if_pos ⟨pOn_none.mp c33, c45⟩]
        rw [e9]
        exact ⟨rfl, rfl, rfl⟩
      · have c45 : ¬ ps < 8 := fun h => c45 ((nI_ltI (a := ps) (b := 8) (by omega) (by omega)).mpr h)
        exact v_throw (pc := 48) (names := ["java/lang/RuntimeException", "java/lang/Exception"]) tw_X5_37_94_41 rfl (Nat.le_of_ble_eq_true rfl) dX5_addPost_48 dX5_addPost_51 dX5_addPost_52 dX5_addPost_54 dX5_addPost_57 (by decide) (Nat.le_of_ble_eq_true rfl) (by decide) (by decide) (by (have e : (rAP T S C PC ps ch (nI a) (nI b)) = (2, 0, T, S, C, PC, ps, ch) := (by unfold rAP; rw [if_pos c5, kf_cell, if_neg (fun h => c45 h.2)]); rw [e]; exact ⟨rfl, Or.inr (⟨rfl, rfl⟩)⟩))
  · have c5 := bI_0.mp c5
    exact v_throw (pc := 8) (names := ["java/lang/RuntimeException", "java/lang/Exception"]) tw_X5_60_62_64 rfl (Nat.le_of_ble_eq_true rfl) dX5_addPost_8 dX5_addPost_11 dX5_addPost_12 dX5_addPost_14 dX5_addPost_17 (by decide) (Nat.le_of_ble_eq_true rfl) (by decide) (by decide) (by (have e : (rAP T S C PC ps ch x y) = (1, 0, T, S, C, PC, ps, ch) := (if_neg c5); rw [e]; exact ⟨rfl, Or.inl ⟨rfl, rfl⟩⟩))
set_option maxRecDepth 100000 in
set_option maxHeartbeats 4000000 in
theorem c_X5_addSleigh {G : Cx} {w : Nat → Nat} {a b f : Nat → Int32} {wa : Int32} {lr : Value} {nd dg : Int32} {T N S C B O : Nat → Int32} {ch : Int32} {PC : Nat → Int32} {SF BF : Nat → Nat → Int32} {ps sc bc hh : Nat} {g0 u0 : Nat} (hps : ps ≤ 8) (hsc : sc ≤ 5) (hbc : bc ≤ 40) {q r : Int32} : Mt G Y_X5_addSleigh 7 1 6 [.ref g0, .int q, .int r] (eO 5 g0 [.ref (w 0), .ref u0] :: WorldM w a b f wa lr nd dg T N S C B O ch PC SF BF ps sc bc hh) (fun v M' => (rAS PC SF ps sc q r).1 = 0 ∧ v = some (.int ((rAS PC SF ps sc q r).2.1)) ∧ M' = eO 5 g0 [.ref (w 0), .ref u0] :: WorldM w a b f wa lr nd dg T N S C B O ch PC (rAS PC SF ps sc q r).2.2.1 BF ps (rAS PC SF ps sc q r).2.2.2 bc hh) (fun E M' => M' = eO 5 g0 [.ref (w 0), .ref u0] :: WorldM w a b f wa lr nd dg T N S C B O ch PC (rAS PC SF ps sc q r).2.2.1 BF ps (rAS PC SF ps sc q r).2.2.2 bc hh ∧ ((E = IOX ∧ (rAS PC SF ps sc q r).1 = 1) ∨ (E = IAX ∧ (rAS PC SF ps sc q r).1 = 2) ∨ (E = ISX ∧ (rAS PC SF ps sc q r).1 = 3))) := by
  refine Mt.of (L := [some (.ref g0), some (.int q), some (.int r)]) rfl (by decide) (by simp [lg_sl, Value.category]) ⟨rfl, rfl, rfl, trivial⟩ (fun sz => ?_)
  refine v_aload_nR (pc := 0) dX5_addSleigh_0 rfl rfl ?_
  refine v_get (pc := 1) 0 0 fg_X5_10 rfl rfl dX5_addSleigh_1 ?_
  refine v_iload_n (pc := 4) dX5_addSleigh_4 rfl rfl ?_
  refine v_callV1 (pc := 5) (c_X4_isPost hps hsc hbc) cm_X4_isPost q757 q461 q462 (ci := 4) rfl rfl (orcO 1 rfl) [1, 2, 3, 4, 5, 6, 7, 8, 9, 10, 11, 12, 13, 14, 15, 16, 17] (by rfl) (by decide) (fun _ _ h => h) (by decide) (by decide) (by decide) (Nat.le_of_ble_eq_true rfl) dX5_addSleigh_5 (fun v5 M5 hQ5 => ?_)
  obtain ⟨rfl, rfl⟩ := hQ5
  try dsimp only [wb, LakeM, WaysM, WorldM, List.set_cons_succ, List.set_cons_zero, List.append_nil, List.nil_append, List.cons_append, Option.toList, Nat.sub_zero]
  refine v_if_ne (pc := 8) (tgt := 21) dX5_addSleigh_8 (by decide) (fun c8 => ?_) (fun c8 => ?_)
  · have c8 := bI_n.mp c8
    refine v_iload_n (pc := 21) dX5_addSleigh_21 rfl rfl ?_
    refine v_iconst (pc := 22) (v := 1) dX5_addSleigh_22 rfl ?_
    refine v_bipush (pc := 23) (v := 6) dX5_addSleigh_23 rfl ?_
    refine v_callS3 (pc := 25) (c_X5_isWithin ) cm_X5_isWithin q214 q215 [] (by rfl) (by decide) (fun _ _ h => h) (by decide) (by decide) (by decide) (Nat.le_of_ble_eq_true rfl) dX5_addSleigh_25 (fun v25 M25 hQ25 => ?_)
    obtain ⟨rfl, rfl⟩ := hQ25
    try dsimp only [wb, LakeM, WaysM, WorldM, List.set_cons_succ, List.set_cons_zero, List.append_nil, List.nil_append, List.cons_append, Option.toList, Nat.sub_zero]
    refine v_if_ne (pc := 28) (tgt := 41) dX5_addSleigh_28 (by decide) (fun c28 => ?_) (fun c28 => ?_)
    · have c28 := bI_n.mp c28
      refine v_aload_nR (pc := 41) dX5_addSleigh_41 rfl rfl ?_
      refine v_get (pc := 42) 0 0 fg_X5_10 rfl rfl dX5_addSleigh_42 ?_
      refine v_get (pc := 45) 6 1 fg_X5_107 rfl rfl dX5_addSleigh_45 ?_
      refine v_iconst (pc := 48) (v := 5) dX5_addSleigh_48 rfl ?_
      refine v_icmp_lt (pc := 49) (tgt := 62) dX5_addSleigh_49 (by decide) (fun c49 => ?_) (fun c49 => ?_)
      · have c49 : sc < 5 := (nI_ltI (a := sc) (b := 5) (by omega) (by omega)).mp c49
        refine v_aload_nR (pc := 62) dX5_addSleigh_62 rfl rfl ?_
        refine v_get (pc := 63) 0 0 fg_X5_10 rfl rfl dX5_addSleigh_63 ?_
        refine v_iload_n (pc := 66) dX5_addSleigh_66 rfl rfl ?_
        refine v_iload_n (pc := 67) dX5_addSleigh_67 rfl rfl ?_
        refine v_callV2 (pc := 68) (c_X4_harness hps hsc hbc c49) cm_X4_harness q761 q762 q763 (ci := 4) rfl rfl (orcO 1 rfl) [1, 2, 3, 4, 5, 6, 7, 8, 9, 10, 11, 12, 13, 14, 15, 16, 17] (by rfl) (by decide) (fun _ _ h => h) (by decide) (by decide) (by decide) (Nat.le_of_ble_eq_true rfl) dX5_addSleigh_68 (fun v68 M68 hQ68 => ?_)
        obtain ⟨rfl, rfl⟩ := hQ68
        try dsimp only [wb, LakeM, WaysM, WorldM, List.set_cons_succ, List.set_cons_zero, List.append_nil, List.nil_append, List.cons_append, Option.toList, Nat.sub_zero]
        refine v_iret (pc := 71) rfl rfl (Nat.le_of_ble_eq_true rfl) dX5_addSleigh_71 ?_
        have e9 : (rAS PC SF ps sc q r) = (0, nI sc, begS SF sc q (cop PC ps q) r, sc + 1) := (if_pos c8).trans ((if_pos c28).trans (if_pos c49))
        rw [e9]
        exact ⟨rfl, rfl, rfl⟩
      · have c49 : ¬ sc < 5 := fun h => c49 ((nI_ltI (a := sc) (b := 5) (by omega) (by omega)).mpr h)
        exact v_throw (pc := 52) (names := ["java/lang/RuntimeException", "java/lang/Exception"]) tw_X5_37_110_41 rfl (Nat.le_of_ble_eq_true rfl) dX5_addSleigh_52 dX5_addSleigh_55 dX5_addSleigh_56 dX5_addSleigh_58 dX5_addSleigh_61 (by decide) (Nat.le_of_ble_eq_true rfl) (by decide) (by decide) (by (have e : (rAS PC SF ps sc q r) = (3, 0, SF, sc) := ((if_pos c8).trans ((if_pos c28).trans (if_neg c49))); rw [e]; exact ⟨rfl, Or.inr (Or.inr (⟨rfl, rfl⟩))⟩))
    · have c28 := bI_0.mp c28
      exact v_throw (pc := 31) (names := ["java/lang/RuntimeException", "java/lang/Exception"]) tw_X5_27_105_31 rfl (Nat.le_of_ble_eq_true rfl) dX5_addSleigh_31 dX5_addSleigh_34 dX5_addSleigh_35 dX5_addSleigh_37 dX5_addSleigh_40 (by decide) (Nat.le_of_ble_eq_true rfl) (by decide) (by decide) (by (have e : (rAS PC SF ps sc q r) = (2, 0, SF, sc) := ((if_pos c8).trans (if_neg c28)); rw [e]; exact ⟨rfl, Or.inr (Or.inl ⟨rfl, rfl⟩)⟩))
  · have c8 := bI_0.mp c8
    exact v_throw (pc := 11) (names := ["java/lang/RuntimeException", "java/lang/Exception"]) tw_X5_60_103_64 rfl (Nat.le_of_ble_eq_true rfl) dX5_addSleigh_11 dX5_addSleigh_14 dX5_addSleigh_15 dX5_addSleigh_17 dX5_addSleigh_20 (by decide) (Nat.le_of_ble_eq_true rfl) (by decide) (by decide) (by (have e : (rAS PC SF ps sc q r) = (1, 0, SF, sc) := (if_neg c8); rw [e]; exact ⟨rfl, Or.inl ⟨rfl, rfl⟩⟩))
set_option maxRecDepth 100000 in
set_option maxHeartbeats 4000000 in
theorem c_X5_addBag {G : Cx} {w : Nat → Nat} {a b f : Nat → Int32} {wa : Int32} {lr : Value} {nd dg : Int32} {T N S C B O : Nat → Int32} {ch : Int32} {PC : Nat → Int32} {SF BF : Nat → Nat → Int32} {ps sc bc hh : Nat} {g0 u0 : Nat} (hps : ps ≤ 8) (hsc : sc ≤ 5) (hbc : bc ≤ 40) {a1 b1 c1 : Int32} : Mt G Y_X5_addBag 7 1 6 [.ref g0, .int a1, .int b1, .int c1] (eO 5 g0 [.ref (w 0), .ref u0] :: WorldM w a b f wa lr nd dg T N S C B O ch PC SF BF ps sc bc hh) (fun v M' => (rAB BF ps bc a1 b1 c1).1 = 0 ∧ v = some (.int ((rAB BF ps bc a1 b1 c1).2.1)) ∧ M' = eO 5 g0 [.ref (w 0), .ref u0] :: WorldM w a b f wa lr nd dg T N S C B O ch PC SF (rAB BF ps bc a1 b1 c1).2.2.1 ps sc (rAB BF ps bc a1 b1 c1).2.2.2 hh) (fun E M' => M' = eO 5 g0 [.ref (w 0), .ref u0] :: WorldM w a b f wa lr nd dg T N S C B O ch PC SF (rAB BF ps bc a1 b1 c1).2.2.1 ps sc (rAB BF ps bc a1 b1 c1).2.2.2 hh ∧ ((E = IOX ∧ (rAB BF ps bc a1 b1 c1).1 = 1) ∨ (E = IAX ∧ (rAB BF ps bc a1 b1 c1).1 = 2) ∨ (E = ISX ∧ (rAB BF ps bc a1 b1 c1).1 = 3))) := by
  refine Mt.of (L := [some (.ref g0), some (.int a1), some (.int b1), some (.int c1)]) rfl (by decide) (by simp [lg_sl, Value.category]) ⟨rfl, rfl, rfl, rfl, trivial⟩ (fun sz => ?_)
  refine v_aload_nR (pc := 0) dX5_addBag_0 rfl rfl ?_
  refine v_get (pc := 1) 0 0 fg_X5_10 rfl rfl dX5_addBag_1 ?_
  refine v_iload_n (pc := 4) dX5_addBag_4 rfl rfl ?_
  refine v_callV1 (pc := 5) (c_X4_isPost hps hsc hbc) cm_X4_isPost q757 q461 q462 (ci := 4) rfl rfl (orcO 1 rfl) [1, 2, 3, 4, 5, 6, 7, 8, 9, 10, 11, 12, 13, 14, 15, 16, 17] (by rfl) (by decide) (fun _ _ h => h) (by decide) (by decide) (by decide) (Nat.le_of_ble_eq_true rfl) dX5_addBag_5 (fun v5 M5 hQ5 => ?_)
  obtain ⟨rfl, rfl⟩ := hQ5
  try dsimp only [wb, LakeM, WaysM, WorldM, List.set_cons_succ, List.set_cons_zero, List.append_nil, List.nil_append, List.cons_append, Option.toList, Nat.sub_zero]
  refine v_if_eq (pc := 8) (tgt := 22) dX5_addBag_8 (by decide) (fun c8 => ?_) (fun c8 => ?_)
  · have c8 := bI_0.mp c8
    exact v_throw (pc := 22) (names := ["java/lang/RuntimeException", "java/lang/Exception"]) tw_X5_60_103_64 rfl (Nat.le_of_ble_eq_true rfl) dX5_addBag_22 dX5_addBag_25 dX5_addBag_26 dX5_addBag_28 dX5_addBag_31 (by decide) (Nat.le_of_ble_eq_true rfl) (by decide) (by decide) (by (have e : (rAB BF ps bc a1 b1 c1) = (1, 0, BF, bc) := (if_neg (fun h => c8 h.1)); rw [e]; exact ⟨rfl, Or.inl ⟨rfl, rfl⟩⟩))
  · have c8 := bI_n.mp c8
    refine v_aload_nR (pc := 11) dX5_addBag_11 rfl rfl ?_
    refine v_get (pc := 12) 0 0 fg_X5_10 rfl rfl dX5_addBag_12 ?_
    refine v_iload_n (pc := 15) dX5_addBag_15 rfl rfl ?_
    refine v_callV1 (pc := 16) (c_X4_isPost hps hsc hbc) cm_X4_isPost q757 q461 q462 (ci := 4) rfl rfl (orcO 1 rfl) [1, 2, 3, 4, 5, 6, 7, 8, 9, 10, 11, 12, 13, 14, 15, 16, 17] (by rfl) (by decide) (fun _ _ h => h) (by decide) (by decide) (by decide) (Nat.le_of_ble_eq_true rfl) dX5_addBag_16 (fun v16 M16 hQ16 => ?_)
    obtain ⟨rfl, rfl⟩ := hQ16
    try dsimp only [wb, LakeM, WaysM, WorldM, List.set_cons_succ, List.set_cons_zero, List.append_nil, List.nil_append, List.cons_append, Option.toList, Nat.sub_zero]
    refine v_if_ne (pc := 19) (tgt := 32) dX5_addBag_19 (by decide) (fun c19 => ?_) (fun c19 => ?_)
    · have c19 := bI_n.mp c19
      refine v_iload_n (pc := 32) dX5_addBag_32 rfl rfl ?_
      refine v_iload_n (pc := 33) dX5_addBag_33 rfl rfl ?_
      refine v_icmp_eq (pc := 34) (tgt := 47) dX5_addBag_34 (by decide) (fun c34 => ?_) (fun c34 => ?_)
      · exact v_throw (pc := 47) (names := ["java/lang/RuntimeException", "java/lang/Exception"]) tw_X5_27_115_31 rfl (Nat.le_of_ble_eq_true rfl) dX5_addBag_47 dX5_addBag_50 dX5_addBag_51 dX5_addBag_53 dX5_addBag_56 (by decide) (Nat.le_of_ble_eq_true rfl) (by decide) (by decide) (by (have e : (rAB BF ps bc a1 b1 c1) = (2, 0, BF, bc) := ((if_pos ⟨c8, c19⟩).trans (if_neg (fun h => h.1 c34))); rw [e]; exact ⟨rfl, Or.inr (Or.inl ⟨rfl, rfl⟩)⟩))
      · refine v_iload_n (pc := 37) dX5_addBag_37 rfl rfl ?_
        refine v_iconst (pc := 38) (v := 1) dX5_addBag_38 rfl ?_
        refine v_bipush (pc := 39) (v := 30) dX5_addBag_39 rfl ?_
        refine v_callS3 (pc := 41) (c_X5_isWithin ) cm_X5_isWithin q214 q215 [] (by rfl) (by decide) (fun _ _ h => h) (by decide) (by decide) (by decide) (Nat.le_of_ble_eq_true rfl) dX5_addBag_41 (fun v41 M41 hQ41 => ?_)
        obtain ⟨rfl, rfl⟩ := hQ41
        try dsimp only [wb, LakeM, WaysM, WorldM, List.set_cons_succ, List.set_cons_zero, List.append_nil, List.nil_append, List.cons_append, Option.toList, Nat.sub_zero]
        refine v_if_ne (pc := 44) (tgt := 57) dX5_addBag_44 (by decide) (fun c44 => ?_) (fun c44 => ?_)
        · have c44 := bI_n.mp c44
          refine v_aload_nR (pc := 57) dX5_addBag_57 rfl rfl ?_
          refine v_get (pc := 58) 0 0 fg_X5_10 rfl rfl dX5_addBag_58 ?_
          refine v_get (pc := 61) 7 1 fg_X5_117 rfl rfl dX5_addBag_61 ?_
          refine v_bipush (pc := 64) (v := 40) dX5_addBag_64 rfl ?_
          refine v_icmp_lt (pc := 66) (tgt := 79) dX5_addBag_66 (by decide) (fun c66 => ?_) (fun c66 => ?_)
          · have c66 : bc < 40 := (nI_ltI (a := bc) (b := 40) (by omega) (by omega)).mp c66
            refine v_aload_nR (pc := 79) dX5_addBag_79 rfl rfl ?_
            refine v_get (pc := 80) 0 0 fg_X5_10 rfl rfl dX5_addBag_80 ?_
            refine v_iload_n (pc := 83) dX5_addBag_83 rfl rfl ?_
            refine v_iload_n (pc := 84) dX5_addBag_84 rfl rfl ?_
            refine v_iload_n (pc := 85) dX5_addBag_85 rfl rfl ?_
            refine v_callV3 (pc := 86) (c_X4_postMail hps hsc hbc c66) cm_X4_postMail q811 q812 q813 (ci := 4) rfl rfl (orcO 1 rfl) [1, 2, 3, 4, 5, 6, 7, 8, 9, 10, 11, 12, 13, 14, 15, 16, 17] (by rfl) (by decide) (fun _ _ h => h) (by decide) (by decide) (by decide) (Nat.le_of_ble_eq_true rfl) dX5_addBag_86 (fun v86 M86 hQ86 => ?_)
            obtain ⟨rfl, rfl⟩ := hQ86
            try dsimp only [wb, LakeM, WaysM, WorldM, List.set_cons_succ, List.set_cons_zero, List.append_nil, List.nil_append, List.cons_append, Option.toList, Nat.sub_zero]
            refine v_iret (pc := 89) rfl rfl (Nat.le_of_ble_eq_true rfl) dX5_addBag_89 ?_
            have e9 : (rAB BF ps bc a1 b1 c1) = (0, nI bc, begB BF bc a1 b1 c1, bc + 1) := (if_pos ⟨c8, c19⟩).trans ((if_pos ⟨c34, c44⟩).trans (if_pos c66))
            rw [e9]
            exact ⟨rfl, rfl, rfl⟩
          · have c66 : ¬ bc < 40 := fun h => c66 ((nI_ltI (a := bc) (b := 40) (by omega) (by omega)).mpr h)
            exact v_throw (pc := 69) (names := ["java/lang/RuntimeException", "java/lang/Exception"]) tw_X5_37_120_41 rfl (Nat.le_of_ble_eq_true rfl) dX5_addBag_69 dX5_addBag_72 dX5_addBag_73 dX5_addBag_75 dX5_addBag_78 (by decide) (Nat.le_of_ble_eq_true rfl) (by decide) (by decide) (by (have e : (rAB BF ps bc a1 b1 c1) = (3, 0, BF, bc) := ((if_pos ⟨c8, c19⟩).trans ((if_pos ⟨c34, c44⟩).trans (if_neg c66))); rw [e]; exact ⟨rfl, Or.inr (Or.inr (⟨rfl, rfl⟩))⟩))
        · have c44 := bI_0.mp c44
          exact v_throw (pc := 47) (names := ["java/lang/RuntimeException", "java/lang/Exception"]) tw_X5_27_115_31 rfl (Nat.le_of_ble_eq_true rfl) dX5_addBag_47 dX5_addBag_50 dX5_addBag_51 dX5_addBag_53 dX5_addBag_56 (by decide) (Nat.le_of_ble_eq_true rfl) (by decide) (by decide) (by (have e : (rAB BF ps bc a1 b1 c1) = (2, 0, BF, bc) := ((if_pos ⟨c8, c19⟩).trans (if_neg (fun h => c44 h.2))); rw [e]; exact ⟨rfl, Or.inr (Or.inl ⟨rfl, rfl⟩)⟩))
    · have c19 := bI_0.mp c19
      exact v_throw (pc := 22) (names := ["java/lang/RuntimeException", "java/lang/Exception"]) tw_X5_60_103_64 rfl (Nat.le_of_ble_eq_true rfl) dX5_addBag_22 dX5_addBag_25 dX5_addBag_26 dX5_addBag_28 dX5_addBag_31 (by decide) (Nat.le_of_ble_eq_true rfl) (by decide) (by decide) (by (have e : (rAB BF ps bc a1 b1 c1) = (1, 0, BF, bc) := (if_neg (fun h => c19 h.2)); rw [e]; exact ⟨rfl, Or.inl ⟨rfl, rfl⟩⟩))
set_option maxRecDepth 100000 in
set_option maxHeartbeats 4000000 in
theorem c_X5_count {G : Cx} {w : Nat → Nat} {a b f : Nat → Int32} {wa : Int32} {lr : Value} {nd dg : Int32} {T N S C B O : Nat → Int32} {ch : Int32} {PC : Nat → Int32} {SF BF : Nat → Nat → Int32} {ps sc bc hh : Nat} {g0 u0 : Nat} (hps : ps ≤ 8) (hsc : sc ≤ 5) (hbc : bc ≤ 40) {q : Int32} : Mt G Y_X5_count 7 1 6 [.ref g0, .int q] (eO 5 g0 [.ref (w 0), .ref u0] :: WorldM w a b f wa lr nd dg T N S C B O ch PC SF BF ps sc bc hh) (fun v M' => (rCn T C SF BF ps sc bc hh q).1 = 0 ∧ v = some (.int ((rCn T C SF BF ps sc bc hh q).2)) ∧ M' = eO 5 g0 [.ref (w 0), .ref u0] :: WorldM w a b f wa lr nd dg T N S C B O ch PC SF BF ps sc bc hh) (fun E M' => M' = eO 5 g0 [.ref (w 0), .ref u0] :: WorldM w a b f wa lr nd dg T N S C B O ch PC SF BF ps sc bc hh ∧ ((E = IOX ∧ (rCn T C SF BF ps sc bc hh q).1 = 1))) := by
  refine Mt.of (L := [some (.ref g0), some (.int q)]) rfl (by decide) (by simp [lg_sl, Value.category]) ⟨rfl, rfl, trivial⟩ (fun sz => ?_)
  refine v_iload_n (pc := 0) dX5_count_0 rfl rfl ?_
  refine v_iconst (pc := 1) (v := 0) dX5_count_1 rfl ?_
  refine v_bipush (pc := 2) (v := 8) dX5_count_2 rfl ?_
  refine v_callS3 (pc := 4) (c_X5_isWithin ) cm_X5_isWithin q214 q215 [] (by rfl) (by decide) (fun _ _ h => h) (by decide) (by decide) (by decide) (Nat.le_of_ble_eq_true rfl) dX5_count_4 (fun v4 M4 hQ4 => ?_)
  obtain ⟨rfl, rfl⟩ := hQ4
  try dsimp only [wb, LakeM, WaysM, WorldM, List.set_cons_succ, List.set_cons_zero, List.append_nil, List.nil_append, List.cons_append, Option.toList, Nat.sub_zero]
  refine v_if_ne (pc := 7) (tgt := 20) dX5_count_7 (by decide) (fun c7 => ?_) (fun c7 => ?_)
  · have c7 := bI_n.mp c7
    obtain ⟨a, ha, rfl⟩ := le_nI 8 (by decide) c7
    refine v_aload_nR (pc := 20) dX5_count_20 rfl rfl ?_
    refine v_get (pc := 21) 0 0 fg_X5_10 rfl rfl dX5_count_21 ?_
    refine v_iload_n (pc := 24) dX5_count_24 rfl rfl ?_
    refine v_callV1 (pc := 25) (c_X4_tellCount hps hsc hbc (by omega)) cm_X4_tellCount q530 q531 q532 (ci := 4) rfl rfl (orcO 1 rfl) [1, 2, 3, 4, 5, 6, 7, 8, 9, 10, 11, 12, 13, 14, 15, 16, 17] (by rfl) (by decide) (fun _ _ h => h) (by decide) (by decide) (by decide) (Nat.le_of_ble_eq_true rfl) dX5_count_25 (fun v25 M25 hQ25 => ?_)
    obtain ⟨rfl, rfl⟩ := hQ25
    try dsimp only [wb, LakeM, WaysM, WorldM, List.set_cons_succ, List.set_cons_zero, List.append_nil, List.nil_append, List.cons_append, Option.toList, Nat.sub_zero]
    refine v_iret (pc := 28) rfl rfl (Nat.le_of_ble_eq_true rfl) dX5_count_28 ?_
    have e : rCn T C SF BF ps sc bc hh (nI a) = (0, tlN T C SF BF ps sc bc hh a) := by
      unfold rCn
      rw [if_pos c7, cN_nI (by omega)]
    rw [e]
    exact ⟨rfl, rfl, rfl⟩
  · have c7 := bI_0.mp c7
    exact v_throw (pc := 10) (names := ["java/lang/RuntimeException", "java/lang/Exception"]) tw_X5_60_190_64 rfl (Nat.le_of_ble_eq_true rfl) dX5_count_10 dX5_count_13 dX5_count_14 dX5_count_16 dX5_count_19 (by decide) (Nat.le_of_ble_eq_true rfl) (by decide) (by decide) (by (have e : (rCn T C SF BF ps sc bc hh q) = (1, 0) := (if_neg c7); rw [e]; exact ⟨rfl, ⟨rfl, rfl⟩⟩))
set_option maxRecDepth 100000 in
set_option maxHeartbeats 4000000 in
theorem c_X5_sleigh_n {G : Cx} {w : Nat → Nat} {a b f : Nat → Int32} {wa : Int32} {lr : Value} {nd dg : Int32} {T N S C B O : Nat → Int32} {ch : Int32} {PC : Nat → Int32} {SF BF : Nat → Nat → Int32} {ps sc bc hh : Nat} {g0 u0 : Nat} (hps : ps ≤ 8) (hsc : sc ≤ 5) (hbc : bc ≤ 40) {s q : Int32} (hn : ¬ isP sc s) : Mt G Y_X5_sleigh 7 1 6 [.ref g0, .int s, .int q] (eO 5 g0 [.ref (w 0), .ref u0] :: WorldM w a b f wa lr nd dg T N S C B O ch PC SF BF ps sc bc hh) (fun v M' => (rSl SF BF sc bc s q).1 = 0 ∧ v = some (.int ((rSl SF BF sc bc s q).2)) ∧ M' = eO 5 g0 [.ref (w 0), .ref u0] :: WorldM w a b f wa lr nd dg T N S C B O ch PC SF BF ps sc bc hh) (fun E M' => M' = eO 5 g0 [.ref (w 0), .ref u0] :: WorldM w a b f wa lr nd dg T N S C B O ch PC SF BF ps sc bc hh ∧ ((E = IOX ∧ (rSl SF BF sc bc s q).1 = 1))) := by
  refine Mt.of (L := [some (.ref g0), some (.int s), some (.int q), none]) rfl (by decide) (by simp [lg_sl, Value.category]) ⟨rfl, rfl, rfl, trivial⟩ (fun sz => ?_)
  refine v_aload_nR (pc := 0) dX5_sleigh_0 rfl rfl ?_
  refine v_get (pc := 1) 0 0 fg_X5_10 rfl rfl dX5_sleigh_1 ?_
  refine v_iload_n (pc := 4) dX5_sleigh_4 rfl rfl ?_
  refine v_callV1 (pc := 5) (c_X4_sleighAt_n hps hsc hbc hn) cm_X4_sleighAt q327 q320 q321 (ci := 4) rfl rfl (orcO 1 rfl) [1, 2, 3, 4, 5, 6, 7, 8, 9, 10, 11, 12, 13, 14, 15, 16, 17] (by rfl) (by decide) (fun _ _ h => h) (by decide) (by decide) (by decide) (Nat.le_of_ble_eq_true rfl) dX5_sleigh_5 (fun v5 M5 hQ5 => ?_)
  obtain ⟨rfl, rfl⟩ := hQ5
  try dsimp only [wb, LakeM, WaysM, WorldM, List.set_cons_succ, List.set_cons_zero, List.append_nil, List.nil_append, List.cons_append, Option.toList, Nat.sub_zero]
  refine v_astore_nN (pc := 8) dX5_sleigh_8 rfl (by decide) rfl ?_
  refine v_aload_nN (pc := 9) dX5_sleigh_9 rfl rfl ?_
  refine v_ifnullN (pc := 10) (tgt := 23) dX5_sleigh_10 (by decide) ?_
  exact v_throw (pc := 23) (names := ["java/lang/RuntimeException", "java/lang/Exception"]) tw_X5_60_175_64 rfl (Nat.le_of_ble_eq_true rfl) dX5_sleigh_23 dX5_sleigh_26 dX5_sleigh_27 dX5_sleigh_29 dX5_sleigh_32 (by decide) (Nat.le_of_ble_eq_true rfl) (by decide) (by decide) (by (have e : (rSl SF BF sc bc s q) = (1, 0) := (if_neg (fun h => hn h.1)); rw [e]; exact ⟨rfl, ⟨rfl, rfl⟩⟩))
set_option maxRecDepth 100000 in
set_option maxHeartbeats 4000000 in
theorem c_X5_sleigh_k {G : Cx} {w : Nat → Nat} {a b f : Nat → Int32} {wa : Int32} {lr : Value} {nd dg : Int32} {T N S C B O : Nat → Int32} {ch : Int32} {PC : Nat → Int32} {SF BF : Nat → Nat → Int32} {ps sc bc hh : Nat} {g0 u0 : Nat} (hps : ps ≤ 8) (hsc : sc ≤ 5) (hbc : bc ≤ 40) {q : Int32} {i : Nat} (hi : i < sc) : Mt G Y_X5_sleigh 7 1 6 [.ref g0, .int (nI i), .int q] (eO 5 g0 [.ref (w 0), .ref u0] :: WorldM w a b f wa lr nd dg T N S C B O ch PC SF BF ps sc bc hh) (fun v M' => (rSl SF BF sc bc (nI i) q).1 = 0 ∧ v = some (.int ((rSl SF BF sc bc (nI i) q).2)) ∧ M' = eO 5 g0 [.ref (w 0), .ref u0] :: WorldM w a b f wa lr nd dg T N S C B O ch PC SF BF ps sc bc hh) (fun E M' => M' = eO 5 g0 [.ref (w 0), .ref u0] :: WorldM w a b f wa lr nd dg T N S C B O ch PC SF BF ps sc bc hh ∧ ((E = IOX ∧ (rSl SF BF sc bc (nI i) q).1 = 1))) := by
  refine Mt.of (L := [some (.ref g0), some (.int (nI i)), some (.int q), none]) rfl (by decide) (by simp [lg_sl, Value.category]) ⟨rfl, rfl, rfl, trivial⟩ (fun sz => ?_)
  refine v_aload_nR (pc := 0) dX5_sleigh_0 rfl rfl ?_
  refine v_get (pc := 1) 0 0 fg_X5_10 rfl rfl dX5_sleigh_1 ?_
  refine v_iload_n (pc := 4) dX5_sleigh_4 rfl rfl ?_
  refine v_callV1 (pc := 5) (c_X4_sleighAt_k hps hsc hbc hi) cm_X4_sleighAt q327 q320 q321 (ci := 4) rfl rfl (orcO 1 rfl) [1, 2, 3, 4, 5, 6, 7, 8, 9, 10, 11, 12, 13, 14, 15, 16, 17] (by rfl) (by decide) (fun _ _ h => h) (by decide) (by decide) (by decide) (Nat.le_of_ble_eq_true rfl) dX5_sleigh_5 (fun v5 M5 hQ5 => ?_)
  obtain ⟨rfl, rfl⟩ := hQ5
  try dsimp only [wb, LakeM, WaysM, WorldM, List.set_cons_succ, List.set_cons_zero, List.append_nil, List.nil_append, List.cons_append, Option.toList, Nat.sub_zero]
  refine v_astore_nR (pc := 8) dX5_sleigh_8 rfl (by decide) rfl ?_
  refine v_aload_nR (pc := 9) dX5_sleigh_9 rfl rfl ?_
  refine v_ifnullR (pc := 10) dX5_sleigh_10 ?_
  refine v_iload_n (pc := 13) dX5_sleigh_13 rfl rfl ?_
  refine v_iconst (pc := 14) (v := 0) dX5_sleigh_14 rfl ?_
  refine v_bipush (pc := 15) (v := 8) dX5_sleigh_15 rfl ?_
  refine v_callS3 (pc := 17) (c_X5_isWithin ) cm_X5_isWithin q214 q215 [] (by rfl) (by decide) (fun _ _ h => h) (by decide) (by decide) (by decide) (Nat.le_of_ble_eq_true rfl) dX5_sleigh_17 (fun v17 M17 hQ17 => ?_)
  obtain ⟨rfl, rfl⟩ := hQ17
  try dsimp only [wb, LakeM, WaysM, WorldM, List.set_cons_succ, List.set_cons_zero, List.append_nil, List.nil_append, List.cons_append, Option.toList, Nat.sub_zero]
  refine v_if_ne (pc := 20) (tgt := 33) dX5_sleigh_20 (by decide) (fun c20 => ?_) (fun c20 => ?_)
  · have c20 := bI_n.mp c20
    obtain ⟨a, ha, rfl⟩ := le_nI 8 (by decide) c20
    refine v_aload_nR (pc := 33) dX5_sleigh_33 rfl rfl ?_
    refine v_get (pc := 34) 0 0 fg_X5_10 rfl rfl dX5_sleigh_34 ?_
    refine v_iload_n (pc := 37) dX5_sleigh_37 rfl rfl ?_
    refine v_iload_n (pc := 38) dX5_sleigh_38 rfl rfl ?_
    refine v_callV2 (pc := 39) (c_X4_tellSleigh hps hsc hbc hi (by omega)) cm_X4_tellSleigh q329 q330 q331 (ci := 4) rfl rfl (orcO 1 rfl) [1, 2, 3, 4, 5, 6, 7, 8, 9, 10, 11, 12, 13, 14, 15, 16, 17] (by rfl) (by decide) (fun _ _ h => h) (by decide) (by decide) (by decide) (Nat.le_of_ble_eq_true rfl) dX5_sleigh_39 (fun v39 M39 hQ39 => ?_)
    obtain ⟨rfl, rfl⟩ := hQ39
    try dsimp only [wb, LakeM, WaysM, WorldM, List.set_cons_succ, List.set_cons_zero, List.append_nil, List.nil_append, List.cons_append, Option.toList, Nat.sub_zero]
    refine v_iret (pc := 42) rfl rfl (Nat.le_of_ble_eq_true rfl) dX5_sleigh_42 ?_
    have e : rSl SF BF sc bc (nI i) (nI a) = (0, tlS SF BF bc i a) := by
      unfold rSl
      rw [if_pos ⟨⟨nI_pos' (by omega), nI_lt (b := sc) hi (by omega)⟩, c20⟩, cN_nI (by omega), cN_nI (by omega)]
    rw [e]
    exact ⟨rfl, rfl, rfl⟩
  · have c20 := bI_0.mp c20
    exact v_throw (pc := 23) (names := ["java/lang/RuntimeException", "java/lang/Exception"]) tw_X5_60_175_64 rfl (Nat.le_of_ble_eq_true rfl) dX5_sleigh_23 dX5_sleigh_26 dX5_sleigh_27 dX5_sleigh_29 dX5_sleigh_32 (by decide) (Nat.le_of_ble_eq_true rfl) (by decide) (by decide) (by (have e : (rSl SF BF sc bc (nI i) q) = (1, 0) := (if_neg (fun h => c20 h.2)); rw [e]; exact ⟨rfl, ⟨rfl, rfl⟩⟩))
theorem c_X5_sleigh {G : Cx} {w : Nat → Nat} {a b f : Nat → Int32} {wa : Int32} {lr : Value} {nd dg : Int32} {T N S C B O : Nat → Int32} {ch : Int32} {PC : Nat → Int32} {SF BF : Nat → Nat → Int32} {ps sc bc hh : Nat} {g0 u0 : Nat} (hps : ps ≤ 8) (hsc : sc ≤ 5) (hbc : bc ≤ 40) {s q : Int32} : Mt G Y_X5_sleigh 7 1 6 [.ref g0, .int s, .int q] (eO 5 g0 [.ref (w 0), .ref u0] :: WorldM w a b f wa lr nd dg T N S C B O ch PC SF BF ps sc bc hh) (fun v M' => (rSl SF BF sc bc s q).1 = 0 ∧ v = some (.int ((rSl SF BF sc bc s q).2)) ∧ M' = eO 5 g0 [.ref (w 0), .ref u0] :: WorldM w a b f wa lr nd dg T N S C B O ch PC SF BF ps sc bc hh) (fun E M' => M' = eO 5 g0 [.ref (w 0), .ref u0] :: WorldM w a b f wa lr nd dg T N S C B O ch PC SF BF ps sc bc hh ∧ ((E = IOX ∧ (rSl SF BF sc bc s q).1 = 1))) := by
  by_cases h : isP sc s
  · obtain ⟨i, hi, rfl⟩ := kOf h (by omega)
    exact c_X5_sleigh_k hps hsc hbc hi
  · exact c_X5_sleigh_n hps hsc hbc h
set_option maxRecDepth 100000 in
set_option maxHeartbeats 4000000 in
theorem c_X5_bag_n {G : Cx} {w : Nat → Nat} {a b f : Nat → Int32} {wa : Int32} {lr : Value} {nd dg : Int32} {T N S C B O : Nat → Int32} {ch : Int32} {PC : Nat → Int32} {SF BF : Nat → Nat → Int32} {ps sc bc hh : Nat} {g0 u0 : Nat} (hps : ps ≤ 8) (hsc : sc ≤ 5) (hbc : bc ≤ 40) {s q : Int32} (hn : ¬ isP bc s) : Mt G Y_X5_bag 7 1 6 [.ref g0, .int s, .int q] (eO 5 g0 [.ref (w 0), .ref u0] :: WorldM w a b f wa lr nd dg T N S C B O ch PC SF BF ps sc bc hh) (fun v M' => (rBg BF bc s q).1 = 0 ∧ v = some (.int ((rBg BF bc s q).2)) ∧ M' = eO 5 g0 [.ref (w 0), .ref u0] :: WorldM w a b f wa lr nd dg T N S C B O ch PC SF BF ps sc bc hh) (fun E M' => M' = eO 5 g0 [.ref (w 0), .ref u0] :: WorldM w a b f wa lr nd dg T N S C B O ch PC SF BF ps sc bc hh ∧ ((E = IOX ∧ (rBg BF bc s q).1 = 1))) := by
  refine Mt.of (L := [some (.ref g0), some (.int s), some (.int q), none]) rfl (by decide) (by simp [lg_sl, Value.category]) ⟨rfl, rfl, rfl, trivial⟩ (fun sz => ?_)
  refine v_aload_nR (pc := 0) dX5_bag_0 rfl rfl ?_
  refine v_get (pc := 1) 0 0 fg_X5_10 rfl rfl dX5_bag_1 ?_
  refine v_iload_n (pc := 4) dX5_bag_4 rfl rfl ?_
  refine v_callV1 (pc := 5) (c_X4_bagAt_n hps hsc hbc hn) cm_X4_bagAt q361 q350 q351 (ci := 4) rfl rfl (orcO 1 rfl) [1, 2, 3, 4, 5, 6, 7, 8, 9, 10, 11, 12, 13, 14, 15, 16, 17] (by rfl) (by decide) (fun _ _ h => h) (by decide) (by decide) (by decide) (Nat.le_of_ble_eq_true rfl) dX5_bag_5 (fun v5 M5 hQ5 => ?_)
  obtain ⟨rfl, rfl⟩ := hQ5
  try dsimp only [wb, LakeM, WaysM, WorldM, List.set_cons_succ, List.set_cons_zero, List.append_nil, List.nil_append, List.cons_append, Option.toList, Nat.sub_zero]
  refine v_astore_nN (pc := 8) dX5_bag_8 rfl (by decide) rfl ?_
  refine v_aload_nN (pc := 9) dX5_bag_9 rfl rfl ?_
  refine v_ifnullN (pc := 10) (tgt := 22) dX5_bag_10 (by decide) ?_
  exact v_throw (pc := 22) (names := ["java/lang/RuntimeException", "java/lang/Exception"]) tw_X5_60_180_64 rfl (Nat.le_of_ble_eq_true rfl) dX5_bag_22 dX5_bag_25 dX5_bag_26 dX5_bag_28 dX5_bag_31 (by decide) (Nat.le_of_ble_eq_true rfl) (by decide) (by decide) (by (have e : (rBg BF bc s q) = (1, 0) := (if_neg (fun h => hn h.1)); rw [e]; exact ⟨rfl, ⟨rfl, rfl⟩⟩))
set_option maxRecDepth 100000 in
set_option maxHeartbeats 4000000 in
theorem c_X5_bag_k {G : Cx} {w : Nat → Nat} {a b f : Nat → Int32} {wa : Int32} {lr : Value} {nd dg : Int32} {T N S C B O : Nat → Int32} {ch : Int32} {PC : Nat → Int32} {SF BF : Nat → Nat → Int32} {ps sc bc hh : Nat} {g0 u0 : Nat} (hps : ps ≤ 8) (hsc : sc ≤ 5) (hbc : bc ≤ 40) {q : Int32} {i : Nat} (hi : i < bc) : Mt G Y_X5_bag 7 1 6 [.ref g0, .int (nI i), .int q] (eO 5 g0 [.ref (w 0), .ref u0] :: WorldM w a b f wa lr nd dg T N S C B O ch PC SF BF ps sc bc hh) (fun v M' => (rBg BF bc (nI i) q).1 = 0 ∧ v = some (.int ((rBg BF bc (nI i) q).2)) ∧ M' = eO 5 g0 [.ref (w 0), .ref u0] :: WorldM w a b f wa lr nd dg T N S C B O ch PC SF BF ps sc bc hh) (fun E M' => M' = eO 5 g0 [.ref (w 0), .ref u0] :: WorldM w a b f wa lr nd dg T N S C B O ch PC SF BF ps sc bc hh ∧ ((E = IOX ∧ (rBg BF bc (nI i) q).1 = 1))) := by
  refine Mt.of (L := [some (.ref g0), some (.int (nI i)), some (.int q), none]) rfl (by decide) (by simp [lg_sl, Value.category]) ⟨rfl, rfl, rfl, trivial⟩ (fun sz => ?_)
  refine v_aload_nR (pc := 0) dX5_bag_0 rfl rfl ?_
  refine v_get (pc := 1) 0 0 fg_X5_10 rfl rfl dX5_bag_1 ?_
  refine v_iload_n (pc := 4) dX5_bag_4 rfl rfl ?_
  refine v_callV1 (pc := 5) (c_X4_bagAt_k hps hsc hbc hi) cm_X4_bagAt q361 q350 q351 (ci := 4) rfl rfl (orcO 1 rfl) [1, 2, 3, 4, 5, 6, 7, 8, 9, 10, 11, 12, 13, 14, 15, 16, 17] (by rfl) (by decide) (fun _ _ h => h) (by decide) (by decide) (by decide) (Nat.le_of_ble_eq_true rfl) dX5_bag_5 (fun v5 M5 hQ5 => ?_)
  obtain ⟨rfl, rfl⟩ := hQ5
  try dsimp only [wb, LakeM, WaysM, WorldM, List.set_cons_succ, List.set_cons_zero, List.append_nil, List.nil_append, List.cons_append, Option.toList, Nat.sub_zero]
  refine v_astore_nR (pc := 8) dX5_bag_8 rfl (by decide) rfl ?_
  refine v_aload_nR (pc := 9) dX5_bag_9 rfl rfl ?_
  refine v_ifnullR (pc := 10) dX5_bag_10 ?_
  refine v_iload_n (pc := 13) dX5_bag_13 rfl rfl ?_
  refine v_iconst (pc := 14) (v := 0) dX5_bag_14 rfl ?_
  refine v_iconst (pc := 15) (v := 4) dX5_bag_15 rfl ?_
  refine v_callS3 (pc := 16) (c_X5_isWithin ) cm_X5_isWithin q214 q215 [] (by rfl) (by decide) (fun _ _ h => h) (by decide) (by decide) (by decide) (Nat.le_of_ble_eq_true rfl) dX5_bag_16 (fun v16 M16 hQ16 => ?_)
  obtain ⟨rfl, rfl⟩ := hQ16
  try dsimp only [wb, LakeM, WaysM, WorldM, List.set_cons_succ, List.set_cons_zero, List.append_nil, List.nil_append, List.cons_append, Option.toList, Nat.sub_zero]
  refine v_if_ne (pc := 19) (tgt := 32) dX5_bag_19 (by decide) (fun c19 => ?_) (fun c19 => ?_)
  · have c19 := bI_n.mp c19
    obtain ⟨a, ha, rfl⟩ := le_nI 4 (by decide) c19
    refine v_aload_nR (pc := 32) dX5_bag_32 rfl rfl ?_
    refine v_iload_n (pc := 33) dX5_bag_33 rfl rfl ?_
    refine v_callV1 (pc := 34) (c_X0_tell (n := 40) (i := i) (by omega) (by omega)) cm_X0_tell q363 q364 q365 (ci := 0) rfl rfl (orcF 17 rfl (by omega)) [17] (by rfl) (by decide) (fun _ _ h => h) (by decide) (by decide) (by decide) (Nat.le_of_ble_eq_true rfl) dX5_bag_34 (fun v34 M34 hQ34 => ?_)
    obtain ⟨rfl, rfl⟩ := hQ34
    try dsimp only [wb, LakeM, WaysM, WorldM, List.set_cons_succ, List.set_cons_zero, List.append_nil, List.nil_append, List.cons_append, Option.toList, Nat.sub_zero]
    refine v_iret (pc := 37) rfl rfl (Nat.le_of_ble_eq_true rfl) dX5_bag_37 ?_
    have e : rBg BF bc (nI i) (nI a) = (0, BF i a) := by
      unfold rBg
      rw [if_pos ⟨⟨nI_pos' (by omega), nI_lt (b := bc) hi (by omega)⟩, c19⟩, cN_nI (by omega), cN_nI (by omega)]
    rw [e]
    exact ⟨rfl, rfl, rfl⟩
  · have c19 := bI_0.mp c19
    exact v_throw (pc := 22) (names := ["java/lang/RuntimeException", "java/lang/Exception"]) tw_X5_60_180_64 rfl (Nat.le_of_ble_eq_true rfl) dX5_bag_22 dX5_bag_25 dX5_bag_26 dX5_bag_28 dX5_bag_31 (by decide) (Nat.le_of_ble_eq_true rfl) (by decide) (by decide) (by (have e : (rBg BF bc (nI i) q) = (1, 0) := (if_neg (fun h => c19 h.2)); rw [e]; exact ⟨rfl, ⟨rfl, rfl⟩⟩))
theorem c_X5_bag {G : Cx} {w : Nat → Nat} {a b f : Nat → Int32} {wa : Int32} {lr : Value} {nd dg : Int32} {T N S C B O : Nat → Int32} {ch : Int32} {PC : Nat → Int32} {SF BF : Nat → Nat → Int32} {ps sc bc hh : Nat} {g0 u0 : Nat} (hps : ps ≤ 8) (hsc : sc ≤ 5) (hbc : bc ≤ 40) {s q : Int32} : Mt G Y_X5_bag 7 1 6 [.ref g0, .int s, .int q] (eO 5 g0 [.ref (w 0), .ref u0] :: WorldM w a b f wa lr nd dg T N S C B O ch PC SF BF ps sc bc hh) (fun v M' => (rBg BF bc s q).1 = 0 ∧ v = some (.int ((rBg BF bc s q).2)) ∧ M' = eO 5 g0 [.ref (w 0), .ref u0] :: WorldM w a b f wa lr nd dg T N S C B O ch PC SF BF ps sc bc hh) (fun E M' => M' = eO 5 g0 [.ref (w 0), .ref u0] :: WorldM w a b f wa lr nd dg T N S C B O ch PC SF BF ps sc bc hh ∧ ((E = IOX ∧ (rBg BF bc s q).1 = 1))) := by
  by_cases h : isP bc s
  · obtain ⟨i, hi, rfl⟩ := kOf h (by omega)
    exact c_X5_bag_k hps hsc hbc hi
  · exact c_X5_bag_n hps hsc hbc h
