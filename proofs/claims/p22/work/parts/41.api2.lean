/-! the class's own calls, second half -/
def rLd (SF BF : Nat → Nat → Int32) (sc bc : Nat) (s b : Int32) : Int32 × Int32 × (Nat → Nat → Int32) × (Nat → Nat → Int32) := if isP sc s ∧ isP bc b then (if BF (cN b) 2 = 0 ∧ SF (cN s) 3 = 0 ∧ SF (cN s) 5 = BF (cN b) 3 then (0, slW (upS SF (cN s) 1 (SF (cN s) 1 + BF (cN b) 0)) (cN s), upS SF (cN s) 1 (SF (cN s) 1 + BF (cN b) 0), upS (upS BF (cN b) 2 1) (cN b) 3 s) else (2, 0, SF, BF)) else (1, 0, SF, BF)
def dpS (SF : Nat → Nat → Int32) (i : Nat) (q : Int32) : Nat → Nat → Int32 := upS (upS (upS SF i 3 1) i 5 q) i 8 (-1)
def rSe (T N C PC : Nat → Int32) (SF : Nat → Nat → Int32) (ps sc : Nat) (f : Nat → Int32) (s q : Int32) : Int32 × Int32 × (Nat → Nat → Int32) := if isP sc s ∧ isP ps q then (if SF (cN s) 3 = 0 ∧ SF (cN s) 5 = q then (2, 0, SF) else if ¬ SF (cN s) 3 = 0 then (3, 0, SF) else (0, (hgQ T N C PC (dpS SF (cN s) q) ps (cN s) f).1 (cN (dpS SF (cN s) q (cN s) 4)), dpS SF (cN s) q)) else (1, 0, SF)
def lyU (A : Nat → Int32) (v : Int32) (c : Nat → Nat) : Nat → Nat → Int32
  | 0 => A
  | n + 1 => upd (lyU A v c n) (c n) v
def cel (x y wd n : Nat) : Nat := x + n % wd + 16 * (y + n / wd)
theorem cel_at {x y wd i j : Nat} (hj : j < wd) : cel x y wd (i * wd + j) = x + j + 16 * (y + i) := by
  unfold cel
  rw [Nat.add_comm (i * wd) j, Nat.add_mul_mod_self_right, Nat.mod_eq_of_lt hj, Nat.add_mul_div_right _ _ (by omega), Nat.div_eq_of_lt hj, Nat.zero_add]
def rIc (T S C PC : Nat → Int32) (SF : Nat → Nat → Int32) (ps sc : Nat) (ch x y w h t : Int32) : Int32 × Int32 × (Nat → Int32) × (Nat → Int32) × (Nat → Int32) × Int32 := if (onM x y ∧ (1 ≤ w ∧ w ≤ 16 - x) ∧ (1 ≤ h ∧ h ≤ 10 - y)) ∧ (-1 ≤ t ∧ t ≤ 200) then (if ¬ t = -1 ∧ tkL PC SF ps sc (cN x) (cN y) (cN w) (cN h) = true then (2, 0, T, S, C, ch) else (0, w * h, lyU T t (cel (cN x) (cN y) (cN w)) (cN h * cN w), lyU S 0 (cel (cN x) (cN y) (cN w)) (cN h * cN w), lyU C 0 (cel (cN x) (cN y) (cN w)) (cN h * cN w), ch + nI (cN h * cN w))) else (1, 0, T, S, C, ch)
def psL (n5 : Nat) (l5 : Value) (N O PC : Nat → Int32) (ps sc bc : Nat) : Nat → Nat → HW → Int32 → HW × Int32
  | 0, _, x, c => (x, c)
  | n + 1, hh, x, c => psL n5 l5 N O PC ps sc bc n (hh + 1) (hrW n5 l5 N O PC ps sc bc hh x) (c + hrN n5 O PC ps sc bc hh x)
def rPs (n5 : Nat) (l5 : Value) (N O PC : Nat → Int32) (ps sc bc hh : Nat) (x : HW) (q : Int32) : Int32 × Int32 × HW × Nat := if 1 ≤ q ∧ q ≤ 200 then (0, (psL n5 l5 N O PC ps sc bc (cN q) hh x 0).2, (psL n5 l5 N O PC ps sc bc (cN q) hh x 0).1, hh + cN q) else (1, 0, x, hh)
def rWy (T N C PC : Nat → Int32) (ps : Nat) (f : Nat → Int32) (a b w r : Int32) : Int32 × Int32 := if isP ps a ∧ isP ps b then (if (1 ≤ w ∧ w ≤ 2000) ∧ (1 ≤ r ∧ r ≤ 6) then (0, (lkq (fun k => hoB T C k (8 + w / 12)) N (w / (60 * r) + (if 50 ≤ (0 : Int32) then 1 else 0)) (cN (cop PC ps a)) (cpo PC ps b) f).1 (cN (cop PC ps a))) else (2, 0)) else (1, 0)
def cnD (T C : Nat → Int32) (SF BF : Nat → Nat → Int32) (ps sc bc hh : Nat) : Nat → Int64 → Int64
  | 0, d => d
  | n + 1, d => cnD T C SF BF ps sc bc hh n d * 31 + (tlN T C SF BF ps sc bc hh n).toInt64
def dgA (T N S C O PC : Nat → Int32) (SF BF : Nat → Nat → Int32) (ps sc bc hh : Nat) : Int64 := dgB BF bc (dgS SF BF bc sc (dgP PC ps 8 (dgL T N S C 160 (dgC O 8 (cnD T C SF BF ps sc bc hh 9 601)))))
theorem isP_k {n i : Nat} (hi : i < n) (hn : n < 2 ^ 31) : isP n (nI i) := ⟨nI_pos' (by omega), nI_lt (b := n) hi hn⟩
set_option maxRecDepth 100000 in
set_option maxHeartbeats 4000000 in
theorem c_X5_load_nn {G : Cx} {w : Nat → Nat} {a b f : Nat → Int32} {wa : Int32} {lr : Value} {nd dg : Int32} {T N S C B O : Nat → Int32} {ch : Int32} {PC : Nat → Int32} {SF BF : Nat → Nat → Int32} {ps sc bc hh : Nat} {g0 u0 : Nat} (hps : ps ≤ 8) (hsc : sc ≤ 5) (hbc : bc ≤ 40) {s b1 : Int32} (hs : ¬ isP sc s) (hb : ¬ isP bc b1) : Mt G Y_X5_load 7 1 6 [.ref g0, .int s, .int b1] (eO 5 g0 [.ref (w 0), .ref u0] :: WorldM w a b f wa lr nd dg T N S C B O ch PC SF BF ps sc bc hh) (fun v M' => (rLd SF BF sc bc s b1).1 = 0 ∧ v = some (.int ((rLd SF BF sc bc s b1).2.1)) ∧ M' = eO 5 g0 [.ref (w 0), .ref u0] :: WorldM w a b f wa lr nd dg T N S C B O ch PC (rLd SF BF sc bc s b1).2.2.1 (rLd SF BF sc bc s b1).2.2.2 ps sc bc hh) (fun E M' => M' = eO 5 g0 [.ref (w 0), .ref u0] :: WorldM w a b f wa lr nd dg T N S C B O ch PC (rLd SF BF sc bc s b1).2.2.1 (rLd SF BF sc bc s b1).2.2.2 ps sc bc hh ∧ ((E = IOX ∧ (rLd SF BF sc bc s b1).1 = 1) ∨ (E = ISX ∧ (rLd SF BF sc bc s b1).1 = 2))) := by
  refine Mt.of (L := [some (.ref g0), some (.int s), some (.int b1), none, none]) rfl (by decide) (by simp [lg_sl, Value.category]) ⟨rfl, rfl, rfl, trivial⟩ (fun sz => ?_)
  refine v_aload_nR (pc := 0) dX5_load_0 rfl rfl ?_
  refine v_get (pc := 1) 0 0 fg_X5_10 rfl rfl dX5_load_1 ?_
  refine v_iload_n (pc := 4) dX5_load_4 rfl rfl ?_
  refine v_callV1 (pc := 5) (c_X4_sleighAt_n hps hsc hbc hs) cm_X4_sleighAt q327 q320 q321 (ci := 4) rfl rfl (orcO 1 rfl) [1, 2, 3, 4, 5, 6, 7, 8, 9, 10, 11, 12, 13, 14, 15, 16, 17] (by rfl) (by decide) (fun _ _ h => h) (by decide) (by decide) (by decide) (Nat.le_of_ble_eq_true rfl) dX5_load_5 (fun v5 M5 hQ5 => ?_)
  obtain ⟨rfl, rfl⟩ := hQ5
  try dsimp only [wb, LakeM, WaysM, WorldM, List.set_cons_succ, List.set_cons_zero, List.append_nil, List.nil_append, List.cons_append, Option.toList, Nat.sub_zero]
  refine v_astore_nN (pc := 8) dX5_load_8 rfl (by decide) rfl ?_
  refine v_aload_nR (pc := 9) dX5_load_9 rfl rfl ?_
  refine v_get (pc := 10) 0 0 fg_X5_10 rfl rfl dX5_load_10 ?_
  refine v_iload_n (pc := 13) dX5_load_13 rfl rfl ?_
  refine v_callV1 (pc := 14) (c_X4_bagAt_n hps hsc hbc hb) cm_X4_bagAt q361 q350 q351 (ci := 4) rfl rfl (orcO 1 rfl) [1, 2, 3, 4, 5, 6, 7, 8, 9, 10, 11, 12, 13, 14, 15, 16, 17] (by rfl) (by decide) (fun _ _ h => h) (by decide) (by decide) (by decide) (Nat.le_of_ble_eq_true rfl) dX5_load_14 (fun v14 M14 hQ14 => ?_)
  obtain ⟨rfl, rfl⟩ := hQ14
  try dsimp only [wb, LakeM, WaysM, WorldM, List.set_cons_succ, List.set_cons_zero, List.append_nil, List.nil_append, List.cons_append, Option.toList, Nat.sub_zero]
  refine v_astoreN (pc := 17) dX5_load_17 (by decide) rfl ?_
  refine v_aload_nN (pc := 19) dX5_load_19 rfl rfl ?_
  refine v_ifnullN (pc := 20) (tgt := 28) dX5_load_20 (by decide) ?_
  exact v_throw (pc := 28) (names := ["java/lang/RuntimeException", "java/lang/Exception"]) tw_X5_60_134_64 rfl (Nat.le_of_ble_eq_true rfl) dX5_load_28 dX5_load_31 dX5_load_32 dX5_load_34 dX5_load_37 (by decide) (Nat.le_of_ble_eq_true rfl) (by decide) (by decide) (by (have e : (rLd SF BF sc bc s b1) = (1, 0, SF, BF) := (if_neg (fun h => hs h.1)); rw [e]; exact ⟨rfl, Or.inl ⟨rfl, rfl⟩⟩))
set_option maxRecDepth 100000 in
set_option maxHeartbeats 4000000 in
theorem c_X5_load_nk {G : Cx} {w : Nat → Nat} {a b f : Nat → Int32} {wa : Int32} {lr : Value} {nd dg : Int32} {T N S C B O : Nat → Int32} {ch : Int32} {PC : Nat → Int32} {SF BF : Nat → Nat → Int32} {ps sc bc hh : Nat} {g0 u0 : Nat} (hps : ps ≤ 8) (hsc : sc ≤ 5) (hbc : bc ≤ 40) {s : Int32} {j : Nat} (hs : ¬ isP sc s) (hj : j < bc) : Mt G Y_X5_load 7 1 6 [.ref g0, .int s, .int (nI j)] (eO 5 g0 [.ref (w 0), .ref u0] :: WorldM w a b f wa lr nd dg T N S C B O ch PC SF BF ps sc bc hh) (fun v M' => (rLd SF BF sc bc s (nI j)).1 = 0 ∧ v = some (.int ((rLd SF BF sc bc s (nI j)).2.1)) ∧ M' = eO 5 g0 [.ref (w 0), .ref u0] :: WorldM w a b f wa lr nd dg T N S C B O ch PC (rLd SF BF sc bc s (nI j)).2.2.1 (rLd SF BF sc bc s (nI j)).2.2.2 ps sc bc hh) (fun E M' => M' = eO 5 g0 [.ref (w 0), .ref u0] :: WorldM w a b f wa lr nd dg T N S C B O ch PC (rLd SF BF sc bc s (nI j)).2.2.1 (rLd SF BF sc bc s (nI j)).2.2.2 ps sc bc hh ∧ ((E = IOX ∧ (rLd SF BF sc bc s (nI j)).1 = 1) ∨ (E = ISX ∧ (rLd SF BF sc bc s (nI j)).1 = 2))) := by
  refine Mt.of (L := [some (.ref g0), some (.int s), some (.int (nI j)), none, none]) rfl (by decide) (by simp [lg_sl, Value.category]) ⟨rfl, rfl, rfl, trivial⟩ (fun sz => ?_)
  refine v_aload_nR (pc := 0) dX5_load_0 rfl rfl ?_
  refine v_get (pc := 1) 0 0 fg_X5_10 rfl rfl dX5_load_1 ?_
  refine v_iload_n (pc := 4) dX5_load_4 rfl rfl ?_
  refine v_callV1 (pc := 5) (c_X4_sleighAt_n hps hsc hbc hs) cm_X4_sleighAt q327 q320 q321 (ci := 4) rfl rfl (orcO 1 rfl) [1, 2, 3, 4, 5, 6, 7, 8, 9, 10, 11, 12, 13, 14, 15, 16, 17] (by rfl) (by decide) (fun _ _ h => h) (by decide) (by decide) (by decide) (Nat.le_of_ble_eq_true rfl) dX5_load_5 (fun v5 M5 hQ5 => ?_)
  obtain ⟨rfl, rfl⟩ := hQ5
  try dsimp only [wb, LakeM, WaysM, WorldM, List.set_cons_succ, List.set_cons_zero, List.append_nil, List.nil_append, List.cons_append, Option.toList, Nat.sub_zero]
  refine v_astore_nN (pc := 8) dX5_load_8 rfl (by decide) rfl ?_
  refine v_aload_nR (pc := 9) dX5_load_9 rfl rfl ?_
  refine v_get (pc := 10) 0 0 fg_X5_10 rfl rfl dX5_load_10 ?_
  refine v_iload_n (pc := 13) dX5_load_13 rfl rfl ?_
  refine v_callV1 (pc := 14) (c_X4_bagAt_k hps hsc hbc hj) cm_X4_bagAt q361 q350 q351 (ci := 4) rfl rfl (orcO 1 rfl) [1, 2, 3, 4, 5, 6, 7, 8, 9, 10, 11, 12, 13, 14, 15, 16, 17] (by rfl) (by decide) (fun _ _ h => h) (by decide) (by decide) (by decide) (Nat.le_of_ble_eq_true rfl) dX5_load_14 (fun v14 M14 hQ14 => ?_)
  obtain ⟨rfl, rfl⟩ := hQ14
  try dsimp only [wb, LakeM, WaysM, WorldM, List.set_cons_succ, List.set_cons_zero, List.append_nil, List.nil_append, List.cons_append, Option.toList, Nat.sub_zero]
  refine v_astoreR (pc := 17) dX5_load_17 (by decide) rfl ?_
  refine v_aload_nN (pc := 19) dX5_load_19 rfl rfl ?_
  refine v_ifnullN (pc := 20) (tgt := 28) dX5_load_20 (by decide) ?_
  exact v_throw (pc := 28) (names := ["java/lang/RuntimeException", "java/lang/Exception"]) tw_X5_60_134_64 rfl (Nat.le_of_ble_eq_true rfl) dX5_load_28 dX5_load_31 dX5_load_32 dX5_load_34 dX5_load_37 (by decide) (Nat.le_of_ble_eq_true rfl) (by decide) (by decide) (by (have e : (rLd SF BF sc bc s (nI j)) = (1, 0, SF, BF) := (if_neg (fun h => hs h.1)); rw [e]; exact ⟨rfl, Or.inl ⟨rfl, rfl⟩⟩))
set_option maxRecDepth 100000 in
set_option maxHeartbeats 4000000 in
theorem c_X5_load_kn {G : Cx} {w : Nat → Nat} {a b f : Nat → Int32} {wa : Int32} {lr : Value} {nd dg : Int32} {T N S C B O : Nat → Int32} {ch : Int32} {PC : Nat → Int32} {SF BF : Nat → Nat → Int32} {ps sc bc hh : Nat} {g0 u0 : Nat} (hps : ps ≤ 8) (hsc : sc ≤ 5) (hbc : bc ≤ 40) {b1 : Int32} {i : Nat} (hi : i < sc) (hb : ¬ isP bc b1) : Mt G Y_X5_load 7 1 6 [.ref g0, .int (nI i), .int b1] (eO 5 g0 [.ref (w 0), .ref u0] :: WorldM w a b f wa lr nd dg T N S C B O ch PC SF BF ps sc bc hh) (fun v M' => (rLd SF BF sc bc (nI i) b1).1 = 0 ∧ v = some (.int ((rLd SF BF sc bc (nI i) b1).2.1)) ∧ M' = eO 5 g0 [.ref (w 0), .ref u0] :: WorldM w a b f wa lr nd dg T N S C B O ch PC (rLd SF BF sc bc (nI i) b1).2.2.1 (rLd SF BF sc bc (nI i) b1).2.2.2 ps sc bc hh) (fun E M' => M' = eO 5 g0 [.ref (w 0), .ref u0] :: WorldM w a b f wa lr nd dg T N S C B O ch PC (rLd SF BF sc bc (nI i) b1).2.2.1 (rLd SF BF sc bc (nI i) b1).2.2.2 ps sc bc hh ∧ ((E = IOX ∧ (rLd SF BF sc bc (nI i) b1).1 = 1) ∨ (E = ISX ∧ (rLd SF BF sc bc (nI i) b1).1 = 2))) := by
  refine Mt.of (L := [some (.ref g0), some (.int (nI i)), some (.int b1), none, none]) rfl (by decide) (by simp [lg_sl, Value.category]) ⟨rfl, rfl, rfl, trivial⟩ (fun sz => ?_)
  refine v_aload_nR (pc := 0) dX5_load_0 rfl rfl ?_
  refine v_get (pc := 1) 0 0 fg_X5_10 rfl rfl dX5_load_1 ?_
  refine v_iload_n (pc := 4) dX5_load_4 rfl rfl ?_
  refine v_callV1 (pc := 5) (c_X4_sleighAt_k hps hsc hbc hi) cm_X4_sleighAt q327 q320 q321 (ci := 4) rfl rfl (orcO 1 rfl) [1, 2, 3, 4, 5, 6, 7, 8, 9, 10, 11, 12, 13, 14, 15, 16, 17] (by rfl) (by decide) (fun _ _ h => h) (by decide) (by decide) (by decide) (Nat.le_of_ble_eq_true rfl) dX5_load_5 (fun v5 M5 hQ5 => ?_)
  obtain ⟨rfl, rfl⟩ := hQ5
  try dsimp only [wb, LakeM, WaysM, WorldM, List.set_cons_succ, List.set_cons_zero, List.append_nil, List.nil_append, List.cons_append, Option.toList, Nat.sub_zero]
  refine v_astore_nR (pc := 8) dX5_load_8 rfl (by decide) rfl ?_
  refine v_aload_nR (pc := 9) dX5_load_9 rfl rfl ?_
  refine v_get (pc := 10) 0 0 fg_X5_10 rfl rfl dX5_load_10 ?_
  refine v_iload_n (pc := 13) dX5_load_13 rfl rfl ?_
  refine v_callV1 (pc := 14) (c_X4_bagAt_n hps hsc hbc hb) cm_X4_bagAt q361 q350 q351 (ci := 4) rfl rfl (orcO 1 rfl) [1, 2, 3, 4, 5, 6, 7, 8, 9, 10, 11, 12, 13, 14, 15, 16, 17] (by rfl) (by decide) (fun _ _ h => h) (by decide) (by decide) (by decide) (Nat.le_of_ble_eq_true rfl) dX5_load_14 (fun v14 M14 hQ14 => ?_)
  obtain ⟨rfl, rfl⟩ := hQ14
  try dsimp only [wb, LakeM, WaysM, WorldM, List.set_cons_succ, List.set_cons_zero, List.append_nil, List.nil_append, List.cons_append, Option.toList, Nat.sub_zero]
  refine v_astoreN (pc := 17) dX5_load_17 (by decide) rfl ?_
  refine v_aload_nR (pc := 19) dX5_load_19 rfl rfl ?_
  refine v_ifnullR (pc := 20) dX5_load_20 ?_
  refine v_aloadN (pc := 23) dX5_load_23 rfl ?_
  refine v_ifnonnullN (pc := 25) dX5_load_25 ?_
  exact v_throw (pc := 28) (names := ["java/lang/RuntimeException", "java/lang/Exception"]) tw_X5_60_134_64 rfl (Nat.le_of_ble_eq_true rfl) dX5_load_28 dX5_load_31 dX5_load_32 dX5_load_34 dX5_load_37 (by decide) (Nat.le_of_ble_eq_true rfl) (by decide) (by decide) (by (have e : (rLd SF BF sc bc (nI i) b1) = (1, 0, SF, BF) := (if_neg (fun h => hb h.2)); rw [e]; exact ⟨rfl, Or.inl ⟨rfl, rfl⟩⟩))
set_option maxRecDepth 100000 in
set_option maxHeartbeats 4000000 in
theorem c_X5_load_kk {G : Cx} {w : Nat → Nat} {a b f : Nat → Int32} {wa : Int32} {lr : Value} {nd dg : Int32} {T N S C B O : Nat → Int32} {ch : Int32} {PC : Nat → Int32} {SF BF : Nat → Nat → Int32} {ps sc bc hh : Nat} {g0 u0 : Nat} (hps : ps ≤ 8) (hsc : sc ≤ 5) (hbc : bc ≤ 40) {i j : Nat} (hi : i < sc) (hj : j < bc) : Mt G Y_X5_load 7 1 6 [.ref g0, .int (nI i), .int (nI j)] (eO 5 g0 [.ref (w 0), .ref u0] :: WorldM w a b f wa lr nd dg T N S C B O ch PC SF BF ps sc bc hh) (fun v M' => (rLd SF BF sc bc (nI i) (nI j)).1 = 0 ∧ v = some (.int ((rLd SF BF sc bc (nI i) (nI j)).2.1)) ∧ M' = eO 5 g0 [.ref (w 0), .ref u0] :: WorldM w a b f wa lr nd dg T N S C B O ch PC (rLd SF BF sc bc (nI i) (nI j)).2.2.1 (rLd SF BF sc bc (nI i) (nI j)).2.2.2 ps sc bc hh) (fun E M' => M' = eO 5 g0 [.ref (w 0), .ref u0] :: WorldM w a b f wa lr nd dg T N S C B O ch PC (rLd SF BF sc bc (nI i) (nI j)).2.2.1 (rLd SF BF sc bc (nI i) (nI j)).2.2.2 ps sc bc hh ∧ ((E = IOX ∧ (rLd SF BF sc bc (nI i) (nI j)).1 = 1) ∨ (E = ISX ∧ (rLd SF BF sc bc (nI i) (nI j)).1 = 2))) := by
  refine Mt.of (L := [some (.ref g0), some (.int (nI i)), some (.int (nI j)), none, none]) rfl (by decide) (by simp [lg_sl, Value.category]) ⟨rfl, rfl, rfl, trivial⟩ (fun sz => ?_)
  refine v_aload_nR (pc := 0) dX5_load_0 rfl rfl ?_
  refine v_get (pc := 1) 0 0 fg_X5_10 rfl rfl dX5_load_1 ?_
  refine v_iload_n (pc := 4) dX5_load_4 rfl rfl ?_
  refine v_callV1 (pc := 5) (c_X4_sleighAt_k hps hsc hbc hi) cm_X4_sleighAt q327 q320 q321 (ci := 4) rfl rfl (orcO 1 rfl) [1, 2, 3, 4, 5, 6, 7, 8, 9, 10, 11, 12, 13, 14, 15, 16, 17] (by rfl) (by decide) (fun _ _ h => h) (by decide) (by decide) (by decide) (Nat.le_of_ble_eq_true rfl) dX5_load_5 (fun v5 M5 hQ5 => ?_)
  obtain ⟨rfl, rfl⟩ := hQ5
  try dsimp only [wb, LakeM, WaysM, WorldM, List.set_cons_succ, List.set_cons_zero, List.append_nil, List.nil_append, List.cons_append, Option.toList, Nat.sub_zero]
  refine v_astore_nR (pc := 8) dX5_load_8 rfl (by decide) rfl ?_
  refine v_aload_nR (pc := 9) dX5_load_9 rfl rfl ?_
  refine v_get (pc := 10) 0 0 fg_X5_10 rfl rfl dX5_load_10 ?_
  refine v_iload_n (pc := 13) dX5_load_13 rfl rfl ?_
  refine v_callV1 (pc := 14) (c_X4_bagAt_k hps hsc hbc hj) cm_X4_bagAt q361 q350 q351 (ci := 4) rfl rfl (orcO 1 rfl) [1, 2, 3, 4, 5, 6, 7, 8, 9, 10, 11, 12, 13, 14, 15, 16, 17] (by rfl) (by decide) (fun _ _ h => h) (by decide) (by decide) (by decide) (Nat.le_of_ble_eq_true rfl) dX5_load_14 (fun v14 M14 hQ14 => ?_)
  obtain ⟨rfl, rfl⟩ := hQ14
  try dsimp only [wb, LakeM, WaysM, WorldM, List.set_cons_succ, List.set_cons_zero, List.append_nil, List.nil_append, List.cons_append, Option.toList, Nat.sub_zero]
  refine v_astoreR (pc := 17) dX5_load_17 (by decide) rfl ?_
  refine v_aload_nR (pc := 19) dX5_load_19 rfl rfl ?_
  refine v_ifnullR (pc := 20) dX5_load_20 ?_
  refine v_aloadR (pc := 23) dX5_load_23 rfl ?_
  refine v_ifnonnullR (pc := 25) (tgt := 38) dX5_load_25 (by decide) ?_
  refine v_aloadR (pc := 38) dX5_load_38 rfl ?_
  refine v_getS (pc := 40) 2 17 fg_X5_136 rfl (by omega) (by decide) dX5_load_40 ?_
  refine v_if_ne (pc := 43) (tgt := 65) dX5_load_43 (by decide) (fun c43 => ?_) (fun c43 => ?_)
  · exact v_throw (pc := 65) (names := ["java/lang/RuntimeException", "java/lang/Exception"]) tw_X5_37_150_41 rfl (Nat.le_of_ble_eq_true rfl) dX5_load_65 dX5_load_68 dX5_load_69 dX5_load_71 dX5_load_74 (by decide) (Nat.le_of_ble_eq_true rfl) (by decide) (by decide) (by (have e : (rLd SF BF sc bc (nI i) (nI j)) = (2, 0, SF, BF) := (by unfold rLd; rw [if_pos ⟨isP_k hi (by omega), isP_k hj (by omega)⟩, cN_nI (by omega), cN_nI (by omega), if_neg (fun h => c43 h.1)]); rw [e]; exact ⟨rfl, Or.inr (⟨rfl, rfl⟩)⟩))
  · refine v_aload_nR (pc := 46) dX5_load_46 rfl rfl ?_
    refine v_getS (pc := 47) 3 16 fg_X5_141 rfl (by omega) (by decide) dX5_load_47 ?_
    refine v_if_ne (pc := 50) (tgt := 65) dX5_load_50 (by decide) (fun c50 => ?_) (fun c50 => ?_)
    · exact v_throw (pc := 65) (names := ["java/lang/RuntimeException", "java/lang/Exception"]) tw_X5_37_150_41 rfl (Nat.le_of_ble_eq_true rfl) dX5_load_65 dX5_load_68 dX5_load_69 dX5_load_71 dX5_load_74 (by decide) (Nat.le_of_ble_eq_true rfl) (by decide) (by decide) (by (have e : (rLd SF BF sc bc (nI i) (nI j)) = (2, 0, SF, BF) := (by unfold rLd; rw [if_pos ⟨isP_k hi (by omega), isP_k hj (by omega)⟩, cN_nI (by omega), cN_nI (by omega), if_neg (fun h => c50 h.2.1)]); rw [e]; exact ⟨rfl, Or.inr (⟨rfl, rfl⟩)⟩))
    · refine v_aload_nR (pc := 53) dX5_load_53 rfl rfl ?_
      refine v_getS (pc := 54) 5 16 fg_X5_144 rfl (by omega) (by decide) dX5_load_54 ?_
      refine v_aloadR (pc := 57) dX5_load_57 rfl ?_
      refine v_getS (pc := 59) 3 17 fg_X5_147 rfl (by omega) (by decide) dX5_load_59 ?_
      refine v_icmp_eq (pc := 62) (tgt := 75) dX5_load_62 (by decide) (fun c62 => ?_) (fun c62 => ?_)
      · refine v_aloadR (pc := 75) dX5_load_75 rfl ?_
        refine v_iconst (pc := 77) (v := 1) dX5_load_77 rfl ?_
        refine v_putS (pc := 78) 2 17 fp_X5_load_136 rfl (by omega) (by decide) dX5_load_78 ?_
        refine v_aloadR (pc := 81) dX5_load_81 rfl ?_
        refine v_iload_n (pc := 83) dX5_load_83 rfl rfl ?_
        refine v_putS (pc := 84) 3 17 fp_X5_load_147 rfl (by omega) (by decide) dX5_load_84 ?_
        refine v_aload_nR (pc := 87) dX5_load_87 rfl rfl ?_
        refine v_dup (pc := 88) dX5_load_88 rfl ?_
        refine v_getS (pc := 89) 1 16 fg_X5_152 rfl (by omega) (by decide) dX5_load_89 ?_
        refine v_aloadR (pc := 92) dX5_load_92 rfl ?_
        refine v_getS (pc := 94) 0 17 fg_X5_155 rfl (by omega) (by decide) dX5_load_94 ?_
        rw [upS_n _ _ (by omega : ¬ (j = j ∧ 0 = 3)), upS_n _ _ (by omega : ¬ (j = j ∧ 0 = 2))]
        refine v_iadd (pc := 97) dX5_load_97 ?_
        refine v_putS (pc := 98) 1 16 fp_X5_load_152 rfl (by omega) (by decide) dX5_load_98 ?_
        refine v_aload_nR (pc := 101) dX5_load_101 rfl rfl ?_
        refine v_callV0 (pc := 102) (c_X2_weight (n := 5) (i := i) (by omega)) cm_X2_weight q849 q334 q335 (ci := 2) rfl rfl (orcF 16 rfl (by omega)) [16] (by rfl) (by decide) (fun _ _ h => h) (by decide) (by decide) (by decide) (Nat.le_of_ble_eq_true rfl) dX5_load_102 (fun v102 M102 hQ102 => ?_)
        obtain ⟨rfl, rfl⟩ := hQ102
        try dsimp only [wb, LakeM, WaysM, WorldM, List.set_cons_succ, List.set_cons_zero, List.append_nil, List.nil_append, List.cons_append, Option.toList, Nat.sub_zero]
        refine v_iret (pc := 105) rfl rfl (Nat.le_of_ble_eq_true rfl) dX5_load_105 ?_
        have e9 : rLd SF BF sc bc (nI i) (nI j) = (0, slW (upS SF i 1 (SF i 1 + BF j 0)) i, upS SF i 1 (SF i 1 + BF j 0), upS (upS BF j 2 1) j 3 (nI i)) := by
          unfold rLd
          rw [if_pos ⟨isP_k hi (by omega), isP_k hj (by omega)⟩, cN_nI (by omega), cN_nI (by omega), if_pos ⟨c43, c50, c62⟩]
        rw [e9]
        exact ⟨rfl, rfl, rfl⟩
      · exact v_throw (pc := 65) (names := ["java/lang/RuntimeException", "java/lang/Exception"]) tw_X5_37_150_41 rfl (Nat.le_of_ble_eq_true rfl) dX5_load_65 dX5_load_68 dX5_load_69 dX5_load_71 dX5_load_74 (by decide) (Nat.le_of_ble_eq_true rfl) (by decide) (by decide) (by (have e : (rLd SF BF sc bc (nI i) (nI j)) = (2, 0, SF, BF) := (by unfold rLd; rw [if_pos ⟨isP_k hi (by omega), isP_k hj (by omega)⟩, cN_nI (by omega), cN_nI (by omega), if_neg (fun h => c62 h.2.2)]); rw [e]; exact ⟨rfl, Or.inr (⟨rfl, rfl⟩)⟩))
theorem c_X5_load {G : Cx} {w : Nat → Nat} {a b f : Nat → Int32} {wa : Int32} {lr : Value} {nd dg : Int32} {T N S C B O : Nat → Int32} {ch : Int32} {PC : Nat → Int32} {SF BF : Nat → Nat → Int32} {ps sc bc hh : Nat} {g0 u0 : Nat} (hps : ps ≤ 8) (hsc : sc ≤ 5) (hbc : bc ≤ 40) {s b1 : Int32} : Mt G Y_X5_load 7 1 6 [.ref g0, .int s, .int b1] (eO 5 g0 [.ref (w 0), .ref u0] :: WorldM w a b f wa lr nd dg T N S C B O ch PC SF BF ps sc bc hh) (fun v M' => (rLd SF BF sc bc s b1).1 = 0 ∧ v = some (.int ((rLd SF BF sc bc s b1).2.1)) ∧ M' = eO 5 g0 [.ref (w 0), .ref u0] :: WorldM w a b f wa lr nd dg T N S C B O ch PC (rLd SF BF sc bc s b1).2.2.1 (rLd SF BF sc bc s b1).2.2.2 ps sc bc hh) (fun E M' => M' = eO 5 g0 [.ref (w 0), .ref u0] :: WorldM w a b f wa lr nd dg T N S C B O ch PC (rLd SF BF sc bc s b1).2.2.1 (rLd SF BF sc bc s b1).2.2.2 ps sc bc hh ∧ ((E = IOX ∧ (rLd SF BF sc bc s b1).1 = 1) ∨ (E = ISX ∧ (rLd SF BF sc bc s b1).1 = 2))) := by
  by_cases h : isP sc s
  · obtain ⟨i, hi, rfl⟩ := kOf h (by omega)
    by_cases h2 : isP bc b1
    · obtain ⟨j, hj, rfl⟩ := kOf h2 (by omega)
      exact c_X5_load_kk hps hsc hbc hi hj
    · exact c_X5_load_kn hps hsc hbc hi h2
  · by_cases h2 : isP bc b1
    · obtain ⟨j, hj, rfl⟩ := kOf h2 (by omega)
      exact c_X5_load_nk hps hsc hbc h hj
    · exact c_X5_load_nn hps hsc hbc h h2
set_option maxRecDepth 100000 in
set_option maxHeartbeats 4000000 in
theorem c_X5_send_n {G : Cx} {w : Nat → Nat} {a b f : Nat → Int32} {wa : Int32} {lr : Value} {nd dg : Int32} {T N S C B O : Nat → Int32} {ch : Int32} {PC : Nat → Int32} {SF BF : Nat → Nat → Int32} {ps sc bc hh : Nat} {g0 u0 : Nat} (hps : ps ≤ 8) (hsc : sc ≤ 5) (hbc : bc ≤ 40) {s q : Int32} (hn : ¬ isP sc s) : Mt G Y_X5_send 7 1 6 [.ref g0, .int s, .int q] (eO 5 g0 [.ref (w 0), .ref u0] :: WorldM w a b f wa lr nd dg T N S C B O ch PC SF BF ps sc bc hh) (fun v M' => (rSe T N C PC SF ps sc f s q).1 = 0 ∧ v = some (.int ((rSe T N C PC SF ps sc f s q).2.1)) ∧ ∃ (a' b' f' : Nat → Int32) (wa' : Int32) (lr' : Value) (nd' dg' : Int32), M' = eO 5 g0 [.ref (w 0), .ref u0] :: WorldM w a' b' f' wa' lr' nd' dg' T N S C B O ch PC (rSe T N C PC SF ps sc f s q).2.2 BF ps sc bc hh) (fun E M' => M' = eO 5 g0 [.ref (w 0), .ref u0] :: WorldM w a b f wa lr nd dg T N S C B O ch PC (rSe T N C PC SF ps sc f s q).2.2 BF ps sc bc hh ∧ ((E = IOX ∧ (rSe T N C PC SF ps sc f s q).1 = 1) ∨ (E = IAX ∧ (rSe T N C PC SF ps sc f s q).1 = 2) ∨ (E = ISX ∧ (rSe T N C PC SF ps sc f s q).1 = 3))) := by
  refine Mt.of (L := [some (.ref g0), some (.int s), some (.int q), none]) rfl (by decide) (by simp [lg_sl, Value.category]) ⟨rfl, rfl, rfl, trivial⟩ (fun sz => ?_)
  refine v_aload_nR (pc := 0) dX5_send_0 rfl rfl ?_
  refine v_get (pc := 1) 0 0 fg_X5_10 rfl rfl dX5_send_1 ?_
  refine v_iload_n (pc := 4) dX5_send_4 rfl rfl ?_
  refine v_callV1 (pc := 5) (c_X4_sleighAt_n hps hsc hbc hn) cm_X4_sleighAt q327 q320 q321 (ci := 4) rfl rfl (orcO 1 rfl) [1, 2, 3, 4, 5, 6, 7, 8, 9, 10, 11, 12, 13, 14, 15, 16, 17] (by rfl) (by decide) (fun _ _ h => h) (by decide) (by decide) (by decide) (Nat.le_of_ble_eq_true rfl) dX5_send_5 (fun v5 M5 hQ5 => ?_)
  obtain ⟨rfl, rfl⟩ := hQ5
  try dsimp only [wb, LakeM, WaysM, WorldM, List.set_cons_succ, List.set_cons_zero, List.append_nil, List.nil_append, List.cons_append, Option.toList, Nat.sub_zero]
  refine v_astore_nN (pc := 8) dX5_send_8 rfl (by decide) rfl ?_
  refine v_aload_nN (pc := 9) dX5_send_9 rfl rfl ?_
  refine v_ifnullN (pc := 10) (tgt := 24) dX5_send_10 (by decide) ?_
  exact v_throw (pc := 24) (names := ["java/lang/RuntimeException", "java/lang/Exception"]) tw_X5_60_161_64 rfl (Nat.le_of_ble_eq_true rfl) dX5_send_24 dX5_send_27 dX5_send_28 dX5_send_30 dX5_send_33 (by decide) (Nat.le_of_ble_eq_true rfl) (by decide) (by decide) (by (have e : (rSe T N C PC SF ps sc f s q) = (1, 0, SF) := (if_neg (fun h => hn h.1)); rw [e]; exact ⟨rfl, Or.inl ⟨rfl, rfl⟩⟩))
theorem dp_ok {SF : Nat → Nat → Int32} {sc i : Nat} {q : Int32} (h : sOK SF sc) : sOK (upS (upS (upS SF i 3 1) i 5 q) i 8 (-1)) sc := ((h.up (by omega)).up (by omega)).up (by omega)
set_option maxRecDepth 100000 in
set_option maxHeartbeats 4000000 in
theorem c_X5_send_k {G : Cx} {w : Nat → Nat} {a b f : Nat → Int32} {wa : Int32} {lr : Value} {nd dg : Int32} {T N S C B O : Nat → Int32} {ch : Int32} {PC : Nat → Int32} {SF BF : Nat → Nat → Int32} {ps sc bc hh : Nat} {g0 u0 : Nat} (hps : ps ≤ 8) (hsc : sc ≤ 5) (hbc : bc ≤ 40) {q : Int32} {i : Nat} (hi : i < sc) (hPC : ∀ k, k < 8 → 0 ≤ PC k ∧ PC k < 160) (hx : sOK SF sc) : Mt G Y_X5_send 7 1 6 [.ref g0, .int (nI i), .int q] (eO 5 g0 [.ref (w 0), .ref u0] :: WorldM w a b f wa lr nd dg T N S C B O ch PC SF BF ps sc bc hh) (fun v M' => (rSe T N C PC SF ps sc f (nI i) q).1 = 0 ∧ v = some (.int ((rSe T N C PC SF ps sc f (nI i) q).2.1)) ∧ ∃ (a' b' f' : Nat → Int32) (wa' : Int32) (lr' : Value) (nd' dg' : Int32), M' = eO 5 g0 [.ref (w 0), .ref u0] :: WorldM w a' b' f' wa' lr' nd' dg' T N S C B O ch PC (rSe T N C PC SF ps sc f (nI i) q).2.2 BF ps sc bc hh) (fun E M' => M' = eO 5 g0 [.ref (w 0), .ref u0] :: WorldM w a b f wa lr nd dg T N S C B O ch PC (rSe T N C PC SF ps sc f (nI i) q).2.2 BF ps sc bc hh ∧ ((E = IOX ∧ (rSe T N C PC SF ps sc f (nI i) q).1 = 1) ∨ (E = IAX ∧ (rSe T N C PC SF ps sc f (nI i) q).1 = 2) ∨ (E = ISX ∧ (rSe T N C PC SF ps sc f (nI i) q).1 = 3))) := by
  refine Mt.of (L := [some (.ref g0), some (.int (nI i)), some (.int q), none]) rfl (by decide) (by simp [lg_sl, Value.category]) ⟨rfl, rfl, rfl, trivial⟩ (fun sz => ?_)
  refine v_aload_nR (pc := 0) dX5_send_0 rfl rfl ?_
  refine v_get (pc := 1) 0 0 fg_X5_10 rfl rfl dX5_send_1 ?_
  refine v_iload_n (pc := 4) dX5_send_4 rfl rfl ?_
  refine v_callV1 (pc := 5) (c_X4_sleighAt_k hps hsc hbc hi) cm_X4_sleighAt q327 q320 q321 (ci := 4) rfl rfl (orcO 1 rfl) [1, 2, 3, 4, 5, 6, 7, 8, 9, 10, 11, 12, 13, 14, 15, 16, 17] (by rfl) (by decide) (fun _ _ h => h) (by decide) (by decide) (by decide) (Nat.le_of_ble_eq_true rfl) dX5_send_5 (fun v5 M5 hQ5 => ?_)
  obtain ⟨rfl, rfl⟩ := hQ5
  try dsimp only [wb, LakeM, WaysM, WorldM, List.set_cons_succ, List.set_cons_zero, List.append_nil, List.nil_append, List.cons_append, Option.toList, Nat.sub_zero]
  refine v_astore_nR (pc := 8) dX5_send_8 rfl (by decide) rfl ?_
  refine v_aload_nR (pc := 9) dX5_send_9 rfl rfl ?_
  refine v_ifnullR (pc := 10) dX5_send_10 ?_
  refine v_aload_nR (pc := 13) dX5_send_13 rfl rfl ?_
  refine v_get (pc := 14) 0 0 fg_X5_10 rfl rfl dX5_send_14 ?_
  refine v_iload_n (pc := 17) dX5_send_17 rfl rfl ?_
  refine v_callV1 (pc := 18) (c_X4_isPost hps hsc hbc) cm_X4_isPost q757 q461 q462 (ci := 4) rfl rfl (orcO 1 rfl) [1, 2, 3, 4, 5, 6, 7, 8, 9, 10, 11, 12, 13, 14, 15, 16, 17] (by rfl) (by decide) (fun _ _ h => h) (by decide) (by decide) (by decide) (Nat.le_of_ble_eq_true rfl) dX5_send_18 (fun v18 M18 hQ18 => ?_)
  obtain ⟨rfl, rfl⟩ := hQ18
  try dsimp only [wb, LakeM, WaysM, WorldM, List.set_cons_succ, List.set_cons_zero, List.append_nil, List.nil_append, List.cons_append, Option.toList, Nat.sub_zero]
  refine v_if_ne (pc := 21) (tgt := 34) dX5_send_21 (by decide) (fun c21 => ?_) (fun c21 => ?_)
  · have c21 := bI_n.mp c21
    refine v_aload_nR (pc := 34) dX5_send_34 rfl rfl ?_
    refine v_getS (pc := 35) 3 16 fg_X5_141 rfl (by omega) (by decide) dX5_send_35 ?_
    refine v_if_ne (pc := 38) (tgt := 59) dX5_send_38 (by decide) (fun c38 => ?_) (fun c38 => ?_)
    · refine v_aload_nR (pc := 59) dX5_send_59 rfl rfl ?_
      refine v_getS (pc := 60) 3 16 fg_X5_141 rfl (by omega) (by decide) dX5_send_60 ?_
      refine v_if_eq (pc := 63) (tgt := 76) dX5_send_63 (by decide) (fun c63 => ?_) (fun c63 => ?_)
      · exact absurd c63 c38
      · exact v_throw (pc := 66) (names := ["java/lang/RuntimeException", "java/lang/Exception"]) tw_X5_37_165_41 rfl (Nat.le_of_ble_eq_true rfl) dX5_send_66 dX5_send_69 dX5_send_70 dX5_send_72 dX5_send_75 (by decide) (Nat.le_of_ble_eq_true rfl) (by decide) (by decide) (by (have e : (rSe T N C PC SF ps sc f (nI i) q) = (3, 0, SF) := (by unfold rSe; rw [if_pos ⟨isP_k hi (by omega), c21⟩, cN_nI (by omega), if_neg (fun h => c38 h.1), if_pos c38]); rw [e]; exact ⟨rfl, Or.inr (Or.inr (⟨rfl, rfl⟩))⟩))
    · refine v_aload_nR (pc := 41) dX5_send_41 rfl rfl ?_
      refine v_getS (pc := 42) 5 16 fg_X5_144 rfl (by omega) (by decide) dX5_send_42 ?_
      refine v_iload_n (pc := 45) dX5_send_45 rfl rfl ?_
      refine v_icmp_ne (pc := 46) (tgt := 59) dX5_send_46 (by decide) (fun c46 => ?_) (fun c46 => ?_)
      · refine v_aload_nR (pc := 59) dX5_send_59 rfl rfl ?_
        refine v_getS (pc := 60) 3 16 fg_X5_141 rfl (by omega) (by decide) dX5_send_60 ?_
        refine v_if_eq (pc := 63) (tgt := 76) dX5_send_63 (by decide) (fun c63 => ?_) (fun c63 => ?_)
        · refine v_aload_nR (pc := 76) dX5_send_76 rfl rfl ?_
          refine v_iload_n (pc := 77) dX5_send_77 rfl rfl ?_
          refine v_callV1 (pc := 78) (c_X2_depart (n := 5) (i := i) (by omega)) cm_X2_depart q833 q834 q835 (ci := 2) rfl rfl (orcF 16 rfl (by omega)) [16] (by rfl) (by decide) (fun _ _ h => h) (by decide) (by decide) (by decide) (Nat.le_of_ble_eq_true rfl) dX5_send_78 (fun v78 M78 hQ78 => ?_)
          obtain ⟨rfl, rfl⟩ := hQ78
          try dsimp only [wb, LakeM, WaysM, WorldM, List.set_cons_succ, List.set_cons_zero, List.append_nil, List.nil_append, List.cons_append, Option.toList, Nat.sub_zero]
          refine v_aload_nR (pc := 81) dX5_send_81 rfl rfl ?_
          refine v_get (pc := 82) 0 0 fg_X5_10 rfl rfl dX5_send_82 ?_
          refine v_aload_nR (pc := 85) dX5_send_85 rfl rfl ?_
          refine v_callV1 (pc := 86) (c_X4_hoursToGoal hps hsc hbc hPC (i := i) (dp_ok hx) hi) cm_X4_hoursToGoal q837 q838 q839 (ci := 4) rfl rfl (orcO 1 rfl) [1, 2, 3, 4, 5, 6, 7, 8, 9, 10, 11, 12, 13, 14, 15, 16, 17] (by rfl) (by decide) (fun _ _ h => h) (by decide) (by decide) (by decide) (Nat.le_of_ble_eq_true rfl) dX5_send_86 (fun v86 M86 hQ86 => ?_)
          obtain ⟨rfl, rfl⟩ := hQ86
          try dsimp only [wb, LakeM, WaysM, WorldM, List.set_cons_succ, List.set_cons_zero, List.append_nil, List.nil_append, List.cons_append, Option.toList, Nat.sub_zero]
          refine v_iret (pc := 89) rfl rfl (Nat.le_of_ble_eq_true rfl) dX5_send_89 ?_
          have e9 : (rSe T N C PC SF ps sc f (nI i) q) = (0, (hgQ T N C PC (dpS SF i q) ps i f).1 (cN (dpS SF i q i 4)), dpS SF i q) := by unfold rSe; rw [if_pos ⟨isP_k hi (by omega), c21⟩, cN_nI (by omega), if_neg (fun h => c46 h.2), if_neg (fun h => h c38)]
          rw [e9]
          exact ⟨rfl, rfl, _, _, _, _, _, _, _, rfl⟩
        · exact v_throw (pc := 66) (names := ["java/lang/RuntimeException", "java/lang/Exception"]) tw_X5_37_165_41 rfl (Nat.le_of_ble_eq_true rfl) dX5_send_66 dX5_send_69 dX5_send_70 dX5_send_72 dX5_send_75 (by decide) (Nat.le_of_ble_eq_true rfl) (by decide) (by decide) (absurd c38 c63)
      · exact v_throw (pc := 49) (names := ["java/lang/RuntimeException", "java/lang/Exception"]) tw_X5_27_163_31 rfl (Nat.le_of_ble_eq_true rfl) dX5_send_49 dX5_send_52 dX5_send_53 dX5_send_55 dX5_send_58 (by decide) (Nat.le_of_ble_eq_true rfl) (by decide) (by decide) (by (have e : (rSe T N C PC SF ps sc f (nI i) q) = (2, 0, SF) := (by unfold rSe; rw [if_pos ⟨isP_k hi (by omega), c21⟩, cN_nI (by omega), if_pos ⟨c38, c46⟩]); rw [e]; exact ⟨rfl, Or.inr (Or.inl ⟨rfl, rfl⟩)⟩))
  · have c21 := bI_0.mp c21
    exact v_throw (pc := 24) (names := ["java/lang/RuntimeException", "java/lang/Exception"]) tw_X5_60_161_64 rfl (Nat.le_of_ble_eq_true rfl) dX5_send_24 dX5_send_27 dX5_send_28 dX5_send_30 dX5_send_33 (by decide) (Nat.le_of_ble_eq_true rfl) (by decide) (by decide) (by (have e : (rSe T N C PC SF ps sc f (nI i) q) = (1, 0, SF) := (if_neg (fun h => c21 h.2)); rw [e]; exact ⟨rfl, Or.inl ⟨rfl, rfl⟩⟩))
theorem c_X5_send {G : Cx} {w : Nat → Nat} {a b f : Nat → Int32} {wa : Int32} {lr : Value} {nd dg : Int32} {T N S C B O : Nat → Int32} {ch : Int32} {PC : Nat → Int32} {SF BF : Nat → Nat → Int32} {ps sc bc hh : Nat} {g0 u0 : Nat} (hps : ps ≤ 8) (hsc : sc ≤ 5) (hbc : bc ≤ 40) {s q : Int32} (hPC : ∀ k, k < 8 → 0 ≤ PC k ∧ PC k < 160) (hx : sOK SF sc) : Mt G Y_X5_send 7 1 6 [.ref g0, .int s, .int q] (eO 5 g0 [.ref (w 0), .ref u0] :: WorldM w a b f wa lr nd dg T N S C B O ch PC SF BF ps sc bc hh) (fun v M' => (rSe T N C PC SF ps sc f s q).1 = 0 ∧ v = some (.int ((rSe T N C PC SF ps sc f s q).2.1)) ∧ ∃ (a' b' f' : Nat → Int32) (wa' : Int32) (lr' : Value) (nd' dg' : Int32), M' = eO 5 g0 [.ref (w 0), .ref u0] :: WorldM w a' b' f' wa' lr' nd' dg' T N S C B O ch PC (rSe T N C PC SF ps sc f s q).2.2 BF ps sc bc hh) (fun E M' => M' = eO 5 g0 [.ref (w 0), .ref u0] :: WorldM w a b f wa lr nd dg T N S C B O ch PC (rSe T N C PC SF ps sc f s q).2.2 BF ps sc bc hh ∧ ((E = IOX ∧ (rSe T N C PC SF ps sc f s q).1 = 1) ∨ (E = IAX ∧ (rSe T N C PC SF ps sc f s q).1 = 2) ∨ (E = ISX ∧ (rSe T N C PC SF ps sc f s q).1 = 3))) := by
  by_cases h : isP sc s
  · obtain ⟨i, hi, rfl⟩ := kOf h (by omega)
    exact c_X5_send_k hps hsc hbc hi hPC hx
  · exact c_X5_send_n hps hsc hbc h
theorem cn_cop {PC : Nat → Int32} {ps : Nat} {q : Int32} (hps : ps ≤ 8) (hPC : ∀ k, k < 8 → 0 ≤ PC k ∧ PC k < 160) (h : isP ps q) : cop PC ps q = nI (cN (cop PC ps q)) ∧ cN (cop PC ps q) < 160 := by
  obtain ⟨k, hk, rfl⟩ := kOf h (by omega)
  rw [cop_k hk hps]
  exact cN_of (hPC k (by omega))
theorem cop_in {PC : Nat → Int32} {ps : Nat} {q : Int32} (hps : ps ≤ 8) (hPC : ∀ k, k < 8 → 0 ≤ PC k ∧ PC k < 160) (h : isP ps q) : 0 ≤ cop PC ps q ∧ cop PC ps q < 160 := by
  obtain ⟨k, hk, rfl⟩ := kOf h (by omega)
  rw [cop_k hk hps]
  exact hPC k (by omega)
theorem cpo_cop {PC : Nat → Int32} {ps : Nat} {q : Int32} (hps : ps ≤ 8) (hPC : ∀ k, k < 8 → 0 ≤ PC k ∧ PC k < 160) (h : isP ps q) : cpo PC ps q = some (cN (cop PC ps q)) := by
  obtain ⟨k, hk, rfl⟩ := kOf h (by omega)
  rw [cop_k hk hps]
  exact cpo_q hps hk (cN_of (hPC k (by omega))).1 (cN_of (hPC k (by omega))).2
set_option maxRecDepth 100000 in
set_option maxHeartbeats 4000000 in
theorem lp_X5_pass {G : Cx} {w : Nat → Nat} {N O PC : Nat → Int32} {ps sc bc hh : Nat} {g0 u0 : Nat} (hps : ps ≤ 8) (hsc : sc ≤ 5) (hbc : bc ≤ 40) {n5 : Nat} (h5 : n5 = 5) {sz n : Nat} {c0 : Int32} (hc0 : c0 = 0) {M0 : List ME} (hM0 : M0.length = 18) {XX : String → List ME → Prop} {r : HW × Int32} (hhh : hh + n < 2 ^ 31 - 1) (hPC : ∀ k, k < 8 → 0 ≤ PC k ∧ PC k < 160) : ∀ (m i : Nat), m + i = n → ∀ (x : HW) (c : Int32), sOK x.1 sc → cOK x.2.2.2.2.2.2.2.2.2.1 → psL n5 (.ref (w 5)) N O PC ps sc bc m (hh + i) x c = r → V G Y_X5_pass (ZM G M0 sz (fun v M' => c0 = 0 ∧ v = some (.int r.2) ∧ M' = eO 5 g0 [.ref (w 0), .ref u0] :: WH w N O PC ps sc bc (hh + n) r.1) XX) 7 1 6 25 [some (.ref g0), some (.int (nI n)), some (.int c), some (.int (nI i))] [] (eO 5 g0 [.ref (w 0), .ref u0] :: WH w N O PC ps sc bc (hh + i) x) := by
  intro m
  induction m with
  | zero =>
    intro i hi
    have hi2 : i = n := by omega
    intro x c hx hC hr
    obtain rfl : (x, c) = r := hr
    rw [show hh + i = hh + n by omega]
    refine v_iload_n (pc := 25) dX5_pass_25 rfl rfl ?_
    refine v_iload_n (pc := 26) dX5_pass_26 rfl rfl ?_
    refine v_icmp_ge (pc := 27) (tgt := 46) dX5_pass_27 (by decide) (fun c27 => ?_) (fun c27 => absurd (nI_le (a := n) (b := i) (by omega) (by omega)) c27)
    have c27 : n ≤ i := (nI_leI (a := n) (b := i) (by omega) (by omega)).mp c27
    refine v_iload_n (pc := 46) dX5_pass_46 rfl rfl ?_
    refine v_iret (pc := 47) rfl rfl (by rw [hM0]; exact Nat.le_of_ble_eq_true rfl) dX5_pass_47 ?_
    exact ⟨hc0, rfl, rfl⟩
  | succ m ih =>
    intro i hi
    intro x c hx hC hr
    refine v_iload_n (pc := 25) dX5_pass_25 rfl rfl ?_
    refine v_iload_n (pc := 26) dX5_pass_26 rfl rfl ?_
    refine v_icmp_ge (pc := 27) (tgt := 46) dX5_pass_27 (by decide) (fun c27 => absurd c27 (nI_ge (a := i) (b := n) (by omega) (by omega))) (fun c27 => ?_)
    have c27 : ¬ n ≤ i := fun h => c27 ((nI_leI (a := n) (b := i) (by omega) (by omega)).mpr h)
    refine v_iload_n (pc := 30) dX5_pass_30 rfl rfl ?_
    refine v_aload_nR (pc := 31) dX5_pass_31 rfl rfl ?_
    refine v_get (pc := 32) 0 0 fg_X5_10 rfl rfl dX5_pass_32 ?_
    refine v_callV0 (pc := 35) (c_X4_goOneHour (w := w) (N := N) (O := O) (hh := hh + i) (x := x) h5 hps hsc hbc (by omega) hPC hx hC) cm_X4_goOneHour q387 q388 q389 (ci := 4) rfl rfl (orcO 1 rfl) [1, 2, 3, 4, 5, 6, 7, 8, 9, 10, 11, 12, 13, 14, 15, 16, 17] (by rfl) (by decide) (fun _ _ h => h) (by decide) (by decide) (by decide) (Nat.le_of_ble_eq_true rfl) dX5_pass_35 (fun v35 M35 hQ35 => ?_)
    obtain ⟨rfl, rfl⟩ := hQ35
    try dsimp only [wb, LakeM, WaysM, WorldM, List.set_cons_succ, List.set_cons_zero, List.append_nil, List.nil_append, List.cons_append, Option.toList, Nat.sub_zero]
    refine v_iadd (pc := 38) dX5_pass_38 ?_
    refine v_istore_n (pc := 39) dX5_pass_39 rfl (by decide) rfl ?_
    refine v_iinc (pc := 40) (v := nI (i + 1)) dX5_pass_40 rfl (nI_1 _) (by decide) rfl ?_
    refine v_goto (pc := 43) (tgt := 25) dX5_pass_43 (by decide) ?_
    exact ih (i + 1) (by omega) _ _ (hrW_ok hx) (hrW_cok hC) hr
set_option maxRecDepth 100000 in
set_option maxHeartbeats 4000000 in
theorem c_X5_pass {G : Cx} {w : Nat → Nat} {N O PC : Nat → Int32} {ps sc bc hh : Nat} {g0 u0 : Nat} (hps : ps ≤ 8) (hsc : sc ≤ 5) (hbc : bc ≤ 40) {n5 : Nat} (h5 : n5 = 5) {x : HW} {q : Int32} (hhh : hh + 200 < 2 ^ 31 - 1) (hPC : ∀ k, k < 8 → 0 ≤ PC k ∧ PC k < 160) (hx : sOK x.1 sc) (hC : cOK x.2.2.2.2.2.2.2.2.2.1) : Mt G Y_X5_pass 7 1 6 [.ref g0, .int q] (eO 5 g0 [.ref (w 0), .ref u0] :: WH w N O PC ps sc bc hh x) (fun v M' => (rPs n5 (.ref (w 5)) N O PC ps sc bc hh x q).1 = 0 ∧ v = some (.int (rPs n5 (.ref (w 5)) N O PC ps sc bc hh x q).2.1) ∧ M' = eO 5 g0 [.ref (w 0), .ref u0] :: WH w N O PC ps sc bc (rPs n5 (.ref (w 5)) N O PC ps sc bc hh x q).2.2.2 (rPs n5 (.ref (w 5)) N O PC ps sc bc hh x q).2.2.1) (fun E M' => M' = eO 5 g0 [.ref (w 0), .ref u0] :: WH w N O PC ps sc bc (rPs n5 (.ref (w 5)) N O PC ps sc bc hh x q).2.2.2 (rPs n5 (.ref (w 5)) N O PC ps sc bc hh x q).2.2.1 ∧ (E = IAX ∧ (rPs n5 (.ref (w 5)) N O PC ps sc bc hh x q).1 = 1)) := by
  refine Mt.of (L := [some (.ref g0), some (.int q), none, none]) rfl (by decide) (by simp [lg_sl, Value.category]) ⟨rfl, rfl, trivial⟩ (fun sz => ?_)
  refine v_iload_n (pc := 0) dX5_pass_0 rfl rfl ?_
  refine v_iconst (pc := 1) (v := 1) dX5_pass_1 rfl ?_
  refine v_sipush (pc := 2) (v := 200) dX5_pass_2 rfl ?_
  refine v_callS3 (pc := 5) (c_X5_isWithin ) cm_X5_isWithin q214 q215 [] (by rfl) (by decide) (fun _ _ h => h) (by decide) (by decide) (by decide) (Nat.le_of_ble_eq_true rfl) dX5_pass_5 (fun v5 M5 hQ5 => ?_)
  obtain ⟨rfl, rfl⟩ := hQ5
  try dsimp only [wb, LakeM, WaysM, WorldM, List.set_cons_succ, List.set_cons_zero, List.append_nil, List.nil_append, List.cons_append, Option.toList, Nat.sub_zero]
  refine v_if_ne (pc := 8) (tgt := 21) dX5_pass_8 (by decide) (fun c8 => ?_) (fun c8 => ?_)
  · have c8 := bI_n.mp c8
    refine v_iconst (pc := 21) (v := 0) dX5_pass_21 rfl ?_
    refine v_istore_n (pc := 22) dX5_pass_22 rfl (by decide) rfl ?_
    refine v_iconst (pc := 23) (v := 0) dX5_pass_23 rfl ?_
    refine v_istore_n (pc := 24) dX5_pass_24 rfl (by decide) rfl ?_
    obtain ⟨n, hn, rfl⟩ := le_nI 200 (by decide) ⟨i_le.mpr (by have := c8.1; rw [i_le, i_1] at this; rw [i_0]; omega), c8.2⟩
    have e : rPs n5 (.ref (w 5)) N O PC ps sc bc hh x (nI n) = (0, (psL n5 (.ref (w 5)) N O PC ps sc bc n hh x 0).2, (psL n5 (.ref (w 5)) N O PC ps sc bc n hh x 0).1, hh + n) := by
      unfold rPs
      rw [if_pos c8, cN_nI (by omega)]
    rw [e]
    refine v_sub (L' := [some (.ref g0), some (.int (nI n)), some (.int 0), some (.int (nI 0))]) ⟨rfl, rfl, rfl, rfl, trivial⟩ ?_
    exact lp_X5_pass hps hsc hbc h5 rfl rfl (by omega) hPC n 0 (by omega) x 0 hx hC rfl
  · have c8 := bI_0.mp c8
    exact v_throw (pc := 11) (names := ["java/lang/RuntimeException", "java/lang/Exception"]) tw_X5_27_185_31 rfl (Nat.le_of_ble_eq_true rfl) dX5_pass_11 dX5_pass_14 dX5_pass_15 dX5_pass_17 dX5_pass_20 (by decide) (Nat.le_of_ble_eq_true rfl) (by decide) (by decide) (by (have e : (rPs n5 (.ref (w 5)) N O PC ps sc bc hh x q) = (1, 0, x, hh) := if_neg c8; rw [e]; exact ⟨rfl, rfl, rfl⟩))
set_option maxRecDepth 100000 in
set_option maxHeartbeats 4000000 in
theorem lp_X5_icC {G : Cx} {w : Nat → Nat} {a b f : Nat → Int32} {wa : Int32} {lr : Value} {nd dg : Int32} {T N S C B O : Nat → Int32} {ch : Int32} {PC : Nat → Int32} {SF BF : Nat → Nat → Int32} {ps sc bc hh : Nat} {g0 u0 : Nat} (hps : ps ≤ 8) (hsc : sc ≤ 5) (hbc : bc ≤ 40) {Z : ZT} {x y wd dp : Nat} {t : Int32} (hw : x + wd ≤ 16) (hd : y + dp ≤ 10) {i0 : Nat} (hi0 : i0 < dp) (K : V G Y_X5_setIce Z 7 1 6 112 [some (.ref g0), some (.int (nI x)), some (.int (nI y)), some (.int (nI wd)), some (.int (nI dp)), some (.int t), some (.int (nI (y + i0))), none] [] (eO 5 g0 [.ref (w 0), .ref u0] :: WorldM w a b f wa lr nd dg (lyU T t (cel x y wd) ((i0 + 1) * wd)) N (lyU S 0 (cel x y wd) ((i0 + 1) * wd)) (lyU C 0 (cel x y wd) ((i0 + 1) * wd)) B O (ch + nI (((i0 + 1) * wd))) PC SF BF ps sc bc hh)) : ∀ (m i : Nat), m + i = wd → V G Y_X5_setIce Z 7 1 6 79 [some (.ref g0), some (.int (nI x)), some (.int (nI y)), some (.int (nI wd)), some (.int (nI dp)), some (.int t), some (.int (nI (y + i0))), some (.int (nI (x + i)))] [] (eO 5 g0 [.ref (w 0), .ref u0] :: WorldM w a b f wa lr nd dg (lyU T t (cel x y wd) (i0 * wd + i)) N (lyU S 0 (cel x y wd) (i0 * wd + i)) (lyU C 0 (cel x y wd) (i0 * wd + i)) B O (ch + nI ((i0 * wd + i))) PC SF BF ps sc bc hh) := by
  intro m
  induction m with
  | zero =>
    intro i hi
    have hi2 : i = wd := by omega
    refine v_iload (pc := 79) dX5_setIce_79 rfl ?_
    refine v_iload_n (pc := 81) dX5_setIce_81 rfl rfl ?_
    refine v_iload_n (pc := 82) dX5_setIce_82 rfl rfl ?_
    refine v_iadd (pc := 83) dX5_setIce_83 ?_
    rw [show nI x + nI wd = nI (x + wd) from nI_add _ _]
    refine v_icmp_ge (pc := 84) (tgt := 112) dX5_setIce_84 (by decide) (fun c84 => ?_) (fun c84 => absurd (nI_le (a := x + wd) (b := x + i) (by omega) (by omega)) c84)
    have c84 : (x + wd) ≤ (x + i) := (nI_leI (a := (x + wd)) (b := (x + i)) (by omega) (by omega)).mp c84
    have e : i0 * wd + i = (i0 + 1) * wd := by rw [Nat.succ_mul]; omega
    rw [e]
    refine v_sub ?_ K
    exact ⟨rfl, rfl, rfl, rfl, rfl, rfl, rfl, trivial⟩
  | succ m ih =>
    intro i hi
    refine v_iload (pc := 79) dX5_setIce_79 rfl ?_
    refine v_iload_n (pc := 81) dX5_setIce_81 rfl rfl ?_
    refine v_iload_n (pc := 82) dX5_setIce_82 rfl rfl ?_
    refine v_iadd (pc := 83) dX5_setIce_83 ?_
    rw [show nI x + nI wd = nI (x + wd) from nI_add _ _]
    refine v_icmp_ge (pc := 84) (tgt := 112) dX5_setIce_84 (by decide) (fun c84 => absurd c84 (nI_ge (a := x + i) (b := x + wd) (by omega) (by omega))) (fun c84 => ?_)
    have c84 : ¬ (x + wd) ≤ (x + i) := fun h => c84 ((nI_leI (a := (x + wd)) (b := (x + i)) (by omega) (by omega)).mpr h)
    refine v_aload_nR (pc := 87) dX5_setIce_87 rfl rfl ?_
    refine v_get (pc := 88) 0 0 fg_X5_10 rfl rfl dX5_setIce_88 ?_
    refine v_get (pc := 91) 1 1 fg_X5_42 rfl rfl dX5_setIce_91 ?_
    refine v_iload (pc := 94) dX5_setIce_94 rfl ?_
    refine v_iload (pc := 96) dX5_setIce_96 rfl ?_
    refine v_callS2 (pc := 98) (c_X5_numberOf ) cm_X5_numberOf q285 q286 [] (by rfl) (by decide) (fun _ _ h => h) (by decide) (by decide) (by decide) (Nat.le_of_ble_eq_true rfl) dX5_setIce_98 (fun v98 M98 hQ98 => ?_)
    obtain ⟨rfl, rfl⟩ := hQ98
    try dsimp only [wb, LakeM, WaysM, WorldM, List.set_cons_succ, List.set_cons_zero, List.append_nil, List.nil_append, List.cons_append, Option.toList, Nat.sub_zero]
    rw [kf_cell]
    refine v_iload (pc := 101) dX5_setIce_101 rfl ?_
    refine v_callV2 (pc := 103) (c_X1_lay (by omega)) cm_X1_lay q707 q708 q709 (ci := 1) rfl rfl (orcO 6 rfl) [6, 7, 8, 9, 10, 11, 12] (by rfl) (by decide) (fun _ _ h => h) (by decide) (by decide) (by decide) (Nat.le_of_ble_eq_true rfl) dX5_setIce_103 (fun v103 M103 hQ103 => ?_)
    obtain ⟨rfl, rfl⟩ := hQ103
    try dsimp only [wb, LakeM, WaysM, WorldM, List.set_cons_succ, List.set_cons_zero, List.append_nil, List.nil_append, List.cons_append, Option.toList, Nat.sub_zero]
    refine v_iinc (pc := 106) (v := nI ((x + i) + 1)) dX5_setIce_106 rfl (nI_1 _) (by decide) rfl ?_
    refine v_goto (pc := 109) (tgt := 79) dX5_setIce_109 (by decide) ?_
    have e : cel x y wd (i0 * wd + i) = x + i + 16 * (y + i0) := cel_at (by omega)
    have k9 := ih (i + 1) (by omega)
    refine v_sub (L' := [some (.ref g0), some (.int (nI x)), some (.int (nI y)), some (.int (nI wd)), some (.int (nI dp)), some (.int t), some (.int (nI (y + i0))), some (.int (nI (x + (i + 1))))]) ⟨rfl, rfl, rfl, rfl, rfl, rfl, rfl, rfl, trivial⟩ ?_
    rw [← e, Int32.add_assoc, nI_1]
    exact k9
set_option maxRecDepth 100000 in
set_option maxHeartbeats 4000000 in
theorem lp_X5_icL {G : Cx} {w : Nat → Nat} {a b f : Nat → Int32} {wa : Int32} {lr : Value} {nd dg : Int32} {T N S C B O : Nat → Int32} {ch : Int32} {PC : Nat → Int32} {SF BF : Nat → Nat → Int32} {ps sc bc hh : Nat} {g0 u0 : Nat} (hps : ps ≤ 8) (hsc : sc ≤ 5) (hbc : bc ≤ 40) {Z : ZT} {x y wd dp : Nat} {t : Int32} (hw : x + wd ≤ 16) (hd : y + dp ≤ 10) (K : V G Y_X5_setIce Z 7 1 6 118 [some (.ref g0), some (.int (nI x)), some (.int (nI y)), some (.int (nI wd)), some (.int (nI dp)), some (.int t), some (.int (nI (y + dp))), none] [] (eO 5 g0 [.ref (w 0), .ref u0] :: WorldM w a b f wa lr nd dg (lyU T t (cel x y wd) (dp * wd)) N (lyU S 0 (cel x y wd) (dp * wd)) (lyU C 0 (cel x y wd) (dp * wd)) B O (ch + nI ((dp * wd))) PC SF BF ps sc bc hh)) : ∀ (m i : Nat), m + i = dp → V G Y_X5_setIce Z 7 1 6 67 [some (.ref g0), some (.int (nI x)), some (.int (nI y)), some (.int (nI wd)), some (.int (nI dp)), some (.int t), some (.int (nI (y + i))), none] [] (eO 5 g0 [.ref (w 0), .ref u0] :: WorldM w a b f wa lr nd dg (lyU T t (cel x y wd) (i * wd)) N (lyU S 0 (cel x y wd) (i * wd)) (lyU C 0 (cel x y wd) (i * wd)) B O (ch + nI ((i * wd))) PC SF BF ps sc bc hh) := by
  intro m
  induction m with
  | zero =>
    intro i hi
    have hi2 : i = dp := by omega
    refine v_iload (pc := 67) dX5_setIce_67 rfl ?_
    refine v_iload_n (pc := 69) dX5_setIce_69 rfl rfl ?_
    refine v_iload (pc := 70) dX5_setIce_70 rfl ?_
    refine v_iadd (pc := 72) dX5_setIce_72 ?_
    rw [show nI y + nI dp = nI (y + dp) from nI_add _ _]
    refine v_icmp_ge (pc := 73) (tgt := 118) dX5_setIce_73 (by decide) (fun c73 => ?_) (fun c73 => absurd (nI_le (a := y + dp) (b := y + i) (by omega) (by omega)) c73)
    have c73 : (y + dp) ≤ (y + i) := (nI_leI (a := (y + dp)) (b := (y + i)) (by omega) (by omega)).mp c73
    rw [hi2]
    refine v_sub ?_ K
    exact ⟨rfl, rfl, rfl, rfl, rfl, rfl, rfl, trivial⟩
  | succ m ih =>
    intro i hi
    refine v_iload (pc := 67) dX5_setIce_67 rfl ?_
    refine v_iload_n (pc := 69) dX5_setIce_69 rfl rfl ?_
    refine v_iload (pc := 70) dX5_setIce_70 rfl ?_
    refine v_iadd (pc := 72) dX5_setIce_72 ?_
    rw [show nI y + nI dp = nI (y + dp) from nI_add _ _]
    refine v_icmp_ge (pc := 73) (tgt := 118) dX5_setIce_73 (by decide) (fun c73 => absurd c73 (nI_ge (a := y + i) (b := y + dp) (by omega) (by omega))) (fun c73 => ?_)
    have c73 : ¬ (y + dp) ≤ (y + i) := fun h => c73 ((nI_leI (a := (y + dp)) (b := (y + i)) (by omega) (by omega)).mpr h)
    refine v_iload_n (pc := 76) dX5_setIce_76 rfl rfl ?_
    refine v_istore (pc := 77) dX5_setIce_77 (by decide) rfl ?_
    refine v_sub (L' := [some (.ref g0), some (.int (nI x)), some (.int (nI y)), some (.int (nI wd)), some (.int (nI dp)), some (.int t), some (.int (nI (y + i))), some (.int (nI (x + 0)))]) ⟨rfl, rfl, rfl, rfl, rfl, rfl, rfl, rfl, trivial⟩ ?_
    refine lp_X5_icC hps hsc hbc hw hd (i0 := i) (by omega) ?_ wd 0 (by omega)
    refine v_iinc (pc := 112) (v := nI ((y + i) + 1)) dX5_setIce_112 rfl (nI_1 _) (by decide) rfl ?_
    refine v_goto (pc := 115) (tgt := 67) dX5_setIce_115 (by decide) ?_
    refine v_sub ?_ (ih (i + 1) (by omega))
    exact ⟨rfl, rfl, rfl, rfl, rfl, rfl, rfl, trivial⟩
theorem rect_of {x y w h : Int32} (hr : onM x y ∧ (1 ≤ w ∧ w ≤ 16 - x) ∧ (1 ≤ h ∧ h ≤ 10 - y)) : ∃ a b c e : Nat, a + c ≤ 16 ∧ b + e ≤ 10 ∧ x = nI a ∧ y = nI b ∧ w = nI c ∧ h = nI e := by
  obtain ⟨a, b, ha, hb, rfl, rfl⟩ := onM_of hr.1
  have e1 : (16 : Int32) - nI a = nI (16 - a) := pk_sub (a := 16) (by omega)
  have e2 : (10 : Int32) - nI b = nI (10 - b) := pk_sub (a := 10) (by omega)
  obtain ⟨-, h2, h3⟩ := hr
  rw [e1] at h2
  rw [e2] at h3
  obtain ⟨c, hc, rfl⟩ := le_nI (16 - a) (by omega) ⟨i_le.mpr (by have := h2.1; rw [i_le, i_1] at this; rw [i_0]; omega), h2.2⟩
  obtain ⟨e, he, rfl⟩ := le_nI (10 - b) (by omega) ⟨i_le.mpr (by have := h3.1; rw [i_le, i_1] at this; rw [i_0]; omega), h3.2⟩
  exact ⟨a, b, c, e, by omega, by omega, rfl, rfl, rfl, rfl⟩
set_option maxRecDepth 100000 in
set_option maxHeartbeats 4000000 in
theorem c_X5_setIce {G : Cx} {w : Nat → Nat} {a b f : Nat → Int32} {wa : Int32} {lr : Value} {nd dg : Int32} {T N S C B O : Nat → Int32} {ch : Int32} {PC : Nat → Int32} {SF BF : Nat → Nat → Int32} {ps sc bc hh : Nat} {g0 u0 : Nat} (hps : ps ≤ 8) (hsc : sc ≤ 5) (hbc : bc ≤ 40) {x y w1 h1 t : Int32} : Mt G Y_X5_setIce 7 1 6 [.ref g0, .int x, .int y, .int w1, .int h1, .int t] (eO 5 g0 [.ref (w 0), .ref u0] :: WorldM w a b f wa lr nd dg T N S C B O ch PC SF BF ps sc bc hh) (fun v M' => (rIc T S C PC SF ps sc ch x y w1 h1 t).1 = 0 ∧ v = some (.int ((rIc T S C PC SF ps sc ch x y w1 h1 t).2.1)) ∧ M' = eO 5 g0 [.ref (w 0), .ref u0] :: WorldM w a b f wa lr nd dg (rIc T S C PC SF ps sc ch x y w1 h1 t).2.2.1 N (rIc T S C PC SF ps sc ch x y w1 h1 t).2.2.2.1 (rIc T S C PC SF ps sc ch x y w1 h1 t).2.2.2.2.1 B O (rIc T S C PC SF ps sc ch x y w1 h1 t).2.2.2.2.2 PC SF BF ps sc bc hh) (fun E M' => M' = eO 5 g0 [.ref (w 0), .ref u0] :: WorldM w a b f wa lr nd dg (rIc T S C PC SF ps sc ch x y w1 h1 t).2.2.1 N (rIc T S C PC SF ps sc ch x y w1 h1 t).2.2.2.1 (rIc T S C PC SF ps sc ch x y w1 h1 t).2.2.2.2.1 B O (rIc T S C PC SF ps sc ch x y w1 h1 t).2.2.2.2.2 PC SF BF ps sc bc hh ∧ ((E = IAX ∧ (rIc T S C PC SF ps sc ch x y w1 h1 t).1 = 1) ∨ (E = ISX ∧ (rIc T S C PC SF ps sc ch x y w1 h1 t).1 = 2))) := by
  refine Mt.of (L := [some (.ref g0), some (.int x), some (.int y), some (.int w1), some (.int h1), some (.int t), none, none]) rfl (by decide) (by simp [lg_sl, Value.category]) ⟨rfl, rfl, rfl, rfl, rfl, rfl, trivial⟩ (fun sz => ?_)
  refine v_iload_n (pc := 0) dX5_setIce_0 rfl rfl ?_
  refine v_iload_n (pc := 1) dX5_setIce_1 rfl rfl ?_
  refine v_iload_n (pc := 2) dX5_setIce_2 rfl rfl ?_
  refine v_iload (pc := 3) dX5_setIce_3 rfl ?_
  refine v_callS4 (pc := 5) (c_X5_isRectangle ) cm_X5_isRectangle q682 q683 [] (by rfl) (by decide) (fun _ _ h => h) (by decide) (by decide) (by decide) (Nat.le_of_ble_eq_true rfl) dX5_setIce_5 (fun v5 M5 hQ5 => ?_)
  obtain ⟨rfl, rfl⟩ := hQ5
  try dsimp only [wb, LakeM, WaysM, WorldM, List.set_cons_succ, List.set_cons_zero, List.append_nil, List.nil_append, List.cons_append, Option.toList, Nat.sub_zero]
  refine v_if_eq (pc := 8) (tgt := 23) dX5_setIce_8 (by decide) (fun c8 => ?_) (fun c8 => ?_)
  · have c8 := bI_0.mp c8
    exact v_throw (pc := 23) (names := ["java/lang/RuntimeException", "java/lang/Exception"]) tw_X5_27_29_31 rfl (Nat.le_of_ble_eq_true rfl) dX5_setIce_23 dX5_setIce_26 dX5_setIce_27 dX5_setIce_29 dX5_setIce_32 (by decide) (Nat.le_of_ble_eq_true rfl) (by decide) (by decide) (by (have e : (rIc T S C PC SF ps sc ch x y w1 h1 t) = (1, 0, T, S, C, ch) := (if_neg (fun h => c8 h.1)); rw [e]; exact ⟨rfl, Or.inl ⟨rfl, rfl⟩⟩))
  · have c8 := bI_n.mp c8
    refine v_iload (pc := 11) dX5_setIce_11 rfl ?_
    refine v_iconst (pc := 13) (v := -1) dX5_setIce_13 rfl ?_
    refine v_sipush (pc := 14) (v := 200) dX5_setIce_14 rfl ?_
    refine v_callS3 (pc := 17) (c_X5_isWithin ) cm_X5_isWithin q214 q215 [] (by rfl) (by decide) (fun _ _ h => h) (by decide) (by decide) (by decide) (Nat.le_of_ble_eq_true rfl) dX5_setIce_17 (fun v17 M17 hQ17 => ?_)
    obtain ⟨rfl, rfl⟩ := hQ17
    try dsimp only [wb, LakeM, WaysM, WorldM, List.set_cons_succ, List.set_cons_zero, List.append_nil, List.nil_append, List.cons_append, Option.toList, Nat.sub_zero]
    refine v_if_ne (pc := 20) (tgt := 33) dX5_setIce_20 (by decide) (fun c20 => ?_) (fun c20 => ?_)
    · have c20 := bI_n.mp c20
      refine v_iload (pc := 33) dX5_setIce_33 rfl ?_
      refine v_iconst (pc := 35) (v := -1) dX5_setIce_35 rfl ?_
      refine v_icmp_eq (pc := 36) (tgt := 64) dX5_setIce_36 (by decide) (fun c36 => ?_) (fun c36 => ?_)
      · refine v_iload_n (pc := 64) dX5_setIce_64 rfl rfl ?_
        refine v_istore (pc := 65) dX5_setIce_65 (by decide) rfl ?_
        obtain ⟨k1, k2, k3, k4, hac, hbe, rfl, rfl, rfl, rfl⟩ := rect_of c8
        have hcN : cN (nI k1) = k1 ∧ cN (nI k2) = k2 ∧ cN (nI k3) = k3 ∧ cN (nI k4) = k4 := ⟨cN_nI (by omega), cN_nI (by omega), cN_nI (by omega), cN_nI (by omega)⟩
        have e9 : (rIc T S C PC SF ps sc ch (nI k1) (nI k2) (nI k3) (nI k4) t) = (0, nI k3 * nI k4, lyU T t (cel k1 k2 k3) (k4 * k3), lyU S 0 (cel k1 k2 k3) (k4 * k3), lyU C 0 (cel k1 k2 k3) (k4 * k3), ch + nI (k4 * k3)) := by
          unfold rIc
          rw [if_pos ⟨c8, c20⟩, hcN.1, hcN.2.1, hcN.2.2.1, hcN.2.2.2, if_neg (fun h => h.1 c36)]
        rw [e9]
        refine v_sub (L' := [some (.ref g0), some (.int (nI k1)), some (.int (nI k2)), some (.int (nI k3)), some (.int (nI k4)), some (.int t), some (.int (nI (k2 + 0))), none]) ⟨rfl, rfl, rfl, rfl, rfl, rfl, rfl, trivial⟩ ?_
        have k9 : V G Y_X5_setIce (ZM G (eO 5 g0 [.ref (w 0), .ref u0] :: WorldM w a b f wa lr nd dg T N S C B O ch PC SF BF ps sc bc hh) sz (fun v M' => ((0 : Int32), nI k3 * nI k4, lyU T t (cel k1 k2 k3) (k4 * k3), lyU S 0 (cel k1 k2 k3) (k4 * k3), lyU C 0 (cel k1 k2 k3) (k4 * k3), ch + nI (k4 * k3)).1 = 0 ∧ v = some (.int (((0 : Int32), nI k3 * nI k4, lyU T t (cel k1 k2 k3) (k4 * k3), lyU S 0 (cel k1 k2 k3) (k4 * k3), lyU C 0 (cel k1 k2 k3) (k4 * k3), ch + nI (k4 * k3)).2.1)) ∧ M' = eO 5 g0 [.ref (w 0), .ref u0] :: WorldM w a b f wa lr nd dg ((0 : Int32), nI k3 * nI k4, lyU T t (cel k1 k2 k3) (k4 * k3), lyU S 0 (cel k1 k2 k3) (k4 * k3), lyU C 0 (cel k1 k2 k3) (k4 * k3), ch + nI (k4 * k3)).2.2.1 N ((0 : Int32), nI k3 * nI k4, lyU T t (cel k1 k2 k3) (k4 * k3), lyU S 0 (cel k1 k2 k3) (k4 * k3), lyU C 0 (cel k1 k2 k3) (k4 * k3), ch + nI (k4 * k3)).2.2.2.1 ((0 : Int32), nI k3 * nI k4, lyU T t (cel k1 k2 k3) (k4 * k3), lyU S 0 (cel k1 k2 k3) (k4 * k3), lyU C 0 (cel k1 k2 k3) (k4 * k3), ch + nI (k4 * k3)).2.2.2.2.1 B O ((0 : Int32), nI k3 * nI k4, lyU T t (cel k1 k2 k3) (k4 * k3), lyU S 0 (cel k1 k2 k3) (k4 * k3), lyU C 0 (cel k1 k2 k3) (k4 * k3), ch + nI (k4 * k3)).2.2.2.2.2 PC SF BF ps sc bc hh) (fun E M' => M' = eO 5 g0 [.ref (w 0), .ref u0] :: WorldM w a b f wa lr nd dg ((0 : Int32), nI k3 * nI k4, lyU T t (cel k1 k2 k3) (k4 * k3), lyU S 0 (cel k1 k2 k3) (k4 * k3), lyU C 0 (cel k1 k2 k3) (k4 * k3), ch + nI (k4 * k3)).2.2.1 N ((0 : Int32), nI k3 * nI k4, lyU T t (cel k1 k2 k3) (k4 * k3), lyU S 0 (cel k1 k2 k3) (k4 * k3), lyU C 0 (cel k1 k2 k3) (k4 * k3), ch + nI (k4 * k3)).2.2.2.1 ((0 : Int32), nI k3 * nI k4, lyU T t (cel k1 k2 k3) (k4 * k3), lyU S 0 (cel k1 k2 k3) (k4 * k3), lyU C 0 (cel k1 k2 k3) (k4 * k3), ch + nI (k4 * k3)).2.2.2.2.1 B O ((0 : Int32), nI k3 * nI k4, lyU T t (cel k1 k2 k3) (k4 * k3), lyU S 0 (cel k1 k2 k3) (k4 * k3), lyU C 0 (cel k1 k2 k3) (k4 * k3), ch + nI (k4 * k3)).2.2.2.2.2 PC SF BF ps sc bc hh ∧ ((E = IAX ∧ ((0 : Int32), nI k3 * nI k4, lyU T t (cel k1 k2 k3) (k4 * k3), lyU S 0 (cel k1 k2 k3) (k4 * k3), lyU C 0 (cel k1 k2 k3) (k4 * k3), ch + nI (k4 * k3)).1 = 1) ∨ (E = ISX ∧ ((0 : Int32), nI k3 * nI k4, lyU T t (cel k1 k2 k3) (k4 * k3), lyU S 0 (cel k1 k2 k3) (k4 * k3), lyU C 0 (cel k1 k2 k3) (k4 * k3), ch + nI (k4 * k3)).1 = 2)))) 7 1 6 67 [some (.ref g0), some (.int (nI k1)), some (.int (nI k2)), some (.int (nI k3)), some (.int (nI k4)), some (.int t), some (.int (nI (k2 + 0))), none] [] (eO 5 g0 [.ref (w 0), .ref u0] :: WorldM w a b f wa lr nd dg (lyU T t (cel k1 k2 k3) (0 * k3)) N (lyU S 0 (cel k1 k2 k3) (0 * k3)) (lyU C 0 (cel k1 k2 k3) (0 * k3)) B O (ch + nI (0 * k3)) PC SF BF ps sc bc hh) := by
          refine lp_X5_icL hps hsc hbc hac hbe ?_ k4 0 (by omega)
          refine v_iload_n (pc := 118) dX5_setIce_118 rfl rfl ?_
          refine v_iload (pc := 119) dX5_setIce_119 rfl ?_
          refine v_imul (pc := 121) dX5_setIce_121 ?_
          refine v_iret (pc := 122) rfl rfl (Nat.le_of_ble_eq_true rfl) dX5_setIce_122 ?_
          exact ⟨rfl, rfl, rfl⟩
        rw [Nat.zero_mul, show ch + nI 0 = ch from Int32.add_zero _] at k9
        exact k9
      · obtain ⟨k1, k2, k3, k4, hac, hbe, rfl, rfl, rfl, rfl⟩ := rect_of c8
        have hcN : cN (nI k1) = k1 ∧ cN (nI k2) = k2 ∧ cN (nI k3) = k3 ∧ cN (nI k4) = k4 := ⟨cN_nI (by omega), cN_nI (by omega), cN_nI (by omega), cN_nI (by omega)⟩
        refine v_aload_nR (pc := 39) dX5_setIce_39 rfl rfl ?_
        refine v_get (pc := 40) 0 0 fg_X5_10 rfl rfl dX5_setIce_40 ?_
        refine v_iload_n (pc := 43) dX5_setIce_43 rfl rfl ?_
        refine v_iload_n (pc := 44) dX5_setIce_44 rfl rfl ?_
        refine v_iload_n (pc := 45) dX5_setIce_45 rfl rfl ?_
        refine v_iload (pc := 46) dX5_setIce_46 rfl ?_
        refine v_callV4 (pc := 48) (c_X4_isTaken hps hsc hbc (x := k1) (y := k2) (wd := k3) (dp := k4) hac hbe) cm_X4_isTaken q686 q687 q688 (ci := 4) rfl rfl (orcO 1 rfl) [1, 2, 3, 4, 5, 6, 7, 8, 9, 10, 11, 12, 13, 14, 15, 16, 17] (by rfl) (by decide) (fun _ _ h => h) (by decide) (by decide) (by decide) (Nat.le_of_ble_eq_true rfl) dX5_setIce_48 (fun v48 M48 hQ48 => ?_)
        obtain ⟨rfl, rfl⟩ := hQ48
        try dsimp only [wb, LakeM, WaysM, WorldM, List.set_cons_succ, List.set_cons_zero, List.append_nil, List.nil_append, List.cons_append, Option.toList, Nat.sub_zero]
        refine v_if_eq (pc := 51) (tgt := 64) dX5_setIce_51 (by decide) (fun c51 => ?_) (fun c51 => ?_)
        · have c51 := bI_0.mp c51
          refine v_iload_n (pc := 64) dX5_setIce_64 rfl rfl ?_
          refine v_istore (pc := 65) dX5_setIce_65 (by decide) rfl ?_
          have e9 : (rIc T S C PC SF ps sc ch (nI k1) (nI k2) (nI k3) (nI k4) t) = (0, nI k3 * nI k4, lyU T t (cel k1 k2 k3) (k4 * k3), lyU S 0 (cel k1 k2 k3) (k4 * k3), lyU C 0 (cel k1 k2 k3) (k4 * k3), ch + nI (k4 * k3)) := by
            unfold rIc
            rw [if_pos ⟨c8, c20⟩, hcN.1, hcN.2.1, hcN.2.2.1, hcN.2.2.2, if_neg (fun h => c51 h.2)]
          rw [e9]
          refine v_sub (L' := [some (.ref g0), some (.int (nI k1)), some (.int (nI k2)), some (.int (nI k3)), some (.int (nI k4)), some (.int t), some (.int (nI (k2 + 0))), none]) ⟨rfl, rfl, rfl, rfl, rfl, rfl, rfl, trivial⟩ ?_
          have k9 : V G Y_X5_setIce (ZM G (eO 5 g0 [.ref (w 0), .ref u0] :: WorldM w a b f wa lr nd dg T N S C B O ch PC SF BF ps sc bc hh) sz (fun v M' => ((0 : Int32), nI k3 * nI k4, lyU T t (cel k1 k2 k3) (k4 * k3), lyU S 0 (cel k1 k2 k3) (k4 * k3), lyU C 0 (cel k1 k2 k3) (k4 * k3), ch + nI (k4 * k3)).1 = 0 ∧ v = some (.int (((0 : Int32), nI k3 * nI k4, lyU T t (cel k1 k2 k3) (k4 * k3), lyU S 0 (cel k1 k2 k3) (k4 * k3), lyU C 0 (cel k1 k2 k3) (k4 * k3), ch + nI (k4 * k3)).2.1)) ∧ M' = eO 5 g0 [.ref (w 0), .ref u0] :: WorldM w a b f wa lr nd dg ((0 : Int32), nI k3 * nI k4, lyU T t (cel k1 k2 k3) (k4 * k3), lyU S 0 (cel k1 k2 k3) (k4 * k3), lyU C 0 (cel k1 k2 k3) (k4 * k3), ch + nI (k4 * k3)).2.2.1 N ((0 : Int32), nI k3 * nI k4, lyU T t (cel k1 k2 k3) (k4 * k3), lyU S 0 (cel k1 k2 k3) (k4 * k3), lyU C 0 (cel k1 k2 k3) (k4 * k3), ch + nI (k4 * k3)).2.2.2.1 ((0 : Int32), nI k3 * nI k4, lyU T t (cel k1 k2 k3) (k4 * k3), lyU S 0 (cel k1 k2 k3) (k4 * k3), lyU C 0 (cel k1 k2 k3) (k4 * k3), ch + nI (k4 * k3)).2.2.2.2.1 B O ((0 : Int32), nI k3 * nI k4, lyU T t (cel k1 k2 k3) (k4 * k3), lyU S 0 (cel k1 k2 k3) (k4 * k3), lyU C 0 (cel k1 k2 k3) (k4 * k3), ch + nI (k4 * k3)).2.2.2.2.2 PC SF BF ps sc bc hh) (fun E M' => M' = eO 5 g0 [.ref (w 0), .ref u0] :: WorldM w a b f wa lr nd dg ((0 : Int32), nI k3 * nI k4, lyU T t (cel k1 k2 k3) (k4 * k3), lyU S 0 (cel k1 k2 k3) (k4 * k3), lyU C 0 (cel k1 k2 k3) (k4 * k3), ch + nI (k4 * k3)).2.2.1 N ((0 : Int32), nI k3 * nI k4, lyU T t (cel k1 k2 k3) (k4 * k3), lyU S 0 (cel k1 k2 k3) (k4 * k3), lyU C 0 (cel k1 k2 k3) (k4 * k3), ch + nI (k4 * k3)).2.2.2.1 ((0 : Int32), nI k3 * nI k4, lyU T t (cel k1 k2 k3) (k4 * k3), lyU S 0 (cel k1 k2 k3) (k4 * k3), lyU C 0 (cel k1 k2 k3) (k4 * k3), ch + nI (k4 * k3)).2.2.2.2.1 B O ((0 : Int32), nI k3 * nI k4, lyU T t (cel k1 k2 k3) (k4 * k3), lyU S 0 (cel k1 k2 k3) (k4 * k3), lyU C 0 (cel k1 k2 k3) (k4 * k3), ch + nI (k4 * k3)).2.2.2.2.2 PC SF BF ps sc bc hh ∧ ((E = IAX ∧ ((0 : Int32), nI k3 * nI k4, lyU T t (cel k1 k2 k3) (k4 * k3), lyU S 0 (cel k1 k2 k3) (k4 * k3), lyU C 0 (cel k1 k2 k3) (k4 * k3), ch + nI (k4 * k3)).1 = 1) ∨ (E = ISX ∧ ((0 : Int32), nI k3 * nI k4, lyU T t (cel k1 k2 k3) (k4 * k3), lyU S 0 (cel k1 k2 k3) (k4 * k3), lyU C 0 (cel k1 k2 k3) (k4 * k3), ch + nI (k4 * k3)).1 = 2)))) 7 1 6 67 [some (.ref g0), some (.int (nI k1)), some (.int (nI k2)), some (.int (nI k3)), some (.int (nI k4)), some (.int t), some (.int (nI (k2 + 0))), none] [] (eO 5 g0 [.ref (w 0), .ref u0] :: WorldM w a b f wa lr nd dg (lyU T t (cel k1 k2 k3) (0 * k3)) N (lyU S 0 (cel k1 k2 k3) (0 * k3)) (lyU C 0 (cel k1 k2 k3) (0 * k3)) B O (ch + nI (0 * k3)) PC SF BF ps sc bc hh) := by
            refine lp_X5_icL hps hsc hbc hac hbe ?_ k4 0 (by omega)
            refine v_iload_n (pc := 118) dX5_setIce_118 rfl rfl ?_
            refine v_iload (pc := 119) dX5_setIce_119 rfl ?_
            refine v_imul (pc := 121) dX5_setIce_121 ?_
            refine v_iret (pc := 122) rfl rfl (Nat.le_of_ble_eq_true rfl) dX5_setIce_122 ?_
            exact ⟨rfl, rfl, rfl⟩
          rw [Nat.zero_mul, show ch + nI 0 = ch from Int32.add_zero _] at k9
          exact k9
        · have c51 := bI_n.mp c51
          exact v_throw (pc := 54) (names := ["java/lang/RuntimeException", "java/lang/Exception"]) tw_X5_37_39_41 rfl (Nat.le_of_ble_eq_true rfl) dX5_setIce_54 dX5_setIce_57 dX5_setIce_58 dX5_setIce_60 dX5_setIce_63 (by decide) (Nat.le_of_ble_eq_true rfl) (by decide) (by decide) (by (have e : (rIc T S C PC SF ps sc ch (nI k1) (nI k2) (nI k3) (nI k4) t) = (2, 0, T, S, C, ch) := (by unfold rIc; rw [if_pos ⟨c8, c20⟩, hcN.1, hcN.2.1, hcN.2.2.1, hcN.2.2.2, if_pos ⟨c36, c51⟩]); rw [e]; exact ⟨rfl, Or.inr (⟨rfl, rfl⟩)⟩))
    · have c20 := bI_0.mp c20
      exact v_throw (pc := 23) (names := ["java/lang/RuntimeException", "java/lang/Exception"]) tw_X5_27_29_31 rfl (Nat.le_of_ble_eq_true rfl) dX5_setIce_23 dX5_setIce_26 dX5_setIce_27 dX5_setIce_29 dX5_setIce_32 (by decide) (Nat.le_of_ble_eq_true rfl) (by decide) (by decide) (by (have e : (rIc T S C PC SF ps sc ch x y w1 h1 t) = (1, 0, T, S, C, ch) := (if_neg (fun h => c20 h.2)); rw [e]; exact ⟨rfl, Or.inl ⟨rfl, rfl⟩⟩))
