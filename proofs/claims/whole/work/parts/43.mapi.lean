/-! the calls of the reference, by the same answers -/
theorem sum_onn {SF : Nat → Nat → Int32} {sc : Nat} {c : Int32} : ∀ n, n ≤ 5 → ∃ m, m ≤ n ∧ sumN (onF SF sc c) n = nI m
  | 0, _ => ⟨0, Nat.le_refl _, rfl⟩
  | n + 1, hn => by
    obtain ⟨m, h1, h2⟩ := sum_onn (SF := SF) (sc := sc) (c := c) n (by omega)
    have e : sumN (onF SF sc c) (n + 1) = nI m + onF SF sc c n := by rw [← h2]; rfl
    rw [e]
    unfold onF
    split
    · exact ⟨m + 1, by omega, nI_1 m⟩
    · exact ⟨m, by omega, Int32.add_zero _⟩
theorem sum_on0 {SF : Nat → Nat → Int32} {sc : Nat} {c : Int32} : sumN (onF SF sc c) 5 = 0 ↔ sumN (onF SF sc c) 5 ≤ 0 := by
  obtain ⟨m, h1, h2⟩ := sum_onn (SF := SF) (sc := sc) (c := c) 5 (Nat.le_refl _)
  rw [h2, i_eq, i_le, nI_toInt (by omega), i_0]
  omega
def frB (PC : Nat → Int32) (SF : Nat → Nat → Int32) (ps sc x y wd : Nat) : Nat → Bool
  | 0 => true
  | n + 1 => frB PC SF ps sc x y wd n && !tkP PC SF ps sc (cel x y wd n)
theorem frB_all {PC : Nat → Int32} {SF : Nat → Nat → Int32} {ps sc x y wd : Nat} : ∀ n, frB PC SF ps sc x y wd n = true ↔ ∀ m, m < n → tkP PC SF ps sc (cel x y wd m) = false
  | 0 => ⟨fun _ m h => absurd h (Nat.not_lt_zero _), fun _ => rfl⟩
  | n + 1 => by
    have ih := frB_all (PC := PC) (SF := SF) (ps := ps) (sc := sc) (x := x) (y := y) (wd := wd) n
    unfold frB
    constructor
    · intro h m hm
      have h2 : frB PC SF ps sc x y wd n = true ∧ tkP PC SF ps sc (cel x y wd n) = false := by simpa using h
      by_cases e : m = n
      · subst e; exact h2.2
      · exact ih.mp h2.1 m (by omega)
    · intro h
      have h1 := ih.mpr (fun m hm => h m (by omega))
      have h2 := h n (by omega)
      rw [h1, h2]; rfl
theorem tkC_all {PC : Nat → Int32} {SF : Nat → Nat → Int32} {ps sc x y : Nat} : ∀ n, tkC PC SF ps sc x y n = false ↔ ∀ m, m < n → tkP PC SF ps sc (x + m + 16 * y) = false
  | 0 => ⟨fun _ m h => absurd h (Nat.not_lt_zero _), fun _ => rfl⟩
  | n + 1 => by
    have ih := tkC_all (PC := PC) (SF := SF) (ps := ps) (sc := sc) (x := x) (y := y) n
    unfold tkC
    constructor
    · intro h m hm
      have h2 : tkC PC SF ps sc x y n = false ∧ tkP PC SF ps sc (x + n + 16 * y) = false := by simpa using h
      by_cases e : m = n
      · subst e; exact h2.2
      · exact ih.mp h2.1 m (by omega)
    · intro h
      rw [ih.mpr (fun m hm => h m (by omega)), h n (by omega)]; rfl
theorem tkL_all {PC : Nat → Int32} {SF : Nat → Nat → Int32} {ps sc x y wd : Nat} : ∀ n, tkL PC SF ps sc x y wd n = false ↔ ∀ m, m < n → tkC PC SF ps sc x (y + m) wd = false
  | 0 => ⟨fun _ m h => absurd h (Nat.not_lt_zero _), fun _ => rfl⟩
  | n + 1 => by
    have ih := tkL_all (PC := PC) (SF := SF) (ps := ps) (sc := sc) (x := x) (y := y) (wd := wd) n
    unfold tkL
    constructor
    · intro h m hm
      have h2 : tkL PC SF ps sc x y wd n = false ∧ tkC PC SF ps sc x (y + n) wd = false := by simpa using h
      by_cases e : m = n
      · subst e; exact h2.2
      · exact ih.mp h2.1 m (by omega)
    · intro h
      rw [ih.mpr (fun m hm => h m (by omega)), h n (by omega)]; rfl
theorem fr_tk {PC : Nat → Int32} {SF : Nat → Nat → Int32} {ps sc x y wd dp : Nat} : frB PC SF ps sc x y wd (wd * dp) = true ↔ ¬ tkL PC SF ps sc x y wd dp = true := by
  have e : (¬ tkL PC SF ps sc x y wd dp = true) ↔ tkL PC SF ps sc x y wd dp = false := by
    cases tkL PC SF ps sc x y wd dp <;> simp
  rw [e, frB_all, tkL_all]
  constructor
  · intro h i hi
    rw [tkC_all]
    intro j hj
    have h2 := h (i * wd + j) (by
      have h3 : i * wd + j < (i + 1) * wd := by rw [Nat.succ_mul]; omega
      have h4 : (i + 1) * wd ≤ dp * wd := Nat.mul_le_mul_right wd hi
      rw [Nat.mul_comm wd dp]
      omega)
    rw [cel_at hj] at h2
    exact h2
  · intro h m hm
    have hw : 0 < wd := by
      rcases Nat.eq_zero_or_pos wd with h0 | h0
      · rw [h0, Nat.zero_mul] at hm
        omega
      · exact h0
    have h1 : m / wd < dp := by
      rw [Nat.div_lt_iff_lt_mul hw, Nat.mul_comm]
      exact hm
    have h2 := (tkC_all wd).mp (h (m / wd) h1) (m % wd) (Nat.mod_lt _ hw)
    have e2 : cel x y wd m = x + m % wd + 16 * (y + m / wd) := rfl
    rw [e2]
    exact h2
theorem kcel {x y wd i : Nat} (hi : i < 2 ^ 31) (hw : 0 < wd) (hw2 : wd < 2 ^ 31) : nI x + (nI i - nI i / nI wd * nI wd) + 16 * (nI y + nI i / nI wd) = nI (cel x y wd i) := by
  rw [pk_rem hi hw hw2, pk_div hi hw hw2, nI_add, nI_add]
  exact kf_cell
theorem cel_lt {x y wd dp i : Nat} (hx : x + wd ≤ 16) (hy : y + dp ≤ 10) (hi : i < wd * dp) : cel x y wd i < 160 := by
  have hw : 0 < wd := by
    rcases Nat.eq_zero_or_pos wd with h0 | h0
    · rw [h0, Nat.zero_mul] at hi
      omega
    · exact h0
  have h1 : i / wd < dp := by
    rw [Nat.div_lt_iff_lt_mul hw, Nat.mul_comm]
    exact hi
  have h2 := Nat.mod_lt i hw
  unfold cel
  omega
set_option maxRecDepth 100000 in
set_option maxHeartbeats 4000000 in
theorem c_X6_setSnow {G : Cx} {z : Nat → Nat} {th : Int32} {N O PC T S C : Nat → Int32} {ps sc bc hh : Nat} {SF BF : Nat → Nat → Int32} {MX H W : Nat → Int32} (hps : ps ≤ 8) (hsc : sc ≤ 5) (hbc : bc ≤ 40) {x y s : Int32} : Mt G Y_X6_setSnow 7 0 0 [.ref (z 0), .int x, .int y, .int s] (ModelM z th N O PC ps sc bc T S C SF MX BF hh H W) (fun v M' => v = some (.int ((rSn N x y s).2.1)) ∧ M' = ModelM z (rSn N x y s).1 (rSn N x y s).2.2 O PC ps sc bc T S C SF MX BF hh H W) noX := by
  refine Mt.of (L := [some (.ref (z 0)), some (.int x), some (.int y), some (.int s), none]) rfl (by decide) (by simp [lg_sl, Value.category]) ⟨rfl, rfl, rfl, rfl, trivial⟩ (fun sz => ?_)
  refine v_aload_nR (pc := 0) dX6_setSnow_0 rfl rfl ?_
  refine v_iconst (pc := 1) (v := 0) dX6_setSnow_1 rfl ?_
  refine v_put (pc := 2) 0 0 fp_X6_setSnow_44 rfl rfl rfl (Nat.le_of_ble_eq_true rfl) dX6_setSnow_2 ?_
  try dsimp only [wb, ModelM, List.set_cons_succ, List.set_cons_zero, List.append_nil, List.nil_append, List.cons_append, Option.toList, Nat.sub_zero, List.take_succ_cons, List.take_zero]
  refine v_iload_n (pc := 5) dX6_setSnow_5 rfl rfl ?_
  refine v_iload_n (pc := 6) dX6_setSnow_6 rfl rfl ?_
  refine v_callS2 (pc := 7) (c_X6_isCell ) cm_X6_isCell q856 q857 [] (by rfl) (by decide) (fun _ _ h => h) (by decide) (by decide) (by decide) (Nat.le_of_ble_eq_true rfl) dX6_setSnow_7 (fun v7 M7 hQ7 => ?_)
  obtain ⟨rfl, rfl⟩ := hQ7
  try dsimp only [wb, ModelM, List.set_cons_succ, List.set_cons_zero, List.append_nil, List.nil_append, List.cons_append, Option.toList, Nat.sub_zero, List.take_succ_cons, List.take_zero]
  refine v_if_ne (pc := 10) (tgt := 19) dX6_setSnow_10 (by decide) (fun c10 => ?_) (fun c10 => ?_)
  · have c10 := bI_n.mp c10
    refine v_iload_n (pc := 19) dX6_setSnow_19 rfl rfl ?_
    refine v_iconst (pc := 20) (v := 1) dX6_setSnow_20 rfl ?_
    refine v_bipush (pc := 21) (v := 9) dX6_setSnow_21 rfl ?_
    refine v_callS3 (pc := 23) (c_X6_isIn ) cm_X6_isIn q859 q860 [] (by rfl) (by decide) (fun _ _ h => h) (by decide) (by decide) (by decide) (Nat.le_of_ble_eq_true rfl) dX6_setSnow_23 (fun v23 M23 hQ23 => ?_)
    obtain ⟨rfl, rfl⟩ := hQ23
    try dsimp only [wb, ModelM, List.set_cons_succ, List.set_cons_zero, List.append_nil, List.nil_append, List.cons_append, Option.toList, Nat.sub_zero, List.take_succ_cons, List.take_zero]
    refine v_if_ne (pc := 26) (tgt := 35) dX6_setSnow_26 (by decide) (fun c26 => ?_) (fun c26 => ?_)
    · have c26 := bI_n.mp c26
      obtain ⟨a, b, ha, hb, rfl, rfl⟩ := onM_of c10
      have hk : a + 16 * b < 160 := by omega
      have hcN : cN (nI a + 16 * nI b) = a + 16 * b := by rw [kf_cell, cN_nI (by omega)]
      refine v_aload_nR (pc := 35) dX6_setSnow_35 rfl rfl ?_
      refine v_get (pc := 36) 1 0 fg_X6_9 rfl rfl dX6_setSnow_36 ?_
      refine v_iload_n (pc := 39) dX6_setSnow_39 rfl rfl ?_
      refine v_bipush (pc := 40) (v := 16) dX6_setSnow_40 rfl ?_
      refine v_iload_n (pc := 42) dX6_setSnow_42 rfl rfl ?_
      refine v_imul (pc := 43) dX6_setSnow_43 ?_
      refine v_iadd (pc := 44) dX6_setSnow_44 ?_
      rw [kf_cell]
      refine v_ialdN (pc := 45) 1 (k := (a+16*b)) rfl (by omega) (by decide) dX6_setSnow_45 ?_
      refine v_istore (pc := 46) dX6_setSnow_46 (by decide) rfl ?_
      refine v_aload_nR (pc := 48) dX6_setSnow_48 rfl rfl ?_
      refine v_get (pc := 49) 1 0 fg_X6_9 rfl rfl dX6_setSnow_49 ?_
      refine v_iload_n (pc := 52) dX6_setSnow_52 rfl rfl ?_
      refine v_bipush (pc := 53) (v := 16) dX6_setSnow_53 rfl ?_
      refine v_iload_n (pc := 55) dX6_setSnow_55 rfl rfl ?_
      refine v_imul (pc := 56) dX6_setSnow_56 ?_
      refine v_iadd (pc := 57) dX6_setSnow_57 ?_
      rw [kf_cell]
      refine v_iload_n (pc := 58) dX6_setSnow_58 rfl rfl ?_
      refine v_iastN (pc := 59) 1 (k := (a+16*b)) rfl (by omega) (by decide) dX6_setSnow_59 ?_
      try dsimp only [wb, ModelM, List.set_cons_succ, List.set_cons_zero, List.append_nil, List.nil_append, List.cons_append, Option.toList, Nat.sub_zero, List.take_succ_cons, List.take_zero]
      refine v_iload (pc := 60) dX6_setSnow_60 rfl ?_
      refine v_iret (pc := 62) rfl rfl (Nat.le_of_ble_eq_true rfl) dX6_setSnow_62 ?_
      have e9 : (rSn N (nI a) (nI b) s) = (0, N (a + 16 * b), upd N (a + 16 * b) s) := by unfold rSn; rw [if_pos c10, if_pos c26, hcN]
      rw [e9]
      exact ⟨rfl, rfl⟩
    · have c26 := bI_0.mp c26
      refine v_aload_nR (pc := 29) dX6_setSnow_29 rfl rfl ?_
      refine v_iconst (pc := 30) (v := 2) dX6_setSnow_30 rfl ?_
      refine v_callV1 (pc := 31) (c_X6_fail hps hsc hbc) cm_X6_fail q862 q864 qs16 (ci := 6) rfl rfl (orcO 0 rfl) [0, 1, 2, 3, 4, 5, 6, 7, 8, 9, 10, 11] (by rfl) (by decide) (fun _ _ h => h) (by decide) (by decide) (by decide) (Nat.le_of_ble_eq_true rfl) dX6_setSnow_31 (fun v31 M31 hQ31 => ?_)
      obtain ⟨rfl, rfl⟩ := hQ31
      try dsimp only [wb, ModelM, List.set_cons_succ, List.set_cons_zero, List.append_nil, List.nil_append, List.cons_append, Option.toList, Nat.sub_zero, List.take_succ_cons, List.take_zero]
      refine v_iret (pc := 34) rfl rfl (Nat.le_of_ble_eq_true rfl) dX6_setSnow_34 ?_
      have e9 : (rSn N x y s) = (2, 0, N) := by exact (if_pos c10).trans (if_neg c26)
      rw [e9]
      exact ⟨rfl, rfl⟩
  · have c10 := bI_0.mp c10
    refine v_aload_nR (pc := 13) dX6_setSnow_13 rfl rfl ?_
    refine v_iconst (pc := 14) (v := 1) dX6_setSnow_14 rfl ?_
    refine v_callV1 (pc := 15) (c_X6_fail hps hsc hbc) cm_X6_fail q862 q864 qs16 (ci := 6) rfl rfl (orcO 0 rfl) [0, 1, 2, 3, 4, 5, 6, 7, 8, 9, 10, 11] (by rfl) (by decide) (fun _ _ h => h) (by decide) (by decide) (by decide) (Nat.le_of_ble_eq_true rfl) dX6_setSnow_15 (fun v15 M15 hQ15 => ?_)
    obtain ⟨rfl, rfl⟩ := hQ15
    try dsimp only [wb, ModelM, List.set_cons_succ, List.set_cons_zero, List.append_nil, List.nil_append, List.cons_append, Option.toList, Nat.sub_zero, List.take_succ_cons, List.take_zero]
    refine v_iret (pc := 18) rfl rfl (Nat.le_of_ble_eq_true rfl) dX6_setSnow_18 ?_
    have e9 : (rSn N x y s) = (1, 0, N) := by exact if_neg c10
    rw [e9]
    exact ⟨rfl, rfl⟩
set_option maxRecDepth 100000 in
set_option maxHeartbeats 4000000 in
theorem c_X6_setCold {G : Cx} {z : Nat → Nat} {th : Int32} {N O PC T S C : Nat → Int32} {ps sc bc hh : Nat} {SF BF : Nat → Nat → Int32} {MX H W : Nat → Int32} (hps : ps ≤ 8) (hsc : sc ≤ 5) (hbc : bc ≤ 40) {q c : Int32} : Mt G Y_X6_setCold 7 0 0 [.ref (z 0), .int q, .int c] (ModelM z th N O PC ps sc bc T S C SF MX BF hh H W) (fun v M' => v = some (.int ((rCo O q c).2.1)) ∧ M' = ModelM z (rCo O q c).1 N (rCo O q c).2.2 PC ps sc bc T S C SF MX BF hh H W) noX := by
  refine Mt.of (L := [some (.ref (z 0)), some (.int q), some (.int c), none]) rfl (by decide) (by simp [lg_sl, Value.category]) ⟨rfl, rfl, rfl, trivial⟩ (fun sz => ?_)
  refine v_aload_nR (pc := 0) dX6_setCold_0 rfl rfl ?_
  refine v_iconst (pc := 1) (v := 0) dX6_setCold_1 rfl ?_
  refine v_put (pc := 2) 0 0 fp_X6_setCold_44 rfl rfl rfl (Nat.le_of_ble_eq_true rfl) dX6_setCold_2 ?_
  try dsimp only [wb, ModelM, List.set_cons_succ, List.set_cons_zero, List.append_nil, List.nil_append, List.cons_append, Option.toList, Nat.sub_zero, List.take_succ_cons, List.take_zero]
  refine v_iload_n (pc := 5) dX6_setCold_5 rfl rfl ?_
  refine v_iconst (pc := 6) (v := 0) dX6_setCold_6 rfl ?_
  refine v_bipush (pc := 7) (v := 7) dX6_setCold_7 rfl ?_
  refine v_callS3 (pc := 9) (c_X6_isIn ) cm_X6_isIn q859 q860 [] (by rfl) (by decide) (fun _ _ h => h) (by decide) (by decide) (by decide) (Nat.le_of_ble_eq_true rfl) dX6_setCold_9 (fun v9 M9 hQ9 => ?_)
  obtain ⟨rfl, rfl⟩ := hQ9
  try dsimp only [wb, ModelM, List.set_cons_succ, List.set_cons_zero, List.append_nil, List.nil_append, List.cons_append, Option.toList, Nat.sub_zero, List.take_succ_cons, List.take_zero]
  refine v_if_ne (pc := 12) (tgt := 21) dX6_setCold_12 (by decide) (fun c12 => ?_) (fun c12 => ?_)
  · have c12 := bI_n.mp c12
    refine v_iload_n (pc := 21) dX6_setCold_21 rfl rfl ?_
    refine v_bipush (pc := 22) (v := -9) dX6_setCold_22 rfl ?_
    refine v_bipush (pc := 24) (v := 9) dX6_setCold_24 rfl ?_
    refine v_callS3 (pc := 26) (c_X6_isIn ) cm_X6_isIn q859 q860 [] (by rfl) (by decide) (fun _ _ h => h) (by decide) (by decide) (by decide) (Nat.le_of_ble_eq_true rfl) dX6_setCold_26 (fun v26 M26 hQ26 => ?_)
    obtain ⟨rfl, rfl⟩ := hQ26
    try dsimp only [wb, ModelM, List.set_cons_succ, List.set_cons_zero, List.append_nil, List.nil_append, List.cons_append, Option.toList, Nat.sub_zero, List.take_succ_cons, List.take_zero]
    refine v_if_ne (pc := 29) (tgt := 38) dX6_setCold_29 (by decide) (fun c29 => ?_) (fun c29 => ?_)
    · have c29 := bI_n.mp c29
      obtain ⟨a, ha, rfl⟩ := le_nI 7 (by decide) c12
      refine v_aload_nR (pc := 38) dX6_setCold_38 rfl rfl ?_
      refine v_get (pc := 39) 2 0 fg_X6_13 rfl rfl dX6_setCold_39 ?_
      refine v_iload_n (pc := 42) dX6_setCold_42 rfl rfl ?_
      refine v_ialdN (pc := 43) 2 (k := a) rfl (by omega) (by decide) dX6_setCold_43 ?_
      refine v_istore_n (pc := 44) dX6_setCold_44 rfl (by decide) rfl ?_
      refine v_aload_nR (pc := 45) dX6_setCold_45 rfl rfl ?_
      refine v_get (pc := 46) 2 0 fg_X6_13 rfl rfl dX6_setCold_46 ?_
      refine v_iload_n (pc := 49) dX6_setCold_49 rfl rfl ?_
      refine v_iload_n (pc := 50) dX6_setCold_50 rfl rfl ?_
      refine v_iastN (pc := 51) 2 (k := a) rfl (by omega) (by decide) dX6_setCold_51 ?_
      try dsimp only [wb, ModelM, List.set_cons_succ, List.set_cons_zero, List.append_nil, List.nil_append, List.cons_append, Option.toList, Nat.sub_zero, List.take_succ_cons, List.take_zero]
      refine v_iload_n (pc := 52) dX6_setCold_52 rfl rfl ?_
      refine v_iret (pc := 53) rfl rfl (Nat.le_of_ble_eq_true rfl) dX6_setCold_53 ?_
      have e9 : (rCo O (nI a) c) = (0, O a, upd O a c) := by unfold rCo; rw [if_pos c12, if_pos c29, cN_nI (by omega)]
      rw [e9]
      exact ⟨rfl, rfl⟩
    · have c29 := bI_0.mp c29
      refine v_aload_nR (pc := 32) dX6_setCold_32 rfl rfl ?_
      refine v_iconst (pc := 33) (v := 2) dX6_setCold_33 rfl ?_
      refine v_callV1 (pc := 34) (c_X6_fail hps hsc hbc) cm_X6_fail q862 q864 qs16 (ci := 6) rfl rfl (orcO 0 rfl) [0, 1, 2, 3, 4, 5, 6, 7, 8, 9, 10, 11] (by rfl) (by decide) (fun _ _ h => h) (by decide) (by decide) (by decide) (Nat.le_of_ble_eq_true rfl) dX6_setCold_34 (fun v34 M34 hQ34 => ?_)
      obtain ⟨rfl, rfl⟩ := hQ34
      try dsimp only [wb, ModelM, List.set_cons_succ, List.set_cons_zero, List.append_nil, List.nil_append, List.cons_append, Option.toList, Nat.sub_zero, List.take_succ_cons, List.take_zero]
      refine v_iret (pc := 37) rfl rfl (Nat.le_of_ble_eq_true rfl) dX6_setCold_37 ?_
      have e9 : (rCo O q c) = (2, 0, O) := by exact (if_pos c12).trans (if_neg c29)
      rw [e9]
      exact ⟨rfl, rfl⟩
  · have c12 := bI_0.mp c12
    refine v_aload_nR (pc := 15) dX6_setCold_15 rfl rfl ?_
    refine v_iconst (pc := 16) (v := 1) dX6_setCold_16 rfl ?_
    refine v_callV1 (pc := 17) (c_X6_fail hps hsc hbc) cm_X6_fail q862 q864 qs16 (ci := 6) rfl rfl (orcO 0 rfl) [0, 1, 2, 3, 4, 5, 6, 7, 8, 9, 10, 11] (by rfl) (by decide) (fun _ _ h => h) (by decide) (by decide) (by decide) (Nat.le_of_ble_eq_true rfl) dX6_setCold_17 (fun v17 M17 hQ17 => ?_)
    obtain ⟨rfl, rfl⟩ := hQ17
    try dsimp only [wb, ModelM, List.set_cons_succ, List.set_cons_zero, List.append_nil, List.nil_append, List.cons_append, Option.toList, Nat.sub_zero, List.take_succ_cons, List.take_zero]
    refine v_iret (pc := 20) rfl rfl (Nat.le_of_ble_eq_true rfl) dX6_setCold_20 ?_
    have e9 : (rCo O q c) = (1, 0, O) := by exact if_neg c12
    rw [e9]
    exact ⟨rfl, rfl⟩
theorem told_at {T N S C PC : Nat → Int32} {SF : Nat → Nat → Int32} {ps sc a b e : Nat} (hC : cOK C) (he : e ≤ 5) : (upd (upd (upd (upd (upd (upd (fun _ => 0) 0 (T (a + 16 * b))) 1 (N (a + 16 * b))) 2 (S (a + 16 * b))) 3 (C (a + 16 * b))) 4 (oI (pOn PC ps (nI (a + 16 * b)) 8 0))) 5 (sumN (onF SF sc (nI (a + 16 * b))) 5)) e = tlC T N S C PC SF ps sc (a + 16 * b) e := by
  rcases (show e = 0 ∨ e = 1 ∨ e = 2 ∨ e = 3 ∨ e = 4 ∨ e = 5 by omega) with rfl | rfl | rfl | rfl | rfl | rfl
  · rfl
  · rfl
  · rfl
  · show C (a + 16 * b) = bI (¬ C (a + 16 * b) = 0)
    rcases cOK01 hC (a + 16 * b) with h | h
    · rw [h]; rfl
    · rw [h]; rfl
  · rfl
  · rfl
set_option maxRecDepth 100000 in
set_option maxHeartbeats 4000000 in
theorem c_X6_cell {G : Cx} {z : Nat → Nat} {th : Int32} {N O PC T S C : Nat → Int32} {ps sc bc hh : Nat} {SF BF : Nat → Nat → Int32} {MX H W : Nat → Int32} (hps : ps ≤ 8) (hsc : sc ≤ 5) (hbc : bc ≤ 40) {x y q : Int32} (hC : cOK C) : Mt G Y_X6_cell 7 1 6 [.ref (z 0), .int x, .int y, .int q] (ModelM z th N O PC ps sc bc T S C SF MX BF hh H W) (fun v M' => v = some (.int ((rCe T N S C PC SF ps sc x y q).2)) ∧ M' = ModelM z (rCe T N S C PC SF ps sc x y q).1 N O PC ps sc bc T S C SF MX BF hh H W) noX := by
  refine Mt.of (L := [some (.ref (z 0)), some (.int x), some (.int y), some (.int q), none, none]) rfl (by decide) (by simp [lg_sl, Value.category]) ⟨rfl, rfl, rfl, rfl, trivial⟩ (fun sz => ?_)
  refine v_aload_nR (pc := 0) dX6_cell_0 rfl rfl ?_
  refine v_iconst (pc := 1) (v := 0) dX6_cell_1 rfl ?_
  refine v_put (pc := 2) 0 0 fp_X6_cell_44 rfl rfl rfl (Nat.le_of_ble_eq_true rfl) dX6_cell_2 ?_
  try dsimp only [wb, ModelM, List.set_cons_succ, List.set_cons_zero, List.append_nil, List.nil_append, List.cons_append, Option.toList, Nat.sub_zero, List.take_succ_cons, List.take_zero]
  refine v_iload_n (pc := 5) dX6_cell_5 rfl rfl ?_
  refine v_iload_n (pc := 6) dX6_cell_6 rfl rfl ?_
  refine v_callS2 (pc := 7) (c_X6_isCell ) cm_X6_isCell q856 q857 [] (by rfl) (by decide) (fun _ _ h => h) (by decide) (by decide) (by decide) (Nat.le_of_ble_eq_true rfl) dX6_cell_7 (fun v7 M7 hQ7 => ?_)
  obtain ⟨rfl, rfl⟩ := hQ7
  try dsimp only [wb, ModelM, List.set_cons_succ, List.set_cons_zero, List.append_nil, List.nil_append, List.cons_append, Option.toList, Nat.sub_zero, List.take_succ_cons, List.take_zero]
  refine v_if_eq (pc := 10) (tgt := 22) dX6_cell_10 (by decide) (fun c10 => ?_) (fun c10 => ?_)
  · have c10 := bI_0.mp c10
    refine v_aload_nR (pc := 22) dX6_cell_22 rfl rfl ?_
    refine v_iconst (pc := 23) (v := 1) dX6_cell_23 rfl ?_
    refine v_callV1 (pc := 24) (c_X6_fail hps hsc hbc) cm_X6_fail q862 q864 qs16 (ci := 6) rfl rfl (orcO 0 rfl) [0, 1, 2, 3, 4, 5, 6, 7, 8, 9, 10, 11] (by rfl) (by decide) (fun _ _ h => h) (by decide) (by decide) (by decide) (Nat.le_of_ble_eq_true rfl) dX6_cell_24 (fun v24 M24 hQ24 => ?_)
    obtain ⟨rfl, rfl⟩ := hQ24
    try dsimp only [wb, ModelM, List.set_cons_succ, List.set_cons_zero, List.append_nil, List.nil_append, List.cons_append, Option.toList, Nat.sub_zero, List.take_succ_cons, List.take_zero]
    refine v_iret (pc := 27) rfl rfl (Nat.le_of_ble_eq_true rfl) dX6_cell_27 ?_
    have e9 : (rCe T N S C PC SF ps sc x y q) = (1, 0) := by exact if_neg (fun h => c10 h.1)
    rw [e9]
    exact ⟨rfl, rfl⟩
  · have c10 := bI_n.mp c10
    refine v_iload_n (pc := 13) dX6_cell_13 rfl rfl ?_
    refine v_iconst (pc := 14) (v := 0) dX6_cell_14 rfl ?_
    refine v_iconst (pc := 15) (v := 5) dX6_cell_15 rfl ?_
    refine v_callS3 (pc := 16) (c_X6_isIn ) cm_X6_isIn q859 q860 [] (by rfl) (by decide) (fun _ _ h => h) (by decide) (by decide) (by decide) (Nat.le_of_ble_eq_true rfl) dX6_cell_16 (fun v16 M16 hQ16 => ?_)
    obtain ⟨rfl, rfl⟩ := hQ16
    try dsimp only [wb, ModelM, List.set_cons_succ, List.set_cons_zero, List.append_nil, List.nil_append, List.cons_append, Option.toList, Nat.sub_zero, List.take_succ_cons, List.take_zero]
    refine v_if_ne (pc := 19) (tgt := 28) dX6_cell_19 (by decide) (fun c19 => ?_) (fun c19 => ?_)
    · have c19 := bI_n.mp c19
      obtain ⟨a, b, ha, hb, rfl, rfl⟩ := onM_of c10
      have hk : a + 16 * b < 160 := by omega
      have hcN : cN (nI a + 16 * nI b) = a + 16 * b := by rw [kf_cell, cN_nI (by omega)]
      obtain ⟨e, he, rfl⟩ := le_nI 5 (by decide) c19
      refine v_iload_n (pc := 28) dX6_cell_28 rfl rfl ?_
      refine v_bipush (pc := 29) (v := 16) dX6_cell_29 rfl ?_
      refine v_iload_n (pc := 31) dX6_cell_31 rfl rfl ?_
      refine v_imul (pc := 32) dX6_cell_32 ?_
      refine v_iadd (pc := 33) dX6_cell_33 ?_
      rw [kf_cell]
      refine v_istore (pc := 34) dX6_cell_34 (by decide) rfl ?_
      refine v_bipush (pc := 36) (v := 6) dX6_cell_36 rfl ?_
      refine v_newa (pc := 38) (atype := .int) 0 (N := 6) (a0 := .inl (fun _ => 0)) q59 rfl (fun _ => rfl) (fun _ h => by cases h) (fun _ => rfl) (by decide) (by decide) (by decide) (by decide) (by decide) dX6_cell_38 (fun z38 => ?_)
      try dsimp only [wb, ModelM, List.set_cons_succ, List.set_cons_zero, List.append_nil, List.nil_append, List.cons_append, Option.toList, Nat.sub_zero, List.take_succ_cons, List.take_zero]
      refine v_dup (pc := 40) dX6_cell_40 rfl ?_
      refine v_iconst (pc := 41) (v := 0) dX6_cell_41 rfl ?_
      refine v_aload_nR (pc := 42) dX6_cell_42 rfl rfl ?_
      refine v_get (pc := 43) 7 0 fg_X6_19 rfl rfl dX6_cell_43 ?_
      refine v_iload (pc := 46) dX6_cell_46 rfl ?_
      refine v_ialdN (pc := 48) 4 (k := (a+16*b)) rfl (by omega) (by decide) dX6_cell_48 ?_
      refine v_iastN (pc := 49) 12 (k := 0) rfl (by omega) (by decide) dX6_cell_49 ?_
      try dsimp only [wb, ModelM, List.set_cons_succ, List.set_cons_zero, List.append_nil, List.nil_append, List.cons_append, Option.toList, Nat.sub_zero, List.take_succ_cons, List.take_zero]
      refine v_dup (pc := 50) dX6_cell_50 rfl ?_
      refine v_iconst (pc := 51) (v := 1) dX6_cell_51 rfl ?_
      refine v_aload_nR (pc := 52) dX6_cell_52 rfl rfl ?_
      refine v_get (pc := 53) 1 0 fg_X6_9 rfl rfl dX6_cell_53 ?_
      refine v_iload (pc := 56) dX6_cell_56 rfl ?_
      refine v_ialdN (pc := 58) 1 (k := (a+16*b)) rfl (by omega) (by decide) dX6_cell_58 ?_
      refine v_iastN (pc := 59) 12 (k := 1) rfl (by omega) (by decide) dX6_cell_59 ?_
      try dsimp only [wb, ModelM, List.set_cons_succ, List.set_cons_zero, List.append_nil, List.nil_append, List.cons_append, Option.toList, Nat.sub_zero, List.take_succ_cons, List.take_zero]
      refine v_dup (pc := 60) dX6_cell_60 rfl ?_
      refine v_iconst (pc := 61) (v := 2) dX6_cell_61 rfl ?_
      refine v_aload_nR (pc := 62) dX6_cell_62 rfl rfl ?_
      refine v_get (pc := 63) 8 0 fg_X6_22 rfl rfl dX6_cell_63 ?_
      refine v_iload (pc := 66) dX6_cell_66 rfl ?_
      refine v_ialdN (pc := 68) 5 (k := (a+16*b)) rfl (by omega) (by decide) dX6_cell_68 ?_
      refine v_iastN (pc := 69) 12 (k := 2) rfl (by omega) (by decide) dX6_cell_69 ?_
      try dsimp only [wb, ModelM, List.set_cons_succ, List.set_cons_zero, List.append_nil, List.nil_append, List.cons_append, Option.toList, Nat.sub_zero, List.take_succ_cons, List.take_zero]
      refine v_dup (pc := 70) dX6_cell_70 rfl ?_
      refine v_iconst (pc := 71) (v := 3) dX6_cell_71 rfl ?_
      refine v_aload_nR (pc := 72) dX6_cell_72 rfl rfl ?_
      refine v_get (pc := 73) 9 0 fg_X6_25 rfl rfl dX6_cell_73 ?_
      refine v_iload (pc := 76) dX6_cell_76 rfl ?_
      refine v_ialdN (pc := 78) 6 (k := (a+16*b)) rfl (by omega) (by decide) dX6_cell_78 ?_
      refine v_iastN (pc := 79) 12 (k := 3) rfl (by omega) (by decide) dX6_cell_79 ?_
      try dsimp only [wb, ModelM, List.set_cons_succ, List.set_cons_zero, List.append_nil, List.nil_append, List.cons_append, Option.toList, Nat.sub_zero, List.take_succ_cons, List.take_zero]
      refine v_dup (pc := 80) dX6_cell_80 rfl ?_
      refine v_iconst (pc := 81) (v := 4) dX6_cell_81 rfl ?_
      refine v_aload_nR (pc := 82) dX6_cell_82 rfl rfl ?_
      refine v_iload (pc := 83) dX6_cell_83 rfl ?_
      refine v_callV1 (pc := 85) (c_X6_postAt hps hsc hbc) cm_X6_postAt q866 q868 qs17 (ci := 6) rfl rfl (orcO 0 rfl) [0, 1, 2, 3, 4, 5, 6, 7, 8, 9, 10, 11] (by rfl) (by decide) (fun _ _ h => h) (by decide) (by decide) (by decide) (Nat.le_of_ble_eq_true rfl) dX6_cell_85 (fun v85 M85 hQ85 => ?_)
      obtain ⟨rfl, rfl⟩ := hQ85
      try dsimp only [wb, ModelM, List.set_cons_succ, List.set_cons_zero, List.append_nil, List.nil_append, List.cons_append, Option.toList, Nat.sub_zero, List.take_succ_cons, List.take_zero]
      refine v_iastN (pc := 88) 12 (k := 4) rfl (by omega) (by decide) dX6_cell_88 ?_
      try dsimp only [wb, ModelM, List.set_cons_succ, List.set_cons_zero, List.append_nil, List.nil_append, List.cons_append, Option.toList, Nat.sub_zero, List.take_succ_cons, List.take_zero]
      refine v_dup (pc := 89) dX6_cell_89 rfl ?_
      refine v_iconst (pc := 90) (v := 5) dX6_cell_90 rfl ?_
      refine v_aload_nR (pc := 91) dX6_cell_91 rfl rfl ?_
      refine v_iload (pc := 92) dX6_cell_92 rfl ?_
      refine v_callV1 (pc := 94) (c_X6_sleighsAt hps hsc hbc) cm_X6_sleighsAt q870 q872 qs18 (ci := 6) rfl rfl (orcO 0 rfl) [0, 1, 2, 3, 4, 5, 6, 7, 8, 9, 10, 11] (by rfl) (by decide) (fun _ _ h => h) (by decide) (by decide) (by decide) (Nat.le_of_ble_eq_true rfl) dX6_cell_94 (fun v94 M94 hQ94 => ?_)
      obtain ⟨rfl, rfl⟩ := hQ94
      try dsimp only [wb, ModelM, List.set_cons_succ, List.set_cons_zero, List.append_nil, List.nil_append, List.cons_append, Option.toList, Nat.sub_zero, List.take_succ_cons, List.take_zero]
      refine v_iastN (pc := 97) 12 (k := 5) rfl (by omega) (by decide) dX6_cell_97 ?_
      try dsimp only [wb, ModelM, List.set_cons_succ, List.set_cons_zero, List.append_nil, List.nil_append, List.cons_append, Option.toList, Nat.sub_zero, List.take_succ_cons, List.take_zero]
      refine v_astoreR (pc := 98) dX6_cell_98 (by decide) rfl ?_
      refine v_aloadR (pc := 100) dX6_cell_100 rfl ?_
      refine v_iload_n (pc := 102) dX6_cell_102 rfl rfl ?_
      refine v_ialdN (pc := 103) 12 (k := e) rfl (by omega) (by decide) dX6_cell_103 ?_
      refine v_take 12 ?_
      try dsimp only [wb, ModelM, List.set_cons_succ, List.set_cons_zero, List.append_nil, List.nil_append, List.cons_append, Option.toList, Nat.sub_zero, List.take_succ_cons, List.take_zero]
      refine v_iret (pc := 104) rfl rfl (Nat.le_of_ble_eq_true rfl) dX6_cell_104 ?_
      have e9 : (rCe T N S C PC SF ps sc (nI a) (nI b) (nI e)) = (0, tlC T N S C PC SF ps sc (a + 16 * b) e) := by unfold rCe; rw [if_pos ⟨c10, c19⟩, hcN, cN_nI (by omega)]
      rw [e9]
      exact ⟨by rw [← told_at hC he], rfl⟩
    · have c19 := bI_0.mp c19
      refine v_aload_nR (pc := 22) dX6_cell_22 rfl rfl ?_
      refine v_iconst (pc := 23) (v := 1) dX6_cell_23 rfl ?_
      refine v_callV1 (pc := 24) (c_X6_fail hps hsc hbc) cm_X6_fail q862 q864 qs16 (ci := 6) rfl rfl (orcO 0 rfl) [0, 1, 2, 3, 4, 5, 6, 7, 8, 9, 10, 11] (by rfl) (by decide) (fun _ _ h => h) (by decide) (by decide) (by decide) (Nat.le_of_ble_eq_true rfl) dX6_cell_24 (fun v24 M24 hQ24 => ?_)
      obtain ⟨rfl, rfl⟩ := hQ24
      try dsimp only [wb, ModelM, List.set_cons_succ, List.set_cons_zero, List.append_nil, List.nil_append, List.cons_append, Option.toList, Nat.sub_zero, List.take_succ_cons, List.take_zero]
      refine v_iret (pc := 27) rfl rfl (Nat.le_of_ble_eq_true rfl) dX6_cell_27 ?_
      have e9 : (rCe T N S C PC SF ps sc x y q) = (1, 0) := by exact if_neg (fun h => c19 h.2)
      rw [e9]
      exact ⟨rfl, rfl⟩
set_option maxRecDepth 100000 in
set_option maxHeartbeats 4000000 in
theorem c_X6_addPost {G : Cx} {z : Nat → Nat} {th : Int32} {N O PC T S C : Nat → Int32} {ps sc bc hh : Nat} {SF BF : Nat → Nat → Int32} {MX H W : Nat → Int32} (hps : ps ≤ 8) (hsc : sc ≤ 5) (hbc : bc ≤ 40) {x y ch : Int32} : Mt G Y_X6_addPost 7 0 0 [.ref (z 0), .int x, .int y] (ModelM z th N O PC ps sc bc T S C SF MX BF hh H W) (fun v M' => v = some (.int ((rAP T S C PC ps ch x y).2.1)) ∧ M' = ModelM z (rAP T S C PC ps ch x y).1 N O (rAP T S C PC ps ch x y).2.2.2.2.2.1 (rAP T S C PC ps ch x y).2.2.2.2.2.2.1 sc bc (rAP T S C PC ps ch x y).2.2.1 (rAP T S C PC ps ch x y).2.2.2.1 (rAP T S C PC ps ch x y).2.2.2.2.1 SF MX BF hh H W) noX := by
  refine Mt.of (L := [some (.ref (z 0)), some (.int x), some (.int y)]) rfl (by decide) (by simp [lg_sl, Value.category]) ⟨rfl, rfl, rfl, trivial⟩ (fun sz => ?_)
  refine v_aload_nR (pc := 0) dX6_addPost_0 rfl rfl ?_
  refine v_iconst (pc := 1) (v := 0) dX6_addPost_1 rfl ?_
  refine v_put (pc := 2) 0 0 fp_X6_addPost_44 rfl rfl rfl (Nat.le_of_ble_eq_true rfl) dX6_addPost_2 ?_
  try dsimp only [wb, ModelM, List.set_cons_succ, List.set_cons_zero, List.append_nil, List.nil_append, List.cons_append, Option.toList, Nat.sub_zero, List.take_succ_cons, List.take_zero]
  refine v_iload_n (pc := 5) dX6_addPost_5 rfl rfl ?_
  refine v_iload_n (pc := 6) dX6_addPost_6 rfl rfl ?_
  refine v_callS2 (pc := 7) (c_X6_isCell ) cm_X6_isCell q856 q857 [] (by rfl) (by decide) (fun _ _ h => h) (by decide) (by decide) (by decide) (Nat.le_of_ble_eq_true rfl) dX6_addPost_7 (fun v7 M7 hQ7 => ?_)
  obtain ⟨rfl, rfl⟩ := hQ7
  try dsimp only [wb, ModelM, List.set_cons_succ, List.set_cons_zero, List.append_nil, List.nil_append, List.cons_append, Option.toList, Nat.sub_zero, List.take_succ_cons, List.take_zero]
  refine v_if_ne (pc := 10) (tgt := 19) dX6_addPost_10 (by decide) (fun c10 => ?_) (fun c10 => ?_)
  · have c10 := bI_n.mp c10
    obtain ⟨a, b, ha, hb, rfl, rfl⟩ := onM_of c10
    have hk : a + 16 * b < 160 := by omega
    have hcN : cN (nI a + 16 * nI b) = a + 16 * b := by rw [kf_cell, cN_nI (by omega)]
    refine v_aload_nR (pc := 19) dX6_addPost_19 rfl rfl ?_
    refine v_get (pc := 20) 3 0 fg_X6_52 rfl rfl dX6_addPost_20 ?_
    refine v_bipush (pc := 23) (v := 8) dX6_addPost_23 rfl ?_
    refine v_icmp_eq (pc := 25) (tgt := 42) dX6_addPost_25 (by decide) (fun c25 => ?_) (fun c25 => ?_)
    · have c25 : ps = 8 := (nI_eq (a := ps) (b := 8) (by omega) (by omega)).mp c25
      refine v_aload_nR (pc := 42) dX6_addPost_42 rfl rfl ?_
      refine v_iconst (pc := 43) (v := 2) dX6_addPost_43 rfl ?_
      refine v_callV1 (pc := 44) (c_X6_fail hps hsc hbc) cm_X6_fail q862 q864 qs16 (ci := 6) rfl rfl (orcO 0 rfl) [0, 1, 2, 3, 4, 5, 6, 7, 8, 9, 10, 11] (by rfl) (by decide) (fun _ _ h => h) (by decide) (by decide) (by decide) (Nat.le_of_ble_eq_true rfl) dX6_addPost_44 (fun v44 M44 hQ44 => ?_)
      obtain ⟨rfl, rfl⟩ := hQ44
      try dsimp only [wb, ModelM, List.set_cons_succ, List.set_cons_zero, List.append_nil, List.nil_append, List.cons_append, Option.toList, Nat.sub_zero, List.take_succ_cons, List.take_zero]
      refine v_iret (pc := 47) rfl rfl (Nat.le_of_ble_eq_true rfl) dX6_addPost_47 ?_
      have e9 : (rAP T S C PC ps ch (nI a) (nI b)) = (2, 0, T, S, C, PC, ps, ch) := by unfold rAP; rw [if_pos c10, kf_cell, if_neg (fun h => absurd h.2 (by omega))]
      rw [e9]
      exact ⟨rfl, rfl⟩
    · have c25 : ¬ ps = 8 := fun h => c25 ((nI_eq (a := ps) (b := 8) (by omega) (by omega)).mpr h)
      refine v_aload_nR (pc := 28) dX6_addPost_28 rfl rfl ?_
      refine v_iload_n (pc := 29) dX6_addPost_29 rfl rfl ?_
      refine v_bipush (pc := 30) (v := 16) dX6_addPost_30 rfl ?_
      refine v_iload_n (pc := 32) dX6_addPost_32 rfl rfl ?_
      refine v_imul (pc := 33) dX6_addPost_33 ?_
      refine v_iadd (pc := 34) dX6_addPost_34 ?_
      rw [kf_cell]
      refine v_callV1 (pc := 35) (c_X6_postAt hps hsc hbc) cm_X6_postAt q866 q868 qs17 (ci := 6) rfl rfl (orcO 0 rfl) [0, 1, 2, 3, 4, 5, 6, 7, 8, 9, 10, 11] (by rfl) (by decide) (fun _ _ h => h) (by decide) (by decide) (by decide) (Nat.le_of_ble_eq_true rfl) dX6_addPost_35 (fun v35 M35 hQ35 => ?_)
      obtain ⟨rfl, rfl⟩ := hQ35
      try dsimp only [wb, ModelM, List.set_cons_succ, List.set_cons_zero, List.append_nil, List.nil_append, List.cons_append, Option.toList, Nat.sub_zero, List.take_succ_cons, List.take_zero]
      refine v_iconst (pc := 38) (v := -1) dX6_addPost_38 rfl ?_
      refine v_icmp_eq (pc := 39) (tgt := 48) dX6_addPost_39 (by decide) (fun c39 => ?_) (fun c39 => ?_)
      · refine v_aload_nR (pc := 48) dX6_addPost_48 rfl rfl ?_
        refine v_get (pc := 49) 4 0 fg_X6_16 rfl rfl dX6_addPost_49 ?_
        refine v_aload_nR (pc := 52) dX6_addPost_52 rfl rfl ?_
        refine v_get (pc := 53) 3 0 fg_X6_52 rfl rfl dX6_addPost_53 ?_
        refine v_iload_n (pc := 56) dX6_addPost_56 rfl rfl ?_
        refine v_bipush (pc := 57) (v := 16) dX6_addPost_57 rfl ?_
        refine v_iload_n (pc := 59) dX6_addPost_59 rfl rfl ?_
        refine v_imul (pc := 60) dX6_addPost_60 ?_
        refine v_iadd (pc := 61) dX6_addPost_61 ?_
        rw [kf_cell]
        refine v_iastN (pc := 62) 3 (k := ps) rfl (by omega) (by decide) dX6_addPost_62 ?_
        try dsimp only [wb, ModelM, List.set_cons_succ, List.set_cons_zero, List.append_nil, List.nil_append, List.cons_append, Option.toList, Nat.sub_zero, List.take_succ_cons, List.take_zero]
        refine v_aload_nR (pc := 63) dX6_addPost_63 rfl rfl ?_
        refine v_aload_nR (pc := 64) dX6_addPost_64 rfl rfl ?_
        refine v_get (pc := 65) 4 0 fg_X6_16 rfl rfl dX6_addPost_65 ?_
        refine v_aload_nR (pc := 68) dX6_addPost_68 rfl rfl ?_
        refine v_get (pc := 69) 3 0 fg_X6_52 rfl rfl dX6_addPost_69 ?_
        refine v_ialdN (pc := 72) 3 (k := ps) rfl (by omega) (by decide) dX6_addPost_72 ?_
        rw [pk_us]
        refine v_iconst (pc := 73) (v := -1) dX6_addPost_73 rfl ?_
        refine v_callV2 (pc := 74) (c_X6_make hps hsc hbc hk) cm_X6_make q878 q880 qs20 (ci := 6) rfl rfl (orcO 0 rfl) [0, 1, 2, 3, 4, 5, 6, 7, 8, 9, 10, 11] (by rfl) (by decide) (fun _ _ h => h) (by decide) (by decide) (by decide) (Nat.le_of_ble_eq_true rfl) dX6_addPost_74 (fun v74 M74 hQ74 => ?_)
        obtain ⟨rfl, rfl⟩ := hQ74
        try dsimp only [wb, ModelM, List.set_cons_succ, List.set_cons_zero, List.append_nil, List.nil_append, List.cons_append, Option.toList, Nat.sub_zero, List.take_succ_cons, List.take_zero]
        refine v_aload_nR (pc := 77) dX6_addPost_77 rfl rfl ?_
        refine v_dup (pc := 78) dX6_addPost_78 rfl ?_
        refine v_get (pc := 79) 3 0 fg_X6_52 rfl rfl dX6_addPost_79 ?_
        refine v_iconst (pc := 82) (v := 1) dX6_addPost_82 rfl ?_
        refine v_iadd (pc := 83) dX6_addPost_83 ?_
        rw [nI_1]
        refine v_put (pc := 84) 3 0 fp_X6_addPost_52 rfl rfl rfl (Nat.le_of_ble_eq_true rfl) dX6_addPost_84 ?_
        try dsimp only [wb, ModelM, List.set_cons_succ, List.set_cons_zero, List.append_nil, List.nil_append, List.cons_append, Option.toList, Nat.sub_zero, List.take_succ_cons, List.take_zero]
        refine v_aload_nR (pc := 87) dX6_addPost_87 rfl rfl ?_
        refine v_get (pc := 88) 3 0 fg_X6_52 rfl rfl dX6_addPost_88 ?_
        refine v_iconst (pc := 91) (v := 1) dX6_addPost_91 rfl ?_
        refine v_isub (pc := 92) dX6_addPost_92 ?_
        rw [nI_p1]
        refine v_iret (pc := 93) rfl rfl (Nat.le_of_ble_eq_true rfl) dX6_addPost_93 ?_
        have e9 : (rAP T S C PC ps ch (nI a) (nI b)) = (0, nI ps, upd T (a + 16 * b) (-1), upd S (a + 16 * b) 0, upd C (a + 16 * b) 0, upd PC ps (nI (a + 16 * b)), ps + 1, ch + 1) := by unfold rAP; rw [if_pos c10, hcN, kf_cell, if_pos ⟨pOn_none.mp c39, by omega⟩]
        rw [e9]
        exact ⟨rfl, rfl⟩
      · refine v_aload_nR (pc := 42) dX6_addPost_42 rfl rfl ?_
        refine v_iconst (pc := 43) (v := 2) dX6_addPost_43 rfl ?_
        refine v_callV1 (pc := 44) (c_X6_fail hps hsc hbc) cm_X6_fail q862 q864 qs16 (ci := 6) rfl rfl (orcO 0 rfl) [0, 1, 2, 3, 4, 5, 6, 7, 8, 9, 10, 11] (by rfl) (by decide) (fun _ _ h => h) (by decide) (by decide) (by decide) (Nat.le_of_ble_eq_true rfl) dX6_addPost_44 (fun v44 M44 hQ44 => ?_)
        obtain ⟨rfl, rfl⟩ := hQ44
        try dsimp only [wb, ModelM, List.set_cons_succ, List.set_cons_zero, List.append_nil, List.nil_append, List.cons_append, Option.toList, Nat.sub_zero, List.take_succ_cons, List.take_zero]
        refine v_iret (pc := 47) rfl rfl (Nat.le_of_ble_eq_true rfl) dX6_addPost_47 ?_
        have e9 : (rAP T S C PC ps ch (nI a) (nI b)) = (2, 0, T, S, C, PC, ps, ch) := by unfold rAP; rw [if_pos c10, kf_cell, if_neg (fun h => c39 (pOn_none.mpr h.1))]
        rw [e9]
        exact ⟨rfl, rfl⟩
  · have c10 := bI_0.mp c10
    refine v_aload_nR (pc := 13) dX6_addPost_13 rfl rfl ?_
    refine v_iconst (pc := 14) (v := 1) dX6_addPost_14 rfl ?_
    refine v_callV1 (pc := 15) (c_X6_fail hps hsc hbc) cm_X6_fail q862 q864 qs16 (ci := 6) rfl rfl (orcO 0 rfl) [0, 1, 2, 3, 4, 5, 6, 7, 8, 9, 10, 11] (by rfl) (by decide) (fun _ _ h => h) (by decide) (by decide) (by decide) (Nat.le_of_ble_eq_true rfl) dX6_addPost_15 (fun v15 M15 hQ15 => ?_)
    obtain ⟨rfl, rfl⟩ := hQ15
    try dsimp only [wb, ModelM, List.set_cons_succ, List.set_cons_zero, List.append_nil, List.nil_append, List.cons_append, Option.toList, Nat.sub_zero, List.take_succ_cons, List.take_zero]
    refine v_iret (pc := 18) rfl rfl (Nat.le_of_ble_eq_true rfl) dX6_addPost_18 ?_
    have e9 : (rAP T S C PC ps ch x y) = (1, 0, T, S, C, PC, ps, ch) := by exact if_neg c10
    rw [e9]
    exact ⟨rfl, rfl⟩
theorem tbl_add {SF : Nat → Nat → Int32} {MX : Nat → Int32} {n : Nat} {r c q : Int32} (h2 : SF n 2 = 0) (h7 : SF n 7 = 0) : ∀ j, j < 35 → va_cpy (upd (upd (upd (upd (upd (upd (upd (fun _ => 0) 0 r) 1 0) 2 0) 3 c) 4 q) 5 (-1)) 6 0) (tblM SF MX) 0 (7 * n) 7 j = tblM (begS SF n q c r) (upd MX n (-1)) j := by
  intro j hj
  by_cases hin : 7 * n ≤ j ∧ j < 7 * n + 7
  · rw [pk_cpy_in hin.1 hin.2, Nat.zero_add]
    obtain ⟨k, hk, rfl⟩ : ∃ k, k < 7 ∧ j = 7 * n + k := ⟨j - 7 * n, by omega, by omega⟩
    rw [Nat.add_sub_cancel_left, tblM_get hk]
    rcases (show k = 0 ∨ k = 1 ∨ k = 2 ∨ k = 3 ∨ k = 4 ∨ k = 5 ∨ k = 6 by omega) with rfl | rfl | rfl | rfl | rfl | rfl | rfl
    · show r = begS SF n q c r n 0
      unfold begS
      rw [upS_n _ _ (by omega), upS_n _ _ (by omega), upS_n _ _ (by omega), upS_n _ _ (by omega), upS_s]
    · show 0 = begS SF n q c r n 2
      unfold begS
      rw [upS_n _ _ (by omega), upS_n _ _ (by omega), upS_n _ _ (by omega), upS_n _ _ (by omega), upS_n _ _ (by omega), h2]
    · show 0 = begS SF n q c r n 3
      unfold begS
      rw [upS_n _ _ (by omega), upS_n _ _ (by omega), upS_n _ _ (by omega), upS_s]
    · show c = begS SF n q c r n 4
      unfold begS
      rw [upS_n _ _ (by omega), upS_n _ _ (by omega), upS_s]
    · show q = begS SF n q c r n 5
      unfold begS
      rw [upS_n _ _ (by omega), upS_s]
    · show -1 = upd MX n (-1) n
      rw [pk_us]
    · show 0 = begS SF n q c r n 7
      unfold begS
      rw [upS_n _ _ (by omega), upS_n _ _ (by omega), upS_n _ _ (by omega), upS_n _ _ (by omega), upS_n _ _ (by omega), h7]
  · rw [pk_cpy_out (by omega)]
    have hne : ¬ j / 7 = n := by omega
    unfold tblM
    by_cases h5 : j % 7 = 5
    · rw [if_pos h5, if_pos h5, pk_un hne]
    · rw [if_neg h5, if_neg h5]
      unfold begS
      rw [upS_n _ _ (fun x => hne x.1), upS_n _ _ (fun x => hne x.1), upS_n _ _ (fun x => hne x.1), upS_n _ _ (fun x => hne x.1), upS_n _ _ (fun x => hne x.1)]
theorem mal_add {BF : Nat → Nat → Int32} {n : Nat} {a b c : Int32} : ∀ j, j < 200 → va_cpy (upd (upd (upd (upd (upd (fun _ => 0) 0 c) 1 b) 2 0) 3 a) 4 (-1)) (malM BF) 0 (5 * n) 5 j = malM (begB BF n a b c) j := by
  intro j hj
  by_cases hin : 5 * n ≤ j ∧ j < 5 * n + 5
  · rw [pk_cpy_in hin.1 hin.2, Nat.zero_add]
    obtain ⟨k, hk, rfl⟩ : ∃ k, k < 5 ∧ j = 5 * n + k := ⟨j - 5 * n, by omega, by omega⟩
    rw [Nat.add_sub_cancel_left, malM_get hk]
    unfold begB
    rcases (show k = 0 ∨ k = 1 ∨ k = 2 ∨ k = 3 ∨ k = 4 by omega) with rfl | rfl | rfl | rfl | rfl
    · rw [upS_n _ _ (by omega), upS_n _ _ (by omega), upS_n _ _ (by omega), upS_n _ _ (by omega), upS_s]; rfl
    · rw [upS_n _ _ (by omega), upS_n _ _ (by omega), upS_n _ _ (by omega), upS_s]; rfl
    · rw [upS_n _ _ (by omega), upS_n _ _ (by omega), upS_s]; rfl
    · rw [upS_n _ _ (by omega), upS_s]; rfl
    · rw [upS_s]; rfl
  · rw [pk_cpy_out (by omega)]
    have hne : ¬ j / 5 = n := by omega
    unfold malM begB
    rw [upS_n _ _ (fun x => hne x.1), upS_n _ _ (fun x => hne x.1), upS_n _ _ (fun x => hne x.1), upS_n _ _ (fun x => hne x.1), upS_n _ _ (fun x => hne x.1)]
theorem clamp7 : (7 : Int32).toNatClampNeg = 7 := by decide
theorem clamp5 : (5 : Int32).toNatClampNeg = 5 := by decide
theorem k7 (n : Nat) : (7 : Int32) * nI n = nI (7 * n) := pk_mul 7 n
theorem k5 (n : Nat) : (5 : Int32) * nI n = nI (5 * n) := pk_mul 5 n
set_option maxRecDepth 100000 in
set_option maxHeartbeats 4000000 in
theorem c_X6_addSleigh {G : Cx} {z : Nat → Nat} {th : Int32} {N O PC T S C : Nat → Int32} {ps sc bc hh : Nat} {SF BF : Nat → Nat → Int32} {MX H W : Nat → Int32} (hps : ps ≤ 8) (hsc : sc ≤ 5) (hbc : bc ≤ 40) {q r : Int32} (hz : sc < 5 → SF sc 2 = 0 ∧ SF sc 7 = 0) : Mt G Y_X6_addSleigh 7 1 7 [.ref (z 0), .int q, .int r] (ModelM z th N O PC ps sc bc T S C SF MX BF hh H W) (fun v M' => v = some (.int (rAS PC SF ps sc q r).2.1) ∧ ∃ MX', M' = ModelM z (rAS PC SF ps sc q r).1 N O PC ps (rAS PC SF ps sc q r).2.2.2 bc T S C (rAS PC SF ps sc q r).2.2.1 MX' BF hh H W ∧ (∀ i, ¬ i = sc → MX' i = MX i)) noX := by
  refine Mt.of (L := [some (.ref (z 0)), some (.int q), some (.int r), none]) rfl (by decide) (by simp [lg_sl, Value.category]) ⟨rfl, rfl, rfl, trivial⟩ (fun sz => ?_)
  refine v_aload_nR (pc := 0) dX6_addSleigh_0 rfl rfl ?_
  refine v_iconst (pc := 1) (v := 0) dX6_addSleigh_1 rfl ?_
  refine v_put (pc := 2) 0 0 fp_X6_addSleigh_44 rfl rfl rfl (Nat.le_of_ble_eq_true rfl) dX6_addSleigh_2 ?_
  try dsimp only [wb, ModelM, List.set_cons_succ, List.set_cons_zero, List.append_nil, List.nil_append, List.cons_append, Option.toList, Nat.sub_zero, List.take_succ_cons, List.take_zero]
  refine v_aload_nR (pc := 5) dX6_addSleigh_5 rfl rfl ?_
  refine v_iload_n (pc := 6) dX6_addSleigh_6 rfl rfl ?_
  refine v_callV1 (pc := 7) (c_X6_isPost hps hsc hbc) cm_X6_isPost q902 q904 qs21 (ci := 6) rfl rfl (orcO 0 rfl) [0, 1, 2, 3, 4, 5, 6, 7, 8, 9, 10, 11] (by rfl) (by decide) (fun _ _ h => h) (by decide) (by decide) (by decide) (Nat.le_of_ble_eq_true rfl) dX6_addSleigh_7 (fun v7 M7 hQ7 => ?_)
  obtain ⟨rfl, rfl⟩ := hQ7
  try dsimp only [wb, ModelM, List.set_cons_succ, List.set_cons_zero, List.append_nil, List.nil_append, List.cons_append, Option.toList, Nat.sub_zero, List.take_succ_cons, List.take_zero]
  refine v_if_ne (pc := 10) (tgt := 19) dX6_addSleigh_10 (by decide) (fun c10 => ?_) (fun c10 => ?_)
  · have c10 := bI_n.mp c10
    refine v_iload_n (pc := 19) dX6_addSleigh_19 rfl rfl ?_
    refine v_iconst (pc := 20) (v := 1) dX6_addSleigh_20 rfl ?_
    refine v_bipush (pc := 21) (v := 6) dX6_addSleigh_21 rfl ?_
    refine v_callS3 (pc := 23) (c_X6_isIn ) cm_X6_isIn q859 q860 [] (by rfl) (by decide) (fun _ _ h => h) (by decide) (by decide) (by decide) (Nat.le_of_ble_eq_true rfl) dX6_addSleigh_23 (fun v23 M23 hQ23 => ?_)
    obtain ⟨rfl, rfl⟩ := hQ23
    try dsimp only [wb, ModelM, List.set_cons_succ, List.set_cons_zero, List.append_nil, List.nil_append, List.cons_append, Option.toList, Nat.sub_zero, List.take_succ_cons, List.take_zero]
    refine v_if_ne (pc := 26) (tgt := 35) dX6_addSleigh_26 (by decide) (fun c26 => ?_) (fun c26 => ?_)
    · have c26 := bI_n.mp c26
      refine v_aload_nR (pc := 35) dX6_addSleigh_35 rfl rfl ?_
      refine v_get (pc := 36) 5 0 fg_X6_55 rfl rfl dX6_addSleigh_36 ?_
      refine v_iconst (pc := 39) (v := 5) dX6_addSleigh_39 rfl ?_
      refine v_icmp_ne (pc := 40) (tgt := 49) dX6_addSleigh_40 (by decide) (fun c40 => ?_) (fun c40 => ?_)
      · have c40 : ¬ sc = 5 := fun h => c40 ((nI_eq (a := sc) (b := 5) (by omega) (by omega)).mpr h)
        have hsl : sc < 5 := by omega
        obtain ⟨a, ha, rfl⟩ := kOf c10 (by omega)
        refine v_bipush (pc := 49) (v := 7) dX6_addSleigh_49 rfl ?_
        refine v_newa (pc := 51) (atype := .int) 0 (N := 7) (a0 := .inl (fun _ => 0)) q59 rfl (fun _ => rfl) (fun _ h => by cases h) (fun _ => rfl) (by decide) (by decide) (by decide) (by decide) (by decide) dX6_addSleigh_51 (fun z51 => ?_)
        try dsimp only [wb, ModelM, List.set_cons_succ, List.set_cons_zero, List.append_nil, List.nil_append, List.cons_append, Option.toList, Nat.sub_zero, List.take_succ_cons, List.take_zero]
        refine v_dup (pc := 53) dX6_addSleigh_53 rfl ?_
        refine v_iconst (pc := 54) (v := 0) dX6_addSleigh_54 rfl ?_
        refine v_iload_n (pc := 55) dX6_addSleigh_55 rfl rfl ?_
        refine v_iastN (pc := 56) 12 (k := 0) rfl (by omega) (by decide) dX6_addSleigh_56 ?_
        try dsimp only [wb, ModelM, List.set_cons_succ, List.set_cons_zero, List.append_nil, List.nil_append, List.cons_append, Option.toList, Nat.sub_zero, List.take_succ_cons, List.take_zero]
        refine v_dup (pc := 57) dX6_addSleigh_57 rfl ?_
        refine v_iconst (pc := 58) (v := 1) dX6_addSleigh_58 rfl ?_
        refine v_iconst (pc := 59) (v := 0) dX6_addSleigh_59 rfl ?_
        refine v_iastN (pc := 60) 12 (k := 1) rfl (by omega) (by decide) dX6_addSleigh_60 ?_
        try dsimp only [wb, ModelM, List.set_cons_succ, List.set_cons_zero, List.append_nil, List.nil_append, List.cons_append, Option.toList, Nat.sub_zero, List.take_succ_cons, List.take_zero]
        refine v_dup (pc := 61) dX6_addSleigh_61 rfl ?_
        refine v_iconst (pc := 62) (v := 2) dX6_addSleigh_62 rfl ?_
        refine v_iconst (pc := 63) (v := 0) dX6_addSleigh_63 rfl ?_
        refine v_iastN (pc := 64) 12 (k := 2) rfl (by omega) (by decide) dX6_addSleigh_64 ?_
        try dsimp only [wb, ModelM, List.set_cons_succ, List.set_cons_zero, List.append_nil, List.nil_append, List.cons_append, Option.toList, Nat.sub_zero, List.take_succ_cons, List.take_zero]
        refine v_dup (pc := 65) dX6_addSleigh_65 rfl ?_
        refine v_iconst (pc := 66) (v := 3) dX6_addSleigh_66 rfl ?_
        refine v_aload_nR (pc := 67) dX6_addSleigh_67 rfl rfl ?_
        refine v_get (pc := 68) 4 0 fg_X6_16 rfl rfl dX6_addSleigh_68 ?_
        refine v_iload_n (pc := 71) dX6_addSleigh_71 rfl rfl ?_
        refine v_ialdN (pc := 72) 3 (k := a) rfl (by omega) (by decide) dX6_addSleigh_72 ?_
        refine v_iastN (pc := 73) 12 (k := 3) rfl (by omega) (by decide) dX6_addSleigh_73 ?_
        try dsimp only [wb, ModelM, List.set_cons_succ, List.set_cons_zero, List.append_nil, List.nil_append, List.cons_append, Option.toList, Nat.sub_zero, List.take_succ_cons, List.take_zero]
        refine v_dup (pc := 74) dX6_addSleigh_74 rfl ?_
        refine v_iconst (pc := 75) (v := 4) dX6_addSleigh_75 rfl ?_
        refine v_iload_n (pc := 76) dX6_addSleigh_76 rfl rfl ?_
        refine v_iastN (pc := 77) 12 (k := 4) rfl (by omega) (by decide) dX6_addSleigh_77 ?_
        try dsimp only [wb, ModelM, List.set_cons_succ, List.set_cons_zero, List.append_nil, List.nil_append, List.cons_append, Option.toList, Nat.sub_zero, List.take_succ_cons, List.take_zero]
        refine v_dup (pc := 78) dX6_addSleigh_78 rfl ?_
        refine v_iconst (pc := 79) (v := 5) dX6_addSleigh_79 rfl ?_
        refine v_iconst (pc := 80) (v := -1) dX6_addSleigh_80 rfl ?_
        refine v_iastN (pc := 81) 12 (k := 5) rfl (by omega) (by decide) dX6_addSleigh_81 ?_
        try dsimp only [wb, ModelM, List.set_cons_succ, List.set_cons_zero, List.append_nil, List.nil_append, List.cons_append, Option.toList, Nat.sub_zero, List.take_succ_cons, List.take_zero]
        refine v_dup (pc := 82) dX6_addSleigh_82 rfl ?_
        refine v_bipush (pc := 83) (v := 6) dX6_addSleigh_83 rfl ?_
        refine v_iconst (pc := 85) (v := 0) dX6_addSleigh_85 rfl ?_
        refine v_iastN (pc := 86) 12 (k := 6) rfl (by omega) (by decide) dX6_addSleigh_86 ?_
        try dsimp only [wb, ModelM, List.set_cons_succ, List.set_cons_zero, List.append_nil, List.nil_append, List.cons_append, Option.toList, Nat.sub_zero, List.take_succ_cons, List.take_zero]
        refine v_astore_nR (pc := 87) dX6_addSleigh_87 rfl (by decide) rfl ?_
        refine v_aload_nR (pc := 88) dX6_addSleigh_88 rfl rfl ?_
        refine v_iconst (pc := 89) (v := 0) dX6_addSleigh_89 rfl ?_
        refine v_aload_nR (pc := 90) dX6_addSleigh_90 rfl rfl ?_
        refine v_get (pc := 91) 10 0 fg_X6_28 rfl rfl dX6_addSleigh_91 ?_
        refine v_bipush (pc := 94) (v := 7) dX6_addSleigh_94 rfl ?_
        refine v_aload_nR (pc := 96) dX6_addSleigh_96 rfl rfl ?_
        refine v_get (pc := 97) 5 0 fg_X6_55 rfl rfl dX6_addSleigh_97 ?_
        refine v_imul (pc := 100) dX6_addSleigh_100 ?_
        rw [k7]
        refine v_bipush (pc := 101) (v := 7) dX6_addSleigh_101 rfl ?_
        refine v_copyi (pc := 103) 12 7 rfl rfl q906 q782 q781 q15 (by decide) (by exact nI_pos (by omega)) (by decide) (by decide) (by rw [nI_clamp (by omega), clamp7]; omega) (by decide) (Nat.le_of_ble_eq_true rfl) dX6_addSleigh_103 ?_
        simp only [clamp0, clamp7]
        rw [nI_clamp (by omega)]
        refine v_cgI 7 (g := tblM (begS SF sc (nI a) (PC a) r) (upd MX sc (-1))) rfl (tbl_add (hz hsl).1 (hz hsl).2) ?_
        try dsimp only [wb, ModelM, List.set_cons_succ, List.set_cons_zero, List.append_nil, List.nil_append, List.cons_append, Option.toList, Nat.sub_zero, List.take_succ_cons, List.take_zero]
        refine v_aload_nR (pc := 106) dX6_addSleigh_106 rfl rfl ?_
        refine v_dup (pc := 107) dX6_addSleigh_107 rfl ?_
        refine v_get (pc := 108) 5 0 fg_X6_55 rfl rfl dX6_addSleigh_108 ?_
        refine v_iconst (pc := 111) (v := 1) dX6_addSleigh_111 rfl ?_
        refine v_iadd (pc := 112) dX6_addSleigh_112 ?_
        rw [nI_1]
        refine v_put (pc := 113) 5 0 fp_X6_addSleigh_55 rfl rfl rfl (Nat.le_of_ble_eq_true rfl) dX6_addSleigh_113 ?_
        try dsimp only [wb, ModelM, List.set_cons_succ, List.set_cons_zero, List.append_nil, List.nil_append, List.cons_append, Option.toList, Nat.sub_zero, List.take_succ_cons, List.take_zero]
        refine v_aload_nR (pc := 116) dX6_addSleigh_116 rfl rfl ?_
        refine v_get (pc := 117) 5 0 fg_X6_55 rfl rfl dX6_addSleigh_117 ?_
        refine v_iconst (pc := 120) (v := 1) dX6_addSleigh_120 rfl ?_
        refine v_isub (pc := 121) dX6_addSleigh_121 ?_
        rw [nI_p1]
        refine v_take 12 ?_
        try dsimp only [wb, ModelM, List.set_cons_succ, List.set_cons_zero, List.append_nil, List.nil_append, List.cons_append, Option.toList, Nat.sub_zero, List.take_succ_cons, List.take_zero]
        refine v_iret (pc := 122) rfl rfl (Nat.le_of_ble_eq_true rfl) dX6_addSleigh_122 ?_
        have e9 : (rAS PC SF ps sc (nI a) r) = (0, nI sc, begS SF sc (nI a) (PC a) r, sc + 1) := by unfold rAS; rw [if_pos c10, if_pos c26, if_pos hsl, cop_k ha hps]
        rw [e9]
        exact ⟨rfl, upd MX sc (-1), rfl, fun i hi => pk_un hi⟩
      · have c40 : sc = 5 := (nI_eq (a := sc) (b := 5) (by omega) (by omega)).mp c40
        refine v_aload_nR (pc := 43) dX6_addSleigh_43 rfl rfl ?_
        refine v_iconst (pc := 44) (v := 3) dX6_addSleigh_44 rfl ?_
        refine v_callV1 (pc := 45) (c_X6_fail hps hsc hbc) cm_X6_fail q862 q864 qs16 (ci := 6) rfl rfl (orcO 0 rfl) [0, 1, 2, 3, 4, 5, 6, 7, 8, 9, 10, 11] (by rfl) (by decide) (fun _ _ h => h) (by decide) (by decide) (by decide) (Nat.le_of_ble_eq_true rfl) dX6_addSleigh_45 (fun v45 M45 hQ45 => ?_)
        obtain ⟨rfl, rfl⟩ := hQ45
        try dsimp only [wb, ModelM, List.set_cons_succ, List.set_cons_zero, List.append_nil, List.nil_append, List.cons_append, Option.toList, Nat.sub_zero, List.take_succ_cons, List.take_zero]
        refine v_iret (pc := 48) rfl rfl (Nat.le_of_ble_eq_true rfl) dX6_addSleigh_48 ?_
        have e9 : (rAS PC SF ps sc q r) = (3, 0, SF, sc) := by exact (if_pos c10).trans ((if_pos c26).trans (if_neg (by omega)))
        rw [e9]
        exact ⟨rfl, MX, rfl, fun _ _ => rfl⟩
    · have c26 := bI_0.mp c26
      refine v_aload_nR (pc := 29) dX6_addSleigh_29 rfl rfl ?_
      refine v_iconst (pc := 30) (v := 2) dX6_addSleigh_30 rfl ?_
      refine v_callV1 (pc := 31) (c_X6_fail hps hsc hbc) cm_X6_fail q862 q864 qs16 (ci := 6) rfl rfl (orcO 0 rfl) [0, 1, 2, 3, 4, 5, 6, 7, 8, 9, 10, 11] (by rfl) (by decide) (fun _ _ h => h) (by decide) (by decide) (by decide) (Nat.le_of_ble_eq_true rfl) dX6_addSleigh_31 (fun v31 M31 hQ31 => ?_)
      obtain ⟨rfl, rfl⟩ := hQ31
      try dsimp only [wb, ModelM, List.set_cons_succ, List.set_cons_zero, List.append_nil, List.nil_append, List.cons_append, Option.toList, Nat.sub_zero, List.take_succ_cons, List.take_zero]
      refine v_iret (pc := 34) rfl rfl (Nat.le_of_ble_eq_true rfl) dX6_addSleigh_34 ?_
      have e9 : (rAS PC SF ps sc q r) = (2, 0, SF, sc) := by exact (if_pos c10).trans (if_neg c26)
      rw [e9]
      exact ⟨rfl, MX, rfl, fun _ _ => rfl⟩
  · have c10 := bI_0.mp c10
    refine v_aload_nR (pc := 13) dX6_addSleigh_13 rfl rfl ?_
    refine v_iconst (pc := 14) (v := 1) dX6_addSleigh_14 rfl ?_
    refine v_callV1 (pc := 15) (c_X6_fail hps hsc hbc) cm_X6_fail q862 q864 qs16 (ci := 6) rfl rfl (orcO 0 rfl) [0, 1, 2, 3, 4, 5, 6, 7, 8, 9, 10, 11] (by rfl) (by decide) (fun _ _ h => h) (by decide) (by decide) (by decide) (Nat.le_of_ble_eq_true rfl) dX6_addSleigh_15 (fun v15 M15 hQ15 => ?_)
    obtain ⟨rfl, rfl⟩ := hQ15
    try dsimp only [wb, ModelM, List.set_cons_succ, List.set_cons_zero, List.append_nil, List.nil_append, List.cons_append, Option.toList, Nat.sub_zero, List.take_succ_cons, List.take_zero]
    refine v_iret (pc := 18) rfl rfl (Nat.le_of_ble_eq_true rfl) dX6_addSleigh_18 ?_
    have e9 : (rAS PC SF ps sc q r) = (1, 0, SF, sc) := by exact if_neg c10
    rw [e9]
    exact ⟨rfl, MX, rfl, fun _ _ => rfl⟩
set_option maxRecDepth 100000 in
set_option maxHeartbeats 4000000 in
theorem c_X6_addBag {G : Cx} {z : Nat → Nat} {th : Int32} {N O PC T S C : Nat → Int32} {ps sc bc hh : Nat} {SF BF : Nat → Nat → Int32} {MX H W : Nat → Int32} (hps : ps ≤ 8) (hsc : sc ≤ 5) (hbc : bc ≤ 40) {a1 b1 c1 : Int32} : Mt G Y_X6_addBag 7 1 5 [.ref (z 0), .int a1, .int b1, .int c1] (ModelM z th N O PC ps sc bc T S C SF MX BF hh H W) (fun v M' => v = some (.int ((rAB BF ps bc a1 b1 c1).2.1)) ∧ M' = ModelM z (rAB BF ps bc a1 b1 c1).1 N O PC ps sc (rAB BF ps bc a1 b1 c1).2.2.2 T S C SF MX (rAB BF ps bc a1 b1 c1).2.2.1 hh H W) noX := by
  refine Mt.of (L := [some (.ref (z 0)), some (.int a1), some (.int b1), some (.int c1), none]) rfl (by decide) (by simp [lg_sl, Value.category]) ⟨rfl, rfl, rfl, rfl, trivial⟩ (fun sz => ?_)
  refine v_aload_nR (pc := 0) dX6_addBag_0 rfl rfl ?_
  refine v_iconst (pc := 1) (v := 0) dX6_addBag_1 rfl ?_
  refine v_put (pc := 2) 0 0 fp_X6_addBag_44 rfl rfl rfl (Nat.le_of_ble_eq_true rfl) dX6_addBag_2 ?_
  try dsimp only [wb, ModelM, List.set_cons_succ, List.set_cons_zero, List.append_nil, List.nil_append, List.cons_append, Option.toList, Nat.sub_zero, List.take_succ_cons, List.take_zero]
  refine v_aload_nR (pc := 5) dX6_addBag_5 rfl rfl ?_
  refine v_iload_n (pc := 6) dX6_addBag_6 rfl rfl ?_
  refine v_callV1 (pc := 7) (c_X6_isPost hps hsc hbc) cm_X6_isPost q902 q904 qs21 (ci := 6) rfl rfl (orcO 0 rfl) [0, 1, 2, 3, 4, 5, 6, 7, 8, 9, 10, 11] (by rfl) (by decide) (fun _ _ h => h) (by decide) (by decide) (by decide) (Nat.le_of_ble_eq_true rfl) dX6_addBag_7 (fun v7 M7 hQ7 => ?_)
  obtain ⟨rfl, rfl⟩ := hQ7
  try dsimp only [wb, ModelM, List.set_cons_succ, List.set_cons_zero, List.append_nil, List.nil_append, List.cons_append, Option.toList, Nat.sub_zero, List.take_succ_cons, List.take_zero]
  refine v_if_eq (pc := 10) (tgt := 21) dX6_addBag_10 (by decide) (fun c10 => ?_) (fun c10 => ?_)
  · have c10 := bI_0.mp c10
    refine v_aload_nR (pc := 21) dX6_addBag_21 rfl rfl ?_
    refine v_iconst (pc := 22) (v := 1) dX6_addBag_22 rfl ?_
    refine v_callV1 (pc := 23) (c_X6_fail hps hsc hbc) cm_X6_fail q862 q864 qs16 (ci := 6) rfl rfl (orcO 0 rfl) [0, 1, 2, 3, 4, 5, 6, 7, 8, 9, 10, 11] (by rfl) (by decide) (fun _ _ h => h) (by decide) (by decide) (by decide) (Nat.le_of_ble_eq_true rfl) dX6_addBag_23 (fun v23 M23 hQ23 => ?_)
    obtain ⟨rfl, rfl⟩ := hQ23
    try dsimp only [wb, ModelM, List.set_cons_succ, List.set_cons_zero, List.append_nil, List.nil_append, List.cons_append, Option.toList, Nat.sub_zero, List.take_succ_cons, List.take_zero]
    refine v_iret (pc := 26) rfl rfl (Nat.le_of_ble_eq_true rfl) dX6_addBag_26 ?_
    have e9 : (rAB BF ps bc a1 b1 c1) = (1, 0, BF, bc) := by exact if_neg (fun h => c10 h.1)
    rw [e9]
    exact ⟨rfl, rfl⟩
  · have c10 := bI_n.mp c10
    refine v_aload_nR (pc := 13) dX6_addBag_13 rfl rfl ?_
    refine v_iload_n (pc := 14) dX6_addBag_14 rfl rfl ?_
    refine v_callV1 (pc := 15) (c_X6_isPost hps hsc hbc) cm_X6_isPost q902 q904 qs21 (ci := 6) rfl rfl (orcO 0 rfl) [0, 1, 2, 3, 4, 5, 6, 7, 8, 9, 10, 11] (by rfl) (by decide) (fun _ _ h => h) (by decide) (by decide) (by decide) (Nat.le_of_ble_eq_true rfl) dX6_addBag_15 (fun v15 M15 hQ15 => ?_)
    obtain ⟨rfl, rfl⟩ := hQ15
    try dsimp only [wb, ModelM, List.set_cons_succ, List.set_cons_zero, List.append_nil, List.nil_append, List.cons_append, Option.toList, Nat.sub_zero, List.take_succ_cons, List.take_zero]
    refine v_if_ne (pc := 18) (tgt := 27) dX6_addBag_18 (by decide) (fun c18 => ?_) (fun c18 => ?_)
    · have c18 := bI_n.mp c18
      refine v_iload_n (pc := 27) dX6_addBag_27 rfl rfl ?_
      refine v_iload_n (pc := 28) dX6_addBag_28 rfl rfl ?_
      refine v_icmp_eq (pc := 29) (tgt := 42) dX6_addBag_29 (by decide) (fun c29 => ?_) (fun c29 => ?_)
      · refine v_aload_nR (pc := 42) dX6_addBag_42 rfl rfl ?_
        refine v_iconst (pc := 43) (v := 2) dX6_addBag_43 rfl ?_
        refine v_callV1 (pc := 44) (c_X6_fail hps hsc hbc) cm_X6_fail q862 q864 qs16 (ci := 6) rfl rfl (orcO 0 rfl) [0, 1, 2, 3, 4, 5, 6, 7, 8, 9, 10, 11] (by rfl) (by decide) (fun _ _ h => h) (by decide) (by decide) (by decide) (Nat.le_of_ble_eq_true rfl) dX6_addBag_44 (fun v44 M44 hQ44 => ?_)
        obtain ⟨rfl, rfl⟩ := hQ44
        try dsimp only [wb, ModelM, List.set_cons_succ, List.set_cons_zero, List.append_nil, List.nil_append, List.cons_append, Option.toList, Nat.sub_zero, List.take_succ_cons, List.take_zero]
        refine v_iret (pc := 47) rfl rfl (Nat.le_of_ble_eq_true rfl) dX6_addBag_47 ?_
        have e9 : (rAB BF ps bc a1 b1 c1) = (2, 0, BF, bc) := by exact (if_pos ⟨c10, c18⟩).trans (if_neg (fun h => h.1 c29))
        rw [e9]
        exact ⟨rfl, rfl⟩
      · refine v_iload_n (pc := 32) dX6_addBag_32 rfl rfl ?_
        refine v_iconst (pc := 33) (v := 1) dX6_addBag_33 rfl ?_
        refine v_bipush (pc := 34) (v := 30) dX6_addBag_34 rfl ?_
        refine v_callS3 (pc := 36) (c_X6_isIn ) cm_X6_isIn q859 q860 [] (by rfl) (by decide) (fun _ _ h => h) (by decide) (by decide) (by decide) (Nat.le_of_ble_eq_true rfl) dX6_addBag_36 (fun v36 M36 hQ36 => ?_)
        obtain ⟨rfl, rfl⟩ := hQ36
        try dsimp only [wb, ModelM, List.set_cons_succ, List.set_cons_zero, List.append_nil, List.nil_append, List.cons_append, Option.toList, Nat.sub_zero, List.take_succ_cons, List.take_zero]
        refine v_if_ne (pc := 39) (tgt := 48) dX6_addBag_39 (by decide) (fun c39 => ?_) (fun c39 => ?_)
        · have c39 := bI_n.mp c39
          refine v_aload_nR (pc := 48) dX6_addBag_48 rfl rfl ?_
          refine v_get (pc := 49) 6 0 fg_X6_90 rfl rfl dX6_addBag_49 ?_
          refine v_bipush (pc := 52) (v := 40) dX6_addBag_52 rfl ?_
          refine v_icmp_ne (pc := 54) (tgt := 63) dX6_addBag_54 (by decide) (fun c54 => ?_) (fun c54 => ?_)
          · have c54 : ¬ bc = 40 := fun h => c54 ((nI_eq (a := bc) (b := 40) (by omega) (by omega)).mpr h)
            have hbl : bc < 40 := by omega
            refine v_iconst (pc := 63) (v := 5) dX6_addBag_63 rfl ?_
            refine v_newa (pc := 64) (atype := .int) 0 (N := 5) (a0 := .inl (fun _ => 0)) q59 rfl (fun _ => rfl) (fun _ h => by cases h) (fun _ => rfl) (by decide) (by decide) (by decide) (by decide) (by decide) dX6_addBag_64 (fun z64 => ?_)
            try dsimp only [wb, ModelM, List.set_cons_succ, List.set_cons_zero, List.append_nil, List.nil_append, List.cons_append, Option.toList, Nat.sub_zero, List.take_succ_cons, List.take_zero]
            refine v_dup (pc := 66) dX6_addBag_66 rfl ?_
            refine v_iconst (pc := 67) (v := 0) dX6_addBag_67 rfl ?_
            refine v_iload_n (pc := 68) dX6_addBag_68 rfl rfl ?_
            refine v_iastN (pc := 69) 12 (k := 0) rfl (by omega) (by decide) dX6_addBag_69 ?_
            try dsimp only [wb, ModelM, List.set_cons_succ, List.set_cons_zero, List.append_nil, List.nil_append, List.cons_append, Option.toList, Nat.sub_zero, List.take_succ_cons, List.take_zero]
            refine v_dup (pc := 70) dX6_addBag_70 rfl ?_
            refine v_iconst (pc := 71) (v := 1) dX6_addBag_71 rfl ?_
            refine v_iload_n (pc := 72) dX6_addBag_72 rfl rfl ?_
            refine v_iastN (pc := 73) 12 (k := 1) rfl (by omega) (by decide) dX6_addBag_73 ?_
            try dsimp only [wb, ModelM, List.set_cons_succ, List.set_cons_zero, List.append_nil, List.nil_append, List.cons_append, Option.toList, Nat.sub_zero, List.take_succ_cons, List.take_zero]
            refine v_dup (pc := 74) dX6_addBag_74 rfl ?_
            refine v_iconst (pc := 75) (v := 2) dX6_addBag_75 rfl ?_
            refine v_iconst (pc := 76) (v := 0) dX6_addBag_76 rfl ?_
            refine v_iastN (pc := 77) 12 (k := 2) rfl (by omega) (by decide) dX6_addBag_77 ?_
            try dsimp only [wb, ModelM, List.set_cons_succ, List.set_cons_zero, List.append_nil, List.nil_append, List.cons_append, Option.toList, Nat.sub_zero, List.take_succ_cons, List.take_zero]
            refine v_dup (pc := 78) dX6_addBag_78 rfl ?_
            refine v_iconst (pc := 79) (v := 3) dX6_addBag_79 rfl ?_
            refine v_iload_n (pc := 80) dX6_addBag_80 rfl rfl ?_
            refine v_iastN (pc := 81) 12 (k := 3) rfl (by omega) (by decide) dX6_addBag_81 ?_
            try dsimp only [wb, ModelM, List.set_cons_succ, List.set_cons_zero, List.append_nil, List.nil_append, List.cons_append, Option.toList, Nat.sub_zero, List.take_succ_cons, List.take_zero]
            refine v_dup (pc := 82) dX6_addBag_82 rfl ?_
            refine v_iconst (pc := 83) (v := 4) dX6_addBag_83 rfl ?_
            refine v_iconst (pc := 84) (v := -1) dX6_addBag_84 rfl ?_
            refine v_iastN (pc := 85) 12 (k := 4) rfl (by omega) (by decide) dX6_addBag_85 ?_
            try dsimp only [wb, ModelM, List.set_cons_succ, List.set_cons_zero, List.append_nil, List.nil_append, List.cons_append, Option.toList, Nat.sub_zero, List.take_succ_cons, List.take_zero]
            refine v_astoreR (pc := 86) dX6_addBag_86 (by decide) rfl ?_
            refine v_aloadR (pc := 88) dX6_addBag_88 rfl ?_
            refine v_iconst (pc := 90) (v := 0) dX6_addBag_90 rfl ?_
            refine v_aload_nR (pc := 91) dX6_addBag_91 rfl rfl ?_
            refine v_get (pc := 92) 11 0 fg_X6_31 rfl rfl dX6_addBag_92 ?_
            refine v_iconst (pc := 95) (v := 5) dX6_addBag_95 rfl ?_
            refine v_aload_nR (pc := 96) dX6_addBag_96 rfl rfl ?_
            refine v_get (pc := 97) 6 0 fg_X6_90 rfl rfl dX6_addBag_97 ?_
            refine v_imul (pc := 100) dX6_addBag_100 ?_
            rw [k5]
            refine v_iconst (pc := 101) (v := 5) dX6_addBag_101 rfl ?_
            refine v_copyi (pc := 102) 12 8 rfl rfl q906 q782 q781 q15 (by decide) (by exact nI_pos (by omega)) (by decide) (by decide) (by rw [nI_clamp (by omega), clamp5]; omega) (by decide) (Nat.le_of_ble_eq_true rfl) dX6_addBag_102 ?_
            simp only [clamp0, clamp5]
            rw [nI_clamp (by omega)]
            refine v_cgI 8 (g := malM (begB BF bc a1 b1 c1)) rfl mal_add ?_
            try dsimp only [wb, ModelM, List.set_cons_succ, List.set_cons_zero, List.append_nil, List.nil_append, List.cons_append, Option.toList, Nat.sub_zero, List.take_succ_cons, List.take_zero]
            refine v_aload_nR (pc := 105) dX6_addBag_105 rfl rfl ?_
            refine v_dup (pc := 106) dX6_addBag_106 rfl ?_
            refine v_get (pc := 107) 6 0 fg_X6_90 rfl rfl dX6_addBag_107 ?_
            refine v_iconst (pc := 110) (v := 1) dX6_addBag_110 rfl ?_
            refine v_iadd (pc := 111) dX6_addBag_111 ?_
            rw [nI_1]
            refine v_put (pc := 112) 6 0 fp_X6_addBag_90 rfl rfl rfl (Nat.le_of_ble_eq_true rfl) dX6_addBag_112 ?_
            try dsimp only [wb, ModelM, List.set_cons_succ, List.set_cons_zero, List.append_nil, List.nil_append, List.cons_append, Option.toList, Nat.sub_zero, List.take_succ_cons, List.take_zero]
            refine v_aload_nR (pc := 115) dX6_addBag_115 rfl rfl ?_
            refine v_get (pc := 116) 6 0 fg_X6_90 rfl rfl dX6_addBag_116 ?_
            refine v_iconst (pc := 119) (v := 1) dX6_addBag_119 rfl ?_
            refine v_isub (pc := 120) dX6_addBag_120 ?_
            rw [nI_p1]
            refine v_take 12 ?_
            try dsimp only [wb, ModelM, List.set_cons_succ, List.set_cons_zero, List.append_nil, List.nil_append, List.cons_append, Option.toList, Nat.sub_zero, List.take_succ_cons, List.take_zero]
            refine v_iret (pc := 121) rfl rfl (Nat.le_of_ble_eq_true rfl) dX6_addBag_121 ?_
            have e9 : (rAB BF ps bc a1 b1 c1) = (0, nI bc, begB BF bc a1 b1 c1, bc + 1) := by exact (if_pos ⟨c10, c18⟩).trans ((if_pos ⟨c29, c39⟩).trans (if_pos hbl))
            rw [e9]
            exact ⟨rfl, rfl⟩
          · have c54 : bc = 40 := (nI_eq (a := bc) (b := 40) (by omega) (by omega)).mp c54
            refine v_aload_nR (pc := 57) dX6_addBag_57 rfl rfl ?_
            refine v_iconst (pc := 58) (v := 3) dX6_addBag_58 rfl ?_
            refine v_callV1 (pc := 59) (c_X6_fail hps hsc hbc) cm_X6_fail q862 q864 qs16 (ci := 6) rfl rfl (orcO 0 rfl) [0, 1, 2, 3, 4, 5, 6, 7, 8, 9, 10, 11] (by rfl) (by decide) (fun _ _ h => h) (by decide) (by decide) (by decide) (Nat.le_of_ble_eq_true rfl) dX6_addBag_59 (fun v59 M59 hQ59 => ?_)
            obtain ⟨rfl, rfl⟩ := hQ59
            try dsimp only [wb, ModelM, List.set_cons_succ, List.set_cons_zero, List.append_nil, List.nil_append, List.cons_append, Option.toList, Nat.sub_zero, List.take_succ_cons, List.take_zero]
            refine v_iret (pc := 62) rfl rfl (Nat.le_of_ble_eq_true rfl) dX6_addBag_62 ?_
            have e9 : (rAB BF ps bc a1 b1 c1) = (3, 0, BF, bc) := by exact (if_pos ⟨c10, c18⟩).trans ((if_pos ⟨c29, c39⟩).trans (if_neg (by omega)))
            rw [e9]
            exact ⟨rfl, rfl⟩
        · have c39 := bI_0.mp c39
          refine v_aload_nR (pc := 42) dX6_addBag_42 rfl rfl ?_
          refine v_iconst (pc := 43) (v := 2) dX6_addBag_43 rfl ?_
          refine v_callV1 (pc := 44) (c_X6_fail hps hsc hbc) cm_X6_fail q862 q864 qs16 (ci := 6) rfl rfl (orcO 0 rfl) [0, 1, 2, 3, 4, 5, 6, 7, 8, 9, 10, 11] (by rfl) (by decide) (fun _ _ h => h) (by decide) (by decide) (by decide) (Nat.le_of_ble_eq_true rfl) dX6_addBag_44 (fun v44 M44 hQ44 => ?_)
          obtain ⟨rfl, rfl⟩ := hQ44
          try dsimp only [wb, ModelM, List.set_cons_succ, List.set_cons_zero, List.append_nil, List.nil_append, List.cons_append, Option.toList, Nat.sub_zero, List.take_succ_cons, List.take_zero]
          refine v_iret (pc := 47) rfl rfl (Nat.le_of_ble_eq_true rfl) dX6_addBag_47 ?_
          have e9 : (rAB BF ps bc a1 b1 c1) = (2, 0, BF, bc) := by exact (if_pos ⟨c10, c18⟩).trans (if_neg (fun h => c39 h.2))
          rw [e9]
          exact ⟨rfl, rfl⟩
    · have c18 := bI_0.mp c18
      refine v_aload_nR (pc := 21) dX6_addBag_21 rfl rfl ?_
      refine v_iconst (pc := 22) (v := 1) dX6_addBag_22 rfl ?_
      refine v_callV1 (pc := 23) (c_X6_fail hps hsc hbc) cm_X6_fail q862 q864 qs16 (ci := 6) rfl rfl (orcO 0 rfl) [0, 1, 2, 3, 4, 5, 6, 7, 8, 9, 10, 11] (by rfl) (by decide) (fun _ _ h => h) (by decide) (by decide) (by decide) (Nat.le_of_ble_eq_true rfl) dX6_addBag_23 (fun v23 M23 hQ23 => ?_)
      obtain ⟨rfl, rfl⟩ := hQ23
      try dsimp only [wb, ModelM, List.set_cons_succ, List.set_cons_zero, List.append_nil, List.nil_append, List.cons_append, Option.toList, Nat.sub_zero, List.take_succ_cons, List.take_zero]
      refine v_iret (pc := 26) rfl rfl (Nat.le_of_ble_eq_true rfl) dX6_addBag_26 ?_
      have e9 : (rAB BF ps bc a1 b1 c1) = (1, 0, BF, bc) := by exact if_neg (fun h => c18 h.2)
      rw [e9]
      exact ⟨rfl, rfl⟩
set_option maxRecDepth 100000 in
set_option maxHeartbeats 4000000 in
theorem c_X6_count {G : Cx} {z : Nat → Nat} {th : Int32} {N O PC T S C : Nat → Int32} {ps sc bc hh : Nat} {SF BF : Nat → Nat → Int32} {MX H W : Nat → Int32} (hps : ps ≤ 8) (hsc : sc ≤ 5) (hbc : bc ≤ 40) {q : Int32} (hT : tOK T) (hL : lOK T C) (hC : cOK C) : Mt G Y_X6_count 7 0 0 [.ref (z 0), .int q] (ModelM z th N O PC ps sc bc T S C SF MX BF hh H W) (fun v M' => v = some (.int ((rCn T C SF BF ps sc bc hh q).2)) ∧ M' = ModelM z (rCn T C SF BF ps sc bc hh q).1 N O PC ps sc bc T S C SF MX BF hh H W) noX := by
  refine Mt.of (L := [some (.ref (z 0)), some (.int q)]) rfl (by decide) (by simp [lg_sl, Value.category]) ⟨rfl, rfl, trivial⟩ (fun sz => ?_)
  refine v_aload_nR (pc := 0) dX6_count_0 rfl rfl ?_
  refine v_iconst (pc := 1) (v := 0) dX6_count_1 rfl ?_
  refine v_put (pc := 2) 0 0 fp_X6_count_44 rfl rfl rfl (Nat.le_of_ble_eq_true rfl) dX6_count_2 ?_
  try dsimp only [wb, ModelM, List.set_cons_succ, List.set_cons_zero, List.append_nil, List.nil_append, List.cons_append, Option.toList, Nat.sub_zero, List.take_succ_cons, List.take_zero]
  refine v_iload_n (pc := 5) dX6_count_5 rfl rfl ?_
  refine v_iconst (pc := 6) (v := 0) dX6_count_6 rfl ?_
  refine v_bipush (pc := 7) (v := 8) dX6_count_7 rfl ?_
  refine v_callS3 (pc := 9) (c_X6_isIn ) cm_X6_isIn q859 q860 [] (by rfl) (by decide) (fun _ _ h => h) (by decide) (by decide) (by decide) (Nat.le_of_ble_eq_true rfl) dX6_count_9 (fun v9 M9 hQ9 => ?_)
  obtain ⟨rfl, rfl⟩ := hQ9
  try dsimp only [wb, ModelM, List.set_cons_succ, List.set_cons_zero, List.append_nil, List.nil_append, List.cons_append, Option.toList, Nat.sub_zero, List.take_succ_cons, List.take_zero]
  refine v_if_eq (pc := 12) (tgt := 23) dX6_count_12 (by decide) (fun c12 => ?_) (fun c12 => ?_)
  · have c12 := bI_0.mp c12
    refine v_aload_nR (pc := 23) dX6_count_23 rfl rfl ?_
    refine v_iconst (pc := 24) (v := 1) dX6_count_24 rfl ?_
    refine v_callV1 (pc := 25) (c_X6_fail hps hsc hbc) cm_X6_fail q862 q864 qs16 (ci := 6) rfl rfl (orcO 0 rfl) [0, 1, 2, 3, 4, 5, 6, 7, 8, 9, 10, 11] (by rfl) (by decide) (fun _ _ h => h) (by decide) (by decide) (by decide) (Nat.le_of_ble_eq_true rfl) dX6_count_25 (fun v25 M25 hQ25 => ?_)
    obtain ⟨rfl, rfl⟩ := hQ25
    try dsimp only [wb, ModelM, List.set_cons_succ, List.set_cons_zero, List.append_nil, List.nil_append, List.cons_append, Option.toList, Nat.sub_zero, List.take_succ_cons, List.take_zero]
    refine v_iret (pc := 28) rfl rfl (Nat.le_of_ble_eq_true rfl) dX6_count_28 ?_
    have e9 : (rCn T C SF BF ps sc bc hh q) = (1, 0) := by exact if_neg c12
    rw [e9]
    exact ⟨rfl, rfl⟩
  · have c12 := bI_n.mp c12
    obtain ⟨a, ha, rfl⟩ := le_nI 8 (by decide) c12
    refine v_aload_nR (pc := 15) dX6_count_15 rfl rfl ?_
    refine v_iload_n (pc := 16) dX6_count_16 rfl rfl ?_
    refine v_callV1 (pc := 17) (c_X6_counted hps hsc hbc (by omega) hT hL hC) cm_X6_counted q1013 q1015 qs40 (ci := 6) rfl rfl (orcO 0 rfl) [0, 1, 2, 3, 4, 5, 6, 7, 8, 9, 10, 11] (by rfl) (by decide) (fun _ _ h => h) (by decide) (by decide) (by decide) (Nat.le_of_ble_eq_true rfl) dX6_count_17 (fun v17 M17 hQ17 => ?_)
    obtain ⟨rfl, rfl⟩ := hQ17
    try dsimp only [wb, ModelM, List.set_cons_succ, List.set_cons_zero, List.append_nil, List.nil_append, List.cons_append, Option.toList, Nat.sub_zero, List.take_succ_cons, List.take_zero]
    refine v_goto (pc := 20) (tgt := 28) dX6_count_20 (by decide) ?_
    refine v_iret (pc := 28) rfl rfl (Nat.le_of_ble_eq_true rfl) dX6_count_28 ?_
    have e9 : (rCn T C SF BF ps sc bc hh (nI a)) = (0, tlN T C SF BF ps sc bc hh a) := by unfold rCn; rw [if_pos c12, cN_nI (by omega)]
    rw [e9]
    exact ⟨rfl, rfl⟩
set_option maxRecDepth 100000 in
set_option maxHeartbeats 4000000 in
theorem c_X6_sleigh {G : Cx} {z : Nat → Nat} {th : Int32} {N O PC T S C : Nat → Int32} {ps sc bc hh : Nat} {SF BF : Nat → Nat → Int32} {MX H W : Nat → Int32} (hps : ps ≤ 8) (hsc : sc ≤ 5) (hbc : bc ≤ 40) {s q : Int32} (hw : hWI SF BF bc) : Mt G Y_X6_sleigh 7 0 0 [.ref (z 0), .int s, .int q] (ModelM z th N O PC ps sc bc T S C SF MX BF hh H W) (fun v M' => v = some (.int ((rSl SF BF sc bc s q).2)) ∧ M' = ModelM z (rSl SF BF sc bc s q).1 N O PC ps sc bc T S C SF MX BF hh H W) noX := by
  refine Mt.of (L := [some (.ref (z 0)), some (.int s), some (.int q)]) rfl (by decide) (by simp [lg_sl, Value.category]) ⟨rfl, rfl, rfl, trivial⟩ (fun sz => ?_)
  refine v_aload_nR (pc := 0) dX6_sleigh_0 rfl rfl ?_
  refine v_iconst (pc := 1) (v := 0) dX6_sleigh_1 rfl ?_
  refine v_put (pc := 2) 0 0 fp_X6_sleigh_44 rfl rfl rfl (Nat.le_of_ble_eq_true rfl) dX6_sleigh_2 ?_
  try dsimp only [wb, ModelM, List.set_cons_succ, List.set_cons_zero, List.append_nil, List.nil_append, List.cons_append, Option.toList, Nat.sub_zero, List.take_succ_cons, List.take_zero]
  refine v_aload_nR (pc := 5) dX6_sleigh_5 rfl rfl ?_
  refine v_iload_n (pc := 6) dX6_sleigh_6 rfl rfl ?_
  refine v_callV1 (pc := 7) (c_X6_isSleigh hps hsc hbc) cm_X6_isSleigh q915 q917 qs22 (ci := 6) rfl rfl (orcO 0 rfl) [0, 1, 2, 3, 4, 5, 6, 7, 8, 9, 10, 11] (by rfl) (by decide) (fun _ _ h => h) (by decide) (by decide) (by decide) (Nat.le_of_ble_eq_true rfl) dX6_sleigh_7 (fun v7 M7 hQ7 => ?_)
  obtain ⟨rfl, rfl⟩ := hQ7
  try dsimp only [wb, ModelM, List.set_cons_succ, List.set_cons_zero, List.append_nil, List.nil_append, List.cons_append, Option.toList, Nat.sub_zero, List.take_succ_cons, List.take_zero]
  refine v_if_eq (pc := 10) (tgt := 32) dX6_sleigh_10 (by decide) (fun c10 => ?_) (fun c10 => ?_)
  · have c10 := bI_0.mp c10
    refine v_aload_nR (pc := 32) dX6_sleigh_32 rfl rfl ?_
    refine v_iconst (pc := 33) (v := 1) dX6_sleigh_33 rfl ?_
    refine v_callV1 (pc := 34) (c_X6_fail hps hsc hbc) cm_X6_fail q862 q864 qs16 (ci := 6) rfl rfl (orcO 0 rfl) [0, 1, 2, 3, 4, 5, 6, 7, 8, 9, 10, 11] (by rfl) (by decide) (fun _ _ h => h) (by decide) (by decide) (by decide) (Nat.le_of_ble_eq_true rfl) dX6_sleigh_34 (fun v34 M34 hQ34 => ?_)
    obtain ⟨rfl, rfl⟩ := hQ34
    try dsimp only [wb, ModelM, List.set_cons_succ, List.set_cons_zero, List.append_nil, List.nil_append, List.cons_append, Option.toList, Nat.sub_zero, List.take_succ_cons, List.take_zero]
    refine v_iret (pc := 37) rfl rfl (Nat.le_of_ble_eq_true rfl) dX6_sleigh_37 ?_
    have e9 : (rSl SF BF sc bc s q) = (1, 0) := by exact if_neg (fun h => c10 h.1)
    rw [e9]
    exact ⟨rfl, rfl⟩
  · have c10 := bI_n.mp c10
    refine v_iload_n (pc := 13) dX6_sleigh_13 rfl rfl ?_
    refine v_iconst (pc := 14) (v := 0) dX6_sleigh_14 rfl ?_
    refine v_bipush (pc := 15) (v := 8) dX6_sleigh_15 rfl ?_
    refine v_callS3 (pc := 17) (c_X6_isIn ) cm_X6_isIn q859 q860 [] (by rfl) (by decide) (fun _ _ h => h) (by decide) (by decide) (by decide) (Nat.le_of_ble_eq_true rfl) dX6_sleigh_17 (fun v17 M17 hQ17 => ?_)
    obtain ⟨rfl, rfl⟩ := hQ17
    try dsimp only [wb, ModelM, List.set_cons_succ, List.set_cons_zero, List.append_nil, List.nil_append, List.cons_append, Option.toList, Nat.sub_zero, List.take_succ_cons, List.take_zero]
    refine v_if_eq (pc := 20) (tgt := 32) dX6_sleigh_20 (by decide) (fun c20 => ?_) (fun c20 => ?_)
    · have c20 := bI_0.mp c20
      refine v_aload_nR (pc := 32) dX6_sleigh_32 rfl rfl ?_
      refine v_iconst (pc := 33) (v := 1) dX6_sleigh_33 rfl ?_
      refine v_callV1 (pc := 34) (c_X6_fail hps hsc hbc) cm_X6_fail q862 q864 qs16 (ci := 6) rfl rfl (orcO 0 rfl) [0, 1, 2, 3, 4, 5, 6, 7, 8, 9, 10, 11] (by rfl) (by decide) (fun _ _ h => h) (by decide) (by decide) (by decide) (Nat.le_of_ble_eq_true rfl) dX6_sleigh_34 (fun v34 M34 hQ34 => ?_)
      obtain ⟨rfl, rfl⟩ := hQ34
      try dsimp only [wb, ModelM, List.set_cons_succ, List.set_cons_zero, List.append_nil, List.nil_append, List.cons_append, Option.toList, Nat.sub_zero, List.take_succ_cons, List.take_zero]
      refine v_iret (pc := 37) rfl rfl (Nat.le_of_ble_eq_true rfl) dX6_sleigh_37 ?_
      have e9 : (rSl SF BF sc bc s q) = (1, 0) := by exact if_neg (fun h => c20 h.2)
      rw [e9]
      exact ⟨rfl, rfl⟩
    · have c20 := bI_n.mp c20
      obtain ⟨i, hi, rfl⟩ := kOf c10 (by omega)
      obtain ⟨a, ha, rfl⟩ := le_nI 8 (by decide) c20
      refine v_aload_nR (pc := 23) dX6_sleigh_23 rfl rfl ?_
      refine v_iload_n (pc := 24) dX6_sleigh_24 rfl rfl ?_
      refine v_iload_n (pc := 25) dX6_sleigh_25 rfl rfl ?_
      refine v_callV2 (pc := 26) (c_X6_sleighTold hps hsc hbc (by omega) (by omega) (hw i (by omega))) cm_X6_sleighTold q971 q973 qs33 (ci := 6) rfl rfl (orcO 0 rfl) [0, 1, 2, 3, 4, 5, 6, 7, 8, 9, 10, 11] (by rfl) (by decide) (fun _ _ h => h) (by decide) (by decide) (by decide) (Nat.le_of_ble_eq_true rfl) dX6_sleigh_26 (fun v26 M26 hQ26 => ?_)
      obtain ⟨rfl, rfl⟩ := hQ26
      try dsimp only [wb, ModelM, List.set_cons_succ, List.set_cons_zero, List.append_nil, List.nil_append, List.cons_append, Option.toList, Nat.sub_zero, List.take_succ_cons, List.take_zero]
      refine v_goto (pc := 29) (tgt := 37) dX6_sleigh_29 (by decide) ?_
      refine v_iret (pc := 37) rfl rfl (Nat.le_of_ble_eq_true rfl) dX6_sleigh_37 ?_
      have e9 : (rSl SF BF sc bc (nI i) (nI a)) = (0, tlS SF BF bc i a) := by unfold rSl; rw [if_pos ⟨c10, c20⟩, cN_nI (by omega), cN_nI (by omega)]
      rw [e9]
      exact ⟨rfl, rfl⟩
set_option maxRecDepth 100000 in
set_option maxHeartbeats 4000000 in
theorem c_X6_bag {G : Cx} {z : Nat → Nat} {th : Int32} {N O PC T S C : Nat → Int32} {ps sc bc hh : Nat} {SF BF : Nat → Nat → Int32} {MX H W : Nat → Int32} (hps : ps ≤ 8) (hsc : sc ≤ 5) (hbc : bc ≤ 40) {s q : Int32} : Mt G Y_X6_bag 7 0 0 [.ref (z 0), .int s, .int q] (ModelM z th N O PC ps sc bc T S C SF MX BF hh H W) (fun v M' => v = some (.int ((rBg BF bc s q).2)) ∧ M' = ModelM z (rBg BF bc s q).1 N O PC ps sc bc T S C SF MX BF hh H W) noX := by
  refine Mt.of (L := [some (.ref (z 0)), some (.int s), some (.int q)]) rfl (by decide) (by simp [lg_sl, Value.category]) ⟨rfl, rfl, rfl, trivial⟩ (fun sz => ?_)
  refine v_aload_nR (pc := 0) dX6_bag_0 rfl rfl ?_
  refine v_iconst (pc := 1) (v := 0) dX6_bag_1 rfl ?_
  refine v_put (pc := 2) 0 0 fp_X6_bag_44 rfl rfl rfl (Nat.le_of_ble_eq_true rfl) dX6_bag_2 ?_
  try dsimp only [wb, ModelM, List.set_cons_succ, List.set_cons_zero, List.append_nil, List.nil_append, List.cons_append, Option.toList, Nat.sub_zero, List.take_succ_cons, List.take_zero]
  refine v_iload_n (pc := 5) dX6_bag_5 rfl rfl ?_
  refine v_iconst (pc := 6) (v := 0) dX6_bag_6 rfl ?_
  refine v_aload_nR (pc := 7) dX6_bag_7 rfl rfl ?_
  refine v_get (pc := 8) 6 0 fg_X6_90 rfl rfl dX6_bag_8 ?_
  refine v_iconst (pc := 11) (v := 1) dX6_bag_11 rfl ?_
  refine v_isub (pc := 12) dX6_bag_12 ?_
  refine v_callS3 (pc := 13) (c_X6_isIn ) cm_X6_isIn q859 q860 [] (by rfl) (by decide) (fun _ _ h => h) (by decide) (by decide) (by decide) (Nat.le_of_ble_eq_true rfl) dX6_bag_13 (fun v13 M13 hQ13 => ?_)
  obtain ⟨rfl, rfl⟩ := hQ13
  try dsimp only [wb, ModelM, List.set_cons_succ, List.set_cons_zero, List.append_nil, List.nil_append, List.cons_append, Option.toList, Nat.sub_zero, List.take_succ_cons, List.take_zero]
  refine v_if_eq (pc := 16) (tgt := 37) dX6_bag_16 (by decide) (fun c16 => ?_) (fun c16 => ?_)
  · have c16 := bI_0.mp c16
    refine v_aload_nR (pc := 37) dX6_bag_37 rfl rfl ?_
    refine v_iconst (pc := 38) (v := 1) dX6_bag_38 rfl ?_
    refine v_callV1 (pc := 39) (c_X6_fail hps hsc hbc) cm_X6_fail q862 q864 qs16 (ci := 6) rfl rfl (orcO 0 rfl) [0, 1, 2, 3, 4, 5, 6, 7, 8, 9, 10, 11] (by rfl) (by decide) (fun _ _ h => h) (by decide) (by decide) (by decide) (Nat.le_of_ble_eq_true rfl) dX6_bag_39 (fun v39 M39 hQ39 => ?_)
    obtain ⟨rfl, rfl⟩ := hQ39
    try dsimp only [wb, ModelM, List.set_cons_succ, List.set_cons_zero, List.append_nil, List.nil_append, List.cons_append, Option.toList, Nat.sub_zero, List.take_succ_cons, List.take_zero]
    refine v_iret (pc := 42) rfl rfl (Nat.le_of_ble_eq_true rfl) dX6_bag_42 ?_
    have e9 : (rBg BF bc s q) = (1, 0) := by exact if_neg (fun h => c16 ((isp_iff (by omega)).mpr h.1))
    rw [e9]
    exact ⟨rfl, rfl⟩
  · have c16 := bI_n.mp c16
    refine v_iload_n (pc := 19) dX6_bag_19 rfl rfl ?_
    refine v_iconst (pc := 20) (v := 0) dX6_bag_20 rfl ?_
    refine v_iconst (pc := 21) (v := 4) dX6_bag_21 rfl ?_
    refine v_callS3 (pc := 22) (c_X6_isIn ) cm_X6_isIn q859 q860 [] (by rfl) (by decide) (fun _ _ h => h) (by decide) (by decide) (by decide) (Nat.le_of_ble_eq_true rfl) dX6_bag_22 (fun v22 M22 hQ22 => ?_)
    obtain ⟨rfl, rfl⟩ := hQ22
    try dsimp only [wb, ModelM, List.set_cons_succ, List.set_cons_zero, List.append_nil, List.nil_append, List.cons_append, Option.toList, Nat.sub_zero, List.take_succ_cons, List.take_zero]
    refine v_if_eq (pc := 25) (tgt := 37) dX6_bag_25 (by decide) (fun c25 => ?_) (fun c25 => ?_)
    · have c25 := bI_0.mp c25
      refine v_aload_nR (pc := 37) dX6_bag_37 rfl rfl ?_
      refine v_iconst (pc := 38) (v := 1) dX6_bag_38 rfl ?_
      refine v_callV1 (pc := 39) (c_X6_fail hps hsc hbc) cm_X6_fail q862 q864 qs16 (ci := 6) rfl rfl (orcO 0 rfl) [0, 1, 2, 3, 4, 5, 6, 7, 8, 9, 10, 11] (by rfl) (by decide) (fun _ _ h => h) (by decide) (by decide) (by decide) (Nat.le_of_ble_eq_true rfl) dX6_bag_39 (fun v39 M39 hQ39 => ?_)
      obtain ⟨rfl, rfl⟩ := hQ39
      try dsimp only [wb, ModelM, List.set_cons_succ, List.set_cons_zero, List.append_nil, List.nil_append, List.cons_append, Option.toList, Nat.sub_zero, List.take_succ_cons, List.take_zero]
      refine v_iret (pc := 42) rfl rfl (Nat.le_of_ble_eq_true rfl) dX6_bag_42 ?_
      have e9 : (rBg BF bc s q) = (1, 0) := by exact if_neg (fun h => c25 h.2)
      rw [e9]
      exact ⟨rfl, rfl⟩
    · have c25 := bI_n.mp c25
      have c16b := (isp_iff (by omega)).mp c16
      obtain ⟨i, hi, rfl⟩ := kOf c16b (by omega)
      obtain ⟨a, ha, rfl⟩ := le_nI 4 (by decide) c25
      refine v_aload_nR (pc := 28) dX6_bag_28 rfl rfl ?_
      refine v_iload_n (pc := 29) dX6_bag_29 rfl rfl ?_
      refine v_iload_n (pc := 30) dX6_bag_30 rfl rfl ?_
      refine v_callV2 (pc := 31) (c_X6_baG hps hsc hbc (by omega) (by omega)) cm_X6_ba q919 q921 qs23 (ci := 6) rfl rfl (orcO 0 rfl) [0, 1, 2, 3, 4, 5, 6, 7, 8, 9, 10, 11] (by rfl) (by decide) (fun _ _ h => h) (by decide) (by decide) (by decide) (Nat.le_of_ble_eq_true rfl) dX6_bag_31 (fun v31 M31 hQ31 => ?_)
      obtain ⟨rfl, rfl⟩ := hQ31
      try dsimp only [wb, ModelM, List.set_cons_succ, List.set_cons_zero, List.append_nil, List.nil_append, List.cons_append, Option.toList, Nat.sub_zero, List.take_succ_cons, List.take_zero]
      refine v_goto (pc := 34) (tgt := 42) dX6_bag_34 (by decide) ?_
      refine v_iret (pc := 42) rfl rfl (Nat.le_of_ble_eq_true rfl) dX6_bag_42 ?_
      have e9 : (rBg BF bc (nI i) (nI a)) = (0, BF i a) := by unfold rBg; rw [if_pos ⟨c16b, c25⟩, cN_nI (by omega), cN_nI (by omega)]
      rw [e9]
      exact ⟨rfl, rfl⟩
