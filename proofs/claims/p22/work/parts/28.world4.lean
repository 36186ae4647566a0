/-! is a rectangle taken; a world copied into another one, without bags -/
def tkP (PC : Nat → Int32) (SF : Nat → Nat → Int32) (ps sc k : Nat) : Bool := decide (pOn PC ps (nI k) 8 0 ≠ none) || decide (0 < sumN (onF SF sc (nI k)) 5)
def tkC (PC : Nat → Int32) (SF : Nat → Nat → Int32) (ps sc x y : Nat) : Nat → Bool
  | 0 => false
  | n + 1 => tkC PC SF ps sc x y n || tkP PC SF ps sc (x + n + 16 * y)
def tkL (PC : Nat → Int32) (SF : Nat → Nat → Int32) (ps sc x y wd : Nat) : Nat → Bool
  | 0 => false
  | n + 1 => tkL PC SF ps sc x y wd n || tkC PC SF ps sc x (y + n) wd
theorem tkC_up {PC : Nat → Int32} {SF : Nat → Nat → Int32} {ps sc x y : Nat} : ∀ {m n : Nat}, n ≤ m → tkC PC SF ps sc x y n = true → tkC PC SF ps sc x y m = true
  | 0, n, h, h1 => by
    obtain rfl : n = 0 := by omega
    exact h1
  | m + 1, n, h, h1 => by
    rcases Nat.lt_or_ge m n with h2 | h2
    · obtain rfl : n = m + 1 := by omega
      exact h1
    · show (tkC PC SF ps sc x y m || _) = true
      rw [tkC_up h2 h1]; rfl
theorem tkL_up {PC : Nat → Int32} {SF : Nat → Nat → Int32} {ps sc x y wd : Nat} : ∀ {m n : Nat}, n ≤ m → tkL PC SF ps sc x y wd n = true → tkL PC SF ps sc x y wd m = true
  | 0, n, h, h1 => by
    obtain rfl : n = 0 := by omega
    exact h1
  | m + 1, n, h, h1 => by
    rcases Nat.lt_or_ge m n with h2 | h2
    · obtain rfl : n = m + 1 := by omega
      exact h1
    · show (tkL PC SF ps sc x y wd m || _) = true
      rw [tkL_up h2 h1]; rfl
theorem tk_at {PC : Nat → Int32} {SF : Nat → Nat → Int32} {ps sc x y wd dp i j : Nat} (hi : i < dp) (hj : j < wd) (h : tkP PC SF ps sc (x + j + 16 * (y + i)) = true) : tkL PC SF ps sc x y wd dp = true := by
  refine tkL_up (n := i + 1) hi ?_
  show (_ || tkC PC SF ps sc x (y + i) wd) = true
  rw [tkC_up (n := j + 1) hj (by show (_ || tkP PC SF ps sc (x + j + 16 * (y + i))) = true; rw [h]; simp)]
  simp
theorem tkL_no {PC : Nat → Int32} {SF : Nat → Nat → Int32} {ps sc x y wd : Nat} : ∀ {dp : Nat}, (∀ i, i < dp → tkC PC SF ps sc x (y + i) wd = false) → tkL PC SF ps sc x y wd dp = false
  | 0, _ => rfl
  | n + 1, h => by
    show (tkL PC SF ps sc x y wd n || tkC PC SF ps sc x (y + n) wd) = false
    rw [tkL_no (fun i hi => h i (by omega)), h n (by omega)]; rfl
theorem kf_cell {x y : Nat} : nI x + 16 * nI y = nI (x + 16 * y) := by
  rw [show (16 : Int32) * nI y = nI (16 * y) from pk_mul 16 y, nI_add]
theorem pOn_lt {PC : Nat → Int32} {ps : Nat} {c : Int32} {j : Nat} : ∀ m i, pOn PC ps c m i = some j → j < i + m
  | 0, _, h => by cases h
  | m + 1, i, h => by
    unfold pOn at h
    split at h
    · cases h; omega
    · have := pOn_lt m (i + 1) h; omega
theorem pOn_none {PC : Nat → Int32} {ps : Nat} {c : Int32} : oI (pOn PC ps c 8 0) = -1 ↔ pOn PC ps c 8 0 = none := oI_m1 (fun j h => by have := pOn_lt 8 0 h; omega)
theorem tkP_1 {PC : Nat → Int32} {SF : Nat → Nat → Int32} {ps sc k : Nat} (h : ¬ oI (pOn PC ps (nI k) 8 0) = -1) : tkP PC SF ps sc k = true := by
  unfold tkP
  have e : decide (pOn PC ps (nI k) 8 0 ≠ none) = true := decide_eq_true (fun q => h (pOn_none.mpr q))
  rw [e]; rfl
theorem tkP_2 {PC : Nat → Int32} {SF : Nat → Nat → Int32} {ps sc k : Nat} (h : ¬ sumN (onF SF sc (nI k)) 5 ≤ 0) : tkP PC SF ps sc k = true := by
  unfold tkP
  have e : decide (0 < sumN (onF SF sc (nI k)) 5) = true := decide_eq_true (Int32.not_le.mp h)
  rw [e]; simp
theorem tkP_0 {PC : Nat → Int32} {SF : Nat → Nat → Int32} {ps sc k : Nat} (h : oI (pOn PC ps (nI k) 8 0) = -1) (h2 : sumN (onF SF sc (nI k)) 5 ≤ 0) : tkP PC SF ps sc k = false := by
  unfold tkP
  have e : decide (pOn PC ps (nI k) 8 0 ≠ none) = false := decide_eq_false (fun q => q (pOn_none.mp h))
  have e2 : decide (0 < sumN (onF SF sc (nI k)) 5) = false := decide_eq_false (Int32.not_lt.mpr h2)
  rw [e, e2]; rfl
theorem tkC_s {PC : Nat → Int32} {SF : Nat → Nat → Int32} {ps sc x y n : Nat} (h : tkC PC SF ps sc x y n = false) (h2 : tkP PC SF ps sc (x + n + 16 * y) = false) : tkC PC SF ps sc x y (n + 1) = false := by
  show (tkC PC SF ps sc x y n || _) = false
  rw [h, h2]; rfl
set_option maxRecDepth 100000 in
set_option maxHeartbeats 4000000 in
theorem lp_X4_tkC {G : Cx} {w : Nat → Nat} {a b f : Nat → Int32} {wa : Int32} {lr : Value} {nd dg : Int32} {T N S C B O : Nat → Int32} {ch : Int32} {PC : Nat → Int32} {SF BF : Nat → Nat → Int32} {ps sc bc hh : Nat} (hps : ps ≤ 8) (hsc : sc ≤ 5) (hbc : bc ≤ 40) {sz : Nat} {x y wd dp : Nat} (hw : x + wd ≤ 16) (hd : y + dp ≤ 10) {i0 : Nat} (hi0 : i0 < dp) (K : tkC PC SF ps sc x (y + i0) wd = false → V G Y_X4_isTaken (ZM G (WorldM w a b f wa lr nd dg T N S C B O ch PC SF BF ps sc bc hh) sz (fun v M' => v = some (.int (bI (tkL PC SF ps sc x y wd dp = true))) ∧ M' = WorldM w a b f wa lr nd dg T N S C B O ch PC SF BF ps sc bc hh) noX) 2 0 0 59 [some (.ref (w 0)), some (.int (nI x)), some (.int (nI y)), some (.int (nI wd)), some (.int (nI dp)), some (.int (nI (y + i0))), none, none] [] (WorldM w a b f wa lr nd dg T N S C B O ch PC SF BF ps sc bc hh)) : ∀ (m i : Nat), m + i = wd → tkC PC SF ps sc x (y + i0) i = false → V G Y_X4_isTaken (ZM G (WorldM w a b f wa lr nd dg T N S C B O ch PC SF BF ps sc bc hh) sz (fun v M' => v = some (.int (bI (tkL PC SF ps sc x y wd dp = true))) ∧ M' = WorldM w a b f wa lr nd dg T N S C B O ch PC SF BF ps sc bc hh) noX) 2 0 0 15 [some (.ref (w 0)), some (.int (nI x)), some (.int (nI y)), some (.int (nI wd)), some (.int (nI dp)), some (.int (nI (y + i0))), some (.int (nI (x + i))), none] [] (WorldM w a b f wa lr nd dg T N S C B O ch PC SF BF ps sc bc hh) := by
  intro m
  induction m with
  | zero =>
    intro i hi
    have hi2 : i = wd := by omega
    intro h0
    refine v_iload (pc := 15) dX4_isTaken_15 rfl ?_
    refine v_iload_n (pc := 17) dX4_isTaken_17 rfl rfl ?_
    refine v_iload_n (pc := 18) dX4_isTaken_18 rfl rfl ?_
    refine v_iadd (pc := 19) dX4_isTaken_19 ?_
    rw [show nI x + nI wd = nI (x + wd) from nI_add _ _]
    refine v_icmp_ge (pc := 20) (tgt := 59) dX4_isTaken_20 (by decide) (fun c20 => ?_) (fun c20 => absurd (nI_le (a := x + wd) (b := x + i) (by omega) (by omega)) c20)
    have c20 : (x + wd) ≤ (x+i) := (nI_leI (a := (x + wd)) (b := (x+i)) (by omega) (by omega)).mp c20
    rw [hi2] at h0
    refine v_sub ?_ (K h0)
    exact ⟨rfl, rfl, rfl, rfl, rfl, rfl, trivial⟩
  | succ m ih =>
    intro i hi
    intro h0
    refine v_iload (pc := 15) dX4_isTaken_15 rfl ?_
    refine v_iload_n (pc := 17) dX4_isTaken_17 rfl rfl ?_
    refine v_iload_n (pc := 18) dX4_isTaken_18 rfl rfl ?_
    refine v_iadd (pc := 19) dX4_isTaken_19 ?_
    rw [show nI x + nI wd = nI (x + wd) from nI_add _ _]
    refine v_icmp_ge (pc := 20) (tgt := 59) dX4_isTaken_20 (by decide) (fun c20 => absurd c20 (nI_ge (a := x + i) (b := x + wd) (by omega) (by omega))) (fun c20 => ?_)
    have c20 : ¬ (x + wd) ≤ (x+i) := fun h => c20 ((nI_leI (a := (x + wd)) (b := (x+i)) (by omega) (by omega)).mpr h)
    refine v_iload (pc := 23) dX4_isTaken_23 rfl ?_
    refine v_iload (pc := 25) dX4_isTaken_25 rfl ?_
    refine v_callSN2 (pc := 27) (c_X5_numberOf ) cm_X5_numberOf q690 q286 [] (by rfl) (by decide) (fun _ _ h => h) (by decide) (by decide) (by decide) (Nat.le_of_ble_eq_true rfl) dX4_isTaken_27 (fun v27 M27 hQ27 => ?_)
    obtain ⟨rfl, rfl⟩ := hQ27
    try dsimp only [wb, LakeM, WaysM, WorldM, List.set_cons_succ, List.set_cons_zero, List.append_nil, List.nil_append, List.cons_append, Option.toList, Nat.sub_zero]
    rw [kf_cell]
    refine v_istore (pc := 30) dX4_isTaken_30 (by decide) rfl ?_
    refine v_aload_nR (pc := 32) dX4_isTaken_32 rfl rfl ?_
    refine v_iload (pc := 33) dX4_isTaken_33 rfl ?_
    refine v_callV1 (pc := 35) (c_X4_postOn hps hsc hbc) cm_X4_postOn q311 q312 q313 (ci := 4) rfl rfl (orcO 0 rfl) [0, 1, 2, 3, 4, 5, 6, 7, 8, 9, 10, 11, 12, 13, 14, 15, 16] (by rfl) (by decide) (fun _ _ h => h) (by decide) (by decide) (by decide) (Nat.le_of_ble_eq_true rfl) dX4_isTaken_35 (fun v35 M35 hQ35 => ?_)
    obtain ⟨rfl, rfl⟩ := hQ35
    try dsimp only [wb, LakeM, WaysM, WorldM, List.set_cons_succ, List.set_cons_zero, List.append_nil, List.nil_append, List.cons_append, Option.toList, Nat.sub_zero]
    refine v_iconst (pc := 38) (v := -1) dX4_isTaken_38 rfl ?_
    refine v_icmp_ne (pc := 39) (tgt := 51) dX4_isTaken_39 (by decide) (fun c39 => ?_) (fun c39 => ?_)
    · refine v_iconst (pc := 51) (v := 1) dX4_isTaken_51 rfl ?_
      refine v_iret (pc := 52) rfl rfl (Nat.le_of_ble_eq_true rfl) dX4_isTaken_52 ?_
      exact ⟨by rw [bI_t (tk_at hi0 (show i < wd by omega) (tkP_1 c39))], rfl⟩
    · refine v_aload_nR (pc := 42) dX4_isTaken_42 rfl rfl ?_
      refine v_iload (pc := 43) dX4_isTaken_43 rfl ?_
      refine v_callV1 (pc := 45) (c_X4_sleighsOn hps hsc hbc) cm_X4_sleighsOn q315 q316 q317 (ci := 4) rfl rfl (orcO 0 rfl) [0, 1, 2, 3, 4, 5, 6, 7, 8, 9, 10, 11, 12, 13, 14, 15, 16] (by rfl) (by decide) (fun _ _ h => h) (by decide) (by decide) (by decide) (Nat.le_of_ble_eq_true rfl) dX4_isTaken_45 (fun v45 M45 hQ45 => ?_)
      obtain ⟨rfl, rfl⟩ := hQ45
      try dsimp only [wb, LakeM, WaysM, WorldM, List.set_cons_succ, List.set_cons_zero, List.append_nil, List.nil_append, List.cons_append, Option.toList, Nat.sub_zero]
      refine v_if_le (pc := 48) (tgt := 53) dX4_isTaken_48 (by decide) (fun c48 => ?_) (fun c48 => ?_)
      · refine v_iinc (pc := 53) (v := nI ((x+i) + 1)) dX4_isTaken_53 rfl (nI_1 _) (by decide) rfl ?_
        refine v_goto (pc := 56) (tgt := 15) dX4_isTaken_56 (by decide) ?_
        have k9 := ih (i + 1) (by omega) (tkC_s h0 (tkP_0 c39 c48))
        refine v_sub ?_ k9
        exact ⟨rfl, rfl, rfl, rfl, rfl, rfl, rfl, trivial⟩
      · refine v_iconst (pc := 51) (v := 1) dX4_isTaken_51 rfl ?_
        refine v_iret (pc := 52) rfl rfl (Nat.le_of_ble_eq_true rfl) dX4_isTaken_52 ?_
        exact ⟨by rw [bI_t (tk_at hi0 (show i < wd by omega) (tkP_2 c48))], rfl⟩
set_option maxRecDepth 100000 in
set_option maxHeartbeats 4000000 in
theorem lp_X4_tkL {G : Cx} {w : Nat → Nat} {a b f : Nat → Int32} {wa : Int32} {lr : Value} {nd dg : Int32} {T N S C B O : Nat → Int32} {ch : Int32} {PC : Nat → Int32} {SF BF : Nat → Nat → Int32} {ps sc bc hh : Nat} (hps : ps ≤ 8) (hsc : sc ≤ 5) (hbc : bc ≤ 40) {sz : Nat} {x y wd dp : Nat} (hw : x + wd ≤ 16) (hd : y + dp ≤ 10) : ∀ (m i : Nat), m + i = dp → (∀ j, j < i → tkC PC SF ps sc x (y + j) wd = false) → V G Y_X4_isTaken (ZM G (WorldM w a b f wa lr nd dg T N S C B O ch PC SF BF ps sc bc hh) sz (fun v M' => v = some (.int (bI (tkL PC SF ps sc x y wd dp = true))) ∧ M' = WorldM w a b f wa lr nd dg T N S C B O ch PC SF BF ps sc bc hh) noX) 2 0 0 3 [some (.ref (w 0)), some (.int (nI x)), some (.int (nI y)), some (.int (nI wd)), some (.int (nI dp)), some (.int (nI (y + i))), none, none] [] (WorldM w a b f wa lr nd dg T N S C B O ch PC SF BF ps sc bc hh) := by
  intro m
  induction m with
  | zero =>
    intro i hi
    have hi2 : i = dp := by omega
    intro h0
    refine v_iload (pc := 3) dX4_isTaken_3 rfl ?_
    refine v_iload_n (pc := 5) dX4_isTaken_5 rfl rfl ?_
    refine v_iload (pc := 6) dX4_isTaken_6 rfl ?_
    refine v_iadd (pc := 8) dX4_isTaken_8 ?_
    rw [show nI y + nI dp = nI (y + dp) from nI_add _ _]
    refine v_icmp_ge (pc := 9) (tgt := 65) dX4_isTaken_9 (by decide) (fun c9 => ?_) (fun c9 => absurd (nI_le (a := y + dp) (b := y + i) (by omega) (by omega)) c9)
    have c9 : (y + dp) ≤ (y+i) := (nI_leI (a := (y + dp)) (b := (y+i)) (by omega) (by omega)).mp c9
    refine v_iconst (pc := 65) (v := 0) dX4_isTaken_65 rfl ?_
    refine v_iret (pc := 66) rfl rfl (Nat.le_of_ble_eq_true rfl) dX4_isTaken_66 ?_
    exact ⟨by rw [bI_f (by rw [tkL_no (fun j hj => h0 j (by omega))]; decide)], rfl⟩
  | succ m ih =>
    intro i hi
    intro h0
    refine v_iload (pc := 3) dX4_isTaken_3 rfl ?_
    refine v_iload_n (pc := 5) dX4_isTaken_5 rfl rfl ?_
    refine v_iload (pc := 6) dX4_isTaken_6 rfl ?_
    refine v_iadd (pc := 8) dX4_isTaken_8 ?_
    rw [show nI y + nI dp = nI (y + dp) from nI_add _ _]
    refine v_icmp_ge (pc := 9) (tgt := 65) dX4_isTaken_9 (by decide) (fun c9 => absurd c9 (nI_ge (a := y + i) (b := y + dp) (by omega) (by omega))) (fun c9 => ?_)
    have c9 : ¬ (y + dp) ≤ (y+i) := fun h => c9 ((nI_leI (a := (y + dp)) (b := (y+i)) (by omega) (by omega)).mpr h)
    refine v_iload_n (pc := 12) dX4_isTaken_12 rfl rfl ?_
    refine v_istore (pc := 13) dX4_isTaken_13 (by decide) rfl ?_
    refine v_sub (L' := [some (.ref (w 0)), some (.int (nI x)), some (.int (nI y)), some (.int (nI wd)), some (.int (nI dp)), some (.int (nI (y + i))), some (.int (nI (x + 0))), none]) ⟨rfl, rfl, rfl, rfl, rfl, rfl, rfl, trivial⟩ ?_
    refine lp_X4_tkC hps hsc hbc hw hd (i0 := i) (by omega) (fun hrow => ?_) wd 0 (by omega) rfl
    refine v_iinc (pc := 59) (v := nI ((y+i) + 1)) dX4_isTaken_59 rfl (nI_1 _) (by decide) rfl ?_
    refine v_goto (pc := 62) (tgt := 3) dX4_isTaken_62 (by decide) ?_
    have k9 := ih (i + 1) (by omega) (fun j hj => by
      rcases Nat.lt_or_ge j i with h9 | h9
      · exact h0 j h9
      · obtain rfl : j = i := by omega
        exact hrow)
    refine v_sub ?_ k9
    exact ⟨rfl, rfl, rfl, rfl, rfl, rfl, trivial⟩
set_option maxRecDepth 100000 in
set_option maxHeartbeats 4000000 in
theorem c_X4_isTaken {G : Cx} {w : Nat → Nat} {a b f : Nat → Int32} {wa : Int32} {lr : Value} {nd dg : Int32} {T N S C B O : Nat → Int32} {ch : Int32} {PC : Nat → Int32} {SF BF : Nat → Nat → Int32} {ps sc bc hh : Nat} (hps : ps ≤ 8) (hsc : sc ≤ 5) (hbc : bc ≤ 40) {x y wd dp : Nat} (hw : x + wd ≤ 16) (hd : y + dp ≤ 10) : Mt G Y_X4_isTaken 2 0 0 [.ref (w 0), .int (nI x), .int (nI y), .int (nI wd), .int (nI dp)] (WorldM w a b f wa lr nd dg T N S C B O ch PC SF BF ps sc bc hh) (fun v M' => v = some (.int (bI (tkL PC SF ps sc x y wd dp = true))) ∧ M' = WorldM w a b f wa lr nd dg T N S C B O ch PC SF BF ps sc bc hh) noX := by
  refine Mt.of (L := [some (.ref (w 0)), some (.int (nI x)), some (.int (nI y)), some (.int (nI wd)), some (.int (nI dp)), none, none, none]) rfl (by decide) (by simp [lg_sl, Value.category]) ⟨rfl, rfl, rfl, rfl, rfl, trivial⟩ (fun sz => ?_)
  refine v_iload_n (pc := 0) dX4_isTaken_0 rfl rfl ?_
  refine v_istore (pc := 1) dX4_isTaken_1 (by decide) rfl ?_
  refine v_sub (L' := [some (.ref (w 0)), some (.int (nI x)), some (.int (nI y)), some (.int (nI wd)), some (.int (nI dp)), some (.int (nI (y + 0))), none, none]) ⟨rfl, rfl, rfl, rfl, rfl, rfl, trivial⟩ ?_
  exact lp_X4_tkL hps hsc hbc hw hd dp 0 (by omega) (fun j hj => absurd hj (by omega))
theorem cpy_all {f g : Nat → Int32} {n : Nat} : ∀ j, j < n → va_cpy f g 0 0 n j = f j := fun j hj => by
  rw [pk_cpy_in (Nat.zero_le j) (by omega), Nat.zero_add, Nat.sub_zero]
theorem clamp0 : (0 : Int32).toNatClampNeg = 0 := by decide
theorem clamp160 : (160 : Int32).toNatClampNeg = 160 := by decide
theorem clamp8 : (8 : Int32).toNatClampNeg = 8 := by decide
def cpS (S U : Nat → Nat → Int32) (i : Nat) : Nat → Nat → Int32 := fun j k => if j = i ∧ k < 9 then (if k = 8 then -1 else U j k) else S j k
def cpF (S U : Nat → Nat → Int32) (sc n : Nat) : Nat → Nat → Int32 := fun j k => if (j < n ∧ j < sc) ∧ k < 9 then (if k = 8 then -1 else U j k) else S j k
/-- the rows of a copy: those that there are, without what was looked for in vain -/
def cpN (S U : Nat → Nat → Int32) (sc : Nat) : Nat → Nat → Int32 := fun j k => if j < sc then (if k = 8 then -1 else U j k) else S j k
theorem cpS_eq (S U : Nat → Nat → Int32) (i : Nat) : upS (upS (upS (upS (upS (upS (upS (upS (upS S i 0 (U i 0)) i 1 (U i 1)) i 2 (U i 2)) i 3 (U i 3)) i 4 (U i 4)) i 5 (U i 5)) i 6 (U i 6)) i 7 (U i 7)) i 8 (-1) = cpS S U i := by
  funext j k
  unfold upS cpS
  by_cases hj : j = i
  · subst hj
    by_cases h8 : k = 8
    · subst h8; simp
    by_cases h7 : k = 7
    · subst h7; simp
    by_cases h6 : k = 6
    · subst h6; simp
    by_cases h5 : k = 5
    · subst h5; simp
    by_cases h4 : k = 4
    · subst h4; simp
    by_cases h3 : k = 3
    · subst h3; simp
    by_cases h2 : k = 2
    · subst h2; simp
    by_cases h1 : k = 1
    · subst h1; simp
    by_cases h0 : k = 0
    · subst h0; simp
    have h9 : ¬ k < 9 := by omega
    simp [h0, h1, h2, h3, h4, h5, h6, h7, h8, h9]
  · simp [hj]
theorem cpF_s (S U : Nat → Nat → Int32) {sc n : Nat} (hn : n < sc) : cpS (cpF S U sc n) U n = cpF S U sc (n + 1) := by
  funext j k
  unfold cpS cpF
  by_cases h1 : j = n
  · subst h1
    by_cases hk : k < 9
    · rw [if_pos ⟨rfl, hk⟩, if_pos (show (j < j + 1 ∧ j < sc) ∧ k < 9 from ⟨⟨by omega, hn⟩, hk⟩)]
    · rw [if_neg (fun h => hk h.2), if_neg (fun h => hk h.2), if_neg (fun h => hk h.2)]
  · rw [if_neg (fun h => h1 h.1)]
    by_cases h2 : (j < n ∧ j < sc) ∧ k < 9
    · rw [if_pos h2, if_pos (show (j < n + 1 ∧ j < sc) ∧ k < 9 from ⟨⟨by omega, h2.1.2⟩, h2.2⟩)]
    · rw [if_neg h2, if_neg (fun h => h2 ⟨⟨by omega, h.1.2⟩, h.2⟩)]
theorem cpF_k (S U : Nat → Nat → Int32) {sc n : Nat} (hn : ¬ n < sc) : cpF S U sc n = cpF S U sc (n + 1) := by
  funext j k
  unfold cpF
  by_cases h2 : (j < n ∧ j < sc) ∧ k < 9
  · rw [if_pos h2, if_pos (show (j < n + 1 ∧ j < sc) ∧ k < 9 from ⟨⟨by omega, h2.1.2⟩, h2.2⟩)]
  · rw [if_neg h2, if_neg (fun h => h2 ⟨⟨by omega, h.1.2⟩, h.2⟩)]
theorem cpF_0 (S U : Nat → Nat → Int32) {sc : Nat} : cpF S U sc 0 = S := by
  funext j k
  exact if_neg (fun h => absurd h.1.1 (by omega))
theorem cpF_N (S U : Nat → Nat → Int32) {sc j k : Nat} (hj : j < 5) (hk : k < 9) : cpF S U sc 5 j k = cpN S U sc j k := by
  unfold cpF cpN
  by_cases h : j < sc
  · rw [if_pos ⟨⟨hj, h⟩, hk⟩, if_pos h]
  · rw [if_neg (fun q => h q.1.2), if_neg h]
set_option maxRecDepth 100000 in
set_option maxHeartbeats 4000000 in
theorem c_X2_copySleigh {G : Cx} {sa sb : Nat → Nat} {n i : Nat} {S U : Nat → Nat → Int32} (hi : i < n) : Mt G Y_X2_copySleigh 0 0 0 [.ref (sa i), .ref (sb i)] [eS 2 sa n 9 S, eS 2 sb n 9 U] (fun v M' => v = none ∧ M' = [eS 2 sa n 9 (cpS S U i), eS 2 sb n 9 U]) noX := by
  refine Mt.of (L := [some (.ref (sa i)), some (.ref (sb i))]) rfl (by decide) (by simp [lg_sl, Value.category]) ⟨rfl, rfl, trivial⟩ (fun sz => ?_)
  refine v_aload_nR (pc := 0) dX2_copySleigh_0 rfl rfl ?_
  refine v_aload_nR (pc := 1) dX2_copySleigh_1 rfl rfl ?_
  refine v_getS (pc := 2) 0 1 fg_X2_9 rfl hi (by decide) dX2_copySleigh_2 ?_
  refine v_putS (pc := 5) 0 0 fp_X2_copySleigh_9 rfl hi (by decide) dX2_copySleigh_5 ?_
  refine v_aload_nR (pc := 8) dX2_copySleigh_8 rfl rfl ?_
  refine v_aload_nR (pc := 9) dX2_copySleigh_9 rfl rfl ?_
  refine v_getS (pc := 10) 1 1 fg_X2_27 rfl hi (by decide) dX2_copySleigh_10 ?_
  refine v_putS (pc := 13) 1 0 fp_X2_copySleigh_27 rfl hi (by decide) dX2_copySleigh_13 ?_
  refine v_aload_nR (pc := 16) dX2_copySleigh_16 rfl rfl ?_
  refine v_aload_nR (pc := 17) dX2_copySleigh_17 rfl rfl ?_
  refine v_getS (pc := 18) 2 1 fg_X2_30 rfl hi (by decide) dX2_copySleigh_18 ?_
  refine v_putS (pc := 21) 2 0 fp_X2_copySleigh_30 rfl hi (by decide) dX2_copySleigh_21 ?_
  refine v_aload_nR (pc := 24) dX2_copySleigh_24 rfl rfl ?_
  refine v_aload_nR (pc := 25) dX2_copySleigh_25 rfl rfl ?_
  refine v_getS (pc := 26) 3 1 fg_X2_15 rfl hi (by decide) dX2_copySleigh_26 ?_
  refine v_putS (pc := 29) 3 0 fp_X2_copySleigh_15 rfl hi (by decide) dX2_copySleigh_29 ?_
  refine v_aload_nR (pc := 32) dX2_copySleigh_32 rfl rfl ?_
  refine v_aload_nR (pc := 33) dX2_copySleigh_33 rfl rfl ?_
  refine v_getS (pc := 34) 4 1 fg_X2_18 rfl hi (by decide) dX2_copySleigh_34 ?_
  refine v_putS (pc := 37) 4 0 fp_X2_copySleigh_18 rfl hi (by decide) dX2_copySleigh_37 ?_
  refine v_aload_nR (pc := 40) dX2_copySleigh_40 rfl rfl ?_
  refine v_aload_nR (pc := 41) dX2_copySleigh_41 rfl rfl ?_
  refine v_getS (pc := 42) 5 1 fg_X2_21 rfl hi (by decide) dX2_copySleigh_42 ?_
  refine v_putS (pc := 45) 5 0 fp_X2_copySleigh_21 rfl hi (by decide) dX2_copySleigh_45 ?_
  refine v_aload_nR (pc := 48) dX2_copySleigh_48 rfl rfl ?_
  refine v_aload_nR (pc := 49) dX2_copySleigh_49 rfl rfl ?_
  refine v_getS (pc := 50) 6 1 fg_X2_24 rfl hi (by decide) dX2_copySleigh_50 ?_
  refine v_putS (pc := 53) 6 0 fp_X2_copySleigh_24 rfl hi (by decide) dX2_copySleigh_53 ?_
  refine v_aload_nR (pc := 56) dX2_copySleigh_56 rfl rfl ?_
  refine v_aload_nR (pc := 57) dX2_copySleigh_57 rfl rfl ?_
  refine v_getS (pc := 58) 7 1 fg_X2_33 rfl hi (by decide) dX2_copySleigh_58 ?_
  refine v_putS (pc := 61) 7 0 fp_X2_copySleigh_33 rfl hi (by decide) dX2_copySleigh_61 ?_
  refine v_aload_nR (pc := 64) dX2_copySleigh_64 rfl rfl ?_
  refine v_iconst (pc := 65) (v := -1) dX2_copySleigh_65 rfl ?_
  refine v_putS (pc := 66) 8 0 fp_X2_copySleigh_36 rfl hi (by decide) dX2_copySleigh_66 ?_
  refine v_vret (pc := 69) rfl (Nat.le_of_ble_eq_true rfl) dX2_copySleigh_69 ?_
  exact ⟨rfl, by rw [← cpS_eq]; rfl⟩
set_option maxRecDepth 100000 in
set_option maxHeartbeats 4000000 in
theorem lp_X1_copyLake {G : Cx} {w u : Nat → Nat} {C B : Nat → Int32} {ch : Int32} {T2 N2 S2 C2 B2 O2 : Nat → Int32} {ch2 : Int32} {sz : Nat} {M0 : List ME} (hM0 : M0.length = 14) (hC : ∀ j, vp_nar .boolean (C2 j) = C2 j) : ∀ (m i : Nat), m + i = 160 → V G Y_X1_copyLake (ZM G M0 sz (fun v M' => v = none ∧ M' = LakeM w T2 N2 S2 C2 B O2 ch ++ LakeM u T2 N2 S2 C2 B2 O2 ch2) noX) 1 0 0 65 [some (.ref (w 5)), some (.ref (u 5)), some (.int (nI i))] [] (LakeM w T2 N2 S2 (fillU C2 C i) B O2 ch ++ LakeM u T2 N2 S2 C2 B2 O2 ch2) := by
  intro m
  induction m with
  | zero =>
    intro i hi
    obtain rfl : i = 160 := by omega
    refine v_iload_n (pc := 65) dX1_copyLake_65 rfl rfl ?_
    refine v_sipush (pc := 66) (v := 160) dX1_copyLake_66 rfl ?_
    refine v_icmp_ge (pc := 69) (tgt := 90) dX1_copyLake_69 (by decide) (fun c69 => ?_) (fun c69 => absurd (nI_le (a := 160) (b := 160) (Nat.le_refl _) (by decide)) c69)
    have c69 : 160 ≤ 160 := (nI_leI (a := 160) (b := 160) (by omega) (by omega)).mp c69
    refine v_cgZ 4 (g := C2) rfl (fun j hj => fillU_in hj) ?_
    try dsimp only [wb, LakeM, WaysM, WorldM, List.set_cons_succ, List.set_cons_zero, List.append_nil, List.nil_append, List.cons_append, Option.toList, Nat.sub_zero]
    refine v_vret (pc := 90) rfl (by rw [hM0]; exact Nat.le_of_ble_eq_true rfl) dX1_copyLake_90 ?_
    exact ⟨rfl, rfl⟩
  | succ m ih =>
    intro i hi
    refine v_iload_n (pc := 65) dX1_copyLake_65 rfl rfl ?_
    refine v_sipush (pc := 66) (v := 160) dX1_copyLake_66 rfl ?_
    refine v_icmp_ge (pc := 69) (tgt := 90) dX1_copyLake_69 (by decide) (fun c69 => absurd c69 (nI_ge (a := i) (b := 160) (by omega) (by decide))) (fun c69 => ?_)
    have c69 : ¬ 160 ≤ i := fun h => c69 ((nI_leI (a := 160) (b := i) (by omega) (by omega)).mpr h)
    refine v_aload_nR (pc := 72) dX1_copyLake_72 rfl rfl ?_
    refine v_get (pc := 73) 3 0 fg_X1_21 rfl rfl dX1_copyLake_73 ?_
    refine v_iload_n (pc := 76) dX1_copyLake_76 rfl rfl ?_
    refine v_aload_nR (pc := 77) dX1_copyLake_77 rfl rfl ?_
    refine v_get (pc := 78) 3 7 fg_X1_21 rfl rfl dX1_copyLake_78 ?_
    refine v_iload_n (pc := 81) dX1_copyLake_81 rfl rfl ?_
    refine v_zaldN (pc := 82) 11 (k := i) rfl (by omega) (by decide) dX1_copyLake_82 ?_
    refine v_zastN (pc := 83) 4 (k := i) rfl (by omega) (by decide) (hC _) dX1_copyLake_83 ?_
    try dsimp only [wb, LakeM, WaysM, WorldM, List.set_cons_succ, List.set_cons_zero, List.append_nil, List.nil_append, List.cons_append, Option.toList, Nat.sub_zero]
    refine v_iinc (pc := 84) (v := nI (i + 1)) dX1_copyLake_84 rfl (nI_1 _) (by decide) rfl ?_
    refine v_goto (pc := 87) (tgt := 65) dX1_copyLake_87 (by decide) ?_
    refine v_cgZ 4 (g := fillU C2 C (i + 1)) rfl (fill_step rfl) ?_
    exact ih (i + 1) (by omega)
set_option maxRecDepth 100000 in
set_option maxHeartbeats 4000000 in
theorem c_X1_copyLake {G : Cx} {w u : Nat → Nat} {T N S C B O : Nat → Int32} {ch : Int32} {T2 N2 S2 C2 B2 O2 : Nat → Int32} {ch2 : Int32} (hC : ∀ j, vp_nar .boolean (C2 j) = C2 j) : Mt G Y_X1_copyLake 1 0 0 [.ref (w 5), .ref (u 5)] (LakeM w T N S C B O ch ++ LakeM u T2 N2 S2 C2 B2 O2 ch2) (fun v M' => v = none ∧ M' = LakeM w T2 N2 S2 C2 B O2 ch ++ LakeM u T2 N2 S2 C2 B2 O2 ch2) noX := by
  refine Mt.of (L := [some (.ref (w 5)), some (.ref (u 5)), none]) rfl (by decide) (by simp [lg_sl, Value.category]) ⟨rfl, rfl, trivial⟩ (fun sz => ?_)
  refine v_aload_nR (pc := 0) dX1_copyLake_0 rfl rfl ?_
  refine v_get (pc := 1) 0 7 fg_X1_9 rfl rfl dX1_copyLake_1 ?_
  refine v_iconst (pc := 4) (v := 0) dX1_copyLake_4 rfl ?_
  refine v_aload_nR (pc := 5) dX1_copyLake_5 rfl rfl ?_
  refine v_get (pc := 6) 0 0 fg_X1_9 rfl rfl dX1_copyLake_6 ?_
  refine v_iconst (pc := 9) (v := 0) dX1_copyLake_9 rfl ?_
  refine v_sipush (pc := 10) (v := 160) dX1_copyLake_10 rfl ?_
  refine v_copyi (pc := 13) 8 1 rfl rfl q563 q565 q564 q17 (by decide) (by decide) (by decide) (by decide) (by decide) (by decide) (Nat.le_of_ble_eq_true rfl) dX1_copyLake_13 ?_
  simp only [clamp0, clamp160]
  refine v_cgI 1 (g := T2) rfl cpy_all ?_
  try dsimp only [wb, LakeM, WaysM, WorldM, List.set_cons_succ, List.set_cons_zero, List.append_nil, List.nil_append, List.cons_append, Option.toList, Nat.sub_zero]
  refine v_aload_nR (pc := 16) dX1_copyLake_16 rfl rfl ?_
  refine v_get (pc := 17) 1 7 fg_X1_15 rfl rfl dX1_copyLake_17 ?_
  refine v_iconst (pc := 20) (v := 0) dX1_copyLake_20 rfl ?_
  refine v_aload_nR (pc := 21) dX1_copyLake_21 rfl rfl ?_
  refine v_get (pc := 22) 1 0 fg_X1_15 rfl rfl dX1_copyLake_22 ?_
  refine v_iconst (pc := 25) (v := 0) dX1_copyLake_25 rfl ?_
  refine v_sipush (pc := 26) (v := 160) dX1_copyLake_26 rfl ?_
  refine v_copyi (pc := 29) 9 2 rfl rfl q563 q565 q564 q17 (by decide) (by decide) (by decide) (by decide) (by decide) (by decide) (Nat.le_of_ble_eq_true rfl) dX1_copyLake_29 ?_
  simp only [clamp0, clamp160]
  refine v_cgI 2 (g := N2) rfl cpy_all ?_
  try dsimp only [wb, LakeM, WaysM, WorldM, List.set_cons_succ, List.set_cons_zero, List.append_nil, List.nil_append, List.cons_append, Option.toList, Nat.sub_zero]
  refine v_aload_nR (pc := 32) dX1_copyLake_32 rfl rfl ?_
  refine v_get (pc := 33) 2 7 fg_X1_18 rfl rfl dX1_copyLake_33 ?_
  refine v_iconst (pc := 36) (v := 0) dX1_copyLake_36 rfl ?_
  refine v_aload_nR (pc := 37) dX1_copyLake_37 rfl rfl ?_
  refine v_get (pc := 38) 2 0 fg_X1_18 rfl rfl dX1_copyLake_38 ?_
  refine v_iconst (pc := 41) (v := 0) dX1_copyLake_41 rfl ?_
  refine v_sipush (pc := 42) (v := 160) dX1_copyLake_42 rfl ?_
  refine v_copyi (pc := 45) 10 3 rfl rfl q563 q565 q564 q17 (by decide) (by decide) (by decide) (by decide) (by decide) (by decide) (Nat.le_of_ble_eq_true rfl) dX1_copyLake_45 ?_
  simp only [clamp0, clamp160]
  refine v_cgI 3 (g := S2) rfl cpy_all ?_
  try dsimp only [wb, LakeM, WaysM, WorldM, List.set_cons_succ, List.set_cons_zero, List.append_nil, List.nil_append, List.cons_append, Option.toList, Nat.sub_zero]
  refine v_aload_nR (pc := 48) dX1_copyLake_48 rfl rfl ?_
  refine v_get (pc := 49) 5 7 fg_X1_28 rfl rfl dX1_copyLake_49 ?_
  refine v_iconst (pc := 52) (v := 0) dX1_copyLake_52 rfl ?_
  refine v_aload_nR (pc := 53) dX1_copyLake_53 rfl rfl ?_
  refine v_get (pc := 54) 5 0 fg_X1_28 rfl rfl dX1_copyLake_54 ?_
  refine v_iconst (pc := 57) (v := 0) dX1_copyLake_57 rfl ?_
  refine v_bipush (pc := 58) (v := 8) dX1_copyLake_58 rfl ?_
  refine v_copyi (pc := 60) 13 6 rfl rfl q563 q565 q564 q17 (by decide) (by decide) (by decide) (by decide) (by decide) (by decide) (Nat.le_of_ble_eq_true rfl) dX1_copyLake_60 ?_
  simp only [clamp0, clamp8]
  refine v_cgI 6 (g := O2) rfl cpy_all ?_
  try dsimp only [wb, LakeM, WaysM, WorldM, List.set_cons_succ, List.set_cons_zero, List.append_nil, List.nil_append, List.cons_append, Option.toList, Nat.sub_zero]
  refine v_iconst (pc := 63) (v := 0) dX1_copyLake_63 rfl ?_
  refine v_istore_n (pc := 64) dX1_copyLake_64 rfl (by decide) rfl ?_
  exact lp_X1_copyLake rfl hC 160 0 (by omega)
set_option maxRecDepth 100000 in
set_option maxHeartbeats 4000000 in
theorem lp_X4_copy {G : Cx} {w : Nat → Nat} {a b f : Nat → Int32} {wa : Int32} {lr : Value} {nd dg : Int32} {B : Nat → Int32} {ch : Int32} {SF BF : Nat → Nat → Int32} {bc : Nat} {u : Nat → Nat} {a2 b2 f2 : Nat → Int32} {wa2 : Int32} {lr2 : Value} {nd2 dg2 : Int32} {T2 N2 S2 C2 B2 O2 : Nat → Int32} {ch2 : Int32} {PC2 : Nat → Int32} {SF2 BF2 : Nat → Nat → Int32} {ps2 sc2 bc2 hh2 : Nat} (hps2 : ps2 ≤ 8) (hsc2 : sc2 ≤ 5) (hbc : bc ≤ 40) (hbc2 : bc2 ≤ 40) {sz : Nat} {M0 : List ME} (hM0 : M0.length = 34) : ∀ (m i : Nat), m + i = 5 → ∀ SFi, SFi = cpF SF SF2 sc2 i → V G Y_X4_copyWithoutBags (ZM G M0 sz (fun v M' => v = none ∧ M' = WorldM w a b f wa lr nd dg T2 N2 S2 C2 B O2 ch PC2 (cpN SF SF2 sc2) BF ps2 sc2 bc hh2 ++ WorldM u a2 b2 f2 wa2 lr2 nd2 dg2 T2 N2 S2 C2 B2 O2 ch2 PC2 SF2 BF2 ps2 sc2 bc2 hh2) noX) 2 0 0 52 [some (.ref (w 0)), some (.ref (u 0)), some (.int (nI i)), none, none] [] (WorldM w a b f wa lr nd dg T2 N2 S2 C2 B O2 ch PC2 SFi BF ps2 sc2 bc hh2 ++ WorldM u a2 b2 f2 wa2 lr2 nd2 dg2 T2 N2 S2 C2 B2 O2 ch2 PC2 SF2 BF2 ps2 sc2 bc2 hh2) := by
  intro m
  induction m with
  | zero =>
    intro i hi
    obtain rfl : i = 5 := by omega
    intro SFi hSF
    subst hSF
    refine v_iload_n (pc := 52) dX4_copyWithoutBags_52 rfl rfl ?_
    refine v_iconst (pc := 53) (v := 5) dX4_copyWithoutBags_53 rfl ?_
    refine v_icmp_ge (pc := 54) (tgt := 91) dX4_copyWithoutBags_54 (by decide) (fun c54 => ?_) (fun c54 => absurd (nI_le (a := 5) (b := 5) (Nat.le_refl _) (by decide)) c54)
    have c54 : 5 ≤ 5 := (nI_leI (a := 5) (b := 5) (by omega) (by omega)).mp c54
    refine v_cgS 15 (t := cpN SF SF2 sc2) rfl (fun i k hi hk => cpF_N SF SF2 hi hk) ?_
    try dsimp only [wb, LakeM, WaysM, WorldM, List.set_cons_succ, List.set_cons_zero, List.append_nil, List.nil_append, List.cons_append, Option.toList, Nat.sub_zero]
    refine v_vret (pc := 91) rfl (by rw [hM0]; exact Nat.le_of_ble_eq_true rfl) dX4_copyWithoutBags_91 ?_
    exact ⟨rfl, rfl⟩
  | succ m ih =>
    intro i hi
    intro SFi hSF
    subst hSF
    refine v_iload_n (pc := 52) dX4_copyWithoutBags_52 rfl rfl ?_
    refine v_iconst (pc := 53) (v := 5) dX4_copyWithoutBags_53 rfl ?_
    refine v_icmp_ge (pc := 54) (tgt := 91) dX4_copyWithoutBags_54 (by decide) (fun c54 => absurd c54 (nI_ge (a := i) (b := 5) (by omega) (by decide))) (fun c54 => ?_)
    have c54 : ¬ 5 ≤ i := fun h => c54 ((nI_leI (a := 5) (b := i) (by omega) (by omega)).mpr h)
    refine v_aload_nR (pc := 57) dX4_copyWithoutBags_57 rfl rfl ?_
    refine v_iload_n (pc := 58) dX4_copyWithoutBags_58 rfl rfl ?_
    by_cases c59 : i < sc2
    · refine v_callV1 (pc := 59) (c_X4_sleighAt_k hps2 hsc2 hbc c59) cm_X4_sleighAt q319 q320 q321 (ci := 4) rfl rfl (orcO 0 rfl) [0, 1, 2, 3, 4, 5, 6, 7, 8, 9, 10, 11, 12, 13, 14, 15, 16] (by rfl) (by decide) (fun _ _ h => h) (by decide) (by decide) (by decide) (Nat.le_of_ble_eq_true rfl) dX4_copyWithoutBags_59 (fun v59 M59 hQ59 => ?_)
      obtain ⟨rfl, rfl⟩ := hQ59
      try dsimp only [wb, LakeM, WaysM, WorldM, List.set_cons_succ, List.set_cons_zero, List.append_nil, List.nil_append, List.cons_append, Option.toList, Nat.sub_zero]
      refine v_astore_nR (pc := 62) dX4_copyWithoutBags_62 rfl (by decide) rfl ?_
      refine v_aload_nR (pc := 63) dX4_copyWithoutBags_63 rfl rfl ?_
      refine v_iload_n (pc := 64) dX4_copyWithoutBags_64 rfl rfl ?_
      refine v_callV1 (pc := 65) (c_X4_sleighAt_k hps2 hsc2 hbc2 c59) cm_X4_sleighAt q319 q320 q321 (ci := 4) rfl rfl (orcO 17 rfl) [17, 18, 19, 20, 21, 22, 23, 24, 25, 26, 27, 28, 29, 30, 31, 32, 33] (by rfl) (by decide) (fun _ _ h => h) (by decide) (by decide) (by decide) (Nat.le_of_ble_eq_true rfl) dX4_copyWithoutBags_65 (fun v65 M65 hQ65 => ?_)
      obtain ⟨rfl, rfl⟩ := hQ65
      try dsimp only [wb, LakeM, WaysM, WorldM, List.set_cons_succ, List.set_cons_zero, List.append_nil, List.nil_append, List.cons_append, Option.toList, Nat.sub_zero]
      refine v_astoreR (pc := 68) dX4_copyWithoutBags_68 (by decide) rfl ?_
      refine v_aload_nR (pc := 70) dX4_copyWithoutBags_70 rfl rfl ?_
      refine v_ifnullR (pc := 71) dX4_copyWithoutBags_71 ?_
      refine v_aloadR (pc := 74) dX4_copyWithoutBags_74 rfl ?_
      refine v_ifnullR (pc := 76) dX4_copyWithoutBags_76 ?_
      refine v_aload_nR (pc := 79) dX4_copyWithoutBags_79 rfl rfl ?_
      refine v_aloadR (pc := 80) dX4_copyWithoutBags_80 rfl ?_
      refine v_callV1 (pc := 82) (c_X2_copySleigh (n := 5) (i := i) (by omega)) cm_X2_copySleigh q567 q568 q569 (ci := 2) rfl rfl (orcF 15 rfl (by omega)) [15, 32] (by rfl) (by decide) (fun _ _ h => h) (by decide) (by decide) (by decide) (Nat.le_of_ble_eq_true rfl) dX4_copyWithoutBags_82 (fun v82 M82 hQ82 => ?_)
      obtain ⟨rfl, rfl⟩ := hQ82
      try dsimp only [wb, LakeM, WaysM, WorldM, List.set_cons_succ, List.set_cons_zero, List.append_nil, List.nil_append, List.cons_append, Option.toList, Nat.sub_zero]
      refine v_iinc (pc := 85) (v := nI (i + 1)) dX4_copyWithoutBags_85 rfl (nI_1 _) (by decide) rfl ?_
      refine v_goto (pc := 88) (tgt := 52) dX4_copyWithoutBags_88 (by decide) ?_
      have k9 := ih (i + 1) (by omega) _ (cpF_s SF SF2 c59)
      refine v_sub ?_ k9
      exact ⟨rfl, rfl, rfl, trivial⟩
    · refine v_callV1 (pc := 59) (c_X4_sleighAt_n hps2 hsc2 hbc (nk_no c59 (by omega) (by omega))) cm_X4_sleighAt q319 q320 q321 (ci := 4) rfl rfl (orcO 0 rfl) [0, 1, 2, 3, 4, 5, 6, 7, 8, 9, 10, 11, 12, 13, 14, 15, 16] (by rfl) (by decide) (fun _ _ h => h) (by decide) (by decide) (by decide) (Nat.le_of_ble_eq_true rfl) dX4_copyWithoutBags_59 (fun v59 M59 hQ59 => ?_)
      obtain ⟨rfl, rfl⟩ := hQ59
      try dsimp only [wb, LakeM, WaysM, WorldM, List.set_cons_succ, List.set_cons_zero, List.append_nil, List.nil_append, List.cons_append, Option.toList, Nat.sub_zero]
      refine v_astore_nN (pc := 62) dX4_copyWithoutBags_62 rfl (by decide) rfl ?_
      refine v_aload_nR (pc := 63) dX4_copyWithoutBags_63 rfl rfl ?_
      refine v_iload_n (pc := 64) dX4_copyWithoutBags_64 rfl rfl ?_
      refine v_callV1 (pc := 65) (c_X4_sleighAt_n hps2 hsc2 hbc2 (nk_no c59 (by omega) (by omega))) cm_X4_sleighAt q319 q320 q321 (ci := 4) rfl rfl (orcO 17 rfl) [17, 18, 19, 20, 21, 22, 23, 24, 25, 26, 27, 28, 29, 30, 31, 32, 33] (by rfl) (by decide) (fun _ _ h => h) (by decide) (by decide) (by decide) (Nat.le_of_ble_eq_true rfl) dX4_copyWithoutBags_65 (fun v65 M65 hQ65 => ?_)
      obtain ⟨rfl, rfl⟩ := hQ65
      try dsimp only [wb, LakeM, WaysM, WorldM, List.set_cons_succ, List.set_cons_zero, List.append_nil, List.nil_append, List.cons_append, Option.toList, Nat.sub_zero]
      refine v_astoreN (pc := 68) dX4_copyWithoutBags_68 (by decide) rfl ?_
      refine v_aload_nN (pc := 70) dX4_copyWithoutBags_70 rfl rfl ?_
      refine v_ifnullN (pc := 71) (tgt := 85) dX4_copyWithoutBags_71 (by decide) ?_
      refine v_iinc (pc := 85) (v := nI (i + 1)) dX4_copyWithoutBags_85 rfl (nI_1 _) (by decide) rfl ?_
      refine v_goto (pc := 88) (tgt := 52) dX4_copyWithoutBags_88 (by decide) ?_
      have k9 := ih (i + 1) (by omega) _ (cpF_k SF SF2 c59)
      refine v_sub ?_ k9
      exact ⟨rfl, rfl, rfl, trivial⟩
set_option maxRecDepth 100000 in
set_option maxHeartbeats 4000000 in
theorem c_X4_copyWithoutBags {G : Cx} {w : Nat → Nat} {a b f : Nat → Int32} {wa : Int32} {lr : Value} {nd dg : Int32} {T N S C B O : Nat → Int32} {ch : Int32} {PC : Nat → Int32} {SF BF : Nat → Nat → Int32} {ps sc bc hh : Nat} {u : Nat → Nat} {a2 b2 f2 : Nat → Int32} {wa2 : Int32} {lr2 : Value} {nd2 dg2 : Int32} {T2 N2 S2 C2 B2 O2 : Nat → Int32} {ch2 : Int32} {PC2 : Nat → Int32} {SF2 BF2 : Nat → Nat → Int32} {ps2 sc2 bc2 hh2 : Nat} (hps2 : ps2 ≤ 8) (hsc2 : sc2 ≤ 5) (hbc : bc ≤ 40) (hbc2 : bc2 ≤ 40) (hC : ∀ j, vp_nar .boolean (C2 j) = C2 j) : Mt G Y_X4_copyWithoutBags 2 0 0 [.ref (w 0), .ref (u 0)] (WorldM w a b f wa lr nd dg T N S C B O ch PC SF BF ps sc bc hh ++ WorldM u a2 b2 f2 wa2 lr2 nd2 dg2 T2 N2 S2 C2 B2 O2 ch2 PC2 SF2 BF2 ps2 sc2 bc2 hh2) (fun v M' => v = none ∧ M' = WorldM w a b f wa lr nd dg T2 N2 S2 C2 B O2 ch PC2 (cpN SF SF2 sc2) BF ps2 sc2 bc hh2 ++ WorldM u a2 b2 f2 wa2 lr2 nd2 dg2 T2 N2 S2 C2 B2 O2 ch2 PC2 SF2 BF2 ps2 sc2 bc2 hh2) noX := by
  refine Mt.of (L := [some (.ref (w 0)), some (.ref (u 0)), none, none, none]) rfl (by decide) (by simp [lg_sl, Value.category]) ⟨rfl, rfl, trivial⟩ (fun sz => ?_)
  refine v_aload_nR (pc := 0) dX4_copyWithoutBags_0 rfl rfl ?_
  refine v_get (pc := 1) 1 0 fg_X4_21 rfl rfl dX4_copyWithoutBags_1 ?_
  refine v_aload_nR (pc := 4) dX4_copyWithoutBags_4 rfl rfl ?_
  refine v_get (pc := 5) 1 17 fg_X4_21 rfl rfl dX4_copyWithoutBags_5 ?_
  refine v_callV1 (pc := 8) (c_X1_copyLake hC) cm_X1_copyLake q559 q560 q561 (ci := 1) rfl rfl (orcO 5 rfl) [5, 6, 7, 8, 9, 10, 11, 22, 23, 24, 25, 26, 27, 28] (by rfl) (by decide) (fun _ _ h => h) (by decide) (by decide) (by decide) (Nat.le_of_ble_eq_true rfl) dX4_copyWithoutBags_8 (fun v8 M8 hQ8 => ?_)
  obtain ⟨rfl, rfl⟩ := hQ8
  try dsimp only [wb, LakeM, WaysM, WorldM, List.set_cons_succ, List.set_cons_zero, List.append_nil, List.nil_append, List.cons_append, Option.toList, Nat.sub_zero]
  refine v_aload_nR (pc := 11) dX4_copyWithoutBags_11 rfl rfl ?_
  refine v_get (pc := 12) 2 17 fg_X4_25 rfl rfl dX4_copyWithoutBags_12 ?_
  refine v_iconst (pc := 15) (v := 0) dX4_copyWithoutBags_15 rfl ?_
  refine v_aload_nR (pc := 16) dX4_copyWithoutBags_16 rfl rfl ?_
  refine v_get (pc := 17) 2 0 fg_X4_25 rfl rfl dX4_copyWithoutBags_17 ?_
  refine v_iconst (pc := 20) (v := 0) dX4_copyWithoutBags_20 rfl ?_
  refine v_bipush (pc := 21) (v := 8) dX4_copyWithoutBags_21 rfl ?_
  refine v_copyi (pc := 23) 29 12 rfl rfl q566 q565 q564 q17 (by decide) (by decide) (by decide) (by decide) (by decide) (by decide) (Nat.le_of_ble_eq_true rfl) dX4_copyWithoutBags_23 ?_
  simp only [clamp0, clamp8]
  refine v_cgI 12 (g := PC2) rfl cpy_all ?_
  try dsimp only [wb, LakeM, WaysM, WorldM, List.set_cons_succ, List.set_cons_zero, List.append_nil, List.nil_append, List.cons_append, Option.toList, Nat.sub_zero]
  refine v_aload_nR (pc := 26) dX4_copyWithoutBags_26 rfl rfl ?_
  refine v_aload_nR (pc := 27) dX4_copyWithoutBags_27 rfl rfl ?_
  refine v_get (pc := 28) 5 17 fg_X4_53 rfl rfl dX4_copyWithoutBags_28 ?_
  refine v_put (pc := 31) 5 0 fp_X4_copyWithoutBags_53 rfl rfl rfl (Nat.le_of_ble_eq_true rfl) dX4_copyWithoutBags_31 ?_
  try dsimp only [wb, LakeM, WaysM, WorldM, List.set_cons_succ, List.set_cons_zero, List.append_nil, List.nil_append, List.cons_append, Option.toList, Nat.sub_zero]
  refine v_aload_nR (pc := 34) dX4_copyWithoutBags_34 rfl rfl ?_
  refine v_aload_nR (pc := 35) dX4_copyWithoutBags_35 rfl rfl ?_
  refine v_get (pc := 36) 6 17 fg_X4_57 rfl rfl dX4_copyWithoutBags_36 ?_
  refine v_put (pc := 39) 6 0 fp_X4_copyWithoutBags_57 rfl rfl rfl (Nat.le_of_ble_eq_true rfl) dX4_copyWithoutBags_39 ?_
  try dsimp only [wb, LakeM, WaysM, WorldM, List.set_cons_succ, List.set_cons_zero, List.append_nil, List.nil_append, List.cons_append, Option.toList, Nat.sub_zero]
  refine v_aload_nR (pc := 42) dX4_copyWithoutBags_42 rfl rfl ?_
  refine v_aload_nR (pc := 43) dX4_copyWithoutBags_43 rfl rfl ?_
  refine v_get (pc := 44) 8 17 fg_X4_60 rfl rfl dX4_copyWithoutBags_44 ?_
  refine v_put (pc := 47) 8 0 fp_X4_copyWithoutBags_60 rfl rfl rfl (Nat.le_of_ble_eq_true rfl) dX4_copyWithoutBags_47 ?_
  try dsimp only [wb, LakeM, WaysM, WorldM, List.set_cons_succ, List.set_cons_zero, List.append_nil, List.nil_append, List.cons_append, Option.toList, Nat.sub_zero]
  refine v_iconst (pc := 50) (v := 0) dX4_copyWithoutBags_50 rfl ?_
  refine v_istore_n (pc := 51) dX4_copyWithoutBags_51 rfl (by decide) rfl ?_
  refine v_sub (L' := [some (.ref (w 0)), some (.ref (u 0)), some (.int (nI 0)), none, none]) ⟨rfl, rfl, rfl, trivial⟩ ?_
  exact lp_X4_copy hps2 hsc2 hbc hbc2 rfl 5 0 (by omega) _ (cpF_0 SF SF2).symm
