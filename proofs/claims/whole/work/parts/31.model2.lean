/-! the reference: sums, weights, what it tells -/
theorem r60 {r : Int32} (hr : 1 ≤ r.toInt ∧ r.toInt ≤ 6) : ¬ 60 * r = 0 := by
  obtain ⟨j, hj, rfl⟩ := nI_mk (x := r) (n := 7) (by omega) (by omega) (by decide)
  rw [nI_toInt (by omega)] at hr
  rcases (show j = 1 ∨ j = 2 ∨ j = 3 ∨ j = 4 ∨ j = 5 ∨ j = 6 by omega) with rfl | rfl | rfl | rfl | rfl | rfl <;> decide
theorem sum_0z {F : Nat → Int32} {i : Nat} (h : F i = 0) : sumN F i + 0 = sumN F (i + 1) := by
  rw [Int32.add_zero]; exact sum_0 h
theorem sum_x {F : Nat → Int32} {i : Nat} {A q x : Int32} (hq : q = A + sumN F i) (h : F i = x) : q + x = A + sumN F (i + 1) := by
  show _ = A + (sumN F i + F i)
  rw [hq, h, Int32.add_assoc]
def ndC (C : Nat → Int32) (k : Nat) (nd : Int32) : Int32 := if C k = 0 then nd else 2 * nd
theorem ndC_1 {C : Nat → Int32} {k : Nat} {nd : Int32} (h : C k = 1) : nd * 2 = ndC C k nd := by
  unfold ndC
  rw [if_neg (by rw [h]; decide), Int32.mul_comm]
theorem ndC_0 {C : Nat → Int32} {k : Nat} {nd : Int32} (h01 : C k = 0 ∨ C k = 1) (h : ¬ C k = 1) : nd * 1 = ndC C k nd := by
  unfold ndC
  rw [if_pos (h01.resolve_right h), Int32.mul_one]
set_option maxRecDepth 100000 in
set_option maxHeartbeats 4000000 in
theorem c_X6_make {G : Cx} {z : Nat → Nat} {th : Int32} {N O PC T S C : Nat → Int32} {ps sc bc hh : Nat} {SF BF : Nat → Nat → Int32} {MX H W : Nat → Int32} (hps : ps ≤ 8) (hsc : sc ≤ 5) (hbc : bc ≤ 40) {k : Nat} {t : Int32} (hk : k < 160) : Mt G Y_X6_make 0 0 0 [.ref (z 0), .int (nI k), .int t] (ModelM z th N O PC ps sc bc T S C SF MX BF hh H W) (fun v M' => v = none ∧ M' = ModelM z th N O PC ps sc bc (upd T k t) (upd S k 0) (upd C k 0) SF MX BF hh H W) noX := by
  refine Mt.of (L := [some (.ref (z 0)), some (.int (nI k)), some (.int t)]) rfl (by decide) (by simp [lg_sl, Value.category]) ⟨rfl, rfl, rfl, trivial⟩ (fun sz => ?_)
  refine v_aload_nR (pc := 0) dX6_make_0 rfl rfl ?_
  refine v_get (pc := 1) 7 0 fg_X6_19 rfl rfl dX6_make_1 ?_
  refine v_iload_n (pc := 4) dX6_make_4 rfl rfl ?_
  refine v_iload_n (pc := 5) dX6_make_5 rfl rfl ?_
  refine v_iastN (pc := 6) 4 (k := k) rfl (by omega) (by decide) dX6_make_6 ?_
  try dsimp only [wb, ModelM, List.set_cons_succ, List.set_cons_zero, List.append_nil, List.nil_append, List.cons_append, Option.toList, Nat.sub_zero]
  refine v_aload_nR (pc := 7) dX6_make_7 rfl rfl ?_
  refine v_get (pc := 8) 8 0 fg_X6_22 rfl rfl dX6_make_8 ?_
  refine v_iload_n (pc := 11) dX6_make_11 rfl rfl ?_
  refine v_iconst (pc := 12) (v := 0) dX6_make_12 rfl ?_
  refine v_iastN (pc := 13) 5 (k := k) rfl (by omega) (by decide) dX6_make_13 ?_
  try dsimp only [wb, ModelM, List.set_cons_succ, List.set_cons_zero, List.append_nil, List.nil_append, List.cons_append, Option.toList, Nat.sub_zero]
  refine v_aload_nR (pc := 14) dX6_make_14 rfl rfl ?_
  refine v_get (pc := 15) 9 0 fg_X6_25 rfl rfl dX6_make_15 ?_
  refine v_iload_n (pc := 18) dX6_make_18 rfl rfl ?_
  refine v_iconst (pc := 19) (v := 0) dX6_make_19 rfl ?_
  refine v_iastN (pc := 20) 6 (k := k) rfl (by omega) (by decide) dX6_make_20 ?_
  try dsimp only [wb, ModelM, List.set_cons_succ, List.set_cons_zero, List.append_nil, List.nil_append, List.cons_append, Option.toList, Nat.sub_zero]
  refine v_vret (pc := 21) rfl (Nat.le_of_ble_eq_true rfl) dX6_make_21 ?_
  exact ⟨rfl, rfl⟩
set_option maxRecDepth 100000 in
set_option maxHeartbeats 4000000 in
theorem lp_X6_postAt {G : Cx} {z : Nat → Nat} {th : Int32} {N O PC T S C : Nat → Int32} {ps sc bc hh : Nat} {SF BF : Nat → Nat → Int32} {MX H W : Nat → Int32} (hps : ps ≤ 8) (hsc : sc ≤ 5) (hbc : bc ≤ 40) {sz : Nat} {c : Int32} : ∀ (m i : Nat), m + i = ps → ∀ r, pOn PC ps c (8 - i) i = r → V G Y_X6_postAt (ZM G (ModelM z th N O PC ps sc bc T S C SF MX BF hh H W) sz (fun v M' => v = some (.int (oI (r))) ∧ M' = ModelM z th N O PC ps sc bc T S C SF MX BF hh H W) noX) 0 0 0 2 [some (.ref (z 0)), some (.int c), some (.int (nI i))] [] (ModelM z th N O PC ps sc bc T S C SF MX BF hh H W) := by
  intro m
  induction m with
  | zero =>
    intro i hi
    have hi2 : i = ps := by omega
    intro r hr
    rw [pOn_stop _ i (by omega)] at hr
    obtain rfl : none = r := hr
    refine v_iload_n (pc := 2) dX6_postAt_2 rfl rfl ?_
    refine v_aload_nR (pc := 3) dX6_postAt_3 rfl rfl ?_
    refine v_get (pc := 4) 3 0 fg_X6_52 rfl rfl dX6_postAt_4 ?_
    refine v_icmp_ge (pc := 7) (tgt := 28) dX6_postAt_7 (by decide) (fun c7 => ?_) (fun c7 => absurd (nI_le (a := ps) (b := i) (by omega) (by omega)) c7)
    have c7 : ps ≤ i := (nI_leI (a := ps) (b := i) (by omega) (by omega)).mp c7
    refine v_iconst (pc := 28) (v := -1) dX6_postAt_28 rfl ?_
    refine v_iret (pc := 29) rfl rfl (Nat.le_of_ble_eq_true rfl) dX6_postAt_29 ?_
    exact ⟨rfl, rfl⟩
  | succ m ih =>
    intro i hi
    intro r hr
    rw [show 8 - i = (8 - (i + 1)) + 1 by omega] at hr
    unfold pOn at hr
    refine v_iload_n (pc := 2) dX6_postAt_2 rfl rfl ?_
    refine v_aload_nR (pc := 3) dX6_postAt_3 rfl rfl ?_
    refine v_get (pc := 4) 3 0 fg_X6_52 rfl rfl dX6_postAt_4 ?_
    refine v_icmp_ge (pc := 7) (tgt := 28) dX6_postAt_7 (by decide) (fun c7 => absurd c7 (nI_ge (a := i) (b := ps) (by omega) (by omega))) (fun c7 => ?_)
    have c7 : ¬ ps ≤ i := fun h => c7 ((nI_leI (a := ps) (b := i) (by omega) (by omega)).mpr h)
    refine v_aload_nR (pc := 10) dX6_postAt_10 rfl rfl ?_
    refine v_get (pc := 11) 4 0 fg_X6_16 rfl rfl dX6_postAt_11 ?_
    refine v_iload_n (pc := 14) dX6_postAt_14 rfl rfl ?_
    refine v_ialdN (pc := 15) 3 (k := i) rfl (by omega) (by decide) dX6_postAt_15 ?_
    refine v_iload_n (pc := 16) dX6_postAt_16 rfl rfl ?_
    refine v_icmp_ne (pc := 17) (tgt := 22) dX6_postAt_17 (by decide) (fun c17 => ?_) (fun c17 => ?_)
    · refine v_iinc (pc := 22) (v := nI (i + 1)) dX6_postAt_22 rfl (nI_1 _) (by decide) rfl ?_
      refine v_goto (pc := 25) (tgt := 2) dX6_postAt_25 (by decide) ?_
      rw [if_neg (fun h => c17 h.2)] at hr
      exact ih (i + 1) (by omega) r hr
    · refine v_iload_n (pc := 20) dX6_postAt_20 rfl rfl ?_
      refine v_iret (pc := 21) rfl rfl (Nat.le_of_ble_eq_true rfl) dX6_postAt_21 ?_
      rw [if_pos ⟨by omega, c17⟩] at hr
      exact ⟨by rw [← hr]; rfl, rfl⟩
set_option maxRecDepth 100000 in
set_option maxHeartbeats 4000000 in
theorem c_X6_postAt {G : Cx} {z : Nat → Nat} {th : Int32} {N O PC T S C : Nat → Int32} {ps sc bc hh : Nat} {SF BF : Nat → Nat → Int32} {MX H W : Nat → Int32} (hps : ps ≤ 8) (hsc : sc ≤ 5) (hbc : bc ≤ 40) {c : Int32} : Mt G Y_X6_postAt 0 0 0 [.ref (z 0), .int c] (ModelM z th N O PC ps sc bc T S C SF MX BF hh H W) (fun v M' => v = some (.int (oI (pOn PC ps c 8 0))) ∧ M' = ModelM z th N O PC ps sc bc T S C SF MX BF hh H W) noX := by
  refine Mt.of (L := [some (.ref (z 0)), some (.int c), none]) rfl (by decide) (by simp [lg_sl, Value.category]) ⟨rfl, rfl, trivial⟩ (fun sz => ?_)
  refine v_iconst (pc := 0) (v := 0) dX6_postAt_0 rfl ?_
  refine v_istore_n (pc := 1) dX6_postAt_1 rfl (by decide) rfl ?_
  exact lp_X6_postAt hps hsc hbc ps 0 (by omega) _ rfl
set_option maxRecDepth 100000 in
set_option maxHeartbeats 4000000 in
theorem lp_X6_sleighsAt {G : Cx} {z : Nat → Nat} {th : Int32} {N O PC T S C : Nat → Int32} {ps sc bc hh : Nat} {SF BF : Nat → Nat → Int32} {MX H W : Nat → Int32} (hps : ps ≤ 8) (hsc : sc ≤ 5) (hbc : bc ≤ 40) {sz : Nat} {c : Int32} : ∀ (m i : Nat), m + i = sc → V G Y_X6_sleighsAt (ZM G (ModelM z th N O PC ps sc bc T S C SF MX BF hh H W) sz (fun v M' => v = some (.int (sumN (onF SF sc c) 5)) ∧ M' = ModelM z th N O PC ps sc bc T S C SF MX BF hh H W) noX) 1 0 0 4 [some (.ref (z 0)), some (.int c), some (.int (sumN (onF SF sc c) i)), some (.int (nI i))] [] (ModelM z th N O PC ps sc bc T S C SF MX BF hh H W) := by
  intro m
  induction m with
  | zero =>
    intro i hi
    have hi2 : i = sc := by omega
    refine v_iload_n (pc := 4) dX6_sleighsAt_4 rfl rfl ?_
    refine v_aload_nR (pc := 5) dX6_sleighsAt_5 rfl rfl ?_
    refine v_get (pc := 6) 5 0 fg_X6_55 rfl rfl dX6_sleighsAt_6 ?_
    refine v_icmp_ge (pc := 9) (tgt := 46) dX6_sleighsAt_9 (by decide) (fun c9 => ?_) (fun c9 => absurd (nI_le (a := sc) (b := i) (by omega) (by omega)) c9)
    have c9 : sc ≤ i := (nI_leI (a := sc) (b := i) (by omega) (by omega)).mp c9
    refine v_iload_n (pc := 46) dX6_sleighsAt_46 rfl rfl ?_
    refine v_iret (pc := 47) rfl rfl (Nat.le_of_ble_eq_true rfl) dX6_sleighsAt_47 ?_
    exact ⟨by rw [sum_to (F := onF SF sc c) (m := 5) (n := i) (by omega) (fun j h1 h2 => if_neg (fun q => absurd q.1 (by omega)))], rfl⟩
  | succ m ih =>
    intro i hi
    refine v_iload_n (pc := 4) dX6_sleighsAt_4 rfl rfl ?_
    refine v_aload_nR (pc := 5) dX6_sleighsAt_5 rfl rfl ?_
    refine v_get (pc := 6) 5 0 fg_X6_55 rfl rfl dX6_sleighsAt_6 ?_
    refine v_icmp_ge (pc := 9) (tgt := 46) dX6_sleighsAt_9 (by decide) (fun c9 => absurd c9 (nI_ge (a := i) (b := sc) (by omega) (by omega))) (fun c9 => ?_)
    have c9 : ¬ sc ≤ i := fun h => c9 ((nI_leI (a := sc) (b := i) (by omega) (by omega)).mpr h)
    refine v_iload_n (pc := 12) dX6_sleighsAt_12 rfl rfl ?_
    refine v_aload_nR (pc := 13) dX6_sleighsAt_13 rfl rfl ?_
    refine v_iload_n (pc := 14) dX6_sleighsAt_14 rfl rfl ?_
    refine v_iconst (pc := 15) (v := 2) dX6_sleighsAt_15 rfl ?_
    refine v_callV2 (pc := 16) (c_X6_sl2 hps hsc hbc (by omega)) cm_X6_sl q874 q876 qs19 (ci := 6) rfl rfl (orcO 0 rfl) [0, 1, 2, 3, 4, 5, 6, 7, 8, 9, 10, 11] (by rfl) (by decide) (fun _ _ h => h) (by decide) (by decide) (by decide) (Nat.le_of_ble_eq_true rfl) dX6_sleighsAt_16 (fun v16 M16 hQ16 => ?_)
    obtain ⟨rfl, rfl⟩ := hQ16
    try dsimp only [wb, ModelM, List.set_cons_succ, List.set_cons_zero, List.append_nil, List.nil_append, List.cons_append, Option.toList, Nat.sub_zero]
    refine v_iconst (pc := 19) (v := 2) dX6_sleighsAt_19 rfl ?_
    refine v_icmp_eq (pc := 20) (tgt := 37) dX6_sleighsAt_20 (by decide) (fun c20 => ?_) (fun c20 => ?_)
    · refine v_iconst (pc := 37) (v := 0) dX6_sleighsAt_37 rfl ?_
      refine v_iadd (pc := 38) dX6_sleighsAt_38 ?_
      refine v_istore_n (pc := 39) dX6_sleighsAt_39 rfl (by decide) rfl ?_
      refine v_iinc (pc := 40) (v := nI (i + 1)) dX6_sleighsAt_40 rfl (nI_1 _) (by decide) rfl ?_
      refine v_goto (pc := 43) (tgt := 4) dX6_sleighsAt_43 (by decide) ?_
      have e : sumN (onF SF sc c) i + 0 = sumN (onF SF sc c) (i + 1) := sum_0z (if_neg (fun h => h.2.1 c20))
      have k9 := ih (i + 1) (by omega)
      rw [← e] at k9
      exact k9
    · refine v_aload_nR (pc := 23) dX6_sleighsAt_23 rfl rfl ?_
      refine v_iload_n (pc := 24) dX6_sleighsAt_24 rfl rfl ?_
      refine v_iconst (pc := 25) (v := 3) dX6_sleighsAt_25 rfl ?_
      refine v_callV2 (pc := 26) (c_X6_sl3 hps hsc hbc (by omega)) cm_X6_sl q874 q876 qs19 (ci := 6) rfl rfl (orcO 0 rfl) [0, 1, 2, 3, 4, 5, 6, 7, 8, 9, 10, 11] (by rfl) (by decide) (fun _ _ h => h) (by decide) (by decide) (by decide) (Nat.le_of_ble_eq_true rfl) dX6_sleighsAt_26 (fun v26 M26 hQ26 => ?_)
      obtain ⟨rfl, rfl⟩ := hQ26
      try dsimp only [wb, ModelM, List.set_cons_succ, List.set_cons_zero, List.append_nil, List.nil_append, List.cons_append, Option.toList, Nat.sub_zero]
      refine v_iload_n (pc := 29) dX6_sleighsAt_29 rfl rfl ?_
      refine v_icmp_ne (pc := 30) (tgt := 37) dX6_sleighsAt_30 (by decide) (fun c30 => ?_) (fun c30 => ?_)
      · refine v_iconst (pc := 37) (v := 0) dX6_sleighsAt_37 rfl ?_
        refine v_iadd (pc := 38) dX6_sleighsAt_38 ?_
        refine v_istore_n (pc := 39) dX6_sleighsAt_39 rfl (by decide) rfl ?_
        refine v_iinc (pc := 40) (v := nI (i + 1)) dX6_sleighsAt_40 rfl (nI_1 _) (by decide) rfl ?_
        refine v_goto (pc := 43) (tgt := 4) dX6_sleighsAt_43 (by decide) ?_
        have e : sumN (onF SF sc c) i + 0 = sumN (onF SF sc c) (i + 1) := sum_0z (if_neg (fun h => c30 h.2.2))
        have k9 := ih (i + 1) (by omega)
        rw [← e] at k9
        exact k9
      · refine v_iconst (pc := 33) (v := 1) dX6_sleighsAt_33 rfl ?_
        refine v_goto (pc := 34) (tgt := 38) dX6_sleighsAt_34 (by decide) ?_
        refine v_iadd (pc := 38) dX6_sleighsAt_38 ?_
        refine v_istore_n (pc := 39) dX6_sleighsAt_39 rfl (by decide) rfl ?_
        refine v_iinc (pc := 40) (v := nI (i + 1)) dX6_sleighsAt_40 rfl (nI_1 _) (by decide) rfl ?_
        refine v_goto (pc := 43) (tgt := 4) dX6_sleighsAt_43 (by decide) ?_
        have e : sumN (onF SF sc c) i + 1 = sumN (onF SF sc c) (i + 1) := sum_1 (if_pos ⟨by omega, c20, c30⟩)
        have k9 := ih (i + 1) (by omega)
        rw [← e] at k9
        exact k9
set_option maxRecDepth 100000 in
set_option maxHeartbeats 4000000 in
theorem c_X6_sleighsAt {G : Cx} {z : Nat → Nat} {th : Int32} {N O PC T S C : Nat → Int32} {ps sc bc hh : Nat} {SF BF : Nat → Nat → Int32} {MX H W : Nat → Int32} (hps : ps ≤ 8) (hsc : sc ≤ 5) (hbc : bc ≤ 40) {c : Int32} : Mt G Y_X6_sleighsAt 1 0 0 [.ref (z 0), .int c] (ModelM z th N O PC ps sc bc T S C SF MX BF hh H W) (fun v M' => v = some (.int (sumN (onF SF sc c) 5)) ∧ M' = ModelM z th N O PC ps sc bc T S C SF MX BF hh H W) noX := by
  refine Mt.of (L := [some (.ref (z 0)), some (.int c), none, none]) rfl (by decide) (by simp [lg_sl, Value.category]) ⟨rfl, rfl, trivial⟩ (fun sz => ?_)
  refine v_iconst (pc := 0) (v := 0) dX6_sleighsAt_0 rfl ?_
  refine v_istore_n (pc := 1) dX6_sleighsAt_1 rfl (by decide) rfl ?_
  refine v_iconst (pc := 2) (v := 0) dX6_sleighsAt_2 rfl ?_
  refine v_istore_n (pc := 3) dX6_sleighsAt_3 rfl (by decide) rfl ?_
  exact lp_X6_sleighsAt hps hsc hbc sc 0 (by omega)
set_option maxRecDepth 100000 in
set_option maxHeartbeats 4000000 in
theorem lp_X6_bagsWith {G : Cx} {z : Nat → Nat} {th : Int32} {N O PC T S C : Nat → Int32} {ps sc bc hh : Nat} {SF BF : Nat → Nat → Int32} {MX H W : Nat → Int32} (hps : ps ≤ 8) (hsc : sc ≤ 5) (hbc : bc ≤ 40) {sz : Nat} {c : Int32} : ∀ (m i : Nat), m + i = bc → V G Y_X6_bagsWith (ZM G (ModelM z th N O PC ps sc bc T S C SF MX BF hh H W) sz (fun v M' => v = some (.int (sumN (btF BF bc c) 40)) ∧ M' = ModelM z th N O PC ps sc bc T S C SF MX BF hh H W) noX) 1 0 0 4 [some (.ref (z 0)), some (.int c), some (.int (sumN (btF BF bc c) i)), some (.int (nI i))] [] (ModelM z th N O PC ps sc bc T S C SF MX BF hh H W) := by
  intro m
  induction m with
  | zero =>
    intro i hi
    have hi2 : i = bc := by omega
    refine v_iload_n (pc := 4) dX6_bagsWith_4 rfl rfl ?_
    refine v_aload_nR (pc := 5) dX6_bagsWith_5 rfl rfl ?_
    refine v_get (pc := 6) 6 0 fg_X6_90 rfl rfl dX6_bagsWith_6 ?_
    refine v_icmp_ge (pc := 9) (tgt := 36) dX6_bagsWith_9 (by decide) (fun c9 => ?_) (fun c9 => absurd (nI_le (a := bc) (b := i) (by omega) (by omega)) c9)
    have c9 : bc ≤ i := (nI_leI (a := bc) (b := i) (by omega) (by omega)).mp c9
    refine v_iload_n (pc := 36) dX6_bagsWith_36 rfl rfl ?_
    refine v_iret (pc := 37) rfl rfl (Nat.le_of_ble_eq_true rfl) dX6_bagsWith_37 ?_
    exact ⟨by rw [sum_to (F := btF BF bc c) (m := 40) (n := i) (by omega) (fun j h1 h2 => if_neg (fun q => absurd q.1 (by omega)))], rfl⟩
  | succ m ih =>
    intro i hi
    refine v_iload_n (pc := 4) dX6_bagsWith_4 rfl rfl ?_
    refine v_aload_nR (pc := 5) dX6_bagsWith_5 rfl rfl ?_
    refine v_get (pc := 6) 6 0 fg_X6_90 rfl rfl dX6_bagsWith_6 ?_
    refine v_icmp_ge (pc := 9) (tgt := 36) dX6_bagsWith_9 (by decide) (fun c9 => absurd c9 (nI_ge (a := i) (b := bc) (by omega) (by omega))) (fun c9 => ?_)
    have c9 : ¬ bc ≤ i := fun h => c9 ((nI_leI (a := bc) (b := i) (by omega) (by omega)).mpr h)
    refine v_iload_n (pc := 12) dX6_bagsWith_12 rfl rfl ?_
    refine v_aload_nR (pc := 13) dX6_bagsWith_13 rfl rfl ?_
    refine v_iload_n (pc := 14) dX6_bagsWith_14 rfl rfl ?_
    refine v_iconst (pc := 15) (v := 2) dX6_bagsWith_15 rfl ?_
    refine v_callV2 (pc := 16) (c_X6_ba2 hps hsc hbc (by omega)) cm_X6_ba q919 q921 qs23 (ci := 6) rfl rfl (orcO 0 rfl) [0, 1, 2, 3, 4, 5, 6, 7, 8, 9, 10, 11] (by rfl) (by decide) (fun _ _ h => h) (by decide) (by decide) (by decide) (Nat.le_of_ble_eq_true rfl) dX6_bagsWith_16 (fun v16 M16 hQ16 => ?_)
    obtain ⟨rfl, rfl⟩ := hQ16
    try dsimp only [wb, ModelM, List.set_cons_succ, List.set_cons_zero, List.append_nil, List.nil_append, List.cons_append, Option.toList, Nat.sub_zero]
    refine v_iload_n (pc := 19) dX6_bagsWith_19 rfl rfl ?_
    refine v_icmp_ne (pc := 20) (tgt := 27) dX6_bagsWith_20 (by decide) (fun c20 => ?_) (fun c20 => ?_)
    · refine v_iconst (pc := 27) (v := 0) dX6_bagsWith_27 rfl ?_
      refine v_iadd (pc := 28) dX6_bagsWith_28 ?_
      refine v_istore_n (pc := 29) dX6_bagsWith_29 rfl (by decide) rfl ?_
      refine v_iinc (pc := 30) (v := nI (i + 1)) dX6_bagsWith_30 rfl (nI_1 _) (by decide) rfl ?_
      refine v_goto (pc := 33) (tgt := 4) dX6_bagsWith_33 (by decide) ?_
      have e : sumN (btF BF bc c) i + 0 = sumN (btF BF bc c) (i + 1) := sum_0z (if_neg (fun h => c20 h.2))
      have k9 := ih (i + 1) (by omega)
      rw [← e] at k9
      exact k9
    · refine v_iconst (pc := 23) (v := 1) dX6_bagsWith_23 rfl ?_
      refine v_goto (pc := 24) (tgt := 28) dX6_bagsWith_24 (by decide) ?_
      refine v_iadd (pc := 28) dX6_bagsWith_28 ?_
      refine v_istore_n (pc := 29) dX6_bagsWith_29 rfl (by decide) rfl ?_
      refine v_iinc (pc := 30) (v := nI (i + 1)) dX6_bagsWith_30 rfl (nI_1 _) (by decide) rfl ?_
      refine v_goto (pc := 33) (tgt := 4) dX6_bagsWith_33 (by decide) ?_
      have e : sumN (btF BF bc c) i + 1 = sumN (btF BF bc c) (i + 1) := sum_1 (if_pos ⟨by omega, c20⟩)
      have k9 := ih (i + 1) (by omega)
      rw [← e] at k9
      exact k9
set_option maxRecDepth 100000 in
set_option maxHeartbeats 4000000 in
theorem c_X6_bagsWith {G : Cx} {z : Nat → Nat} {th : Int32} {N O PC T S C : Nat → Int32} {ps sc bc hh : Nat} {SF BF : Nat → Nat → Int32} {MX H W : Nat → Int32} (hps : ps ≤ 8) (hsc : sc ≤ 5) (hbc : bc ≤ 40) {c : Int32} : Mt G Y_X6_bagsWith 1 0 0 [.ref (z 0), .int c] (ModelM z th N O PC ps sc bc T S C SF MX BF hh H W) (fun v M' => v = some (.int (sumN (btF BF bc c) 40)) ∧ M' = ModelM z th N O PC ps sc bc T S C SF MX BF hh H W) noX := by
  refine Mt.of (L := [some (.ref (z 0)), some (.int c), none, none]) rfl (by decide) (by simp [lg_sl, Value.category]) ⟨rfl, rfl, trivial⟩ (fun sz => ?_)
  refine v_iconst (pc := 0) (v := 0) dX6_bagsWith_0 rfl ?_
  refine v_istore_n (pc := 1) dX6_bagsWith_1 rfl (by decide) rfl ?_
  refine v_iconst (pc := 2) (v := 0) dX6_bagsWith_2 rfl ?_
  refine v_istore_n (pc := 3) dX6_bagsWith_3 rfl (by decide) rfl ?_
  exact lp_X6_bagsWith hps hsc hbc bc 0 (by omega)
set_option maxRecDepth 100000 in
set_option maxHeartbeats 4000000 in
theorem c_X6_isOn {G : Cx} {z : Nat → Nat} {th : Int32} {N O PC T S C : Nat → Int32} {ps sc bc hh : Nat} {SF BF : Nat → Nat → Int32} {MX H W : Nat → Int32} (hps : ps ≤ 8) (hsc : sc ≤ 5) (hbc : bc ≤ 40) {i : Nat} {s : Int32} (hi : i < 40) : Mt G Y_X6_isOn 1 0 0 [.ref (z 0), .int (nI i), .int s] (ModelM z th N O PC ps sc bc T S C SF MX BF hh H W) (fun v M' => v = some (.int (bI (BF i 2 = 1 ∧ BF i 3 = s))) ∧ M' = ModelM z th N O PC ps sc bc T S C SF MX BF hh H W) noX := by
  refine Mt.of (L := [some (.ref (z 0)), some (.int (nI i)), some (.int s)]) rfl (by decide) (by simp [lg_sl, Value.category]) ⟨rfl, rfl, rfl, trivial⟩ (fun sz => ?_)
  refine v_aload_nR (pc := 0) dX6_isOn_0 rfl rfl ?_
  refine v_iload_n (pc := 1) dX6_isOn_1 rfl rfl ?_
  refine v_iconst (pc := 2) (v := 2) dX6_isOn_2 rfl ?_
  refine v_callV2 (pc := 3) (c_X6_ba2 hps hsc hbc (by omega)) cm_X6_ba q919 q921 qs23 (ci := 6) rfl rfl (orcO 0 rfl) [0, 1, 2, 3, 4, 5, 6, 7, 8, 9, 10, 11] (by rfl) (by decide) (fun _ _ h => h) (by decide) (by decide) (by decide) (Nat.le_of_ble_eq_true rfl) dX6_isOn_3 (fun v3 M3 hQ3 => ?_)
  obtain ⟨rfl, rfl⟩ := hQ3
  try dsimp only [wb, ModelM, List.set_cons_succ, List.set_cons_zero, List.append_nil, List.nil_append, List.cons_append, Option.toList, Nat.sub_zero]
  refine v_iconst (pc := 6) (v := 1) dX6_isOn_6 rfl ?_
  refine v_icmp_ne (pc := 7) (tgt := 24) dX6_isOn_7 (by decide) (fun c7 => ?_) (fun c7 => ?_)
  · refine v_iconst (pc := 24) (v := 0) dX6_isOn_24 rfl ?_
    refine v_iret (pc := 25) rfl rfl (Nat.le_of_ble_eq_true rfl) dX6_isOn_25 ?_
    exact ⟨by first | rw [bI_t ⟨by assumption, by assumption⟩] | rw [bI_f (fun h => absurd h.1 (by assumption))] | rw [bI_f (fun h => absurd h.2 (by assumption))], rfl⟩
  · refine v_aload_nR (pc := 10) dX6_isOn_10 rfl rfl ?_
    refine v_iload_n (pc := 11) dX6_isOn_11 rfl rfl ?_
    refine v_iconst (pc := 12) (v := 3) dX6_isOn_12 rfl ?_
    refine v_callV2 (pc := 13) (c_X6_ba3 hps hsc hbc (by omega)) cm_X6_ba q919 q921 qs23 (ci := 6) rfl rfl (orcO 0 rfl) [0, 1, 2, 3, 4, 5, 6, 7, 8, 9, 10, 11] (by rfl) (by decide) (fun _ _ h => h) (by decide) (by decide) (by decide) (Nat.le_of_ble_eq_true rfl) dX6_isOn_13 (fun v13 M13 hQ13 => ?_)
    obtain ⟨rfl, rfl⟩ := hQ13
    try dsimp only [wb, ModelM, List.set_cons_succ, List.set_cons_zero, List.append_nil, List.nil_append, List.cons_append, Option.toList, Nat.sub_zero]
    refine v_iload_n (pc := 16) dX6_isOn_16 rfl rfl ?_
    refine v_icmp_ne (pc := 17) (tgt := 24) dX6_isOn_17 (by decide) (fun c17 => ?_) (fun c17 => ?_)
    · refine v_iconst (pc := 24) (v := 0) dX6_isOn_24 rfl ?_
      refine v_iret (pc := 25) rfl rfl (Nat.le_of_ble_eq_true rfl) dX6_isOn_25 ?_
      exact ⟨by first | rw [bI_t ⟨by assumption, by assumption⟩] | rw [bI_f (fun h => absurd h.1 (by assumption))] | rw [bI_f (fun h => absurd h.2 (by assumption))], rfl⟩
    · refine v_iconst (pc := 20) (v := 1) dX6_isOn_20 rfl ?_
      refine v_goto (pc := 21) (tgt := 25) dX6_isOn_21 (by decide) ?_
      refine v_iret (pc := 25) rfl rfl (Nat.le_of_ble_eq_true rfl) dX6_isOn_25 ?_
      exact ⟨by first | rw [bI_t ⟨by assumption, by assumption⟩] | rw [bI_f (fun h => absurd h.1 (by assumption))] | rw [bI_f (fun h => absurd h.2 (by assumption))], rfl⟩
set_option maxRecDepth 100000 in
set_option maxHeartbeats 4000000 in
theorem lp_X6_weight {G : Cx} {z : Nat → Nat} {th : Int32} {N O PC T S C : Nat → Int32} {ps sc bc hh : Nat} {SF BF : Nat → Nat → Int32} {MX H W : Nat → Int32} (hps : ps ≤ 8) (hsc : sc ≤ 5) (hbc : bc ≤ 40) {sz : Nat} {s : Nat} {A : Int32} : ∀ (m i : Nat), m + i = bc → ∀ q, q = A + sumN (wgF BF bc (nI s)) i → V G Y_X6_weight (ZM G (ModelM z th N O PC ps sc bc T S C SF MX BF hh H W) sz (fun v M' => v = some (.int (A + sumN (wgF BF bc (nI s)) 40)) ∧ M' = ModelM z th N O PC ps sc bc T S C SF MX BF hh H W) noX) 2 0 0 15 [some (.ref (z 0)), some (.int (nI s)), some (.int q), some (.int (nI i))] [] (ModelM z th N O PC ps sc bc T S C SF MX BF hh H W) := by
  intro m
  induction m with
  | zero =>
    intro i hi
    have hi2 : i = bc := by omega
    intro q hq
    refine v_iload_n (pc := 15) dX6_weight_15 rfl rfl ?_
    refine v_aload_nR (pc := 16) dX6_weight_16 rfl rfl ?_
    refine v_get (pc := 17) 6 0 fg_X6_90 rfl rfl dX6_weight_17 ?_
    refine v_icmp_ge (pc := 20) (tgt := 51) dX6_weight_20 (by decide) (fun c20 => ?_) (fun c20 => absurd (nI_le (a := bc) (b := i) (by omega) (by omega)) c20)
    have c20 : bc ≤ i := (nI_leI (a := bc) (b := i) (by omega) (by omega)).mp c20
    refine v_iload_n (pc := 51) dX6_weight_51 rfl rfl ?_
    refine v_iret (pc := 52) rfl rfl (Nat.le_of_ble_eq_true rfl) dX6_weight_52 ?_
    exact ⟨by rw [hq, sum_to (F := wgF BF bc (nI s)) (m := 40) (n := i) (by omega) (fun j h1 h2 => if_neg (fun q => absurd q.1 (by omega)))], rfl⟩
  | succ m ih =>
    intro i hi
    intro q hq
    refine v_iload_n (pc := 15) dX6_weight_15 rfl rfl ?_
    refine v_aload_nR (pc := 16) dX6_weight_16 rfl rfl ?_
    refine v_get (pc := 17) 6 0 fg_X6_90 rfl rfl dX6_weight_17 ?_
    refine v_icmp_ge (pc := 20) (tgt := 51) dX6_weight_20 (by decide) (fun c20 => absurd c20 (nI_ge (a := i) (b := bc) (by omega) (by omega))) (fun c20 => ?_)
    have c20 : ¬ bc ≤ i := fun h => c20 ((nI_leI (a := bc) (b := i) (by omega) (by omega)).mpr h)
    refine v_iload_n (pc := 23) dX6_weight_23 rfl rfl ?_
    refine v_aload_nR (pc := 24) dX6_weight_24 rfl rfl ?_
    refine v_iload_n (pc := 25) dX6_weight_25 rfl rfl ?_
    refine v_iload_n (pc := 26) dX6_weight_26 rfl rfl ?_
    refine v_callV2 (pc := 27) (c_X6_isOn hps hsc hbc (by omega)) cm_X6_isOn q931 q933 qs26 (ci := 6) rfl rfl (orcO 0 rfl) [0, 1, 2, 3, 4, 5, 6, 7, 8, 9, 10, 11] (by rfl) (by decide) (fun _ _ h => h) (by decide) (by decide) (by decide) (Nat.le_of_ble_eq_true rfl) dX6_weight_27 (fun v27 M27 hQ27 => ?_)
    obtain ⟨rfl, rfl⟩ := hQ27
    try dsimp only [wb, ModelM, List.set_cons_succ, List.set_cons_zero, List.append_nil, List.nil_append, List.cons_append, Option.toList, Nat.sub_zero]
    refine v_if_eq (pc := 30) (tgt := 42) dX6_weight_30 (by decide) (fun c30 => ?_) (fun c30 => ?_)
    · have c30 := bI_0.mp c30
      refine v_iconst (pc := 42) (v := 0) dX6_weight_42 rfl ?_
      refine v_iadd (pc := 43) dX6_weight_43 ?_
      refine v_istore_n (pc := 44) dX6_weight_44 rfl (by decide) rfl ?_
      refine v_iinc (pc := 45) (v := nI (i + 1)) dX6_weight_45 rfl (nI_1 _) (by decide) rfl ?_
      refine v_goto (pc := 48) (tgt := 15) dX6_weight_48 (by decide) ?_
      exact ih (i + 1) (by omega) _ (sum_x hq (if_neg (fun h => c30 h.2)))
    · have c30 := bI_n.mp c30
      refine v_aload_nR (pc := 33) dX6_weight_33 rfl rfl ?_
      refine v_iload_n (pc := 34) dX6_weight_34 rfl rfl ?_
      refine v_iconst (pc := 35) (v := 0) dX6_weight_35 rfl ?_
      refine v_callV2 (pc := 36) (c_X6_ba0 hps hsc hbc (by omega)) cm_X6_ba q919 q921 qs23 (ci := 6) rfl rfl (orcO 0 rfl) [0, 1, 2, 3, 4, 5, 6, 7, 8, 9, 10, 11] (by rfl) (by decide) (fun _ _ h => h) (by decide) (by decide) (by decide) (Nat.le_of_ble_eq_true rfl) dX6_weight_36 (fun v36 M36 hQ36 => ?_)
      obtain ⟨rfl, rfl⟩ := hQ36
      try dsimp only [wb, ModelM, List.set_cons_succ, List.set_cons_zero, List.append_nil, List.nil_append, List.cons_append, Option.toList, Nat.sub_zero]
      refine v_goto (pc := 39) (tgt := 43) dX6_weight_39 (by decide) ?_
      refine v_iadd (pc := 43) dX6_weight_43 ?_
      refine v_istore_n (pc := 44) dX6_weight_44 rfl (by decide) rfl ?_
      refine v_iinc (pc := 45) (v := nI (i + 1)) dX6_weight_45 rfl (nI_1 _) (by decide) rfl ?_
      refine v_goto (pc := 48) (tgt := 15) dX6_weight_48 (by decide) ?_
      exact ih (i + 1) (by omega) _ (sum_x hq (if_pos ⟨by omega, c30⟩))
set_option maxRecDepth 100000 in
set_option maxHeartbeats 4000000 in
theorem c_X6_weight0 {G : Cx} {z : Nat → Nat} {th : Int32} {N O PC T S C : Nat → Int32} {ps sc bc hh : Nat} {SF BF : Nat → Nat → Int32} {MX H W : Nat → Int32} (hps : ps ≤ 8) (hsc : sc ≤ 5) (hbc : bc ≤ 40) {s : Nat} (hs : s < 5) : Mt G Y_X6_weight 2 0 0 [.ref (z 0), .int (nI s)] (ModelM z th N O PC ps sc bc T S C SF MX BF hh H W) (fun v M' => v = some (.int (40 + 30 * SF s 0 + sumN (wgF BF bc (nI s)) 40)) ∧ M' = ModelM z th N O PC ps sc bc T S C SF MX BF hh H W) noX := by
  refine Mt.of (L := [some (.ref (z 0)), some (.int (nI s)), none, none]) rfl (by decide) (by simp [lg_sl, Value.category]) ⟨rfl, rfl, trivial⟩ (fun sz => ?_)
  refine v_bipush (pc := 0) (v := 40) dX6_weight_0 rfl ?_
  refine v_bipush (pc := 2) (v := 30) dX6_weight_2 rfl ?_
  refine v_aload_nR (pc := 4) dX6_weight_4 rfl rfl ?_
  refine v_iload_n (pc := 5) dX6_weight_5 rfl rfl ?_
  refine v_iconst (pc := 6) (v := 0) dX6_weight_6 rfl ?_
  refine v_callV2 (pc := 7) (c_X6_sl0 hps hsc hbc (by omega)) cm_X6_sl q874 q876 qs19 (ci := 6) rfl rfl (orcO 0 rfl) [0, 1, 2, 3, 4, 5, 6, 7, 8, 9, 10, 11] (by rfl) (by decide) (fun _ _ h => h) (by decide) (by decide) (by decide) (Nat.le_of_ble_eq_true rfl) dX6_weight_7 (fun v7 M7 hQ7 => ?_)
  obtain ⟨rfl, rfl⟩ := hQ7
  try dsimp only [wb, ModelM, List.set_cons_succ, List.set_cons_zero, List.append_nil, List.nil_append, List.cons_append, Option.toList, Nat.sub_zero]
  refine v_imul (pc := 10) dX6_weight_10 ?_
  refine v_iadd (pc := 11) dX6_weight_11 ?_
  refine v_istore_n (pc := 12) dX6_weight_12 rfl (by decide) rfl ?_
  refine v_iconst (pc := 13) (v := 0) dX6_weight_13 rfl ?_
  refine v_istore_n (pc := 14) dX6_weight_14 rfl (by decide) rfl ?_
  exact lp_X6_weight hps hsc hbc bc 0 (by omega) _ (Int32.add_zero _).symm
theorem c_X6_weight {G : Cx} {z : Nat → Nat} {th : Int32} {N O PC T S C : Nat → Int32} {ps sc bc hh : Nat} {SF BF : Nat → Nat → Int32} {MX H W : Nat → Int32} (hps : ps ≤ 8) (hsc : sc ≤ 5) (hbc : bc ≤ 40) {s : Nat} (hs : s < 5) (hw : SF s 1 = sumN (wgF BF bc (nI s)) 40) : Mt G Y_X6_weight 2 0 0 [.ref (z 0), .int (nI s)] (ModelM z th N O PC ps sc bc T S C SF MX BF hh H W) (fun v M' => v = some (.int (slW SF s)) ∧ M' = ModelM z th N O PC ps sc bc T S C SF MX BF hh H W) noX := by
  have h := c_X6_weight0 (G := G) (z := z) (th := th) (N := N) (O := O) (PC := PC) (T := T) (S := S) (C := C) (hh := hh) (SF := SF) (BF := BF) (MX := MX) (H := H) (W := W) hps hsc hbc hs
  rw [← hw] at h
  exact h
set_option maxRecDepth 100000 in
set_option maxHeartbeats 4000000 in
theorem c_X6_needs {G : Cx} {z : Nat → Nat} {th : Int32} {N O PC T S C : Nat → Int32} {ps sc bc hh : Nat} {SF BF : Nat → Nat → Int32} {MX H W : Nat → Int32} (hps : ps ≤ 8) (hsc : sc ≤ 5) (hbc : bc ≤ 40) {k : Nat} {x : Int32} (hk : k < 160) (h01 : C k = 0 ∨ C k = 1) : Mt G Y_X6_needs 0 0 0 [.ref (z 0), .int (nI k), .int x] (ModelM z th N O PC ps sc bc T S C SF MX BF hh H W) (fun v M' => v = some (.int (ndC C k (8 + x / 12))) ∧ M' = ModelM z th N O PC ps sc bc T S C SF MX BF hh H W) noX := by
  refine Mt.of (L := [some (.ref (z 0)), some (.int (nI k)), some (.int x)]) rfl (by decide) (by simp [lg_sl, Value.category]) ⟨rfl, rfl, rfl, trivial⟩ (fun sz => ?_)
  refine v_bipush (pc := 0) (v := 8) dX6_needs_0 rfl ?_
  refine v_iload_n (pc := 2) dX6_needs_2 rfl rfl ?_
  refine v_bipush (pc := 3) (v := 12) dX6_needs_3 rfl ?_
  refine v_idiv (pc := 5) dX6_needs_5 (by decide) ?_
  refine v_iadd (pc := 6) dX6_needs_6 ?_
  refine v_aload_nR (pc := 7) dX6_needs_7 rfl rfl ?_
  refine v_get (pc := 8) 9 0 fg_X6_25 rfl rfl dX6_needs_8 ?_
  refine v_iload_n (pc := 11) dX6_needs_11 rfl rfl ?_
  refine v_ialdN (pc := 12) 6 (k := k) rfl (by omega) (by decide) dX6_needs_12 ?_
  refine v_iconst (pc := 13) (v := 1) dX6_needs_13 rfl ?_
  refine v_icmp_ne (pc := 14) (tgt := 21) dX6_needs_14 (by decide) (fun c14 => ?_) (fun c14 => ?_)
  · refine v_iconst (pc := 21) (v := 1) dX6_needs_21 rfl ?_
    refine v_imul (pc := 22) dX6_needs_22 ?_
    refine v_iret (pc := 23) rfl rfl (Nat.le_of_ble_eq_true rfl) dX6_needs_23 ?_
    exact ⟨by rw [ndC_0 h01 c14], rfl⟩
  · refine v_iconst (pc := 17) (v := 2) dX6_needs_17 rfl ?_
    refine v_goto (pc := 18) (tgt := 22) dX6_needs_18 (by decide) ?_
    refine v_imul (pc := 22) dX6_needs_22 ?_
    refine v_iret (pc := 23) rfl rfl (Nat.le_of_ble_eq_true rfl) dX6_needs_23 ?_
    exact ⟨by rw [ndC_1 c14], rfl⟩
set_option maxRecDepth 100000 in
set_option maxHeartbeats 4000000 in
theorem c_X6_bearsIt {G : Cx} {z : Nat → Nat} {th : Int32} {N O PC T S C : Nat → Int32} {ps sc bc hh : Nat} {SF BF : Nat → Nat → Int32} {MX H W : Nat → Int32} (hps : ps ≤ 8) (hsc : sc ≤ 5) (hbc : bc ≤ 40) {k : Nat} {x : Int32} (hk : k < 160) (hT : T k = -1 ↔ T k < 0) (h01 : C k = 0 ∨ C k = 1) : Mt G Y_X6_bearsIt 1 0 0 [.ref (z 0), .int (nI k), .int x] (ModelM z th N O PC ps sc bc T S C SF MX BF hh H W) (fun v M' => v = some (.int (bI (hoB T C k (8 + x / 12) = true))) ∧ M' = ModelM z th N O PC ps sc bc T S C SF MX BF hh H W) noX := by
  refine Mt.of (L := [some (.ref (z 0)), some (.int (nI k)), some (.int x)]) rfl (by decide) (by simp [lg_sl, Value.category]) ⟨rfl, rfl, rfl, trivial⟩ (fun sz => ?_)
  refine v_aload_nR (pc := 0) dX6_bearsIt_0 rfl rfl ?_
  refine v_get (pc := 1) 7 0 fg_X6_19 rfl rfl dX6_bearsIt_1 ?_
  refine v_iload_n (pc := 4) dX6_bearsIt_4 rfl rfl ?_
  refine v_ialdN (pc := 5) 4 (k := k) rfl (by omega) (by decide) dX6_bearsIt_5 ?_
  refine v_iconst (pc := 6) (v := -1) dX6_bearsIt_6 rfl ?_
  refine v_icmp_eq (pc := 7) (tgt := 25) dX6_bearsIt_7 (by decide) (fun c7 => ?_) (fun c7 => ?_)
  · refine v_iconst (pc := 25) (v := 1) dX6_bearsIt_25 rfl ?_
    refine v_goto (pc := 26) (tgt := 30) dX6_bearsIt_26 (by decide) ?_
    refine v_iret (pc := 30) rfl rfl (Nat.le_of_ble_eq_true rfl) dX6_bearsIt_30 ?_
    exact ⟨by rw [bI_t (hoB_iff.mpr (Or.inl (hT.mp c7)))], rfl⟩
  · refine v_aload_nR (pc := 10) dX6_bearsIt_10 rfl rfl ?_
    refine v_get (pc := 11) 7 0 fg_X6_19 rfl rfl dX6_bearsIt_11 ?_
    refine v_iload_n (pc := 14) dX6_bearsIt_14 rfl rfl ?_
    refine v_ialdN (pc := 15) 4 (k := k) rfl (by omega) (by decide) dX6_bearsIt_15 ?_
    refine v_aload_nR (pc := 16) dX6_bearsIt_16 rfl rfl ?_
    refine v_iload_n (pc := 17) dX6_bearsIt_17 rfl rfl ?_
    refine v_iload_n (pc := 18) dX6_bearsIt_18 rfl rfl ?_
    refine v_callV2 (pc := 19) (c_X6_needs hps hsc hbc (by omega) h01) cm_X6_needs q956 q958 qs31 (ci := 6) rfl rfl (orcO 0 rfl) [0, 1, 2, 3, 4, 5, 6, 7, 8, 9, 10, 11] (by rfl) (by decide) (fun _ _ h => h) (by decide) (by decide) (by decide) (Nat.le_of_ble_eq_true rfl) dX6_bearsIt_19 (fun v19 M19 hQ19 => ?_)
    obtain ⟨rfl, rfl⟩ := hQ19
    try dsimp only [wb, ModelM, List.set_cons_succ, List.set_cons_zero, List.append_nil, List.nil_append, List.cons_append, Option.toList, Nat.sub_zero]
    refine v_icmp_lt (pc := 22) (tgt := 29) dX6_bearsIt_22 (by decide) (fun c22 => ?_) (fun c22 => ?_)
    · refine v_iconst (pc := 29) (v := 0) dX6_bearsIt_29 rfl ?_
      refine v_iret (pc := 30) rfl rfl (Nat.le_of_ble_eq_true rfl) dX6_bearsIt_30 ?_
      exact ⟨by rw [bI_f (fun h => (hoB_iff.mp h).elim (fun q => c7 (hT.mpr q)) (fun q => absurd c22 (Int32.not_lt.mpr q)))], rfl⟩
    · refine v_iconst (pc := 25) (v := 1) dX6_bearsIt_25 rfl ?_
      refine v_goto (pc := 26) (tgt := 30) dX6_bearsIt_26 (by decide) ?_
      refine v_iret (pc := 30) rfl rfl (Nat.le_of_ble_eq_true rfl) dX6_bearsIt_30 ?_
      exact ⟨by rw [bI_t (hoB_iff.mpr (Or.inr (Int32.not_lt.mp c22)))], rfl⟩
set_option maxRecDepth 100000 in
set_option maxHeartbeats 4000000 in
theorem c_X6_pace {G : Cx} {z : Nat → Nat} {th : Int32} {N O PC T S C : Nat → Int32} {ps sc bc hh : Nat} {SF BF : Nat → Nat → Int32} {MX H W : Nat → Int32} (hps : ps ≤ 8) (hsc : sc ≤ 5) (hbc : bc ≤ 40) {k : Nat} {x r t : Int32} (hk : k < 160) (hr : 1 ≤ r.toInt ∧ r.toInt ≤ 6) : Mt G Y_X6_pace 0 0 0 [.ref (z 0), .int (nI k), .int x, .int r, .int t] (ModelM z th N O PC ps sc bc T S C SF MX BF hh H W) (fun v M' => v = some (.int (N k + x / (60 * r) + (if 50 ≤ t then 1 else 0))) ∧ M' = ModelM z th N O PC ps sc bc T S C SF MX BF hh H W) noX := by
  refine Mt.of (L := [some (.ref (z 0)), some (.int (nI k)), some (.int x), some (.int r), some (.int t)]) rfl (by decide) (by simp [lg_sl, Value.category]) ⟨rfl, rfl, rfl, rfl, rfl, trivial⟩ (fun sz => ?_)
  refine v_aload_nR (pc := 0) dX6_pace_0 rfl rfl ?_
  refine v_get (pc := 1) 1 0 fg_X6_9 rfl rfl dX6_pace_1 ?_
  refine v_iload_n (pc := 4) dX6_pace_4 rfl rfl ?_
  refine v_ialdN (pc := 5) 1 (k := k) rfl (by omega) (by decide) dX6_pace_5 ?_
  refine v_iload_n (pc := 6) dX6_pace_6 rfl rfl ?_
  refine v_bipush (pc := 7) (v := 60) dX6_pace_7 rfl ?_
  refine v_iload_n (pc := 9) dX6_pace_9 rfl rfl ?_
  refine v_imul (pc := 10) dX6_pace_10 ?_
  refine v_idiv (pc := 11) dX6_pace_11 (r60 hr) ?_
  refine v_iadd (pc := 12) dX6_pace_12 ?_
  refine v_iload (pc := 13) dX6_pace_13 rfl ?_
  refine v_bipush (pc := 15) (v := 50) dX6_pace_15 rfl ?_
  refine v_icmp_lt (pc := 17) (tgt := 24) dX6_pace_17 (by decide) (fun c17 => ?_) (fun c17 => ?_)
  · refine v_iconst (pc := 24) (v := 0) dX6_pace_24 rfl ?_
    refine v_iadd (pc := 25) dX6_pace_25 ?_
    refine v_iret (pc := 26) rfl rfl (Nat.le_of_ble_eq_true rfl) dX6_pace_26 ?_
    exact ⟨by rw [if_neg (Int32.not_le.mpr c17)], rfl⟩
  · refine v_iconst (pc := 20) (v := 1) dX6_pace_20 rfl ?_
    refine v_goto (pc := 21) (tgt := 25) dX6_pace_21 (by decide) ?_
    refine v_iadd (pc := 25) dX6_pace_25 ?_
    refine v_iret (pc := 26) rfl rfl (Nat.le_of_ble_eq_true rfl) dX6_pace_26 ?_
    exact ⟨by rw [if_pos (Int32.not_lt.mp c17)], rfl⟩
set_option maxRecDepth 100000 in
set_option maxHeartbeats 4000000 in
theorem lp_X6_sleighTold {G : Cx} {z : Nat → Nat} {th : Int32} {N O PC T S C : Nat → Int32} {ps sc bc hh : Nat} {SF BF : Nat → Nat → Int32} {MX H W : Nat → Int32} (hps : ps ≤ 8) (hsc : sc ≤ 5) (hbc : bc ≤ 40) {sz : Nat} {s : Nat} : ∀ (m i : Nat), m + i = bc → V G Y_X6_sleighTold (ZM G (ModelM z th N O PC ps sc bc T S C SF MX BF hh H W) sz (fun v M' => v = some (.int (sumN (bgF BF bc (nI s)) 40)) ∧ M' = ModelM z th N O PC ps sc bc T S C SF MX BF hh H W) noX) 3 0 0 93 [some (.ref (z 0)), some (.int (nI s)), none, some (.int (sumN (bgF BF bc (nI s)) i)), some (.int (nI i))] [] (ModelM z th N O PC ps sc bc T S C SF MX BF hh H W) := by
  intro m
  induction m with
  | zero =>
    intro i hi
    have hi2 : i = bc := by omega
    refine v_iload (pc := 93) dX6_sleighTold_93 rfl ?_
    refine v_aload_nR (pc := 95) dX6_sleighTold_95 rfl rfl ?_
    refine v_get (pc := 96) 6 0 fg_X6_90 rfl rfl dX6_sleighTold_96 ?_
    refine v_icmp_ge (pc := 99) (tgt := 126) dX6_sleighTold_99 (by decide) (fun c99 => ?_) (fun c99 => absurd (nI_le (a := bc) (b := i) (by omega) (by omega)) c99)
    have c99 : bc ≤ i := (nI_leI (a := bc) (b := i) (by omega) (by omega)).mp c99
    refine v_iload_n (pc := 126) dX6_sleighTold_126 rfl rfl ?_
    refine v_iret (pc := 127) rfl rfl (Nat.le_of_ble_eq_true rfl) dX6_sleighTold_127 ?_
    exact ⟨by rw [sum_to (F := bgF BF bc (nI s)) (m := 40) (n := i) (by omega) (fun j h1 h2 => if_neg (fun q => absurd q.1 (by omega)))], rfl⟩
  | succ m ih =>
    intro i hi
    refine v_iload (pc := 93) dX6_sleighTold_93 rfl ?_
    refine v_aload_nR (pc := 95) dX6_sleighTold_95 rfl rfl ?_
    refine v_get (pc := 96) 6 0 fg_X6_90 rfl rfl dX6_sleighTold_96 ?_
    refine v_icmp_ge (pc := 99) (tgt := 126) dX6_sleighTold_99 (by decide) (fun c99 => absurd c99 (nI_ge (a := i) (b := bc) (by omega) (by omega))) (fun c99 => ?_)
    have c99 : ¬ bc ≤ i := fun h => c99 ((nI_leI (a := bc) (b := i) (by omega) (by omega)).mpr h)
    refine v_iload_n (pc := 102) dX6_sleighTold_102 rfl rfl ?_
    refine v_aload_nR (pc := 103) dX6_sleighTold_103 rfl rfl ?_
    refine v_iload (pc := 104) dX6_sleighTold_104 rfl ?_
    refine v_iload_n (pc := 106) dX6_sleighTold_106 rfl rfl ?_
    refine v_callV2 (pc := 107) (c_X6_isOn hps hsc hbc (by omega)) cm_X6_isOn q931 q933 qs26 (ci := 6) rfl rfl (orcO 0 rfl) [0, 1, 2, 3, 4, 5, 6, 7, 8, 9, 10, 11] (by rfl) (by decide) (fun _ _ h => h) (by decide) (by decide) (by decide) (Nat.le_of_ble_eq_true rfl) dX6_sleighTold_107 (fun v107 M107 hQ107 => ?_)
    obtain ⟨rfl, rfl⟩ := hQ107
    try dsimp only [wb, ModelM, List.set_cons_succ, List.set_cons_zero, List.append_nil, List.nil_append, List.cons_append, Option.toList, Nat.sub_zero]
    refine v_if_eq (pc := 110) (tgt := 117) dX6_sleighTold_110 (by decide) (fun c110 => ?_) (fun c110 => ?_)
    · have c110 := bI_0.mp c110
      refine v_iconst (pc := 117) (v := 0) dX6_sleighTold_117 rfl ?_
      refine v_iadd (pc := 118) dX6_sleighTold_118 ?_
      refine v_istore_n (pc := 119) dX6_sleighTold_119 rfl (by decide) rfl ?_
      refine v_iinc (pc := 120) (v := nI (i + 1)) dX6_sleighTold_120 rfl (nI_1 _) (by decide) rfl ?_
      refine v_goto (pc := 123) (tgt := 93) dX6_sleighTold_123 (by decide) ?_
      have e : sumN (bgF BF bc (nI s)) i + 0 = sumN (bgF BF bc (nI s)) (i + 1) := sum_0z (if_neg (fun h => c110 h.2))
      have k9 := ih (i + 1) (by omega)
      rw [← e] at k9
      exact k9
    · have c110 := bI_n.mp c110
      refine v_iconst (pc := 113) (v := 1) dX6_sleighTold_113 rfl ?_
      refine v_goto (pc := 114) (tgt := 118) dX6_sleighTold_114 (by decide) ?_
      refine v_iadd (pc := 118) dX6_sleighTold_118 ?_
      refine v_istore_n (pc := 119) dX6_sleighTold_119 rfl (by decide) rfl ?_
      refine v_iinc (pc := 120) (v := nI (i + 1)) dX6_sleighTold_120 rfl (nI_1 _) (by decide) rfl ?_
      refine v_goto (pc := 123) (tgt := 93) dX6_sleighTold_123 (by decide) ?_
      have e : sumN (bgF BF bc (nI s)) i + 1 = sumN (bgF BF bc (nI s)) (i + 1) := sum_1 (if_pos ⟨by omega, c110⟩)
      have k9 := ih (i + 1) (by omega)
      rw [← e] at k9
      exact k9
set_option maxRecDepth 100000 in
set_option maxHeartbeats 4000000 in
theorem c_X6_sleighTold {G : Cx} {z : Nat → Nat} {th : Int32} {N O PC T S C : Nat → Int32} {ps sc bc hh : Nat} {SF BF : Nat → Nat → Int32} {MX H W : Nat → Int32} (hps : ps ≤ 8) (hsc : sc ≤ 5) (hbc : bc ≤ 40) {s q : Nat} (hs : s < 5) (hq : q < 9) (hw : SF s 1 = sumN (wgF BF bc (nI s)) 40) : Mt G Y_X6_sleighTold 3 0 0 [.ref (z 0), .int (nI s), .int (nI q)] (ModelM z th N O PC ps sc bc T S C SF MX BF hh H W) (fun v M' => v = some (.int (tlS SF BF bc s q)) ∧ M' = ModelM z th N O PC ps sc bc T S C SF MX BF hh H W) noX := by
  refine Mt.of (L := [some (.ref (z 0)), some (.int (nI s)), some (.int (nI q)), none, none]) rfl (by decide) (by simp [lg_sl, Value.category]) ⟨rfl, rfl, rfl, trivial⟩ (fun sz => ?_)
  refine v_iconst (pc := 0) (v := 0) dX6_sleighTold_0 rfl ?_
  refine v_istore_n (pc := 1) dX6_sleighTold_1 rfl (by decide) rfl ?_
  refine v_iload_n (pc := 2) dX6_sleighTold_2 rfl rfl ?_
  by_cases w3_0 : nI q = nI 0
  · refine v_tsIn (pc := 3) (tgt := 48) dX6_sleighTold_3 (sw_in (n := 7) w3_0 (by decide) (by decide)).1 (sw_in (n := 7) w3_0 (by decide) (by decide)).2.1 (off := 45) (by rw [(sw_in (n := 7) w3_0 (by decide) (by decide)).2.2]; rfl) (by decide) ?_
    refine v_aload_nR (pc := 48) dX6_sleighTold_48 rfl rfl ?_
    refine v_iload_n (pc := 49) dX6_sleighTold_49 rfl rfl ?_
    refine v_iconst (pc := 50) (v := 0) dX6_sleighTold_50 rfl ?_
    refine v_callV2 (pc := 51) (c_X6_sl0 hps hsc hbc (by omega)) cm_X6_sl q874 q876 qs19 (ci := 6) rfl rfl (orcO 0 rfl) [0, 1, 2, 3, 4, 5, 6, 7, 8, 9, 10, 11] (by rfl) (by decide) (fun _ _ h => h) (by decide) (by decide) (by decide) (Nat.le_of_ble_eq_true rfl) dX6_sleighTold_51 (fun v51 M51 hQ51 => ?_)
    obtain ⟨rfl, rfl⟩ := hQ51
    try dsimp only [wb, ModelM, List.set_cons_succ, List.set_cons_zero, List.append_nil, List.nil_append, List.cons_append, Option.toList, Nat.sub_zero]
    refine v_iret (pc := 54) rfl rfl (Nat.le_of_ble_eq_true rfl) dX6_sleighTold_54 ?_
    obtain rfl : q = 0 := (nI_eq (by omega) (by omega)).mp w3_0
    exact ⟨rfl, rfl⟩
  by_cases w3_1 : nI q = nI 1
  · refine v_tsIn (pc := 3) (tgt := 55) dX6_sleighTold_3 (sw_in (n := 7) w3_1 (by decide) (by decide)).1 (sw_in (n := 7) w3_1 (by decide) (by decide)).2.1 (off := 52) (by rw [(sw_in (n := 7) w3_1 (by decide) (by decide)).2.2]; rfl) (by decide) ?_
    refine v_aload_nR (pc := 55) dX6_sleighTold_55 rfl rfl ?_
    refine v_iload_n (pc := 56) dX6_sleighTold_56 rfl rfl ?_
    refine v_callV1 (pc := 57) (c_X6_weight hps hsc hbc (by omega) hw) cm_X6_weight q927 q929 qs25 (ci := 6) rfl rfl (orcO 0 rfl) [0, 1, 2, 3, 4, 5, 6, 7, 8, 9, 10, 11] (by rfl) (by decide) (fun _ _ h => h) (by decide) (by decide) (by decide) (Nat.le_of_ble_eq_true rfl) dX6_sleighTold_57 (fun v57 M57 hQ57 => ?_)
    obtain ⟨rfl, rfl⟩ := hQ57
    try dsimp only [wb, ModelM, List.set_cons_succ, List.set_cons_zero, List.append_nil, List.nil_append, List.cons_append, Option.toList, Nat.sub_zero]
    refine v_iret (pc := 60) rfl rfl (Nat.le_of_ble_eq_true rfl) dX6_sleighTold_60 ?_
    obtain rfl : q = 1 := (nI_eq (by omega) (by omega)).mp w3_1
    exact ⟨rfl, rfl⟩
  by_cases w3_2 : nI q = nI 2
  · refine v_tsIn (pc := 3) (tgt := 61) dX6_sleighTold_3 (sw_in (n := 7) w3_2 (by decide) (by decide)).1 (sw_in (n := 7) w3_2 (by decide) (by decide)).2.1 (off := 58) (by rw [(sw_in (n := 7) w3_2 (by decide) (by decide)).2.2]; rfl) (by decide) ?_
    refine v_aload_nR (pc := 61) dX6_sleighTold_61 rfl rfl ?_
    refine v_iload_n (pc := 62) dX6_sleighTold_62 rfl rfl ?_
    refine v_iload_n (pc := 63) dX6_sleighTold_63 rfl rfl ?_
    refine v_iconst (pc := 64) (v := 1) dX6_sleighTold_64 rfl ?_
    refine v_isub (pc := 65) dX6_sleighTold_65 ?_
    obtain rfl : q = 2 := (nI_eq (by omega) (by omega)).mp w3_2
    rw [show (nI 2 : Int32) - 1 = 1 from by decide]
    refine v_callV2 (pc := 66) (c_X6_sl1 hps hsc hbc (by omega)) cm_X6_sl q874 q876 qs19 (ci := 6) rfl rfl (orcO 0 rfl) [0, 1, 2, 3, 4, 5, 6, 7, 8, 9, 10, 11] (by rfl) (by decide) (fun _ _ h => h) (by decide) (by decide) (by decide) (Nat.le_of_ble_eq_true rfl) dX6_sleighTold_66 (fun v66 M66 hQ66 => ?_)
    obtain ⟨rfl, rfl⟩ := hQ66
    try dsimp only [wb, ModelM, List.set_cons_succ, List.set_cons_zero, List.append_nil, List.nil_append, List.cons_append, Option.toList, Nat.sub_zero]
    refine v_iret (pc := 69) rfl rfl (Nat.le_of_ble_eq_true rfl) dX6_sleighTold_69 ?_
    exact ⟨rfl, rfl⟩
  by_cases w3_3 : nI q = nI 3
  · refine v_tsIn (pc := 3) (tgt := 61) dX6_sleighTold_3 (sw_in (n := 7) w3_3 (by decide) (by decide)).1 (sw_in (n := 7) w3_3 (by decide) (by decide)).2.1 (off := 58) (by rw [(sw_in (n := 7) w3_3 (by decide) (by decide)).2.2]; rfl) (by decide) ?_
    refine v_aload_nR (pc := 61) dX6_sleighTold_61 rfl rfl ?_
    refine v_iload_n (pc := 62) dX6_sleighTold_62 rfl rfl ?_
    refine v_iload_n (pc := 63) dX6_sleighTold_63 rfl rfl ?_
    refine v_iconst (pc := 64) (v := 1) dX6_sleighTold_64 rfl ?_
    refine v_isub (pc := 65) dX6_sleighTold_65 ?_
    obtain rfl : q = 3 := (nI_eq (by omega) (by omega)).mp w3_3
    rw [show (nI 3 : Int32) - 1 = 2 from by decide]
    refine v_callV2 (pc := 66) (c_X6_sl2 hps hsc hbc (by omega)) cm_X6_sl q874 q876 qs19 (ci := 6) rfl rfl (orcO 0 rfl) [0, 1, 2, 3, 4, 5, 6, 7, 8, 9, 10, 11] (by rfl) (by decide) (fun _ _ h => h) (by decide) (by decide) (by decide) (Nat.le_of_ble_eq_true rfl) dX6_sleighTold_66 (fun v66 M66 hQ66 => ?_)
    obtain ⟨rfl, rfl⟩ := hQ66
    try dsimp only [wb, ModelM, List.set_cons_succ, List.set_cons_zero, List.append_nil, List.nil_append, List.cons_append, Option.toList, Nat.sub_zero]
    refine v_iret (pc := 69) rfl rfl (Nat.le_of_ble_eq_true rfl) dX6_sleighTold_69 ?_
    exact ⟨rfl, rfl⟩
  by_cases w3_4 : nI q = nI 4
  · refine v_tsIn (pc := 3) (tgt := 61) dX6_sleighTold_3 (sw_in (n := 7) w3_4 (by decide) (by decide)).1 (sw_in (n := 7) w3_4 (by decide) (by decide)).2.1 (off := 58) (by rw [(sw_in (n := 7) w3_4 (by decide) (by decide)).2.2]; rfl) (by decide) ?_
    refine v_aload_nR (pc := 61) dX6_sleighTold_61 rfl rfl ?_
    refine v_iload_n (pc := 62) dX6_sleighTold_62 rfl rfl ?_
    refine v_iload_n (pc := 63) dX6_sleighTold_63 rfl rfl ?_
    refine v_iconst (pc := 64) (v := 1) dX6_sleighTold_64 rfl ?_
    refine v_isub (pc := 65) dX6_sleighTold_65 ?_
    obtain rfl : q = 4 := (nI_eq (by omega) (by omega)).mp w3_4
    rw [show (nI 4 : Int32) - 1 = 3 from by decide]
    refine v_callV2 (pc := 66) (c_X6_sl3 hps hsc hbc (by omega)) cm_X6_sl q874 q876 qs19 (ci := 6) rfl rfl (orcO 0 rfl) [0, 1, 2, 3, 4, 5, 6, 7, 8, 9, 10, 11] (by rfl) (by decide) (fun _ _ h => h) (by decide) (by decide) (by decide) (Nat.le_of_ble_eq_true rfl) dX6_sleighTold_66 (fun v66 M66 hQ66 => ?_)
    obtain ⟨rfl, rfl⟩ := hQ66
    try dsimp only [wb, ModelM, List.set_cons_succ, List.set_cons_zero, List.append_nil, List.nil_append, List.cons_append, Option.toList, Nat.sub_zero]
    refine v_iret (pc := 69) rfl rfl (Nat.le_of_ble_eq_true rfl) dX6_sleighTold_69 ?_
    exact ⟨rfl, rfl⟩
  by_cases w3_5 : nI q = nI 5
  · refine v_tsIn (pc := 3) (tgt := 61) dX6_sleighTold_3 (sw_in (n := 7) w3_5 (by decide) (by decide)).1 (sw_in (n := 7) w3_5 (by decide) (by decide)).2.1 (off := 58) (by rw [(sw_in (n := 7) w3_5 (by decide) (by decide)).2.2]; rfl) (by decide) ?_
    refine v_aload_nR (pc := 61) dX6_sleighTold_61 rfl rfl ?_
    refine v_iload_n (pc := 62) dX6_sleighTold_62 rfl rfl ?_
    refine v_iload_n (pc := 63) dX6_sleighTold_63 rfl rfl ?_
    refine v_iconst (pc := 64) (v := 1) dX6_sleighTold_64 rfl ?_
    refine v_isub (pc := 65) dX6_sleighTold_65 ?_
    obtain rfl : q = 5 := (nI_eq (by omega) (by omega)).mp w3_5
    rw [show (nI 5 : Int32) - 1 = 4 from by decide]
    refine v_callV2 (pc := 66) (c_X6_sl4 hps hsc hbc (by omega)) cm_X6_sl q874 q876 qs19 (ci := 6) rfl rfl (orcO 0 rfl) [0, 1, 2, 3, 4, 5, 6, 7, 8, 9, 10, 11] (by rfl) (by decide) (fun _ _ h => h) (by decide) (by decide) (by decide) (Nat.le_of_ble_eq_true rfl) dX6_sleighTold_66 (fun v66 M66 hQ66 => ?_)
    obtain ⟨rfl, rfl⟩ := hQ66
    try dsimp only [wb, ModelM, List.set_cons_succ, List.set_cons_zero, List.append_nil, List.nil_append, List.cons_append, Option.toList, Nat.sub_zero]
    refine v_iret (pc := 69) rfl rfl (Nat.le_of_ble_eq_true rfl) dX6_sleighTold_69 ?_
    exact ⟨rfl, rfl⟩
  by_cases w3_6 : nI q = nI 6
  · refine v_tsIn (pc := 3) (tgt := 70) dX6_sleighTold_3 (sw_in (n := 7) w3_6 (by decide) (by decide)).1 (sw_in (n := 7) w3_6 (by decide) (by decide)).2.1 (off := 67) (by rw [(sw_in (n := 7) w3_6 (by decide) (by decide)).2.2]; rfl) (by decide) ?_
    refine v_aload_nR (pc := 70) dX6_sleighTold_70 rfl rfl ?_
    refine v_iload_n (pc := 71) dX6_sleighTold_71 rfl rfl ?_
    refine v_bipush (pc := 72) (v := 6) dX6_sleighTold_72 rfl ?_
    refine v_callV2 (pc := 74) (c_X6_sl6 hps hsc hbc (by omega)) cm_X6_sl q874 q876 qs19 (ci := 6) rfl rfl (orcO 0 rfl) [0, 1, 2, 3, 4, 5, 6, 7, 8, 9, 10, 11] (by rfl) (by decide) (fun _ _ h => h) (by decide) (by decide) (by decide) (Nat.le_of_ble_eq_true rfl) dX6_sleighTold_74 (fun v74 M74 hQ74 => ?_)
    obtain ⟨rfl, rfl⟩ := hQ74
    try dsimp only [wb, ModelM, List.set_cons_succ, List.set_cons_zero, List.append_nil, List.nil_append, List.cons_append, Option.toList, Nat.sub_zero]
    refine v_iret (pc := 77) rfl rfl (Nat.le_of_ble_eq_true rfl) dX6_sleighTold_77 ?_
    obtain rfl : q = 6 := (nI_eq (by omega) (by omega)).mp w3_6
    exact ⟨rfl, rfl⟩
  by_cases w3_7 : nI q = nI 7
  · refine v_tsIn (pc := 3) (tgt := 78) dX6_sleighTold_3 (sw_in (n := 7) w3_7 (by decide) (by decide)).1 (sw_in (n := 7) w3_7 (by decide) (by decide)).2.1 (off := 75) (by rw [(sw_in (n := 7) w3_7 (by decide) (by decide)).2.2]; rfl) (by decide) ?_
    refine v_bipush (pc := 78) (v := 8) dX6_sleighTold_78 rfl ?_
    refine v_aload_nR (pc := 80) dX6_sleighTold_80 rfl rfl ?_
    refine v_iload_n (pc := 81) dX6_sleighTold_81 rfl rfl ?_
    refine v_callV1 (pc := 82) (c_X6_weight hps hsc hbc (by omega) hw) cm_X6_weight q927 q929 qs25 (ci := 6) rfl rfl (orcO 0 rfl) [0, 1, 2, 3, 4, 5, 6, 7, 8, 9, 10, 11] (by rfl) (by decide) (fun _ _ h => h) (by decide) (by decide) (by decide) (Nat.le_of_ble_eq_true rfl) dX6_sleighTold_82 (fun v82 M82 hQ82 => ?_)
    obtain ⟨rfl, rfl⟩ := hQ82
    try dsimp only [wb, ModelM, List.set_cons_succ, List.set_cons_zero, List.append_nil, List.nil_append, List.cons_append, Option.toList, Nat.sub_zero]
    refine v_bipush (pc := 85) (v := 12) dX6_sleighTold_85 rfl ?_
    refine v_idiv (pc := 87) dX6_sleighTold_87 (by decide) ?_
    refine v_iadd (pc := 88) dX6_sleighTold_88 ?_
    refine v_iret (pc := 89) rfl rfl (Nat.le_of_ble_eq_true rfl) dX6_sleighTold_89 ?_
    obtain rfl : q = 7 := (nI_eq (by omega) (by omega)).mp w3_7
    exact ⟨rfl, rfl⟩
  refine v_tsOut (pc := 3) (tgt := 90) dX6_sleighTold_3 (sw_out 7 (fun k hk h => by
    have hk2 : k = 0 ∨ k = 1 ∨ k = 2 ∨ k = 3 ∨ k = 4 ∨ k = 5 ∨ k = 6 ∨ k = 7 := by omega
    rcases hk2 with rfl | rfl | rfl | rfl | rfl | rfl | rfl | rfl
    · exact w3_0 h
    · exact w3_1 h
    · exact w3_2 h
    · exact w3_3 h
    · exact w3_4 h
    · exact w3_5 h
    · exact w3_6 h
    · exact w3_7 h)) (by decide) ?_
  refine v_iconst (pc := 90) (v := 0) dX6_sleighTold_90 rfl ?_
  refine v_istore (pc := 91) dX6_sleighTold_91 (by decide) rfl ?_
  have h0 : ¬ q = 0 := (fun h => w3_0 (by rw [h]))
  have h1 : ¬ q = 1 := (fun h => w3_1 (by rw [h]))
  have h2 : ¬ q = 2 := (fun h => w3_2 (by rw [h]))
  have h3 : ¬ q = 3 := (fun h => w3_3 (by rw [h]))
  have h4 : ¬ q = 4 := (fun h => w3_4 (by rw [h]))
  have h5 : ¬ q = 5 := (fun h => w3_5 (by rw [h]))
  have h6 : ¬ q = 6 := (fun h => w3_6 (by rw [h]))
  have h7 : ¬ q = 7 := (fun h => w3_7 (by rw [h]))
  obtain rfl : q = 8 := by omega
  have k9 := lp_X6_sleighTold (G := G) (z := z) (th := th) (N := N) (O := O) (PC := PC) (T := T) (S := S) (C := C) (hh := hh) (SF := SF) (BF := BF) (MX := MX) (H := H) (W := W) (sz := sz) (s := s) hps hsc hbc bc 0 (by omega)
  refine v_sub ?_ k9
  exact ⟨rfl, rfl, rfl, rfl, trivial⟩
theorem tl_sunk {SF : Nat → Nat → Int32} {sc : Nat} (hsc : sc ≤ 5) : sumN (skF SF sc) 5 = sumN (skF SF sc) sc := sum_to hsc (fun j h1 h2 => if_neg (fun q => absurd q.1 (by omega)))
set_option maxRecDepth 100000 in
set_option maxHeartbeats 4000000 in
theorem lp_X6_counted3 {G : Cx} {z : Nat → Nat} {th : Int32} {N O PC T S C : Nat → Int32} {ps sc bc hh : Nat} {SF BF : Nat → Nat → Int32} {MX H W : Nat → Int32} (hps : ps ≤ 8) (hsc : sc ≤ 5) (hbc : bc ≤ 40) {sz : Nat} : ∀ (m i : Nat), m + i = sc → V G Y_X6_counted (ZM G (ModelM z th N O PC ps sc bc T S C SF MX BF hh H W) sz (fun v M' => v = some (.int (sumN (skF SF sc) 5)) ∧ M' = ModelM z th N O PC ps sc bc T S C SF MX BF hh H W) noX) 2 0 0 63 [some (.ref (z 0)), none, some (.int (sumN (skF SF sc) i)), some (.int (nI i))] [] (ModelM z th N O PC ps sc bc T S C SF MX BF hh H W) := by
  intro m
  induction m with
  | zero =>
    intro i hi
    have hi2 : i = sc := by omega
    refine v_iload_n (pc := 63) dX6_counted_63 rfl rfl ?_
    refine v_aload_nR (pc := 64) dX6_counted_64 rfl rfl ?_
    refine v_get (pc := 65) 5 0 fg_X6_55 rfl rfl dX6_counted_65 ?_
    refine v_icmp_ge (pc := 68) (tgt := 95) dX6_counted_68 (by decide) (fun c68 => ?_) (fun c68 => absurd (nI_le (a := sc) (b := i) (by omega) (by omega)) c68)
    have c68 : sc ≤ i := (nI_leI (a := sc) (b := i) (by omega) (by omega)).mp c68
    refine v_iload_n (pc := 95) dX6_counted_95 rfl rfl ?_
    refine v_iret (pc := 96) rfl rfl (Nat.le_of_ble_eq_true rfl) dX6_counted_96 ?_
    exact ⟨by rw [sum_to (F := skF SF sc) (m := 5) (n := i) (by omega) (fun j h1 h2 => if_neg (fun q => absurd q.1 (by omega)))], rfl⟩
  | succ m ih =>
    intro i hi
    refine v_iload_n (pc := 63) dX6_counted_63 rfl rfl ?_
    refine v_aload_nR (pc := 64) dX6_counted_64 rfl rfl ?_
    refine v_get (pc := 65) 5 0 fg_X6_55 rfl rfl dX6_counted_65 ?_
    refine v_icmp_ge (pc := 68) (tgt := 95) dX6_counted_68 (by decide) (fun c68 => absurd c68 (nI_ge (a := i) (b := sc) (by omega) (by omega))) (fun c68 => ?_)
    have c68 : ¬ sc ≤ i := fun h => c68 ((nI_leI (a := sc) (b := i) (by omega) (by omega)).mpr h)
    refine v_iload_n (pc := 71) dX6_counted_71 rfl rfl ?_
    refine v_aload_nR (pc := 72) dX6_counted_72 rfl rfl ?_
    refine v_iload_n (pc := 73) dX6_counted_73 rfl rfl ?_
    refine v_iconst (pc := 74) (v := 2) dX6_counted_74 rfl ?_
    refine v_callV2 (pc := 75) (c_X6_sl2 hps hsc hbc (by omega)) cm_X6_sl q874 q876 qs19 (ci := 6) rfl rfl (orcO 0 rfl) [0, 1, 2, 3, 4, 5, 6, 7, 8, 9, 10, 11] (by rfl) (by decide) (fun _ _ h => h) (by decide) (by decide) (by decide) (Nat.le_of_ble_eq_true rfl) dX6_counted_75 (fun v75 M75 hQ75 => ?_)
    obtain ⟨rfl, rfl⟩ := hQ75
    try dsimp only [wb, ModelM, List.set_cons_succ, List.set_cons_zero, List.append_nil, List.nil_append, List.cons_append, Option.toList, Nat.sub_zero]
    refine v_iconst (pc := 78) (v := 2) dX6_counted_78 rfl ?_
    refine v_icmp_ne (pc := 79) (tgt := 86) dX6_counted_79 (by decide) (fun c79 => ?_) (fun c79 => ?_)
    · refine v_iconst (pc := 86) (v := 0) dX6_counted_86 rfl ?_
      refine v_iadd (pc := 87) dX6_counted_87 ?_
      refine v_istore_n (pc := 88) dX6_counted_88 rfl (by decide) rfl ?_
      refine v_iinc (pc := 89) (v := nI (i + 1)) dX6_counted_89 rfl (nI_1 _) (by decide) rfl ?_
      refine v_goto (pc := 92) (tgt := 63) dX6_counted_92 (by decide) ?_
      have e : sumN (skF SF sc) i + 0 = sumN (skF SF sc) (i + 1) := sum_0z (if_neg (fun h => c79 h.2))
      have k9 := ih (i + 1) (by omega)
      rw [← e] at k9
      exact k9
    · refine v_iconst (pc := 82) (v := 1) dX6_counted_82 rfl ?_
      refine v_goto (pc := 83) (tgt := 87) dX6_counted_83 (by decide) ?_
      refine v_iadd (pc := 87) dX6_counted_87 ?_
      refine v_istore_n (pc := 88) dX6_counted_88 rfl (by decide) rfl ?_
      refine v_iinc (pc := 89) (v := nI (i + 1)) dX6_counted_89 rfl (nI_1 _) (by decide) rfl ?_
      refine v_goto (pc := 92) (tgt := 63) dX6_counted_92 (by decide) ?_
      have e : sumN (skF SF sc) i + 1 = sumN (skF SF sc) (i + 1) := sum_1 (if_pos ⟨by omega, c79⟩)
      have k9 := ih (i + 1) (by omega)
      rw [← e] at k9
      exact k9
set_option maxRecDepth 100000 in
set_option maxHeartbeats 4000000 in
theorem lp_X6_counted7 {G : Cx} {z : Nat → Nat} {th : Int32} {N O PC T S C : Nat → Int32} {ps sc bc hh : Nat} {SF BF : Nat → Nat → Int32} {MX H W : Nat → Int32} (hps : ps ≤ 8) (hsc : sc ≤ 5) (hbc : bc ≤ 40) {sz : Nat} (hT : tOK T) (hL : lOK T C) (hC : cOK C) : ∀ (m i : Nat), m + i = 160 → V G Y_X6_counted (ZM G (ModelM z th N O PC ps sc bc T S C SF MX BF hh H W) sz (fun v M' => v = some (.int (sumN (fun j => if C j = 0 then 0 else 1) 160)) ∧ M' = ModelM z th N O PC ps sc bc T S C SF MX BF hh H W) noX) 2 0 0 112 [some (.ref (z 0)), some (.int (nI 7)), some (.int (sumN (fun j => if C j = 0 then 0 else 1) i)), some (.int (nI i))] [] (ModelM z th N O PC ps sc bc T S C SF MX BF hh H W) := by
  intro m
  induction m with
  | zero =>
    intro i hi
    obtain rfl : i = 160 := by omega
    refine v_iload_n (pc := 112) dX6_counted_112 rfl rfl ?_
    refine v_sipush (pc := 113) (v := 160) dX6_counted_113 rfl ?_
    refine v_icmp_ge (pc := 116) (tgt := 163) dX6_counted_116 (by decide) (fun c116 => ?_) (fun c116 => absurd (nI_le (a := 160) (b := 160) (Nat.le_refl _) (by decide)) c116)
    have c116 : 160 ≤ 160 := (nI_leI (a := 160) (b := 160) (by omega) (by omega)).mp c116
    refine v_iload_n (pc := 163) dX6_counted_163 rfl rfl ?_
    refine v_iret (pc := 164) rfl rfl (Nat.le_of_ble_eq_true rfl) dX6_counted_164 ?_
    exact ⟨rfl, rfl⟩
  | succ m ih =>
    intro i hi
    refine v_iload_n (pc := 112) dX6_counted_112 rfl rfl ?_
    refine v_sipush (pc := 113) (v := 160) dX6_counted_113 rfl ?_
    refine v_icmp_ge (pc := 116) (tgt := 163) dX6_counted_116 (by decide) (fun c116 => absurd c116 (nI_ge (a := i) (b := 160) (by omega) (by decide))) (fun c116 => ?_)
    have c116 : ¬ 160 ≤ i := fun h => c116 ((nI_leI (a := 160) (b := i) (by omega) (by omega)).mpr h)
    refine v_iload_n (pc := 119) dX6_counted_119 rfl rfl ?_
    refine v_aload_nR (pc := 120) dX6_counted_120 rfl rfl ?_
    refine v_get (pc := 121) 7 0 fg_X6_19 rfl rfl dX6_counted_121 ?_
    refine v_iload_n (pc := 124) dX6_counted_124 rfl rfl ?_
    refine v_ialdN (pc := 125) 4 (k := i) rfl (by omega) (by decide) dX6_counted_125 ?_
    refine v_iconst (pc := 126) (v := -1) dX6_counted_126 rfl ?_
    refine v_icmp_ne (pc := 127) (tgt := 134) dX6_counted_127 (by decide) (fun c127 => ?_) (fun c127 => ?_)
    · refine v_iload_n (pc := 134) dX6_counted_134 rfl rfl ?_
      refine v_bipush (pc := 135) (v := 7) dX6_counted_135 rfl ?_
      refine v_icmp_ne (pc := 137) (tgt := 149) dX6_counted_137 (by decide) (fun c137 => absurd (show nI 7 = 7 by decide) c137) (fun c137 => ?_)
      have c137 : 7 = 7 := (nI_eq (a := 7) (b := 7) (by omega) (by omega)).mp c137
      refine v_aload_nR (pc := 140) dX6_counted_140 rfl rfl ?_
      refine v_get (pc := 141) 9 0 fg_X6_25 rfl rfl dX6_counted_141 ?_
      refine v_iload_n (pc := 144) dX6_counted_144 rfl rfl ?_
      refine v_ialdN (pc := 145) 6 (k := i) rfl (by omega) (by decide) dX6_counted_145 ?_
      refine v_goto (pc := 146) (tgt := 155) dX6_counted_146 (by decide) ?_
      refine v_iadd (pc := 155) dX6_counted_155 ?_
      refine v_istore_n (pc := 156) dX6_counted_156 rfl (by decide) rfl ?_
      refine v_iinc (pc := 157) (v := nI (i + 1)) dX6_counted_157 rfl (nI_1 _) (by decide) rfl ?_
      refine v_goto (pc := 160) (tgt := 112) dX6_counted_160 (by decide) ?_
      have e : sumN (fun j => if C j = 0 then 0 else 1) i + C i = sumN (fun j => if C j = 0 then 0 else 1) (i + 1) := by
        show _ = sumN (fun j => if C j = 0 then 0 else 1) i + (if C i = 0 then 0 else 1)
        rcases cOK01 hC i with h | h
        · rw [h]; rfl
        · rw [h]; rfl
      have k9 := ih (i + 1) (by omega)
      rw [← e] at k9
      exact k9
    · refine v_iconst (pc := 130) (v := 0) dX6_counted_130 rfl ?_
      refine v_goto (pc := 131) (tgt := 155) dX6_counted_131 (by decide) ?_
      refine v_iadd (pc := 155) dX6_counted_155 ?_
      refine v_istore_n (pc := 156) dX6_counted_156 rfl (by decide) rfl ?_
      refine v_iinc (pc := 157) (v := nI (i + 1)) dX6_counted_157 rfl (nI_1 _) (by decide) rfl ?_
      refine v_goto (pc := 160) (tgt := 112) dX6_counted_160 (by decide) ?_
      have e : sumN (fun j => if C j = 0 then 0 else 1) i + 0 = sumN (fun j => if C j = 0 then 0 else 1) (i + 1) := sum_0z (if_pos (hL i (by omega) ((tOK_l hT (by omega)).mp c127)))
      have k9 := ih (i + 1) (by omega)
      rw [← e] at k9
      exact k9
set_option maxRecDepth 100000 in
set_option maxHeartbeats 4000000 in
theorem lp_X6_counted8 {G : Cx} {z : Nat → Nat} {th : Int32} {N O PC T S C : Nat → Int32} {ps sc bc hh : Nat} {SF BF : Nat → Nat → Int32} {MX H W : Nat → Int32} (hps : ps ≤ 8) (hsc : sc ≤ 5) (hbc : bc ≤ 40) {sz : Nat} (hT : tOK T) (hL : lOK T C) (hC : cOK C) : ∀ (m i : Nat), m + i = 160 → V G Y_X6_counted (ZM G (ModelM z th N O PC ps sc bc T S C SF MX BF hh H W) sz (fun v M' => v = some (.int (sumN (fun j => if 0 < T j then T j else 0) 160)) ∧ M' = ModelM z th N O PC ps sc bc T S C SF MX BF hh H W) noX) 2 0 0 112 [some (.ref (z 0)), some (.int (nI 8)), some (.int (sumN (fun j => if 0 < T j then T j else 0) i)), some (.int (nI i))] [] (ModelM z th N O PC ps sc bc T S C SF MX BF hh H W) := by
  intro m
  induction m with
  | zero =>
    intro i hi
    obtain rfl : i = 160 := by omega
    refine v_iload_n (pc := 112) dX6_counted_112 rfl rfl ?_
    refine v_sipush (pc := 113) (v := 160) dX6_counted_113 rfl ?_
    refine v_icmp_ge (pc := 116) (tgt := 163) dX6_counted_116 (by decide) (fun c116 => ?_) (fun c116 => absurd (nI_le (a := 160) (b := 160) (Nat.le_refl _) (by decide)) c116)
    have c116 : 160 ≤ 160 := (nI_leI (a := 160) (b := 160) (by omega) (by omega)).mp c116
    refine v_iload_n (pc := 163) dX6_counted_163 rfl rfl ?_
    refine v_iret (pc := 164) rfl rfl (Nat.le_of_ble_eq_true rfl) dX6_counted_164 ?_
    exact ⟨rfl, rfl⟩
  | succ m ih =>
    intro i hi
    refine v_iload_n (pc := 112) dX6_counted_112 rfl rfl ?_
    refine v_sipush (pc := 113) (v := 160) dX6_counted_113 rfl ?_
    refine v_icmp_ge (pc := 116) (tgt := 163) dX6_counted_116 (by decide) (fun c116 => absurd c116 (nI_ge (a := i) (b := 160) (by omega) (by decide))) (fun c116 => ?_)
    have c116 : ¬ 160 ≤ i := fun h => c116 ((nI_leI (a := 160) (b := i) (by omega) (by omega)).mpr h)
    refine v_iload_n (pc := 119) dX6_counted_119 rfl rfl ?_
    refine v_aload_nR (pc := 120) dX6_counted_120 rfl rfl ?_
    refine v_get (pc := 121) 7 0 fg_X6_19 rfl rfl dX6_counted_121 ?_
    refine v_iload_n (pc := 124) dX6_counted_124 rfl rfl ?_
    refine v_ialdN (pc := 125) 4 (k := i) rfl (by omega) (by decide) dX6_counted_125 ?_
    refine v_iconst (pc := 126) (v := -1) dX6_counted_126 rfl ?_
    refine v_icmp_ne (pc := 127) (tgt := 134) dX6_counted_127 (by decide) (fun c127 => ?_) (fun c127 => ?_)
    · refine v_iload_n (pc := 134) dX6_counted_134 rfl rfl ?_
      refine v_bipush (pc := 135) (v := 7) dX6_counted_135 rfl ?_
      refine v_icmp_ne (pc := 137) (tgt := 149) dX6_counted_137 (by decide) (fun c137 => ?_) (fun c137 => absurd c137 (by decide))
      have c137 : ¬ 8 = 7 := fun h => c137 ((nI_eq (a := 8) (b := 7) (by omega) (by omega)).mpr h)
      refine v_aload_nR (pc := 149) dX6_counted_149 rfl rfl ?_
      refine v_get (pc := 150) 7 0 fg_X6_19 rfl rfl dX6_counted_150 ?_
      refine v_iload_n (pc := 153) dX6_counted_153 rfl rfl ?_
      refine v_ialdN (pc := 154) 4 (k := i) rfl (by omega) (by decide) dX6_counted_154 ?_
      refine v_iadd (pc := 155) dX6_counted_155 ?_
      refine v_istore_n (pc := 156) dX6_counted_156 rfl (by decide) rfl ?_
      refine v_iinc (pc := 157) (v := nI (i + 1)) dX6_counted_157 rfl (nI_1 _) (by decide) rfl ?_
      refine v_goto (pc := 160) (tgt := 112) dX6_counted_160 (by decide) ?_
      have e : sumN (fun j => if 0 < T j then T j else 0) i + T i = sumN (fun j => if 0 < T j then T j else 0) (i + 1) := by
        show _ = sumN (fun j => if 0 < T j then T j else 0) i + (if 0 < T i then T i else 0)
        by_cases h : 0 < T i
        · rw [if_pos h]
        · rw [if_neg h]
          have h2 : ¬ T i < 0 := fun h2 => c127 ((tOK_l hT (by omega)).mpr h2)
          rw [show T i = 0 from by rw [i_eq]; rw [i_lt] at h h2; omega]
      have k9 := ih (i + 1) (by omega)
      rw [← e] at k9
      exact k9
    · refine v_iconst (pc := 130) (v := 0) dX6_counted_130 rfl ?_
      refine v_goto (pc := 131) (tgt := 155) dX6_counted_131 (by decide) ?_
      refine v_iadd (pc := 155) dX6_counted_155 ?_
      refine v_istore_n (pc := 156) dX6_counted_156 rfl (by decide) rfl ?_
      refine v_iinc (pc := 157) (v := nI (i + 1)) dX6_counted_157 rfl (nI_1 _) (by decide) rfl ?_
      refine v_goto (pc := 160) (tgt := 112) dX6_counted_160 (by decide) ?_
      have e : sumN (fun j => if 0 < T j then T j else 0) i + 0 = sumN (fun j => if 0 < T j then T j else 0) (i + 1) := sum_0z (if_neg (fun h => absurd ((tOK_l hT (by omega)).mp c127) (fun h2 => by rw [i_lt] at h h2; omega)))
      have k9 := ih (i + 1) (by omega)
      rw [← e] at k9
      exact k9
set_option maxRecDepth 100000 in
set_option maxHeartbeats 4000000 in
theorem c_X6_counted {G : Cx} {z : Nat → Nat} {th : Int32} {N O PC T S C : Nat → Int32} {ps sc bc hh : Nat} {SF BF : Nat → Nat → Int32} {MX H W : Nat → Int32} (hps : ps ≤ 8) (hsc : sc ≤ 5) (hbc : bc ≤ 40) {q : Nat} (hq : q < 9) (hT : tOK T) (hL : lOK T C) (hC : cOK C) : Mt G Y_X6_counted 2 0 0 [.ref (z 0), .int (nI q)] (ModelM z th N O PC ps sc bc T S C SF MX BF hh H W) (fun v M' => v = some (.int (tlN T C SF BF ps sc bc hh q)) ∧ M' = ModelM z th N O PC ps sc bc T S C SF MX BF hh H W) noX := by
  refine Mt.of (L := [some (.ref (z 0)), some (.int (nI q)), none, none]) rfl (by decide) (by simp [lg_sl, Value.category]) ⟨rfl, rfl, trivial⟩ (fun sz => ?_)
  refine v_iconst (pc := 0) (v := 0) dX6_counted_0 rfl ?_
  refine v_istore_n (pc := 1) dX6_counted_1 rfl (by decide) rfl ?_
  refine v_iload_n (pc := 2) dX6_counted_2 rfl rfl ?_
  by_cases w3_0 : nI q = nI 0
  · refine v_tsIn (pc := 3) (tgt := 44) dX6_counted_3 (sw_in (n := 6) w3_0 (by decide) (by decide)).1 (sw_in (n := 6) w3_0 (by decide) (by decide)).2.1 (off := 41) (by rw [(sw_in (n := 6) w3_0 (by decide) (by decide)).2.2]; rfl) (by decide) ?_
    refine v_aload_nR (pc := 44) dX6_counted_44 rfl rfl ?_
    refine v_get (pc := 45) 12 0 fg_X6_34 rfl rfl dX6_counted_45 ?_
    refine v_iconst (pc := 48) (v := 0) dX6_counted_48 rfl ?_
    refine v_ialdN (pc := 49) 9 (k := 0) rfl (by omega) (by decide) dX6_counted_49 ?_
    refine v_iret (pc := 50) rfl rfl (Nat.le_of_ble_eq_true rfl) dX6_counted_50 ?_
    obtain rfl : q = 0 := (nI_eq (by omega) (by omega)).mp w3_0
    exact ⟨rfl, rfl⟩
  by_cases w3_1 : nI q = nI 1
  · refine v_tsIn (pc := 3) (tgt := 51) dX6_counted_3 (sw_in (n := 6) w3_1 (by decide) (by decide)).1 (sw_in (n := 6) w3_1 (by decide) (by decide)).2.1 (off := 48) (by rw [(sw_in (n := 6) w3_1 (by decide) (by decide)).2.2]; rfl) (by decide) ?_
    refine v_aload_nR (pc := 51) dX6_counted_51 rfl rfl ?_
    refine v_get (pc := 52) 3 0 fg_X6_52 rfl rfl dX6_counted_52 ?_
    refine v_iret (pc := 55) rfl rfl (Nat.le_of_ble_eq_true rfl) dX6_counted_55 ?_
    obtain rfl : q = 1 := (nI_eq (by omega) (by omega)).mp w3_1
    exact ⟨rfl, rfl⟩
  by_cases w3_2 : nI q = nI 2
  · refine v_tsIn (pc := 3) (tgt := 56) dX6_counted_3 (sw_in (n := 6) w3_2 (by decide) (by decide)).1 (sw_in (n := 6) w3_2 (by decide) (by decide)).2.1 (off := 53) (by rw [(sw_in (n := 6) w3_2 (by decide) (by decide)).2.2]; rfl) (by decide) ?_
    refine v_aload_nR (pc := 56) dX6_counted_56 rfl rfl ?_
    refine v_get (pc := 57) 5 0 fg_X6_55 rfl rfl dX6_counted_57 ?_
    refine v_iret (pc := 60) rfl rfl (Nat.le_of_ble_eq_true rfl) dX6_counted_60 ?_
    obtain rfl : q = 2 := (nI_eq (by omega) (by omega)).mp w3_2
    exact ⟨rfl, rfl⟩
  by_cases w3_3 : nI q = nI 3
  · refine v_tsIn (pc := 3) (tgt := 61) dX6_counted_3 (sw_in (n := 6) w3_3 (by decide) (by decide)).1 (sw_in (n := 6) w3_3 (by decide) (by decide)).2.1 (off := 58) (by rw [(sw_in (n := 6) w3_3 (by decide) (by decide)).2.2]; rfl) (by decide) ?_
    refine v_iconst (pc := 61) (v := 0) dX6_counted_61 rfl ?_
    refine v_istore_n (pc := 62) dX6_counted_62 rfl (by decide) rfl ?_
    obtain rfl : q = 3 := (nI_eq (by omega) (by omega)).mp w3_3
    have k9 := lp_X6_counted3 (G := G) (z := z) (th := th) (N := N) (O := O) (PC := PC) (T := T) (S := S) (C := C) (hh := hh) (SF := SF) (BF := BF) (MX := MX) (H := H) (W := W) (sz := sz) hps hsc hbc sc 0 (by omega)
    refine v_sub ?_ k9
    exact ⟨rfl, rfl, rfl, trivial⟩
  by_cases w3_4 : nI q = nI 4
  · refine v_tsIn (pc := 3) (tgt := 97) dX6_counted_3 (sw_in (n := 6) w3_4 (by decide) (by decide)).1 (sw_in (n := 6) w3_4 (by decide) (by decide)).2.1 (off := 94) (by rw [(sw_in (n := 6) w3_4 (by decide) (by decide)).2.2]; rfl) (by decide) ?_
    refine v_aload_nR (pc := 97) dX6_counted_97 rfl rfl ?_
    refine v_get (pc := 98) 6 0 fg_X6_90 rfl rfl dX6_counted_98 ?_
    refine v_iret (pc := 101) rfl rfl (Nat.le_of_ble_eq_true rfl) dX6_counted_101 ?_
    obtain rfl : q = 4 := (nI_eq (by omega) (by omega)).mp w3_4
    exact ⟨rfl, rfl⟩
  by_cases w3_5 : nI q = nI 5
  · refine v_tsIn (pc := 3) (tgt := 102) dX6_counted_3 (sw_in (n := 6) w3_5 (by decide) (by decide)).1 (sw_in (n := 6) w3_5 (by decide) (by decide)).2.1 (off := 99) (by rw [(sw_in (n := 6) w3_5 (by decide) (by decide)).2.2]; rfl) (by decide) ?_
    refine v_aload_nR (pc := 102) dX6_counted_102 rfl rfl ?_
    refine v_iload_n (pc := 103) dX6_counted_103 rfl rfl ?_
    refine v_iconst (pc := 104) (v := 3) dX6_counted_104 rfl ?_
    refine v_isub (pc := 105) dX6_counted_105 ?_
    obtain rfl : q = 5 := (nI_eq (by omega) (by omega)).mp w3_5
    rw [show (nI 5 : Int32) - 3 = 2 from by decide]
    refine v_callV1 (pc := 106) (c_X6_bagsWith hps hsc hbc) cm_X6_bagsWith q1017 q1019 qs41 (ci := 6) rfl rfl (orcO 0 rfl) [0, 1, 2, 3, 4, 5, 6, 7, 8, 9, 10, 11] (by rfl) (by decide) (fun _ _ h => h) (by decide) (by decide) (by decide) (Nat.le_of_ble_eq_true rfl) dX6_counted_106 (fun v106 M106 hQ106 => ?_)
    obtain ⟨rfl, rfl⟩ := hQ106
    try dsimp only [wb, ModelM, List.set_cons_succ, List.set_cons_zero, List.append_nil, List.nil_append, List.cons_append, Option.toList, Nat.sub_zero]
    refine v_iret (pc := 109) rfl rfl (Nat.le_of_ble_eq_true rfl) dX6_counted_109 ?_
    exact ⟨rfl, rfl⟩
  by_cases w3_6 : nI q = nI 6
  · refine v_tsIn (pc := 3) (tgt := 102) dX6_counted_3 (sw_in (n := 6) w3_6 (by decide) (by decide)).1 (sw_in (n := 6) w3_6 (by decide) (by decide)).2.1 (off := 99) (by rw [(sw_in (n := 6) w3_6 (by decide) (by decide)).2.2]; rfl) (by decide) ?_
    refine v_aload_nR (pc := 102) dX6_counted_102 rfl rfl ?_
    refine v_iload_n (pc := 103) dX6_counted_103 rfl rfl ?_
    refine v_iconst (pc := 104) (v := 3) dX6_counted_104 rfl ?_
    refine v_isub (pc := 105) dX6_counted_105 ?_
    obtain rfl : q = 6 := (nI_eq (by omega) (by omega)).mp w3_6
    rw [show (nI 6 : Int32) - 3 = 3 from by decide]
    refine v_callV1 (pc := 106) (c_X6_bagsWith hps hsc hbc) cm_X6_bagsWith q1017 q1019 qs41 (ci := 6) rfl rfl (orcO 0 rfl) [0, 1, 2, 3, 4, 5, 6, 7, 8, 9, 10, 11] (by rfl) (by decide) (fun _ _ h => h) (by decide) (by decide) (by decide) (Nat.le_of_ble_eq_true rfl) dX6_counted_106 (fun v106 M106 hQ106 => ?_)
    obtain ⟨rfl, rfl⟩ := hQ106
    try dsimp only [wb, ModelM, List.set_cons_succ, List.set_cons_zero, List.append_nil, List.nil_append, List.cons_append, Option.toList, Nat.sub_zero]
    refine v_iret (pc := 109) rfl rfl (Nat.le_of_ble_eq_true rfl) dX6_counted_109 ?_
    exact ⟨rfl, rfl⟩
  refine v_tsOut (pc := 3) (tgt := 110) dX6_counted_3 (sw_out 6 (fun k hk h => by
    have hk2 : k = 0 ∨ k = 1 ∨ k = 2 ∨ k = 3 ∨ k = 4 ∨ k = 5 ∨ k = 6 := by omega
    rcases hk2 with rfl | rfl | rfl | rfl | rfl | rfl | rfl
    · exact w3_0 h
    · exact w3_1 h
    · exact w3_2 h
    · exact w3_3 h
    · exact w3_4 h
    · exact w3_5 h
    · exact w3_6 h)) (by decide) ?_
  refine v_iconst (pc := 110) (v := 0) dX6_counted_110 rfl ?_
  refine v_istore_n (pc := 111) dX6_counted_111 rfl (by decide) rfl ?_
  have h0 : ¬ q = 0 := (fun h => w3_0 (by rw [h]))
  have h1 : ¬ q = 1 := (fun h => w3_1 (by rw [h]))
  have h2 : ¬ q = 2 := (fun h => w3_2 (by rw [h]))
  have h3 : ¬ q = 3 := (fun h => w3_3 (by rw [h]))
  have h4 : ¬ q = 4 := (fun h => w3_4 (by rw [h]))
  have h5 : ¬ q = 5 := (fun h => w3_5 (by rw [h]))
  have h6 : ¬ q = 6 := (fun h => w3_6 (by rw [h]))
  rcases (show q = 7 ∨ q = 8 by omega) with rfl | rfl
  · have k9 := lp_X6_counted7 (G := G) (z := z) (th := th) (N := N) (O := O) (PC := PC) (T := T) (S := S) (C := C) (hh := hh) (SF := SF) (BF := BF) (MX := MX) (H := H) (W := W) (sz := sz) hps hsc hbc hT hL hC 160 0 (by omega)
    refine v_sub ?_ k9
    exact ⟨rfl, rfl, rfl, rfl, trivial⟩
  · have k9 := lp_X6_counted8 (G := G) (z := z) (th := th) (N := N) (O := O) (PC := PC) (T := T) (S := S) (C := C) (hh := hh) (SF := SF) (BF := BF) (MX := MX) (H := H) (W := W) (sz := sz) hps hsc hbc hT hL hC 160 0 (by omega)
    refine v_sub ?_ k9
    exact ⟨rfl, rfl, rfl, rfl, trivial⟩
