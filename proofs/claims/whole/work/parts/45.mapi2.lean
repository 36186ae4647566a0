/-! the calls of the reference, second half -/
theorem sum_ch {F G : Nat → Int32} {j : Nat} {v : Int32} (h0 : F j = 0) (hv : G j = v) (hs : ∀ i, ¬ i = j → G i = F i) : ∀ n, sumN G n = sumN F n + (if j < n then v else 0)
  | 0 => by rw [if_neg (Nat.not_lt_zero j)]; exact (Int32.add_zero _).symm
  | n + 1 => by
    show sumN G n + G n = sumN F n + F n + _
    rw [sum_ch h0 hv hs n]
    by_cases e : n = j
    · subst e
      rw [if_neg (Nat.lt_irrefl n), if_pos (Nat.lt_succ_self n), hv, h0, Int32.add_zero]
    · have e2 : (if j < n + 1 then v else 0) = if j < n then v else 0 := by
        by_cases q : j < n
        · rw [if_pos q, if_pos (by omega)]
        · rw [if_neg q, if_neg (by omega)]
      rw [hs n e, e2]
      generalize (if j < n then v else 0) = u
      rw [Int32.add_assoc, Int32.add_comm u, ← Int32.add_assoc]
theorem ld_sum {BF : Nat → Nat → Int32} {bc i j : Nat} (hj : j < bc) (hbc : bc ≤ 40) (h2 : BF j 2 = 0) : sumN (wgF (upS (upS BF j 2 1) j 3 (nI i)) bc (nI i)) 40 = sumN (wgF BF bc (nI i)) 40 + BF j 0 := by
  have h := sum_ch (F := wgF BF bc (nI i)) (G := wgF (upS (upS BF j 2 1) j 3 (nI i)) bc (nI i)) (j := j) (v := BF j 0) ?_ ?_ ?_ 40
  · rw [h, if_pos (by omega)]
  · unfold wgF
    rw [if_neg (fun q => by rw [h2] at q; exact absurd q.2.1 (by decide))]
  · unfold wgF
    rw [upS_s, upS_n _ _ (by omega), upS_s, upS_n _ _ (by omega), upS_n _ _ (by omega), if_pos ⟨hj, rfl, rfl⟩]
  · intro a ha
    unfold wgF
    rw [upS_n _ _ (by omega), upS_n _ _ (by omega), upS_n _ _ (by omega), upS_n _ _ (by omega), upS_n _ _ (by omega), upS_n _ _ (by omega)]
theorem ld_w {SF BF : Nat → Nat → Int32} {bc i j : Nat} (hw : hWI SF BF bc) (hi : i < 5) (hj : j < bc) (hbc : bc ≤ 40) (h2 : BF j 2 = 0) : 40 + 30 * SF i 0 + sumN (wgF (upS (upS BF j 2 1) j 3 (nI i)) bc (nI i)) 40 = slW (upS SF i 1 (SF i 1 + BF j 0)) i := by
  unfold slW
  rw [upS_n _ _ (by omega), upS_s, ld_sum hj hbc h2, hw i hi]
theorem hg_eq {T N C PC : Nat → Int32} {SF : Nat → Nat → Int32} {ps i j g : Nat} {h : Nat → Int32} (hN : nOK N) (hx : 0 ≤ (slW SF i).toInt ∧ (slW SF i).toInt ≤ 2039) (hr : 1 ≤ (SF i 0).toInt ∧ (SF i 0).toInt ≤ 6) (hk : cN (SF i 4) < 160) (h5 : SF i 5 = nI j) (hps : ps ≤ 8) (hj : j < ps) (hPg : PC j = nI g) (hg : g < 160) (hF : FDs (HbS T C SF i) (csS N SF i) g h) (f : Nat → Int32) : (if h (cN (SF i 4)) = 1000000 then -1 else h (cN (SF i 4))) = (hgQ T N C PC SF ps i f).1 (cN (SF i 4)) := by
  unfold hgQ
  rw [h5, cpo_q hps hj hPg hg]
  exact both_hours (lkq_spec (csS_ok hN hx hr) hg hk f) hF hk
theorem fd_rch {Hb : Nat → Bool} {cst : Nat → Nat} {g k : Nat} {h : Nat → Int32} (hC : ∀ j, j < 160 → cst j ≤ 43) (hF : FDs Hb cst g h) (hL : ∃ a, LSp Hb cst g a k) (hk : k < 160) : h k = 1000000 ↔ ¬ ∃ n, Rch Hb g n k := by
  obtain ⟨a, hL⟩ := hL
  constructor
  · rintro e ⟨n, hr⟩
    obtain ⟨m, hm⟩ := Rch.way (cst := cst) hr
    by_cases ea : a k = -1
    · exact hL.2.1 ea n m hm
    · obtain ⟨m2, n2, -, h2, h3, -⟩ := both_some hL hF hk ea
      have := nI_inj (a := 1000000) (b := m2) (by omega) (by omega) (e.symm.trans h2)
      omega
  · intro q
    rcases hF.1 k hk with e | ⟨m, n, -, -, h3⟩
    · exact e
    · exact absurd ⟨n, h3.rch⟩ q
set_option maxRecDepth 100000 in
set_option maxHeartbeats 4000000 in
theorem c_X6_load {G : Cx} {z : Nat → Nat} {th : Int32} {N O PC T S C : Nat → Int32} {ps sc bc hh : Nat} {SF BF : Nat → Nat → Int32} {MX H W : Nat → Int32} (hps : ps ≤ 8) (hsc : sc ≤ 5) (hbc : bc ≤ 40) {s b1 : Int32} (hw : hWI SF BF bc) : Mt G Y_X6_load 7 0 0 [.ref (z 0), .int s, .int b1] (ModelM z th N O PC ps sc bc T S C SF MX BF hh H W) (fun v M' => v = some (.int ((rLd SF BF sc bc s b1).2.1)) ∧ M' = ModelM z (rLd SF BF sc bc s b1).1 N O PC ps sc bc T S C (rLd SF BF sc bc s b1).2.2.1 MX (rLd SF BF sc bc s b1).2.2.2 hh H W) noX := by
  refine Mt.of (L := [some (.ref (z 0)), some (.int s), some (.int b1)]) rfl (by decide) (by simp [lg_sl, Value.category]) ⟨rfl, rfl, rfl, trivial⟩ (fun sz => ?_)
  refine v_aload_nR (pc := 0) dX6_load_0 rfl rfl ?_
  refine v_iconst (pc := 1) (v := 0) dX6_load_1 rfl ?_
  refine v_put (pc := 2) 0 0 fp_X6_load_44 rfl rfl rfl (Nat.le_of_ble_eq_true rfl) dX6_load_2 ?_
  try dsimp only [wb, ModelM, List.set_cons_succ, List.set_cons_zero, List.append_nil, List.nil_append, List.cons_append, Option.toList, Nat.sub_zero, List.take_succ_cons, List.take_zero]
  refine v_aload_nR (pc := 5) dX6_load_5 rfl rfl ?_
  refine v_iload_n (pc := 6) dX6_load_6 rfl rfl ?_
  refine v_callV1 (pc := 7) (c_X6_isSleigh hps hsc hbc) cm_X6_isSleigh q915 q917 qs22 (ci := 6) rfl rfl (orcO 0 rfl) [0, 1, 2, 3, 4, 5, 6, 7, 8, 9, 10, 11] (by rfl) (by decide) (fun _ _ h => h) (by decide) (by decide) (by decide) (Nat.le_of_ble_eq_true rfl) dX6_load_7 (fun v7 M7 hQ7 => ?_)
  obtain ⟨rfl, rfl⟩ := hQ7
  try dsimp only [wb, ModelM, List.set_cons_succ, List.set_cons_zero, List.append_nil, List.nil_append, List.cons_append, Option.toList, Nat.sub_zero, List.take_succ_cons, List.take_zero]
  refine v_if_eq (pc := 10) (tgt := 27) dX6_load_10 (by decide) (fun c10 => ?_) (fun c10 => ?_)
  · have c10 := bI_0.mp c10
    refine v_aload_nR (pc := 27) dX6_load_27 rfl rfl ?_
    refine v_iconst (pc := 28) (v := 1) dX6_load_28 rfl ?_
    refine v_callV1 (pc := 29) (c_X6_fail hps hsc hbc) cm_X6_fail q862 q864 qs16 (ci := 6) rfl rfl (orcO 0 rfl) [0, 1, 2, 3, 4, 5, 6, 7, 8, 9, 10, 11] (by rfl) (by decide) (fun _ _ h => h) (by decide) (by decide) (by decide) (Nat.le_of_ble_eq_true rfl) dX6_load_29 (fun v29 M29 hQ29 => ?_)
    obtain ⟨rfl, rfl⟩ := hQ29
    try dsimp only [wb, ModelM, List.set_cons_succ, List.set_cons_zero, List.append_nil, List.nil_append, List.cons_append, Option.toList, Nat.sub_zero, List.take_succ_cons, List.take_zero]
    refine v_iret (pc := 32) rfl rfl (Nat.le_of_ble_eq_true rfl) dX6_load_32 ?_
    have e9 : (rLd SF BF sc bc s b1) = (1, 0, SF, BF) := by exact if_neg (fun h => c10 h.1)
    rw [e9]
    exact ⟨rfl, rfl⟩
  · have c10 := bI_n.mp c10
    refine v_iload_n (pc := 13) dX6_load_13 rfl rfl ?_
    refine v_iconst (pc := 14) (v := 0) dX6_load_14 rfl ?_
    refine v_aload_nR (pc := 15) dX6_load_15 rfl rfl ?_
    refine v_get (pc := 16) 6 0 fg_X6_90 rfl rfl dX6_load_16 ?_
    refine v_iconst (pc := 19) (v := 1) dX6_load_19 rfl ?_
    refine v_isub (pc := 20) dX6_load_20 ?_
    refine v_callS3 (pc := 21) (c_X6_isIn ) cm_X6_isIn q859 q860 [] (by rfl) (by decide) (fun _ _ h => h) (by decide) (by decide) (by decide) (Nat.le_of_ble_eq_true rfl) dX6_load_21 (fun v21 M21 hQ21 => ?_)
    obtain ⟨rfl, rfl⟩ := hQ21
    try dsimp only [wb, ModelM, List.set_cons_succ, List.set_cons_zero, List.append_nil, List.nil_append, List.cons_append, Option.toList, Nat.sub_zero, List.take_succ_cons, List.take_zero]
    refine v_if_ne (pc := 24) (tgt := 33) dX6_load_24 (by decide) (fun c24 => ?_) (fun c24 => ?_)
    · have c24 := bI_n.mp c24
      have c24b := (isp_iff (by omega)).mp c24
      obtain ⟨i, hi, rfl⟩ := kOf c10 (by omega)
      obtain ⟨j, hj, rfl⟩ := kOf c24b (by omega)
      refine v_aload_nR (pc := 33) dX6_load_33 rfl rfl ?_
      refine v_iload_n (pc := 34) dX6_load_34 rfl rfl ?_
      refine v_iconst (pc := 35) (v := 2) dX6_load_35 rfl ?_
      refine v_callV2 (pc := 36) (c_X6_ba2 hps hsc hbc (by omega)) cm_X6_ba q919 q921 qs23 (ci := 6) rfl rfl (orcO 0 rfl) [0, 1, 2, 3, 4, 5, 6, 7, 8, 9, 10, 11] (by rfl) (by decide) (fun _ _ h => h) (by decide) (by decide) (by decide) (Nat.le_of_ble_eq_true rfl) dX6_load_36 (fun v36 M36 hQ36 => ?_)
      obtain ⟨rfl, rfl⟩ := hQ36
      try dsimp only [wb, ModelM, List.set_cons_succ, List.set_cons_zero, List.append_nil, List.nil_append, List.cons_append, Option.toList, Nat.sub_zero, List.take_succ_cons, List.take_zero]
      refine v_if_ne (pc := 39) (tgt := 66) dX6_load_39 (by decide) (fun c39 => ?_) (fun c39 => ?_)
      · refine v_aload_nR (pc := 66) dX6_load_66 rfl rfl ?_
        refine v_iconst (pc := 67) (v := 2) dX6_load_67 rfl ?_
        refine v_callV1 (pc := 68) (c_X6_fail hps hsc hbc) cm_X6_fail q862 q864 qs16 (ci := 6) rfl rfl (orcO 0 rfl) [0, 1, 2, 3, 4, 5, 6, 7, 8, 9, 10, 11] (by rfl) (by decide) (fun _ _ h => h) (by decide) (by decide) (by decide) (Nat.le_of_ble_eq_true rfl) dX6_load_68 (fun v68 M68 hQ68 => ?_)
        obtain ⟨rfl, rfl⟩ := hQ68
        try dsimp only [wb, ModelM, List.set_cons_succ, List.set_cons_zero, List.append_nil, List.nil_append, List.cons_append, Option.toList, Nat.sub_zero, List.take_succ_cons, List.take_zero]
        refine v_iret (pc := 71) rfl rfl (Nat.le_of_ble_eq_true rfl) dX6_load_71 ?_
        have e9 : (rLd SF BF sc bc (nI i) (nI j)) = (2, 0, SF, BF) := by unfold rLd; rw [if_pos ⟨isP_k hi (by omega), isP_k hj (by omega)⟩, cN_nI (by omega), cN_nI (by omega), if_neg (fun h => c39 h.1)]
        rw [e9]
        exact ⟨rfl, rfl⟩
      · refine v_aload_nR (pc := 42) dX6_load_42 rfl rfl ?_
        refine v_iload_n (pc := 43) dX6_load_43 rfl rfl ?_
        refine v_iconst (pc := 44) (v := 2) dX6_load_44 rfl ?_
        refine v_callV2 (pc := 45) (c_X6_sl2 hps hsc hbc (by omega)) cm_X6_sl q874 q876 qs19 (ci := 6) rfl rfl (orcO 0 rfl) [0, 1, 2, 3, 4, 5, 6, 7, 8, 9, 10, 11] (by rfl) (by decide) (fun _ _ h => h) (by decide) (by decide) (by decide) (Nat.le_of_ble_eq_true rfl) dX6_load_45 (fun v45 M45 hQ45 => ?_)
        obtain ⟨rfl, rfl⟩ := hQ45
        try dsimp only [wb, ModelM, List.set_cons_succ, List.set_cons_zero, List.append_nil, List.nil_append, List.cons_append, Option.toList, Nat.sub_zero, List.take_succ_cons, List.take_zero]
        refine v_if_ne (pc := 48) (tgt := 66) dX6_load_48 (by decide) (fun c48 => ?_) (fun c48 => ?_)
        · refine v_aload_nR (pc := 66) dX6_load_66 rfl rfl ?_
          refine v_iconst (pc := 67) (v := 2) dX6_load_67 rfl ?_
          refine v_callV1 (pc := 68) (c_X6_fail hps hsc hbc) cm_X6_fail q862 q864 qs16 (ci := 6) rfl rfl (orcO 0 rfl) [0, 1, 2, 3, 4, 5, 6, 7, 8, 9, 10, 11] (by rfl) (by decide) (fun _ _ h => h) (by decide) (by decide) (by decide) (Nat.le_of_ble_eq_true rfl) dX6_load_68 (fun v68 M68 hQ68 => ?_)
          obtain ⟨rfl, rfl⟩ := hQ68
          try dsimp only [wb, ModelM, List.set_cons_succ, List.set_cons_zero, List.append_nil, List.nil_append, List.cons_append, Option.toList, Nat.sub_zero, List.take_succ_cons, List.take_zero]
          refine v_iret (pc := 71) rfl rfl (Nat.le_of_ble_eq_true rfl) dX6_load_71 ?_
          have e9 : (rLd SF BF sc bc (nI i) (nI j)) = (2, 0, SF, BF) := by unfold rLd; rw [if_pos ⟨isP_k hi (by omega), isP_k hj (by omega)⟩, cN_nI (by omega), cN_nI (by omega), if_neg (fun h => c48 h.2.1)]
          rw [e9]
          exact ⟨rfl, rfl⟩
        · refine v_aload_nR (pc := 51) dX6_load_51 rfl rfl ?_
          refine v_iload_n (pc := 52) dX6_load_52 rfl rfl ?_
          refine v_iconst (pc := 53) (v := 4) dX6_load_53 rfl ?_
          refine v_callV2 (pc := 54) (c_X6_sl4 hps hsc hbc (by omega)) cm_X6_sl q874 q876 qs19 (ci := 6) rfl rfl (orcO 0 rfl) [0, 1, 2, 3, 4, 5, 6, 7, 8, 9, 10, 11] (by rfl) (by decide) (fun _ _ h => h) (by decide) (by decide) (by decide) (Nat.le_of_ble_eq_true rfl) dX6_load_54 (fun v54 M54 hQ54 => ?_)
          obtain ⟨rfl, rfl⟩ := hQ54
          try dsimp only [wb, ModelM, List.set_cons_succ, List.set_cons_zero, List.append_nil, List.nil_append, List.cons_append, Option.toList, Nat.sub_zero, List.take_succ_cons, List.take_zero]
          refine v_aload_nR (pc := 57) dX6_load_57 rfl rfl ?_
          refine v_iload_n (pc := 58) dX6_load_58 rfl rfl ?_
          refine v_iconst (pc := 59) (v := 3) dX6_load_59 rfl ?_
          refine v_callV2 (pc := 60) (c_X6_ba3 hps hsc hbc (by omega)) cm_X6_ba q919 q921 qs23 (ci := 6) rfl rfl (orcO 0 rfl) [0, 1, 2, 3, 4, 5, 6, 7, 8, 9, 10, 11] (by rfl) (by decide) (fun _ _ h => h) (by decide) (by decide) (by decide) (Nat.le_of_ble_eq_true rfl) dX6_load_60 (fun v60 M60 hQ60 => ?_)
          obtain ⟨rfl, rfl⟩ := hQ60
          try dsimp only [wb, ModelM, List.set_cons_succ, List.set_cons_zero, List.append_nil, List.nil_append, List.cons_append, Option.toList, Nat.sub_zero, List.take_succ_cons, List.take_zero]
          refine v_icmp_eq (pc := 63) (tgt := 72) dX6_load_63 (by decide) (fun c63 => ?_) (fun c63 => ?_)
          · refine v_aload_nR (pc := 72) dX6_load_72 rfl rfl ?_
            refine v_iload_n (pc := 73) dX6_load_73 rfl rfl ?_
            refine v_iconst (pc := 74) (v := 1) dX6_load_74 rfl ?_
            refine v_iload_n (pc := 75) dX6_load_75 rfl rfl ?_
            refine v_callV3 (pc := 76) (c_X6_setBa hps hsc hbc (by omega)) cm_X6_setBa q923 q925 qs24 (ci := 6) rfl rfl (orcO 0 rfl) [0, 1, 2, 3, 4, 5, 6, 7, 8, 9, 10, 11] (by rfl) (by decide) (fun _ _ h => h) (by decide) (by decide) (by decide) (Nat.le_of_ble_eq_true rfl) dX6_load_76 (fun v76 M76 hQ76 => ?_)
            obtain ⟨rfl, rfl⟩ := hQ76
            try dsimp only [wb, ModelM, List.set_cons_succ, List.set_cons_zero, List.append_nil, List.nil_append, List.cons_append, Option.toList, Nat.sub_zero, List.take_succ_cons, List.take_zero]
            refine v_aload_nR (pc := 79) dX6_load_79 rfl rfl ?_
            refine v_iload_n (pc := 80) dX6_load_80 rfl rfl ?_
            refine v_callV1 (pc := 81) (c_X6_weight0 hps hsc hbc (s := i) (by omega)) cm_X6_weight q927 q929 qs25 (ci := 6) rfl rfl (orcO 0 rfl) [0, 1, 2, 3, 4, 5, 6, 7, 8, 9, 10, 11] (by rfl) (by decide) (fun _ _ h => h) (by decide) (by decide) (by decide) (Nat.le_of_ble_eq_true rfl) dX6_load_81 (fun v81 M81 hQ81 => ?_)
            obtain ⟨rfl, rfl⟩ := hQ81
            try dsimp only [wb, ModelM, List.set_cons_succ, List.set_cons_zero, List.append_nil, List.nil_append, List.cons_append, Option.toList, Nat.sub_zero, List.take_succ_cons, List.take_zero]
            refine v_iret (pc := 84) rfl rfl (Nat.le_of_ble_eq_true rfl) dX6_load_84 ?_
            have e9 : (rLd SF BF sc bc (nI i) (nI j)) = (0, slW (upS SF i 1 (SF i 1 + BF j 0)) i, (upS SF i 1 (SF i 1 + BF j 0)), upS (upS BF j 2 1) j 3 (nI i)) := by unfold rLd; rw [if_pos ⟨isP_k hi (by omega), isP_k hj (by omega)⟩, cN_nI (by omega), cN_nI (by omega), if_pos ⟨c39, c48, c63⟩]
            have e8 : tblM (upS SF i 1 (SF i 1 + BF j 0)) MX = tblM SF MX := tblM_cong (fun a k h => upS_n _ _ (by omega))
            rw [e9]
            refine ⟨by rw [ld_w hw (by omega) hj hbc c39], ?_⟩
            dsimp only [ModelM]
            rw [e8]
          · refine v_aload_nR (pc := 66) dX6_load_66 rfl rfl ?_
            refine v_iconst (pc := 67) (v := 2) dX6_load_67 rfl ?_
            refine v_callV1 (pc := 68) (c_X6_fail hps hsc hbc) cm_X6_fail q862 q864 qs16 (ci := 6) rfl rfl (orcO 0 rfl) [0, 1, 2, 3, 4, 5, 6, 7, 8, 9, 10, 11] (by rfl) (by decide) (fun _ _ h => h) (by decide) (by decide) (by decide) (Nat.le_of_ble_eq_true rfl) dX6_load_68 (fun v68 M68 hQ68 => ?_)
            obtain ⟨rfl, rfl⟩ := hQ68
            try dsimp only [wb, ModelM, List.set_cons_succ, List.set_cons_zero, List.append_nil, List.nil_append, List.cons_append, Option.toList, Nat.sub_zero, List.take_succ_cons, List.take_zero]
            refine v_iret (pc := 71) rfl rfl (Nat.le_of_ble_eq_true rfl) dX6_load_71 ?_
            have e9 : (rLd SF BF sc bc (nI i) (nI j)) = (2, 0, SF, BF) := by unfold rLd; rw [if_pos ⟨isP_k hi (by omega), isP_k hj (by omega)⟩, cN_nI (by omega), cN_nI (by omega), if_neg (fun h => c63 h.2.2)]
            rw [e9]
            exact ⟨rfl, rfl⟩
    · have c24 := bI_0.mp c24
      refine v_aload_nR (pc := 27) dX6_load_27 rfl rfl ?_
      refine v_iconst (pc := 28) (v := 1) dX6_load_28 rfl ?_
      refine v_callV1 (pc := 29) (c_X6_fail hps hsc hbc) cm_X6_fail q862 q864 qs16 (ci := 6) rfl rfl (orcO 0 rfl) [0, 1, 2, 3, 4, 5, 6, 7, 8, 9, 10, 11] (by rfl) (by decide) (fun _ _ h => h) (by decide) (by decide) (by decide) (Nat.le_of_ble_eq_true rfl) dX6_load_29 (fun v29 M29 hQ29 => ?_)
      obtain ⟨rfl, rfl⟩ := hQ29
      try dsimp only [wb, ModelM, List.set_cons_succ, List.set_cons_zero, List.append_nil, List.nil_append, List.cons_append, Option.toList, Nat.sub_zero, List.take_succ_cons, List.take_zero]
      refine v_iret (pc := 32) rfl rfl (Nat.le_of_ble_eq_true rfl) dX6_load_32 ?_
      have e9 : (rLd SF BF sc bc s b1) = (1, 0, SF, BF) := by exact if_neg (fun h => c24 ((isp_iff (by omega)).mpr h.2))
      rw [e9]
      exact ⟨rfl, rfl⟩
set_option maxRecDepth 100000 in
set_option maxHeartbeats 4000000 in
theorem c_X6_send {G : Cx} {z : Nat → Nat} {th : Int32} {N O PC T S C : Nat → Int32} {ps sc bc hh : Nat} {SF BF : Nat → Nat → Int32} {MX H W : Nat → Int32} (hps : ps ≤ 8) (hsc : sc ≤ 5) (hbc : bc ≤ 40) {f : Nat → Int32} {s q : Int32} (hPC : ∀ k, k < 8 → 0 ≤ PC k ∧ PC k < 160) (hN : nOK N) (hT : tOK T) (hC : cOK C) (hx : sOK SF sc) (hw : hWI SF BF bc) (hb : bWI BF bc) : Mt G Y_X6_send 7 0 0 [.ref (z 0), .int s, .int q] (ModelM z th N O PC ps sc bc T S C SF MX BF hh H W) (fun v M' => v = some (.int ((rSe T N C PC SF ps sc f s q).2.1)) ∧ ∃ H' : Nat → Int32, M' = ModelM z (rSe T N C PC SF ps sc f s q).1 N O PC ps sc bc T S C (rSe T N C PC SF ps sc f s q).2.2 MX BF hh H' W) noX := by
  refine Mt.of (L := [some (.ref (z 0)), some (.int s), some (.int q)]) rfl (by decide) (by simp [lg_sl, Value.category]) ⟨rfl, rfl, rfl, trivial⟩ (fun sz => ?_)
  refine v_aload_nR (pc := 0) dX6_send_0 rfl rfl ?_
  refine v_iconst (pc := 1) (v := 0) dX6_send_1 rfl ?_
  refine v_put (pc := 2) 0 0 fp_X6_send_44 rfl rfl rfl (Nat.le_of_ble_eq_true rfl) dX6_send_2 ?_
  try dsimp only [wb, ModelM, List.set_cons_succ, List.set_cons_zero, List.append_nil, List.nil_append, List.cons_append, Option.toList, Nat.sub_zero, List.take_succ_cons, List.take_zero]
  refine v_aload_nR (pc := 5) dX6_send_5 rfl rfl ?_
  refine v_iload_n (pc := 6) dX6_send_6 rfl rfl ?_
  refine v_callV1 (pc := 7) (c_X6_isSleigh hps hsc hbc) cm_X6_isSleigh q915 q917 qs22 (ci := 6) rfl rfl (orcO 0 rfl) [0, 1, 2, 3, 4, 5, 6, 7, 8, 9, 10, 11] (by rfl) (by decide) (fun _ _ h => h) (by decide) (by decide) (by decide) (Nat.le_of_ble_eq_true rfl) dX6_send_7 (fun v7 M7 hQ7 => ?_)
  obtain ⟨rfl, rfl⟩ := hQ7
  try dsimp only [wb, ModelM, List.set_cons_succ, List.set_cons_zero, List.append_nil, List.nil_append, List.cons_append, Option.toList, Nat.sub_zero, List.take_succ_cons, List.take_zero]
  refine v_if_eq (pc := 10) (tgt := 21) dX6_send_10 (by decide) (fun c10 => ?_) (fun c10 => ?_)
  · have c10 := bI_0.mp c10
    refine v_aload_nR (pc := 21) dX6_send_21 rfl rfl ?_
    refine v_iconst (pc := 22) (v := 1) dX6_send_22 rfl ?_
    refine v_callV1 (pc := 23) (c_X6_fail hps hsc hbc) cm_X6_fail q862 q864 qs16 (ci := 6) rfl rfl (orcO 0 rfl) [0, 1, 2, 3, 4, 5, 6, 7, 8, 9, 10, 11] (by rfl) (by decide) (fun _ _ h => h) (by decide) (by decide) (by decide) (Nat.le_of_ble_eq_true rfl) dX6_send_23 (fun v23 M23 hQ23 => ?_)
    obtain ⟨rfl, rfl⟩ := hQ23
    try dsimp only [wb, ModelM, List.set_cons_succ, List.set_cons_zero, List.append_nil, List.nil_append, List.cons_append, Option.toList, Nat.sub_zero, List.take_succ_cons, List.take_zero]
    refine v_iret (pc := 26) rfl rfl (Nat.le_of_ble_eq_true rfl) dX6_send_26 ?_
    have e9 : (rSe T N C PC SF ps sc f s q) = (1, 0, SF) := by exact if_neg (fun h => c10 h.1)
    rw [e9]
    exact ⟨rfl, H, rfl⟩
  · have c10 := bI_n.mp c10
    refine v_aload_nR (pc := 13) dX6_send_13 rfl rfl ?_
    refine v_iload_n (pc := 14) dX6_send_14 rfl rfl ?_
    refine v_callV1 (pc := 15) (c_X6_isPost hps hsc hbc) cm_X6_isPost q902 q904 qs21 (ci := 6) rfl rfl (orcO 0 rfl) [0, 1, 2, 3, 4, 5, 6, 7, 8, 9, 10, 11] (by rfl) (by decide) (fun _ _ h => h) (by decide) (by decide) (by decide) (Nat.le_of_ble_eq_true rfl) dX6_send_15 (fun v15 M15 hQ15 => ?_)
    obtain ⟨rfl, rfl⟩ := hQ15
    try dsimp only [wb, ModelM, List.set_cons_succ, List.set_cons_zero, List.append_nil, List.nil_append, List.cons_append, Option.toList, Nat.sub_zero, List.take_succ_cons, List.take_zero]
    refine v_if_ne (pc := 18) (tgt := 27) dX6_send_18 (by decide) (fun c18 => ?_) (fun c18 => ?_)
    · have c18 := bI_n.mp c18
      obtain ⟨i, hi, rfl⟩ := kOf c10 (by omega)
      obtain ⟨j, hj, rfl⟩ := kOf c18 (by omega)
      refine v_aload_nR (pc := 27) dX6_send_27 rfl rfl ?_
      refine v_iload_n (pc := 28) dX6_send_28 rfl rfl ?_
      refine v_iconst (pc := 29) (v := 2) dX6_send_29 rfl ?_
      refine v_callV2 (pc := 30) (c_X6_sl2 hps hsc hbc (by omega)) cm_X6_sl q874 q876 qs19 (ci := 6) rfl rfl (orcO 0 rfl) [0, 1, 2, 3, 4, 5, 6, 7, 8, 9, 10, 11] (by rfl) (by decide) (fun _ _ h => h) (by decide) (by decide) (by decide) (Nat.le_of_ble_eq_true rfl) dX6_send_30 (fun v30 M30 hQ30 => ?_)
      obtain ⟨rfl, rfl⟩ := hQ30
      try dsimp only [wb, ModelM, List.set_cons_succ, List.set_cons_zero, List.append_nil, List.nil_append, List.cons_append, Option.toList, Nat.sub_zero, List.take_succ_cons, List.take_zero]
      refine v_if_ne (pc := 33) (tgt := 52) dX6_send_33 (by decide) (fun c33 => ?_) (fun c33 => ?_)
      · refine v_aload_nR (pc := 52) dX6_send_52 rfl rfl ?_
        refine v_iload_n (pc := 53) dX6_send_53 rfl rfl ?_
        refine v_iconst (pc := 54) (v := 2) dX6_send_54 rfl ?_
        refine v_callV2 (pc := 55) (c_X6_sl2 hps hsc hbc (by omega)) cm_X6_sl q874 q876 qs19 (ci := 6) rfl rfl (orcO 0 rfl) [0, 1, 2, 3, 4, 5, 6, 7, 8, 9, 10, 11] (by rfl) (by decide) (fun _ _ h => h) (by decide) (by decide) (by decide) (Nat.le_of_ble_eq_true rfl) dX6_send_55 (fun v55 M55 hQ55 => ?_)
        obtain ⟨rfl, rfl⟩ := hQ55
        try dsimp only [wb, ModelM, List.set_cons_succ, List.set_cons_zero, List.append_nil, List.nil_append, List.cons_append, Option.toList, Nat.sub_zero, List.take_succ_cons, List.take_zero]
        refine v_if_eq (pc := 58) (tgt := 67) dX6_send_58 (by decide) (fun c58 => ?_) (fun c58 => ?_)
        · exact absurd c58 c33
        · refine v_aload_nR (pc := 61) dX6_send_61 rfl rfl ?_
          refine v_iconst (pc := 62) (v := 3) dX6_send_62 rfl ?_
          refine v_callV1 (pc := 63) (c_X6_fail hps hsc hbc) cm_X6_fail q862 q864 qs16 (ci := 6) rfl rfl (orcO 0 rfl) [0, 1, 2, 3, 4, 5, 6, 7, 8, 9, 10, 11] (by rfl) (by decide) (fun _ _ h => h) (by decide) (by decide) (by decide) (Nat.le_of_ble_eq_true rfl) dX6_send_63 (fun v63 M63 hQ63 => ?_)
          obtain ⟨rfl, rfl⟩ := hQ63
          try dsimp only [wb, ModelM, List.set_cons_succ, List.set_cons_zero, List.append_nil, List.nil_append, List.cons_append, Option.toList, Nat.sub_zero, List.take_succ_cons, List.take_zero]
          refine v_iret (pc := 66) rfl rfl (Nat.le_of_ble_eq_true rfl) dX6_send_66 ?_
          have e9 : (rSe T N C PC SF ps sc f (nI i) (nI j)) = (3, 0, SF) := by unfold rSe; rw [if_pos ⟨isP_k hi (by omega), isP_k hj (by omega)⟩, cN_nI (by omega), if_neg (fun h => c33 h.1), if_pos c33]
          rw [e9]
          exact ⟨rfl, H, rfl⟩
      · refine v_aload_nR (pc := 36) dX6_send_36 rfl rfl ?_
        refine v_iload_n (pc := 37) dX6_send_37 rfl rfl ?_
        refine v_iconst (pc := 38) (v := 4) dX6_send_38 rfl ?_
        refine v_callV2 (pc := 39) (c_X6_sl4 hps hsc hbc (by omega)) cm_X6_sl q874 q876 qs19 (ci := 6) rfl rfl (orcO 0 rfl) [0, 1, 2, 3, 4, 5, 6, 7, 8, 9, 10, 11] (by rfl) (by decide) (fun _ _ h => h) (by decide) (by decide) (by decide) (Nat.le_of_ble_eq_true rfl) dX6_send_39 (fun v39 M39 hQ39 => ?_)
        obtain ⟨rfl, rfl⟩ := hQ39
        try dsimp only [wb, ModelM, List.set_cons_succ, List.set_cons_zero, List.append_nil, List.nil_append, List.cons_append, Option.toList, Nat.sub_zero, List.take_succ_cons, List.take_zero]
        refine v_iload_n (pc := 42) dX6_send_42 rfl rfl ?_
        refine v_icmp_ne (pc := 43) (tgt := 52) dX6_send_43 (by decide) (fun c43 => ?_) (fun c43 => ?_)
        · refine v_aload_nR (pc := 52) dX6_send_52 rfl rfl ?_
          refine v_iload_n (pc := 53) dX6_send_53 rfl rfl ?_
          refine v_iconst (pc := 54) (v := 2) dX6_send_54 rfl ?_
          refine v_callV2 (pc := 55) (c_X6_sl2 hps hsc hbc (by omega)) cm_X6_sl q874 q876 qs19 (ci := 6) rfl rfl (orcO 0 rfl) [0, 1, 2, 3, 4, 5, 6, 7, 8, 9, 10, 11] (by rfl) (by decide) (fun _ _ h => h) (by decide) (by decide) (by decide) (Nat.le_of_ble_eq_true rfl) dX6_send_55 (fun v55 M55 hQ55 => ?_)
          obtain ⟨rfl, rfl⟩ := hQ55
          try dsimp only [wb, ModelM, List.set_cons_succ, List.set_cons_zero, List.append_nil, List.nil_append, List.cons_append, Option.toList, Nat.sub_zero, List.take_succ_cons, List.take_zero]
          refine v_if_eq (pc := 58) (tgt := 67) dX6_send_58 (by decide) (fun c58 => ?_) (fun c58 => ?_)
          · refine v_aload_nR (pc := 67) dX6_send_67 rfl rfl ?_
            refine v_iload_n (pc := 68) dX6_send_68 rfl rfl ?_
            refine v_iconst (pc := 69) (v := 2) dX6_send_69 rfl ?_
            refine v_iconst (pc := 70) (v := 1) dX6_send_70 rfl ?_
            refine v_callV3 (pc := 71) (c_X6_set2 hps hsc hbc (by omega)) cm_X6_set q939 q941 qs27 (ci := 6) rfl rfl (orcO 0 rfl) [0, 1, 2, 3, 4, 5, 6, 7, 8, 9, 10, 11] (by rfl) (by decide) (fun _ _ h => h) (by decide) (by decide) (by decide) (Nat.le_of_ble_eq_true rfl) dX6_send_71 (fun v71 M71 hQ71 => ?_)
            obtain ⟨rfl, rfl⟩ := hQ71
            try dsimp only [wb, ModelM, List.set_cons_succ, List.set_cons_zero, List.append_nil, List.nil_append, List.cons_append, Option.toList, Nat.sub_zero, List.take_succ_cons, List.take_zero]
            refine v_aload_nR (pc := 74) dX6_send_74 rfl rfl ?_
            refine v_iload_n (pc := 75) dX6_send_75 rfl rfl ?_
            refine v_iconst (pc := 76) (v := 4) dX6_send_76 rfl ?_
            refine v_iload_n (pc := 77) dX6_send_77 rfl rfl ?_
            refine v_callV3 (pc := 78) (c_X6_set4 hps hsc hbc (by omega)) cm_X6_set q939 q941 qs27 (ci := 6) rfl rfl (orcO 0 rfl) [0, 1, 2, 3, 4, 5, 6, 7, 8, 9, 10, 11] (by rfl) (by decide) (fun _ _ h => h) (by decide) (by decide) (by decide) (Nat.le_of_ble_eq_true rfl) dX6_send_78 (fun v78 M78 hQ78 => ?_)
            obtain ⟨rfl, rfl⟩ := hQ78
            try dsimp only [wb, ModelM, List.set_cons_succ, List.set_cons_zero, List.append_nil, List.nil_append, List.cons_append, Option.toList, Nat.sub_zero, List.take_succ_cons, List.take_zero]
            have e8 : tblM (upS (upS SF i 3 1) i 5 (nI j)) MX = tblM (dpS SF i (nI j)) MX := tblM_cong (fun a k h => (upS_n _ _ (by omega)).symm)
            rw [e8]
            have hx9 : sOK (dpS SF i (nI j)) sc := dp_ok hx
            have hw9 : hWI (dpS SF i (nI j)) BF bc := ((hw.up (by decide)).up (by decide)).up (by decide)
            have hW9 := wt_bd hw9 hb hx9 hsc hi
            have hK9 := cN_of (hx9 i hi).2.1
            have h59 : dpS SF i (nI j) i 5 = nI j := by unfold dpS; rw [upS_n _ _ (by omega), upS_s]
            have hP9 := cN_of (hPC j (by omega))
            refine v_aload_nR (pc := 81) dX6_send_81 rfl rfl ?_
            refine v_iload_n (pc := 82) dX6_send_82 rfl rfl ?_
            refine v_callV1 (pc := 83) (c_X6_findFor hps hsc hbc (SF := dpS SF i (nI j)) (s := i) (by omega) (hw9 i (by omega)) hW9 (hx9 i hi).1 hN hT hC hK9.1 hK9.2 hj h59 hP9.1 hP9.2) cm_X6_findFor q943 q945 qs28 (ci := 6) rfl rfl (orcO 0 rfl) [0, 1, 2, 3, 4, 5, 6, 7, 8, 9, 10, 11] (by rfl) (by decide) (fun _ _ h => h) (by decide) (by decide) (by decide) (Nat.le_of_ble_eq_true rfl) dX6_send_83 (fun v83 M83 hQ83 => ?_)
            obtain ⟨h83, hF83, rfl, rfl⟩ := hQ83
            try dsimp only [wb, ModelM, List.set_cons_succ, List.set_cons_zero, List.append_nil, List.nil_append, List.cons_append, Option.toList, Nat.sub_zero, List.take_succ_cons, List.take_zero]
            refine v_iret (pc := 86) rfl rfl (Nat.le_of_ble_eq_true rfl) dX6_send_86 ?_
            have e9 : (rSe T N C PC SF ps sc f (nI i) (nI j)) = (0, (hgQ T N C PC (dpS SF i (nI j)) ps i f).1 (cN (dpS SF i (nI j) i 4)), dpS SF i (nI j)) := by unfold rSe; rw [if_pos ⟨isP_k hi (by omega), isP_k hj (by omega)⟩, cN_nI (by omega), if_neg (fun h => c43 h.2), if_neg (fun h => h c33)]
            rw [e9]
            exact ⟨by rw [hg_eq hN hW9 (hx9 i hi).1 hK9.2 h59 hps hj hP9.1 hP9.2 hF83 f], h83, rfl⟩
          · exact absurd c33 c58
        · refine v_aload_nR (pc := 46) dX6_send_46 rfl rfl ?_
          refine v_iconst (pc := 47) (v := 2) dX6_send_47 rfl ?_
          refine v_callV1 (pc := 48) (c_X6_fail hps hsc hbc) cm_X6_fail q862 q864 qs16 (ci := 6) rfl rfl (orcO 0 rfl) [0, 1, 2, 3, 4, 5, 6, 7, 8, 9, 10, 11] (by rfl) (by decide) (fun _ _ h => h) (by decide) (by decide) (by decide) (Nat.le_of_ble_eq_true rfl) dX6_send_48 (fun v48 M48 hQ48 => ?_)
          obtain ⟨rfl, rfl⟩ := hQ48
          try dsimp only [wb, ModelM, List.set_cons_succ, List.set_cons_zero, List.append_nil, List.nil_append, List.cons_append, Option.toList, Nat.sub_zero, List.take_succ_cons, List.take_zero]
          refine v_iret (pc := 51) rfl rfl (Nat.le_of_ble_eq_true rfl) dX6_send_51 ?_
          have e9 : (rSe T N C PC SF ps sc f (nI i) (nI j)) = (2, 0, SF) := by unfold rSe; rw [if_pos ⟨isP_k hi (by omega), isP_k hj (by omega)⟩, cN_nI (by omega), if_pos ⟨c33, c43⟩]
          rw [e9]
          exact ⟨rfl, H, rfl⟩
    · have c18 := bI_0.mp c18
      refine v_aload_nR (pc := 21) dX6_send_21 rfl rfl ?_
      refine v_iconst (pc := 22) (v := 1) dX6_send_22 rfl ?_
      refine v_callV1 (pc := 23) (c_X6_fail hps hsc hbc) cm_X6_fail q862 q864 qs16 (ci := 6) rfl rfl (orcO 0 rfl) [0, 1, 2, 3, 4, 5, 6, 7, 8, 9, 10, 11] (by rfl) (by decide) (fun _ _ h => h) (by decide) (by decide) (by decide) (Nat.le_of_ble_eq_true rfl) dX6_send_23 (fun v23 M23 hQ23 => ?_)
      obtain ⟨rfl, rfl⟩ := hQ23
      try dsimp only [wb, ModelM, List.set_cons_succ, List.set_cons_zero, List.append_nil, List.nil_append, List.cons_append, Option.toList, Nat.sub_zero, List.take_succ_cons, List.take_zero]
      refine v_iret (pc := 26) rfl rfl (Nat.le_of_ble_eq_true rfl) dX6_send_26 ?_
      have e9 : (rSe T N C PC SF ps sc f s q) = (1, 0, SF) := by exact if_neg (fun h => c18 h.2)
      rw [e9]
      exact ⟨rfl, H, rfl⟩
set_option maxRecDepth 100000 in
set_option maxHeartbeats 4000000 in
theorem c_X6_way {G : Cx} {z : Nat → Nat} {th : Int32} {N O PC T S C : Nat → Int32} {ps sc bc hh : Nat} {SF BF : Nat → Nat → Int32} {MX H W : Nat → Int32} (hps : ps ≤ 8) (hsc : sc ≤ 5) (hbc : bc ≤ 40) {f : Nat → Int32} {a1 b1 w1 r1 : Int32} (hPC : ∀ k, k < 8 → 0 ≤ PC k ∧ PC k < 160) (hN : nOK N) (hT : tOK T) (hC : cOK C) : Mt G Y_X6_way 7 0 0 [.ref (z 0), .int a1, .int b1, .int w1, .int r1] (ModelM z th N O PC ps sc bc T S C SF MX BF hh H W) (fun v M' => v = some (.int ((rWy T N C PC ps f a1 b1 w1 r1).2)) ∧ ∃ H' : Nat → Int32, M' = ModelM z (rWy T N C PC ps f a1 b1 w1 r1).1 N O PC ps sc bc T S C SF MX BF hh H' W) noX := by
  refine Mt.of (L := [some (.ref (z 0)), some (.int a1), some (.int b1), some (.int w1), some (.int r1)]) rfl (by decide) (by simp [lg_sl, Value.category]) ⟨rfl, rfl, rfl, rfl, rfl, trivial⟩ (fun sz => ?_)
  refine v_aload_nR (pc := 0) dX6_way_0 rfl rfl ?_
  refine v_iconst (pc := 1) (v := 0) dX6_way_1 rfl ?_
  refine v_put (pc := 2) 0 0 fp_X6_way_44 rfl rfl rfl (Nat.le_of_ble_eq_true rfl) dX6_way_2 ?_
  try dsimp only [wb, ModelM, List.set_cons_succ, List.set_cons_zero, List.append_nil, List.nil_append, List.cons_append, Option.toList, Nat.sub_zero, List.take_succ_cons, List.take_zero]
  refine v_aload_nR (pc := 5) dX6_way_5 rfl rfl ?_
  refine v_iload_n (pc := 6) dX6_way_6 rfl rfl ?_
  refine v_callV1 (pc := 7) (c_X6_isPost hps hsc hbc) cm_X6_isPost q902 q904 qs21 (ci := 6) rfl rfl (orcO 0 rfl) [0, 1, 2, 3, 4, 5, 6, 7, 8, 9, 10, 11] (by rfl) (by decide) (fun _ _ h => h) (by decide) (by decide) (by decide) (Nat.le_of_ble_eq_true rfl) dX6_way_7 (fun v7 M7 hQ7 => ?_)
  obtain ⟨rfl, rfl⟩ := hQ7
  try dsimp only [wb, ModelM, List.set_cons_succ, List.set_cons_zero, List.append_nil, List.nil_append, List.cons_append, Option.toList, Nat.sub_zero, List.take_succ_cons, List.take_zero]
  refine v_if_eq (pc := 10) (tgt := 21) dX6_way_10 (by decide) (fun c10 => ?_) (fun c10 => ?_)
  · have c10 := bI_0.mp c10
    refine v_aload_nR (pc := 21) dX6_way_21 rfl rfl ?_
    refine v_iconst (pc := 22) (v := 1) dX6_way_22 rfl ?_
    refine v_callV1 (pc := 23) (c_X6_fail hps hsc hbc) cm_X6_fail q862 q864 qs16 (ci := 6) rfl rfl (orcO 0 rfl) [0, 1, 2, 3, 4, 5, 6, 7, 8, 9, 10, 11] (by rfl) (by decide) (fun _ _ h => h) (by decide) (by decide) (by decide) (Nat.le_of_ble_eq_true rfl) dX6_way_23 (fun v23 M23 hQ23 => ?_)
    obtain ⟨rfl, rfl⟩ := hQ23
    try dsimp only [wb, ModelM, List.set_cons_succ, List.set_cons_zero, List.append_nil, List.nil_append, List.cons_append, Option.toList, Nat.sub_zero, List.take_succ_cons, List.take_zero]
    refine v_iret (pc := 26) rfl rfl (Nat.le_of_ble_eq_true rfl) dX6_way_26 ?_
    have e9 : (rWy T N C PC ps f a1 b1 w1 r1) = (1, 0) := by exact if_neg (fun h => c10 h.1)
    rw [e9]
    exact ⟨rfl, H, rfl⟩
  · have c10 := bI_n.mp c10
    refine v_aload_nR (pc := 13) dX6_way_13 rfl rfl ?_
    refine v_iload_n (pc := 14) dX6_way_14 rfl rfl ?_
    refine v_callV1 (pc := 15) (c_X6_isPost hps hsc hbc) cm_X6_isPost q902 q904 qs21 (ci := 6) rfl rfl (orcO 0 rfl) [0, 1, 2, 3, 4, 5, 6, 7, 8, 9, 10, 11] (by rfl) (by decide) (fun _ _ h => h) (by decide) (by decide) (by decide) (Nat.le_of_ble_eq_true rfl) dX6_way_15 (fun v15 M15 hQ15 => ?_)
    obtain ⟨rfl, rfl⟩ := hQ15
    try dsimp only [wb, ModelM, List.set_cons_succ, List.set_cons_zero, List.append_nil, List.nil_append, List.cons_append, Option.toList, Nat.sub_zero, List.take_succ_cons, List.take_zero]
    refine v_if_ne (pc := 18) (tgt := 27) dX6_way_18 (by decide) (fun c18 => ?_) (fun c18 => ?_)
    · have c18 := bI_n.mp c18
      obtain ⟨i, hi, rfl⟩ := kOf c10 (by omega)
      obtain ⟨j, hj, rfl⟩ := kOf c18 (by omega)
      have hA := cN_of (hPC i (by omega))
      have hB := cN_of (hPC j (by omega))
      refine v_iload_n (pc := 27) dX6_way_27 rfl rfl ?_
      refine v_iconst (pc := 28) (v := 1) dX6_way_28 rfl ?_
      refine v_sipush (pc := 29) (v := 2000) dX6_way_29 rfl ?_
      refine v_callS3 (pc := 32) (c_X6_isIn ) cm_X6_isIn q859 q860 [] (by rfl) (by decide) (fun _ _ h => h) (by decide) (by decide) (by decide) (Nat.le_of_ble_eq_true rfl) dX6_way_32 (fun v32 M32 hQ32 => ?_)
      obtain ⟨rfl, rfl⟩ := hQ32
      try dsimp only [wb, ModelM, List.set_cons_succ, List.set_cons_zero, List.append_nil, List.nil_append, List.cons_append, Option.toList, Nat.sub_zero, List.take_succ_cons, List.take_zero]
      refine v_if_eq (pc := 35) (tgt := 49) dX6_way_35 (by decide) (fun c35 => ?_) (fun c35 => ?_)
      · have c35 := bI_0.mp c35
        refine v_aload_nR (pc := 49) dX6_way_49 rfl rfl ?_
        refine v_iconst (pc := 50) (v := 2) dX6_way_50 rfl ?_
        refine v_callV1 (pc := 51) (c_X6_fail hps hsc hbc) cm_X6_fail q862 q864 qs16 (ci := 6) rfl rfl (orcO 0 rfl) [0, 1, 2, 3, 4, 5, 6, 7, 8, 9, 10, 11] (by rfl) (by decide) (fun _ _ h => h) (by decide) (by decide) (by decide) (Nat.le_of_ble_eq_true rfl) dX6_way_51 (fun v51 M51 hQ51 => ?_)
        obtain ⟨rfl, rfl⟩ := hQ51
        try dsimp only [wb, ModelM, List.set_cons_succ, List.set_cons_zero, List.append_nil, List.nil_append, List.cons_append, Option.toList, Nat.sub_zero, List.take_succ_cons, List.take_zero]
        refine v_iret (pc := 54) rfl rfl (Nat.le_of_ble_eq_true rfl) dX6_way_54 ?_
        have e9 : (rWy T N C PC ps f (nI i) (nI j) w1 r1) = (2, 0) := by exact (if_pos ⟨isP_k hi (by omega), isP_k hj (by omega)⟩).trans (if_neg (fun h => c35 h.1))
        rw [e9]
        exact ⟨rfl, H, rfl⟩
      · have c35 := bI_n.mp c35
        refine v_iload (pc := 38) dX6_way_38 rfl ?_
        refine v_iconst (pc := 40) (v := 1) dX6_way_40 rfl ?_
        refine v_bipush (pc := 41) (v := 6) dX6_way_41 rfl ?_
        refine v_callS3 (pc := 43) (c_X6_isIn ) cm_X6_isIn q859 q860 [] (by rfl) (by decide) (fun _ _ h => h) (by decide) (by decide) (by decide) (Nat.le_of_ble_eq_true rfl) dX6_way_43 (fun v43 M43 hQ43 => ?_)
        obtain ⟨rfl, rfl⟩ := hQ43
        try dsimp only [wb, ModelM, List.set_cons_succ, List.set_cons_zero, List.append_nil, List.nil_append, List.cons_append, Option.toList, Nat.sub_zero, List.take_succ_cons, List.take_zero]
        refine v_if_ne (pc := 46) (tgt := 55) dX6_way_46 (by decide) (fun c46 => ?_) (fun c46 => ?_)
        · have c46 := bI_n.mp c46
          have hR : 1 ≤ r1.toInt ∧ r1.toInt ≤ 6 := by
            have h1 := c46.1
            have h2 := c46.2
            rw [i_le, i_1] at h1
            rw [i_le, i_6] at h2
            exact ⟨h1, h2⟩
          have hX : 0 ≤ w1.toInt ∧ w1.toInt ≤ 2039 := by
            have h1 := c35.1
            have h2 := c35.2
            rw [i_le, i_1] at h1
            rw [i_le, i_2000] at h2
            omega
          have hCs := cst_ok (t := 0) hN hX hR
          refine v_aload_nR (pc := 55) dX6_way_55 rfl rfl ?_
          refine v_aload_nR (pc := 56) dX6_way_56 rfl rfl ?_
          refine v_get (pc := 57) 4 0 fg_X6_16 rfl rfl dX6_way_57 ?_
          refine v_iload_n (pc := 60) dX6_way_60 rfl rfl ?_
          refine v_ialdN (pc := 61) 3 (k := j) rfl (by omega) (by decide) dX6_way_61 ?_
          rw [hB.1]
          refine v_iload_n (pc := 62) dX6_way_62 rfl rfl ?_
          refine v_iload (pc := 63) dX6_way_63 rfl ?_
          refine v_iconst (pc := 65) (v := 0) dX6_way_65 rfl ?_
          refine v_callV4 (pc := 66) (c_X6_find hps hsc hbc (cst := (fun m => cN (N m + (w1 / (60 * r1) + (if 50 ≤ (0 : Int32) then 1 else 0))))) hB.2 hR hT hC (fun m hm => ⟨mpc_eq.trans (hCs m hm).1, (hCs m hm).2⟩)) cm_X6_find q947 q949 qs29 (ci := 6) rfl rfl (orcO 0 rfl) [0, 1, 2, 3, 4, 5, 6, 7, 8, 9, 10, 11] (by rfl) (by decide) (fun _ _ h => h) (by decide) (by decide) (by decide) (Nat.le_of_ble_eq_true rfl) dX6_way_66 (fun v66 M66 hQ66 => ?_)
          obtain ⟨rfl, h66, hF66, rfl⟩ := hQ66
          try dsimp only [wb, ModelM, List.set_cons_succ, List.set_cons_zero, List.append_nil, List.nil_append, List.cons_append, Option.toList, Nat.sub_zero, List.take_succ_cons, List.take_zero]
          refine v_aload_nR (pc := 69) dX6_way_69 rfl rfl ?_
          refine v_get (pc := 70) 13 0 fg_X6_37 rfl rfl dX6_way_70 ?_
          refine v_aload_nR (pc := 73) dX6_way_73 rfl rfl ?_
          refine v_get (pc := 74) 4 0 fg_X6_16 rfl rfl dX6_way_74 ?_
          refine v_iload_n (pc := 77) dX6_way_77 rfl rfl ?_
          refine v_ialdN (pc := 78) 3 (k := i) rfl (by omega) (by decide) dX6_way_78 ?_
          rw [hA.1]
          refine v_ialdN (pc := 79) 10 (k := (cN (PC i))) rfl (by have := hA.2; omega) (by decide) dX6_way_79 ?_
          refine v_ldc (pc := 80) q951 dX6_way_80 ?_
          refine v_icmp_ne (pc := 82) (tgt := 89) dX6_way_82 (by decide) (fun c82 => ?_) (fun c82 => ?_)
          · refine v_aload_nR (pc := 89) dX6_way_89 rfl rfl ?_
            refine v_get (pc := 90) 13 0 fg_X6_37 rfl rfl dX6_way_90 ?_
            refine v_aload_nR (pc := 93) dX6_way_93 rfl rfl ?_
            refine v_get (pc := 94) 4 0 fg_X6_16 rfl rfl dX6_way_94 ?_
            refine v_iload_n (pc := 97) dX6_way_97 rfl rfl ?_
            refine v_ialdN (pc := 98) 3 (k := i) rfl (by omega) (by decide) dX6_way_98 ?_
            rw [hA.1]
            refine v_ialdN (pc := 99) 10 (k := (cN (PC i))) rfl (by have := hA.2; omega) (by decide) dX6_way_99 ?_
            refine v_iret (pc := 100) rfl rfl (Nat.le_of_ble_eq_true rfl) dX6_way_100 ?_
            have e9 : (rWy T N C PC ps f (nI i) (nI j) w1 r1) = (0, (lkq (fun k => hoB T C k (8 + w1 / 12)) N (w1 / (60 * r1) + (if 50 ≤ (0 : Int32) then 1 else 0)) (cN (PC i)) (some (cN (PC j))) f).1 (cN (PC i))) := by
              unfold rWy
              rw [if_pos ⟨isP_k hi (by omega), isP_k hj (by omega)⟩, if_pos ⟨c35, c46⟩, cop_k hi hps, cpo_q hps hj hB.1 hB.2]
            rw [e9]
            have eB := both_hours (lkq_spec hCs hB.2 hA.2 f) hF66 hA.2
            exact ⟨by rw [← eB, if_neg c82], h66, rfl⟩
          · refine v_iconst (pc := 85) (v := -1) dX6_way_85 rfl ?_
            refine v_goto (pc := 86) (tgt := 100) dX6_way_86 (by decide) ?_
            refine v_iret (pc := 100) rfl rfl (Nat.le_of_ble_eq_true rfl) dX6_way_100 ?_
            have e9 : (rWy T N C PC ps f (nI i) (nI j) w1 r1) = (0, (lkq (fun k => hoB T C k (8 + w1 / 12)) N (w1 / (60 * r1) + (if 50 ≤ (0 : Int32) then 1 else 0)) (cN (PC i)) (some (cN (PC j))) f).1 (cN (PC i))) := by
              unfold rWy
              rw [if_pos ⟨isP_k hi (by omega), isP_k hj (by omega)⟩, if_pos ⟨c35, c46⟩, cop_k hi hps, cpo_q hps hj hB.1 hB.2]
            rw [e9]
            have eB := both_hours (lkq_spec hCs hB.2 hA.2 f) hF66 hA.2
            exact ⟨by rw [← eB, if_pos c82], h66, rfl⟩
        · have c46 := bI_0.mp c46
          refine v_aload_nR (pc := 49) dX6_way_49 rfl rfl ?_
          refine v_iconst (pc := 50) (v := 2) dX6_way_50 rfl ?_
          refine v_callV1 (pc := 51) (c_X6_fail hps hsc hbc) cm_X6_fail q862 q864 qs16 (ci := 6) rfl rfl (orcO 0 rfl) [0, 1, 2, 3, 4, 5, 6, 7, 8, 9, 10, 11] (by rfl) (by decide) (fun _ _ h => h) (by decide) (by decide) (by decide) (Nat.le_of_ble_eq_true rfl) dX6_way_51 (fun v51 M51 hQ51 => ?_)
          obtain ⟨rfl, rfl⟩ := hQ51
          try dsimp only [wb, ModelM, List.set_cons_succ, List.set_cons_zero, List.append_nil, List.nil_append, List.cons_append, Option.toList, Nat.sub_zero, List.take_succ_cons, List.take_zero]
          refine v_iret (pc := 54) rfl rfl (Nat.le_of_ble_eq_true rfl) dX6_way_54 ?_
          have e9 : (rWy T N C PC ps f (nI i) (nI j) w1 r1) = (2, 0) := by exact (if_pos ⟨isP_k hi (by omega), isP_k hj (by omega)⟩).trans (if_neg (fun h => c46 h.2))
          rw [e9]
          exact ⟨rfl, H, rfl⟩
    · have c18 := bI_0.mp c18
      refine v_aload_nR (pc := 21) dX6_way_21 rfl rfl ?_
      refine v_iconst (pc := 22) (v := 1) dX6_way_22 rfl ?_
      refine v_callV1 (pc := 23) (c_X6_fail hps hsc hbc) cm_X6_fail q862 q864 qs16 (ci := 6) rfl rfl (orcO 0 rfl) [0, 1, 2, 3, 4, 5, 6, 7, 8, 9, 10, 11] (by rfl) (by decide) (fun _ _ h => h) (by decide) (by decide) (by decide) (Nat.le_of_ble_eq_true rfl) dX6_way_23 (fun v23 M23 hQ23 => ?_)
      obtain ⟨rfl, rfl⟩ := hQ23
      try dsimp only [wb, ModelM, List.set_cons_succ, List.set_cons_zero, List.append_nil, List.nil_append, List.cons_append, Option.toList, Nat.sub_zero, List.take_succ_cons, List.take_zero]
      refine v_iret (pc := 26) rfl rfl (Nat.le_of_ble_eq_true rfl) dX6_way_26 ?_
      have e9 : (rWy T N C PC ps f a1 b1 w1 r1) = (1, 0) := by exact if_neg (fun h => c18 h.2)
      rw [e9]
      exact ⟨rfl, H, rfl⟩
set_option maxRecDepth 100000 in
set_option maxHeartbeats 4000000 in
theorem c_X6_isWay {G : Cx} {z : Nat → Nat} {th : Int32} {N O PC T S C : Nat → Int32} {ps sc bc hh : Nat} {SF BF : Nat → Nat → Int32} {MX H W : Nat → Int32} (hps : ps ≤ 8) (hsc : sc ≤ 5) (hbc : bc ≤ 40) {i j m : Nat} (hi : i < ps) (hj : j < ps) (hm : 1 ≤ m ∧ m ≤ 2000) (hPC : ∀ k, k < 8 → 0 ≤ PC k ∧ PC k < 160) (hN : nOK N) (hT : tOK T) (hC : cOK C) : Mt G Y_X6_isWay 5 0 0 [.ref (z 0), .int (nI i), .int (nI j), .int (nI m)] (ModelM z th N O PC ps sc bc T S C SF MX BF hh H W) (fun v M' => (∃ b : Bool, v = some (.int (bI (b = true))) ∧ (b = true ↔ RchB T C (cN (PC j)) (cN (PC i)) m)) ∧ ∃ H' : Nat → Int32, M' = ModelM z th N O PC ps sc bc T S C SF MX BF hh H' W) noX := by
  refine Mt.of (L := [some (.ref (z 0)), some (.int (nI i)), some (.int (nI j)), some (.int (nI m))]) rfl (by decide) (by simp [lg_sl, Value.category]) ⟨rfl, rfl, rfl, rfl, trivial⟩ (fun sz => ?_)
  have hA := cN_of (hPC i (by omega))
  have hB := cN_of (hPC j (by omega))
  have hX : 0 ≤ (nI m).toInt ∧ (nI m).toInt ≤ 2039 := by rw [nI_toInt (by omega)]; omega
  have hCs := cst_ok (r := 1) (t := 0) hN hX (by decide)
  refine v_aload_nR (pc := 0) dX6_isWay_0 rfl rfl ?_
  refine v_aload_nR (pc := 1) dX6_isWay_1 rfl rfl ?_
  refine v_get (pc := 2) 4 0 fg_X6_16 rfl rfl dX6_isWay_2 ?_
  refine v_iload_n (pc := 5) dX6_isWay_5 rfl rfl ?_
  refine v_ialdN (pc := 6) 3 (k := j) rfl (by omega) (by decide) dX6_isWay_6 ?_
  rw [hB.1]
  refine v_iload_n (pc := 7) dX6_isWay_7 rfl rfl ?_
  refine v_iconst (pc := 8) (v := 1) dX6_isWay_8 rfl ?_
  refine v_iconst (pc := 9) (v := 0) dX6_isWay_9 rfl ?_
  refine v_callV4 (pc := 10) (c_X6_find hps hsc hbc (cst := fun a => cN (N a + (nI m / (60 * 1) + (if 50 ≤ (0 : Int32) then 1 else 0)))) hB.2 (by decide) hT hC (fun a ha => ⟨mpc_eq.trans (hCs a ha).1, (hCs a ha).2⟩)) cm_X6_find q947 q949 qs29 (ci := 6) rfl rfl (orcO 0 rfl) [0, 1, 2, 3, 4, 5, 6, 7, 8, 9, 10, 11] (by rfl) (by decide) (fun _ _ h => h) (by decide) (by decide) (by decide) (Nat.le_of_ble_eq_true rfl) dX6_isWay_10 (fun v10 M10 hQ10 => ?_)
  obtain ⟨rfl, h10, hF10, rfl⟩ := hQ10
  try dsimp only [wb, ModelM, List.set_cons_succ, List.set_cons_zero, List.append_nil, List.nil_append, List.cons_append, Option.toList, Nat.sub_zero, List.take_succ_cons, List.take_zero]
  refine v_aload_nR (pc := 13) dX6_isWay_13 rfl rfl ?_
  refine v_get (pc := 14) 13 0 fg_X6_37 rfl rfl dX6_isWay_14 ?_
  refine v_aload_nR (pc := 17) dX6_isWay_17 rfl rfl ?_
  refine v_get (pc := 18) 4 0 fg_X6_16 rfl rfl dX6_isWay_18 ?_
  refine v_iload_n (pc := 21) dX6_isWay_21 rfl rfl ?_
  refine v_ialdN (pc := 22) 3 (k := i) rfl (by omega) (by decide) dX6_isWay_22 ?_
  rw [hA.1]
  have hE := fd_rch (fun c hc => (hCs c hc).2.2) hF10 ⟨_, lkq_spec hCs hB.2 hA.2 (fun _ => 0)⟩ hA.2
  refine v_ialdN (pc := 23) 10 (k := (cN (PC i))) rfl (by have := hA.2; omega) (by decide) dX6_isWay_23 ?_
  refine v_ldc (pc := 24) q951 dX6_isWay_24 ?_
  refine v_icmp_eq (pc := 26) (tgt := 33) dX6_isWay_26 (by decide) (fun c26 => ?_) (fun c26 => ?_)
  · refine v_iconst (pc := 33) (v := 0) dX6_isWay_33 rfl ?_
    refine v_iret (pc := 34) rfl (by first | rfl | exact bI_nar) (Nat.le_of_ble_eq_true rfl) dX6_isWay_34 ?_
    rw [← hB.1, ← hA.1]
    exact ⟨⟨false, rfl, fun q => (by cases q), fun q => absurd q (hE.mp c26)⟩, h10, rfl⟩
  · refine v_iconst (pc := 29) (v := 1) dX6_isWay_29 rfl ?_
    refine v_goto (pc := 30) (tgt := 34) dX6_isWay_30 (by decide) ?_
    refine v_iret (pc := 34) rfl (by first | rfl | exact bI_nar) (Nat.le_of_ble_eq_true rfl) dX6_isWay_34 ?_
    rw [← hB.1, ← hA.1]
    exact ⟨⟨true, rfl, fun _ => Classical.byContradiction fun q => c26 (hE.mpr q), fun _ => rfl⟩, h10, rfl⟩
theorem bears_0 {T C : Nat → Int32} {g k : Nat} (h : ¬ RchB T C g k 1) : bsB T C g k (-1) := Or.inl ⟨rfl, h⟩
set_option maxRecDepth 100000 in
set_option maxHeartbeats 4000000 in
theorem lp_X6_bears {G : Cx} {z : Nat → Nat} {th : Int32} {N O PC T S C : Nat → Int32} {ps sc bc hh : Nat} {SF BF : Nat → Nat → Int32} {MX H W : Nat → Int32} (hps : ps ≤ 8) (hsc : sc ≤ 5) (hbc : bc ≤ 40) {sz : Nat} {HX : Nat → Int32} {M0 : List ME} (hM0 : M0.length = 12) {i j : Nat} (hi : i < ps) (hj : j < ps) (hPC : ∀ k, k < 8 → 0 ≤ PC k ∧ PC k < 160) (hN : nOK N) (hT : tOK T) (hC : cOK C) : ∀ (n a b : Nat) (L5 : Option Value) (H : Nat → Int32), b - a ≤ n → (1 ≤ a ∧ a < b) → b ≤ 2001 → RchB T C (cN (PC j)) (cN (PC i)) a → (∀ q, b ≤ q → q ≤ 2000 → ¬ RchB T C (cN (PC j)) (cN (PC i)) q) → V G Y_X6_bears (ZM G M0 sz (fun v M' => ((isP ps (nI i) ∧ isP ps (nI j)) ∧ (∃ r, v = some (.int r) ∧ bsB T C (cN (cop PC ps (nI j))) (cN (cop PC ps (nI i))) r) ∧ ∃ H' : Nat → Int32, M' = ModelM z 0 N O PC ps sc bc T S C SF MX BF hh H' W) ∨ (¬ (isP ps (nI i) ∧ isP ps (nI j)) ∧ v = some (.int 0) ∧ M' = ModelM z 1 N O PC ps sc bc T S C SF MX BF hh HX W)) noX) 7 0 0 46 [some (.ref (z 0)), some (.int (nI i)), some (.int (nI j)), some (.int (nI a)), some (.int (nI b)), L5] [] (ModelM z 0 N O PC ps sc bc T S C SF MX BF hh H W) := by
  intro n
  induction n with
  | zero =>
    intro a b L5 H h1 h2
    omega
  | succ n ih =>
    intro a b L5 H h1 h2 h3 hR hS
    refine v_iload (pc := 46) dX6_bears_46 rfl ?_
    refine v_iload_n (pc := 48) dX6_bears_48 rfl rfl ?_
    refine v_isub (pc := 49) dX6_bears_49 ?_
    rw [show nI b - nI a = nI (b - a) from pk_sub (by omega)]
    refine v_iconst (pc := 50) (v := 1) dX6_bears_50 rfl ?_
    refine v_icmp_le (pc := 51) (tgt := 86) dX6_bears_51 (by decide) (fun c51 => ?_) (fun c51 => ?_)
    · have c51 : (b - a) ≤ 1 := (nI_leI (a := (b - a)) (b := 1) (by omega) (by omega)).mp c51
      refine v_iload_n (pc := 86) dX6_bears_86 rfl rfl ?_
      refine v_iret (pc := 87) rfl rfl (by rw [hM0]; exact Nat.le_of_ble_eq_true rfl) dX6_bears_87 ?_
      exact Or.inl ⟨⟨isP_k hi (by omega), isP_k hj (by omega)⟩, ⟨_, rfl, by rw [cop_k hi hps, cop_k hj hps]; exact Or.inr ⟨a, rfl, by omega, by omega, hR, fun q hq1 hq2 => hS q (by omega) hq2⟩⟩, H, rfl⟩
    · have c51 : ¬ (b - a) ≤ 1 := fun h => c51 ((nI_leI (a := (b - a)) (b := 1) (by omega) (by omega)).mpr h)
      refine v_iload_n (pc := 54) dX6_bears_54 rfl rfl ?_
      refine v_iload (pc := 55) dX6_bears_55 rfl ?_
      refine v_iadd (pc := 57) dX6_bears_57 ?_
      rw [nI_add]
      refine v_iconst (pc := 58) (v := 2) dX6_bears_58 rfl ?_
      refine v_idiv (pc := 59) dX6_bears_59 (by decide) ?_
      rw [show nI (a + b) / 2 = nI ((a + b) / 2) from pk_div (d := 2) (by omega) (by decide) (by decide)]
      refine v_istore (pc := 60) dX6_bears_60 (by decide) rfl ?_
      refine v_aload_nR (pc := 62) dX6_bears_62 rfl rfl ?_
      refine v_iload_n (pc := 63) dX6_bears_63 rfl rfl ?_
      refine v_iload_n (pc := 64) dX6_bears_64 rfl rfl ?_
      refine v_iload (pc := 65) dX6_bears_65 rfl ?_
      refine v_callV3 (pc := 67) (c_X6_isWay hps hsc hbc (i := i) (j := j) (m := (a + b) / 2) hi hj (by omega) hPC hN hT hC) cm_X6_isWay q1029 q1031 qs42 (ci := 6) rfl rfl (orcO 0 rfl) [0, 1, 2, 3, 4, 5, 6, 7, 8, 9, 10, 11] (by rfl) (by decide) (fun _ _ h => h) (by decide) (by decide) (by decide) (Nat.le_of_ble_eq_true rfl) dX6_bears_67 (fun v67 M67 hQ67 => ?_)
      obtain ⟨⟨b67, rfl, hb67⟩, h67, rfl⟩ := hQ67
      try dsimp only [wb, ModelM, List.set_cons_succ, List.set_cons_zero, List.append_nil, List.nil_append, List.cons_append, Option.toList, Nat.sub_zero, List.take_succ_cons, List.take_zero]
      refine v_if_eq (pc := 70) (tgt := 79) dX6_bears_70 (by decide) (fun c70 => ?_) (fun c70 => ?_)
      · have c70 := bI_0.mp c70
        refine v_iload (pc := 79) dX6_bears_79 rfl ?_
        refine v_istore (pc := 81) dX6_bears_81 (by decide) rfl ?_
        refine v_goto (pc := 83) (tgt := 46) dX6_bears_83 (by decide) ?_
        have c70 : ¬ RchB T C (cN (PC j)) (cN (PC i)) ((a + b) / 2) := fun q => c70 (hb67.mpr q)
        exact ih a ((a + b) / 2) _ h67 (by omega) (by omega) (by omega) hR (fun q hq1 hq2 hq3 => c70 (hq3.mono hq1 (by omega)))
      · have c70 := bI_n.mp c70
        refine v_iload (pc := 73) dX6_bears_73 rfl ?_
        refine v_istore_n (pc := 75) dX6_bears_75 rfl (by decide) rfl ?_
        refine v_goto (pc := 76) (tgt := 83) dX6_bears_76 (by decide) ?_
        refine v_goto (pc := 83) (tgt := 46) dX6_bears_83 (by decide) ?_
        have c70 : RchB T C (cN (PC j)) (cN (PC i)) ((a + b) / 2) := hb67.mp c70
        exact ih ((a + b) / 2) b _ h67 (by omega) (by omega) (by omega) c70 hS
set_option maxRecDepth 100000 in
set_option maxHeartbeats 4000000 in
theorem c_X6_bears {G : Cx} {z : Nat → Nat} {th : Int32} {N O PC T S C : Nat → Int32} {ps sc bc hh : Nat} {SF BF : Nat → Nat → Int32} {MX H W : Nat → Int32} (hps : ps ≤ 8) (hsc : sc ≤ 5) (hbc : bc ≤ 40) {a1 b1 : Int32} (hPC : ∀ k, k < 8 → 0 ≤ PC k ∧ PC k < 160) (hN : nOK N) (hT : tOK T) (hC : cOK C) : Mt G Y_X6_bears 7 0 0 [.ref (z 0), .int a1, .int b1] (ModelM z th N O PC ps sc bc T S C SF MX BF hh H W) (fun v M' => ((isP ps a1 ∧ isP ps b1) ∧ (∃ r, v = some (.int r) ∧ bsB T C (cN (cop PC ps b1)) (cN (cop PC ps a1)) r) ∧ ∃ H' : Nat → Int32, M' = ModelM z 0 N O PC ps sc bc T S C SF MX BF hh H' W) ∨ (¬ (isP ps a1 ∧ isP ps b1) ∧ v = some (.int 0) ∧ M' = ModelM z 1 N O PC ps sc bc T S C SF MX BF hh H W)) noX := by
  refine Mt.of (L := [some (.ref (z 0)), some (.int a1), some (.int b1), none, none, none]) rfl (by decide) (by simp [lg_sl, Value.category]) ⟨rfl, rfl, rfl, trivial⟩ (fun sz => ?_)
  refine v_aload_nR (pc := 0) dX6_bears_0 rfl rfl ?_
  refine v_iconst (pc := 1) (v := 0) dX6_bears_1 rfl ?_
  refine v_put (pc := 2) 0 0 fp_X6_bears_44 rfl rfl rfl (Nat.le_of_ble_eq_true rfl) dX6_bears_2 ?_
  try dsimp only [wb, ModelM, List.set_cons_succ, List.set_cons_zero, List.append_nil, List.nil_append, List.cons_append, Option.toList, Nat.sub_zero, List.take_succ_cons, List.take_zero]
  refine v_aload_nR (pc := 5) dX6_bears_5 rfl rfl ?_
  refine v_iload_n (pc := 6) dX6_bears_6 rfl rfl ?_
  refine v_callV1 (pc := 7) (c_X6_isPost hps hsc hbc) cm_X6_isPost q902 q904 qs21 (ci := 6) rfl rfl (orcO 0 rfl) [0, 1, 2, 3, 4, 5, 6, 7, 8, 9, 10, 11] (by rfl) (by decide) (fun _ _ h => h) (by decide) (by decide) (by decide) (Nat.le_of_ble_eq_true rfl) dX6_bears_7 (fun v7 M7 hQ7 => ?_)
  obtain ⟨rfl, rfl⟩ := hQ7
  try dsimp only [wb, ModelM, List.set_cons_succ, List.set_cons_zero, List.append_nil, List.nil_append, List.cons_append, Option.toList, Nat.sub_zero, List.take_succ_cons, List.take_zero]
  refine v_if_eq (pc := 10) (tgt := 21) dX6_bears_10 (by decide) (fun c10 => ?_) (fun c10 => ?_)
  · have c10 := bI_0.mp c10
    refine v_aload_nR (pc := 21) dX6_bears_21 rfl rfl ?_
    refine v_iconst (pc := 22) (v := 1) dX6_bears_22 rfl ?_
    refine v_callV1 (pc := 23) (c_X6_fail hps hsc hbc) cm_X6_fail q862 q864 qs16 (ci := 6) rfl rfl (orcO 0 rfl) [0, 1, 2, 3, 4, 5, 6, 7, 8, 9, 10, 11] (by rfl) (by decide) (fun _ _ h => h) (by decide) (by decide) (by decide) (Nat.le_of_ble_eq_true rfl) dX6_bears_23 (fun v23 M23 hQ23 => ?_)
    obtain ⟨rfl, rfl⟩ := hQ23
    try dsimp only [wb, ModelM, List.set_cons_succ, List.set_cons_zero, List.append_nil, List.nil_append, List.cons_append, Option.toList, Nat.sub_zero, List.take_succ_cons, List.take_zero]
    refine v_iret (pc := 26) rfl rfl (Nat.le_of_ble_eq_true rfl) dX6_bears_26 ?_
    exact Or.inr ⟨fun h => c10 h.1, rfl, rfl⟩
  · have c10 := bI_n.mp c10
    refine v_aload_nR (pc := 13) dX6_bears_13 rfl rfl ?_
    refine v_iload_n (pc := 14) dX6_bears_14 rfl rfl ?_
    refine v_callV1 (pc := 15) (c_X6_isPost hps hsc hbc) cm_X6_isPost q902 q904 qs21 (ci := 6) rfl rfl (orcO 0 rfl) [0, 1, 2, 3, 4, 5, 6, 7, 8, 9, 10, 11] (by rfl) (by decide) (fun _ _ h => h) (by decide) (by decide) (by decide) (Nat.le_of_ble_eq_true rfl) dX6_bears_15 (fun v15 M15 hQ15 => ?_)
    obtain ⟨rfl, rfl⟩ := hQ15
    try dsimp only [wb, ModelM, List.set_cons_succ, List.set_cons_zero, List.append_nil, List.nil_append, List.cons_append, Option.toList, Nat.sub_zero, List.take_succ_cons, List.take_zero]
    refine v_if_ne (pc := 18) (tgt := 27) dX6_bears_18 (by decide) (fun c18 => ?_) (fun c18 => ?_)
    · have c18 := bI_n.mp c18
      obtain ⟨i, hi, rfl⟩ := kOf c10 (by omega)
      obtain ⟨j, hj, rfl⟩ := kOf c18 (by omega)
      have eJ : cN (cop PC ps (nI j)) = cN (PC j) := by rw [cop_k hj hps]
      have eI2 : cN (cop PC ps (nI i)) = cN (PC i) := by rw [cop_k hi hps]
      have hP2 : isP ps (nI i) ∧ isP ps (nI j) := ⟨isP_k hi (by omega), isP_k hj (by omega)⟩
      refine v_aload_nR (pc := 27) dX6_bears_27 rfl rfl ?_
      refine v_iload_n (pc := 28) dX6_bears_28 rfl rfl ?_
      refine v_iload_n (pc := 29) dX6_bears_29 rfl rfl ?_
      refine v_iconst (pc := 30) (v := 1) dX6_bears_30 rfl ?_
      refine v_callV3 (pc := 31) (c_X6_isWay hps hsc hbc (i := i) (j := j) (m := 1) hi hj (by omega) hPC hN hT hC) cm_X6_isWay q1029 q1031 qs42 (ci := 6) rfl rfl (orcO 0 rfl) [0, 1, 2, 3, 4, 5, 6, 7, 8, 9, 10, 11] (by rfl) (by decide) (fun _ _ h => h) (by decide) (by decide) (by decide) (Nat.le_of_ble_eq_true rfl) dX6_bears_31 (fun v31 M31 hQ31 => ?_)
      obtain ⟨⟨b31, rfl, hb31⟩, h31, rfl⟩ := hQ31
      try dsimp only [wb, ModelM, List.set_cons_succ, List.set_cons_zero, List.append_nil, List.nil_append, List.cons_append, Option.toList, Nat.sub_zero, List.take_succ_cons, List.take_zero]
      refine v_if_ne (pc := 34) (tgt := 39) dX6_bears_34 (by decide) (fun c34 => ?_) (fun c34 => ?_)
      · have c34 := bI_n.mp c34
        refine v_iconst (pc := 39) (v := 1) dX6_bears_39 rfl ?_
        refine v_istore_n (pc := 40) dX6_bears_40 rfl (by decide) rfl ?_
        refine v_sipush (pc := 41) (v := 2001) dX6_bears_41 rfl ?_
        refine v_istore (pc := 44) dX6_bears_44 (by decide) rfl ?_
        exact (lp_X6_bears (H := H) (th := th) hps hsc hbc rfl hi hj hPC hN hT hC 2000 1 2001 _ h31 (by omega) (by omega) (by omega) (hb31.mp c34) (fun q h1 h2 => by omega))
      · have c34 := bI_0.mp c34
        refine v_iconst (pc := 37) (v := -1) dX6_bears_37 rfl ?_
        refine v_iret (pc := 38) rfl rfl (Nat.le_of_ble_eq_true rfl) dX6_bears_38 ?_
        exact Or.inl ⟨hP2, ⟨_, rfl, by rw [eJ, eI2]; exact bears_0 (fun q => c34 (hb31.mpr q))⟩, h31, rfl⟩
    · have c18 := bI_0.mp c18
      refine v_aload_nR (pc := 21) dX6_bears_21 rfl rfl ?_
      refine v_iconst (pc := 22) (v := 1) dX6_bears_22 rfl ?_
      refine v_callV1 (pc := 23) (c_X6_fail hps hsc hbc) cm_X6_fail q862 q864 qs16 (ci := 6) rfl rfl (orcO 0 rfl) [0, 1, 2, 3, 4, 5, 6, 7, 8, 9, 10, 11] (by rfl) (by decide) (fun _ _ h => h) (by decide) (by decide) (by decide) (Nat.le_of_ble_eq_true rfl) dX6_bears_23 (fun v23 M23 hQ23 => ?_)
      obtain ⟨rfl, rfl⟩ := hQ23
      try dsimp only [wb, ModelM, List.set_cons_succ, List.set_cons_zero, List.append_nil, List.nil_append, List.cons_append, Option.toList, Nat.sub_zero, List.take_succ_cons, List.take_zero]
      refine v_iret (pc := 26) rfl rfl (Nat.le_of_ble_eq_true rfl) dX6_bears_26 ?_
      exact Or.inr ⟨fun h => c18 h.2, rfl, rfl⟩
theorem c_X6_hourY {G : Cx} {z : Nat → Nat} {th : Int32} {N O PC : Nat → Int32} {ps sc bc hh : Nat} {MX H W : Nat → Int32} (hps : ps ≤ 8) (hsc : sc ≤ 5) (hbc : bc ≤ 40) {n5 : Nat} (h5 : n5 = 5) {l5 : Value} {x : HW} {B : Nat} (hB : B < 2 ^ 30 - 20) (hhh : hh < 2 ^ 31 - 1) (hPC : ∀ k, k < 8 → 0 ≤ PC k ∧ PC k < 160) (hN : nOK N) (hO : oOK O) (hI : hIV PC ps sc bc x.2.2.1 x.2.2.2.2.2.2.2.2.2.1 x.2.2.2.2.2.2.2.2.2.2 x.1 x.2.1 MX B) : Mt G Y_X6_hourOn 6 0 0 [.ref (z 0)] (ModelM z th N O PC ps sc bc x.2.2.1 x.2.2.2.2.2.2.2.2.1 x.2.2.2.2.2.2.2.2.2.1 x.1 MX x.2.1 hh H W) (fun v M' => v = some (.int (hrN n5 O PC ps sc bc hh x)) ∧ ∃ MX' H' W' : Nat → Int32, M' = ModelM z th N O PC ps sc bc (hrW n5 l5 N O PC ps sc bc hh x).2.2.1 (hrW n5 l5 N O PC ps sc bc hh x).2.2.2.2.2.2.2.2.1 (hrW n5 l5 N O PC ps sc bc hh x).2.2.2.2.2.2.2.2.2.1 (hrW n5 l5 N O PC ps sc bc hh x).1 MX' (hrW n5 l5 N O PC ps sc bc hh x).2.1 (hh + 1) H' W' ∧ hIV PC ps sc bc (hrW n5 l5 N O PC ps sc bc hh x).2.2.1 (hrW n5 l5 N O PC ps sc bc hh x).2.2.2.2.2.2.2.2.2.1 (hrW n5 l5 N O PC ps sc bc hh x).2.2.2.2.2.2.2.2.2.2 (hrW n5 l5 N O PC ps sc bc hh x).1 (hrW n5 l5 N O PC ps sc bc hh x).2.1 MX' (B + 1 + sc)) noX :=
  c_X6_hourOn hps hsc hbc h5 (Bk := x.2.2.2.1) (qs := x.2.2.2.2.1) (lr := x.2.2.2.2.2.1) (nd := x.2.2.2.2.2.2.1) (dg := x.2.2.2.2.2.2.2.1) hB hhh hPC hN hO hI
set_option maxRecDepth 100000 in
set_option maxHeartbeats 4000000 in
theorem lp_X6_pass {G : Cx} {z : Nat → Nat} {th : Int32} {N O PC : Nat → Int32} {ps sc bc hh : Nat} {MX H W : Nat → Int32} (hps : ps ≤ 8) (hsc : sc ≤ 5) (hbc : bc ≤ 40) {n5 : Nat} (h5 : n5 = 5) {l5 : Value} {sz n B B2 : Nat} {M0 : List ME} (hM0 : M0.length = 12) {r : HW × Int32} (hB2 : B + 6 * n ≤ B2) (hB : B + 6 * n < 2 ^ 30 - 40) (hhh : hh + n < 2 ^ 31 - 1) (hPC : ∀ k, k < 8 → 0 ≤ PC k ∧ PC k < 160) (hN : nOK N) (hO : oOK O) : ∀ (m i : Nat), m + i = n → ∀ (x : HW) (c : Int32) (MX H W : Nat → Int32), hIV PC ps sc bc x.2.2.1 x.2.2.2.2.2.2.2.2.2.1 x.2.2.2.2.2.2.2.2.2.2 x.1 x.2.1 MX (B + 6 * i) → psL n5 l5 N O PC ps sc bc m (hh + i) x c = r → V G Y_X6_pass (ZM G M0 sz (fun v M' => v = some (.int r.2) ∧ ∃ MX' H' W' : Nat → Int32, M' = ModelM z 0 N O PC ps sc bc r.1.2.2.1 r.1.2.2.2.2.2.2.2.2.1 r.1.2.2.2.2.2.2.2.2.2.1 r.1.1 MX' r.1.2.1 (hh + n) H' W' ∧ hIV PC ps sc bc r.1.2.2.1 r.1.2.2.2.2.2.2.2.2.2.1 r.1.2.2.2.2.2.2.2.2.2.2 r.1.1 r.1.2.1 MX' B2) noX) 7 0 0 26 [some (.ref (z 0)), some (.int (nI n)), some (.int c), some (.int (nI i))] [] (ModelM z 0 N O PC ps sc bc x.2.2.1 x.2.2.2.2.2.2.2.2.1 x.2.2.2.2.2.2.2.2.2.1 x.1 MX x.2.1 (hh + i) H W) := by
  intro m
  induction m with
  | zero =>
    intro i hi
    have hi2 : i = n := by omega
    intro x c MX H W hI hr
    obtain rfl : (x, c) = r := hr
    rw [show hh + i = hh + n by omega]
    refine v_iload_n (pc := 26) dX6_pass_26 rfl rfl ?_
    refine v_iload_n (pc := 27) dX6_pass_27 rfl rfl ?_
    refine v_icmp_ge (pc := 28) (tgt := 44) dX6_pass_28 (by decide) (fun c28 => ?_) (fun c28 => absurd (nI_le (a := n) (b := i) (by omega) (by omega)) c28)
    have c28 : n ≤ i := (nI_leI (a := n) (b := i) (by omega) (by omega)).mp c28
    refine v_iload_n (pc := 44) dX6_pass_44 rfl rfl ?_
    refine v_iret (pc := 45) rfl rfl (by rw [hM0]; exact Nat.le_of_ble_eq_true rfl) dX6_pass_45 ?_
    exact ⟨rfl, MX, H, W, rfl, hI.more (by omega)⟩
  | succ m ih =>
    intro i hi
    intro x c MX H W hI hr
    refine v_iload_n (pc := 26) dX6_pass_26 rfl rfl ?_
    refine v_iload_n (pc := 27) dX6_pass_27 rfl rfl ?_
    refine v_icmp_ge (pc := 28) (tgt := 44) dX6_pass_28 (by decide) (fun c28 => absurd c28 (nI_ge (a := i) (b := n) (by omega) (by omega))) (fun c28 => ?_)
    have c28 : ¬ n ≤ i := fun h => c28 ((nI_leI (a := n) (b := i) (by omega) (by omega)).mpr h)
    refine v_iload_n (pc := 31) dX6_pass_31 rfl rfl ?_
    refine v_aload_nR (pc := 32) dX6_pass_32 rfl rfl ?_
    refine v_callV0 (pc := 33) (c_X6_hourY hps hsc hbc h5 (l5 := l5) (hh := hh + i) (x := x) (B := B + 6 * i) (by omega) (by omega) hPC hN hO hI) cm_X6_hourOn q983 q985 qs34 (ci := 6) rfl rfl (orcO 0 rfl) [0, 1, 2, 3, 4, 5, 6, 7, 8, 9, 10, 11] (by rfl) (by decide) (fun _ _ h => h) (by decide) (by decide) (by decide) (Nat.le_of_ble_eq_true rfl) dX6_pass_33 (fun v33 M33 hQ33 => ?_)
    obtain ⟨rfl, MY33, HY33, WY33, rfl, hY33⟩ := hQ33
    try dsimp only [wb, ModelM, List.set_cons_succ, List.set_cons_zero, List.append_nil, List.nil_append, List.cons_append, Option.toList, Nat.sub_zero, List.take_succ_cons, List.take_zero]
    refine v_iadd (pc := 36) dX6_pass_36 ?_
    refine v_istore_n (pc := 37) dX6_pass_37 rfl (by decide) rfl ?_
    refine v_iinc (pc := 38) (v := nI (i + 1)) dX6_pass_38 rfl (nI_1 _) (by decide) rfl ?_
    refine v_goto (pc := 41) (tgt := 26) dX6_pass_41 (by decide) ?_
    exact ih (i + 1) (by omega) _ _ MY33 HY33 WY33 (hY33.more (by omega)) hr
set_option maxRecDepth 100000 in
set_option maxHeartbeats 4000000 in
theorem c_X6_pass {G : Cx} {z : Nat → Nat} {th : Int32} {N O PC : Nat → Int32} {ps sc bc hh : Nat} {MX H W : Nat → Int32} (hps : ps ≤ 8) (hsc : sc ≤ 5) (hbc : bc ≤ 40) {n5 : Nat} (h5 : n5 = 5) {l5 : Value} {x : HW} {q : Int32} {B : Nat} (hB : B < 2 ^ 30 - 2000) (hhh : hh + 200 < 2 ^ 31 - 1) (hPC : ∀ k, k < 8 → 0 ≤ PC k ∧ PC k < 160) (hN : nOK N) (hO : oOK O) (hI : hIV PC ps sc bc x.2.2.1 x.2.2.2.2.2.2.2.2.2.1 x.2.2.2.2.2.2.2.2.2.2 x.1 x.2.1 MX B) : Mt G Y_X6_pass 7 0 0 [.ref (z 0), .int q] (ModelM z th N O PC ps sc bc x.2.2.1 x.2.2.2.2.2.2.2.2.1 x.2.2.2.2.2.2.2.2.2.1 x.1 MX x.2.1 hh H W) (fun v M' => v = some (.int (rPs n5 l5 N O PC ps sc bc hh x q).2.1) ∧ ∃ MX' H' W' : Nat → Int32, M' = ModelM z (rPs n5 l5 N O PC ps sc bc hh x q).1 N O PC ps sc bc (rPs n5 l5 N O PC ps sc bc hh x q).2.2.1.2.2.1 (rPs n5 l5 N O PC ps sc bc hh x q).2.2.1.2.2.2.2.2.2.2.2.1 (rPs n5 l5 N O PC ps sc bc hh x q).2.2.1.2.2.2.2.2.2.2.2.2.1 (rPs n5 l5 N O PC ps sc bc hh x q).2.2.1.1 MX' (rPs n5 l5 N O PC ps sc bc hh x q).2.2.1.2.1 (rPs n5 l5 N O PC ps sc bc hh x q).2.2.2 H' W' ∧ hIV PC ps sc bc (rPs n5 l5 N O PC ps sc bc hh x q).2.2.1.2.2.1 (rPs n5 l5 N O PC ps sc bc hh x q).2.2.1.2.2.2.2.2.2.2.2.2.1 (rPs n5 l5 N O PC ps sc bc hh x q).2.2.1.2.2.2.2.2.2.2.2.2.2 (rPs n5 l5 N O PC ps sc bc hh x q).2.2.1.1 (rPs n5 l5 N O PC ps sc bc hh x q).2.2.1.2.1 MX' (B + 1200)) noX := by
  refine Mt.of (L := [some (.ref (z 0)), some (.int q), none, none]) rfl (by decide) (by simp [lg_sl, Value.category]) ⟨rfl, rfl, trivial⟩ (fun sz => ?_)
  refine v_aload_nR (pc := 0) dX6_pass_0 rfl rfl ?_
  refine v_iconst (pc := 1) (v := 0) dX6_pass_1 rfl ?_
  refine v_put (pc := 2) 0 0 fp_X6_pass_44 rfl rfl rfl (Nat.le_of_ble_eq_true rfl) dX6_pass_2 ?_
  try dsimp only [wb, ModelM, List.set_cons_succ, List.set_cons_zero, List.append_nil, List.nil_append, List.cons_append, Option.toList, Nat.sub_zero, List.take_succ_cons, List.take_zero]
  refine v_iload_n (pc := 5) dX6_pass_5 rfl rfl ?_
  refine v_iconst (pc := 6) (v := 1) dX6_pass_6 rfl ?_
  refine v_sipush (pc := 7) (v := 200) dX6_pass_7 rfl ?_
  refine v_callS3 (pc := 10) (c_X6_isIn ) cm_X6_isIn q859 q860 [] (by rfl) (by decide) (fun _ _ h => h) (by decide) (by decide) (by decide) (Nat.le_of_ble_eq_true rfl) dX6_pass_10 (fun v10 M10 hQ10 => ?_)
  obtain ⟨rfl, rfl⟩ := hQ10
  try dsimp only [wb, ModelM, List.set_cons_succ, List.set_cons_zero, List.append_nil, List.nil_append, List.cons_append, Option.toList, Nat.sub_zero, List.take_succ_cons, List.take_zero]
  refine v_if_ne (pc := 13) (tgt := 22) dX6_pass_13 (by decide) (fun c13 => ?_) (fun c13 => ?_)
  · have c13 := bI_n.mp c13
    refine v_iconst (pc := 22) (v := 0) dX6_pass_22 rfl ?_
    refine v_istore_n (pc := 23) dX6_pass_23 rfl (by decide) rfl ?_
    refine v_iconst (pc := 24) (v := 0) dX6_pass_24 rfl ?_
    refine v_istore_n (pc := 25) dX6_pass_25 rfl (by decide) rfl ?_
    obtain ⟨n, hn, rfl⟩ := le_nI 200 (by decide) ⟨i_le.mpr (by have := c13.1; rw [i_le, i_1] at this; rw [i_0]; omega), c13.2⟩
    have e : (rPs n5 l5 N O PC ps sc bc hh x (nI n)) = (0, (psL n5 l5 N O PC ps sc bc n hh x 0).2, (psL n5 l5 N O PC ps sc bc n hh x 0).1, hh + n) := by
      unfold rPs
      rw [if_pos c13, cN_nI (by omega)]
    rw [e]
    refine v_sub (L' := [some (.ref (z 0)), some (.int (nI n)), some (.int 0), some (.int (nI 0))]) ⟨rfl, rfl, rfl, rfl, trivial⟩ ?_
    exact lp_X6_pass (th := th) (MX := MX) (H := H) (W := W) (B := B) hps hsc hbc h5 (l5 := l5) rfl (by omega) (by omega) (by omega) hPC hN hO n 0 (by omega) x 0 MX H W hI rfl
  · have c13 := bI_0.mp c13
    refine v_aload_nR (pc := 16) dX6_pass_16 rfl rfl ?_
    refine v_iconst (pc := 17) (v := 1) dX6_pass_17 rfl ?_
    refine v_callV1 (pc := 18) (c_X6_fail hps hsc hbc) cm_X6_fail q862 q864 qs16 (ci := 6) rfl rfl (orcO 0 rfl) [0, 1, 2, 3, 4, 5, 6, 7, 8, 9, 10, 11] (by rfl) (by decide) (fun _ _ h => h) (by decide) (by decide) (by decide) (Nat.le_of_ble_eq_true rfl) dX6_pass_18 (fun v18 M18 hQ18 => ?_)
    obtain ⟨rfl, rfl⟩ := hQ18
    try dsimp only [wb, ModelM, List.set_cons_succ, List.set_cons_zero, List.append_nil, List.nil_append, List.cons_append, Option.toList, Nat.sub_zero, List.take_succ_cons, List.take_zero]
    refine v_iret (pc := 21) rfl rfl (Nat.le_of_ble_eq_true rfl) dX6_pass_21 ?_
    have e : (rPs n5 l5 N O PC ps sc bc hh x q) = (1, 0, x, hh) := if_neg c13
    rw [e]
    exact ⟨rfl, MX, H, W, rfl, hI.more (by omega)⟩
theorem ice_0 {T : Nat → Int32} : sumN (fun j => if T j < 0 then 0 else 1) 160 = 0 ↔ sumN (fun j => if T j < 0 then 0 else 1) 160 < 1 := by
  obtain ⟨m, h1, h2⟩ := sum_ice T 160
  rw [h2, i_eq, i_lt, nI_toInt (by omega), i_0, i_1]
  omega
theorem sum_0s {F : Nat → Int32} {i : Nat} {x : Int32} (h : F i = x) : sumN F i + x = sumN F (i + 1) := by rw [← h]; rfl
set_option maxRecDepth 100000 in
set_option maxHeartbeats 4000000 in
theorem lp_X6_mean {G : Cx} {z : Nat → Nat} {th : Int32} {N O PC T S C : Nat → Int32} {ps sc bc hh : Nat} {SF BF : Nat → Nat → Int32} {MX H W : Nat → Int32} (hps : ps ≤ 8) (hsc : sc ≤ 5) (hbc : bc ≤ 40) {sz : Nat} {M0 : List ME} (hM0 : M0.length = 12) (hT : tOK T) (hC : cOK C) (hL : lOK T C) : ∀ (m i : Nat), m + i = 160 → V G Y_X6_mean (ZM G M0 sz (fun v M' => v = some (.double (mnD T)) ∧ M' = ModelM z 0 N O PC ps sc bc T S C SF MX BF hh H W) noX) 7 0 0 18 [some (.ref (z 0)), some (.int (sumN (fun j => if T j < 0 then 0 else 1) i)), some (.ref (z 4)), some (.int 160), some (.int (nI i)), none] [] (ModelM z 0 N O PC ps sc bc T S C SF MX BF hh H W) := by
  intro m
  induction m with
  | zero =>
    intro i hi
    obtain rfl : i = 160 := by omega
    refine v_iload (pc := 18) dX6_mean_18 rfl ?_
    refine v_iload_n (pc := 20) dX6_mean_20 rfl rfl ?_
    refine v_icmp_ge (pc := 21) (tgt := 50) dX6_mean_21 (by decide) (fun c21 => ?_) (fun c21 => absurd (nI_le (a := 160) (b := 160) (Nat.le_refl _) (by decide)) c21)
    have c21 : 160 ≤ 160 := (nI_leI (a := 160) (b := 160) (by omega) (by omega)).mp c21
    refine v_iload_n (pc := 50) dX6_mean_50 rfl rfl ?_
    refine v_if_ne (pc := 51) (tgt := 58) dX6_mean_51 (by decide) (fun c51 => ?_) (fun c51 => ?_)
    · refine v_aload_nR (pc := 58) dX6_mean_58 rfl rfl ?_
      refine v_bipush (pc := 59) (v := 8) dX6_mean_59 rfl ?_
      refine v_callV1 (pc := 61) (c_X6_counted hps hsc hbc (q := 8) (by decide) hT hL hC) cm_X6_counted q1013 q1015 qs40 (ci := 6) rfl rfl (orcO 0 rfl) [0, 1, 2, 3, 4, 5, 6, 7, 8, 9, 10, 11] (by rfl) (by decide) (fun _ _ h => h) (by decide) (by decide) (by decide) (Nat.le_of_ble_eq_true rfl) dX6_mean_61 (fun v61 M61 hQ61 => ?_)
      obtain ⟨rfl, rfl⟩ := hQ61
      try dsimp only [wb, ModelM, List.set_cons_succ, List.set_cons_zero, List.append_nil, List.nil_append, List.cons_append, Option.toList, Nat.sub_zero, List.take_succ_cons, List.take_zero]
      refine v_i2d (pc := 64) dX6_mean_64 ?_
      refine v_iload_n (pc := 65) dX6_mean_65 rfl rfl ?_
      refine v_i2d (pc := 66) dX6_mean_66 ?_
      refine v_ddiv (pc := 67) dX6_mean_67 (mean_n64 hT (fun q => c51 (ice_0.mpr q)) : _) ?_
      refine v_dret (pc := 68) rfl (by rw [hM0]; exact Nat.le_of_ble_eq_true rfl) dX6_mean_68 ?_
      exact ⟨by unfold mnD; rw [if_neg (fun q => c51 (ice_0.mpr q))]; try rfl, rfl⟩
    · refine v_dconst0 (pc := 54) dX6_mean_54 ?_
      refine v_goto (pc := 55) (tgt := 68) dX6_mean_55 (by decide) ?_
      refine v_dret (pc := 68) rfl (by rw [hM0]; exact Nat.le_of_ble_eq_true rfl) dX6_mean_68 ?_
      exact ⟨by unfold mnD; rw [if_pos (ice_0.mp c51)]; try rfl, rfl⟩
  | succ m ih =>
    intro i hi
    refine v_iload (pc := 18) dX6_mean_18 rfl ?_
    refine v_iload_n (pc := 20) dX6_mean_20 rfl rfl ?_
    refine v_icmp_ge (pc := 21) (tgt := 50) dX6_mean_21 (by decide) (fun c21 => absurd c21 (nI_ge (a := i) (b := 160) (by omega) (by decide))) (fun c21 => ?_)
    have c21 : ¬ 160 ≤ i := fun h => c21 ((nI_leI (a := 160) (b := i) (by omega) (by omega)).mpr h)
    refine v_aload_nR (pc := 24) dX6_mean_24 rfl rfl ?_
    refine v_iload (pc := 25) dX6_mean_25 rfl ?_
    refine v_ialdN (pc := 27) 4 (k := i) rfl (by omega) (by decide) dX6_mean_27 ?_
    refine v_istore (pc := 28) dX6_mean_28 (by decide) rfl ?_
    refine v_iload_n (pc := 30) dX6_mean_30 rfl rfl ?_
    refine v_iload (pc := 31) dX6_mean_31 rfl ?_
    refine v_iconst (pc := 33) (v := -1) dX6_mean_33 rfl ?_
    refine v_icmp_ne (pc := 34) (tgt := 41) dX6_mean_34 (by decide) (fun c34 => ?_) (fun c34 => ?_)
    · refine v_iconst (pc := 41) (v := 1) dX6_mean_41 rfl ?_
      refine v_iadd (pc := 42) dX6_mean_42 ?_
      refine v_istore_n (pc := 43) dX6_mean_43 rfl (by decide) rfl ?_
      refine v_iinc (pc := 44) (v := nI (i + 1)) dX6_mean_44 rfl (nI_1 _) (by decide) rfl ?_
      refine v_goto (pc := 47) (tgt := 18) dX6_mean_47 (by decide) ?_
      rw [sum_0s (F := (fun j => if T j < 0 then 0 else 1)) (i := i) (if_neg (fun q => c34 ((tOK_l hT (by omega)).mpr q)))]
      refine v_sub ?_ (ih (i + 1) (by omega))
      exact ⟨rfl, rfl, rfl, rfl, rfl, trivial⟩
    · refine v_iconst (pc := 37) (v := 0) dX6_mean_37 rfl ?_
      refine v_goto (pc := 38) (tgt := 42) dX6_mean_38 (by decide) ?_
      refine v_iadd (pc := 42) dX6_mean_42 ?_
      refine v_istore_n (pc := 43) dX6_mean_43 rfl (by decide) rfl ?_
      refine v_iinc (pc := 44) (v := nI (i + 1)) dX6_mean_44 rfl (nI_1 _) (by decide) rfl ?_
      refine v_goto (pc := 47) (tgt := 18) dX6_mean_47 (by decide) ?_
      rw [sum_0s (F := (fun j => if T j < 0 then 0 else 1)) (i := i) (if_pos ((tOK_l hT (by omega)).mp c34))]
      refine v_sub ?_ (ih (i + 1) (by omega))
      exact ⟨rfl, rfl, rfl, rfl, rfl, trivial⟩
set_option maxRecDepth 100000 in
set_option maxHeartbeats 4000000 in
theorem c_X6_mean {G : Cx} {z : Nat → Nat} {th : Int32} {N O PC T S C : Nat → Int32} {ps sc bc hh : Nat} {SF BF : Nat → Nat → Int32} {MX H W : Nat → Int32} (hps : ps ≤ 8) (hsc : sc ≤ 5) (hbc : bc ≤ 40) (hT : tOK T) (hC : cOK C) (hL : lOK T C) : Mt G Y_X6_mean 7 0 0 [.ref (z 0)] (ModelM z th N O PC ps sc bc T S C SF MX BF hh H W) (fun v M' => v = some (.double (mnD T)) ∧ M' = ModelM z 0 N O PC ps sc bc T S C SF MX BF hh H W) noX := by
  refine Mt.of (L := [some (.ref (z 0)), none, none, none, none, none]) rfl (by decide) (by simp [lg_sl, Value.category]) ⟨rfl, trivial⟩ (fun sz => ?_)
  refine v_aload_nR (pc := 0) dX6_mean_0 rfl rfl ?_
  refine v_iconst (pc := 1) (v := 0) dX6_mean_1 rfl ?_
  refine v_put (pc := 2) 0 0 fp_X6_mean_44 rfl rfl rfl (Nat.le_of_ble_eq_true rfl) dX6_mean_2 ?_
  try dsimp only [wb, ModelM, List.set_cons_succ, List.set_cons_zero, List.append_nil, List.nil_append, List.cons_append, Option.toList, Nat.sub_zero, List.take_succ_cons, List.take_zero]
  refine v_iconst (pc := 5) (v := 0) dX6_mean_5 rfl ?_
  refine v_istore_n (pc := 6) dX6_mean_6 rfl (by decide) rfl ?_
  refine v_aload_nR (pc := 7) dX6_mean_7 rfl rfl ?_
  refine v_get (pc := 8) 7 0 fg_X6_19 rfl rfl dX6_mean_8 ?_
  refine v_astore_nR (pc := 11) dX6_mean_11 rfl (by decide) rfl ?_
  refine v_aload_nR (pc := 12) dX6_mean_12 rfl rfl ?_
  refine v_alen (pc := 13) 4 (v := 160) rfl (fun _ => rfl) rfl dX6_mean_13 ?_
  refine v_istore_n (pc := 14) dX6_mean_14 rfl (by decide) rfl ?_
  refine v_iconst (pc := 15) (v := 0) dX6_mean_15 rfl ?_
  refine v_istore (pc := 16) dX6_mean_16 (by decide) rfl ?_
  refine v_sub (L' := [some (.ref (z 0)), some (.int (0)), some (.ref (z 4)), some (.int 160), some (.int (nI 0)), none]) ⟨rfl, rfl, rfl, rfl, rfl, trivial⟩ ?_
  exact lp_X6_mean (th := th) hps hsc hbc rfl hT hC hL 160 0 (by omega)
theorem dgP_st {PC : Nat → Int32} {ps i : Nat} {d : Int64} (hi : ps ≤ i) : ∀ m, dgP PC ps (i + m) d = dgP PC ps i d
  | 0 => rfl
  | m + 1 => by
    show (if i + m < ps then dgP PC ps (i + m) d * 31 + (PC (i + m)).toInt64 else dgP PC ps (i + m) d) = _
    rw [if_neg (by omega), dgP_st hi m]
theorem dgP_8 {PC : Nat → Int32} {ps : Nat} {d : Int64} (hp : ps ≤ 8) : dgP PC ps 8 d = dgP PC ps ps d := by
  rw [show 8 = ps + (8 - ps) by omega, dgP_st (Nat.le_refl _)]
theorem cbI {C : Nat → Int32} (hC : cOK C) (k : Nat) : C k = bI (¬ C k = 0) := by
  rcases cOK01 hC k with h | h
  · rw [h]; rfl
  · rw [h]; rfl
set_option maxRecDepth 100000 in
set_option maxHeartbeats 4000000 in
theorem lp_dg1 {G : Cx} {z : Nat → Nat} {th : Int32} {N O PC T S C : Nat → Int32} {ps sc bc hh : Nat} {SF BF : Nat → Nat → Int32} {MX H W : Nat → Int32} (hps : ps ≤ 8) (hsc : sc ≤ 5) (hbc : bc ≤ 40) {Z : ZT} (hT : tOK T) (hC : cOK C) (hL : lOK T C) (K : V G Y_X6_digest Z 7 0 0 36 [some (.ref (z 0)), some (.long (cnD T C SF BF ps sc bc hh 9 601)), none, none, none, none, none] [] (ModelM z th N O PC ps sc bc T S C SF MX BF hh H W)) : ∀ (m i : Nat), m + i = 9 → V G Y_X6_digest Z 7 0 0 11 [some (.ref (z 0)), some (.long (cnD T C SF BF ps sc bc hh i 601)), none, some (.int (nI i)), none, none, none] [] (ModelM z th N O PC ps sc bc T S C SF MX BF hh H W) := by
  intro m
  induction m with
  | zero =>
    intro i hi
    obtain rfl : i = 9 := by omega
    refine v_iload_n (pc := 11) dX6_digest_11 rfl rfl ?_
    refine v_bipush (pc := 12) (v := 9) dX6_digest_12 rfl ?_
    refine v_icmp_ge (pc := 14) (tgt := 36) dX6_digest_14 (by decide) (fun c14 => ?_) (fun c14 => absurd (nI_le (a := 9) (b := 9) (Nat.le_refl _) (by decide)) c14)
    have c14 : 9 ≤ 9 := (nI_leI (a := 9) (b := 9) (by omega) (by omega)).mp c14
    refine v_sub ?_ K
    exact ⟨rfl, rfl, trivial⟩
  | succ m ih =>
    intro i hi
    refine v_iload_n (pc := 11) dX6_digest_11 rfl rfl ?_
    refine v_bipush (pc := 12) (v := 9) dX6_digest_12 rfl ?_
    refine v_icmp_ge (pc := 14) (tgt := 36) dX6_digest_14 (by decide) (fun c14 => absurd c14 (nI_ge (a := i) (b := 9) (by omega) (by decide))) (fun c14 => ?_)
    have c14 : ¬ 9 ≤ i := fun h => c14 ((nI_leI (a := 9) (b := i) (by omega) (by omega)).mpr h)
    refine v_lload_n (pc := 17) dX6_digest_17 rfl rfl ?_
    refine v_ldc2 (pc := 18) q1066 dX6_digest_18 ?_
    refine v_lmul (pc := 21) dX6_digest_21 ?_
    refine v_aload_nR (pc := 22) dX6_digest_22 rfl rfl ?_
    refine v_iload_n (pc := 23) dX6_digest_23 rfl rfl ?_
    refine v_callV1 (pc := 24) (c_X6_counted hps hsc hbc (by omega) hT hL hC) cm_X6_counted q1013 q1015 qs40 (ci := 6) rfl rfl (orcO 0 rfl) [0, 1, 2, 3, 4, 5, 6, 7, 8, 9, 10, 11] (by rfl) (by decide) (fun _ _ h => h) (by decide) (by decide) (by decide) (Nat.le_of_ble_eq_true rfl) dX6_digest_24 (fun v24 M24 hQ24 => ?_)
    obtain ⟨rfl, rfl⟩ := hQ24
    try dsimp only [wb, ModelM, List.set_cons_succ, List.set_cons_zero, List.append_nil, List.nil_append, List.cons_append, Option.toList, Nat.sub_zero, List.take_succ_cons, List.take_zero]
    refine v_i2l (pc := 27) dX6_digest_27 ?_
    refine v_ladd (pc := 28) dX6_digest_28 ?_
    refine v_lstore_n (pc := 29) dX6_digest_29 rfl (by decide) rfl ?_
    refine v_iinc (pc := 30) (v := nI (i + 1)) dX6_digest_30 rfl (nI_1 _) (by decide) rfl ?_
    refine v_goto (pc := 33) (tgt := 11) dX6_digest_33 (by decide) ?_
    refine v_sub ?_ (ih (i + 1) (by omega))
    exact ⟨rfl, rfl, rfl, trivial⟩
set_option maxRecDepth 100000 in
set_option maxHeartbeats 4000000 in
theorem lp_dg2 {G : Cx} {z : Nat → Nat} {th : Int32} {N O PC T S C : Nat → Int32} {ps sc bc hh : Nat} {SF BF : Nat → Nat → Int32} {MX H W : Nat → Int32} (hps : ps ≤ 8) (hsc : sc ≤ 5) (hbc : bc ≤ 40) {Z : ZT} {d0 : Int64} (K : V G Y_X6_digest Z 7 0 0 77 [some (.ref (z 0)), some (.long (dgC O 8 d0)), none, none, none, none, none] [] (ModelM z th N O PC ps sc bc T S C SF MX BF hh H W)) : ∀ (m i : Nat), m + i = 8 → V G Y_X6_digest Z 7 0 0 48 [some (.ref (z 0)), some (.long (dgC O i d0)), none, some (.ref (z 2)), some (.int 8), some (.int (nI i)), none] [] (ModelM z th N O PC ps sc bc T S C SF MX BF hh H W) := by
  intro m
  induction m with
  | zero =>
    intro i hi
    obtain rfl : i = 8 := by omega
    refine v_iload (pc := 48) dX6_digest_48 rfl ?_
    refine v_iload (pc := 50) dX6_digest_50 rfl ?_
    refine v_icmp_ge (pc := 52) (tgt := 77) dX6_digest_52 (by decide) (fun c52 => ?_) (fun c52 => absurd (nI_le (a := 8) (b := 8) (Nat.le_refl _) (by decide)) c52)
    have c52 : 8 ≤ 8 := (nI_leI (a := 8) (b := 8) (by omega) (by omega)).mp c52
    refine v_sub ?_ K
    exact ⟨rfl, rfl, trivial⟩
  | succ m ih =>
    intro i hi
    refine v_iload (pc := 48) dX6_digest_48 rfl ?_
    refine v_iload (pc := 50) dX6_digest_50 rfl ?_
    refine v_icmp_ge (pc := 52) (tgt := 77) dX6_digest_52 (by decide) (fun c52 => absurd c52 (nI_ge (a := i) (b := 8) (by omega) (by decide))) (fun c52 => ?_)
    have c52 : ¬ 8 ≤ i := fun h => c52 ((nI_leI (a := 8) (b := i) (by omega) (by omega)).mpr h)
    refine v_aload_nR (pc := 55) dX6_digest_55 rfl rfl ?_
    refine v_iload (pc := 56) dX6_digest_56 rfl ?_
    refine v_ialdN (pc := 58) 2 (k := i) rfl (by omega) (by decide) dX6_digest_58 ?_
    refine v_istore (pc := 59) dX6_digest_59 (by decide) rfl ?_
    refine v_lload_n (pc := 61) dX6_digest_61 rfl rfl ?_
    refine v_ldc2 (pc := 62) q1066 dX6_digest_62 ?_
    refine v_lmul (pc := 65) dX6_digest_65 ?_
    refine v_iload (pc := 66) dX6_digest_66 rfl ?_
    refine v_i2l (pc := 68) dX6_digest_68 ?_
    refine v_ladd (pc := 69) dX6_digest_69 ?_
    refine v_lstore_n (pc := 70) dX6_digest_70 rfl (by decide) rfl ?_
    refine v_iinc (pc := 71) (v := nI (i + 1)) dX6_digest_71 rfl (nI_1 _) (by decide) rfl ?_
    refine v_goto (pc := 74) (tgt := 48) dX6_digest_74 (by decide) ?_
    refine v_sub ?_ (ih (i + 1) (by omega))
    exact ⟨rfl, rfl, rfl, rfl, rfl, trivial⟩
set_option maxRecDepth 100000 in
set_option maxHeartbeats 4000000 in
theorem lp_dg3 {G : Cx} {z : Nat → Nat} {th : Int32} {N O PC T S C : Nat → Int32} {ps sc bc hh : Nat} {SF BF : Nat → Nat → Int32} {MX H W : Nat → Int32} (hps : ps ≤ 8) (hsc : sc ≤ 5) (hbc : bc ≤ 40) {Z : ZT} {d0 : Int64} (hC : cOK C) (K : V G Y_X6_digest Z 7 0 0 142 [some (.ref (z 0)), some (.long (dgL T N S C 160 d0)), none, none, none, none, none] [] (ModelM z th N O PC ps sc bc T S C SF MX BF hh H W)) : ∀ (m i : Nat), m + i = 160 → V G Y_X6_digest Z 7 0 0 79 [some (.ref (z 0)), some (.long (dgL T N S C i d0)), none, some (.int (nI i)), none, none, none] [] (ModelM z th N O PC ps sc bc T S C SF MX BF hh H W) := by
  intro m
  induction m with
  | zero =>
    intro i hi
    obtain rfl : i = 160 := by omega
    refine v_iload_n (pc := 79) dX6_digest_79 rfl rfl ?_
    refine v_sipush (pc := 80) (v := 160) dX6_digest_80 rfl ?_
    refine v_icmp_ge (pc := 83) (tgt := 142) dX6_digest_83 (by decide) (fun c83 => ?_) (fun c83 => absurd (nI_le (a := 160) (b := 160) (Nat.le_refl _) (by decide)) c83)
    have c83 : 160 ≤ 160 := (nI_leI (a := 160) (b := 160) (by omega) (by omega)).mp c83
    refine v_sub ?_ K
    exact ⟨rfl, rfl, trivial⟩
  | succ m ih =>
    intro i hi
    refine v_iload_n (pc := 79) dX6_digest_79 rfl rfl ?_
    refine v_sipush (pc := 80) (v := 160) dX6_digest_80 rfl ?_
    refine v_icmp_ge (pc := 83) (tgt := 142) dX6_digest_83 (by decide) (fun c83 => absurd c83 (nI_ge (a := i) (b := 160) (by omega) (by decide))) (fun c83 => ?_)
    have c83 : ¬ 160 ≤ i := fun h => c83 ((nI_leI (a := 160) (b := i) (by omega) (by omega)).mpr h)
    refine v_lload_n (pc := 86) dX6_digest_86 rfl rfl ?_
    refine v_ldc2 (pc := 87) q1066 dX6_digest_87 ?_
    refine v_lmul (pc := 90) dX6_digest_90 ?_
    refine v_aload_nR (pc := 91) dX6_digest_91 rfl rfl ?_
    refine v_get (pc := 92) 7 0 fg_X6_19 rfl rfl dX6_digest_92 ?_
    refine v_iload_n (pc := 95) dX6_digest_95 rfl rfl ?_
    refine v_ialdN (pc := 96) 4 (k := i) rfl (by omega) (by decide) dX6_digest_96 ?_
    refine v_i2l (pc := 97) dX6_digest_97 ?_
    refine v_ladd (pc := 98) dX6_digest_98 ?_
    refine v_ldc2 (pc := 99) q1066 dX6_digest_99 ?_
    refine v_lmul (pc := 102) dX6_digest_102 ?_
    refine v_aload_nR (pc := 103) dX6_digest_103 rfl rfl ?_
    refine v_get (pc := 104) 1 0 fg_X6_9 rfl rfl dX6_digest_104 ?_
    refine v_iload_n (pc := 107) dX6_digest_107 rfl rfl ?_
    refine v_ialdN (pc := 108) 1 (k := i) rfl (by omega) (by decide) dX6_digest_108 ?_
    refine v_i2l (pc := 109) dX6_digest_109 ?_
    refine v_ladd (pc := 110) dX6_digest_110 ?_
    refine v_ldc2 (pc := 111) q1066 dX6_digest_111 ?_
    refine v_lmul (pc := 114) dX6_digest_114 ?_
    refine v_aload_nR (pc := 115) dX6_digest_115 rfl rfl ?_
    refine v_get (pc := 116) 8 0 fg_X6_22 rfl rfl dX6_digest_116 ?_
    refine v_iload_n (pc := 119) dX6_digest_119 rfl rfl ?_
    refine v_ialdN (pc := 120) 5 (k := i) rfl (by omega) (by decide) dX6_digest_120 ?_
    refine v_i2l (pc := 121) dX6_digest_121 ?_
    refine v_ladd (pc := 122) dX6_digest_122 ?_
    refine v_ldc2 (pc := 123) q1066 dX6_digest_123 ?_
    refine v_lmul (pc := 126) dX6_digest_126 ?_
    refine v_aload_nR (pc := 127) dX6_digest_127 rfl rfl ?_
    refine v_get (pc := 128) 9 0 fg_X6_25 rfl rfl dX6_digest_128 ?_
    refine v_iload_n (pc := 131) dX6_digest_131 rfl rfl ?_
    refine v_ialdN (pc := 132) 6 (k := i) rfl (by omega) (by decide) dX6_digest_132 ?_
    rw [show (C i : Int32) = bI (¬ C i = 0) from cbI hC i]
    refine v_i2l (pc := 133) dX6_digest_133 ?_
    refine v_ladd (pc := 134) dX6_digest_134 ?_
    refine v_lstore_n (pc := 135) dX6_digest_135 rfl (by decide) rfl ?_
    refine v_iinc (pc := 136) (v := nI (i + 1)) dX6_digest_136 rfl (nI_1 _) (by decide) rfl ?_
    refine v_goto (pc := 139) (tgt := 79) dX6_digest_139 (by decide) ?_
    refine v_sub ?_ (ih (i + 1) (by omega))
    exact ⟨rfl, rfl, rfl, trivial⟩
set_option maxRecDepth 100000 in
set_option maxHeartbeats 4000000 in
theorem lp_dg4 {G : Cx} {z : Nat → Nat} {th : Int32} {N O PC T S C : Nat → Int32} {ps sc bc hh : Nat} {SF BF : Nat → Nat → Int32} {MX H W : Nat → Int32} (hps : ps ≤ 8) (hsc : sc ≤ 5) (hbc : bc ≤ 40) {Z : ZT} {d0 : Int64} (K : V G Y_X6_digest Z 7 0 0 172 [some (.ref (z 0)), some (.long (dgP PC ps 8 d0)), none, none, none, none, none] [] (ModelM z th N O PC ps sc bc T S C SF MX BF hh H W)) : ∀ (m i : Nat), m + i = ps → V G Y_X6_digest Z 7 0 0 144 [some (.ref (z 0)), some (.long (dgP PC ps i d0)), none, some (.int (nI i)), none, none, none] [] (ModelM z th N O PC ps sc bc T S C SF MX BF hh H W) := by
  intro m
  induction m with
  | zero =>
    intro i hi
    have hi2 : i = ps := by omega
    refine v_iload_n (pc := 144) dX6_digest_144 rfl rfl ?_
    refine v_aload_nR (pc := 145) dX6_digest_145 rfl rfl ?_
    refine v_get (pc := 146) 3 0 fg_X6_52 rfl rfl dX6_digest_146 ?_
    refine v_icmp_ge (pc := 149) (tgt := 172) dX6_digest_149 (by decide) (fun c149 => ?_) (fun c149 => absurd (nI_le (a := ps) (b := i) (by omega) (by omega)) c149)
    have c149 : ps ≤ i := (nI_leI (a := ps) (b := i) (by omega) (by omega)).mp c149
    rw [hi2]
    rw [dgP_8 hps] at K
    refine v_sub ?_ K
    exact ⟨rfl, rfl, trivial⟩
  | succ m ih =>
    intro i hi
    refine v_iload_n (pc := 144) dX6_digest_144 rfl rfl ?_
    refine v_aload_nR (pc := 145) dX6_digest_145 rfl rfl ?_
    refine v_get (pc := 146) 3 0 fg_X6_52 rfl rfl dX6_digest_146 ?_
    refine v_icmp_ge (pc := 149) (tgt := 172) dX6_digest_149 (by decide) (fun c149 => absurd c149 (nI_ge (a := i) (b := ps) (by omega) (by omega))) (fun c149 => ?_)
    have c149 : ¬ ps ≤ i := fun h => c149 ((nI_leI (a := ps) (b := i) (by omega) (by omega)).mpr h)
    refine v_lload_n (pc := 152) dX6_digest_152 rfl rfl ?_
    refine v_ldc2 (pc := 153) q1066 dX6_digest_153 ?_
    refine v_lmul (pc := 156) dX6_digest_156 ?_
    refine v_aload_nR (pc := 157) dX6_digest_157 rfl rfl ?_
    refine v_get (pc := 158) 4 0 fg_X6_16 rfl rfl dX6_digest_158 ?_
    refine v_iload_n (pc := 161) dX6_digest_161 rfl rfl ?_
    refine v_ialdN (pc := 162) 3 (k := i) rfl (by omega) (by decide) dX6_digest_162 ?_
    refine v_i2l (pc := 163) dX6_digest_163 ?_
    refine v_ladd (pc := 164) dX6_digest_164 ?_
    refine v_lstore_n (pc := 165) dX6_digest_165 rfl (by decide) rfl ?_
    refine v_iinc (pc := 166) (v := nI (i + 1)) dX6_digest_166 rfl (nI_1 _) (by decide) rfl ?_
    refine v_goto (pc := 169) (tgt := 144) dX6_digest_169 (by decide) ?_
    have e : dgP PC ps (i + 1) d0 = _ := if_pos (by omega)
    have k9 := ih (i + 1) (by omega)
    rw [e] at k9
    refine v_sub ?_ k9
    exact ⟨rfl, rfl, rfl, trivial⟩
set_option maxRecDepth 100000 in
set_option maxHeartbeats 4000000 in
theorem lp_dg5i {G : Cx} {z : Nat → Nat} {th : Int32} {N O PC T S C : Nat → Int32} {ps sc bc hh : Nat} {SF BF : Nat → Nat → Int32} {MX H W : Nat → Int32} (hps : ps ≤ 8) (hsc : sc ≤ 5) (hbc : bc ≤ 40) {Z : ZT} {d0 : Int64} {k0 : Nat} (hk : k0 < sc) (hw : hWI SF BF bc) (K : V G Y_X6_digest Z 7 0 0 213 [some (.ref (z 0)), some (.long (dgK SF BF bc k0 9 d0)), none, some (.int (nI k0)), none, none, none] [] (ModelM z th N O PC ps sc bc T S C SF MX BF hh H W)) : ∀ (m i : Nat), m + i = 9 → V G Y_X6_digest Z 7 0 0 185 [some (.ref (z 0)), some (.long (dgK SF BF bc k0 i d0)), none, some (.int (nI k0)), some (.int (nI i)), none, none] [] (ModelM z th N O PC ps sc bc T S C SF MX BF hh H W) := by
  intro m
  induction m with
  | zero =>
    intro i hi
    obtain rfl : i = 9 := by omega
    refine v_iload (pc := 185) dX6_digest_185 rfl ?_
    refine v_bipush (pc := 187) (v := 9) dX6_digest_187 rfl ?_
    refine v_icmp_ge (pc := 189) (tgt := 213) dX6_digest_189 (by decide) (fun c189 => ?_) (fun c189 => absurd (nI_le (a := 9) (b := 9) (Nat.le_refl _) (by decide)) c189)
    have c189 : 9 ≤ 9 := (nI_leI (a := 9) (b := 9) (by omega) (by omega)).mp c189
    refine v_sub ?_ K
    exact ⟨rfl, rfl, rfl, trivial⟩
  | succ m ih =>
    intro i hi
    refine v_iload (pc := 185) dX6_digest_185 rfl ?_
    refine v_bipush (pc := 187) (v := 9) dX6_digest_187 rfl ?_
    refine v_icmp_ge (pc := 189) (tgt := 213) dX6_digest_189 (by decide) (fun c189 => absurd c189 (nI_ge (a := i) (b := 9) (by omega) (by decide))) (fun c189 => ?_)
    have c189 : ¬ 9 ≤ i := fun h => c189 ((nI_leI (a := 9) (b := i) (by omega) (by omega)).mpr h)
    refine v_lload_n (pc := 192) dX6_digest_192 rfl rfl ?_
    refine v_ldc2 (pc := 193) q1066 dX6_digest_193 ?_
    refine v_lmul (pc := 196) dX6_digest_196 ?_
    refine v_aload_nR (pc := 197) dX6_digest_197 rfl rfl ?_
    refine v_iload_n (pc := 198) dX6_digest_198 rfl rfl ?_
    refine v_iload (pc := 199) dX6_digest_199 rfl ?_
    refine v_callV2 (pc := 201) (c_X6_sleighTold hps hsc hbc (by omega) (by omega) (hw k0 (by omega))) cm_X6_sleighTold q971 q973 qs33 (ci := 6) rfl rfl (orcO 0 rfl) [0, 1, 2, 3, 4, 5, 6, 7, 8, 9, 10, 11] (by rfl) (by decide) (fun _ _ h => h) (by decide) (by decide) (by decide) (Nat.le_of_ble_eq_true rfl) dX6_digest_201 (fun v201 M201 hQ201 => ?_)
    obtain ⟨rfl, rfl⟩ := hQ201
    try dsimp only [wb, ModelM, List.set_cons_succ, List.set_cons_zero, List.append_nil, List.nil_append, List.cons_append, Option.toList, Nat.sub_zero, List.take_succ_cons, List.take_zero]
    refine v_i2l (pc := 204) dX6_digest_204 ?_
    refine v_ladd (pc := 205) dX6_digest_205 ?_
    refine v_lstore_n (pc := 206) dX6_digest_206 rfl (by decide) rfl ?_
    refine v_iinc (pc := 207) (v := nI (i + 1)) dX6_digest_207 rfl (nI_1 _) (by decide) rfl ?_
    refine v_goto (pc := 210) (tgt := 185) dX6_digest_210 (by decide) ?_
    refine v_sub ?_ (ih (i + 1) (by omega))
    exact ⟨rfl, rfl, rfl, rfl, trivial⟩
set_option maxRecDepth 100000 in
set_option maxHeartbeats 4000000 in
theorem lp_dg5 {G : Cx} {z : Nat → Nat} {th : Int32} {N O PC T S C : Nat → Int32} {ps sc bc hh : Nat} {SF BF : Nat → Nat → Int32} {MX H W : Nat → Int32} (hps : ps ≤ 8) (hsc : sc ≤ 5) (hbc : bc ≤ 40) {Z : ZT} {d0 : Int64} (hw : hWI SF BF bc) (K : V G Y_X6_digest Z 7 0 0 219 [some (.ref (z 0)), some (.long (dgS SF BF bc sc d0)), none, none, none, none, none] [] (ModelM z th N O PC ps sc bc T S C SF MX BF hh H W)) : ∀ (m i : Nat), m + i = sc → V G Y_X6_digest Z 7 0 0 174 [some (.ref (z 0)), some (.long (dgS SF BF bc i d0)), none, some (.int (nI i)), none, none, none] [] (ModelM z th N O PC ps sc bc T S C SF MX BF hh H W) := by
  intro m
  induction m with
  | zero =>
    intro i hi
    have hi2 : i = sc := by omega
    refine v_iload_n (pc := 174) dX6_digest_174 rfl rfl ?_
    refine v_aload_nR (pc := 175) dX6_digest_175 rfl rfl ?_
    refine v_get (pc := 176) 5 0 fg_X6_55 rfl rfl dX6_digest_176 ?_
    refine v_icmp_ge (pc := 179) (tgt := 219) dX6_digest_179 (by decide) (fun c179 => ?_) (fun c179 => absurd (nI_le (a := sc) (b := i) (by omega) (by omega)) c179)
    have c179 : sc ≤ i := (nI_leI (a := sc) (b := i) (by omega) (by omega)).mp c179
    rw [hi2]
    refine v_sub ?_ K
    exact ⟨rfl, rfl, trivial⟩
  | succ m ih =>
    intro i hi
    refine v_iload_n (pc := 174) dX6_digest_174 rfl rfl ?_
    refine v_aload_nR (pc := 175) dX6_digest_175 rfl rfl ?_
    refine v_get (pc := 176) 5 0 fg_X6_55 rfl rfl dX6_digest_176 ?_
    refine v_icmp_ge (pc := 179) (tgt := 219) dX6_digest_179 (by decide) (fun c179 => absurd c179 (nI_ge (a := i) (b := sc) (by omega) (by omega))) (fun c179 => ?_)
    have c179 : ¬ sc ≤ i := fun h => c179 ((nI_leI (a := sc) (b := i) (by omega) (by omega)).mpr h)
    refine v_iconst (pc := 182) (v := 0) dX6_digest_182 rfl ?_
    refine v_istore (pc := 183) dX6_digest_183 (by decide) rfl ?_
    refine v_sub (L' := [some (.ref (z 0)), some (.long (dgS SF BF bc i d0)), none, some (.int (nI i)), some (.int (nI 0)), none, none]) ⟨rfl, rfl, rfl, rfl, trivial⟩ ?_
    refine lp_dg5i hps hsc hbc (k0 := i) (by omega) hw ?_ 9 0 (by omega)
    refine v_iinc (pc := 213) (v := nI (i + 1)) dX6_digest_213 rfl (nI_1 _) (by decide) rfl ?_
    refine v_goto (pc := 216) (tgt := 174) dX6_digest_216 (by decide) ?_
    refine v_sub ?_ (ih (i + 1) (by omega))
    exact ⟨rfl, rfl, rfl, trivial⟩
set_option maxRecDepth 100000 in
set_option maxHeartbeats 4000000 in
theorem lp_dg6i {G : Cx} {z : Nat → Nat} {th : Int32} {N O PC T S C : Nat → Int32} {ps sc bc hh : Nat} {SF BF : Nat → Nat → Int32} {MX H W : Nat → Int32} (hps : ps ≤ 8) (hsc : sc ≤ 5) (hbc : bc ≤ 40) {Z : ZT} {d0 : Int64} {k0 : Nat} (hk : k0 < bc) (K : V G Y_X6_digest Z 7 0 0 259 [some (.ref (z 0)), some (.long (dgJ BF k0 5 d0)), none, some (.int (nI k0)), none, none, none] [] (ModelM z th N O PC ps sc bc T S C SF MX BF hh H W)) : ∀ (m i : Nat), m + i = 5 → V G Y_X6_digest Z 7 0 0 232 [some (.ref (z 0)), some (.long (dgJ BF k0 i d0)), none, some (.int (nI k0)), some (.int (nI i)), none, none] [] (ModelM z th N O PC ps sc bc T S C SF MX BF hh H W) := by
  intro m
  induction m with
  | zero =>
    intro i hi
    obtain rfl : i = 5 := by omega
    refine v_iload (pc := 232) dX6_digest_232 rfl ?_
    refine v_iconst (pc := 234) (v := 5) dX6_digest_234 rfl ?_
    refine v_icmp_ge (pc := 235) (tgt := 259) dX6_digest_235 (by decide) (fun c235 => ?_) (fun c235 => absurd (nI_le (a := 5) (b := 5) (Nat.le_refl _) (by decide)) c235)
    have c235 : 5 ≤ 5 := (nI_leI (a := 5) (b := 5) (by omega) (by omega)).mp c235
    refine v_sub ?_ K
    exact ⟨rfl, rfl, rfl, trivial⟩
  | succ m ih =>
    intro i hi
    refine v_iload (pc := 232) dX6_digest_232 rfl ?_
    refine v_iconst (pc := 234) (v := 5) dX6_digest_234 rfl ?_
    refine v_icmp_ge (pc := 235) (tgt := 259) dX6_digest_235 (by decide) (fun c235 => absurd c235 (nI_ge (a := i) (b := 5) (by omega) (by decide))) (fun c235 => ?_)
    have c235 : ¬ 5 ≤ i := fun h => c235 ((nI_leI (a := 5) (b := i) (by omega) (by omega)).mpr h)
    refine v_lload_n (pc := 238) dX6_digest_238 rfl rfl ?_
    refine v_ldc2 (pc := 239) q1066 dX6_digest_239 ?_
    refine v_lmul (pc := 242) dX6_digest_242 ?_
    refine v_aload_nR (pc := 243) dX6_digest_243 rfl rfl ?_
    refine v_iload_n (pc := 244) dX6_digest_244 rfl rfl ?_
    refine v_iload (pc := 245) dX6_digest_245 rfl ?_
    refine v_callV2 (pc := 247) (c_X6_baG hps hsc hbc (by omega) (by omega)) cm_X6_ba q919 q921 qs23 (ci := 6) rfl rfl (orcO 0 rfl) [0, 1, 2, 3, 4, 5, 6, 7, 8, 9, 10, 11] (by rfl) (by decide) (fun _ _ h => h) (by decide) (by decide) (by decide) (Nat.le_of_ble_eq_true rfl) dX6_digest_247 (fun v247 M247 hQ247 => ?_)
    obtain ⟨rfl, rfl⟩ := hQ247
    try dsimp only [wb, ModelM, List.set_cons_succ, List.set_cons_zero, List.append_nil, List.nil_append, List.cons_append, Option.toList, Nat.sub_zero, List.take_succ_cons, List.take_zero]
    refine v_i2l (pc := 250) dX6_digest_250 ?_
    refine v_ladd (pc := 251) dX6_digest_251 ?_
    refine v_lstore_n (pc := 252) dX6_digest_252 rfl (by decide) rfl ?_
    refine v_iinc (pc := 253) (v := nI (i + 1)) dX6_digest_253 rfl (nI_1 _) (by decide) rfl ?_
    refine v_goto (pc := 256) (tgt := 232) dX6_digest_256 (by decide) ?_
    refine v_sub ?_ (ih (i + 1) (by omega))
    exact ⟨rfl, rfl, rfl, rfl, trivial⟩
set_option maxRecDepth 100000 in
set_option maxHeartbeats 4000000 in
theorem lp_dg6 {G : Cx} {z : Nat → Nat} {th : Int32} {N O PC T S C : Nat → Int32} {ps sc bc hh : Nat} {SF BF : Nat → Nat → Int32} {MX H W : Nat → Int32} (hps : ps ≤ 8) (hsc : sc ≤ 5) (hbc : bc ≤ 40) {Z : ZT} {d0 : Int64} (K : V G Y_X6_digest Z 7 0 0 265 [some (.ref (z 0)), some (.long (dgB BF bc d0)), none, none, none, none, none] [] (ModelM z th N O PC ps sc bc T S C SF MX BF hh H W)) : ∀ (m i : Nat), m + i = bc → V G Y_X6_digest Z 7 0 0 221 [some (.ref (z 0)), some (.long (dgB BF i d0)), none, some (.int (nI i)), none, none, none] [] (ModelM z th N O PC ps sc bc T S C SF MX BF hh H W) := by
  intro m
  induction m with
  | zero =>
    intro i hi
    have hi2 : i = bc := by omega
    refine v_iload_n (pc := 221) dX6_digest_221 rfl rfl ?_
    refine v_aload_nR (pc := 222) dX6_digest_222 rfl rfl ?_
    refine v_get (pc := 223) 6 0 fg_X6_90 rfl rfl dX6_digest_223 ?_
    refine v_icmp_ge (pc := 226) (tgt := 265) dX6_digest_226 (by decide) (fun c226 => ?_) (fun c226 => absurd (nI_le (a := bc) (b := i) (by omega) (by omega)) c226)
    have c226 : bc ≤ i := (nI_leI (a := bc) (b := i) (by omega) (by omega)).mp c226
    rw [hi2]
    refine v_sub ?_ K
    exact ⟨rfl, rfl, trivial⟩
  | succ m ih =>
    intro i hi
    refine v_iload_n (pc := 221) dX6_digest_221 rfl rfl ?_
    refine v_aload_nR (pc := 222) dX6_digest_222 rfl rfl ?_
    refine v_get (pc := 223) 6 0 fg_X6_90 rfl rfl dX6_digest_223 ?_
    refine v_icmp_ge (pc := 226) (tgt := 265) dX6_digest_226 (by decide) (fun c226 => absurd c226 (nI_ge (a := i) (b := bc) (by omega) (by omega))) (fun c226 => ?_)
    have c226 : ¬ bc ≤ i := fun h => c226 ((nI_leI (a := bc) (b := i) (by omega) (by omega)).mpr h)
    refine v_iconst (pc := 229) (v := 0) dX6_digest_229 rfl ?_
    refine v_istore (pc := 230) dX6_digest_230 (by decide) rfl ?_
    refine v_sub (L' := [some (.ref (z 0)), some (.long (dgB BF i d0)), none, some (.int (nI i)), some (.int (nI 0)), none, none]) ⟨rfl, rfl, rfl, rfl, trivial⟩ ?_
    refine lp_dg6i hps hsc hbc (k0 := i) (by omega) ?_ 5 0 (by omega)
    refine v_iinc (pc := 259) (v := nI (i + 1)) dX6_digest_259 rfl (nI_1 _) (by decide) rfl ?_
    refine v_goto (pc := 262) (tgt := 221) dX6_digest_262 (by decide) ?_
    refine v_sub ?_ (ih (i + 1) (by omega))
    exact ⟨rfl, rfl, rfl, trivial⟩
set_option maxRecDepth 100000 in
set_option maxHeartbeats 4000000 in
theorem c_X6_digest {G : Cx} {z : Nat → Nat} {th : Int32} {N O PC T S C : Nat → Int32} {ps sc bc hh : Nat} {SF BF : Nat → Nat → Int32} {MX H W : Nat → Int32} (hps : ps ≤ 8) (hsc : sc ≤ 5) (hbc : bc ≤ 40) (hT : tOK T) (hC : cOK C) (hL : lOK T C) (hw : hWI SF BF bc) : Mt G Y_X6_digest 7 0 0 [.ref (z 0)] (ModelM z th N O PC ps sc bc T S C SF MX BF hh H W) (fun v M' => v = some (.long (dgA T N S C O PC SF BF ps sc bc hh)) ∧ M' = ModelM z 0 N O PC ps sc bc T S C SF MX BF hh H W) noX := by
  refine Mt.of (L := [some (.ref (z 0)), none, none, none, none, none, none]) rfl (by decide) (by simp [lg_sl, Value.category]) ⟨rfl, trivial⟩ (fun sz => ?_)
  refine v_aload_nR (pc := 0) dX6_digest_0 rfl rfl ?_
  refine v_iconst (pc := 1) (v := 0) dX6_digest_1 rfl ?_
  refine v_put (pc := 2) 0 0 fp_X6_digest_44 rfl rfl rfl (Nat.le_of_ble_eq_true rfl) dX6_digest_2 ?_
  try dsimp only [wb, ModelM, List.set_cons_succ, List.set_cons_zero, List.append_nil, List.nil_append, List.cons_append, Option.toList, Nat.sub_zero, List.take_succ_cons, List.take_zero]
  refine v_ldc2 (pc := 5) q1065 dX6_digest_5 ?_
  refine v_lstore_n (pc := 8) dX6_digest_8 rfl (by decide) rfl ?_
  refine v_iconst (pc := 9) (v := 0) dX6_digest_9 rfl ?_
  refine v_istore_n (pc := 10) dX6_digest_10 rfl (by decide) rfl ?_
  refine v_sub (L' := [some (.ref (z 0)), some (.long (601)), none, some (.int (nI 0)), none, none, none]) ⟨rfl, rfl, rfl, trivial⟩ ?_
  refine lp_dg1 hps hsc hbc hT hC hL ?_ 9 0 (by omega)
  refine v_aload_nR (pc := 36) dX6_digest_36 rfl rfl ?_
  refine v_get (pc := 37) 2 0 fg_X6_13 rfl rfl dX6_digest_37 ?_
  refine v_astore_nR (pc := 40) dX6_digest_40 rfl (by decide) rfl ?_
  refine v_aload_nR (pc := 41) dX6_digest_41 rfl rfl ?_
  refine v_alen (pc := 42) 2 (v := 8) rfl (fun _ => rfl) rfl dX6_digest_42 ?_
  refine v_istore (pc := 43) dX6_digest_43 (by decide) rfl ?_
  refine v_iconst (pc := 45) (v := 0) dX6_digest_45 rfl ?_
  refine v_istore (pc := 46) dX6_digest_46 (by decide) rfl ?_
  refine v_sub (L' := [some (.ref (z 0)), some (.long ((cnD T C SF BF ps sc bc hh 9 601))), none, some (.ref (z 2)), some (.int 8), some (.int (nI 0)), none]) ⟨rfl, rfl, rfl, rfl, rfl, trivial⟩ ?_
  refine lp_dg2 hps hsc hbc ?_ 8 0 (by omega)
  refine v_iconst (pc := 77) (v := 0) dX6_digest_77 rfl ?_
  refine v_istore_n (pc := 78) dX6_digest_78 rfl (by decide) rfl ?_
  refine v_sub (L' := [some (.ref (z 0)), some (.long ((dgC O 8 (cnD T C SF BF ps sc bc hh 9 601)))), none, some (.int (nI 0)), none, none, none]) ⟨rfl, rfl, rfl, trivial⟩ ?_
  refine lp_dg3 hps hsc hbc hC ?_ 160 0 (by omega)
  refine v_iconst (pc := 142) (v := 0) dX6_digest_142 rfl ?_
  refine v_istore_n (pc := 143) dX6_digest_143 rfl (by decide) rfl ?_
  refine v_sub (L' := [some (.ref (z 0)), some (.long ((dgL T N S C 160 (dgC O 8 (cnD T C SF BF ps sc bc hh 9 601))))), none, some (.int (nI 0)), none, none, none]) ⟨rfl, rfl, rfl, trivial⟩ ?_
  refine lp_dg4 hps hsc hbc ?_ ps 0 (by omega)
  refine v_iconst (pc := 172) (v := 0) dX6_digest_172 rfl ?_
  refine v_istore_n (pc := 173) dX6_digest_173 rfl (by decide) rfl ?_
  refine v_sub (L' := [some (.ref (z 0)), some (.long ((dgP PC ps 8 (dgL T N S C 160 (dgC O 8 (cnD T C SF BF ps sc bc hh 9 601)))))), none, some (.int (nI 0)), none, none, none]) ⟨rfl, rfl, rfl, trivial⟩ ?_
  refine lp_dg5 hps hsc hbc hw ?_ sc 0 (by omega)
  refine v_iconst (pc := 219) (v := 0) dX6_digest_219 rfl ?_
  refine v_istore_n (pc := 220) dX6_digest_220 rfl (by decide) rfl ?_
  refine v_sub (L' := [some (.ref (z 0)), some (.long ((dgS SF BF bc sc (dgP PC ps 8 (dgL T N S C 160 (dgC O 8 (cnD T C SF BF ps sc bc hh 9 601))))))), none, some (.int (nI 0)), none, none, none]) ⟨rfl, rfl, rfl, trivial⟩ ?_
  refine lp_dg6 hps hsc hbc ?_ bc 0 (by omega)
  refine v_lload_n (pc := 265) dX6_digest_265 rfl rfl ?_
  refine v_lret (pc := 266) rfl (Nat.le_of_ble_eq_true rfl) dX6_digest_266 ?_
  exact ⟨rfl, rfl⟩
theorem nI_nz {n : Nat} (h : 0 < n) (h2 : n < 2 ^ 31) : ¬ nI n = 0 := fun q => by
  have := (nI_eq (a := n) (b := 0) h2 (by omega)).mp q
  omega
theorem tkP_t {PC : Nat → Int32} {SF : Nat → Nat → Int32} {ps sc k : Nat} (h : ¬ oI (pOn PC ps (nI k) 8 0) = -1 ∨ ¬ sumN (onF SF sc (nI k)) 5 = 0) : tkP PC SF ps sc k = true := by
  unfold tkP
  rcases h with h | h
  · rw [show decide (pOn PC ps (nI k) 8 0 ≠ none) = true from decide_eq_true (fun q => h (pOn_none.mpr q))]; rfl
  · have h2 : 0 < sumN (onF SF sc (nI k)) 5 := Int32.not_le.mp (fun q => h (sum_on0.mpr q))
    rw [decide_eq_true h2, Bool.or_true]
theorem tkP_f {PC : Nat → Int32} {SF : Nat → Nat → Int32} {ps sc k : Nat} (h1 : oI (pOn PC ps (nI k) 8 0) = -1) (h2 : sumN (onF SF sc (nI k)) 5 = 0) : tkP PC SF ps sc k = false := by
  unfold tkP
  rw [show decide (pOn PC ps (nI k) 8 0 ≠ none) = false from decide_eq_false (fun q => q (pOn_none.mp h1)), decide_eq_false (Int32.not_lt.mpr (sum_on0.mp h2))]; rfl
theorem fr_s {PC : Nat → Int32} {SF : Nat → Nat → Int32} {ps sc x y wd i : Nat} {b : Bool} (h : frB PC SF ps sc x y wd i = b) (h2 : tkP PC SF ps sc (cel x y wd i) = (!b) ∨ b = false) : frB PC SF ps sc x y wd (i + 1) = b := by
  show (frB PC SF ps sc x y wd i && !tkP PC SF ps sc (cel x y wd i)) = b
  rw [h]
  cases b
  · rfl
  · rcases h2 with h2 | h2
    · rw [h2]; rfl
    · cases h2
theorem fr_f {PC : Nat → Int32} {SF : Nat → Nat → Int32} {ps sc x y wd i : Nat} (h2 : tkP PC SF ps sc (cel x y wd i) = true) : frB PC SF ps sc x y wd (i + 1) = false := by
  show (frB PC SF ps sc x y wd i && !tkP PC SF ps sc (cel x y wd i)) = false
  rw [h2]
  cases frB PC SF ps sc x y wd i <;> rfl
set_option maxRecDepth 100000 in
set_option maxHeartbeats 4000000 in
theorem lp_ic1 {G : Cx} {z : Nat → Nat} {th : Int32} {N O PC T S C : Nat → Int32} {ps sc bc hh : Nat} {SF BF : Nat → Nat → Int32} {MX H W : Nat → Int32} (hps : ps ≤ 8) (hsc : sc ≤ 5) (hbc : bc ≤ 40) {Z : ZT} {k1 k2 k3 k4 : Nat} {t : Int32} (hw : k1 + k3 ≤ 16) (hd : k2 + k4 ≤ 10) (ht : k3 * k4 ≤ 160) (K : V G Y_X6_setIce Z 7 0 0 126 [some (.ref (z 0)), some (.int (nI k1)), some (.int (nI k2)), some (.int (nI k3)), some (.int (nI k4)), some (.int t), some (.int (bI ((frB PC SF ps sc k1 k2 k3 (k3 * k4)) = true))), none, none] [] (ModelM z th N O PC ps sc bc T S C SF MX BF hh H W)) : ∀ (m i : Nat), m + i = (k3 * k4) → V G Y_X6_setIce Z 7 0 0 62 [some (.ref (z 0)), some (.int (nI k1)), some (.int (nI k2)), some (.int (nI k3)), some (.int (nI k4)), some (.int t), some (.int (bI ((frB PC SF ps sc k1 k2 k3 i) = true))), some (.int (nI i)), none] [] (ModelM z th N O PC ps sc bc T S C SF MX BF hh H W) := by
  intro m
  induction m with
  | zero =>
    intro i hi
    have hi2 : i = (k3 * k4) := by omega
    refine v_iload (pc := 62) dX6_setIce_62 rfl ?_
    refine v_iload_n (pc := 64) dX6_setIce_64 rfl rfl ?_
    refine v_iload (pc := 65) dX6_setIce_65 rfl ?_
    refine v_imul (pc := 67) dX6_setIce_67 ?_
    rw [show nI k3 * nI k4 = nI (k3 * k4) from pk_mul _ _]
    refine v_icmp_ge (pc := 68) (tgt := 126) dX6_setIce_68 (by decide) (fun c68 => ?_) (fun c68 => absurd (nI_le (a := k3 * k4) (b := i) (by omega) (by omega)) c68)
    have c68 : (k3 * k4) ≤ i := (nI_leI (a := (k3 * k4)) (b := i) (by omega) (by omega)).mp c68
    rw [hi2]
    refine v_sub ?_ K
    exact ⟨rfl, rfl, rfl, rfl, rfl, rfl, rfl, trivial⟩
  | succ m ih =>
    intro i hi
    have hk3 : 0 < k3 := by
      rcases Nat.eq_zero_or_pos k3 with h0 | h0
      · rw [h0, Nat.zero_mul] at hi
        omega
      · exact h0
    refine v_iload (pc := 62) dX6_setIce_62 rfl ?_
    refine v_iload_n (pc := 64) dX6_setIce_64 rfl rfl ?_
    refine v_iload (pc := 65) dX6_setIce_65 rfl ?_
    refine v_imul (pc := 67) dX6_setIce_67 ?_
    rw [show nI k3 * nI k4 = nI (k3 * k4) from pk_mul _ _]
    refine v_icmp_ge (pc := 68) (tgt := 126) dX6_setIce_68 (by decide) (fun c68 => absurd c68 (nI_ge (a := i) (b := k3 * k4) (by omega) (by omega))) (fun c68 => ?_)
    have c68 : ¬ (k3 * k4) ≤ i := fun h => c68 ((nI_leI (a := (k3 * k4)) (b := i) (by omega) (by omega)).mpr h)
    refine v_iload_n (pc := 71) dX6_setIce_71 rfl rfl ?_
    refine v_iload (pc := 72) dX6_setIce_72 rfl ?_
    refine v_iload_n (pc := 74) dX6_setIce_74 rfl rfl ?_
    refine v_irem (pc := 75) dX6_setIce_75 (nI_nz hk3 (by omega)) ?_
    refine v_iadd (pc := 76) dX6_setIce_76 ?_
    refine v_bipush (pc := 77) (v := 16) dX6_setIce_77 rfl ?_
    refine v_iload_n (pc := 79) dX6_setIce_79 rfl rfl ?_
    refine v_iload (pc := 80) dX6_setIce_80 rfl ?_
    refine v_iload_n (pc := 82) dX6_setIce_82 rfl rfl ?_
    refine v_idiv (pc := 83) dX6_setIce_83 (nI_nz hk3 (by omega)) ?_
    refine v_iadd (pc := 84) dX6_setIce_84 ?_
    refine v_imul (pc := 85) dX6_setIce_85 ?_
    refine v_iadd (pc := 86) dX6_setIce_86 ?_
    rw [kcel (by omega) hk3 (by omega)]
    have hcl : cel k1 k2 k3 i < 160 := cel_lt hw hd (by omega)
    refine v_istore (pc := 87) dX6_setIce_87 (by decide) rfl ?_
    refine v_iload (pc := 89) dX6_setIce_89 rfl ?_
    refine v_if_eq (pc := 91) (tgt := 117) dX6_setIce_91 (by decide) (fun c91 => ?_) (fun c91 => ?_)
    · have c91 := bI_0.mp c91
      refine v_iconst (pc := 117) (v := 0) dX6_setIce_117 rfl ?_
      refine v_istore (pc := 118) dX6_setIce_118 (by decide) rfl ?_
      refine v_iinc (pc := 120) (v := nI (i + 1)) dX6_setIce_120 rfl (nI_1 _) (by decide) rfl ?_
      refine v_goto (pc := 123) (tgt := 62) dX6_setIce_123 (by decide) ?_
      have e9 : (frB PC SF ps sc k1 k2 k3 (i + 1)) = false := fr_s (b := false) (by simpa using c91) (Or.inr rfl)
      have k9 := ih (i + 1) (by omega)
      rw [e9] at k9
      refine v_sub ?_ k9
      exact ⟨rfl, rfl, rfl, rfl, rfl, rfl, rfl, rfl, trivial⟩
    · have c91 := bI_n.mp c91
      refine v_aload_nR (pc := 94) dX6_setIce_94 rfl rfl ?_
      refine v_iload (pc := 95) dX6_setIce_95 rfl ?_
      refine v_callV1 (pc := 97) (c_X6_postAt hps hsc hbc) cm_X6_postAt q866 q868 qs17 (ci := 6) rfl rfl (orcO 0 rfl) [0, 1, 2, 3, 4, 5, 6, 7, 8, 9, 10, 11] (by rfl) (by decide) (fun _ _ h => h) (by decide) (by decide) (by decide) (Nat.le_of_ble_eq_true rfl) dX6_setIce_97 (fun v97 M97 hQ97 => ?_)
      obtain ⟨rfl, rfl⟩ := hQ97
      try dsimp only [wb, ModelM, List.set_cons_succ, List.set_cons_zero, List.append_nil, List.nil_append, List.cons_append, Option.toList, Nat.sub_zero, List.take_succ_cons, List.take_zero]
      refine v_iconst (pc := 100) (v := -1) dX6_setIce_100 rfl ?_
      refine v_icmp_ne (pc := 101) (tgt := 117) dX6_setIce_101 (by decide) (fun c101 => ?_) (fun c101 => ?_)
      · refine v_iconst (pc := 117) (v := 0) dX6_setIce_117 rfl ?_
        refine v_istore (pc := 118) dX6_setIce_118 (by decide) rfl ?_
        refine v_iinc (pc := 120) (v := nI (i + 1)) dX6_setIce_120 rfl (nI_1 _) (by decide) rfl ?_
        refine v_goto (pc := 123) (tgt := 62) dX6_setIce_123 (by decide) ?_
        have e9 : (frB PC SF ps sc k1 k2 k3 (i + 1)) = false := fr_f (tkP_t (Or.inl c101))
        have k9 := ih (i + 1) (by omega)
        rw [e9] at k9
        refine v_sub ?_ k9
        exact ⟨rfl, rfl, rfl, rfl, rfl, rfl, rfl, rfl, trivial⟩
      · refine v_aload_nR (pc := 104) dX6_setIce_104 rfl rfl ?_
        refine v_iload (pc := 105) dX6_setIce_105 rfl ?_
        refine v_callV1 (pc := 107) (c_X6_sleighsAt hps hsc hbc) cm_X6_sleighsAt q870 q872 qs18 (ci := 6) rfl rfl (orcO 0 rfl) [0, 1, 2, 3, 4, 5, 6, 7, 8, 9, 10, 11] (by rfl) (by decide) (fun _ _ h => h) (by decide) (by decide) (by decide) (Nat.le_of_ble_eq_true rfl) dX6_setIce_107 (fun v107 M107 hQ107 => ?_)
        obtain ⟨rfl, rfl⟩ := hQ107
        try dsimp only [wb, ModelM, List.set_cons_succ, List.set_cons_zero, List.append_nil, List.nil_append, List.cons_append, Option.toList, Nat.sub_zero, List.take_succ_cons, List.take_zero]
        refine v_if_ne (pc := 110) (tgt := 117) dX6_setIce_110 (by decide) (fun c110 => ?_) (fun c110 => ?_)
        · refine v_iconst (pc := 117) (v := 0) dX6_setIce_117 rfl ?_
          refine v_istore (pc := 118) dX6_setIce_118 (by decide) rfl ?_
          refine v_iinc (pc := 120) (v := nI (i + 1)) dX6_setIce_120 rfl (nI_1 _) (by decide) rfl ?_
          refine v_goto (pc := 123) (tgt := 62) dX6_setIce_123 (by decide) ?_
          have e9 : (frB PC SF ps sc k1 k2 k3 (i + 1)) = false := fr_f (tkP_t (Or.inr c110))
          have k9 := ih (i + 1) (by omega)
          rw [e9] at k9
          refine v_sub ?_ k9
          exact ⟨rfl, rfl, rfl, rfl, rfl, rfl, rfl, rfl, trivial⟩
        · refine v_iconst (pc := 113) (v := 1) dX6_setIce_113 rfl ?_
          refine v_goto (pc := 114) (tgt := 118) dX6_setIce_114 (by decide) ?_
          refine v_istore (pc := 118) dX6_setIce_118 (by decide) rfl ?_
          refine v_iinc (pc := 120) (v := nI (i + 1)) dX6_setIce_120 rfl (nI_1 _) (by decide) rfl ?_
          refine v_goto (pc := 123) (tgt := 62) dX6_setIce_123 (by decide) ?_
          have e9 : (frB PC SF ps sc k1 k2 k3 (i + 1)) = true := fr_s (b := true) (by simpa using c91) (Or.inl (tkP_f c101 c110))
          have k9 := ih (i + 1) (by omega)
          rw [e9] at k9
          refine v_sub ?_ k9
          exact ⟨rfl, rfl, rfl, rfl, rfl, rfl, rfl, rfl, trivial⟩
set_option maxRecDepth 100000 in
set_option maxHeartbeats 4000000 in
theorem lp_ic2 {G : Cx} {z : Nat → Nat} {th : Int32} {N O PC T S C : Nat → Int32} {ps sc bc hh : Nat} {SF BF : Nat → Nat → Int32} {MX H W : Nat → Int32} (hps : ps ≤ 8) (hsc : sc ≤ 5) (hbc : bc ≤ 40) {Z : ZT} {b6 : Int32} {k1 k2 k3 k4 : Nat} {t : Int32} (hw : k1 + k3 ≤ 16) (hd : k2 + k4 ≤ 10) (ht : k3 * k4 ≤ 160) (K : V G Y_X6_setIce Z 7 0 0 183 [some (.ref (z 0)), some (.int (nI k1)), some (.int (nI k2)), some (.int (nI k3)), some (.int (nI k4)), some (.int t), some (.int b6), none, none] [] (ModelM z th N O PC ps sc bc (lyU T t (cel k1 k2 k3) (k3 * k4)) (lyU S 0 (cel k1 k2 k3) (k3 * k4)) (lyU C 0 (cel k1 k2 k3) (k3 * k4)) SF MX BF hh H W)) : ∀ (m i : Nat), m + i = (k3 * k4) → V G Y_X6_setIce Z 7 0 0 146 [some (.ref (z 0)), some (.int (nI k1)), some (.int (nI k2)), some (.int (nI k3)), some (.int (nI k4)), some (.int t), some (.int b6), some (.int (nI i)), none] [] (ModelM z th N O PC ps sc bc (lyU T t (cel k1 k2 k3) i) (lyU S 0 (cel k1 k2 k3) i) (lyU C 0 (cel k1 k2 k3) i) SF MX BF hh H W) := by
  intro m
  induction m with
  | zero =>
    intro i hi
    have hi2 : i = (k3 * k4) := by omega
    refine v_iload (pc := 146) dX6_setIce_146 rfl ?_
    refine v_iload_n (pc := 148) dX6_setIce_148 rfl rfl ?_
    refine v_iload (pc := 149) dX6_setIce_149 rfl ?_
    refine v_imul (pc := 151) dX6_setIce_151 ?_
    rw [show nI k3 * nI k4 = nI (k3 * k4) from pk_mul _ _]
    refine v_icmp_ge (pc := 152) (tgt := 183) dX6_setIce_152 (by decide) (fun c152 => ?_) (fun c152 => absurd (nI_le (a := k3 * k4) (b := i) (by omega) (by omega)) c152)
    have c152 : (k3 * k4) ≤ i := (nI_leI (a := (k3 * k4)) (b := i) (by omega) (by omega)).mp c152
    rw [hi2]
    refine v_sub ?_ K
    exact ⟨rfl, rfl, rfl, rfl, rfl, rfl, rfl, trivial⟩
  | succ m ih =>
    intro i hi
    have hk3 : 0 < k3 := by
      rcases Nat.eq_zero_or_pos k3 with h0 | h0
      · rw [h0, Nat.zero_mul] at hi
        omega
      · exact h0
    refine v_iload (pc := 146) dX6_setIce_146 rfl ?_
    refine v_iload_n (pc := 148) dX6_setIce_148 rfl rfl ?_
    refine v_iload (pc := 149) dX6_setIce_149 rfl ?_
    refine v_imul (pc := 151) dX6_setIce_151 ?_
    rw [show nI k3 * nI k4 = nI (k3 * k4) from pk_mul _ _]
    refine v_icmp_ge (pc := 152) (tgt := 183) dX6_setIce_152 (by decide) (fun c152 => absurd c152 (nI_ge (a := i) (b := k3 * k4) (by omega) (by omega))) (fun c152 => ?_)
    have c152 : ¬ (k3 * k4) ≤ i := fun h => c152 ((nI_leI (a := (k3 * k4)) (b := i) (by omega) (by omega)).mpr h)
    refine v_aload_nR (pc := 155) dX6_setIce_155 rfl rfl ?_
    refine v_iload_n (pc := 156) dX6_setIce_156 rfl rfl ?_
    refine v_iload (pc := 157) dX6_setIce_157 rfl ?_
    refine v_iload_n (pc := 159) dX6_setIce_159 rfl rfl ?_
    refine v_irem (pc := 160) dX6_setIce_160 (nI_nz hk3 (by omega)) ?_
    refine v_iadd (pc := 161) dX6_setIce_161 ?_
    refine v_bipush (pc := 162) (v := 16) dX6_setIce_162 rfl ?_
    refine v_iload_n (pc := 164) dX6_setIce_164 rfl rfl ?_
    refine v_iload (pc := 165) dX6_setIce_165 rfl ?_
    refine v_iload_n (pc := 167) dX6_setIce_167 rfl rfl ?_
    refine v_idiv (pc := 168) dX6_setIce_168 (nI_nz hk3 (by omega)) ?_
    refine v_iadd (pc := 169) dX6_setIce_169 ?_
    refine v_imul (pc := 170) dX6_setIce_170 ?_
    refine v_iadd (pc := 171) dX6_setIce_171 ?_
    rw [kcel (by omega) hk3 (by omega)]
    have hcl : cel k1 k2 k3 i < 160 := cel_lt hw hd (by omega)
    refine v_iload (pc := 172) dX6_setIce_172 rfl ?_
    refine v_callV2 (pc := 174) (c_X6_make hps hsc hbc (by omega)) cm_X6_make q878 q880 qs20 (ci := 6) rfl rfl (orcO 0 rfl) [0, 1, 2, 3, 4, 5, 6, 7, 8, 9, 10, 11] (by rfl) (by decide) (fun _ _ h => h) (by decide) (by decide) (by decide) (Nat.le_of_ble_eq_true rfl) dX6_setIce_174 (fun v174 M174 hQ174 => ?_)
    obtain ⟨rfl, rfl⟩ := hQ174
    try dsimp only [wb, ModelM, List.set_cons_succ, List.set_cons_zero, List.append_nil, List.nil_append, List.cons_append, Option.toList, Nat.sub_zero, List.take_succ_cons, List.take_zero]
    refine v_iinc (pc := 177) (v := nI (i + 1)) dX6_setIce_177 rfl (nI_1 _) (by decide) rfl ?_
    refine v_goto (pc := 180) (tgt := 146) dX6_setIce_180 (by decide) ?_
    exact ih (i + 1) (by omega)
set_option maxRecDepth 100000 in
set_option maxHeartbeats 4000000 in
theorem c_X6_setIce {G : Cx} {z : Nat → Nat} {th : Int32} {N O PC T S C : Nat → Int32} {ps sc bc hh : Nat} {SF BF : Nat → Nat → Int32} {MX H W : Nat → Int32} (hps : ps ≤ 8) (hsc : sc ≤ 5) (hbc : bc ≤ 40) {x y w1 h1 t ch : Int32} : Mt G Y_X6_setIce 7 0 0 [.ref (z 0), .int x, .int y, .int w1, .int h1, .int t] (ModelM z th N O PC ps sc bc T S C SF MX BF hh H W) (fun v M' => v = some (.int ((rIc T S C PC SF ps sc ch x y w1 h1 t).2.1)) ∧ M' = ModelM z (rIc T S C PC SF ps sc ch x y w1 h1 t).1 N O PC ps sc bc (rIc T S C PC SF ps sc ch x y w1 h1 t).2.2.1 (rIc T S C PC SF ps sc ch x y w1 h1 t).2.2.2.1 (rIc T S C PC SF ps sc ch x y w1 h1 t).2.2.2.2.1 SF MX BF hh H W) noX := by
  refine Mt.of (L := [some (.ref (z 0)), some (.int x), some (.int y), some (.int w1), some (.int h1), some (.int t), none, none, none]) rfl (by decide) (by simp [lg_sl, Value.category]) ⟨rfl, rfl, rfl, rfl, rfl, rfl, trivial⟩ (fun sz => ?_)
  refine v_aload_nR (pc := 0) dX6_setIce_0 rfl rfl ?_
  refine v_iconst (pc := 1) (v := 0) dX6_setIce_1 rfl ?_
  refine v_put (pc := 2) 0 0 fp_X6_setIce_44 rfl rfl rfl (Nat.le_of_ble_eq_true rfl) dX6_setIce_2 ?_
  try dsimp only [wb, ModelM, List.set_cons_succ, List.set_cons_zero, List.append_nil, List.nil_append, List.cons_append, Option.toList, Nat.sub_zero, List.take_succ_cons, List.take_zero]
  refine v_iload_n (pc := 5) dX6_setIce_5 rfl rfl ?_
  refine v_iload_n (pc := 6) dX6_setIce_6 rfl rfl ?_
  refine v_callS2 (pc := 7) (c_X6_isCell ) cm_X6_isCell q856 q857 [] (by rfl) (by decide) (fun _ _ h => h) (by decide) (by decide) (by decide) (Nat.le_of_ble_eq_true rfl) dX6_setIce_7 (fun v7 M7 hQ7 => ?_)
  obtain ⟨rfl, rfl⟩ := hQ7
  try dsimp only [wb, ModelM, List.set_cons_succ, List.set_cons_zero, List.append_nil, List.nil_append, List.cons_append, Option.toList, Nat.sub_zero, List.take_succ_cons, List.take_zero]
  refine v_if_eq (pc := 10) (tgt := 50) dX6_setIce_10 (by decide) (fun c10 => ?_) (fun c10 => ?_)
  · have c10 := bI_0.mp c10
    refine v_aload_nR (pc := 50) dX6_setIce_50 rfl rfl ?_
    refine v_iconst (pc := 51) (v := 1) dX6_setIce_51 rfl ?_
    refine v_callV1 (pc := 52) (c_X6_fail hps hsc hbc) cm_X6_fail q862 q864 qs16 (ci := 6) rfl rfl (orcO 0 rfl) [0, 1, 2, 3, 4, 5, 6, 7, 8, 9, 10, 11] (by rfl) (by decide) (fun _ _ h => h) (by decide) (by decide) (by decide) (Nat.le_of_ble_eq_true rfl) dX6_setIce_52 (fun v52 M52 hQ52 => ?_)
    obtain ⟨rfl, rfl⟩ := hQ52
    try dsimp only [wb, ModelM, List.set_cons_succ, List.set_cons_zero, List.append_nil, List.nil_append, List.cons_append, Option.toList, Nat.sub_zero, List.take_succ_cons, List.take_zero]
    refine v_iret (pc := 55) rfl rfl (Nat.le_of_ble_eq_true rfl) dX6_setIce_55 ?_
    have e9 : (rIc T S C PC SF ps sc ch x y w1 h1 t) = (1, 0, T, S, C, ch) := by exact if_neg (fun h => c10 h.1.1)
    rw [e9]
    exact ⟨rfl, rfl⟩
  · have c10 := bI_n.mp c10
    refine v_iload_n (pc := 13) dX6_setIce_13 rfl rfl ?_
    refine v_iconst (pc := 14) (v := 1) dX6_setIce_14 rfl ?_
    refine v_bipush (pc := 15) (v := 16) dX6_setIce_15 rfl ?_
    refine v_iload_n (pc := 17) dX6_setIce_17 rfl rfl ?_
    refine v_isub (pc := 18) dX6_setIce_18 ?_
    refine v_callS3 (pc := 19) (c_X6_isIn ) cm_X6_isIn q859 q860 [] (by rfl) (by decide) (fun _ _ h => h) (by decide) (by decide) (by decide) (Nat.le_of_ble_eq_true rfl) dX6_setIce_19 (fun v19 M19 hQ19 => ?_)
    obtain ⟨rfl, rfl⟩ := hQ19
    try dsimp only [wb, ModelM, List.set_cons_succ, List.set_cons_zero, List.append_nil, List.nil_append, List.cons_append, Option.toList, Nat.sub_zero, List.take_succ_cons, List.take_zero]
    refine v_if_eq (pc := 22) (tgt := 50) dX6_setIce_22 (by decide) (fun c22 => ?_) (fun c22 => ?_)
    · have c22 := bI_0.mp c22
      refine v_aload_nR (pc := 50) dX6_setIce_50 rfl rfl ?_
      refine v_iconst (pc := 51) (v := 1) dX6_setIce_51 rfl ?_
      refine v_callV1 (pc := 52) (c_X6_fail hps hsc hbc) cm_X6_fail q862 q864 qs16 (ci := 6) rfl rfl (orcO 0 rfl) [0, 1, 2, 3, 4, 5, 6, 7, 8, 9, 10, 11] (by rfl) (by decide) (fun _ _ h => h) (by decide) (by decide) (by decide) (Nat.le_of_ble_eq_true rfl) dX6_setIce_52 (fun v52 M52 hQ52 => ?_)
      obtain ⟨rfl, rfl⟩ := hQ52
      try dsimp only [wb, ModelM, List.set_cons_succ, List.set_cons_zero, List.append_nil, List.nil_append, List.cons_append, Option.toList, Nat.sub_zero, List.take_succ_cons, List.take_zero]
      refine v_iret (pc := 55) rfl rfl (Nat.le_of_ble_eq_true rfl) dX6_setIce_55 ?_
      have e9 : (rIc T S C PC SF ps sc ch x y w1 h1 t) = (1, 0, T, S, C, ch) := by exact if_neg (fun h => c22 h.1.2.1)
      rw [e9]
      exact ⟨rfl, rfl⟩
    · have c22 := bI_n.mp c22
      refine v_iload (pc := 25) dX6_setIce_25 rfl ?_
      refine v_iconst (pc := 27) (v := 1) dX6_setIce_27 rfl ?_
      refine v_bipush (pc := 28) (v := 10) dX6_setIce_28 rfl ?_
      refine v_iload_n (pc := 30) dX6_setIce_30 rfl rfl ?_
      refine v_isub (pc := 31) dX6_setIce_31 ?_
      refine v_callS3 (pc := 32) (c_X6_isIn ) cm_X6_isIn q859 q860 [] (by rfl) (by decide) (fun _ _ h => h) (by decide) (by decide) (by decide) (Nat.le_of_ble_eq_true rfl) dX6_setIce_32 (fun v32 M32 hQ32 => ?_)
      obtain ⟨rfl, rfl⟩ := hQ32
      try dsimp only [wb, ModelM, List.set_cons_succ, List.set_cons_zero, List.append_nil, List.nil_append, List.cons_append, Option.toList, Nat.sub_zero, List.take_succ_cons, List.take_zero]
      refine v_if_eq (pc := 35) (tgt := 50) dX6_setIce_35 (by decide) (fun c35 => ?_) (fun c35 => ?_)
      · have c35 := bI_0.mp c35
        refine v_aload_nR (pc := 50) dX6_setIce_50 rfl rfl ?_
        refine v_iconst (pc := 51) (v := 1) dX6_setIce_51 rfl ?_
        refine v_callV1 (pc := 52) (c_X6_fail hps hsc hbc) cm_X6_fail q862 q864 qs16 (ci := 6) rfl rfl (orcO 0 rfl) [0, 1, 2, 3, 4, 5, 6, 7, 8, 9, 10, 11] (by rfl) (by decide) (fun _ _ h => h) (by decide) (by decide) (by decide) (Nat.le_of_ble_eq_true rfl) dX6_setIce_52 (fun v52 M52 hQ52 => ?_)
        obtain ⟨rfl, rfl⟩ := hQ52
        try dsimp only [wb, ModelM, List.set_cons_succ, List.set_cons_zero, List.append_nil, List.nil_append, List.cons_append, Option.toList, Nat.sub_zero, List.take_succ_cons, List.take_zero]
        refine v_iret (pc := 55) rfl rfl (Nat.le_of_ble_eq_true rfl) dX6_setIce_55 ?_
        have e9 : (rIc T S C PC SF ps sc ch x y w1 h1 t) = (1, 0, T, S, C, ch) := by exact if_neg (fun h => c35 h.1.2.2)
        rw [e9]
        exact ⟨rfl, rfl⟩
      · have c35 := bI_n.mp c35
        refine v_iload (pc := 38) dX6_setIce_38 rfl ?_
        refine v_iconst (pc := 40) (v := -1) dX6_setIce_40 rfl ?_
        refine v_sipush (pc := 41) (v := 200) dX6_setIce_41 rfl ?_
        refine v_callS3 (pc := 44) (c_X6_isIn ) cm_X6_isIn q859 q860 [] (by rfl) (by decide) (fun _ _ h => h) (by decide) (by decide) (by decide) (Nat.le_of_ble_eq_true rfl) dX6_setIce_44 (fun v44 M44 hQ44 => ?_)
        obtain ⟨rfl, rfl⟩ := hQ44
        try dsimp only [wb, ModelM, List.set_cons_succ, List.set_cons_zero, List.append_nil, List.nil_append, List.cons_append, Option.toList, Nat.sub_zero, List.take_succ_cons, List.take_zero]
        refine v_if_ne (pc := 47) (tgt := 56) dX6_setIce_47 (by decide) (fun c47 => ?_) (fun c47 => ?_)
        · have c47 := bI_n.mp c47
          refine v_iconst (pc := 56) (v := 1) dX6_setIce_56 rfl ?_
          refine v_istore (pc := 57) dX6_setIce_57 (by decide) rfl ?_
          refine v_iconst (pc := 59) (v := 0) dX6_setIce_59 rfl ?_
          refine v_istore (pc := 60) dX6_setIce_60 (by decide) rfl ?_
          obtain ⟨k1, k2, k3, k4, hac, hbe, rfl, rfl, rfl, rfl⟩ := rect_of ⟨c10, c22, c35⟩
          have hcN : cN (nI k1) = k1 ∧ cN (nI k2) = k2 ∧ cN (nI k3) = k3 ∧ cN (nI k4) = k4 := ⟨cN_nI (by omega), cN_nI (by omega), cN_nI (by omega), cN_nI (by omega)⟩
          have ht : k3 * k4 ≤ 160 := Nat.mul_le_mul (by omega : k3 ≤ 16) (by omega : k4 ≤ 10)
          refine v_sub (L' := [some (.ref (z 0)), some (.int (nI k1)), some (.int (nI k2)), some (.int (nI k3)), some (.int (nI k4)), some (.int t), some (.int (bI ((frB PC SF ps sc k1 k2 k3 0) = true))), some (.int (nI 0)), none]) ⟨rfl, rfl, rfl, rfl, rfl, rfl, rfl, rfl, trivial⟩ ?_
          refine lp_ic1 hps hsc hbc hac hbe ht ?_ (k3 * k4) 0 (by omega)
          refine v_iload (pc := 126) dX6_setIce_126 rfl ?_
          refine v_iconst (pc := 128) (v := -1) dX6_setIce_128 rfl ?_
          refine v_icmp_eq (pc := 129) (tgt := 143) dX6_setIce_129 (by decide) (fun c129 => ?_) (fun c129 => ?_)
          · refine v_iconst (pc := 143) (v := 0) dX6_setIce_143 rfl ?_
            refine v_istore (pc := 144) dX6_setIce_144 (by decide) rfl ?_
            have e9 : (rIc T S C PC SF ps sc ch (nI k1) (nI k2) (nI k3) (nI k4) t) = ((0 : Int32), nI k3 * nI k4, lyU T t (cel k1 k2 k3) (k4 * k3), lyU S 0 (cel k1 k2 k3) (k4 * k3), lyU C 0 (cel k1 k2 k3) (k4 * k3), ch + nI (k4 * k3)) := by unfold rIc; rw [if_pos ⟨⟨c10, c22, c35⟩, c47⟩, hcN.1, hcN.2.1, hcN.2.2.1, hcN.2.2.2, if_neg (fun h => h.1 c129)]
            rw [e9]
            rw [show k4 * k3 = k3 * k4 from Nat.mul_comm _ _]
            refine v_sub (L' := [some (.ref (z 0)), some (.int (nI k1)), some (.int (nI k2)), some (.int (nI k3)), some (.int (nI k4)), some (.int t), some (.int (bI ((frB PC SF ps sc k1 k2 k3 (k3 * k4)) = true))), some (.int (nI 0)), none]) ⟨rfl, rfl, rfl, rfl, rfl, rfl, rfl, rfl, trivial⟩ ?_
            refine lp_ic2 hps hsc hbc hac hbe ht ?_ (k3 * k4) 0 (by omega)
            refine v_iload_n (pc := 183) dX6_setIce_183 rfl rfl ?_
            refine v_iload (pc := 184) dX6_setIce_184 rfl ?_
            refine v_imul (pc := 186) dX6_setIce_186 ?_
            refine v_iret (pc := 187) rfl rfl (Nat.le_of_ble_eq_true rfl) dX6_setIce_187 ?_
            exact ⟨rfl, rfl⟩
          · refine v_iload (pc := 132) dX6_setIce_132 rfl ?_
            refine v_if_ne (pc := 134) (tgt := 143) dX6_setIce_134 (by decide) (fun c134 => ?_) (fun c134 => ?_)
            · have c134 := bI_n.mp c134
              refine v_iconst (pc := 143) (v := 0) dX6_setIce_143 rfl ?_
              refine v_istore (pc := 144) dX6_setIce_144 (by decide) rfl ?_
              have e9 : (rIc T S C PC SF ps sc ch (nI k1) (nI k2) (nI k3) (nI k4) t) = ((0 : Int32), nI k3 * nI k4, lyU T t (cel k1 k2 k3) (k4 * k3), lyU S 0 (cel k1 k2 k3) (k4 * k3), lyU C 0 (cel k1 k2 k3) (k4 * k3), ch + nI (k4 * k3)) := by unfold rIc; rw [if_pos ⟨⟨c10, c22, c35⟩, c47⟩, hcN.1, hcN.2.1, hcN.2.2.1, hcN.2.2.2, if_neg (fun h => (fr_tk.mp c134) h.2)]
              rw [e9]
              rw [show k4 * k3 = k3 * k4 from Nat.mul_comm _ _]
              refine v_sub (L' := [some (.ref (z 0)), some (.int (nI k1)), some (.int (nI k2)), some (.int (nI k3)), some (.int (nI k4)), some (.int t), some (.int (bI ((frB PC SF ps sc k1 k2 k3 (k3 * k4)) = true))), some (.int (nI 0)), none]) ⟨rfl, rfl, rfl, rfl, rfl, rfl, rfl, rfl, trivial⟩ ?_
              refine lp_ic2 hps hsc hbc hac hbe ht ?_ (k3 * k4) 0 (by omega)
              refine v_iload_n (pc := 183) dX6_setIce_183 rfl rfl ?_
              refine v_iload (pc := 184) dX6_setIce_184 rfl ?_
              refine v_imul (pc := 186) dX6_setIce_186 ?_
              refine v_iret (pc := 187) rfl rfl (Nat.le_of_ble_eq_true rfl) dX6_setIce_187 ?_
              exact ⟨rfl, rfl⟩
            · have c134 := bI_0.mp c134
              refine v_aload_nR (pc := 137) dX6_setIce_137 rfl rfl ?_
              refine v_iconst (pc := 138) (v := 2) dX6_setIce_138 rfl ?_
              refine v_callV1 (pc := 139) (c_X6_fail hps hsc hbc) cm_X6_fail q862 q864 qs16 (ci := 6) rfl rfl (orcO 0 rfl) [0, 1, 2, 3, 4, 5, 6, 7, 8, 9, 10, 11] (by rfl) (by decide) (fun _ _ h => h) (by decide) (by decide) (by decide) (Nat.le_of_ble_eq_true rfl) dX6_setIce_139 (fun v139 M139 hQ139 => ?_)
              obtain ⟨rfl, rfl⟩ := hQ139
              try dsimp only [wb, ModelM, List.set_cons_succ, List.set_cons_zero, List.append_nil, List.nil_append, List.cons_append, Option.toList, Nat.sub_zero, List.take_succ_cons, List.take_zero]
              refine v_iret (pc := 142) rfl rfl (Nat.le_of_ble_eq_true rfl) dX6_setIce_142 ?_
              have e9 : (rIc T S C PC SF ps sc ch (nI k1) (nI k2) (nI k3) (nI k4) t) = (2, 0, T, S, C, ch) := by unfold rIc; rw [if_pos ⟨⟨c10, c22, c35⟩, c47⟩, hcN.1, hcN.2.1, hcN.2.2.1, hcN.2.2.2, if_pos ⟨c129, Classical.byContradiction (fun q => c134 (fr_tk.mpr q))⟩]
              rw [e9]
              exact ⟨rfl, rfl⟩
        · have c47 := bI_0.mp c47
          refine v_aload_nR (pc := 50) dX6_setIce_50 rfl rfl ?_
          refine v_iconst (pc := 51) (v := 1) dX6_setIce_51 rfl ?_
          refine v_callV1 (pc := 52) (c_X6_fail hps hsc hbc) cm_X6_fail q862 q864 qs16 (ci := 6) rfl rfl (orcO 0 rfl) [0, 1, 2, 3, 4, 5, 6, 7, 8, 9, 10, 11] (by rfl) (by decide) (fun _ _ h => h) (by decide) (by decide) (by decide) (Nat.le_of_ble_eq_true rfl) dX6_setIce_52 (fun v52 M52 hQ52 => ?_)
          obtain ⟨rfl, rfl⟩ := hQ52
          try dsimp only [wb, ModelM, List.set_cons_succ, List.set_cons_zero, List.append_nil, List.nil_append, List.cons_append, Option.toList, Nat.sub_zero, List.take_succ_cons, List.take_zero]
          refine v_iret (pc := 55) rfl rfl (Nat.le_of_ble_eq_true rfl) dX6_setIce_55 ?_
          have e9 : (rIc T S C PC SF ps sc ch x y w1 h1 t) = (1, 0, T, S, C, ch) := by exact if_neg (fun h => c47 h.2)
          rw [e9]
          exact ⟨rfl, rfl⟩
