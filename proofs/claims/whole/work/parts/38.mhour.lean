/-! an hour of the reference -/
theorem skL_stop {T C : Nat → Int32} {sc bc : Nat} : ∀ m i (x : SB), sc ≤ i → skL T C sc bc m i x = x
  | 0, _, _, _ => rfl
  | m + 1, i, x, h => by
    have e : skT T C sc bc i x = x := if_neg (fun q => absurd q.1 (by omega))
    show skL T C sc bc m (i + 1) (skT T C sc bc i x) = x
    rw [e]
    exact skL_stop m (i + 1) x (by omega)
theorem mvL_stop {PC : Nat → Int32} {ps sc bc hh : Nat} : ∀ m i (x : SBC), sc ≤ i → mvL PC ps sc bc hh m i x = x
  | 0, _, _, _ => rfl
  | m + 1, i, x, h => by
    have e : mvT PC ps sc bc hh i x = x := if_neg (fun q => absurd q.1 (by omega))
    show mvL PC ps sc bc hh m (i + 1) (mvT PC ps sc bc hh i x) = x
    rw [e]
    exact mvL_stop m (i + 1) x (by omega)
theorem soL_stop {l5 : Value} {T N PC : Nat → Int32} {ps sc : Nat} : ∀ m i (x : SO), sc ≤ i → soL l5 T N PC ps sc m i x = x
  | 0, _, _, _ => rfl
  | m + 1, i, x, h => by
    have e : soT l5 T N PC ps sc i x = x := if_neg (fun q => absurd q.1 (by omega))
    show soL l5 T N PC ps sc m (i + 1) (soT l5 T N PC ps sc i x) = x
    rw [e]
    exact soL_stop m (i + 1) x (by omega)
theorem reL_stop {sc : Nat} : ∀ m i (x : Nat → Nat → Int32), sc ≤ i → reL sc m i x = x
  | 0, _, _, _ => rfl
  | m + 1, i, x, h => by
    have e : reT sc i x = x := if_neg (fun q => absurd q.1 (by omega))
    show reL sc m (i + 1) (reT sc i x) = x
    rw [e]
    exact reL_stop m (i + 1) x (by omega)
theorem hIV.more {PC T C : Nat → Int32} {ps sc bc B B' : Nat} {SF BF : Nat → Nat → Int32} {MX : Nat → Int32} {ch : Int32} (h : hIV PC ps sc bc T C ch SF BF MX B) (hB : B ≤ B') : hIV PC ps sc bc T C ch SF BF MX B' :=
  ⟨h.1, h.2.1, h.2.2.1, h.2.2.2.1, h.2.2.2.2.1, h.2.2.2.2.2.1, h.2.2.2.2.2.2.1, h.2.2.2.2.2.2.2.up hB⟩
theorem so_h5 {PC T C : Nat → Int32} {ps sc i : Nat} {SF : Nat → Nat → Int32} {ch : Int32} (hps : ps ≤ 8) (hPC : ∀ k, k < 8 → 0 ≤ PC k ∧ PC k < 160) (hO : sOK SF sc) (hp : iPS PC ps SF sc) (hn : nWI T C PC ps SF sc ch) (hi : i < sc) : SF i 3 = 1 → ∃ q g, q < ps ∧ SF i 5 = nI q ∧ PC q = nI g ∧ g < 160 ∧ (¬ 0 < SF i 7 → ¬ cN (SF i 4) = g ∧ (SF i 8 = ch → ∀ n, ¬ Rch (HbS T C SF i) g n (cN (SF i 4)))) := by
  intro h3
  have h := hp i hi
  obtain ⟨q, hq, eq⟩ := kOf (h.2.2 h3).1 (by omega)
  have hPq := cN_of (hPC q (by omega))
  have hcop : cop PC ps (SF i 5) = PC q := by rw [eq]; exact cop_k hq hps
  refine ⟨q, cN (PC q), hq, eq, hPq.1, hPq.2, fun h7 => ⟨fun e => ?_, fun h8 => ?_⟩⟩
  · apply (h.2.2 h3).2.2 h7
    rw [hcop, hPq.1, ← e]
    exact (cN_of (hO i hi).2.1).1
  · rcases hn i hi h3 with z | ⟨-, -, z⟩
    · rw [h8] at z
      exact absurd ((fa_lt _ _).mp z) (Int.lt_irrefl _)
    · rw [hcop] at z
      exact z
theorem hour_up {hh : Nat} : ∀ j, j < 1 → upd (fun _ => nI hh) 0 (nI hh + 1) j = (fun _ => nI (hh + 1)) j := by
  intro j hj
  obtain rfl : j = 0 := by omega
  rw [pk_us, nI_1]
set_option maxRecDepth 100000 in
set_option maxHeartbeats 4000000 in
theorem lp_X6_h1 {G : Cx} {z : Nat → Nat} {th : Int32} {N O PC T S C : Nat → Int32} {ps sc bc hh : Nat} {SF BF : Nat → Nat → Int32} {MX H W : Nat → Int32} (hps : ps ≤ 8) (hsc : sc ≤ 5) (hbc : bc ≤ 40) {sz : Nat} {n5 : Nat} (h5 : n5 = 5) {Z : ZT} {ch : Int32} {B : Nat} {r : SB} (K : hIV PC ps sc bc T C ch r.1 r.2 MX B → V G Y_X6_hourOn Z 6 0 0 84 [some (.ref (z 0)), some (.int 0), none] [] (ModelM z th N O PC ps sc bc T S C r.1 MX r.2 hh H W)) : ∀ (m i : Nat), m + i = sc → ∀ y : SB, hIV PC ps sc bc T C ch y.1 y.2 MX B → skL T C sc bc (n5 - i) i y = r → V G Y_X6_hourOn Z 6 0 0 37 [some (.ref (z 0)), some (.int 0), some (.int (nI i))] [] (ModelM z th N O PC ps sc bc T S C y.1 MX y.2 hh H W) := by
  intro m
  induction m with
  | zero =>
    intro i hi
    have hi2 : i = sc := by omega
    intro y hI hr
    rw [skL_stop _ i y (by omega)] at hr
    subst hr
    refine v_iload_n (pc := 37) dX6_hourOn_37 rfl rfl ?_
    refine v_aload_nR (pc := 38) dX6_hourOn_38 rfl rfl ?_
    refine v_get (pc := 39) 5 0 fg_X6_55 rfl rfl dX6_hourOn_39 ?_
    refine v_icmp_ge (pc := 42) (tgt := 84) dX6_hourOn_42 (by decide) (fun c42 => ?_) (fun c42 => absurd (nI_le (a := sc) (b := i) (by omega) (by omega)) c42)
    have c42 : sc ≤ i := (nI_leI (a := sc) (b := i) (by omega) (by omega)).mp c42
    refine v_sub ?_ (K hI)
    exact ⟨rfl, rfl, trivial⟩
  | succ m ih =>
    intro i hi
    intro y hI hr
    obtain ⟨hI1, hI2, hI3, hI4, hI5, ⟨hT, hC, hL⟩, hI7, hI8⟩ := id hI
    have hc4 := cN_of (hI1 i (by omega)).2.1
    refine v_iload_n (pc := 37) dX6_hourOn_37 rfl rfl ?_
    refine v_aload_nR (pc := 38) dX6_hourOn_38 rfl rfl ?_
    refine v_get (pc := 39) 5 0 fg_X6_55 rfl rfl dX6_hourOn_39 ?_
    refine v_icmp_ge (pc := 42) (tgt := 84) dX6_hourOn_42 (by decide) (fun c42 => absurd c42 (nI_ge (a := i) (b := sc) (by omega) (by omega))) (fun c42 => ?_)
    have c42 : ¬ sc ≤ i := fun h => c42 ((nI_leI (a := sc) (b := i) (by omega) (by omega)).mpr h)
    refine v_aload_nR (pc := 45) dX6_hourOn_45 rfl rfl ?_
    refine v_iload_n (pc := 46) dX6_hourOn_46 rfl rfl ?_
    refine v_iconst (pc := 47) (v := 2) dX6_hourOn_47 rfl ?_
    refine v_callV2 (pc := 48) (c_X6_sl2 hps hsc hbc (by omega)) cm_X6_sl q874 q876 qs19 (ci := 6) rfl rfl (orcO 0 rfl) [0, 1, 2, 3, 4, 5, 6, 7, 8, 9, 10, 11] (by rfl) (by decide) (fun _ _ h => h) (by decide) (by decide) (by decide) (Nat.le_of_ble_eq_true rfl) dX6_hourOn_48 (fun v48 M48 hQ48 => ?_)
    obtain ⟨rfl, rfl⟩ := hQ48
    try dsimp only [wb, ModelM, List.set_cons_succ, List.set_cons_zero, List.append_nil, List.nil_append, List.cons_append, Option.toList, Nat.sub_zero]
    refine v_iconst (pc := 51) (v := 2) dX6_hourOn_51 rfl ?_
    refine v_icmp_eq (pc := 52) (tgt := 78) dX6_hourOn_52 (by decide) (fun c52 => ?_) (fun c52 => ?_)
    · refine v_iinc (pc := 78) (v := nI (i + 1)) dX6_hourOn_78 rfl (nI_1 _) (by decide) rfl ?_
      refine v_goto (pc := 81) (tgt := 37) dX6_hourOn_81 (by decide) ?_
      have hr2 : skL T C sc bc (n5 - (i + 1)) (i + 1) (skT T C sc bc i y) = r := by
        rw [show n5 - i = (n5 - (i + 1)) + 1 by omega] at hr
        exact hr
      have e : skT T C sc bc i y = y := if_neg (fun h => h.2.1 c52)
      rw [e] at hr2
      exact ih (i + 1) (by omega) y hI hr2
    · refine v_aload_nR (pc := 55) dX6_hourOn_55 rfl rfl ?_
      refine v_aload_nR (pc := 56) dX6_hourOn_56 rfl rfl ?_
      refine v_iload_n (pc := 57) dX6_hourOn_57 rfl rfl ?_
      refine v_iconst (pc := 58) (v := 3) dX6_hourOn_58 rfl ?_
      refine v_callV2 (pc := 59) (c_X6_sl3 hps hsc hbc (by omega)) cm_X6_sl q874 q876 qs19 (ci := 6) rfl rfl (orcO 0 rfl) [0, 1, 2, 3, 4, 5, 6, 7, 8, 9, 10, 11] (by rfl) (by decide) (fun _ _ h => h) (by decide) (by decide) (by decide) (Nat.le_of_ble_eq_true rfl) dX6_hourOn_59 (fun v59 M59 hQ59 => ?_)
      obtain ⟨rfl, rfl⟩ := hQ59
      try dsimp only [wb, ModelM, List.set_cons_succ, List.set_cons_zero, List.append_nil, List.nil_append, List.cons_append, Option.toList, Nat.sub_zero]
      rw [hc4.1]
      refine v_aload_nR (pc := 62) dX6_hourOn_62 rfl rfl ?_
      refine v_iload_n (pc := 63) dX6_hourOn_63 rfl rfl ?_
      refine v_callV1 (pc := 64) (c_X6_weight hps hsc hbc (by omega) (hI4 i (by omega))) cm_X6_weight q927 q929 qs25 (ci := 6) rfl rfl (orcO 0 rfl) [0, 1, 2, 3, 4, 5, 6, 7, 8, 9, 10, 11] (by rfl) (by decide) (fun _ _ h => h) (by decide) (by decide) (by decide) (Nat.le_of_ble_eq_true rfl) dX6_hourOn_64 (fun v64 M64 hQ64 => ?_)
      obtain ⟨rfl, rfl⟩ := hQ64
      try dsimp only [wb, ModelM, List.set_cons_succ, List.set_cons_zero, List.append_nil, List.nil_append, List.cons_append, Option.toList, Nat.sub_zero]
      refine v_callV2 (pc := 67) (c_X6_bearsIt hps hsc hbc hc4.2 (tOK_l hT hc4.2) (cOK01 hC _)) cm_X6_bearsIt q952 q954 qs30 (ci := 6) rfl rfl (orcO 0 rfl) [0, 1, 2, 3, 4, 5, 6, 7, 8, 9, 10, 11] (by rfl) (by decide) (fun _ _ h => h) (by decide) (by decide) (by decide) (Nat.le_of_ble_eq_true rfl) dX6_hourOn_67 (fun v67 M67 hQ67 => ?_)
      obtain ⟨rfl, rfl⟩ := hQ67
      try dsimp only [wb, ModelM, List.set_cons_succ, List.set_cons_zero, List.append_nil, List.nil_append, List.cons_append, Option.toList, Nat.sub_zero]
      refine v_if_ne (pc := 70) (tgt := 78) dX6_hourOn_70 (by decide) (fun c70 => ?_) (fun c70 => ?_)
      · have c70 := bI_n.mp c70
        refine v_iinc (pc := 78) (v := nI (i + 1)) dX6_hourOn_78 rfl (nI_1 _) (by decide) rfl ?_
        refine v_goto (pc := 81) (tgt := 37) dX6_hourOn_81 (by decide) ?_
        have hr2 : skL T C sc bc (n5 - (i + 1)) (i + 1) (skT T C sc bc i y) = r := by
          rw [show n5 - i = (n5 - (i + 1)) + 1 by omega] at hr
          exact hr
        have e : skT T C sc bc i y = y := if_neg (fun h => h.2.2 c70)
        rw [e] at hr2
        exact ih (i + 1) (by omega) y hI hr2
      · have c70 := bI_0.mp c70
        refine v_aload_nR (pc := 73) dX6_hourOn_73 rfl rfl ?_
        refine v_iload_n (pc := 74) dX6_hourOn_74 rfl rfl ?_
        refine v_callV1 (pc := 75) (c_X6_sink hps hsc hbc (by omega)) cm_X6_sink q997 q999 qs37 (ci := 6) rfl rfl (orcO 0 rfl) [0, 1, 2, 3, 4, 5, 6, 7, 8, 9, 10, 11] (by rfl) (by decide) (fun _ _ h => h) (by decide) (by decide) (by decide) (Nat.le_of_ble_eq_true rfl) dX6_hourOn_75 (fun v75 M75 hQ75 => ?_)
        obtain ⟨rfl, rfl⟩ := hQ75
        try dsimp only [wb, ModelM, List.set_cons_succ, List.set_cons_zero, List.append_nil, List.nil_append, List.cons_append, Option.toList, Nat.sub_zero]
        refine v_iinc (pc := 78) (v := nI (i + 1)) dX6_hourOn_78 rfl (nI_1 _) (by decide) rfl ?_
        refine v_goto (pc := 81) (tgt := 37) dX6_hourOn_81 (by decide) ?_
        have hr2 : skL T C sc bc (n5 - (i + 1)) (i + 1) (skT T C sc bc i y) = r := by
          rw [show n5 - i = (n5 - (i + 1)) + 1 by omega] at hr
          exact hr
        have e : skT T C sc bc i y = (skS y.1 i, lsB y.2 bc (nI i) 40) := if_pos ⟨by omega, c52, c70⟩
        rw [e] at hr2
        exact ih (i + 1) (by omega) _ (hI.sk hsc hbc (by omega)) hr2
set_option maxRecDepth 100000 in
set_option maxHeartbeats 4000000 in
theorem lp_X6_h2 {G : Cx} {z : Nat → Nat} {th : Int32} {N O PC T S C : Nat → Int32} {ps sc bc hh : Nat} {SF BF : Nat → Nat → Int32} {MX H W : Nat → Int32} (hps : ps ≤ 8) (hsc : sc ≤ 5) (hbc : bc ≤ 40) {sz : Nat} {n5 : Nat} (h5 : n5 = 5) {Z : ZT} {ch : Int32} {B : Nat} {r : SBC} (K : hIV PC ps sc bc T C ch r.1 r.2.1 MX B → V G Y_X6_hourOn Z 6 0 0 108 [some (.ref (z 0)), some (.int r.2.2), none] [] (ModelM z th N O PC ps sc bc T S C r.1 MX r.2.1 hh H W)) : ∀ (m i : Nat), m + i = sc → ∀ y : SBC, hIV PC ps sc bc T C ch y.1 y.2.1 MX B → mvL PC ps sc bc hh (n5 - i) i y = r → V G Y_X6_hourOn Z 6 0 0 86 [some (.ref (z 0)), some (.int y.2.2), some (.int (nI i))] [] (ModelM z th N O PC ps sc bc T S C y.1 MX y.2.1 hh H W) := by
  intro m
  induction m with
  | zero =>
    intro i hi
    have hi2 : i = sc := by omega
    intro y hI hr
    rw [mvL_stop _ i y (by omega)] at hr
    subst hr
    refine v_iload_n (pc := 86) dX6_hourOn_86 rfl rfl ?_
    refine v_aload_nR (pc := 87) dX6_hourOn_87 rfl rfl ?_
    refine v_get (pc := 88) 5 0 fg_X6_55 rfl rfl dX6_hourOn_88 ?_
    refine v_icmp_ge (pc := 91) (tgt := 108) dX6_hourOn_91 (by decide) (fun c91 => ?_) (fun c91 => absurd (nI_le (a := sc) (b := i) (by omega) (by omega)) c91)
    have c91 : sc ≤ i := (nI_leI (a := sc) (b := i) (by omega) (by omega)).mp c91
    refine v_sub ?_ (K hI)
    exact ⟨rfl, rfl, trivial⟩
  | succ m ih =>
    intro i hi
    intro y hI hr
    obtain ⟨hI1, hI2, hI3, hI4, hI5, ⟨hT, hC, hL⟩, hI7, hI8⟩ := id hI
    refine v_iload_n (pc := 86) dX6_hourOn_86 rfl rfl ?_
    refine v_aload_nR (pc := 87) dX6_hourOn_87 rfl rfl ?_
    refine v_get (pc := 88) 5 0 fg_X6_55 rfl rfl dX6_hourOn_88 ?_
    refine v_icmp_ge (pc := 91) (tgt := 108) dX6_hourOn_91 (by decide) (fun c91 => absurd c91 (nI_ge (a := i) (b := sc) (by omega) (by omega))) (fun c91 => ?_)
    have c91 : ¬ sc ≤ i := fun h => c91 ((nI_leI (a := sc) (b := i) (by omega) (by omega)).mpr h)
    refine v_iload_n (pc := 94) dX6_hourOn_94 rfl rfl ?_
    refine v_aload_nR (pc := 95) dX6_hourOn_95 rfl rfl ?_
    refine v_iload_n (pc := 96) dX6_hourOn_96 rfl rfl ?_
    refine v_callV1 (pc := 97) (c_X6_goOn hps hsc hbc (s := i) (by omega) (fun q => ((hI2 i (by omega)).2.2 q).2.1) (hI7 i (by omega)) (fun q => ((hI2 i (by omega)).2.2 q).1)) cm_X6_goOn q1001 q1003 qs38 (ci := 6) rfl rfl (orcO 0 rfl) [0, 1, 2, 3, 4, 5, 6, 7, 8, 9, 10, 11] (by rfl) (by decide) (fun _ _ h => h) (by decide) (by decide) (by decide) (Nat.le_of_ble_eq_true rfl) dX6_hourOn_97 (fun v97 M97 hQ97 => ?_)
    obtain ⟨rfl, rfl⟩ := hQ97
    try dsimp only [wb, ModelM, List.set_cons_succ, List.set_cons_zero, List.append_nil, List.nil_append, List.cons_append, Option.toList, Nat.sub_zero]
    refine v_iadd (pc := 100) dX6_hourOn_100 ?_
    refine v_istore_n (pc := 101) dX6_hourOn_101 rfl (by decide) rfl ?_
    refine v_iinc (pc := 102) (v := nI (i + 1)) dX6_hourOn_102 rfl (nI_1 _) (by decide) rfl ?_
    refine v_goto (pc := 105) (tgt := 86) dX6_hourOn_105 (by decide) ?_
    have hr2 : mvL PC ps sc bc hh (n5 - (i + 1)) (i + 1) (mvT PC ps sc bc hh i y) = r := by
      rw [show n5 - i = (n5 - (i + 1)) + 1 by omega] at hr
      exact hr
    have e : mvT PC ps sc bc hh i y = ((mvT PC ps sc bc hh i (y.1, y.2.1, 0)).1, (mvT PC ps sc bc hh i (y.1, y.2.1, 0)).2.1, y.2.2 + (mvT PC ps sc bc hh i (y.1, y.2.1, 0)).2.2) := mvT_c (c := y.2.2)
    rw [e] at hr2
    exact ih (i + 1) (by omega) ((mvT PC ps sc bc hh i (y.1, y.2.1, 0)).1, (mvT PC ps sc bc hh i (y.1, y.2.1, 0)).2.1, y.2.2 + (mvT PC ps sc bc hh i (y.1, y.2.1, 0)).2.2) (hI.mv (hh := hh) (n := i) (c := 0) hsc hbc) hr2
set_option maxRecDepth 100000 in
set_option maxHeartbeats 4000000 in
theorem lp_X6_h3 {G : Cx} {z : Nat → Nat} {th : Int32} {N O PC T S C : Nat → Int32} {ps sc bc hh : Nat} {SF BF : Nat → Nat → Int32} {MX H W : Nat → Int32} (hps : ps ≤ 8) (hsc : sc ≤ 5) (hbc : bc ≤ 40) {sz : Nat} {n5 : Nat} (h5 : n5 = 5) {Z : ZT} {q : Int32} {l5 : Value} {B : Nat} (hB : B < 2 ^ 30 - 10) {r : SO} (hPC : ∀ k, k < 8 → 0 ≤ PC k ∧ PC k < 160) (hN : nOK N) (K : ∀ MX H : Nat → Int32, hIV PC ps sc bc T r.2.2.2.2.2.2.1 r.2.2.2.2.2.2.2 r.1 BF MX (B + sc) → V G Y_X6_hourOn Z 6 0 0 129 [some (.ref (z 0)), some (.int q), none] [] (ModelM z th N O PC ps sc bc T r.2.2.2.2.2.1 r.2.2.2.2.2.2.1 r.1 MX BF hh H W)) : ∀ (m i : Nat), m + i = sc → ∀ (y : SO) (MX H : Nat → Int32), hIV PC ps sc bc T y.2.2.2.2.2.2.1 y.2.2.2.2.2.2.2 y.1 BF MX (B + i) → soL l5 T N PC ps sc (n5 - i) i y = r → V G Y_X6_hourOn Z 6 0 0 110 [some (.ref (z 0)), some (.int q), some (.int (nI i))] [] (ModelM z th N O PC ps sc bc T y.2.2.2.2.2.1 y.2.2.2.2.2.2.1 y.1 MX BF hh H W) := by
  intro m
  induction m with
  | zero =>
    intro i hi
    have hi2 : i = sc := by omega
    intro y MX H hI hr
    rw [soL_stop _ i y (by omega)] at hr
    subst hr
    refine v_iload_n (pc := 110) dX6_hourOn_110 rfl rfl ?_
    refine v_aload_nR (pc := 111) dX6_hourOn_111 rfl rfl ?_
    refine v_get (pc := 112) 5 0 fg_X6_55 rfl rfl dX6_hourOn_112 ?_
    refine v_icmp_ge (pc := 115) (tgt := 129) dX6_hourOn_115 (by decide) (fun c115 => ?_) (fun c115 => absurd (nI_le (a := sc) (b := i) (by omega) (by omega)) c115)
    have c115 : sc ≤ i := (nI_leI (a := sc) (b := i) (by omega) (by omega)).mp c115
    refine v_sub ?_ (K MX H (hI.more (by omega)))
    exact ⟨rfl, rfl, trivial⟩
  | succ m ih =>
    intro i hi
    intro y MX H hI hr
    obtain ⟨hI1, hI2, hI3, hI4, hI5, ⟨hT, hC, hL⟩, hI7, hI8⟩ := id hI
    have hc4 := cN_of (hI1 i (by omega)).2.1
    refine v_iload_n (pc := 110) dX6_hourOn_110 rfl rfl ?_
    refine v_aload_nR (pc := 111) dX6_hourOn_111 rfl rfl ?_
    refine v_get (pc := 112) 5 0 fg_X6_55 rfl rfl dX6_hourOn_112 ?_
    refine v_icmp_ge (pc := 115) (tgt := 129) dX6_hourOn_115 (by decide) (fun c115 => absurd c115 (nI_ge (a := i) (b := sc) (by omega) (by omega))) (fun c115 => ?_)
    have c115 : ¬ sc ≤ i := fun h => c115 ((nI_leI (a := sc) (b := i) (by omega) (by omega)).mpr h)
    refine v_aload_nR (pc := 118) dX6_hourOn_118 rfl rfl ?_
    refine v_iload_n (pc := 119) dX6_hourOn_119 rfl rfl ?_
    refine v_callV1 (pc := 120) (c_X6_setOut hps hsc hbc (qs := y.2.1) (lr := y.2.2.1) (l5 := l5) (nd := y.2.2.2.1) (dg := y.2.2.2.2.1) (ch := y.2.2.2.2.2.2.2) (s := i) (by omega) (hI4 i (by omega)) (wt_bd hI4 hI5 hI1 hsc (by omega)) (hI1 i (by omega)).1 hN hT hC hc4.1 hc4.2 (hI7 i (by omega)) (so_h5 hps hPC hI1 hI2 hI3 (by omega))) cm_X6_setOut q1005 q1007 qs39 (ci := 6) rfl rfl (orcO 0 rfl) [0, 1, 2, 3, 4, 5, 6, 7, 8, 9, 10, 11] (by rfl) (by decide) (fun _ _ h => h) (by decide) (by decide) (by decide) (Nat.le_of_ble_eq_true rfl) dX6_hourOn_120 (fun v120 M120 hQ120 => ?_)
    obtain ⟨rfl, MY, h120, rfl, hO120, hM120⟩ := hQ120
    try dsimp only [wb, ModelM, List.set_cons_succ, List.set_cons_zero, List.append_nil, List.nil_append, List.cons_append, Option.toList, Nat.sub_zero]
    refine v_iinc (pc := 123) (v := nI (i + 1)) dX6_hourOn_123 rfl (nI_1 _) (by decide) rfl ?_
    refine v_goto (pc := 126) (tgt := 110) dX6_hourOn_126 (by decide) ?_
    have hr2 : soL l5 T N PC ps sc (n5 - (i + 1)) (i + 1) (soT l5 T N PC ps sc i y) = r := by
      rw [show n5 - i = (n5 - (i + 1)) + 1 by omega] at hr
      exact hr
    exact ih (i + 1) (by omega) _ MY h120 ((hI.so (l5 := l5) (n := i) (by omega) hsc hps hPC hN hO120 hM120).more (by omega)) hr2
set_option maxRecDepth 100000 in
set_option maxHeartbeats 4000000 in
theorem lp_X6_h4 {G : Cx} {z : Nat → Nat} {th : Int32} {N O PC T S C : Nat → Int32} {ps sc bc hh : Nat} {SF BF : Nat → Nat → Int32} {MX H W : Nat → Int32} (hps : ps ≤ 8) (hsc : sc ≤ 5) (hbc : bc ≤ 40) {sz : Nat} {n5 : Nat} (h5 : n5 = 5) {Z : ZT} {ch q : Int32} {B : Nat} {r : Nat → Nat → Int32} (K : hIV PC ps sc bc T C ch r BF MX B → V G Y_X6_hourOn Z 6 0 0 172 [some (.ref (z 0)), some (.int q), none] [] (ModelM z th N O PC ps sc bc T S C r MX BF hh H W)) : ∀ (m i : Nat), m + i = sc → ∀ y : Nat → Nat → Int32, hIV PC ps sc bc T C ch y BF MX B → reL sc (n5 - i) i y = r → V G Y_X6_hourOn Z 6 0 0 131 [some (.ref (z 0)), some (.int q), some (.int (nI i))] [] (ModelM z th N O PC ps sc bc T S C y MX BF hh H W) := by
  intro m
  induction m with
  | zero =>
    intro i hi
    have hi2 : i = sc := by omega
    intro y hI hr
    rw [reL_stop _ i y (by omega)] at hr
    subst hr
    refine v_iload_n (pc := 131) dX6_hourOn_131 rfl rfl ?_
    refine v_aload_nR (pc := 132) dX6_hourOn_132 rfl rfl ?_
    refine v_get (pc := 133) 5 0 fg_X6_55 rfl rfl dX6_hourOn_133 ?_
    refine v_icmp_ge (pc := 136) (tgt := 172) dX6_hourOn_136 (by decide) (fun c136 => ?_) (fun c136 => absurd (nI_le (a := sc) (b := i) (by omega) (by omega)) c136)
    have c136 : sc ≤ i := (nI_leI (a := sc) (b := i) (by omega) (by omega)).mp c136
    refine v_sub ?_ (K hI)
    exact ⟨rfl, rfl, trivial⟩
  | succ m ih =>
    intro i hi
    intro y hI hr
    refine v_iload_n (pc := 131) dX6_hourOn_131 rfl rfl ?_
    refine v_aload_nR (pc := 132) dX6_hourOn_132 rfl rfl ?_
    refine v_get (pc := 133) 5 0 fg_X6_55 rfl rfl dX6_hourOn_133 ?_
    refine v_icmp_ge (pc := 136) (tgt := 172) dX6_hourOn_136 (by decide) (fun c136 => absurd c136 (nI_ge (a := i) (b := sc) (by omega) (by omega))) (fun c136 => ?_)
    have c136 : ¬ sc ≤ i := fun h => c136 ((nI_leI (a := sc) (b := i) (by omega) (by omega)).mpr h)
    refine v_aload_nR (pc := 139) dX6_hourOn_139 rfl rfl ?_
    refine v_iload_n (pc := 140) dX6_hourOn_140 rfl rfl ?_
    refine v_iconst (pc := 141) (v := 2) dX6_hourOn_141 rfl ?_
    refine v_callV2 (pc := 142) (c_X6_sl2 hps hsc hbc (by omega)) cm_X6_sl q874 q876 qs19 (ci := 6) rfl rfl (orcO 0 rfl) [0, 1, 2, 3, 4, 5, 6, 7, 8, 9, 10, 11] (by rfl) (by decide) (fun _ _ h => h) (by decide) (by decide) (by decide) (Nat.le_of_ble_eq_true rfl) dX6_hourOn_142 (fun v142 M142 hQ142 => ?_)
    obtain ⟨rfl, rfl⟩ := hQ142
    try dsimp only [wb, ModelM, List.set_cons_succ, List.set_cons_zero, List.append_nil, List.nil_append, List.cons_append, Option.toList, Nat.sub_zero]
    refine v_if_ne (pc := 145) (tgt := 166) dX6_hourOn_145 (by decide) (fun c145 => ?_) (fun c145 => ?_)
    · refine v_iinc (pc := 166) (v := nI (i + 1)) dX6_hourOn_166 rfl (nI_1 _) (by decide) rfl ?_
      refine v_goto (pc := 169) (tgt := 131) dX6_hourOn_169 (by decide) ?_
      have hr2 : reL sc (n5 - (i + 1)) (i + 1) (reT sc i y) = r := by
        rw [show n5 - i = (n5 - (i + 1)) + 1 by omega] at hr
        exact hr
      have e : reT sc i y = y := if_neg (fun h => c145 h.2)
      rw [e] at hr2
      exact ih (i + 1) (by omega) y hI hr2
    · refine v_aload_nR (pc := 148) dX6_hourOn_148 rfl rfl ?_
      refine v_iload_n (pc := 149) dX6_hourOn_149 rfl rfl ?_
      refine v_iconst (pc := 150) (v := 1) dX6_hourOn_150 rfl ?_
      refine v_iconst (pc := 151) (v := 0) dX6_hourOn_151 rfl ?_
      refine v_aload_nR (pc := 152) dX6_hourOn_152 rfl rfl ?_
      refine v_iload_n (pc := 153) dX6_hourOn_153 rfl rfl ?_
      refine v_iconst (pc := 154) (v := 1) dX6_hourOn_154 rfl ?_
      refine v_callV2 (pc := 155) (c_X6_sl1 hps hsc hbc (by omega)) cm_X6_sl q874 q876 qs19 (ci := 6) rfl rfl (orcO 0 rfl) [0, 1, 2, 3, 4, 5, 6, 7, 8, 9, 10, 11] (by rfl) (by decide) (fun _ _ h => h) (by decide) (by decide) (by decide) (Nat.le_of_ble_eq_true rfl) dX6_hourOn_155 (fun v155 M155 hQ155 => ?_)
      obtain ⟨rfl, rfl⟩ := hQ155
      try dsimp only [wb, ModelM, List.set_cons_succ, List.set_cons_zero, List.append_nil, List.nil_append, List.cons_append, Option.toList, Nat.sub_zero]
      refine v_iconst (pc := 158) (v := 2) dX6_hourOn_158 rfl ?_
      refine v_isub (pc := 159) dX6_hourOn_159 ?_
      refine v_mmax (pc := 160) q992 q221 q16 q222 (by decide) (Nat.le_of_ble_eq_true rfl) dX6_hourOn_160 ?_
      refine v_callV3 (pc := 163) (c_X6_set1 hps hsc hbc (by omega)) cm_X6_set q939 q941 qs27 (ci := 6) rfl rfl (orcO 0 rfl) [0, 1, 2, 3, 4, 5, 6, 7, 8, 9, 10, 11] (by rfl) (by decide) (fun _ _ h => h) (by decide) (by decide) (by decide) (Nat.le_of_ble_eq_true rfl) dX6_hourOn_163 (fun v163 M163 hQ163 => ?_)
      obtain ⟨rfl, rfl⟩ := hQ163
      try dsimp only [wb, ModelM, List.set_cons_succ, List.set_cons_zero, List.append_nil, List.nil_append, List.cons_append, Option.toList, Nat.sub_zero]
      refine v_iinc (pc := 166) (v := nI (i + 1)) dX6_hourOn_166 rfl (nI_1 _) (by decide) rfl ?_
      refine v_goto (pc := 169) (tgt := 131) dX6_hourOn_169 (by decide) ?_
      have hr2 : reL sc (n5 - (i + 1)) (i + 1) (reT sc i y) = r := by
        rw [show n5 - i = (n5 - (i + 1)) + 1 by omega] at hr
        exact hr
      have hI9 := hI.re (n := i)
      have e : reT sc i y = upS y i 2 (if 0 < y i 2 - 2 then y i 2 - 2 else 0) := if_pos ⟨by omega, c145⟩
      rw [e] at hr2 hI9
      exact ih (i + 1) (by omega) _ hI9 hr2
set_option maxRecDepth 100000 in
set_option maxHeartbeats 4000000 in
theorem lp_X6_h35 {G : Cx} {z : Nat → Nat} {th : Int32} {N O PC : Nat → Int32} {ps sc bc hh : Nat} {MX H W : Nat → Int32} (hps : ps ≤ 8) (hsc : sc ≤ 5) (hbc : bc ≤ 40) {n5 : Nat} (h5 : n5 = 5) {sz B : Nat} {M0 : List ME} (hM0 : M0.length = 12) (hB : B < 2 ^ 30 - 10) {l5 : Value} {x : HW} (hPC : ∀ k, k < 8 → 0 ≤ PC k ∧ PC k < 160) (hN : nOK N) (hI : hIV PC ps sc bc x.2.2.1 x.2.2.2.2.2.2.2.2.2.1 x.2.2.2.2.2.2.2.2.2.2 x.1 x.2.1 MX B) : V G Y_X6_hourOn (ZM G M0 sz (fun v M' => v = some (.int (hrV n5 PC ps sc bc hh (hrB n5 sc bc x))) ∧ ∃ MX' H' W' : Nat → Int32, M' = ModelM z th N O PC ps sc bc (hrR n5 sc (hrE n5 l5 N PC ps sc (hrC n5 PC ps sc bc hh (hrB n5 sc bc x)))).2.2.1 (hrR n5 sc (hrE n5 l5 N PC ps sc (hrC n5 PC ps sc bc hh (hrB n5 sc bc x)))).2.2.2.2.2.2.2.2.1 (hrR n5 sc (hrE n5 l5 N PC ps sc (hrC n5 PC ps sc bc hh (hrB n5 sc bc x)))).2.2.2.2.2.2.2.2.2.1 (hrR n5 sc (hrE n5 l5 N PC ps sc (hrC n5 PC ps sc bc hh (hrB n5 sc bc x)))).1 MX' (hrR n5 sc (hrE n5 l5 N PC ps sc (hrC n5 PC ps sc bc hh (hrB n5 sc bc x)))).2.1 (hh + 1) H' W' ∧ hIV PC ps sc bc (hrR n5 sc (hrE n5 l5 N PC ps sc (hrC n5 PC ps sc bc hh (hrB n5 sc bc x)))).2.2.1 (hrR n5 sc (hrE n5 l5 N PC ps sc (hrC n5 PC ps sc bc hh (hrB n5 sc bc x)))).2.2.2.2.2.2.2.2.2.1 (hrR n5 sc (hrE n5 l5 N PC ps sc (hrC n5 PC ps sc bc hh (hrB n5 sc bc x)))).2.2.2.2.2.2.2.2.2.2 (hrR n5 sc (hrE n5 l5 N PC ps sc (hrC n5 PC ps sc bc hh (hrB n5 sc bc x)))).1 (hrR n5 sc (hrE n5 l5 N PC ps sc (hrC n5 PC ps sc bc hh (hrB n5 sc bc x)))).2.1 MX' (B + sc)) noX) 6 0 0 35 [some (.ref (z 0)), some (.int 0), none] [] (ModelM z th N O PC ps sc bc x.2.2.1 x.2.2.2.2.2.2.2.2.1 x.2.2.2.2.2.2.2.2.2.1 x.1 MX x.2.1 hh H W) := by
  obtain ⟨b1, hb1⟩ : ∃ b1, skL x.2.2.1 x.2.2.2.2.2.2.2.2.2.1 sc bc (n5 - 0) 0 (x.1, x.2.1) = b1 := ⟨_, rfl⟩
  obtain ⟨c2, hc2⟩ : ∃ c2, mvL PC ps sc bc hh (n5 - 0) 0 (b1.1, b1.2, 0) = c2 := ⟨_, rfl⟩
  obtain ⟨c3, hc3⟩ : ∃ c3, soL l5 x.2.2.1 N PC ps sc (n5 - 0) 0 (c2.1, x.2.2.2.2) = c3 := ⟨_, rfl⟩
  have eb : hrB n5 sc bc x = (b1.1, b1.2, x.2.2) := by rw [← hb1]; rfl
  have ec : hrC n5 PC ps sc bc hh (b1.1, b1.2, x.2.2) = (c2.1, c2.2.1, x.2.2) := by rw [← hc2]; rfl
  have ev : hrV n5 PC ps sc bc hh (b1.1, b1.2, x.2.2) = c2.2.2 := by rw [← hc2]; rfl
  have ee : hrE n5 l5 N PC ps sc (c2.1, c2.2.1, x.2.2) = (c3.1, c2.2.1, x.2.2.1, x.2.2.2.1, c3.2) := by rw [← hc3]; rfl
  rw [eb, ec, ev, ee]
  refine v_iconst (pc := 35) (v := 0) dX6_hourOn_35 rfl ?_
  refine v_istore_n (pc := 36) dX6_hourOn_36 rfl (by decide) rfl ?_
  refine v_sub (L' := [some (.ref (z 0)), some (.int 0), some (.int (nI 0))]) ⟨rfl, rfl, rfl, trivial⟩ ?_
  refine lp_X6_h1 (sz := 0) (SF := x.1) (BF := x.2.1) hps hsc hbc h5 (r := b1) (fun hI1 => ?_) sc 0 (by omega) (x.1, x.2.1) hI hb1
  refine v_iconst (pc := 84) (v := 0) dX6_hourOn_84 rfl ?_
  refine v_istore_n (pc := 85) dX6_hourOn_85 rfl (by decide) rfl ?_
  refine v_sub (L' := [some (.ref (z 0)), some (.int 0), some (.int (nI 0))]) ⟨rfl, rfl, rfl, trivial⟩ ?_
  refine lp_X6_h2 (sz := 0) (SF := x.1) (BF := x.2.1) hps hsc hbc h5 (r := c2) (fun hI2 => ?_) sc 0 (by omega) (b1.1, b1.2, 0) hI1 hc2
  refine v_iconst (pc := 108) (v := 0) dX6_hourOn_108 rfl ?_
  refine v_istore_n (pc := 109) dX6_hourOn_109 rfl (by decide) rfl ?_
  refine v_sub (L' := [some (.ref (z 0)), some (.int c2.2.2), some (.int (nI 0))]) ⟨rfl, rfl, rfl, trivial⟩ ?_
  refine lp_X6_h3 (sz := 0) (S := x.2.2.1) (C := x.2.2.1) (SF := x.1) (MX := MX) (H := H) hps hsc hbc h5 (l5 := l5) (B := B) hB (r := c3) hPC hN (fun MX3 H3 hI3 => ?_) sc 0 (by omega) (c2.1, x.2.2.2.2) MX H (hI2.more (by omega)) hc3
  refine v_iconst (pc := 129) (v := 0) dX6_hourOn_129 rfl ?_
  refine v_istore_n (pc := 130) dX6_hourOn_130 rfl (by decide) rfl ?_
  refine v_sub (L' := [some (.ref (z 0)), some (.int c2.2.2), some (.int (nI 0))]) ⟨rfl, rfl, rfl, trivial⟩ ?_
  refine lp_X6_h4 (sz := 0) (SF := x.1) hps hsc hbc h5 (r := reL sc n5 0 c3.1) (fun hI4 => ?_) sc 0 (by omega) c3.1 hI3 rfl
  refine v_aload_nR (pc := 172) dX6_hourOn_172 rfl rfl ?_
  refine v_get (pc := 173) 12 0 fg_X6_34 rfl rfl dX6_hourOn_173 ?_
  refine v_iconst (pc := 176) (v := 0) dX6_hourOn_176 rfl ?_
  refine v_dup2 (pc := 177) dX6_hourOn_177 rfl rfl ?_
  refine v_ialdN (pc := 178) 9 (k := 0) rfl (by omega) (by decide) dX6_hourOn_178 ?_
  refine v_iconst (pc := 179) (v := 1) dX6_hourOn_179 rfl ?_
  refine v_iadd (pc := 180) dX6_hourOn_180 ?_
  refine v_iastN (pc := 181) 9 (k := 0) rfl (by omega) (by decide) dX6_hourOn_181 ?_
  try dsimp only [wb, ModelM, List.set_cons_succ, List.set_cons_zero, List.append_nil, List.nil_append, List.cons_append, Option.toList, Nat.sub_zero]
  refine v_cgI 9 (g := fun _ => nI (hh + 1)) rfl hour_up ?_
  try dsimp only [wb, ModelM, List.set_cons_succ, List.set_cons_zero, List.append_nil, List.nil_append, List.cons_append, Option.toList, Nat.sub_zero]
  refine v_iload_n (pc := 182) dX6_hourOn_182 rfl rfl ?_
  refine v_iret (pc := 183) rfl rfl (by rw [hM0]; exact Nat.le_of_ble_eq_true rfl) dX6_hourOn_183 ?_
  exact ⟨rfl, MX3, H3, W, rfl, hI4⟩
set_option maxRecDepth 100000 in
set_option maxHeartbeats 4000000 in
theorem c_X6_hourOn {G : Cx} {z : Nat → Nat} {th : Int32} {N O PC T S C : Nat → Int32} {ps sc bc hh : Nat} {SF BF : Nat → Nat → Int32} {MX H W : Nat → Int32} (hps : ps ≤ 8) (hsc : sc ≤ 5) (hbc : bc ≤ 40) {n5 : Nat} (h5 : n5 = 5) {Bk : Nat → Int32} {qs : QS} {lr l5 : Value} {nd dg ch : Int32} {B : Nat} (hB : B < 2 ^ 30 - 20) (hhh : hh < 2 ^ 31 - 1) (hPC : ∀ k, k < 8 → 0 ≤ PC k ∧ PC k < 160) (hN : nOK N) (hO : oOK O) (hI : hIV PC ps sc bc T C ch SF BF MX B) : Mt G Y_X6_hourOn 6 0 0 [.ref (z 0)] (ModelM z th N O PC ps sc bc T S C SF MX BF hh H W) (fun v M' => v = some (.int (hrV n5 PC ps sc bc hh (hrB n5 sc bc (hrA O hh (SF, BF, T, Bk, qs, lr, nd, dg, S, C, ch))))) ∧ ∃ MX' H' W' : Nat → Int32, M' = ModelM z th N O PC ps sc bc (hrR n5 sc (hrE n5 l5 N PC ps sc (hrC n5 PC ps sc bc hh (hrB n5 sc bc (hrA O hh (SF, BF, T, Bk, qs, lr, nd, dg, S, C, ch)))))).2.2.1 (hrR n5 sc (hrE n5 l5 N PC ps sc (hrC n5 PC ps sc bc hh (hrB n5 sc bc (hrA O hh (SF, BF, T, Bk, qs, lr, nd, dg, S, C, ch)))))).2.2.2.2.2.2.2.2.1 (hrR n5 sc (hrE n5 l5 N PC ps sc (hrC n5 PC ps sc bc hh (hrB n5 sc bc (hrA O hh (SF, BF, T, Bk, qs, lr, nd, dg, S, C, ch)))))).2.2.2.2.2.2.2.2.2.1 (hrR n5 sc (hrE n5 l5 N PC ps sc (hrC n5 PC ps sc bc hh (hrB n5 sc bc (hrA O hh (SF, BF, T, Bk, qs, lr, nd, dg, S, C, ch)))))).1 MX' (hrR n5 sc (hrE n5 l5 N PC ps sc (hrC n5 PC ps sc bc hh (hrB n5 sc bc (hrA O hh (SF, BF, T, Bk, qs, lr, nd, dg, S, C, ch)))))).2.1 (hh + 1) H' W' ∧ hIV PC ps sc bc (hrR n5 sc (hrE n5 l5 N PC ps sc (hrC n5 PC ps sc bc hh (hrB n5 sc bc (hrA O hh (SF, BF, T, Bk, qs, lr, nd, dg, S, C, ch)))))).2.2.1 (hrR n5 sc (hrE n5 l5 N PC ps sc (hrC n5 PC ps sc bc hh (hrB n5 sc bc (hrA O hh (SF, BF, T, Bk, qs, lr, nd, dg, S, C, ch)))))).2.2.2.2.2.2.2.2.2.1 (hrR n5 sc (hrE n5 l5 N PC ps sc (hrC n5 PC ps sc bc hh (hrB n5 sc bc (hrA O hh (SF, BF, T, Bk, qs, lr, nd, dg, S, C, ch)))))).2.2.2.2.2.2.2.2.2.2 (hrR n5 sc (hrE n5 l5 N PC ps sc (hrC n5 PC ps sc bc hh (hrB n5 sc bc (hrA O hh (SF, BF, T, Bk, qs, lr, nd, dg, S, C, ch)))))).1 (hrR n5 sc (hrE n5 l5 N PC ps sc (hrC n5 PC ps sc bc hh (hrB n5 sc bc (hrA O hh (SF, BF, T, Bk, qs, lr, nd, dg, S, C, ch)))))).2.1 MX' (B + 1 + sc)) noX := by
  refine Mt.of (L := [some (.ref (z 0)), none, none]) rfl (by decide) (by simp [lg_sl, Value.category]) ⟨rfl, trivial⟩ (fun sz => ?_)
  have hT : tOK T := hI.2.2.2.2.2.1.1
  have hC : cOK C := hI.2.2.2.2.2.1.2.1
  have hhh : hh < 2 ^ 31 := by omega
  refine v_iconst (pc := 0) (v := 0) dX6_hourOn_0 rfl ?_
  refine v_istore_n (pc := 1) dX6_hourOn_1 rfl (by decide) rfl ?_
  refine v_aload_nR (pc := 2) dX6_hourOn_2 rfl rfl ?_
  refine v_get (pc := 3) 12 0 fg_X6_34 rfl rfl dX6_hourOn_3 ?_
  refine v_iconst (pc := 6) (v := 0) dX6_hourOn_6 rfl ?_
  refine v_ialdN (pc := 7) 9 (k := 0) rfl (by omega) (by decide) dX6_hourOn_7 ?_
  refine v_bipush (pc := 8) (v := 24) dX6_hourOn_8 rfl ?_
  refine v_irem (pc := 10) dX6_hourOn_10 (by decide) ?_
  rw [show nI hh - nI hh / 24 * 24 = nI (hh % 24) from pk_rem (d := 24) hhh (by decide) (by decide)]
  refine v_if_ne (pc := 11) (tgt := 35) dX6_hourOn_11 (by decide) (fun c11 => ?_) (fun c11 => ?_)
  · have c11 : ¬ (hh % 24) = 0 := fun h => c11 ((nI_eq (a := (hh % 24)) (b := 0) (by omega) (by omega)).mpr h)
    have eA : hrA O hh (SF, BF, T, Bk, qs, lr, nd, dg, S, C, ch) = (SF, BF, T, Bk, qs, lr, nd, dg, S, C, ch) := if_neg c11
    rw [eA]
    refine v_sub ?_ (lp_X6_h35 (x := (SF, BF, T, Bk, qs, lr, nd, dg, S, C, ch)) (B := B + 1) (H := H) (W := W) hps hsc hbc h5 rfl (by omega) hPC hN (hI.more (by omega)))
    exact ⟨rfl, rfl, trivial⟩
  · have c11 : (hh % 24) = 0 := (nI_eq (a := (hh % 24)) (b := 0) (by omega) (by omega)).mp c11
    refine v_aload_nR (pc := 14) dX6_hourOn_14 rfl rfl ?_
    refine v_aload_nR (pc := 15) dX6_hourOn_15 rfl rfl ?_
    refine v_get (pc := 16) 2 0 fg_X6_13 rfl rfl dX6_hourOn_16 ?_
    refine v_aload_nR (pc := 19) dX6_hourOn_19 rfl rfl ?_
    refine v_get (pc := 20) 12 0 fg_X6_34 rfl rfl dX6_hourOn_20 ?_
    refine v_iconst (pc := 23) (v := 0) dX6_hourOn_23 rfl ?_
    refine v_ialdN (pc := 24) 9 (k := 0) rfl (by omega) (by decide) dX6_hourOn_24 ?_
    refine v_bipush (pc := 25) (v := 24) dX6_hourOn_25 rfl ?_
    refine v_idiv (pc := 27) dX6_hourOn_27 (by decide) ?_
    rw [show nI hh / 24 = nI (hh / 24) from pk_div (d := 24) hhh (by decide) (by decide)]
    refine v_bipush (pc := 28) (v := 8) dX6_hourOn_28 rfl ?_
    refine v_irem (pc := 30) dX6_hourOn_30 (by decide) ?_
    rw [show nI (hh / 24) - nI (hh / 24) / 8 * 8 = nI (hh / 24 % 8) from pk_rem (d := 8) (by omega) (by decide) (by decide)]
    refine v_ialdN (pc := 31) 2 (k := (hh / 24 % 8)) rfl (by omega) (by decide) dX6_hourOn_31 ?_
    refine v_callV1 (pc := 32) (c_X6_frost hps hsc hbc hT hC) cm_X6_frost q987 q989 qs35 (ci := 6) rfl rfl (orcO 0 rfl) [0, 1, 2, 3, 4, 5, 6, 7, 8, 9, 10, 11] (by rfl) (by decide) (fun _ _ h => h) (by decide) (by decide) (by decide) (Nat.le_of_ble_eq_true rfl) dX6_hourOn_32 (fun v32 M32 hQ32 => ?_)
    obtain ⟨rfl, rfl⟩ := hQ32
    try dsimp only [wb, ModelM, List.set_cons_succ, List.set_cons_zero, List.append_nil, List.nil_append, List.cons_append, Option.toList, Nat.sub_zero]
    have eA : hrA O hh (SF, BF, T, Bk, qs, lr, nd, dg, S, C, ch) = (SF, BF, dT (O (hh / 24 % 8)) T, dB (O (hh / 24 % 8)) C Bk, qs, lr, nd, dg, dS (O (hh / 24 % 8)) T S, dC (O (hh / 24 % 8)) T S C, dH (O (hh / 24 % 8)) ch) := if_pos c11
    rw [eA]
    refine v_sub ?_ (lp_X6_h35 (x := (SF, BF, dT (O (hh / 24 % 8)) T, dB (O (hh / 24 % 8)) C Bk, qs, lr, nd, dg, dS (O (hh / 24 % 8)) T S, dC (O (hh / 24 % 8)) T S C, dH (O (hh / 24 % 8)) ch)) (B := B + 1) (H := H) (W := (fillU (fun j => bI (C j = 1)) W 160)) hps hsc hbc h5 rfl (by omega) hPC hN (hI.frost (S := S) hsc (by omega) (hO _ (Nat.mod_lt _ (by decide)))))
    exact ⟨rfl, rfl, trivial⟩
