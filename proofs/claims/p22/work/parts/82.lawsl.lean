/-! the law: what became of each sleigh -/
theorem dif_c {a b : Nat} : dif a b = dif b a := by unfold dif; split <;> split <;> omega
theorem adj_irr {c : Nat} (hc : c < 160) : ¬ adj c c = true := fun h => by
  have h1 := (adj_iff hc hc).mp h
  unfold dif at h1
  split at h1 <;> split at h1 <;> omega
theorem tDn_min {t : Int32} (h : 0 ≤ t.toInt ∧ t.toInt ≤ 100) : tDn t = t - (if t < 2 then t else 2) := by
  unfold tDn
  have e : (t - 2).toInt = t.toInt - 2 := by rw [fb_subI (by rw [e2i]; omega) (by rw [e2i]; omega), e2i]
  by_cases h1 : t < 2
  · rw [if_pos h1, if_neg (fun q => by rw [i_lt, e, i_0] at q; rw [i_lt, e2i] at h1; omega)]
    exact (Int32.sub_self t).symm
  · rw [if_neg h1]
    by_cases h2 : 0 < t - 2
    · rw [if_pos h2]
    · rw [if_neg h2]
      refine Int32.toInt_inj.mp ?_
      rw [i_lt, e2i] at h1
      rw [i_lt, e, i_0] at h2
      rw [e, i_0]
      omega
theorem lf_no {SF0 SF : Nat → Nat → Int32} {LF : Nat → Int32} {i : Nat} (h : ¬ (¬ SF0 i 3 = 2 ∧ ¬ SF i 3 = 2 ∧ ¬ 1 < SF0 i 7 ∧ 0 < SF i 7)) (hL : ∀ c, c < 160 → LF c = nI (fb_ct (lfB SF0 SF c) i)) : ∀ c, c < 160 → LF c = nI (fb_ct (lfB SF0 SF c) (i + 1)) := fun c hc => by
  rw [fb_ct_succ, hL c hc]
  have e : lfB SF0 SF c i = false := decide_eq_false (fun q => h ⟨q.1, q.2.1, q.2.2.1, q.2.2.2.1⟩)
  rw [e]
  rfl
theorem lf_yes {SF0 SF : Nat → Nat → Int32} {LF : Nat → Int32} {i c4 : Nat} (h : ¬ SF0 i 3 = 2 ∧ ¬ SF i 3 = 2 ∧ ¬ 1 < SF0 i 7 ∧ 0 < SF i 7) (h4 : cN (SF i 4) = c4) (hc4 : c4 < 160) (hL : ∀ c, c < 160 → LF c = nI (fb_ct (lfB SF0 SF c) i)) : ∀ c, c < 160 → upd LF c4 (LF c4 + 1) c = nI (fb_ct (lfB SF0 SF c) (i + 1)) := fun c hc => by
  rw [fb_ct_succ]
  by_cases e : c = c4
  · have e1 : lfB SF0 SF c i = true := decide_eq_true ⟨h.1, h.2.1, h.2.2.1, h.2.2.2, h4.trans e.symm⟩
    rw [e1, if_pos rfl, e, pk_us, hL c4 hc4]
    exact nI_add _ 1
  · have e1 : lfB SF0 SF c i = false := decide_eq_false (fun q => e (q.2.2.2.2.symm.trans h4))
    rw [e1, pk_un e, hL c hc]
    rfl
set_option maxRecDepth 100000 in
set_option maxHeartbeats 4000000 in
theorem lw_s380 {G : Cx} {nm : String} {hd9 : List (Nat × Nat × Nat × Nat)} {Z : ZT} {ck sk : Nat} {g0 : Nat} {w u v xs bs : Nat → Nat} {a b f : Nat → Int32} {wa : Int32} {lr : Value} {nd dg : Int32} {T N S C B O : Nat → Int32} {ch : Int32} {PC : Nat → Int32} {SF BF : Nat → Nat → Int32} {ps sc bc hh : Nat} {a2 b2 f2 : Nat → Int32} {wa2 : Int32} {lr2 : Value} {nd2 dg2 : Int32} {T2 N2 S2 C2 B2 O2 : Nat → Int32} {ch2 : Int32} {PC2 : Nat → Int32} {SF2 BF2 : Nat → Nat → Int32} {ps2 sc2 hh2 : Nat} {MX H D : Nat → Int32} (hps : ps ≤ 8) (hsc : sc ≤ 5) (hbc : bc ≤ 40) {T0 S0 C0 : Nat → Int32} {ch0 : Int32} {SF0 BF0 : Nat → Nat → Int32} {MX0 : Nat → Int32} {B0 B1 t0 : Nat} {r7 r8 r9 : Nat → Nat} {a7 a8 a9 a15 wo : Nat} {sn cm cd im : Int32} {m i c4 : Nat} {LF : Nat → Int32} (hI : LI N O PC ps sc bc T S C ch SF BF MX B0) (hI0 : LI N O PC ps sc bc T0 S0 C0 ch0 SF0 BF0 MX0 B1) (fS : ∀ i, i < sc → slF T C SF0 SF i) (fK : ∀ i, i < sc → SF i 3 = 2 → sumN (bgF BF bc (nI i)) 40 = 0) (hi : i < sc) (hc4 : c4 < 160) (e4 : SF i 4 = nI c4) (hL : (∀ c, c < 160 → LF c = nI (fb_ct (lfB SF0 SF c) i)))
    (ihK : ∀ LF : Nat → Int32, (∀ c, c < 160 → LF c = nI (fb_ct (lfB SF0 SF c) (i + 1))) → V G (YL nm hd9) Z 9 (ck + 20 * m) (sk + 120 * m) 330 [some (.ref G.2.2.2.1), some (.ref g0), some (.ref (v 0)), some (.int (nI sc)), some (.int (nI bc)), some (.int (nI t0)), none, some (.ref a7), some (.ref a8), some (.ref a9), some (.int (nI wo)), some (.int sn), some (.int cm), some (.int cd), some (.int im), some (.ref a15), some (.int 0), some (.int (nI (i + 1))), none, none, none, none, none, none, none, none] [] (LawM g0 w u v xs bs a b f wa lr nd dg T N S C B O ch PC SF BF ps sc bc hh a2 b2 f2 wa2 lr2 nd2 dg2 T2 N2 S2 C2 B2 O2 ch2 PC2 SF2 BF2 ps2 sc2 hh2 MX H D ++ [eQ 5 a7 160 (fun j => some (r7 j)), eG r7 160 4 (tlC T0 N S0 C0 PC SF0 ps sc), eQ 5 a8 sc (fun j => some (r8 j)), eG r8 sc 9 (tlS SF0 BF0 bc), eQ 5 a9 bc (fun j => some (r9 j)), eG r9 bc 5 BF0, eI a15 160 LF])) : V G (YL nm hd9) Z 9 (ck + 20 * m + 17) (sk + 120 * m + 100) 380 [some (.ref G.2.2.2.1), some (.ref g0), some (.ref (v 0)), some (.int (nI sc)), some (.int (nI bc)), some (.int (nI t0)), none, some (.ref a7), some (.ref a8), some (.ref a9), some (.int (nI wo)), some (.int sn), some (.int cm), some (.int cd), some (.int im), some (.ref a15), some (.int 0), some (.int (nI i)), some (.int (SF i 3)), some (.int (nI c4)), none, none, none, none, none, none] [] (LawM g0 w u v xs bs a b f wa lr nd dg T N S C B O ch PC SF BF ps sc bc hh a2 b2 f2 wa2 lr2 nd2 dg2 T2 N2 S2 C2 B2 O2 ch2 PC2 SF2 BF2 ps2 sc2 hh2 MX H D ++ [eQ 5 a7 160 (fun j => some (r7 j)), eG r7 160 4 (tlC T0 N S0 C0 PC SF0 ps sc), eQ 5 a8 sc (fun j => some (r8 j)), eG r8 sc 9 (tlS SF0 BF0 bc), eQ 5 a9 bc (fun j => some (r9 j)), eG r9 bc 5 BF0, eI a15 160 LF]) := by
  obtain ⟨f0, f2, f3, f4, f5⟩ := fS i hi
  have h04 := (hI0.1.2.2.2.1.1 i hi).2.1
  obtain ⟨c0, hc0, e04⟩ : ∃ c0, c0 < 160 ∧ SF0 i 4 = nI c0 := ⟨_, (cN_of h04).2, (cN_of h04).1⟩
  have ht0 := hI0.2.1.1 i hi
  refine v_aload_nR (pc := 380) dL_law_380 rfl rfl ?_
  refine v_iload (pc := 381) dL_law_381 rfl ?_
  refine v_iconst (pc := 383) (v := 0) dL_law_383 rfl ?_
  refine v_callV2 (pc := 384) (c7_sleigh hps hsc hbc (s := i) (q := 0) hi (by decide)) cm_X5_sleigh q323 q324 q325 (ci := 5) rfl rfl (orcO 0 rfl) [0, 1, 2, 3, 4, 5, 6, 7, 8, 9, 10, 11, 12, 13, 14, 15, 16, 17] (by rfl) (by decide) (fun _ _ h => h) (by omega) (by omega) (by decide) (Nat.le_of_ble_eq_true rfl) dL_law_384 (fun v384 M384 hQ384 => ?_)
  obtain ⟨rfl, rfl⟩ := hQ384
  try dsimp only [wb, tlS_0, tlS_1, tlS_2, tlS_3, tlS_4, tlS_5, tlS_6, tlS_7, tlS_8, tlC_0, tlC_1, tlC_2, tlC_3, LawM, LakeM, WaysM, WorldM, SimM, List.set_cons_succ, List.set_cons_zero, List.append_nil, List.nil_append, List.cons_append, Option.toList, Nat.sub_zero]
  refine v_aloadR (pc := 387) dL_law_387 rfl ?_
  refine v_iload (pc := 389) dL_law_389 rfl ?_
  refine v_aaldS (pc := 391) 50 (k := i) (by decide) rfl (by omega) (by omega) dL_law_391 ?_
  refine v_iconst (pc := 392) (v := 0) dL_law_392 rfl ?_
  refine v_ialdGN (pc := 393) 51 (j := 0) rfl (by omega) (by decide) (by decide) dL_law_393 ?_
  try dsimp only [wb, tlS_0, tlS_1, tlS_2, tlS_3, tlS_4, tlS_5, tlS_6, tlS_7, tlS_8, tlC_0, tlC_1, tlC_2, tlC_3, LawM, LakeM, WaysM, WorldM, SimM, List.set_cons_succ, List.set_cons_zero, List.append_nil, List.nil_append, List.cons_append, Option.toList, Nat.sub_zero]
  refine v_icmp_ne (pc := 394) (tgt := 443) dL_law_394 (by decide) (fun c394 => absurd f0 c394) (fun c394 => ?_)
  refine v_aload_nR (pc := 397) dL_law_397 rfl rfl ?_
  refine v_iload (pc := 398) dL_law_398 rfl ?_
  refine v_bipush (pc := 400) (v := 7) dL_law_400 rfl ?_
  refine v_callV2 (pc := 402) (c7_sleigh hps hsc hbc (s := i) (q := 7) hi (by decide)) cm_X5_sleigh q323 q324 q325 (ci := 5) rfl rfl (orcO 0 rfl) [0, 1, 2, 3, 4, 5, 6, 7, 8, 9, 10, 11, 12, 13, 14, 15, 16, 17] (by rfl) (by decide) (fun _ _ h => h) (by omega) (by omega) (by decide) (Nat.le_of_ble_eq_true rfl) dL_law_402 (fun v402 M402 hQ402 => ?_)
  obtain ⟨rfl, rfl⟩ := hQ402
  try dsimp only [wb, tlS_0, tlS_1, tlS_2, tlS_3, tlS_4, tlS_5, tlS_6, tlS_7, tlS_8, tlC_0, tlC_1, tlC_2, tlC_3, LawM, LakeM, WaysM, WorldM, SimM, List.set_cons_succ, List.set_cons_zero, List.append_nil, List.nil_append, List.cons_append, Option.toList, Nat.sub_zero]
  refine v_bipush (pc := 405) (v := 8) dL_law_405 rfl ?_
  refine v_aload_nR (pc := 407) dL_law_407 rfl rfl ?_
  refine v_iload (pc := 408) dL_law_408 rfl ?_
  refine v_iconst (pc := 410) (v := 1) dL_law_410 rfl ?_
  refine v_callV2 (pc := 411) (c7_sleigh hps hsc hbc (s := i) (q := 1) hi (by decide)) cm_X5_sleigh q323 q324 q325 (ci := 5) rfl rfl (orcO 0 rfl) [0, 1, 2, 3, 4, 5, 6, 7, 8, 9, 10, 11, 12, 13, 14, 15, 16, 17] (by rfl) (by decide) (fun _ _ h => h) (by omega) (by omega) (by decide) (Nat.le_of_ble_eq_true rfl) dL_law_411 (fun v411 M411 hQ411 => ?_)
  obtain ⟨rfl, rfl⟩ := hQ411
  try dsimp only [wb, tlS_0, tlS_1, tlS_2, tlS_3, tlS_4, tlS_5, tlS_6, tlS_7, tlS_8, tlC_0, tlC_1, tlC_2, tlC_3, LawM, LakeM, WaysM, WorldM, SimM, List.set_cons_succ, List.set_cons_zero, List.append_nil, List.nil_append, List.cons_append, Option.toList, Nat.sub_zero]
  refine v_bipush (pc := 414) (v := 12) dL_law_414 rfl ?_
  refine v_idiv (pc := 416) dL_law_416 (by decide) ?_
  refine v_iadd (pc := 417) dL_law_417 ?_
  refine v_icmp_ne (pc := 418) (tgt := 443) dL_law_418 (by decide) (fun c418 => absurd rfl c418) (fun c418 => ?_)
  refine v_aload_nR (pc := 421) dL_law_421 rfl rfl ?_
  refine v_iload (pc := 422) dL_law_422 rfl ?_
  refine v_iconst (pc := 424) (v := 2) dL_law_424 rfl ?_
  refine v_callV2 (pc := 425) (c7_sleigh hps hsc hbc (s := i) (q := 2) hi (by decide)) cm_X5_sleigh q323 q324 q325 (ci := 5) rfl rfl (orcO 0 rfl) [0, 1, 2, 3, 4, 5, 6, 7, 8, 9, 10, 11, 12, 13, 14, 15, 16, 17] (by rfl) (by decide) (fun _ _ h => h) (by omega) (by omega) (by decide) (Nat.le_of_ble_eq_true rfl) dL_law_425 (fun v425 M425 hQ425 => ?_)
  obtain ⟨rfl, rfl⟩ := hQ425
  try dsimp only [wb, tlS_0, tlS_1, tlS_2, tlS_3, tlS_4, tlS_5, tlS_6, tlS_7, tlS_8, tlC_0, tlC_1, tlC_2, tlC_3, LawM, LakeM, WaysM, WorldM, SimM, List.set_cons_succ, List.set_cons_zero, List.append_nil, List.nil_append, List.cons_append, Option.toList, Nat.sub_zero]
  refine v_if_lt (pc := 428) (tgt := 443) dL_law_428 (by decide) (fun c428 => absurd c428 (fun q => by rw [i_lt, i_0] at q; omega)) (fun c428 => ?_)
  refine v_aload_nR (pc := 431) dL_law_431 rfl rfl ?_
  refine v_iload (pc := 432) dL_law_432 rfl ?_
  refine v_iconst (pc := 434) (v := 2) dL_law_434 rfl ?_
  refine v_callV2 (pc := 435) (c7_sleigh hps hsc hbc (s := i) (q := 2) hi (by decide)) cm_X5_sleigh q323 q324 q325 (ci := 5) rfl rfl (orcO 0 rfl) [0, 1, 2, 3, 4, 5, 6, 7, 8, 9, 10, 11, 12, 13, 14, 15, 16, 17] (by rfl) (by decide) (fun _ _ h => h) (by omega) (by omega) (by decide) (Nat.le_of_ble_eq_true rfl) dL_law_435 (fun v435 M435 hQ435 => ?_)
  obtain ⟨rfl, rfl⟩ := hQ435
  try dsimp only [wb, tlS_0, tlS_1, tlS_2, tlS_3, tlS_4, tlS_5, tlS_6, tlS_7, tlS_8, tlC_0, tlC_1, tlC_2, tlC_3, LawM, LakeM, WaysM, WorldM, SimM, List.set_cons_succ, List.set_cons_zero, List.append_nil, List.nil_append, List.cons_append, Option.toList, Nat.sub_zero]
  refine v_bipush (pc := 438) (v := 100) dL_law_438 rfl ?_
  refine v_icmp_le (pc := 440) (tgt := 445) dL_law_440 (by decide) (fun c440 => ?_) (fun c440 => absurd (i_le.mpr (by rw [i_100]; omega)) c440)
  refine v_aloadR (pc := 445) dL_law_445 rfl ?_
  refine v_iload (pc := 447) dL_law_447 rfl ?_
  refine v_aaldS (pc := 449) 50 (k := i) (by decide) rfl (by omega) (by omega) dL_law_449 ?_
  refine v_iconst (pc := 450) (v := 3) dL_law_450 rfl ?_
  refine v_ialdGN (pc := 451) 51 (j := 3) rfl (by omega) (by decide) (by decide) dL_law_451 ?_
  try dsimp only [wb, tlS_0, tlS_1, tlS_2, tlS_3, tlS_4, tlS_5, tlS_6, tlS_7, tlS_8, tlC_0, tlC_1, tlC_2, tlC_3, LawM, LakeM, WaysM, WorldM, SimM, List.set_cons_succ, List.set_cons_zero, List.append_nil, List.nil_append, List.cons_append, Option.toList, Nat.sub_zero]
  refine v_iconst (pc := 452) (v := 2) dL_law_452 rfl ?_
  refine v_icmp_ne (pc := 453) (tgt := 476) dL_law_453 (by decide) (fun c453 => ?_) (fun c453 => ?_)
  · refine v_iload (pc := 476) dL_law_476 rfl ?_
    refine v_iconst (pc := 478) (v := 2) dL_law_478 rfl ?_
    refine v_icmp_ne (pc := 479) (tgt := 607) dL_law_479 (by decide) (fun c479 => ?_) (fun c479 => ?_)
    · obtain ⟨g1a, g2a, g3a, g4a, g5a⟩ := f5 c453 c479
      refine v_aloadR (pc := 607) dL_law_607 rfl ?_
      refine v_iload (pc := 609) dL_law_609 rfl ?_
      refine v_aaldS (pc := 611) 50 (k := i) (by decide) rfl (by omega) (by omega) dL_law_611 ?_
      refine v_bipush (pc := 612) (v := 6) dL_law_612 rfl ?_
      refine v_ialdGN (pc := 614) 51 (j := 6) rfl (by omega) (by decide) (by decide) dL_law_614 ?_
      try dsimp only [wb, tlS_0, tlS_1, tlS_2, tlS_3, tlS_4, tlS_5, tlS_6, tlS_7, tlS_8, tlC_0, tlC_1, tlC_2, tlC_3, LawM, LakeM, WaysM, WorldM, SimM, List.set_cons_succ, List.set_cons_zero, List.append_nil, List.nil_append, List.cons_append, Option.toList, Nat.sub_zero]
      refine v_iconst (pc := 615) (v := 1) dL_law_615 rfl ?_
      refine v_icmp_ne (pc := 616) (tgt := 623) dL_law_616 (by decide) (fun c616 => ?_) (fun c616 => ?_)
      · refine v_iconst (pc := 623) (v := 0) dL_law_623 rfl ?_
        refine v_istore (pc := 624) dL_law_624 (by show _ < 26; decide) rfl ?_
        refine v_iload (pc := 626) dL_law_626 rfl ?_
        refine v_iload (pc := 628) dL_law_628 rfl ?_
        refine v_aloadR (pc := 630) dL_law_630 rfl ?_
        refine v_iload (pc := 632) dL_law_632 rfl ?_
        refine v_aaldS (pc := 634) 50 (k := i) (by decide) rfl (by omega) (by omega) dL_law_634 ?_
        refine v_iconst (pc := 635) (v := 4) dL_law_635 rfl ?_
        refine v_ialdGN (pc := 636) 51 (j := 4) rfl (by omega) (by decide) (by decide) dL_law_636 ?_
        try dsimp only [wb, tlS_0, tlS_1, tlS_2, tlS_3, tlS_4, tlS_5, tlS_6, tlS_7, tlS_8, tlC_0, tlC_1, tlC_2, tlC_3, LawM, LakeM, WaysM, WorldM, SimM, List.set_cons_succ, List.set_cons_zero, List.append_nil, List.nil_append, List.cons_append, Option.toList, Nat.sub_zero]
        refine v_icmp_eq (pc := 637) (tgt := 644) dL_law_637 (by decide) (fun c637 => ?_) (fun c637 => absurd (e4.symm.trans (g2a c616)) c637)
        refine v_iconst (pc := 644) (v := 0) dL_law_644 rfl ?_
        refine v_icmp_eq (pc := 645) (tgt := 650) dL_law_645 (by decide) (fun c645 => ?_) (fun c645 => absurd c645 (by decide))
        refine v_iload (pc := 650) dL_law_650 rfl ?_
        refine v_if_eq (pc := 652) (tgt := 752) dL_law_652 (by decide) (fun c652 => ?_) (fun c652 => absurd c652 (by decide))
        refine v_aloadR (pc := 752) dL_law_752 rfl ?_
        refine v_iload (pc := 754) dL_law_754 rfl ?_
        refine v_aaldS (pc := 756) 50 (k := i) (by decide) rfl (by omega) (by omega) dL_law_756 ?_
        refine v_bipush (pc := 757) (v := 6) dL_law_757 rfl ?_
        refine v_ialdGN (pc := 759) 51 (j := 6) rfl (by omega) (by decide) (by decide) dL_law_759 ?_
        try dsimp only [wb, tlS_0, tlS_1, tlS_2, tlS_3, tlS_4, tlS_5, tlS_6, tlS_7, tlS_8, tlC_0, tlC_1, tlC_2, tlC_3, LawM, LakeM, WaysM, WorldM, SimM, List.set_cons_succ, List.set_cons_zero, List.append_nil, List.nil_append, List.cons_append, Option.toList, Nat.sub_zero]
        refine v_iconst (pc := 760) (v := 1) dL_law_760 rfl ?_
        refine v_icmp_le (pc := 761) (tgt := 793) dL_law_761 (by decide) (fun c761 => ?_) (fun c761 => ?_)
        · refine v_iload (pc := 793) dL_law_793 rfl ?_
          refine v_if_ne (pc := 795) (tgt := 815) dL_law_795 (by decide) (fun c795 => ?_) (fun c795 => ?_)
          · refine v_aloadR (pc := 815) dL_law_815 rfl ?_
            refine v_iload (pc := 817) dL_law_817 rfl ?_
            refine v_aaldS (pc := 819) 50 (k := i) (by decide) rfl (by omega) (by omega) dL_law_819 ?_
            refine v_iconst (pc := 820) (v := 3) dL_law_820 rfl ?_
            refine v_ialdGN (pc := 821) 51 (j := 3) rfl (by omega) (by decide) (by decide) dL_law_821 ?_
            try dsimp only [wb, tlS_0, tlS_1, tlS_2, tlS_3, tlS_4, tlS_5, tlS_6, tlS_7, tlS_8, tlC_0, tlC_1, tlC_2, tlC_3, LawM, LakeM, WaysM, WorldM, SimM, List.set_cons_succ, List.set_cons_zero, List.append_nil, List.nil_append, List.cons_append, Option.toList, Nat.sub_zero]
            refine v_if_ne (pc := 822) (tgt := 830) dL_law_822 (by decide) (fun c822 => ?_) (fun c822 => ?_)
            · refine v_iload (pc := 830) dL_law_830 rfl ?_
              refine v_if_ne (pc := 832) (tgt := 853) dL_law_832 (by decide) (fun c832 => ?_) (fun c832 => ?_)
              · refine v_aloadR (pc := 853) dL_law_853 rfl ?_
                refine v_iload (pc := 855) dL_law_855 rfl ?_
                refine v_aaldS (pc := 857) 50 (k := i) (by decide) rfl (by omega) (by omega) dL_law_857 ?_
                refine v_bipush (pc := 858) (v := 6) dL_law_858 rfl ?_
                refine v_ialdGN (pc := 860) 51 (j := 6) rfl (by omega) (by decide) (by decide) dL_law_860 ?_
                try dsimp only [wb, tlS_0, tlS_1, tlS_2, tlS_3, tlS_4, tlS_5, tlS_6, tlS_7, tlS_8, tlC_0, tlC_1, tlC_2, tlC_3, LawM, LakeM, WaysM, WorldM, SimM, List.set_cons_succ, List.set_cons_zero, List.append_nil, List.nil_append, List.cons_append, Option.toList, Nat.sub_zero]
                refine v_iconst (pc := 861) (v := 1) dL_law_861 rfl ?_
                refine v_icmp_gt (pc := 862) (tgt := 885) dL_law_862 (by decide) (fun c862 => ?_) (fun c862 => ?_)
                · refine v_iinc (pc := 885) (v := nI (i + 1)) dL_law_885 rfl (nI_1 _) (by show _ < 26; decide) rfl ?_
                  refine v_goto (pc := 888) (tgt := 330) dL_law_888 (by decide) ?_
                  refine v_room (ck' := ck + 20 * m) (sk' := sk + 120 * m) (by omega) (by omega) ?_
                  have k9 := ihK _ (lf_no (fun q => q.2.2.1 c862) hL)
                  refine v_sub ?_ k9
                  exact ⟨rfl, rfl, rfl, rfl, rfl, rfl, rfl, rfl, rfl, rfl, rfl, rfl, rfl, rfl, rfl, rfl, rfl, trivial⟩
                · refine v_aload_nR (pc := 865) dL_law_865 rfl rfl ?_
                  refine v_iload (pc := 866) dL_law_866 rfl ?_
                  refine v_bipush (pc := 868) (v := 6) dL_law_868 rfl ?_
                  refine v_callV2 (pc := 870) (c7_sleigh hps hsc hbc (s := i) (q := 6) hi (by decide)) cm_X5_sleigh q323 q324 q325 (ci := 5) rfl rfl (orcO 0 rfl) [0, 1, 2, 3, 4, 5, 6, 7, 8, 9, 10, 11, 12, 13, 14, 15, 16, 17] (by rfl) (by decide) (fun _ _ h => h) (by omega) (by omega) (by decide) (Nat.le_of_ble_eq_true rfl) dL_law_870 (fun v870 M870 hQ870 => ?_)
                  obtain ⟨rfl, rfl⟩ := hQ870
                  try dsimp only [wb, tlS_0, tlS_1, tlS_2, tlS_3, tlS_4, tlS_5, tlS_6, tlS_7, tlS_8, tlC_0, tlC_1, tlC_2, tlC_3, LawM, LakeM, WaysM, WorldM, SimM, List.set_cons_succ, List.set_cons_zero, List.append_nil, List.nil_append, List.cons_append, Option.toList, Nat.sub_zero]
                  refine v_if_le (pc := 873) (tgt := 885) dL_law_873 (by decide) (fun c873 => ?_) (fun c873 => ?_)
                  · refine v_iinc (pc := 885) (v := nI (i + 1)) dL_law_885 rfl (nI_1 _) (by show _ < 26; decide) rfl ?_
                    refine v_goto (pc := 888) (tgt := 330) dL_law_888 (by decide) ?_
                    refine v_room (ck' := ck + 20 * m) (sk' := sk + 120 * m) (by omega) (by omega) ?_
                    have k9 := ihK _ (lf_no (fun q => Int32.not_le.mpr q.2.2.2 c873) hL)
                    refine v_sub ?_ k9
                    exact ⟨rfl, rfl, rfl, rfl, rfl, rfl, rfl, rfl, rfl, rfl, rfl, rfl, rfl, rfl, rfl, rfl, rfl, trivial⟩
                  · refine v_aloadR (pc := 876) dL_law_876 rfl ?_
                    refine v_iload (pc := 878) dL_law_878 rfl ?_
                    refine v_dup2 (pc := 880) dL_law_880 rfl rfl ?_
                    refine v_ialdN (pc := 881) 54 (k := c4) rfl (by omega) (by omega) dL_law_881 ?_
                    refine v_iconst (pc := 882) (v := 1) dL_law_882 rfl ?_
                    refine v_iadd (pc := 883) dL_law_883 ?_
                    refine v_iastN (pc := 884) 54 (k := c4) rfl (by omega) (by omega) dL_law_884 ?_
                    try dsimp only [wb, tlS_0, tlS_1, tlS_2, tlS_3, tlS_4, tlS_5, tlS_6, tlS_7, tlS_8, tlC_0, tlC_1, tlC_2, tlC_3, LawM, LakeM, WaysM, WorldM, SimM, List.set_cons_succ, List.set_cons_zero, List.append_nil, List.nil_append, List.cons_append, Option.toList, Nat.sub_zero]
                    refine v_iinc (pc := 885) (v := nI (i + 1)) dL_law_885 rfl (nI_1 _) (by show _ < 26; decide) rfl ?_
                    refine v_goto (pc := 888) (tgt := 330) dL_law_888 (by decide) ?_
                    refine v_room (ck' := ck + 20 * m) (sk' := sk + 120 * m) (by omega) (by omega) ?_
                    have k9 := ihK _ (lf_yes ⟨c453, c479, c862, Int32.not_le.mp c873⟩ (by rw [e4]; exact cN_nI (by omega)) hc4 hL)
                    refine v_sub ?_ k9
                    exact ⟨rfl, rfl, rfl, rfl, rfl, rfl, rfl, rfl, rfl, rfl, rfl, rfl, rfl, rfl, rfl, rfl, rfl, trivial⟩
              · refine v_aloadR (pc := 835) dL_law_835 rfl ?_
                refine v_iload (pc := 837) dL_law_837 rfl ?_
                refine v_aaldS (pc := 839) 50 (k := i) (by decide) rfl (by omega) (by omega) dL_law_839 ?_
                refine v_iconst (pc := 840) (v := 3) dL_law_840 rfl ?_
                refine v_ialdGN (pc := 841) 51 (j := 3) rfl (by omega) (by decide) (by decide) dL_law_841 ?_
                try dsimp only [wb, tlS_0, tlS_1, tlS_2, tlS_3, tlS_4, tlS_5, tlS_6, tlS_7, tlS_8, tlC_0, tlC_1, tlC_2, tlC_3, LawM, LakeM, WaysM, WorldM, SimM, List.set_cons_succ, List.set_cons_zero, List.append_nil, List.nil_append, List.cons_append, Option.toList, Nat.sub_zero]
                refine v_iconst (pc := 842) (v := 1) dL_law_842 rfl ?_
                refine v_icmp_ne (pc := 843) (tgt := 853) dL_law_843 (by decide) (fun c843 => ?_) (fun c843 => absurd (g5a c832 c843) c616)
                refine v_aloadR (pc := 853) dL_law_853 rfl ?_
                refine v_iload (pc := 855) dL_law_855 rfl ?_
                refine v_aaldS (pc := 857) 50 (k := i) (by decide) rfl (by omega) (by omega) dL_law_857 ?_
                refine v_bipush (pc := 858) (v := 6) dL_law_858 rfl ?_
                refine v_ialdGN (pc := 860) 51 (j := 6) rfl (by omega) (by decide) (by decide) dL_law_860 ?_
                try dsimp only [wb, tlS_0, tlS_1, tlS_2, tlS_3, tlS_4, tlS_5, tlS_6, tlS_7, tlS_8, tlC_0, tlC_1, tlC_2, tlC_3, LawM, LakeM, WaysM, WorldM, SimM, List.set_cons_succ, List.set_cons_zero, List.append_nil, List.nil_append, List.cons_append, Option.toList, Nat.sub_zero]
                refine v_iconst (pc := 861) (v := 1) dL_law_861 rfl ?_
                refine v_icmp_gt (pc := 862) (tgt := 885) dL_law_862 (by decide) (fun c862 => ?_) (fun c862 => ?_)
                · refine v_iinc (pc := 885) (v := nI (i + 1)) dL_law_885 rfl (nI_1 _) (by show _ < 26; decide) rfl ?_
                  refine v_goto (pc := 888) (tgt := 330) dL_law_888 (by decide) ?_
                  refine v_room (ck' := ck + 20 * m) (sk' := sk + 120 * m) (by omega) (by omega) ?_
                  have k9 := ihK _ (lf_no (fun q => q.2.2.1 c862) hL)
                  refine v_sub ?_ k9
                  exact ⟨rfl, rfl, rfl, rfl, rfl, rfl, rfl, rfl, rfl, rfl, rfl, rfl, rfl, rfl, rfl, rfl, rfl, trivial⟩
                · refine v_aload_nR (pc := 865) dL_law_865 rfl rfl ?_
                  refine v_iload (pc := 866) dL_law_866 rfl ?_
                  refine v_bipush (pc := 868) (v := 6) dL_law_868 rfl ?_
                  refine v_callV2 (pc := 870) (c7_sleigh hps hsc hbc (s := i) (q := 6) hi (by decide)) cm_X5_sleigh q323 q324 q325 (ci := 5) rfl rfl (orcO 0 rfl) [0, 1, 2, 3, 4, 5, 6, 7, 8, 9, 10, 11, 12, 13, 14, 15, 16, 17] (by rfl) (by decide) (fun _ _ h => h) (by omega) (by omega) (by decide) (Nat.le_of_ble_eq_true rfl) dL_law_870 (fun v870 M870 hQ870 => ?_)
                  obtain ⟨rfl, rfl⟩ := hQ870
                  try dsimp only [wb, tlS_0, tlS_1, tlS_2, tlS_3, tlS_4, tlS_5, tlS_6, tlS_7, tlS_8, tlC_0, tlC_1, tlC_2, tlC_3, LawM, LakeM, WaysM, WorldM, SimM, List.set_cons_succ, List.set_cons_zero, List.append_nil, List.nil_append, List.cons_append, Option.toList, Nat.sub_zero]
                  refine v_if_le (pc := 873) (tgt := 885) dL_law_873 (by decide) (fun c873 => ?_) (fun c873 => ?_)
                  · refine v_iinc (pc := 885) (v := nI (i + 1)) dL_law_885 rfl (nI_1 _) (by show _ < 26; decide) rfl ?_
                    refine v_goto (pc := 888) (tgt := 330) dL_law_888 (by decide) ?_
                    refine v_room (ck' := ck + 20 * m) (sk' := sk + 120 * m) (by omega) (by omega) ?_
                    have k9 := ihK _ (lf_no (fun q => Int32.not_le.mpr q.2.2.2 c873) hL)
                    refine v_sub ?_ k9
                    exact ⟨rfl, rfl, rfl, rfl, rfl, rfl, rfl, rfl, rfl, rfl, rfl, rfl, rfl, rfl, rfl, rfl, rfl, trivial⟩
                  · refine v_aloadR (pc := 876) dL_law_876 rfl ?_
                    refine v_iload (pc := 878) dL_law_878 rfl ?_
                    refine v_dup2 (pc := 880) dL_law_880 rfl rfl ?_
                    refine v_ialdN (pc := 881) 54 (k := c4) rfl (by omega) (by omega) dL_law_881 ?_
                    refine v_iconst (pc := 882) (v := 1) dL_law_882 rfl ?_
                    refine v_iadd (pc := 883) dL_law_883 ?_
                    refine v_iastN (pc := 884) 54 (k := c4) rfl (by omega) (by omega) dL_law_884 ?_
                    try dsimp only [wb, tlS_0, tlS_1, tlS_2, tlS_3, tlS_4, tlS_5, tlS_6, tlS_7, tlS_8, tlC_0, tlC_1, tlC_2, tlC_3, LawM, LakeM, WaysM, WorldM, SimM, List.set_cons_succ, List.set_cons_zero, List.append_nil, List.nil_append, List.cons_append, Option.toList, Nat.sub_zero]
                    refine v_iinc (pc := 885) (v := nI (i + 1)) dL_law_885 rfl (nI_1 _) (by show _ < 26; decide) rfl ?_
                    refine v_goto (pc := 888) (tgt := 330) dL_law_888 (by decide) ?_
                    refine v_room (ck' := ck + 20 * m) (sk' := sk + 120 * m) (by omega) (by omega) ?_
                    have k9 := ihK _ (lf_yes ⟨c453, c479, c862, Int32.not_le.mp c873⟩ (by rw [e4]; exact cN_nI (by omega)) hc4 hL)
                    refine v_sub ?_ k9
                    exact ⟨rfl, rfl, rfl, rfl, rfl, rfl, rfl, rfl, rfl, rfl, rfl, rfl, rfl, rfl, rfl, rfl, rfl, trivial⟩
            · refine v_iload (pc := 825) dL_law_825 rfl ?_
              refine v_if_ne (pc := 827) (tgt := 851) dL_law_827 (by decide) (fun c827 => absurd (g4a c822) c827) (fun c827 => ?_)
              refine v_iload (pc := 830) dL_law_830 rfl ?_
              refine v_if_ne (pc := 832) (tgt := 853) dL_law_832 (by decide) (fun c832 => ?_) (fun c832 => ?_)
              · refine v_aloadR (pc := 853) dL_law_853 rfl ?_
                refine v_iload (pc := 855) dL_law_855 rfl ?_
                refine v_aaldS (pc := 857) 50 (k := i) (by decide) rfl (by omega) (by omega) dL_law_857 ?_
                refine v_bipush (pc := 858) (v := 6) dL_law_858 rfl ?_
                refine v_ialdGN (pc := 860) 51 (j := 6) rfl (by omega) (by decide) (by decide) dL_law_860 ?_
                try dsimp only [wb, tlS_0, tlS_1, tlS_2, tlS_3, tlS_4, tlS_5, tlS_6, tlS_7, tlS_8, tlC_0, tlC_1, tlC_2, tlC_3, LawM, LakeM, WaysM, WorldM, SimM, List.set_cons_succ, List.set_cons_zero, List.append_nil, List.nil_append, List.cons_append, Option.toList, Nat.sub_zero]
                refine v_iconst (pc := 861) (v := 1) dL_law_861 rfl ?_
                refine v_icmp_gt (pc := 862) (tgt := 885) dL_law_862 (by decide) (fun c862 => ?_) (fun c862 => ?_)
                · refine v_iinc (pc := 885) (v := nI (i + 1)) dL_law_885 rfl (nI_1 _) (by show _ < 26; decide) rfl ?_
                  refine v_goto (pc := 888) (tgt := 330) dL_law_888 (by decide) ?_
                  refine v_room (ck' := ck + 20 * m) (sk' := sk + 120 * m) (by omega) (by omega) ?_
                  have k9 := ihK _ (lf_no (fun q => q.2.2.1 c862) hL)
                  refine v_sub ?_ k9
                  exact ⟨rfl, rfl, rfl, rfl, rfl, rfl, rfl, rfl, rfl, rfl, rfl, rfl, rfl, rfl, rfl, rfl, rfl, trivial⟩
                · refine v_aload_nR (pc := 865) dL_law_865 rfl rfl ?_
                  refine v_iload (pc := 866) dL_law_866 rfl ?_
                  refine v_bipush (pc := 868) (v := 6) dL_law_868 rfl ?_
                  refine v_callV2 (pc := 870) (c7_sleigh hps hsc hbc (s := i) (q := 6) hi (by decide)) cm_X5_sleigh q323 q324 q325 (ci := 5) rfl rfl (orcO 0 rfl) [0, 1, 2, 3, 4, 5, 6, 7, 8, 9, 10, 11, 12, 13, 14, 15, 16, 17] (by rfl) (by decide) (fun _ _ h => h) (by omega) (by omega) (by decide) (Nat.le_of_ble_eq_true rfl) dL_law_870 (fun v870 M870 hQ870 => ?_)
                  obtain ⟨rfl, rfl⟩ := hQ870
                  try dsimp only [wb, tlS_0, tlS_1, tlS_2, tlS_3, tlS_4, tlS_5, tlS_6, tlS_7, tlS_8, tlC_0, tlC_1, tlC_2, tlC_3, LawM, LakeM, WaysM, WorldM, SimM, List.set_cons_succ, List.set_cons_zero, List.append_nil, List.nil_append, List.cons_append, Option.toList, Nat.sub_zero]
                  refine v_if_le (pc := 873) (tgt := 885) dL_law_873 (by decide) (fun c873 => ?_) (fun c873 => ?_)
                  · refine v_iinc (pc := 885) (v := nI (i + 1)) dL_law_885 rfl (nI_1 _) (by show _ < 26; decide) rfl ?_
                    refine v_goto (pc := 888) (tgt := 330) dL_law_888 (by decide) ?_
                    refine v_room (ck' := ck + 20 * m) (sk' := sk + 120 * m) (by omega) (by omega) ?_
                    have k9 := ihK _ (lf_no (fun q => Int32.not_le.mpr q.2.2.2 c873) hL)
                    refine v_sub ?_ k9
                    exact ⟨rfl, rfl, rfl, rfl, rfl, rfl, rfl, rfl, rfl, rfl, rfl, rfl, rfl, rfl, rfl, rfl, rfl, trivial⟩
                  · refine v_aloadR (pc := 876) dL_law_876 rfl ?_
                    refine v_iload (pc := 878) dL_law_878 rfl ?_
                    refine v_dup2 (pc := 880) dL_law_880 rfl rfl ?_
                    refine v_ialdN (pc := 881) 54 (k := c4) rfl (by omega) (by omega) dL_law_881 ?_
                    refine v_iconst (pc := 882) (v := 1) dL_law_882 rfl ?_
                    refine v_iadd (pc := 883) dL_law_883 ?_
                    refine v_iastN (pc := 884) 54 (k := c4) rfl (by omega) (by omega) dL_law_884 ?_
                    try dsimp only [wb, tlS_0, tlS_1, tlS_2, tlS_3, tlS_4, tlS_5, tlS_6, tlS_7, tlS_8, tlC_0, tlC_1, tlC_2, tlC_3, LawM, LakeM, WaysM, WorldM, SimM, List.set_cons_succ, List.set_cons_zero, List.append_nil, List.nil_append, List.cons_append, Option.toList, Nat.sub_zero]
                    refine v_iinc (pc := 885) (v := nI (i + 1)) dL_law_885 rfl (nI_1 _) (by show _ < 26; decide) rfl ?_
                    refine v_goto (pc := 888) (tgt := 330) dL_law_888 (by decide) ?_
                    refine v_room (ck' := ck + 20 * m) (sk' := sk + 120 * m) (by omega) (by omega) ?_
                    have k9 := ihK _ (lf_yes ⟨c453, c479, c862, Int32.not_le.mp c873⟩ (by rw [e4]; exact cN_nI (by omega)) hc4 hL)
                    refine v_sub ?_ k9
                    exact ⟨rfl, rfl, rfl, rfl, rfl, rfl, rfl, rfl, rfl, rfl, rfl, rfl, rfl, rfl, rfl, rfl, rfl, trivial⟩
              · refine v_aloadR (pc := 835) dL_law_835 rfl ?_
                refine v_iload (pc := 837) dL_law_837 rfl ?_
                refine v_aaldS (pc := 839) 50 (k := i) (by decide) rfl (by omega) (by omega) dL_law_839 ?_
                refine v_iconst (pc := 840) (v := 3) dL_law_840 rfl ?_
                refine v_ialdGN (pc := 841) 51 (j := 3) rfl (by omega) (by decide) (by decide) dL_law_841 ?_
                try dsimp only [wb, tlS_0, tlS_1, tlS_2, tlS_3, tlS_4, tlS_5, tlS_6, tlS_7, tlS_8, tlC_0, tlC_1, tlC_2, tlC_3, LawM, LakeM, WaysM, WorldM, SimM, List.set_cons_succ, List.set_cons_zero, List.append_nil, List.nil_append, List.cons_append, Option.toList, Nat.sub_zero]
                refine v_iconst (pc := 842) (v := 1) dL_law_842 rfl ?_
                refine v_icmp_ne (pc := 843) (tgt := 853) dL_law_843 (by decide) (fun c843 => ?_) (fun c843 => absurd (g5a c832 c843) c616)
                refine v_aloadR (pc := 853) dL_law_853 rfl ?_
                refine v_iload (pc := 855) dL_law_855 rfl ?_
                refine v_aaldS (pc := 857) 50 (k := i) (by decide) rfl (by omega) (by omega) dL_law_857 ?_
                refine v_bipush (pc := 858) (v := 6) dL_law_858 rfl ?_
                refine v_ialdGN (pc := 860) 51 (j := 6) rfl (by omega) (by decide) (by decide) dL_law_860 ?_
                try dsimp only [wb, tlS_0, tlS_1, tlS_2, tlS_3, tlS_4, tlS_5, tlS_6, tlS_7, tlS_8, tlC_0, tlC_1, tlC_2, tlC_3, LawM, LakeM, WaysM, WorldM, SimM, List.set_cons_succ, List.set_cons_zero, List.append_nil, List.nil_append, List.cons_append, Option.toList, Nat.sub_zero]
                refine v_iconst (pc := 861) (v := 1) dL_law_861 rfl ?_
                refine v_icmp_gt (pc := 862) (tgt := 885) dL_law_862 (by decide) (fun c862 => ?_) (fun c862 => ?_)
                · refine v_iinc (pc := 885) (v := nI (i + 1)) dL_law_885 rfl (nI_1 _) (by show _ < 26; decide) rfl ?_
                  refine v_goto (pc := 888) (tgt := 330) dL_law_888 (by decide) ?_
                  refine v_room (ck' := ck + 20 * m) (sk' := sk + 120 * m) (by omega) (by omega) ?_
                  have k9 := ihK _ (lf_no (fun q => q.2.2.1 c862) hL)
                  refine v_sub ?_ k9
                  exact ⟨rfl, rfl, rfl, rfl, rfl, rfl, rfl, rfl, rfl, rfl, rfl, rfl, rfl, rfl, rfl, rfl, rfl, trivial⟩
                · refine v_aload_nR (pc := 865) dL_law_865 rfl rfl ?_
                  refine v_iload (pc := 866) dL_law_866 rfl ?_
                  refine v_bipush (pc := 868) (v := 6) dL_law_868 rfl ?_
                  refine v_callV2 (pc := 870) (c7_sleigh hps hsc hbc (s := i) (q := 6) hi (by decide)) cm_X5_sleigh q323 q324 q325 (ci := 5) rfl rfl (orcO 0 rfl) [0, 1, 2, 3, 4, 5, 6, 7, 8, 9, 10, 11, 12, 13, 14, 15, 16, 17] (by rfl) (by decide) (fun _ _ h => h) (by omega) (by omega) (by decide) (Nat.le_of_ble_eq_true rfl) dL_law_870 (fun v870 M870 hQ870 => ?_)
                  obtain ⟨rfl, rfl⟩ := hQ870
                  try dsimp only [wb, tlS_0, tlS_1, tlS_2, tlS_3, tlS_4, tlS_5, tlS_6, tlS_7, tlS_8, tlC_0, tlC_1, tlC_2, tlC_3, LawM, LakeM, WaysM, WorldM, SimM, List.set_cons_succ, List.set_cons_zero, List.append_nil, List.nil_append, List.cons_append, Option.toList, Nat.sub_zero]
                  refine v_if_le (pc := 873) (tgt := 885) dL_law_873 (by decide) (fun c873 => ?_) (fun c873 => ?_)
                  · refine v_iinc (pc := 885) (v := nI (i + 1)) dL_law_885 rfl (nI_1 _) (by show _ < 26; decide) rfl ?_
                    refine v_goto (pc := 888) (tgt := 330) dL_law_888 (by decide) ?_
                    refine v_room (ck' := ck + 20 * m) (sk' := sk + 120 * m) (by omega) (by omega) ?_
                    have k9 := ihK _ (lf_no (fun q => Int32.not_le.mpr q.2.2.2 c873) hL)
                    refine v_sub ?_ k9
                    exact ⟨rfl, rfl, rfl, rfl, rfl, rfl, rfl, rfl, rfl, rfl, rfl, rfl, rfl, rfl, rfl, rfl, rfl, trivial⟩
                  · refine v_aloadR (pc := 876) dL_law_876 rfl ?_
                    refine v_iload (pc := 878) dL_law_878 rfl ?_
                    refine v_dup2 (pc := 880) dL_law_880 rfl rfl ?_
                    refine v_ialdN (pc := 881) 54 (k := c4) rfl (by omega) (by omega) dL_law_881 ?_
                    refine v_iconst (pc := 882) (v := 1) dL_law_882 rfl ?_
                    refine v_iadd (pc := 883) dL_law_883 ?_
                    refine v_iastN (pc := 884) 54 (k := c4) rfl (by omega) (by omega) dL_law_884 ?_
                    try dsimp only [wb, tlS_0, tlS_1, tlS_2, tlS_3, tlS_4, tlS_5, tlS_6, tlS_7, tlS_8, tlC_0, tlC_1, tlC_2, tlC_3, LawM, LakeM, WaysM, WorldM, SimM, List.set_cons_succ, List.set_cons_zero, List.append_nil, List.nil_append, List.cons_append, Option.toList, Nat.sub_zero]
                    refine v_iinc (pc := 885) (v := nI (i + 1)) dL_law_885 rfl (nI_1 _) (by show _ < 26; decide) rfl ?_
                    refine v_goto (pc := 888) (tgt := 330) dL_law_888 (by decide) ?_
                    refine v_room (ck' := ck + 20 * m) (sk' := sk + 120 * m) (by omega) (by omega) ?_
                    have k9 := ihK _ (lf_yes ⟨c453, c479, c862, Int32.not_le.mp c873⟩ (by rw [e4]; exact cN_nI (by omega)) hc4 hL)
                    refine v_sub ?_ k9
                    exact ⟨rfl, rfl, rfl, rfl, rfl, rfl, rfl, rfl, rfl, rfl, rfl, rfl, rfl, rfl, rfl, rfl, rfl, trivial⟩
          · obtain ⟨p5a, p5b⟩ := (hI.1.2.2.2.1.2.1 i hi).2.1 c795
            obtain ⟨p5q, hq5, e5⟩ := kOf p5a (by omega)
            have hPq : nI c4 = PC p5q := by rw [← e4, p5b, e5, cop_k hq5 hps]
            refine v_iload (pc := 798) dL_law_798 rfl ?_
            refine v_aload_nR (pc := 800) dL_law_800 rfl rfl ?_
            refine v_get (pc := 801) 6 35 fg_L_58 rfl rfl dL_law_801 ?_
            refine v_aload_nR (pc := 804) dL_law_804 rfl rfl ?_
            refine v_iload (pc := 805) dL_law_805 rfl ?_
            refine v_iconst (pc := 807) (v := 5) dL_law_807 rfl ?_
            refine v_callV2 (pc := 808) (c7_sleigh hps hsc hbc (s := i) (q := 5) hi (by decide)) cm_X5_sleigh q323 q324 q325 (ci := 5) rfl rfl (orcO 0 rfl) [0, 1, 2, 3, 4, 5, 6, 7, 8, 9, 10, 11, 12, 13, 14, 15, 16, 17] (by rfl) (by decide) (fun _ _ h => h) (by omega) (by omega) (by decide) (Nat.le_of_ble_eq_true rfl) dL_law_808 (fun v808 M808 hQ808 => ?_)
            obtain ⟨rfl, rfl⟩ := hQ808
            try dsimp only [wb, tlS_0, tlS_1, tlS_2, tlS_3, tlS_4, tlS_5, tlS_6, tlS_7, tlS_8, tlC_0, tlC_1, tlC_2, tlC_3, LawM, LakeM, WaysM, WorldM, SimM, List.set_cons_succ, List.set_cons_zero, List.append_nil, List.nil_append, List.cons_append, Option.toList, Nat.sub_zero]
            rw [e5]
            refine v_ialdN (pc := 811) 41 (k := p5q) rfl (by omega) (by omega) dL_law_811 ?_
            refine v_icmp_ne (pc := 812) (tgt := 851) dL_law_812 (by decide) (fun c812 => absurd hPq c812) (fun c812 => ?_)
            refine v_aloadR (pc := 815) dL_law_815 rfl ?_
            refine v_iload (pc := 817) dL_law_817 rfl ?_
            refine v_aaldS (pc := 819) 50 (k := i) (by decide) rfl (by omega) (by omega) dL_law_819 ?_
            refine v_iconst (pc := 820) (v := 3) dL_law_820 rfl ?_
            refine v_ialdGN (pc := 821) 51 (j := 3) rfl (by omega) (by decide) (by decide) dL_law_821 ?_
            try dsimp only [wb, tlS_0, tlS_1, tlS_2, tlS_3, tlS_4, tlS_5, tlS_6, tlS_7, tlS_8, tlC_0, tlC_1, tlC_2, tlC_3, LawM, LakeM, WaysM, WorldM, SimM, List.set_cons_succ, List.set_cons_zero, List.append_nil, List.nil_append, List.cons_append, Option.toList, Nat.sub_zero]
            refine v_if_ne (pc := 822) (tgt := 830) dL_law_822 (by decide) (fun c822 => ?_) (fun c822 => ?_)
            · refine v_iload (pc := 830) dL_law_830 rfl ?_
              refine v_if_ne (pc := 832) (tgt := 853) dL_law_832 (by decide) (fun c832 => ?_) (fun c832 => ?_)
              · refine v_aloadR (pc := 853) dL_law_853 rfl ?_
                refine v_iload (pc := 855) dL_law_855 rfl ?_
                refine v_aaldS (pc := 857) 50 (k := i) (by decide) rfl (by omega) (by omega) dL_law_857 ?_
                refine v_bipush (pc := 858) (v := 6) dL_law_858 rfl ?_
                refine v_ialdGN (pc := 860) 51 (j := 6) rfl (by omega) (by decide) (by decide) dL_law_860 ?_
                try dsimp only [wb, tlS_0, tlS_1, tlS_2, tlS_3, tlS_4, tlS_5, tlS_6, tlS_7, tlS_8, tlC_0, tlC_1, tlC_2, tlC_3, LawM, LakeM, WaysM, WorldM, SimM, List.set_cons_succ, List.set_cons_zero, List.append_nil, List.nil_append, List.cons_append, Option.toList, Nat.sub_zero]
                refine v_iconst (pc := 861) (v := 1) dL_law_861 rfl ?_
                refine v_icmp_gt (pc := 862) (tgt := 885) dL_law_862 (by decide) (fun c862 => ?_) (fun c862 => ?_)
                · refine v_iinc (pc := 885) (v := nI (i + 1)) dL_law_885 rfl (nI_1 _) (by show _ < 26; decide) rfl ?_
                  refine v_goto (pc := 888) (tgt := 330) dL_law_888 (by decide) ?_
                  refine v_room (ck' := ck + 20 * m) (sk' := sk + 120 * m) (by omega) (by omega) ?_
                  have k9 := ihK _ (lf_no (fun q => q.2.2.1 c862) hL)
                  refine v_sub ?_ k9
                  exact ⟨rfl, rfl, rfl, rfl, rfl, rfl, rfl, rfl, rfl, rfl, rfl, rfl, rfl, rfl, rfl, rfl, rfl, trivial⟩
                · refine v_aload_nR (pc := 865) dL_law_865 rfl rfl ?_
                  refine v_iload (pc := 866) dL_law_866 rfl ?_
                  refine v_bipush (pc := 868) (v := 6) dL_law_868 rfl ?_
                  refine v_callV2 (pc := 870) (c7_sleigh hps hsc hbc (s := i) (q := 6) hi (by decide)) cm_X5_sleigh q323 q324 q325 (ci := 5) rfl rfl (orcO 0 rfl) [0, 1, 2, 3, 4, 5, 6, 7, 8, 9, 10, 11, 12, 13, 14, 15, 16, 17] (by rfl) (by decide) (fun _ _ h => h) (by omega) (by omega) (by decide) (Nat.le_of_ble_eq_true rfl) dL_law_870 (fun v870 M870 hQ870 => ?_)
                  obtain ⟨rfl, rfl⟩ := hQ870
                  try dsimp only [wb, tlS_0, tlS_1, tlS_2, tlS_3, tlS_4, tlS_5, tlS_6, tlS_7, tlS_8, tlC_0, tlC_1, tlC_2, tlC_3, LawM, LakeM, WaysM, WorldM, SimM, List.set_cons_succ, List.set_cons_zero, List.append_nil, List.nil_append, List.cons_append, Option.toList, Nat.sub_zero]
                  refine v_if_le (pc := 873) (tgt := 885) dL_law_873 (by decide) (fun c873 => ?_) (fun c873 => ?_)
                  · refine v_iinc (pc := 885) (v := nI (i + 1)) dL_law_885 rfl (nI_1 _) (by show _ < 26; decide) rfl ?_
                    refine v_goto (pc := 888) (tgt := 330) dL_law_888 (by decide) ?_
                    refine v_room (ck' := ck + 20 * m) (sk' := sk + 120 * m) (by omega) (by omega) ?_
                    have k9 := ihK _ (lf_no (fun q => Int32.not_le.mpr q.2.2.2 c873) hL)
                    refine v_sub ?_ k9
                    exact ⟨rfl, rfl, rfl, rfl, rfl, rfl, rfl, rfl, rfl, rfl, rfl, rfl, rfl, rfl, rfl, rfl, rfl, trivial⟩
                  · refine v_aloadR (pc := 876) dL_law_876 rfl ?_
                    refine v_iload (pc := 878) dL_law_878 rfl ?_
                    refine v_dup2 (pc := 880) dL_law_880 rfl rfl ?_
                    refine v_ialdN (pc := 881) 54 (k := c4) rfl (by omega) (by omega) dL_law_881 ?_
                    refine v_iconst (pc := 882) (v := 1) dL_law_882 rfl ?_
                    refine v_iadd (pc := 883) dL_law_883 ?_
                    refine v_iastN (pc := 884) 54 (k := c4) rfl (by omega) (by omega) dL_law_884 ?_
                    try dsimp only [wb, tlS_0, tlS_1, tlS_2, tlS_3, tlS_4, tlS_5, tlS_6, tlS_7, tlS_8, tlC_0, tlC_1, tlC_2, tlC_3, LawM, LakeM, WaysM, WorldM, SimM, List.set_cons_succ, List.set_cons_zero, List.append_nil, List.nil_append, List.cons_append, Option.toList, Nat.sub_zero]
                    refine v_iinc (pc := 885) (v := nI (i + 1)) dL_law_885 rfl (nI_1 _) (by show _ < 26; decide) rfl ?_
                    refine v_goto (pc := 888) (tgt := 330) dL_law_888 (by decide) ?_
                    refine v_room (ck' := ck + 20 * m) (sk' := sk + 120 * m) (by omega) (by omega) ?_
                    have k9 := ihK _ (lf_yes ⟨c453, c479, c862, Int32.not_le.mp c873⟩ (by rw [e4]; exact cN_nI (by omega)) hc4 hL)
                    refine v_sub ?_ k9
                    exact ⟨rfl, rfl, rfl, rfl, rfl, rfl, rfl, rfl, rfl, rfl, rfl, rfl, rfl, rfl, rfl, rfl, rfl, trivial⟩
              · refine v_aloadR (pc := 835) dL_law_835 rfl ?_
                refine v_iload (pc := 837) dL_law_837 rfl ?_
                refine v_aaldS (pc := 839) 50 (k := i) (by decide) rfl (by omega) (by omega) dL_law_839 ?_
                refine v_iconst (pc := 840) (v := 3) dL_law_840 rfl ?_
                refine v_ialdGN (pc := 841) 51 (j := 3) rfl (by omega) (by decide) (by decide) dL_law_841 ?_
                try dsimp only [wb, tlS_0, tlS_1, tlS_2, tlS_3, tlS_4, tlS_5, tlS_6, tlS_7, tlS_8, tlC_0, tlC_1, tlC_2, tlC_3, LawM, LakeM, WaysM, WorldM, SimM, List.set_cons_succ, List.set_cons_zero, List.append_nil, List.nil_append, List.cons_append, Option.toList, Nat.sub_zero]
                refine v_iconst (pc := 842) (v := 1) dL_law_842 rfl ?_
                refine v_icmp_ne (pc := 843) (tgt := 853) dL_law_843 (by decide) (fun c843 => ?_) (fun c843 => absurd (g5a c832 c843) c616)
                refine v_aloadR (pc := 853) dL_law_853 rfl ?_
                refine v_iload (pc := 855) dL_law_855 rfl ?_
                refine v_aaldS (pc := 857) 50 (k := i) (by decide) rfl (by omega) (by omega) dL_law_857 ?_
                refine v_bipush (pc := 858) (v := 6) dL_law_858 rfl ?_
                refine v_ialdGN (pc := 860) 51 (j := 6) rfl (by omega) (by decide) (by decide) dL_law_860 ?_
                try dsimp only [wb, tlS_0, tlS_1, tlS_2, tlS_3, tlS_4, tlS_5, tlS_6, tlS_7, tlS_8, tlC_0, tlC_1, tlC_2, tlC_3, LawM, LakeM, WaysM, WorldM, SimM, List.set_cons_succ, List.set_cons_zero, List.append_nil, List.nil_append, List.cons_append, Option.toList, Nat.sub_zero]
                refine v_iconst (pc := 861) (v := 1) dL_law_861 rfl ?_
                refine v_icmp_gt (pc := 862) (tgt := 885) dL_law_862 (by decide) (fun c862 => ?_) (fun c862 => ?_)
                · refine v_iinc (pc := 885) (v := nI (i + 1)) dL_law_885 rfl (nI_1 _) (by show _ < 26; decide) rfl ?_
                  refine v_goto (pc := 888) (tgt := 330) dL_law_888 (by decide) ?_
                  refine v_room (ck' := ck + 20 * m) (sk' := sk + 120 * m) (by omega) (by omega) ?_
                  have k9 := ihK _ (lf_no (fun q => q.2.2.1 c862) hL)
                  refine v_sub ?_ k9
                  exact ⟨rfl, rfl, rfl, rfl, rfl, rfl, rfl, rfl, rfl, rfl, rfl, rfl, rfl, rfl, rfl, rfl, rfl, trivial⟩
                · refine v_aload_nR (pc := 865) dL_law_865 rfl rfl ?_
                  refine v_iload (pc := 866) dL_law_866 rfl ?_
                  refine v_bipush (pc := 868) (v := 6) dL_law_868 rfl ?_
                  refine v_callV2 (pc := 870) (c7_sleigh hps hsc hbc (s := i) (q := 6) hi (by decide)) cm_X5_sleigh q323 q324 q325 (ci := 5) rfl rfl (orcO 0 rfl) [0, 1, 2, 3, 4, 5, 6, 7, 8, 9, 10, 11, 12, 13, 14, 15, 16, 17] (by rfl) (by decide) (fun _ _ h => h) (by omega) (by omega) (by decide) (Nat.le_of_ble_eq_true rfl) dL_law_870 (fun v870 M870 hQ870 => ?_)
                  obtain ⟨rfl, rfl⟩ := hQ870
                  try dsimp only [wb, tlS_0, tlS_1, tlS_2, tlS_3, tlS_4, tlS_5, tlS_6, tlS_7, tlS_8, tlC_0, tlC_1, tlC_2, tlC_3, LawM, LakeM, WaysM, WorldM, SimM, List.set_cons_succ, List.set_cons_zero, List.append_nil, List.nil_append, List.cons_append, Option.toList, Nat.sub_zero]
                  refine v_if_le (pc := 873) (tgt := 885) dL_law_873 (by decide) (fun c873 => ?_) (fun c873 => ?_)
                  · refine v_iinc (pc := 885) (v := nI (i + 1)) dL_law_885 rfl (nI_1 _) (by show _ < 26; decide) rfl ?_
                    refine v_goto (pc := 888) (tgt := 330) dL_law_888 (by decide) ?_
                    refine v_room (ck' := ck + 20 * m) (sk' := sk + 120 * m) (by omega) (by omega) ?_
                    have k9 := ihK _ (lf_no (fun q => Int32.not_le.mpr q.2.2.2 c873) hL)
                    refine v_sub ?_ k9
                    exact ⟨rfl, rfl, rfl, rfl, rfl, rfl, rfl, rfl, rfl, rfl, rfl, rfl, rfl, rfl, rfl, rfl, rfl, trivial⟩
                  · refine v_aloadR (pc := 876) dL_law_876 rfl ?_
                    refine v_iload (pc := 878) dL_law_878 rfl ?_
                    refine v_dup2 (pc := 880) dL_law_880 rfl rfl ?_
                    refine v_ialdN (pc := 881) 54 (k := c4) rfl (by omega) (by omega) dL_law_881 ?_
                    refine v_iconst (pc := 882) (v := 1) dL_law_882 rfl ?_
                    refine v_iadd (pc := 883) dL_law_883 ?_
                    refine v_iastN (pc := 884) 54 (k := c4) rfl (by omega) (by omega) dL_law_884 ?_
                    try dsimp only [wb, tlS_0, tlS_1, tlS_2, tlS_3, tlS_4, tlS_5, tlS_6, tlS_7, tlS_8, tlC_0, tlC_1, tlC_2, tlC_3, LawM, LakeM, WaysM, WorldM, SimM, List.set_cons_succ, List.set_cons_zero, List.append_nil, List.nil_append, List.cons_append, Option.toList, Nat.sub_zero]
                    refine v_iinc (pc := 885) (v := nI (i + 1)) dL_law_885 rfl (nI_1 _) (by show _ < 26; decide) rfl ?_
                    refine v_goto (pc := 888) (tgt := 330) dL_law_888 (by decide) ?_
                    refine v_room (ck' := ck + 20 * m) (sk' := sk + 120 * m) (by omega) (by omega) ?_
                    have k9 := ihK _ (lf_yes ⟨c453, c479, c862, Int32.not_le.mp c873⟩ (by rw [e4]; exact cN_nI (by omega)) hc4 hL)
                    refine v_sub ?_ k9
                    exact ⟨rfl, rfl, rfl, rfl, rfl, rfl, rfl, rfl, rfl, rfl, rfl, rfl, rfl, rfl, rfl, rfl, rfl, trivial⟩
            · refine v_iload (pc := 825) dL_law_825 rfl ?_
              refine v_if_ne (pc := 827) (tgt := 851) dL_law_827 (by decide) (fun c827 => absurd (g4a c822) c827) (fun c827 => ?_)
              refine v_iload (pc := 830) dL_law_830 rfl ?_
              refine v_if_ne (pc := 832) (tgt := 853) dL_law_832 (by decide) (fun c832 => ?_) (fun c832 => ?_)
              · refine v_aloadR (pc := 853) dL_law_853 rfl ?_
                refine v_iload (pc := 855) dL_law_855 rfl ?_
                refine v_aaldS (pc := 857) 50 (k := i) (by decide) rfl (by omega) (by omega) dL_law_857 ?_
                refine v_bipush (pc := 858) (v := 6) dL_law_858 rfl ?_
                refine v_ialdGN (pc := 860) 51 (j := 6) rfl (by omega) (by decide) (by decide) dL_law_860 ?_
                try dsimp only [wb, tlS_0, tlS_1, tlS_2, tlS_3, tlS_4, tlS_5, tlS_6, tlS_7, tlS_8, tlC_0, tlC_1, tlC_2, tlC_3, LawM, LakeM, WaysM, WorldM, SimM, List.set_cons_succ, List.set_cons_zero, List.append_nil, List.nil_append, List.cons_append, Option.toList, Nat.sub_zero]
                refine v_iconst (pc := 861) (v := 1) dL_law_861 rfl ?_
                refine v_icmp_gt (pc := 862) (tgt := 885) dL_law_862 (by decide) (fun c862 => ?_) (fun c862 => ?_)
                · refine v_iinc (pc := 885) (v := nI (i + 1)) dL_law_885 rfl (nI_1 _) (by show _ < 26; decide) rfl ?_
                  refine v_goto (pc := 888) (tgt := 330) dL_law_888 (by decide) ?_
                  refine v_room (ck' := ck + 20 * m) (sk' := sk + 120 * m) (by omega) (by omega) ?_
                  have k9 := ihK _ (lf_no (fun q => q.2.2.1 c862) hL)
                  refine v_sub ?_ k9
                  exact ⟨rfl, rfl, rfl, rfl, rfl, rfl, rfl, rfl, rfl, rfl, rfl, rfl, rfl, rfl, rfl, rfl, rfl, trivial⟩
                · refine v_aload_nR (pc := 865) dL_law_865 rfl rfl ?_
                  refine v_iload (pc := 866) dL_law_866 rfl ?_
                  refine v_bipush (pc := 868) (v := 6) dL_law_868 rfl ?_
                  refine v_callV2 (pc := 870) (c7_sleigh hps hsc hbc (s := i) (q := 6) hi (by decide)) cm_X5_sleigh q323 q324 q325 (ci := 5) rfl rfl (orcO 0 rfl) [0, 1, 2, 3, 4, 5, 6, 7, 8, 9, 10, 11, 12, 13, 14, 15, 16, 17] (by rfl) (by decide) (fun _ _ h => h) (by omega) (by omega) (by decide) (Nat.le_of_ble_eq_true rfl) dL_law_870 (fun v870 M870 hQ870 => ?_)
                  obtain ⟨rfl, rfl⟩ := hQ870
                  try dsimp only [wb, tlS_0, tlS_1, tlS_2, tlS_3, tlS_4, tlS_5, tlS_6, tlS_7, tlS_8, tlC_0, tlC_1, tlC_2, tlC_3, LawM, LakeM, WaysM, WorldM, SimM, List.set_cons_succ, List.set_cons_zero, List.append_nil, List.nil_append, List.cons_append, Option.toList, Nat.sub_zero]
                  refine v_if_le (pc := 873) (tgt := 885) dL_law_873 (by decide) (fun c873 => ?_) (fun c873 => ?_)
                  · refine v_iinc (pc := 885) (v := nI (i + 1)) dL_law_885 rfl (nI_1 _) (by show _ < 26; decide) rfl ?_
                    refine v_goto (pc := 888) (tgt := 330) dL_law_888 (by decide) ?_
                    refine v_room (ck' := ck + 20 * m) (sk' := sk + 120 * m) (by omega) (by omega) ?_
                    have k9 := ihK _ (lf_no (fun q => Int32.not_le.mpr q.2.2.2 c873) hL)
                    refine v_sub ?_ k9
                    exact ⟨rfl, rfl, rfl, rfl, rfl, rfl, rfl, rfl, rfl, rfl, rfl, rfl, rfl, rfl, rfl, rfl, rfl, trivial⟩
                  · refine v_aloadR (pc := 876) dL_law_876 rfl ?_
                    refine v_iload (pc := 878) dL_law_878 rfl ?_
                    refine v_dup2 (pc := 880) dL_law_880 rfl rfl ?_
                    refine v_ialdN (pc := 881) 54 (k := c4) rfl (by omega) (by omega) dL_law_881 ?_
                    refine v_iconst (pc := 882) (v := 1) dL_law_882 rfl ?_
                    refine v_iadd (pc := 883) dL_law_883 ?_
                    refine v_iastN (pc := 884) 54 (k := c4) rfl (by omega) (by omega) dL_law_884 ?_
                    try dsimp only [wb, tlS_0, tlS_1, tlS_2, tlS_3, tlS_4, tlS_5, tlS_6, tlS_7, tlS_8, tlC_0, tlC_1, tlC_2, tlC_3, LawM, LakeM, WaysM, WorldM, SimM, List.set_cons_succ, List.set_cons_zero, List.append_nil, List.nil_append, List.cons_append, Option.toList, Nat.sub_zero]
                    refine v_iinc (pc := 885) (v := nI (i + 1)) dL_law_885 rfl (nI_1 _) (by show _ < 26; decide) rfl ?_
                    refine v_goto (pc := 888) (tgt := 330) dL_law_888 (by decide) ?_
                    refine v_room (ck' := ck + 20 * m) (sk' := sk + 120 * m) (by omega) (by omega) ?_
                    have k9 := ihK _ (lf_yes ⟨c453, c479, c862, Int32.not_le.mp c873⟩ (by rw [e4]; exact cN_nI (by omega)) hc4 hL)
                    refine v_sub ?_ k9
                    exact ⟨rfl, rfl, rfl, rfl, rfl, rfl, rfl, rfl, rfl, rfl, rfl, rfl, rfl, rfl, rfl, rfl, rfl, trivial⟩
              · refine v_aloadR (pc := 835) dL_law_835 rfl ?_
                refine v_iload (pc := 837) dL_law_837 rfl ?_
                refine v_aaldS (pc := 839) 50 (k := i) (by decide) rfl (by omega) (by omega) dL_law_839 ?_
                refine v_iconst (pc := 840) (v := 3) dL_law_840 rfl ?_
                refine v_ialdGN (pc := 841) 51 (j := 3) rfl (by omega) (by decide) (by decide) dL_law_841 ?_
                try dsimp only [wb, tlS_0, tlS_1, tlS_2, tlS_3, tlS_4, tlS_5, tlS_6, tlS_7, tlS_8, tlC_0, tlC_1, tlC_2, tlC_3, LawM, LakeM, WaysM, WorldM, SimM, List.set_cons_succ, List.set_cons_zero, List.append_nil, List.nil_append, List.cons_append, Option.toList, Nat.sub_zero]
                refine v_iconst (pc := 842) (v := 1) dL_law_842 rfl ?_
                refine v_icmp_ne (pc := 843) (tgt := 853) dL_law_843 (by decide) (fun c843 => ?_) (fun c843 => absurd (g5a c832 c843) c616)
                refine v_aloadR (pc := 853) dL_law_853 rfl ?_
                refine v_iload (pc := 855) dL_law_855 rfl ?_
                refine v_aaldS (pc := 857) 50 (k := i) (by decide) rfl (by omega) (by omega) dL_law_857 ?_
                refine v_bipush (pc := 858) (v := 6) dL_law_858 rfl ?_
                refine v_ialdGN (pc := 860) 51 (j := 6) rfl (by omega) (by decide) (by decide) dL_law_860 ?_
                try dsimp only [wb, tlS_0, tlS_1, tlS_2, tlS_3, tlS_4, tlS_5, tlS_6, tlS_7, tlS_8, tlC_0, tlC_1, tlC_2, tlC_3, LawM, LakeM, WaysM, WorldM, SimM, List.set_cons_succ, List.set_cons_zero, List.append_nil, List.nil_append, List.cons_append, Option.toList, Nat.sub_zero]
                refine v_iconst (pc := 861) (v := 1) dL_law_861 rfl ?_
                refine v_icmp_gt (pc := 862) (tgt := 885) dL_law_862 (by decide) (fun c862 => ?_) (fun c862 => ?_)
                · refine v_iinc (pc := 885) (v := nI (i + 1)) dL_law_885 rfl (nI_1 _) (by show _ < 26; decide) rfl ?_
                  refine v_goto (pc := 888) (tgt := 330) dL_law_888 (by decide) ?_
                  refine v_room (ck' := ck + 20 * m) (sk' := sk + 120 * m) (by omega) (by omega) ?_
                  have k9 := ihK _ (lf_no (fun q => q.2.2.1 c862) hL)
                  refine v_sub ?_ k9
                  exact ⟨rfl, rfl, rfl, rfl, rfl, rfl, rfl, rfl, rfl, rfl, rfl, rfl, rfl, rfl, rfl, rfl, rfl, trivial⟩
                · refine v_aload_nR (pc := 865) dL_law_865 rfl rfl ?_
                  refine v_iload (pc := 866) dL_law_866 rfl ?_
                  refine v_bipush (pc := 868) (v := 6) dL_law_868 rfl ?_
                  refine v_callV2 (pc := 870) (c7_sleigh hps hsc hbc (s := i) (q := 6) hi (by decide)) cm_X5_sleigh q323 q324 q325 (ci := 5) rfl rfl (orcO 0 rfl) [0, 1, 2, 3, 4, 5, 6, 7, 8, 9, 10, 11, 12, 13, 14, 15, 16, 17] (by rfl) (by decide) (fun _ _ h => h) (by omega) (by omega) (by decide) (Nat.le_of_ble_eq_true rfl) dL_law_870 (fun v870 M870 hQ870 => ?_)
                  obtain ⟨rfl, rfl⟩ := hQ870
                  try dsimp only [wb, tlS_0, tlS_1, tlS_2, tlS_3, tlS_4, tlS_5, tlS_6, tlS_7, tlS_8, tlC_0, tlC_1, tlC_2, tlC_3, LawM, LakeM, WaysM, WorldM, SimM, List.set_cons_succ, List.set_cons_zero, List.append_nil, List.nil_append, List.cons_append, Option.toList, Nat.sub_zero]
                  refine v_if_le (pc := 873) (tgt := 885) dL_law_873 (by decide) (fun c873 => ?_) (fun c873 => ?_)
                  · refine v_iinc (pc := 885) (v := nI (i + 1)) dL_law_885 rfl (nI_1 _) (by show _ < 26; decide) rfl ?_
                    refine v_goto (pc := 888) (tgt := 330) dL_law_888 (by decide) ?_
                    refine v_room (ck' := ck + 20 * m) (sk' := sk + 120 * m) (by omega) (by omega) ?_
                    have k9 := ihK _ (lf_no (fun q => Int32.not_le.mpr q.2.2.2 c873) hL)
                    refine v_sub ?_ k9
                    exact ⟨rfl, rfl, rfl, rfl, rfl, rfl, rfl, rfl, rfl, rfl, rfl, rfl, rfl, rfl, rfl, rfl, rfl, trivial⟩
                  · refine v_aloadR (pc := 876) dL_law_876 rfl ?_
                    refine v_iload (pc := 878) dL_law_878 rfl ?_
                    refine v_dup2 (pc := 880) dL_law_880 rfl rfl ?_
                    refine v_ialdN (pc := 881) 54 (k := c4) rfl (by omega) (by omega) dL_law_881 ?_
                    refine v_iconst (pc := 882) (v := 1) dL_law_882 rfl ?_
                    refine v_iadd (pc := 883) dL_law_883 ?_
                    refine v_iastN (pc := 884) 54 (k := c4) rfl (by omega) (by omega) dL_law_884 ?_
                    try dsimp only [wb, tlS_0, tlS_1, tlS_2, tlS_3, tlS_4, tlS_5, tlS_6, tlS_7, tlS_8, tlC_0, tlC_1, tlC_2, tlC_3, LawM, LakeM, WaysM, WorldM, SimM, List.set_cons_succ, List.set_cons_zero, List.append_nil, List.nil_append, List.cons_append, Option.toList, Nat.sub_zero]
                    refine v_iinc (pc := 885) (v := nI (i + 1)) dL_law_885 rfl (nI_1 _) (by show _ < 26; decide) rfl ?_
                    refine v_goto (pc := 888) (tgt := 330) dL_law_888 (by decide) ?_
                    refine v_room (ck' := ck + 20 * m) (sk' := sk + 120 * m) (by omega) (by omega) ?_
                    have k9 := ihK _ (lf_yes ⟨c453, c479, c862, Int32.not_le.mp c873⟩ (by rw [e4]; exact cN_nI (by omega)) hc4 hL)
                    refine v_sub ?_ k9
                    exact ⟨rfl, rfl, rfl, rfl, rfl, rfl, rfl, rfl, rfl, rfl, rfl, rfl, rfl, rfl, rfl, rfl, rfl, trivial⟩
        · refine v_aload_nR (pc := 764) dL_law_764 rfl rfl ?_
          refine v_iload (pc := 765) dL_law_765 rfl ?_
          refine v_bipush (pc := 767) (v := 6) dL_law_767 rfl ?_
          refine v_callV2 (pc := 769) (c7_sleigh hps hsc hbc (s := i) (q := 6) hi (by decide)) cm_X5_sleigh q323 q324 q325 (ci := 5) rfl rfl (orcO 0 rfl) [0, 1, 2, 3, 4, 5, 6, 7, 8, 9, 10, 11, 12, 13, 14, 15, 16, 17] (by rfl) (by decide) (fun _ _ h => h) (by omega) (by omega) (by decide) (Nat.le_of_ble_eq_true rfl) dL_law_769 (fun v769 M769 hQ769 => ?_)
          obtain ⟨rfl, rfl⟩ := hQ769
          try dsimp only [wb, tlS_0, tlS_1, tlS_2, tlS_3, tlS_4, tlS_5, tlS_6, tlS_7, tlS_8, tlC_0, tlC_1, tlC_2, tlC_3, LawM, LakeM, WaysM, WorldM, SimM, List.set_cons_succ, List.set_cons_zero, List.append_nil, List.nil_append, List.cons_append, Option.toList, Nat.sub_zero]
          refine v_aloadR (pc := 772) dL_law_772 rfl ?_
          refine v_iload (pc := 774) dL_law_774 rfl ?_
          refine v_aaldS (pc := 776) 50 (k := i) (by decide) rfl (by omega) (by omega) dL_law_776 ?_
          refine v_bipush (pc := 777) (v := 6) dL_law_777 rfl ?_
          refine v_ialdGN (pc := 779) 51 (j := 6) rfl (by omega) (by decide) (by decide) dL_law_779 ?_
          try dsimp only [wb, tlS_0, tlS_1, tlS_2, tlS_3, tlS_4, tlS_5, tlS_6, tlS_7, tlS_8, tlC_0, tlC_1, tlC_2, tlC_3, LawM, LakeM, WaysM, WorldM, SimM, List.set_cons_succ, List.set_cons_zero, List.append_nil, List.nil_append, List.cons_append, Option.toList, Nat.sub_zero]
          refine v_iconst (pc := 780) (v := 1) dL_law_780 rfl ?_
          refine v_isub (pc := 781) dL_law_781 ?_
          refine v_icmp_ne (pc := 782) (tgt := 791) dL_law_782 (by decide) (fun c782 => absurd (g3a (Int32.not_le.mp c761)).1 c782) (fun c782 => ?_)
          refine v_iload (pc := 785) dL_law_785 rfl ?_
          refine v_iconst (pc := 787) (v := 1) dL_law_787 rfl ?_
          refine v_icmp_eq (pc := 788) (tgt := 793) dL_law_788 (by decide) (fun c788 => ?_) (fun c788 => absurd (g3a (Int32.not_le.mp c761)).2 c788)
          refine v_iload (pc := 793) dL_law_793 rfl ?_
          refine v_if_ne (pc := 795) (tgt := 815) dL_law_795 (by decide) (fun c795 => ?_) (fun c795 => ?_)
          · refine v_aloadR (pc := 815) dL_law_815 rfl ?_
            refine v_iload (pc := 817) dL_law_817 rfl ?_
            refine v_aaldS (pc := 819) 50 (k := i) (by decide) rfl (by omega) (by omega) dL_law_819 ?_
            refine v_iconst (pc := 820) (v := 3) dL_law_820 rfl ?_
            refine v_ialdGN (pc := 821) 51 (j := 3) rfl (by omega) (by decide) (by decide) dL_law_821 ?_
            try dsimp only [wb, tlS_0, tlS_1, tlS_2, tlS_3, tlS_4, tlS_5, tlS_6, tlS_7, tlS_8, tlC_0, tlC_1, tlC_2, tlC_3, LawM, LakeM, WaysM, WorldM, SimM, List.set_cons_succ, List.set_cons_zero, List.append_nil, List.nil_append, List.cons_append, Option.toList, Nat.sub_zero]
            refine v_if_ne (pc := 822) (tgt := 830) dL_law_822 (by decide) (fun c822 => ?_) (fun c822 => ?_)
            · refine v_iload (pc := 830) dL_law_830 rfl ?_
              refine v_if_ne (pc := 832) (tgt := 853) dL_law_832 (by decide) (fun c832 => ?_) (fun c832 => ?_)
              · refine v_aloadR (pc := 853) dL_law_853 rfl ?_
                refine v_iload (pc := 855) dL_law_855 rfl ?_
                refine v_aaldS (pc := 857) 50 (k := i) (by decide) rfl (by omega) (by omega) dL_law_857 ?_
                refine v_bipush (pc := 858) (v := 6) dL_law_858 rfl ?_
                refine v_ialdGN (pc := 860) 51 (j := 6) rfl (by omega) (by decide) (by decide) dL_law_860 ?_
                try dsimp only [wb, tlS_0, tlS_1, tlS_2, tlS_3, tlS_4, tlS_5, tlS_6, tlS_7, tlS_8, tlC_0, tlC_1, tlC_2, tlC_3, LawM, LakeM, WaysM, WorldM, SimM, List.set_cons_succ, List.set_cons_zero, List.append_nil, List.nil_append, List.cons_append, Option.toList, Nat.sub_zero]
                refine v_iconst (pc := 861) (v := 1) dL_law_861 rfl ?_
                refine v_icmp_gt (pc := 862) (tgt := 885) dL_law_862 (by decide) (fun c862 => ?_) (fun c862 => ?_)
                · refine v_iinc (pc := 885) (v := nI (i + 1)) dL_law_885 rfl (nI_1 _) (by show _ < 26; decide) rfl ?_
                  refine v_goto (pc := 888) (tgt := 330) dL_law_888 (by decide) ?_
                  refine v_room (ck' := ck + 20 * m) (sk' := sk + 120 * m) (by omega) (by omega) ?_
                  have k9 := ihK _ (lf_no (fun q => q.2.2.1 c862) hL)
                  refine v_sub ?_ k9
                  exact ⟨rfl, rfl, rfl, rfl, rfl, rfl, rfl, rfl, rfl, rfl, rfl, rfl, rfl, rfl, rfl, rfl, rfl, trivial⟩
                · refine v_aload_nR (pc := 865) dL_law_865 rfl rfl ?_
                  refine v_iload (pc := 866) dL_law_866 rfl ?_
                  refine v_bipush (pc := 868) (v := 6) dL_law_868 rfl ?_
                  refine v_callV2 (pc := 870) (c7_sleigh hps hsc hbc (s := i) (q := 6) hi (by decide)) cm_X5_sleigh q323 q324 q325 (ci := 5) rfl rfl (orcO 0 rfl) [0, 1, 2, 3, 4, 5, 6, 7, 8, 9, 10, 11, 12, 13, 14, 15, 16, 17] (by rfl) (by decide) (fun _ _ h => h) (by omega) (by omega) (by decide) (Nat.le_of_ble_eq_true rfl) dL_law_870 (fun v870 M870 hQ870 => ?_)
                  obtain ⟨rfl, rfl⟩ := hQ870
                  try dsimp only [wb, tlS_0, tlS_1, tlS_2, tlS_3, tlS_4, tlS_5, tlS_6, tlS_7, tlS_8, tlC_0, tlC_1, tlC_2, tlC_3, LawM, LakeM, WaysM, WorldM, SimM, List.set_cons_succ, List.set_cons_zero, List.append_nil, List.nil_append, List.cons_append, Option.toList, Nat.sub_zero]
                  refine v_if_le (pc := 873) (tgt := 885) dL_law_873 (by decide) (fun c873 => ?_) (fun c873 => ?_)
                  · refine v_iinc (pc := 885) (v := nI (i + 1)) dL_law_885 rfl (nI_1 _) (by show _ < 26; decide) rfl ?_
                    refine v_goto (pc := 888) (tgt := 330) dL_law_888 (by decide) ?_
                    refine v_room (ck' := ck + 20 * m) (sk' := sk + 120 * m) (by omega) (by omega) ?_
                    have k9 := ihK _ (lf_no (fun q => Int32.not_le.mpr q.2.2.2 c873) hL)
                    refine v_sub ?_ k9
                    exact ⟨rfl, rfl, rfl, rfl, rfl, rfl, rfl, rfl, rfl, rfl, rfl, rfl, rfl, rfl, rfl, rfl, rfl, trivial⟩
                  · refine v_aloadR (pc := 876) dL_law_876 rfl ?_
                    refine v_iload (pc := 878) dL_law_878 rfl ?_
                    refine v_dup2 (pc := 880) dL_law_880 rfl rfl ?_
                    refine v_ialdN (pc := 881) 54 (k := c4) rfl (by omega) (by omega) dL_law_881 ?_
                    refine v_iconst (pc := 882) (v := 1) dL_law_882 rfl ?_
                    refine v_iadd (pc := 883) dL_law_883 ?_
                    refine v_iastN (pc := 884) 54 (k := c4) rfl (by omega) (by omega) dL_law_884 ?_
                    try dsimp only [wb, tlS_0, tlS_1, tlS_2, tlS_3, tlS_4, tlS_5, tlS_6, tlS_7, tlS_8, tlC_0, tlC_1, tlC_2, tlC_3, LawM, LakeM, WaysM, WorldM, SimM, List.set_cons_succ, List.set_cons_zero, List.append_nil, List.nil_append, List.cons_append, Option.toList, Nat.sub_zero]
                    refine v_iinc (pc := 885) (v := nI (i + 1)) dL_law_885 rfl (nI_1 _) (by show _ < 26; decide) rfl ?_
                    refine v_goto (pc := 888) (tgt := 330) dL_law_888 (by decide) ?_
                    refine v_room (ck' := ck + 20 * m) (sk' := sk + 120 * m) (by omega) (by omega) ?_
                    have k9 := ihK _ (lf_yes ⟨c453, c479, c862, Int32.not_le.mp c873⟩ (by rw [e4]; exact cN_nI (by omega)) hc4 hL)
                    refine v_sub ?_ k9
                    exact ⟨rfl, rfl, rfl, rfl, rfl, rfl, rfl, rfl, rfl, rfl, rfl, rfl, rfl, rfl, rfl, rfl, rfl, trivial⟩
              · refine v_aloadR (pc := 835) dL_law_835 rfl ?_
                refine v_iload (pc := 837) dL_law_837 rfl ?_
                refine v_aaldS (pc := 839) 50 (k := i) (by decide) rfl (by omega) (by omega) dL_law_839 ?_
                refine v_iconst (pc := 840) (v := 3) dL_law_840 rfl ?_
                refine v_ialdGN (pc := 841) 51 (j := 3) rfl (by omega) (by decide) (by decide) dL_law_841 ?_
                try dsimp only [wb, tlS_0, tlS_1, tlS_2, tlS_3, tlS_4, tlS_5, tlS_6, tlS_7, tlS_8, tlC_0, tlC_1, tlC_2, tlC_3, LawM, LakeM, WaysM, WorldM, SimM, List.set_cons_succ, List.set_cons_zero, List.append_nil, List.nil_append, List.cons_append, Option.toList, Nat.sub_zero]
                refine v_iconst (pc := 842) (v := 1) dL_law_842 rfl ?_
                refine v_icmp_ne (pc := 843) (tgt := 853) dL_law_843 (by decide) (fun c843 => ?_) (fun c843 => absurd (g5a c832 c843) c616)
                refine v_aloadR (pc := 853) dL_law_853 rfl ?_
                refine v_iload (pc := 855) dL_law_855 rfl ?_
                refine v_aaldS (pc := 857) 50 (k := i) (by decide) rfl (by omega) (by omega) dL_law_857 ?_
                refine v_bipush (pc := 858) (v := 6) dL_law_858 rfl ?_
                refine v_ialdGN (pc := 860) 51 (j := 6) rfl (by omega) (by decide) (by decide) dL_law_860 ?_
                try dsimp only [wb, tlS_0, tlS_1, tlS_2, tlS_3, tlS_4, tlS_5, tlS_6, tlS_7, tlS_8, tlC_0, tlC_1, tlC_2, tlC_3, LawM, LakeM, WaysM, WorldM, SimM, List.set_cons_succ, List.set_cons_zero, List.append_nil, List.nil_append, List.cons_append, Option.toList, Nat.sub_zero]
                refine v_iconst (pc := 861) (v := 1) dL_law_861 rfl ?_
                refine v_icmp_gt (pc := 862) (tgt := 885) dL_law_862 (by decide) (fun c862 => ?_) (fun c862 => ?_)
                · refine v_iinc (pc := 885) (v := nI (i + 1)) dL_law_885 rfl (nI_1 _) (by show _ < 26; decide) rfl ?_
                  refine v_goto (pc := 888) (tgt := 330) dL_law_888 (by decide) ?_
                  refine v_room (ck' := ck + 20 * m) (sk' := sk + 120 * m) (by omega) (by omega) ?_
                  have k9 := ihK _ (lf_no (fun q => q.2.2.1 c862) hL)
                  refine v_sub ?_ k9
                  exact ⟨rfl, rfl, rfl, rfl, rfl, rfl, rfl, rfl, rfl, rfl, rfl, rfl, rfl, rfl, rfl, rfl, rfl, trivial⟩
                · refine v_aload_nR (pc := 865) dL_law_865 rfl rfl ?_
                  refine v_iload (pc := 866) dL_law_866 rfl ?_
                  refine v_bipush (pc := 868) (v := 6) dL_law_868 rfl ?_
                  refine v_callV2 (pc := 870) (c7_sleigh hps hsc hbc (s := i) (q := 6) hi (by decide)) cm_X5_sleigh q323 q324 q325 (ci := 5) rfl rfl (orcO 0 rfl) [0, 1, 2, 3, 4, 5, 6, 7, 8, 9, 10, 11, 12, 13, 14, 15, 16, 17] (by rfl) (by decide) (fun _ _ h => h) (by omega) (by omega) (by decide) (Nat.le_of_ble_eq_true rfl) dL_law_870 (fun v870 M870 hQ870 => ?_)
                  obtain ⟨rfl, rfl⟩ := hQ870
                  try dsimp only [wb, tlS_0, tlS_1, tlS_2, tlS_3, tlS_4, tlS_5, tlS_6, tlS_7, tlS_8, tlC_0, tlC_1, tlC_2, tlC_3, LawM, LakeM, WaysM, WorldM, SimM, List.set_cons_succ, List.set_cons_zero, List.append_nil, List.nil_append, List.cons_append, Option.toList, Nat.sub_zero]
                  refine v_if_le (pc := 873) (tgt := 885) dL_law_873 (by decide) (fun c873 => ?_) (fun c873 => ?_)
                  · refine v_iinc (pc := 885) (v := nI (i + 1)) dL_law_885 rfl (nI_1 _) (by show _ < 26; decide) rfl ?_
                    refine v_goto (pc := 888) (tgt := 330) dL_law_888 (by decide) ?_
                    refine v_room (ck' := ck + 20 * m) (sk' := sk + 120 * m) (by omega) (by omega) ?_
                    have k9 := ihK _ (lf_no (fun q => Int32.not_le.mpr q.2.2.2 c873) hL)
                    refine v_sub ?_ k9
                    exact ⟨rfl, rfl, rfl, rfl, rfl, rfl, rfl, rfl, rfl, rfl, rfl, rfl, rfl, rfl, rfl, rfl, rfl, trivial⟩
                  · refine v_aloadR (pc := 876) dL_law_876 rfl ?_
                    refine v_iload (pc := 878) dL_law_878 rfl ?_
                    refine v_dup2 (pc := 880) dL_law_880 rfl rfl ?_
                    refine v_ialdN (pc := 881) 54 (k := c4) rfl (by omega) (by omega) dL_law_881 ?_
                    refine v_iconst (pc := 882) (v := 1) dL_law_882 rfl ?_
                    refine v_iadd (pc := 883) dL_law_883 ?_
                    refine v_iastN (pc := 884) 54 (k := c4) rfl (by omega) (by omega) dL_law_884 ?_
                    try dsimp only [wb, tlS_0, tlS_1, tlS_2, tlS_3, tlS_4, tlS_5, tlS_6, tlS_7, tlS_8, tlC_0, tlC_1, tlC_2, tlC_3, LawM, LakeM, WaysM, WorldM, SimM, List.set_cons_succ, List.set_cons_zero, List.append_nil, List.nil_append, List.cons_append, Option.toList, Nat.sub_zero]
                    refine v_iinc (pc := 885) (v := nI (i + 1)) dL_law_885 rfl (nI_1 _) (by show _ < 26; decide) rfl ?_
                    refine v_goto (pc := 888) (tgt := 330) dL_law_888 (by decide) ?_
                    refine v_room (ck' := ck + 20 * m) (sk' := sk + 120 * m) (by omega) (by omega) ?_
                    have k9 := ihK _ (lf_yes ⟨c453, c479, c862, Int32.not_le.mp c873⟩ (by rw [e4]; exact cN_nI (by omega)) hc4 hL)
                    refine v_sub ?_ k9
                    exact ⟨rfl, rfl, rfl, rfl, rfl, rfl, rfl, rfl, rfl, rfl, rfl, rfl, rfl, rfl, rfl, rfl, rfl, trivial⟩
            · refine v_iload (pc := 825) dL_law_825 rfl ?_
              refine v_if_ne (pc := 827) (tgt := 851) dL_law_827 (by decide) (fun c827 => absurd (g4a c822) c827) (fun c827 => ?_)
              refine v_iload (pc := 830) dL_law_830 rfl ?_
              refine v_if_ne (pc := 832) (tgt := 853) dL_law_832 (by decide) (fun c832 => ?_) (fun c832 => ?_)
              · refine v_aloadR (pc := 853) dL_law_853 rfl ?_
                refine v_iload (pc := 855) dL_law_855 rfl ?_
                refine v_aaldS (pc := 857) 50 (k := i) (by decide) rfl (by omega) (by omega) dL_law_857 ?_
                refine v_bipush (pc := 858) (v := 6) dL_law_858 rfl ?_
                refine v_ialdGN (pc := 860) 51 (j := 6) rfl (by omega) (by decide) (by decide) dL_law_860 ?_
                try dsimp only [wb, tlS_0, tlS_1, tlS_2, tlS_3, tlS_4, tlS_5, tlS_6, tlS_7, tlS_8, tlC_0, tlC_1, tlC_2, tlC_3, LawM, LakeM, WaysM, WorldM, SimM, List.set_cons_succ, List.set_cons_zero, List.append_nil, List.nil_append, List.cons_append, Option.toList, Nat.sub_zero]
                refine v_iconst (pc := 861) (v := 1) dL_law_861 rfl ?_
                refine v_icmp_gt (pc := 862) (tgt := 885) dL_law_862 (by decide) (fun c862 => ?_) (fun c862 => ?_)
                · refine v_iinc (pc := 885) (v := nI (i + 1)) dL_law_885 rfl (nI_1 _) (by show _ < 26; decide) rfl ?_
                  refine v_goto (pc := 888) (tgt := 330) dL_law_888 (by decide) ?_
                  refine v_room (ck' := ck + 20 * m) (sk' := sk + 120 * m) (by omega) (by omega) ?_
                  have k9 := ihK _ (lf_no (fun q => q.2.2.1 c862) hL)
                  refine v_sub ?_ k9
                  exact ⟨rfl, rfl, rfl, rfl, rfl, rfl, rfl, rfl, rfl, rfl, rfl, rfl, rfl, rfl, rfl, rfl, rfl, trivial⟩
                · refine v_aload_nR (pc := 865) dL_law_865 rfl rfl ?_
                  refine v_iload (pc := 866) dL_law_866 rfl ?_
                  refine v_bipush (pc := 868) (v := 6) dL_law_868 rfl ?_
                  refine v_callV2 (pc := 870) (c7_sleigh hps hsc hbc (s := i) (q := 6) hi (by decide)) cm_X5_sleigh q323 q324 q325 (ci := 5) rfl rfl (orcO 0 rfl) [0, 1, 2, 3, 4, 5, 6, 7, 8, 9, 10, 11, 12, 13, 14, 15, 16, 17] (by rfl) (by decide) (fun _ _ h => h) (by omega) (by omega) (by decide) (Nat.le_of_ble_eq_true rfl) dL_law_870 (fun v870 M870 hQ870 => ?_)
                  obtain ⟨rfl, rfl⟩ := hQ870
                  try dsimp only [wb, tlS_0, tlS_1, tlS_2, tlS_3, tlS_4, tlS_5, tlS_6, tlS_7, tlS_8, tlC_0, tlC_1, tlC_2, tlC_3, LawM, LakeM, WaysM, WorldM, SimM, List.set_cons_succ, List.set_cons_zero, List.append_nil, List.nil_append, List.cons_append, Option.toList, Nat.sub_zero]
                  refine v_if_le (pc := 873) (tgt := 885) dL_law_873 (by decide) (fun c873 => ?_) (fun c873 => ?_)
                  · refine v_iinc (pc := 885) (v := nI (i + 1)) dL_law_885 rfl (nI_1 _) (by show _ < 26; decide) rfl ?_
                    refine v_goto (pc := 888) (tgt := 330) dL_law_888 (by decide) ?_
                    refine v_room (ck' := ck + 20 * m) (sk' := sk + 120 * m) (by omega) (by omega) ?_
                    have k9 := ihK _ (lf_no (fun q => Int32.not_le.mpr q.2.2.2 c873) hL)
                    refine v_sub ?_ k9
                    exact ⟨rfl, rfl, rfl, rfl, rfl, rfl, rfl, rfl, rfl, rfl, rfl, rfl, rfl, rfl, rfl, rfl, rfl, trivial⟩
                  · refine v_aloadR (pc := 876) dL_law_876 rfl ?_
                    refine v_iload (pc := 878) dL_law_878 rfl ?_
                    refine v_dup2 (pc := 880) dL_law_880 rfl rfl ?_
                    refine v_ialdN (pc := 881) 54 (k := c4) rfl (by omega) (by omega) dL_law_881 ?_
                    refine v_iconst (pc := 882) (v := 1) dL_law_882 rfl ?_
                    refine v_iadd (pc := 883) dL_law_883 ?_
                    refine v_iastN (pc := 884) 54 (k := c4) rfl (by omega) (by omega) dL_law_884 ?_
                    try dsimp only [wb, tlS_0, tlS_1, tlS_2, tlS_3, tlS_4, tlS_5, tlS_6, tlS_7, tlS_8, tlC_0, tlC_1, tlC_2, tlC_3, LawM, LakeM, WaysM, WorldM, SimM, List.set_cons_succ, List.set_cons_zero, List.append_nil, List.nil_append, List.cons_append, Option.toList, Nat.sub_zero]
                    refine v_iinc (pc := 885) (v := nI (i + 1)) dL_law_885 rfl (nI_1 _) (by show _ < 26; decide) rfl ?_
                    refine v_goto (pc := 888) (tgt := 330) dL_law_888 (by decide) ?_
                    refine v_room (ck' := ck + 20 * m) (sk' := sk + 120 * m) (by omega) (by omega) ?_
                    have k9 := ihK _ (lf_yes ⟨c453, c479, c862, Int32.not_le.mp c873⟩ (by rw [e4]; exact cN_nI (by omega)) hc4 hL)
                    refine v_sub ?_ k9
                    exact ⟨rfl, rfl, rfl, rfl, rfl, rfl, rfl, rfl, rfl, rfl, rfl, rfl, rfl, rfl, rfl, rfl, rfl, trivial⟩
              · refine v_aloadR (pc := 835) dL_law_835 rfl ?_
                refine v_iload (pc := 837) dL_law_837 rfl ?_
                refine v_aaldS (pc := 839) 50 (k := i) (by decide) rfl (by omega) (by omega) dL_law_839 ?_
                refine v_iconst (pc := 840) (v := 3) dL_law_840 rfl ?_
                refine v_ialdGN (pc := 841) 51 (j := 3) rfl (by omega) (by decide) (by decide) dL_law_841 ?_
                try dsimp only [wb, tlS_0, tlS_1, tlS_2, tlS_3, tlS_4, tlS_5, tlS_6, tlS_7, tlS_8, tlC_0, tlC_1, tlC_2, tlC_3, LawM, LakeM, WaysM, WorldM, SimM, List.set_cons_succ, List.set_cons_zero, List.append_nil, List.nil_append, List.cons_append, Option.toList, Nat.sub_zero]
                refine v_iconst (pc := 842) (v := 1) dL_law_842 rfl ?_
                refine v_icmp_ne (pc := 843) (tgt := 853) dL_law_843 (by decide) (fun c843 => ?_) (fun c843 => absurd (g5a c832 c843) c616)
                refine v_aloadR (pc := 853) dL_law_853 rfl ?_
                refine v_iload (pc := 855) dL_law_855 rfl ?_
                refine v_aaldS (pc := 857) 50 (k := i) (by decide) rfl (by omega) (by omega) dL_law_857 ?_
                refine v_bipush (pc := 858) (v := 6) dL_law_858 rfl ?_
                refine v_ialdGN (pc := 860) 51 (j := 6) rfl (by omega) (by decide) (by decide) dL_law_860 ?_
                try dsimp only [wb, tlS_0, tlS_1, tlS_2, tlS_3, tlS_4, tlS_5, tlS_6, tlS_7, tlS_8, tlC_0, tlC_1, tlC_2, tlC_3, LawM, LakeM, WaysM, WorldM, SimM, List.set_cons_succ, List.set_cons_zero, List.append_nil, List.nil_append, List.cons_append, Option.toList, Nat.sub_zero]
                refine v_iconst (pc := 861) (v := 1) dL_law_861 rfl ?_
                refine v_icmp_gt (pc := 862) (tgt := 885) dL_law_862 (by decide) (fun c862 => ?_) (fun c862 => ?_)
                · refine v_iinc (pc := 885) (v := nI (i + 1)) dL_law_885 rfl (nI_1 _) (by show _ < 26; decide) rfl ?_
                  refine v_goto (pc := 888) (tgt := 330) dL_law_888 (by decide) ?_
                  refine v_room (ck' := ck + 20 * m) (sk' := sk + 120 * m) (by omega) (by omega) ?_
                  have k9 := ihK _ (lf_no (fun q => q.2.2.1 c862) hL)
                  refine v_sub ?_ k9
                  exact ⟨rfl, rfl, rfl, rfl, rfl, rfl, rfl, rfl, rfl, rfl, rfl, rfl, rfl, rfl, rfl, rfl, rfl, trivial⟩
                · refine v_aload_nR (pc := 865) dL_law_865 rfl rfl ?_
                  refine v_iload (pc := 866) dL_law_866 rfl ?_
                  refine v_bipush (pc := 868) (v := 6) dL_law_868 rfl ?_
                  refine v_callV2 (pc := 870) (c7_sleigh hps hsc hbc (s := i) (q := 6) hi (by decide)) cm_X5_sleigh q323 q324 q325 (ci := 5) rfl rfl (orcO 0 rfl) [0, 1, 2, 3, 4, 5, 6, 7, 8, 9, 10, 11, 12, 13, 14, 15, 16, 17] (by rfl) (by decide) (fun _ _ h => h) (by omega) (by omega) (by decide) (Nat.le_of_ble_eq_true rfl) dL_law_870 (fun v870 M870 hQ870 => ?_)
                  obtain ⟨rfl, rfl⟩ := hQ870
                  try dsimp only [wb, tlS_0, tlS_1, tlS_2, tlS_3, tlS_4, tlS_5, tlS_6, tlS_7, tlS_8, tlC_0, tlC_1, tlC_2, tlC_3, LawM, LakeM, WaysM, WorldM, SimM, List.set_cons_succ, List.set_cons_zero, List.append_nil, List.nil_append, List.cons_append, Option.toList, Nat.sub_zero]
                  refine v_if_le (pc := 873) (tgt := 885) dL_law_873 (by decide) (fun c873 => ?_) (fun c873 => ?_)
                  · refine v_iinc (pc := 885) (v := nI (i + 1)) dL_law_885 rfl (nI_1 _) (by show _ < 26; decide) rfl ?_
                    refine v_goto (pc := 888) (tgt := 330) dL_law_888 (by decide) ?_
                    refine v_room (ck' := ck + 20 * m) (sk' := sk + 120 * m) (by omega) (by omega) ?_
                    have k9 := ihK _ (lf_no (fun q => Int32.not_le.mpr q.2.2.2 c873) hL)
                    refine v_sub ?_ k9
                    exact ⟨rfl, rfl, rfl, rfl, rfl, rfl, rfl, rfl, rfl, rfl, rfl, rfl, rfl, rfl, rfl, rfl, rfl, trivial⟩
                  · refine v_aloadR (pc := 876) dL_law_876 rfl ?_
                    refine v_iload (pc := 878) dL_law_878 rfl ?_
                    refine v_dup2 (pc := 880) dL_law_880 rfl rfl ?_
                    refine v_ialdN (pc := 881) 54 (k := c4) rfl (by omega) (by omega) dL_law_881 ?_
                    refine v_iconst (pc := 882) (v := 1) dL_law_882 rfl ?_
                    refine v_iadd (pc := 883) dL_law_883 ?_
                    refine v_iastN (pc := 884) 54 (k := c4) rfl (by omega) (by omega) dL_law_884 ?_
                    try dsimp only [wb, tlS_0, tlS_1, tlS_2, tlS_3, tlS_4, tlS_5, tlS_6, tlS_7, tlS_8, tlC_0, tlC_1, tlC_2, tlC_3, LawM, LakeM, WaysM, WorldM, SimM, List.set_cons_succ, List.set_cons_zero, List.append_nil, List.nil_append, List.cons_append, Option.toList, Nat.sub_zero]
                    refine v_iinc (pc := 885) (v := nI (i + 1)) dL_law_885 rfl (nI_1 _) (by show _ < 26; decide) rfl ?_
                    refine v_goto (pc := 888) (tgt := 330) dL_law_888 (by decide) ?_
                    refine v_room (ck' := ck + 20 * m) (sk' := sk + 120 * m) (by omega) (by omega) ?_
                    have k9 := ihK _ (lf_yes ⟨c453, c479, c862, Int32.not_le.mp c873⟩ (by rw [e4]; exact cN_nI (by omega)) hc4 hL)
                    refine v_sub ?_ k9
                    exact ⟨rfl, rfl, rfl, rfl, rfl, rfl, rfl, rfl, rfl, rfl, rfl, rfl, rfl, rfl, rfl, rfl, rfl, trivial⟩
          · obtain ⟨p5a, p5b⟩ := (hI.1.2.2.2.1.2.1 i hi).2.1 c795
            obtain ⟨p5q, hq5, e5⟩ := kOf p5a (by omega)
            have hPq : nI c4 = PC p5q := by rw [← e4, p5b, e5, cop_k hq5 hps]
            refine v_iload (pc := 798) dL_law_798 rfl ?_
            refine v_aload_nR (pc := 800) dL_law_800 rfl rfl ?_
            refine v_get (pc := 801) 6 35 fg_L_58 rfl rfl dL_law_801 ?_
            refine v_aload_nR (pc := 804) dL_law_804 rfl rfl ?_
            refine v_iload (pc := 805) dL_law_805 rfl ?_
            refine v_iconst (pc := 807) (v := 5) dL_law_807 rfl ?_
            refine v_callV2 (pc := 808) (c7_sleigh hps hsc hbc (s := i) (q := 5) hi (by decide)) cm_X5_sleigh q323 q324 q325 (ci := 5) rfl rfl (orcO 0 rfl) [0, 1, 2, 3, 4, 5, 6, 7, 8, 9, 10, 11, 12, 13, 14, 15, 16, 17] (by rfl) (by decide) (fun _ _ h => h) (by omega) (by omega) (by decide) (Nat.le_of_ble_eq_true rfl) dL_law_808 (fun v808 M808 hQ808 => ?_)
            obtain ⟨rfl, rfl⟩ := hQ808
            try dsimp only [wb, tlS_0, tlS_1, tlS_2, tlS_3, tlS_4, tlS_5, tlS_6, tlS_7, tlS_8, tlC_0, tlC_1, tlC_2, tlC_3, LawM, LakeM, WaysM, WorldM, SimM, List.set_cons_succ, List.set_cons_zero, List.append_nil, List.nil_append, List.cons_append, Option.toList, Nat.sub_zero]
            rw [e5]
            refine v_ialdN (pc := 811) 41 (k := p5q) rfl (by omega) (by omega) dL_law_811 ?_
            refine v_icmp_ne (pc := 812) (tgt := 851) dL_law_812 (by decide) (fun c812 => absurd hPq c812) (fun c812 => ?_)
            refine v_aloadR (pc := 815) dL_law_815 rfl ?_
            refine v_iload (pc := 817) dL_law_817 rfl ?_
            refine v_aaldS (pc := 819) 50 (k := i) (by decide) rfl (by omega) (by omega) dL_law_819 ?_
            refine v_iconst (pc := 820) (v := 3) dL_law_820 rfl ?_
            refine v_ialdGN (pc := 821) 51 (j := 3) rfl (by omega) (by decide) (by decide) dL_law_821 ?_
            try dsimp only [wb, tlS_0, tlS_1, tlS_2, tlS_3, tlS_4, tlS_5, tlS_6, tlS_7, tlS_8, tlC_0, tlC_1, tlC_2, tlC_3, LawM, LakeM, WaysM, WorldM, SimM, List.set_cons_succ, List.set_cons_zero, List.append_nil, List.nil_append, List.cons_append, Option.toList, Nat.sub_zero]
            refine v_if_ne (pc := 822) (tgt := 830) dL_law_822 (by decide) (fun c822 => ?_) (fun c822 => ?_)
            · refine v_iload (pc := 830) dL_law_830 rfl ?_
              refine v_if_ne (pc := 832) (tgt := 853) dL_law_832 (by decide) (fun c832 => ?_) (fun c832 => ?_)
              · refine v_aloadR (pc := 853) dL_law_853 rfl ?_
                refine v_iload (pc := 855) dL_law_855 rfl ?_
                refine v_aaldS (pc := 857) 50 (k := i) (by decide) rfl (by omega) (by omega) dL_law_857 ?_
                refine v_bipush (pc := 858) (v := 6) dL_law_858 rfl ?_
                refine v_ialdGN (pc := 860) 51 (j := 6) rfl (by omega) (by decide) (by decide) dL_law_860 ?_
                try dsimp only [wb, tlS_0, tlS_1, tlS_2, tlS_3, tlS_4, tlS_5, tlS_6, tlS_7, tlS_8, tlC_0, tlC_1, tlC_2, tlC_3, LawM, LakeM, WaysM, WorldM, SimM, List.set_cons_succ, List.set_cons_zero, List.append_nil, List.nil_append, List.cons_append, Option.toList, Nat.sub_zero]
                refine v_iconst (pc := 861) (v := 1) dL_law_861 rfl ?_
                refine v_icmp_gt (pc := 862) (tgt := 885) dL_law_862 (by decide) (fun c862 => ?_) (fun c862 => ?_)
                · refine v_iinc (pc := 885) (v := nI (i + 1)) dL_law_885 rfl (nI_1 _) (by show _ < 26; decide) rfl ?_
                  refine v_goto (pc := 888) (tgt := 330) dL_law_888 (by decide) ?_
                  refine v_room (ck' := ck + 20 * m) (sk' := sk + 120 * m) (by omega) (by omega) ?_
                  have k9 := ihK _ (lf_no (fun q => q.2.2.1 c862) hL)
                  refine v_sub ?_ k9
                  exact ⟨rfl, rfl, rfl, rfl, rfl, rfl, rfl, rfl, rfl, rfl, rfl, rfl, rfl, rfl, rfl, rfl, rfl, trivial⟩
                · refine v_aload_nR (pc := 865) dL_law_865 rfl rfl ?_
                  refine v_iload (pc := 866) dL_law_866 rfl ?_
                  refine v_bipush (pc := 868) (v := 6) dL_law_868 rfl ?_
                  refine v_callV2 (pc := 870) (c7_sleigh hps hsc hbc (s := i) (q := 6) hi (by decide)) cm_X5_sleigh q323 q324 q325 (ci := 5) rfl rfl (orcO 0 rfl) [0, 1, 2, 3, 4, 5, 6, 7, 8, 9, 10, 11, 12, 13, 14, 15, 16, 17] (by rfl) (by decide) (fun _ _ h => h) (by omega) (by omega) (by decide) (Nat.le_of_ble_eq_true rfl) dL_law_870 (fun v870 M870 hQ870 => ?_)
                  obtain ⟨rfl, rfl⟩ := hQ870
                  try dsimp only [wb, tlS_0, tlS_1, tlS_2, tlS_3, tlS_4, tlS_5, tlS_6, tlS_7, tlS_8, tlC_0, tlC_1, tlC_2, tlC_3, LawM, LakeM, WaysM, WorldM, SimM, List.set_cons_succ, List.set_cons_zero, List.append_nil, List.nil_append, List.cons_append, Option.toList, Nat.sub_zero]
                  refine v_if_le (pc := 873) (tgt := 885) dL_law_873 (by decide) (fun c873 => ?_) (fun c873 => ?_)
                  · refine v_iinc (pc := 885) (v := nI (i + 1)) dL_law_885 rfl (nI_1 _) (by show _ < 26; decide) rfl ?_
                    refine v_goto (pc := 888) (tgt := 330) dL_law_888 (by decide) ?_
                    refine v_room (ck' := ck + 20 * m) (sk' := sk + 120 * m) (by omega) (by omega) ?_
                    have k9 := ihK _ (lf_no (fun q => Int32.not_le.mpr q.2.2.2 c873) hL)
                    refine v_sub ?_ k9
                    exact ⟨rfl, rfl, rfl, rfl, rfl, rfl, rfl, rfl, rfl, rfl, rfl, rfl, rfl, rfl, rfl, rfl, rfl, trivial⟩
                  · refine v_aloadR (pc := 876) dL_law_876 rfl ?_
                    refine v_iload (pc := 878) dL_law_878 rfl ?_
                    refine v_dup2 (pc := 880) dL_law_880 rfl rfl ?_
                    refine v_ialdN (pc := 881) 54 (k := c4) rfl (by omega) (by omega) dL_law_881 ?_
                    refine v_iconst (pc := 882) (v := 1) dL_law_882 rfl ?_
                    refine v_iadd (pc := 883) dL_law_883 ?_
                    refine v_iastN (pc := 884) 54 (k := c4) rfl (by omega) (by omega) dL_law_884 ?_
                    try dsimp only [wb, tlS_0, tlS_1, tlS_2, tlS_3, tlS_4, tlS_5, tlS_6, tlS_7, tlS_8, tlC_0, tlC_1, tlC_2, tlC_3, LawM, LakeM, WaysM, WorldM, SimM, List.set_cons_succ, List.set_cons_zero, List.append_nil, List.nil_append, List.cons_append, Option.toList, Nat.sub_zero]
                    refine v_iinc (pc := 885) (v := nI (i + 1)) dL_law_885 rfl (nI_1 _) (by show _ < 26; decide) rfl ?_
                    refine v_goto (pc := 888) (tgt := 330) dL_law_888 (by decide) ?_
                    refine v_room (ck' := ck + 20 * m) (sk' := sk + 120 * m) (by omega) (by omega) ?_
                    have k9 := ihK _ (lf_yes ⟨c453, c479, c862, Int32.not_le.mp c873⟩ (by rw [e4]; exact cN_nI (by omega)) hc4 hL)
                    refine v_sub ?_ k9
                    exact ⟨rfl, rfl, rfl, rfl, rfl, rfl, rfl, rfl, rfl, rfl, rfl, rfl, rfl, rfl, rfl, rfl, rfl, trivial⟩
              · refine v_aloadR (pc := 835) dL_law_835 rfl ?_
                refine v_iload (pc := 837) dL_law_837 rfl ?_
                refine v_aaldS (pc := 839) 50 (k := i) (by decide) rfl (by omega) (by omega) dL_law_839 ?_
                refine v_iconst (pc := 840) (v := 3) dL_law_840 rfl ?_
                refine v_ialdGN (pc := 841) 51 (j := 3) rfl (by omega) (by decide) (by decide) dL_law_841 ?_
                try dsimp only [wb, tlS_0, tlS_1, tlS_2, tlS_3, tlS_4, tlS_5, tlS_6, tlS_7, tlS_8, tlC_0, tlC_1, tlC_2, tlC_3, LawM, LakeM, WaysM, WorldM, SimM, List.set_cons_succ, List.set_cons_zero, List.append_nil, List.nil_append, List.cons_append, Option.toList, Nat.sub_zero]
                refine v_iconst (pc := 842) (v := 1) dL_law_842 rfl ?_
                refine v_icmp_ne (pc := 843) (tgt := 853) dL_law_843 (by decide) (fun c843 => ?_) (fun c843 => absurd (g5a c832 c843) c616)
                refine v_aloadR (pc := 853) dL_law_853 rfl ?_
                refine v_iload (pc := 855) dL_law_855 rfl ?_
                refine v_aaldS (pc := 857) 50 (k := i) (by decide) rfl (by omega) (by omega) dL_law_857 ?_
                refine v_bipush (pc := 858) (v := 6) dL_law_858 rfl ?_
                refine v_ialdGN (pc := 860) 51 (j := 6) rfl (by omega) (by decide) (by decide) dL_law_860 ?_
                try dsimp only [wb, tlS_0, tlS_1, tlS_2, tlS_3, tlS_4, tlS_5, tlS_6, tlS_7, tlS_8, tlC_0, tlC_1, tlC_2, tlC_3, LawM, LakeM, WaysM, WorldM, SimM, List.set_cons_succ, List.set_cons_zero, List.append_nil, List.nil_append, List.cons_append, Option.toList, Nat.sub_zero]
                refine v_iconst (pc := 861) (v := 1) dL_law_861 rfl ?_
                refine v_icmp_gt (pc := 862) (tgt := 885) dL_law_862 (by decide) (fun c862 => ?_) (fun c862 => ?_)
                · refine v_iinc (pc := 885) (v := nI (i + 1)) dL_law_885 rfl (nI_1 _) (by show _ < 26; decide) rfl ?_
                  refine v_goto (pc := 888) (tgt := 330) dL_law_888 (by decide) ?_
                  refine v_room (ck' := ck + 20 * m) (sk' := sk + 120 * m) (by omega) (by omega) ?_
                  have k9 := ihK _ (lf_no (fun q => q.2.2.1 c862) hL)
                  refine v_sub ?_ k9
                  exact ⟨rfl, rfl, rfl, rfl, rfl, rfl, rfl, rfl, rfl, rfl, rfl, rfl, rfl, rfl, rfl, rfl, rfl, trivial⟩
                · refine v_aload_nR (pc := 865) dL_law_865 rfl rfl ?_
                  refine v_iload (pc := 866) dL_law_866 rfl ?_
                  refine v_bipush (pc := 868) (v := 6) dL_law_868 rfl ?_
                  refine v_callV2 (pc := 870) (c7_sleigh hps hsc hbc (s := i) (q := 6) hi (by decide)) cm_X5_sleigh q323 q324 q325 (ci := 5) rfl rfl (orcO 0 rfl) [0, 1, 2, 3, 4, 5, 6, 7, 8, 9, 10, 11, 12, 13, 14, 15, 16, 17] (by rfl) (by decide) (fun _ _ h => h) (by omega) (by omega) (by decide) (Nat.le_of_ble_eq_true rfl) dL_law_870 (fun v870 M870 hQ870 => ?_)
                  obtain ⟨rfl, rfl⟩ := hQ870
                  try dsimp only [wb, tlS_0, tlS_1, tlS_2, tlS_3, tlS_4, tlS_5, tlS_6, tlS_7, tlS_8, tlC_0, tlC_1, tlC_2, tlC_3, LawM, LakeM, WaysM, WorldM, SimM, List.set_cons_succ, List.set_cons_zero, List.append_nil, List.nil_append, List.cons_append, Option.toList, Nat.sub_zero]
                  refine v_if_le (pc := 873) (tgt := 885) dL_law_873 (by decide) (fun c873 => ?_) (fun c873 => ?_)
                  · refine v_iinc (pc := 885) (v := nI (i + 1)) dL_law_885 rfl (nI_1 _) (by show _ < 26; decide) rfl ?_
                    refine v_goto (pc := 888) (tgt := 330) dL_law_888 (by decide) ?_
                    refine v_room (ck' := ck + 20 * m) (sk' := sk + 120 * m) (by omega) (by omega) ?_
                    have k9 := ihK _ (lf_no (fun q => Int32.not_le.mpr q.2.2.2 c873) hL)
                    refine v_sub ?_ k9
                    exact ⟨rfl, rfl, rfl, rfl, rfl, rfl, rfl, rfl, rfl, rfl, rfl, rfl, rfl, rfl, rfl, rfl, rfl, trivial⟩
                  · refine v_aloadR (pc := 876) dL_law_876 rfl ?_
                    refine v_iload (pc := 878) dL_law_878 rfl ?_
                    refine v_dup2 (pc := 880) dL_law_880 rfl rfl ?_
                    refine v_ialdN (pc := 881) 54 (k := c4) rfl (by omega) (by omega) dL_law_881 ?_
                    refine v_iconst (pc := 882) (v := 1) dL_law_882 rfl ?_
                    refine v_iadd (pc := 883) dL_law_883 ?_
                    refine v_iastN (pc := 884) 54 (k := c4) rfl (by omega) (by omega) dL_law_884 ?_
                    try dsimp only [wb, tlS_0, tlS_1, tlS_2, tlS_3, tlS_4, tlS_5, tlS_6, tlS_7, tlS_8, tlC_0, tlC_1, tlC_2, tlC_3, LawM, LakeM, WaysM, WorldM, SimM, List.set_cons_succ, List.set_cons_zero, List.append_nil, List.nil_append, List.cons_append, Option.toList, Nat.sub_zero]
                    refine v_iinc (pc := 885) (v := nI (i + 1)) dL_law_885 rfl (nI_1 _) (by show _ < 26; decide) rfl ?_
                    refine v_goto (pc := 888) (tgt := 330) dL_law_888 (by decide) ?_
                    refine v_room (ck' := ck + 20 * m) (sk' := sk + 120 * m) (by omega) (by omega) ?_
                    have k9 := ihK _ (lf_yes ⟨c453, c479, c862, Int32.not_le.mp c873⟩ (by rw [e4]; exact cN_nI (by omega)) hc4 hL)
                    refine v_sub ?_ k9
                    exact ⟨rfl, rfl, rfl, rfl, rfl, rfl, rfl, rfl, rfl, rfl, rfl, rfl, rfl, rfl, rfl, rfl, rfl, trivial⟩
            · refine v_iload (pc := 825) dL_law_825 rfl ?_
              refine v_if_ne (pc := 827) (tgt := 851) dL_law_827 (by decide) (fun c827 => absurd (g4a c822) c827) (fun c827 => ?_)
              refine v_iload (pc := 830) dL_law_830 rfl ?_
              refine v_if_ne (pc := 832) (tgt := 853) dL_law_832 (by decide) (fun c832 => ?_) (fun c832 => ?_)
              · refine v_aloadR (pc := 853) dL_law_853 rfl ?_
                refine v_iload (pc := 855) dL_law_855 rfl ?_
                refine v_aaldS (pc := 857) 50 (k := i) (by decide) rfl (by omega) (by omega) dL_law_857 ?_
                refine v_bipush (pc := 858) (v := 6) dL_law_858 rfl ?_
                refine v_ialdGN (pc := 860) 51 (j := 6) rfl (by omega) (by decide) (by decide) dL_law_860 ?_
                try dsimp only [wb, tlS_0, tlS_1, tlS_2, tlS_3, tlS_4, tlS_5, tlS_6, tlS_7, tlS_8, tlC_0, tlC_1, tlC_2, tlC_3, LawM, LakeM, WaysM, WorldM, SimM, List.set_cons_succ, List.set_cons_zero, List.append_nil, List.nil_append, List.cons_append, Option.toList, Nat.sub_zero]
                refine v_iconst (pc := 861) (v := 1) dL_law_861 rfl ?_
                refine v_icmp_gt (pc := 862) (tgt := 885) dL_law_862 (by decide) (fun c862 => ?_) (fun c862 => ?_)
                · refine v_iinc (pc := 885) (v := nI (i + 1)) dL_law_885 rfl (nI_1 _) (by show _ < 26; decide) rfl ?_
                  refine v_goto (pc := 888) (tgt := 330) dL_law_888 (by decide) ?_
                  refine v_room (ck' := ck + 20 * m) (sk' := sk + 120 * m) (by omega) (by omega) ?_
                  have k9 := ihK _ (lf_no (fun q => q.2.2.1 c862) hL)
                  refine v_sub ?_ k9
                  exact ⟨rfl, rfl, rfl, rfl, rfl, rfl, rfl, rfl, rfl, rfl, rfl, rfl, rfl, rfl, rfl, rfl, rfl, trivial⟩
                · refine v_aload_nR (pc := 865) dL_law_865 rfl rfl ?_
                  refine v_iload (pc := 866) dL_law_866 rfl ?_
                  refine v_bipush (pc := 868) (v := 6) dL_law_868 rfl ?_
                  refine v_callV2 (pc := 870) (c7_sleigh hps hsc hbc (s := i) (q := 6) hi (by decide)) cm_X5_sleigh q323 q324 q325 (ci := 5) rfl rfl (orcO 0 rfl) [0, 1, 2, 3, 4, 5, 6, 7, 8, 9, 10, 11, 12, 13, 14, 15, 16, 17] (by rfl) (by decide) (fun _ _ h => h) (by omega) (by omega) (by decide) (Nat.le_of_ble_eq_true rfl) dL_law_870 (fun v870 M870 hQ870 => ?_)
                  obtain ⟨rfl, rfl⟩ := hQ870
                  try dsimp only [wb, tlS_0, tlS_1, tlS_2, tlS_3, tlS_4, tlS_5, tlS_6, tlS_7, tlS_8, tlC_0, tlC_1, tlC_2, tlC_3, LawM, LakeM, WaysM, WorldM, SimM, List.set_cons_succ, List.set_cons_zero, List.append_nil, List.nil_append, List.cons_append, Option.toList, Nat.sub_zero]
                  refine v_if_le (pc := 873) (tgt := 885) dL_law_873 (by decide) (fun c873 => ?_) (fun c873 => ?_)
                  · refine v_iinc (pc := 885) (v := nI (i + 1)) dL_law_885 rfl (nI_1 _) (by show _ < 26; decide) rfl ?_
                    refine v_goto (pc := 888) (tgt := 330) dL_law_888 (by decide) ?_
                    refine v_room (ck' := ck + 20 * m) (sk' := sk + 120 * m) (by omega) (by omega) ?_
                    have k9 := ihK _ (lf_no (fun q => Int32.not_le.mpr q.2.2.2 c873) hL)
                    refine v_sub ?_ k9
                    exact ⟨rfl, rfl, rfl, rfl, rfl, rfl, rfl, rfl, rfl, rfl, rfl, rfl, rfl, rfl, rfl, rfl, rfl, trivial⟩
                  · refine v_aloadR (pc := 876) dL_law_876 rfl ?_
                    refine v_iload (pc := 878) dL_law_878 rfl ?_
                    refine v_dup2 (pc := 880) dL_law_880 rfl rfl ?_
                    refine v_ialdN (pc := 881) 54 (k := c4) rfl (by omega) (by omega) dL_law_881 ?_
                    refine v_iconst (pc := 882) (v := 1) dL_law_882 rfl ?_
                    refine v_iadd (pc := 883) dL_law_883 ?_
                    refine v_iastN (pc := 884) 54 (k := c4) rfl (by omega) (by omega) dL_law_884 ?_
                    try dsimp only [wb, tlS_0, tlS_1, tlS_2, tlS_3, tlS_4, tlS_5, tlS_6, tlS_7, tlS_8, tlC_0, tlC_1, tlC_2, tlC_3, LawM, LakeM, WaysM, WorldM, SimM, List.set_cons_succ, List.set_cons_zero, List.append_nil, List.nil_append, List.cons_append, Option.toList, Nat.sub_zero]
                    refine v_iinc (pc := 885) (v := nI (i + 1)) dL_law_885 rfl (nI_1 _) (by show _ < 26; decide) rfl ?_
                    refine v_goto (pc := 888) (tgt := 330) dL_law_888 (by decide) ?_
                    refine v_room (ck' := ck + 20 * m) (sk' := sk + 120 * m) (by omega) (by omega) ?_
                    have k9 := ihK _ (lf_yes ⟨c453, c479, c862, Int32.not_le.mp c873⟩ (by rw [e4]; exact cN_nI (by omega)) hc4 hL)
                    refine v_sub ?_ k9
                    exact ⟨rfl, rfl, rfl, rfl, rfl, rfl, rfl, rfl, rfl, rfl, rfl, rfl, rfl, rfl, rfl, rfl, rfl, trivial⟩
              · refine v_aloadR (pc := 835) dL_law_835 rfl ?_
                refine v_iload (pc := 837) dL_law_837 rfl ?_
                refine v_aaldS (pc := 839) 50 (k := i) (by decide) rfl (by omega) (by omega) dL_law_839 ?_
                refine v_iconst (pc := 840) (v := 3) dL_law_840 rfl ?_
                refine v_ialdGN (pc := 841) 51 (j := 3) rfl (by omega) (by decide) (by decide) dL_law_841 ?_
                try dsimp only [wb, tlS_0, tlS_1, tlS_2, tlS_3, tlS_4, tlS_5, tlS_6, tlS_7, tlS_8, tlC_0, tlC_1, tlC_2, tlC_3, LawM, LakeM, WaysM, WorldM, SimM, List.set_cons_succ, List.set_cons_zero, List.append_nil, List.nil_append, List.cons_append, Option.toList, Nat.sub_zero]
                refine v_iconst (pc := 842) (v := 1) dL_law_842 rfl ?_
                refine v_icmp_ne (pc := 843) (tgt := 853) dL_law_843 (by decide) (fun c843 => ?_) (fun c843 => absurd (g5a c832 c843) c616)
                refine v_aloadR (pc := 853) dL_law_853 rfl ?_
                refine v_iload (pc := 855) dL_law_855 rfl ?_
                refine v_aaldS (pc := 857) 50 (k := i) (by decide) rfl (by omega) (by omega) dL_law_857 ?_
                refine v_bipush (pc := 858) (v := 6) dL_law_858 rfl ?_
                refine v_ialdGN (pc := 860) 51 (j := 6) rfl (by omega) (by decide) (by decide) dL_law_860 ?_
                try dsimp only [wb, tlS_0, tlS_1, tlS_2, tlS_3, tlS_4, tlS_5, tlS_6, tlS_7, tlS_8, tlC_0, tlC_1, tlC_2, tlC_3, LawM, LakeM, WaysM, WorldM, SimM, List.set_cons_succ, List.set_cons_zero, List.append_nil, List.nil_append, List.cons_append, Option.toList, Nat.sub_zero]
                refine v_iconst (pc := 861) (v := 1) dL_law_861 rfl ?_
                refine v_icmp_gt (pc := 862) (tgt := 885) dL_law_862 (by decide) (fun c862 => ?_) (fun c862 => ?_)
                · refine v_iinc (pc := 885) (v := nI (i + 1)) dL_law_885 rfl (nI_1 _) (by show _ < 26; decide) rfl ?_
                  refine v_goto (pc := 888) (tgt := 330) dL_law_888 (by decide) ?_
                  refine v_room (ck' := ck + 20 * m) (sk' := sk + 120 * m) (by omega) (by omega) ?_
                  have k9 := ihK _ (lf_no (fun q => q.2.2.1 c862) hL)
                  refine v_sub ?_ k9
                  exact ⟨rfl, rfl, rfl, rfl, rfl, rfl, rfl, rfl, rfl, rfl, rfl, rfl, rfl, rfl, rfl, rfl, rfl, trivial⟩
                · refine v_aload_nR (pc := 865) dL_law_865 rfl rfl ?_
                  refine v_iload (pc := 866) dL_law_866 rfl ?_
                  refine v_bipush (pc := 868) (v := 6) dL_law_868 rfl ?_
                  refine v_callV2 (pc := 870) (c7_sleigh hps hsc hbc (s := i) (q := 6) hi (by decide)) cm_X5_sleigh q323 q324 q325 (ci := 5) rfl rfl (orcO 0 rfl) [0, 1, 2, 3, 4, 5, 6, 7, 8, 9, 10, 11, 12, 13, 14, 15, 16, 17] (by rfl) (by decide) (fun _ _ h => h) (by omega) (by omega) (by decide) (Nat.le_of_ble_eq_true rfl) dL_law_870 (fun v870 M870 hQ870 => ?_)
                  obtain ⟨rfl, rfl⟩ := hQ870
                  try dsimp only [wb, tlS_0, tlS_1, tlS_2, tlS_3, tlS_4, tlS_5, tlS_6, tlS_7, tlS_8, tlC_0, tlC_1, tlC_2, tlC_3, LawM, LakeM, WaysM, WorldM, SimM, List.set_cons_succ, List.set_cons_zero, List.append_nil, List.nil_append, List.cons_append, Option.toList, Nat.sub_zero]
                  refine v_if_le (pc := 873) (tgt := 885) dL_law_873 (by decide) (fun c873 => ?_) (fun c873 => ?_)
                  · refine v_iinc (pc := 885) (v := nI (i + 1)) dL_law_885 rfl (nI_1 _) (by show _ < 26; decide) rfl ?_
                    refine v_goto (pc := 888) (tgt := 330) dL_law_888 (by decide) ?_
                    refine v_room (ck' := ck + 20 * m) (sk' := sk + 120 * m) (by omega) (by omega) ?_
                    have k9 := ihK _ (lf_no (fun q => Int32.not_le.mpr q.2.2.2 c873) hL)
                    refine v_sub ?_ k9
                    exact ⟨rfl, rfl, rfl, rfl, rfl, rfl, rfl, rfl, rfl, rfl, rfl, rfl, rfl, rfl, rfl, rfl, rfl, trivial⟩
                  · refine v_aloadR (pc := 876) dL_law_876 rfl ?_
                    refine v_iload (pc := 878) dL_law_878 rfl ?_
                    refine v_dup2 (pc := 880) dL_law_880 rfl rfl ?_
                    refine v_ialdN (pc := 881) 54 (k := c4) rfl (by omega) (by omega) dL_law_881 ?_
                    refine v_iconst (pc := 882) (v := 1) dL_law_882 rfl ?_
                    refine v_iadd (pc := 883) dL_law_883 ?_
                    refine v_iastN (pc := 884) 54 (k := c4) rfl (by omega) (by omega) dL_law_884 ?_
                    try dsimp only [wb, tlS_0, tlS_1, tlS_2, tlS_3, tlS_4, tlS_5, tlS_6, tlS_7, tlS_8, tlC_0, tlC_1, tlC_2, tlC_3, LawM, LakeM, WaysM, WorldM, SimM, List.set_cons_succ, List.set_cons_zero, List.append_nil, List.nil_append, List.cons_append, Option.toList, Nat.sub_zero]
                    refine v_iinc (pc := 885) (v := nI (i + 1)) dL_law_885 rfl (nI_1 _) (by show _ < 26; decide) rfl ?_
                    refine v_goto (pc := 888) (tgt := 330) dL_law_888 (by decide) ?_
                    refine v_room (ck' := ck + 20 * m) (sk' := sk + 120 * m) (by omega) (by omega) ?_
                    have k9 := ihK _ (lf_yes ⟨c453, c479, c862, Int32.not_le.mp c873⟩ (by rw [e4]; exact cN_nI (by omega)) hc4 hL)
                    refine v_sub ?_ k9
                    exact ⟨rfl, rfl, rfl, rfl, rfl, rfl, rfl, rfl, rfl, rfl, rfl, rfl, rfl, rfl, rfl, rfl, rfl, trivial⟩
      · refine v_iconst (pc := 619) (v := 1) dL_law_619 rfl ?_
        refine v_goto (pc := 620) (tgt := 624) dL_law_620 (by decide) ?_
        refine v_istore (pc := 624) dL_law_624 (by show _ < 26; decide) rfl ?_
        refine v_iload (pc := 626) dL_law_626 rfl ?_
        refine v_iload (pc := 628) dL_law_628 rfl ?_
        refine v_aloadR (pc := 630) dL_law_630 rfl ?_
        refine v_iload (pc := 632) dL_law_632 rfl ?_
        refine v_aaldS (pc := 634) 50 (k := i) (by decide) rfl (by omega) (by omega) dL_law_634 ?_
        refine v_iconst (pc := 635) (v := 4) dL_law_635 rfl ?_
        refine v_ialdGN (pc := 636) 51 (j := 4) rfl (by omega) (by decide) (by decide) dL_law_636 ?_
        try dsimp only [wb, tlS_0, tlS_1, tlS_2, tlS_3, tlS_4, tlS_5, tlS_6, tlS_7, tlS_8, tlC_0, tlC_1, tlC_2, tlC_3, LawM, LakeM, WaysM, WorldM, SimM, List.set_cons_succ, List.set_cons_zero, List.append_nil, List.nil_append, List.cons_append, Option.toList, Nat.sub_zero]
        refine v_icmp_eq (pc := 637) (tgt := 644) dL_law_637 (by decide) (fun c637 => absurd (by have ha := (g1a c616).1; rw [e4, cN_nI (by omega), ← c637, cN_nI (by omega)] at ha; exact ha) (adj_irr hc4)) (fun c637 => ?_)
        refine v_iconst (pc := 640) (v := 1) dL_law_640 rfl ?_
        refine v_goto (pc := 641) (tgt := 645) dL_law_641 (by decide) ?_
        refine v_icmp_eq (pc := 645) (tgt := 650) dL_law_645 (by decide) (fun c645 => ?_) (fun c645 => absurd c645 (by decide))
        refine v_iload (pc := 650) dL_law_650 rfl ?_
        refine v_if_eq (pc := 652) (tgt := 752) dL_law_652 (by decide) (fun c652 => absurd c652 (by decide)) (fun c652 => ?_)
        refine v_iload (pc := 655) dL_law_655 rfl ?_
        refine v_bipush (pc := 657) (v := 16) dL_law_657 rfl ?_
        refine v_irem (pc := 659) dL_law_659 (by decide) ?_
        rw [show nI c4 - nI c4 / 16 * 16 = nI (c4 % 16) from pk_rem (d := 16) (by omega) (by decide) (by decide)]
        refine v_aloadR (pc := 660) dL_law_660 rfl ?_
        refine v_iload (pc := 662) dL_law_662 rfl ?_
        refine v_aaldS (pc := 664) 50 (k := i) (by decide) rfl (by omega) (by omega) dL_law_664 ?_
        refine v_iconst (pc := 665) (v := 4) dL_law_665 rfl ?_
        refine v_ialdGN (pc := 666) 51 (j := 4) rfl (by omega) (by decide) (by decide) dL_law_666 ?_
        try dsimp only [wb, tlS_0, tlS_1, tlS_2, tlS_3, tlS_4, tlS_5, tlS_6, tlS_7, tlS_8, tlC_0, tlC_1, tlC_2, tlC_3, LawM, LakeM, WaysM, WorldM, SimM, List.set_cons_succ, List.set_cons_zero, List.append_nil, List.nil_append, List.cons_append, Option.toList, Nat.sub_zero]
        rw [e04]
        refine v_bipush (pc := 667) (v := 16) dL_law_667 rfl ?_
        refine v_irem (pc := 669) dL_law_669 (by decide) ?_
        rw [show nI c0 - nI c0 / 16 * 16 = nI (c0 % 16) from pk_rem (d := 16) (by omega) (by decide) (by decide)]
        refine v_isub (pc := 670) dL_law_670 ?_
        refine v_mabs (pc := 671) q850 q575 q15 q576 (by decide) (Nat.le_of_ble_eq_true rfl) dL_law_671 ?_
        rw [abs_nI (by omega) (by omega)]
        refine v_iload (pc := 674) dL_law_674 rfl ?_
        refine v_bipush (pc := 676) (v := 16) dL_law_676 rfl ?_
        refine v_idiv (pc := 678) dL_law_678 (by decide) ?_
        rw [show nI c4 / 16 = nI (c4 / 16) from pk_div (d := 16) (by omega) (by decide) (by decide)]
        refine v_aloadR (pc := 679) dL_law_679 rfl ?_
        refine v_iload (pc := 681) dL_law_681 rfl ?_
        refine v_aaldS (pc := 683) 50 (k := i) (by decide) rfl (by omega) (by omega) dL_law_683 ?_
        refine v_iconst (pc := 684) (v := 4) dL_law_684 rfl ?_
        refine v_ialdGN (pc := 685) 51 (j := 4) rfl (by omega) (by decide) (by decide) dL_law_685 ?_
        try dsimp only [wb, tlS_0, tlS_1, tlS_2, tlS_3, tlS_4, tlS_5, tlS_6, tlS_7, tlS_8, tlC_0, tlC_1, tlC_2, tlC_3, LawM, LakeM, WaysM, WorldM, SimM, List.set_cons_succ, List.set_cons_zero, List.append_nil, List.nil_append, List.cons_append, Option.toList, Nat.sub_zero]
        rw [e04]
        refine v_bipush (pc := 686) (v := 16) dL_law_686 rfl ?_
        refine v_idiv (pc := 688) dL_law_688 (by decide) ?_
        rw [show nI c0 / 16 = nI (c0 / 16) from pk_div (d := 16) (by omega) (by decide) (by decide)]
        refine v_isub (pc := 689) dL_law_689 ?_
        refine v_mabs (pc := 690) q850 q575 q15 q576 (by decide) (Nat.le_of_ble_eq_true rfl) dL_law_690 ?_
        rw [abs_nI (by omega) (by omega)]
        refine v_iadd (pc := 693) dL_law_693 ?_
        rw [show nI (dif (c4 % 16) (c0 % 16)) + nI (dif (c4 / 16) (c0 / 16)) = nI (dif (c4 % 16) (c0 % 16) + dif (c4 / 16) (c0 / 16)) from nI_add _ _]
        have hdif : dif (c4 % 16) (c0 % 16) + dif (c4 / 16) (c0 / 16) = 1 := by
          have ha := (g1a c616).1
          rw [e4, e04, cN_nI (by omega), cN_nI (by omega)] at ha
          rw [dif_c (a := c4 % 16), dif_c (a := c4 / 16)]
          exact (adj_iff hc0 hc4).mp ha
        refine v_iconst (pc := 694) (v := 1) dL_law_694 rfl ?_
        refine v_icmp_ne (pc := 695) (tgt := 750) dL_law_695 (by decide) (fun c695 => absurd (by rw [hdif]; rfl) c695) (fun c695 => ?_)
        have c695 : (dif (c4 % 16) (c0 % 16) + dif (c4 / 16) (c0 / 16)) = 1 := (nI_eq (a := (dif (c4 % 16) (c0 % 16) + dif (c4 / 16) (c0 / 16))) (b := 1) (by omega) (by omega)).mp c695
        refine v_aload_nR (pc := 698) dL_law_698 rfl rfl ?_
        refine v_iload (pc := 699) dL_law_699 rfl ?_
        refine v_iconst (pc := 701) (v := 2) dL_law_701 rfl ?_
        refine v_callV2 (pc := 702) (c7_sleigh hps hsc hbc (s := i) (q := 2) hi (by decide)) cm_X5_sleigh q323 q324 q325 (ci := 5) rfl rfl (orcO 0 rfl) [0, 1, 2, 3, 4, 5, 6, 7, 8, 9, 10, 11, 12, 13, 14, 15, 16, 17] (by rfl) (by decide) (fun _ _ h => h) (by omega) (by omega) (by decide) (Nat.le_of_ble_eq_true rfl) dL_law_702 (fun v702 M702 hQ702 => ?_)
        obtain ⟨rfl, rfl⟩ := hQ702
        try dsimp only [wb, tlS_0, tlS_1, tlS_2, tlS_3, tlS_4, tlS_5, tlS_6, tlS_7, tlS_8, tlC_0, tlC_1, tlC_2, tlC_3, LawM, LakeM, WaysM, WorldM, SimM, List.set_cons_succ, List.set_cons_zero, List.append_nil, List.nil_append, List.cons_append, Option.toList, Nat.sub_zero]
        refine v_bipush (pc := 705) (v := 100) dL_law_705 rfl ?_
        refine v_aloadR (pc := 707) dL_law_707 rfl ?_
        refine v_iload (pc := 709) dL_law_709 rfl ?_
        refine v_aaldS (pc := 711) 50 (k := i) (by decide) rfl (by omega) (by omega) dL_law_711 ?_
        refine v_iconst (pc := 712) (v := 2) dL_law_712 rfl ?_
        refine v_ialdGN (pc := 713) 51 (j := 2) rfl (by omega) (by decide) (by decide) dL_law_713 ?_
        try dsimp only [wb, tlS_0, tlS_1, tlS_2, tlS_3, tlS_4, tlS_5, tlS_6, tlS_7, tlS_8, tlC_0, tlC_1, tlC_2, tlC_3, LawM, LakeM, WaysM, WorldM, SimM, List.set_cons_succ, List.set_cons_zero, List.append_nil, List.nil_append, List.cons_append, Option.toList, Nat.sub_zero]
        refine v_iconst (pc := 714) (v := 1) dL_law_714 rfl ?_
        refine v_iadd (pc := 715) dL_law_715 ?_
        refine v_mmin (pc := 716) q732 q403 q15 q404 (by decide) (Nat.le_of_ble_eq_true rfl) dL_law_716 ?_
        refine v_iload (pc := 719) dL_law_719 rfl ?_
        refine v_if_ne (pc := 721) (tgt := 745) dL_law_721 (by decide) (fun c721 => ?_) (fun c721 => ?_)
        · refine v_iconst (pc := 745) (v := 0) dL_law_745 rfl ?_
          refine v_isub (pc := 746) dL_law_746 ?_
          refine v_icmp_eq (pc := 747) (tgt := 752) dL_law_747 (by decide) (fun c747 => ?_) (fun c747 => absurd (((g1a c616).2.trans (if_neg c721)).trans (Int32.sub_zero _).symm) c747)
          refine v_aloadR (pc := 752) dL_law_752 rfl ?_
          refine v_iload (pc := 754) dL_law_754 rfl ?_
          refine v_aaldS (pc := 756) 50 (k := i) (by decide) rfl (by omega) (by omega) dL_law_756 ?_
          refine v_bipush (pc := 757) (v := 6) dL_law_757 rfl ?_
          refine v_ialdGN (pc := 759) 51 (j := 6) rfl (by omega) (by decide) (by decide) dL_law_759 ?_
          try dsimp only [wb, tlS_0, tlS_1, tlS_2, tlS_3, tlS_4, tlS_5, tlS_6, tlS_7, tlS_8, tlC_0, tlC_1, tlC_2, tlC_3, LawM, LakeM, WaysM, WorldM, SimM, List.set_cons_succ, List.set_cons_zero, List.append_nil, List.nil_append, List.cons_append, Option.toList, Nat.sub_zero]
          refine v_iconst (pc := 760) (v := 1) dL_law_760 rfl ?_
          refine v_icmp_le (pc := 761) (tgt := 793) dL_law_761 (by decide) (fun c761 => ?_) (fun c761 => ?_)
          · refine v_iload (pc := 793) dL_law_793 rfl ?_
            refine v_if_ne (pc := 795) (tgt := 815) dL_law_795 (by decide) (fun c795 => ?_) (fun c795 => ?_)
            · refine v_aloadR (pc := 815) dL_law_815 rfl ?_
              refine v_iload (pc := 817) dL_law_817 rfl ?_
              refine v_aaldS (pc := 819) 50 (k := i) (by decide) rfl (by omega) (by omega) dL_law_819 ?_
              refine v_iconst (pc := 820) (v := 3) dL_law_820 rfl ?_
              refine v_ialdGN (pc := 821) 51 (j := 3) rfl (by omega) (by decide) (by decide) dL_law_821 ?_
              try dsimp only [wb, tlS_0, tlS_1, tlS_2, tlS_3, tlS_4, tlS_5, tlS_6, tlS_7, tlS_8, tlC_0, tlC_1, tlC_2, tlC_3, LawM, LakeM, WaysM, WorldM, SimM, List.set_cons_succ, List.set_cons_zero, List.append_nil, List.nil_append, List.cons_append, Option.toList, Nat.sub_zero]
              refine v_if_ne (pc := 822) (tgt := 830) dL_law_822 (by decide) (fun c822 => ?_) (fun c822 => ?_)
              · refine v_iload (pc := 830) dL_law_830 rfl ?_
                refine v_if_ne (pc := 832) (tgt := 853) dL_law_832 (by decide) (fun c832 => ?_) (fun c832 => ?_)
                · refine v_aloadR (pc := 853) dL_law_853 rfl ?_
                  refine v_iload (pc := 855) dL_law_855 rfl ?_
                  refine v_aaldS (pc := 857) 50 (k := i) (by decide) rfl (by omega) (by omega) dL_law_857 ?_
                  refine v_bipush (pc := 858) (v := 6) dL_law_858 rfl ?_
                  refine v_ialdGN (pc := 860) 51 (j := 6) rfl (by omega) (by decide) (by decide) dL_law_860 ?_
                  try dsimp only [wb, tlS_0, tlS_1, tlS_2, tlS_3, tlS_4, tlS_5, tlS_6, tlS_7, tlS_8, tlC_0, tlC_1, tlC_2, tlC_3, LawM, LakeM, WaysM, WorldM, SimM, List.set_cons_succ, List.set_cons_zero, List.append_nil, List.nil_append, List.cons_append, Option.toList, Nat.sub_zero]
                  refine v_iconst (pc := 861) (v := 1) dL_law_861 rfl ?_
                  refine v_icmp_gt (pc := 862) (tgt := 885) dL_law_862 (by decide) (fun c862 => ?_) (fun c862 => ?_)
                  · refine v_iinc (pc := 885) (v := nI (i + 1)) dL_law_885 rfl (nI_1 _) (by show _ < 26; decide) rfl ?_
                    refine v_goto (pc := 888) (tgt := 330) dL_law_888 (by decide) ?_
                    refine v_room (ck' := ck + 20 * m) (sk' := sk + 120 * m) (by omega) (by omega) ?_
                    have k9 := ihK _ (lf_no (fun q => q.2.2.1 c862) hL)
                    refine v_sub ?_ k9
                    exact ⟨rfl, rfl, rfl, rfl, rfl, rfl, rfl, rfl, rfl, rfl, rfl, rfl, rfl, rfl, rfl, rfl, rfl, trivial⟩
                  · refine v_aload_nR (pc := 865) dL_law_865 rfl rfl ?_
                    refine v_iload (pc := 866) dL_law_866 rfl ?_
                    refine v_bipush (pc := 868) (v := 6) dL_law_868 rfl ?_
                    refine v_callV2 (pc := 870) (c7_sleigh hps hsc hbc (s := i) (q := 6) hi (by decide)) cm_X5_sleigh q323 q324 q325 (ci := 5) rfl rfl (orcO 0 rfl) [0, 1, 2, 3, 4, 5, 6, 7, 8, 9, 10, 11, 12, 13, 14, 15, 16, 17] (by rfl) (by decide) (fun _ _ h => h) (by omega) (by omega) (by decide) (Nat.le_of_ble_eq_true rfl) dL_law_870 (fun v870 M870 hQ870 => ?_)
                    obtain ⟨rfl, rfl⟩ := hQ870
                    try dsimp only [wb, tlS_0, tlS_1, tlS_2, tlS_3, tlS_4, tlS_5, tlS_6, tlS_7, tlS_8, tlC_0, tlC_1, tlC_2, tlC_3, LawM, LakeM, WaysM, WorldM, SimM, List.set_cons_succ, List.set_cons_zero, List.append_nil, List.nil_append, List.cons_append, Option.toList, Nat.sub_zero]
                    refine v_if_le (pc := 873) (tgt := 885) dL_law_873 (by decide) (fun c873 => ?_) (fun c873 => ?_)
                    · refine v_iinc (pc := 885) (v := nI (i + 1)) dL_law_885 rfl (nI_1 _) (by show _ < 26; decide) rfl ?_
                      refine v_goto (pc := 888) (tgt := 330) dL_law_888 (by decide) ?_
                      refine v_room (ck' := ck + 20 * m) (sk' := sk + 120 * m) (by omega) (by omega) ?_
                      have k9 := ihK _ (lf_no (fun q => Int32.not_le.mpr q.2.2.2 c873) hL)
                      refine v_sub ?_ k9
                      exact ⟨rfl, rfl, rfl, rfl, rfl, rfl, rfl, rfl, rfl, rfl, rfl, rfl, rfl, rfl, rfl, rfl, rfl, trivial⟩
                    · refine v_aloadR (pc := 876) dL_law_876 rfl ?_
                      refine v_iload (pc := 878) dL_law_878 rfl ?_
                      refine v_dup2 (pc := 880) dL_law_880 rfl rfl ?_
                      refine v_ialdN (pc := 881) 54 (k := c4) rfl (by omega) (by omega) dL_law_881 ?_
                      refine v_iconst (pc := 882) (v := 1) dL_law_882 rfl ?_
                      refine v_iadd (pc := 883) dL_law_883 ?_
                      refine v_iastN (pc := 884) 54 (k := c4) rfl (by omega) (by omega) dL_law_884 ?_
                      try dsimp only [wb, tlS_0, tlS_1, tlS_2, tlS_3, tlS_4, tlS_5, tlS_6, tlS_7, tlS_8, tlC_0, tlC_1, tlC_2, tlC_3, LawM, LakeM, WaysM, WorldM, SimM, List.set_cons_succ, List.set_cons_zero, List.append_nil, List.nil_append, List.cons_append, Option.toList, Nat.sub_zero]
                      refine v_iinc (pc := 885) (v := nI (i + 1)) dL_law_885 rfl (nI_1 _) (by show _ < 26; decide) rfl ?_
                      refine v_goto (pc := 888) (tgt := 330) dL_law_888 (by decide) ?_
                      refine v_room (ck' := ck + 20 * m) (sk' := sk + 120 * m) (by omega) (by omega) ?_
                      have k9 := ihK _ (lf_yes ⟨c453, c479, c862, Int32.not_le.mp c873⟩ (by rw [e4]; exact cN_nI (by omega)) hc4 hL)
                      refine v_sub ?_ k9
                      exact ⟨rfl, rfl, rfl, rfl, rfl, rfl, rfl, rfl, rfl, rfl, rfl, rfl, rfl, rfl, rfl, rfl, rfl, trivial⟩
                · refine v_aloadR (pc := 835) dL_law_835 rfl ?_
                  refine v_iload (pc := 837) dL_law_837 rfl ?_
                  refine v_aaldS (pc := 839) 50 (k := i) (by decide) rfl (by omega) (by omega) dL_law_839 ?_
                  refine v_iconst (pc := 840) (v := 3) dL_law_840 rfl ?_
                  refine v_ialdGN (pc := 841) 51 (j := 3) rfl (by omega) (by decide) (by decide) dL_law_841 ?_
                  try dsimp only [wb, tlS_0, tlS_1, tlS_2, tlS_3, tlS_4, tlS_5, tlS_6, tlS_7, tlS_8, tlC_0, tlC_1, tlC_2, tlC_3, LawM, LakeM, WaysM, WorldM, SimM, List.set_cons_succ, List.set_cons_zero, List.append_nil, List.nil_append, List.cons_append, Option.toList, Nat.sub_zero]
                  refine v_iconst (pc := 842) (v := 1) dL_law_842 rfl ?_
                  refine v_icmp_ne (pc := 843) (tgt := 853) dL_law_843 (by decide) (fun c843 => ?_) (fun c843 => ?_)
                  · refine v_aloadR (pc := 853) dL_law_853 rfl ?_
                    refine v_iload (pc := 855) dL_law_855 rfl ?_
                    refine v_aaldS (pc := 857) 50 (k := i) (by decide) rfl (by omega) (by omega) dL_law_857 ?_
                    refine v_bipush (pc := 858) (v := 6) dL_law_858 rfl ?_
                    refine v_ialdGN (pc := 860) 51 (j := 6) rfl (by omega) (by decide) (by decide) dL_law_860 ?_
                    try dsimp only [wb, tlS_0, tlS_1, tlS_2, tlS_3, tlS_4, tlS_5, tlS_6, tlS_7, tlS_8, tlC_0, tlC_1, tlC_2, tlC_3, LawM, LakeM, WaysM, WorldM, SimM, List.set_cons_succ, List.set_cons_zero, List.append_nil, List.nil_append, List.cons_append, Option.toList, Nat.sub_zero]
                    refine v_iconst (pc := 861) (v := 1) dL_law_861 rfl ?_
                    refine v_icmp_gt (pc := 862) (tgt := 885) dL_law_862 (by decide) (fun c862 => ?_) (fun c862 => ?_)
                    · refine v_iinc (pc := 885) (v := nI (i + 1)) dL_law_885 rfl (nI_1 _) (by show _ < 26; decide) rfl ?_
                      refine v_goto (pc := 888) (tgt := 330) dL_law_888 (by decide) ?_
                      refine v_room (ck' := ck + 20 * m) (sk' := sk + 120 * m) (by omega) (by omega) ?_
                      have k9 := ihK _ (lf_no (fun q => q.2.2.1 c862) hL)
                      refine v_sub ?_ k9
                      exact ⟨rfl, rfl, rfl, rfl, rfl, rfl, rfl, rfl, rfl, rfl, rfl, rfl, rfl, rfl, rfl, rfl, rfl, trivial⟩
                    · refine v_aload_nR (pc := 865) dL_law_865 rfl rfl ?_
                      refine v_iload (pc := 866) dL_law_866 rfl ?_
                      refine v_bipush (pc := 868) (v := 6) dL_law_868 rfl ?_
                      refine v_callV2 (pc := 870) (c7_sleigh hps hsc hbc (s := i) (q := 6) hi (by decide)) cm_X5_sleigh q323 q324 q325 (ci := 5) rfl rfl (orcO 0 rfl) [0, 1, 2, 3, 4, 5, 6, 7, 8, 9, 10, 11, 12, 13, 14, 15, 16, 17] (by rfl) (by decide) (fun _ _ h => h) (by omega) (by omega) (by decide) (Nat.le_of_ble_eq_true rfl) dL_law_870 (fun v870 M870 hQ870 => ?_)
                      obtain ⟨rfl, rfl⟩ := hQ870
                      try dsimp only [wb, tlS_0, tlS_1, tlS_2, tlS_3, tlS_4, tlS_5, tlS_6, tlS_7, tlS_8, tlC_0, tlC_1, tlC_2, tlC_3, LawM, LakeM, WaysM, WorldM, SimM, List.set_cons_succ, List.set_cons_zero, List.append_nil, List.nil_append, List.cons_append, Option.toList, Nat.sub_zero]
                      refine v_if_le (pc := 873) (tgt := 885) dL_law_873 (by decide) (fun c873 => ?_) (fun c873 => ?_)
                      · refine v_iinc (pc := 885) (v := nI (i + 1)) dL_law_885 rfl (nI_1 _) (by show _ < 26; decide) rfl ?_
                        refine v_goto (pc := 888) (tgt := 330) dL_law_888 (by decide) ?_
                        refine v_room (ck' := ck + 20 * m) (sk' := sk + 120 * m) (by omega) (by omega) ?_
                        have k9 := ihK _ (lf_no (fun q => Int32.not_le.mpr q.2.2.2 c873) hL)
                        refine v_sub ?_ k9
                        exact ⟨rfl, rfl, rfl, rfl, rfl, rfl, rfl, rfl, rfl, rfl, rfl, rfl, rfl, rfl, rfl, rfl, rfl, trivial⟩
                      · refine v_aloadR (pc := 876) dL_law_876 rfl ?_
                        refine v_iload (pc := 878) dL_law_878 rfl ?_
                        refine v_dup2 (pc := 880) dL_law_880 rfl rfl ?_
                        refine v_ialdN (pc := 881) 54 (k := c4) rfl (by omega) (by omega) dL_law_881 ?_
                        refine v_iconst (pc := 882) (v := 1) dL_law_882 rfl ?_
                        refine v_iadd (pc := 883) dL_law_883 ?_
                        refine v_iastN (pc := 884) 54 (k := c4) rfl (by omega) (by omega) dL_law_884 ?_
                        try dsimp only [wb, tlS_0, tlS_1, tlS_2, tlS_3, tlS_4, tlS_5, tlS_6, tlS_7, tlS_8, tlC_0, tlC_1, tlC_2, tlC_3, LawM, LakeM, WaysM, WorldM, SimM, List.set_cons_succ, List.set_cons_zero, List.append_nil, List.nil_append, List.cons_append, Option.toList, Nat.sub_zero]
                        refine v_iinc (pc := 885) (v := nI (i + 1)) dL_law_885 rfl (nI_1 _) (by show _ < 26; decide) rfl ?_
                        refine v_goto (pc := 888) (tgt := 330) dL_law_888 (by decide) ?_
                        refine v_room (ck' := ck + 20 * m) (sk' := sk + 120 * m) (by omega) (by omega) ?_
                        have k9 := ihK _ (lf_yes ⟨c453, c479, c862, Int32.not_le.mp c873⟩ (by rw [e4]; exact cN_nI (by omega)) hc4 hL)
                        refine v_sub ?_ k9
                        exact ⟨rfl, rfl, rfl, rfl, rfl, rfl, rfl, rfl, rfl, rfl, rfl, rfl, rfl, rfl, rfl, rfl, rfl, trivial⟩
                  · refine v_iload (pc := 846) dL_law_846 rfl ?_
                    refine v_if_ne (pc := 848) (tgt := 853) dL_law_848 (by decide) (fun c848 => ?_) (fun c848 => absurd c848 (by decide))
                    refine v_aloadR (pc := 853) dL_law_853 rfl ?_
                    refine v_iload (pc := 855) dL_law_855 rfl ?_
                    refine v_aaldS (pc := 857) 50 (k := i) (by decide) rfl (by omega) (by omega) dL_law_857 ?_
                    refine v_bipush (pc := 858) (v := 6) dL_law_858 rfl ?_
                    refine v_ialdGN (pc := 860) 51 (j := 6) rfl (by omega) (by decide) (by decide) dL_law_860 ?_
                    try dsimp only [wb, tlS_0, tlS_1, tlS_2, tlS_3, tlS_4, tlS_5, tlS_6, tlS_7, tlS_8, tlC_0, tlC_1, tlC_2, tlC_3, LawM, LakeM, WaysM, WorldM, SimM, List.set_cons_succ, List.set_cons_zero, List.append_nil, List.nil_append, List.cons_append, Option.toList, Nat.sub_zero]
                    refine v_iconst (pc := 861) (v := 1) dL_law_861 rfl ?_
                    refine v_icmp_gt (pc := 862) (tgt := 885) dL_law_862 (by decide) (fun c862 => ?_) (fun c862 => ?_)
                    · refine v_iinc (pc := 885) (v := nI (i + 1)) dL_law_885 rfl (nI_1 _) (by show _ < 26; decide) rfl ?_
                      refine v_goto (pc := 888) (tgt := 330) dL_law_888 (by decide) ?_
                      refine v_room (ck' := ck + 20 * m) (sk' := sk + 120 * m) (by omega) (by omega) ?_
                      have k9 := ihK _ (lf_no (fun q => q.2.2.1 c862) hL)
                      refine v_sub ?_ k9
                      exact ⟨rfl, rfl, rfl, rfl, rfl, rfl, rfl, rfl, rfl, rfl, rfl, rfl, rfl, rfl, rfl, rfl, rfl, trivial⟩
                    · refine v_aload_nR (pc := 865) dL_law_865 rfl rfl ?_
                      refine v_iload (pc := 866) dL_law_866 rfl ?_
                      refine v_bipush (pc := 868) (v := 6) dL_law_868 rfl ?_
                      refine v_callV2 (pc := 870) (c7_sleigh hps hsc hbc (s := i) (q := 6) hi (by decide)) cm_X5_sleigh q323 q324 q325 (ci := 5) rfl rfl (orcO 0 rfl) [0, 1, 2, 3, 4, 5, 6, 7, 8, 9, 10, 11, 12, 13, 14, 15, 16, 17] (by rfl) (by decide) (fun _ _ h => h) (by omega) (by omega) (by decide) (Nat.le_of_ble_eq_true rfl) dL_law_870 (fun v870 M870 hQ870 => ?_)
                      obtain ⟨rfl, rfl⟩ := hQ870
                      try dsimp only [wb, tlS_0, tlS_1, tlS_2, tlS_3, tlS_4, tlS_5, tlS_6, tlS_7, tlS_8, tlC_0, tlC_1, tlC_2, tlC_3, LawM, LakeM, WaysM, WorldM, SimM, List.set_cons_succ, List.set_cons_zero, List.append_nil, List.nil_append, List.cons_append, Option.toList, Nat.sub_zero]
                      refine v_if_le (pc := 873) (tgt := 885) dL_law_873 (by decide) (fun c873 => ?_) (fun c873 => ?_)
                      · refine v_iinc (pc := 885) (v := nI (i + 1)) dL_law_885 rfl (nI_1 _) (by show _ < 26; decide) rfl ?_
                        refine v_goto (pc := 888) (tgt := 330) dL_law_888 (by decide) ?_
                        refine v_room (ck' := ck + 20 * m) (sk' := sk + 120 * m) (by omega) (by omega) ?_
                        have k9 := ihK _ (lf_no (fun q => Int32.not_le.mpr q.2.2.2 c873) hL)
                        refine v_sub ?_ k9
                        exact ⟨rfl, rfl, rfl, rfl, rfl, rfl, rfl, rfl, rfl, rfl, rfl, rfl, rfl, rfl, rfl, rfl, rfl, trivial⟩
                      · refine v_aloadR (pc := 876) dL_law_876 rfl ?_
                        refine v_iload (pc := 878) dL_law_878 rfl ?_
                        refine v_dup2 (pc := 880) dL_law_880 rfl rfl ?_
                        refine v_ialdN (pc := 881) 54 (k := c4) rfl (by omega) (by omega) dL_law_881 ?_
                        refine v_iconst (pc := 882) (v := 1) dL_law_882 rfl ?_
                        refine v_iadd (pc := 883) dL_law_883 ?_
                        refine v_iastN (pc := 884) 54 (k := c4) rfl (by omega) (by omega) dL_law_884 ?_
                        try dsimp only [wb, tlS_0, tlS_1, tlS_2, tlS_3, tlS_4, tlS_5, tlS_6, tlS_7, tlS_8, tlC_0, tlC_1, tlC_2, tlC_3, LawM, LakeM, WaysM, WorldM, SimM, List.set_cons_succ, List.set_cons_zero, List.append_nil, List.nil_append, List.cons_append, Option.toList, Nat.sub_zero]
                        refine v_iinc (pc := 885) (v := nI (i + 1)) dL_law_885 rfl (nI_1 _) (by show _ < 26; decide) rfl ?_
                        refine v_goto (pc := 888) (tgt := 330) dL_law_888 (by decide) ?_
                        refine v_room (ck' := ck + 20 * m) (sk' := sk + 120 * m) (by omega) (by omega) ?_
                        have k9 := ihK _ (lf_yes ⟨c453, c479, c862, Int32.not_le.mp c873⟩ (by rw [e4]; exact cN_nI (by omega)) hc4 hL)
                        refine v_sub ?_ k9
                        exact ⟨rfl, rfl, rfl, rfl, rfl, rfl, rfl, rfl, rfl, rfl, rfl, rfl, rfl, rfl, rfl, rfl, rfl, trivial⟩
              · refine v_iload (pc := 825) dL_law_825 rfl ?_
                refine v_if_ne (pc := 827) (tgt := 851) dL_law_827 (by decide) (fun c827 => absurd (g4a c822) c827) (fun c827 => ?_)
                refine v_iload (pc := 830) dL_law_830 rfl ?_
                refine v_if_ne (pc := 832) (tgt := 853) dL_law_832 (by decide) (fun c832 => ?_) (fun c832 => ?_)
                · refine v_aloadR (pc := 853) dL_law_853 rfl ?_
                  refine v_iload (pc := 855) dL_law_855 rfl ?_
                  refine v_aaldS (pc := 857) 50 (k := i) (by decide) rfl (by omega) (by omega) dL_law_857 ?_
                  refine v_bipush (pc := 858) (v := 6) dL_law_858 rfl ?_
                  refine v_ialdGN (pc := 860) 51 (j := 6) rfl (by omega) (by decide) (by decide) dL_law_860 ?_
                  try dsimp only [wb, tlS_0, tlS_1, tlS_2, tlS_3, tlS_4, tlS_5, tlS_6, tlS_7, tlS_8, tlC_0, tlC_1, tlC_2, tlC_3, LawM, LakeM, WaysM, WorldM, SimM, List.set_cons_succ, List.set_cons_zero, List.append_nil, List.nil_append, List.cons_append, Option.toList, Nat.sub_zero]
                  refine v_iconst (pc := 861) (v := 1) dL_law_861 rfl ?_
                  refine v_icmp_gt (pc := 862) (tgt := 885) dL_law_862 (by decide) (fun c862 => ?_) (fun c862 => ?_)
                  · refine v_iinc (pc := 885) (v := nI (i + 1)) dL_law_885 rfl (nI_1 _) (by show _ < 26; decide) rfl ?_
                    refine v_goto (pc := 888) (tgt := 330) dL_law_888 (by decide) ?_
                    refine v_room (ck' := ck + 20 * m) (sk' := sk + 120 * m) (by omega) (by omega) ?_
                    have k9 := ihK _ (lf_no (fun q => q.2.2.1 c862) hL)
                    refine v_sub ?_ k9
                    exact ⟨rfl, rfl, rfl, rfl, rfl, rfl, rfl, rfl, rfl, rfl, rfl, rfl, rfl, rfl, rfl, rfl, rfl, trivial⟩
                  · refine v_aload_nR (pc := 865) dL_law_865 rfl rfl ?_
                    refine v_iload (pc := 866) dL_law_866 rfl ?_
                    refine v_bipush (pc := 868) (v := 6) dL_law_868 rfl ?_
                    refine v_callV2 (pc := 870) (c7_sleigh hps hsc hbc (s := i) (q := 6) hi (by decide)) cm_X5_sleigh q323 q324 q325 (ci := 5) rfl rfl (orcO 0 rfl) [0, 1, 2, 3, 4, 5, 6, 7, 8, 9, 10, 11, 12, 13, 14, 15, 16, 17] (by rfl) (by decide) (fun _ _ h => h) (by omega) (by omega) (by decide) (Nat.le_of_ble_eq_true rfl) dL_law_870 (fun v870 M870 hQ870 => ?_)
                    obtain ⟨rfl, rfl⟩ := hQ870
                    try dsimp only [wb, tlS_0, tlS_1, tlS_2, tlS_3, tlS_4, tlS_5, tlS_6, tlS_7, tlS_8, tlC_0, tlC_1, tlC_2, tlC_3, LawM, LakeM, WaysM, WorldM, SimM, List.set_cons_succ, List.set_cons_zero, List.append_nil, List.nil_append, List.cons_append, Option.toList, Nat.sub_zero]
                    refine v_if_le (pc := 873) (tgt := 885) dL_law_873 (by decide) (fun c873 => ?_) (fun c873 => ?_)
                    · refine v_iinc (pc := 885) (v := nI (i + 1)) dL_law_885 rfl (nI_1 _) (by show _ < 26; decide) rfl ?_
                      refine v_goto (pc := 888) (tgt := 330) dL_law_888 (by decide) ?_
                      refine v_room (ck' := ck + 20 * m) (sk' := sk + 120 * m) (by omega) (by omega) ?_
                      have k9 := ihK _ (lf_no (fun q => Int32.not_le.mpr q.2.2.2 c873) hL)
                      refine v_sub ?_ k9
                      exact ⟨rfl, rfl, rfl, rfl, rfl, rfl, rfl, rfl, rfl, rfl, rfl, rfl, rfl, rfl, rfl, rfl, rfl, trivial⟩
                    · refine v_aloadR (pc := 876) dL_law_876 rfl ?_
                      refine v_iload (pc := 878) dL_law_878 rfl ?_
                      refine v_dup2 (pc := 880) dL_law_880 rfl rfl ?_
                      refine v_ialdN (pc := 881) 54 (k := c4) rfl (by omega) (by omega) dL_law_881 ?_
                      refine v_iconst (pc := 882) (v := 1) dL_law_882 rfl ?_
                      refine v_iadd (pc := 883) dL_law_883 ?_
                      refine v_iastN (pc := 884) 54 (k := c4) rfl (by omega) (by omega) dL_law_884 ?_
                      try dsimp only [wb, tlS_0, tlS_1, tlS_2, tlS_3, tlS_4, tlS_5, tlS_6, tlS_7, tlS_8, tlC_0, tlC_1, tlC_2, tlC_3, LawM, LakeM, WaysM, WorldM, SimM, List.set_cons_succ, List.set_cons_zero, List.append_nil, List.nil_append, List.cons_append, Option.toList, Nat.sub_zero]
                      refine v_iinc (pc := 885) (v := nI (i + 1)) dL_law_885 rfl (nI_1 _) (by show _ < 26; decide) rfl ?_
                      refine v_goto (pc := 888) (tgt := 330) dL_law_888 (by decide) ?_
                      refine v_room (ck' := ck + 20 * m) (sk' := sk + 120 * m) (by omega) (by omega) ?_
                      have k9 := ihK _ (lf_yes ⟨c453, c479, c862, Int32.not_le.mp c873⟩ (by rw [e4]; exact cN_nI (by omega)) hc4 hL)
                      refine v_sub ?_ k9
                      exact ⟨rfl, rfl, rfl, rfl, rfl, rfl, rfl, rfl, rfl, rfl, rfl, rfl, rfl, rfl, rfl, rfl, rfl, trivial⟩
                · refine v_aloadR (pc := 835) dL_law_835 rfl ?_
                  refine v_iload (pc := 837) dL_law_837 rfl ?_
                  refine v_aaldS (pc := 839) 50 (k := i) (by decide) rfl (by omega) (by omega) dL_law_839 ?_
                  refine v_iconst (pc := 840) (v := 3) dL_law_840 rfl ?_
                  refine v_ialdGN (pc := 841) 51 (j := 3) rfl (by omega) (by decide) (by decide) dL_law_841 ?_
                  try dsimp only [wb, tlS_0, tlS_1, tlS_2, tlS_3, tlS_4, tlS_5, tlS_6, tlS_7, tlS_8, tlC_0, tlC_1, tlC_2, tlC_3, LawM, LakeM, WaysM, WorldM, SimM, List.set_cons_succ, List.set_cons_zero, List.append_nil, List.nil_append, List.cons_append, Option.toList, Nat.sub_zero]
                  refine v_iconst (pc := 842) (v := 1) dL_law_842 rfl ?_
                  refine v_icmp_ne (pc := 843) (tgt := 853) dL_law_843 (by decide) (fun c843 => ?_) (fun c843 => ?_)
                  · refine v_aloadR (pc := 853) dL_law_853 rfl ?_
                    refine v_iload (pc := 855) dL_law_855 rfl ?_
                    refine v_aaldS (pc := 857) 50 (k := i) (by decide) rfl (by omega) (by omega) dL_law_857 ?_
                    refine v_bipush (pc := 858) (v := 6) dL_law_858 rfl ?_
                    refine v_ialdGN (pc := 860) 51 (j := 6) rfl (by omega) (by decide) (by decide) dL_law_860 ?_
                    try dsimp only [wb, tlS_0, tlS_1, tlS_2, tlS_3, tlS_4, tlS_5, tlS_6, tlS_7, tlS_8, tlC_0, tlC_1, tlC_2, tlC_3, LawM, LakeM, WaysM, WorldM, SimM, List.set_cons_succ, List.set_cons_zero, List.append_nil, List.nil_append, List.cons_append, Option.toList, Nat.sub_zero]
                    refine v_iconst (pc := 861) (v := 1) dL_law_861 rfl ?_
                    refine v_icmp_gt (pc := 862) (tgt := 885) dL_law_862 (by decide) (fun c862 => ?_) (fun c862 => ?_)
                    · refine v_iinc (pc := 885) (v := nI (i + 1)) dL_law_885 rfl (nI_1 _) (by show _ < 26; decide) rfl ?_
                      refine v_goto (pc := 888) (tgt := 330) dL_law_888 (by decide) ?_
                      refine v_room (ck' := ck + 20 * m) (sk' := sk + 120 * m) (by omega) (by omega) ?_
                      have k9 := ihK _ (lf_no (fun q => q.2.2.1 c862) hL)
                      refine v_sub ?_ k9
                      exact ⟨rfl, rfl, rfl, rfl, rfl, rfl, rfl, rfl, rfl, rfl, rfl, rfl, rfl, rfl, rfl, rfl, rfl, trivial⟩
                    · refine v_aload_nR (pc := 865) dL_law_865 rfl rfl ?_
                      refine v_iload (pc := 866) dL_law_866 rfl ?_
                      refine v_bipush (pc := 868) (v := 6) dL_law_868 rfl ?_
                      refine v_callV2 (pc := 870) (c7_sleigh hps hsc hbc (s := i) (q := 6) hi (by decide)) cm_X5_sleigh q323 q324 q325 (ci := 5) rfl rfl (orcO 0 rfl) [0, 1, 2, 3, 4, 5, 6, 7, 8, 9, 10, 11, 12, 13, 14, 15, 16, 17] (by rfl) (by decide) (fun _ _ h => h) (by omega) (by omega) (by decide) (Nat.le_of_ble_eq_true rfl) dL_law_870 (fun v870 M870 hQ870 => ?_)
                      obtain ⟨rfl, rfl⟩ := hQ870
                      try dsimp only [wb, tlS_0, tlS_1, tlS_2, tlS_3, tlS_4, tlS_5, tlS_6, tlS_7, tlS_8, tlC_0, tlC_1, tlC_2, tlC_3, LawM, LakeM, WaysM, WorldM, SimM, List.set_cons_succ, List.set_cons_zero, List.append_nil, List.nil_append, List.cons_append, Option.toList, Nat.sub_zero]
                      refine v_if_le (pc := 873) (tgt := 885) dL_law_873 (by decide) (fun c873 => ?_) (fun c873 => ?_)
                      · refine v_iinc (pc := 885) (v := nI (i + 1)) dL_law_885 rfl (nI_1 _) (by show _ < 26; decide) rfl ?_
                        refine v_goto (pc := 888) (tgt := 330) dL_law_888 (by decide) ?_
                        refine v_room (ck' := ck + 20 * m) (sk' := sk + 120 * m) (by omega) (by omega) ?_
                        have k9 := ihK _ (lf_no (fun q => Int32.not_le.mpr q.2.2.2 c873) hL)
                        refine v_sub ?_ k9
                        exact ⟨rfl, rfl, rfl, rfl, rfl, rfl, rfl, rfl, rfl, rfl, rfl, rfl, rfl, rfl, rfl, rfl, rfl, trivial⟩
                      · refine v_aloadR (pc := 876) dL_law_876 rfl ?_
                        refine v_iload (pc := 878) dL_law_878 rfl ?_
                        refine v_dup2 (pc := 880) dL_law_880 rfl rfl ?_
                        refine v_ialdN (pc := 881) 54 (k := c4) rfl (by omega) (by omega) dL_law_881 ?_
                        refine v_iconst (pc := 882) (v := 1) dL_law_882 rfl ?_
                        refine v_iadd (pc := 883) dL_law_883 ?_
                        refine v_iastN (pc := 884) 54 (k := c4) rfl (by omega) (by omega) dL_law_884 ?_
                        try dsimp only [wb, tlS_0, tlS_1, tlS_2, tlS_3, tlS_4, tlS_5, tlS_6, tlS_7, tlS_8, tlC_0, tlC_1, tlC_2, tlC_3, LawM, LakeM, WaysM, WorldM, SimM, List.set_cons_succ, List.set_cons_zero, List.append_nil, List.nil_append, List.cons_append, Option.toList, Nat.sub_zero]
                        refine v_iinc (pc := 885) (v := nI (i + 1)) dL_law_885 rfl (nI_1 _) (by show _ < 26; decide) rfl ?_
                        refine v_goto (pc := 888) (tgt := 330) dL_law_888 (by decide) ?_
                        refine v_room (ck' := ck + 20 * m) (sk' := sk + 120 * m) (by omega) (by omega) ?_
                        have k9 := ihK _ (lf_yes ⟨c453, c479, c862, Int32.not_le.mp c873⟩ (by rw [e4]; exact cN_nI (by omega)) hc4 hL)
                        refine v_sub ?_ k9
                        exact ⟨rfl, rfl, rfl, rfl, rfl, rfl, rfl, rfl, rfl, rfl, rfl, rfl, rfl, rfl, rfl, rfl, rfl, trivial⟩
                  · refine v_iload (pc := 846) dL_law_846 rfl ?_
                    refine v_if_ne (pc := 848) (tgt := 853) dL_law_848 (by decide) (fun c848 => ?_) (fun c848 => absurd c848 (by decide))
                    refine v_aloadR (pc := 853) dL_law_853 rfl ?_
                    refine v_iload (pc := 855) dL_law_855 rfl ?_
                    refine v_aaldS (pc := 857) 50 (k := i) (by decide) rfl (by omega) (by omega) dL_law_857 ?_
                    refine v_bipush (pc := 858) (v := 6) dL_law_858 rfl ?_
                    refine v_ialdGN (pc := 860) 51 (j := 6) rfl (by omega) (by decide) (by decide) dL_law_860 ?_
                    try dsimp only [wb, tlS_0, tlS_1, tlS_2, tlS_3, tlS_4, tlS_5, tlS_6, tlS_7, tlS_8, tlC_0, tlC_1, tlC_2, tlC_3, LawM, LakeM, WaysM, WorldM, SimM, List.set_cons_succ, List.set_cons_zero, List.append_nil, List.nil_append, List.cons_append, Option.toList, Nat.sub_zero]
                    refine v_iconst (pc := 861) (v := 1) dL_law_861 rfl ?_
                    refine v_icmp_gt (pc := 862) (tgt := 885) dL_law_862 (by decide) (fun c862 => ?_) (fun c862 => ?_)
                    · refine v_iinc (pc := 885) (v := nI (i + 1)) dL_law_885 rfl (nI_1 _) (by show _ < 26; decide) rfl ?_
                      refine v_goto (pc := 888) (tgt := 330) dL_law_888 (by decide) ?_
                      refine v_room (ck' := ck + 20 * m) (sk' := sk + 120 * m) (by omega) (by omega) ?_
                      have k9 := ihK _ (lf_no (fun q => q.2.2.1 c862) hL)
                      refine v_sub ?_ k9
                      exact ⟨rfl, rfl, rfl, rfl, rfl, rfl, rfl, rfl, rfl, rfl, rfl, rfl, rfl, rfl, rfl, rfl, rfl, trivial⟩
                    · refine v_aload_nR (pc := 865) dL_law_865 rfl rfl ?_
                      refine v_iload (pc := 866) dL_law_866 rfl ?_
                      refine v_bipush (pc := 868) (v := 6) dL_law_868 rfl ?_
                      refine v_callV2 (pc := 870) (c7_sleigh hps hsc hbc (s := i) (q := 6) hi (by decide)) cm_X5_sleigh q323 q324 q325 (ci := 5) rfl rfl (orcO 0 rfl) [0, 1, 2, 3, 4, 5, 6, 7, 8, 9, 10, 11, 12, 13, 14, 15, 16, 17] (by rfl) (by decide) (fun _ _ h => h) (by omega) (by omega) (by decide) (Nat.le_of_ble_eq_true rfl) dL_law_870 (fun v870 M870 hQ870 => ?_)
                      obtain ⟨rfl, rfl⟩ := hQ870
                      try dsimp only [wb, tlS_0, tlS_1, tlS_2, tlS_3, tlS_4, tlS_5, tlS_6, tlS_7, tlS_8, tlC_0, tlC_1, tlC_2, tlC_3, LawM, LakeM, WaysM, WorldM, SimM, List.set_cons_succ, List.set_cons_zero, List.append_nil, List.nil_append, List.cons_append, Option.toList, Nat.sub_zero]
                      refine v_if_le (pc := 873) (tgt := 885) dL_law_873 (by decide) (fun c873 => ?_) (fun c873 => ?_)
                      · refine v_iinc (pc := 885) (v := nI (i + 1)) dL_law_885 rfl (nI_1 _) (by show _ < 26; decide) rfl ?_
                        refine v_goto (pc := 888) (tgt := 330) dL_law_888 (by decide) ?_
                        refine v_room (ck' := ck + 20 * m) (sk' := sk + 120 * m) (by omega) (by omega) ?_
                        have k9 := ihK _ (lf_no (fun q => Int32.not_le.mpr q.2.2.2 c873) hL)
                        refine v_sub ?_ k9
                        exact ⟨rfl, rfl, rfl, rfl, rfl, rfl, rfl, rfl, rfl, rfl, rfl, rfl, rfl, rfl, rfl, rfl, rfl, trivial⟩
                      · refine v_aloadR (pc := 876) dL_law_876 rfl ?_
                        refine v_iload (pc := 878) dL_law_878 rfl ?_
                        refine v_dup2 (pc := 880) dL_law_880 rfl rfl ?_
                        refine v_ialdN (pc := 881) 54 (k := c4) rfl (by omega) (by omega) dL_law_881 ?_
                        refine v_iconst (pc := 882) (v := 1) dL_law_882 rfl ?_
                        refine v_iadd (pc := 883) dL_law_883 ?_
                        refine v_iastN (pc := 884) 54 (k := c4) rfl (by omega) (by omega) dL_law_884 ?_
                        try dsimp only [wb, tlS_0, tlS_1, tlS_2, tlS_3, tlS_4, tlS_5, tlS_6, tlS_7, tlS_8, tlC_0, tlC_1, tlC_2, tlC_3, LawM, LakeM, WaysM, WorldM, SimM, List.set_cons_succ, List.set_cons_zero, List.append_nil, List.nil_append, List.cons_append, Option.toList, Nat.sub_zero]
                        refine v_iinc (pc := 885) (v := nI (i + 1)) dL_law_885 rfl (nI_1 _) (by show _ < 26; decide) rfl ?_
                        refine v_goto (pc := 888) (tgt := 330) dL_law_888 (by decide) ?_
                        refine v_room (ck' := ck + 20 * m) (sk' := sk + 120 * m) (by omega) (by omega) ?_
                        have k9 := ihK _ (lf_yes ⟨c453, c479, c862, Int32.not_le.mp c873⟩ (by rw [e4]; exact cN_nI (by omega)) hc4 hL)
                        refine v_sub ?_ k9
                        exact ⟨rfl, rfl, rfl, rfl, rfl, rfl, rfl, rfl, rfl, rfl, rfl, rfl, rfl, rfl, rfl, rfl, rfl, trivial⟩
            · obtain ⟨p5a, p5b⟩ := (hI.1.2.2.2.1.2.1 i hi).2.1 c795
              obtain ⟨p5q, hq5, e5⟩ := kOf p5a (by omega)
              have hPq : nI c4 = PC p5q := by rw [← e4, p5b, e5, cop_k hq5 hps]
              refine v_iload (pc := 798) dL_law_798 rfl ?_
              refine v_aload_nR (pc := 800) dL_law_800 rfl rfl ?_
              refine v_get (pc := 801) 6 35 fg_L_58 rfl rfl dL_law_801 ?_
              refine v_aload_nR (pc := 804) dL_law_804 rfl rfl ?_
              refine v_iload (pc := 805) dL_law_805 rfl ?_
              refine v_iconst (pc := 807) (v := 5) dL_law_807 rfl ?_
              refine v_callV2 (pc := 808) (c7_sleigh hps hsc hbc (s := i) (q := 5) hi (by decide)) cm_X5_sleigh q323 q324 q325 (ci := 5) rfl rfl (orcO 0 rfl) [0, 1, 2, 3, 4, 5, 6, 7, 8, 9, 10, 11, 12, 13, 14, 15, 16, 17] (by rfl) (by decide) (fun _ _ h => h) (by omega) (by omega) (by decide) (Nat.le_of_ble_eq_true rfl) dL_law_808 (fun v808 M808 hQ808 => ?_)
              obtain ⟨rfl, rfl⟩ := hQ808
              try dsimp only [wb, tlS_0, tlS_1, tlS_2, tlS_3, tlS_4, tlS_5, tlS_6, tlS_7, tlS_8, tlC_0, tlC_1, tlC_2, tlC_3, LawM, LakeM, WaysM, WorldM, SimM, List.set_cons_succ, List.set_cons_zero, List.append_nil, List.nil_append, List.cons_append, Option.toList, Nat.sub_zero]
              rw [e5]
              refine v_ialdN (pc := 811) 41 (k := p5q) rfl (by omega) (by omega) dL_law_811 ?_
              refine v_icmp_ne (pc := 812) (tgt := 851) dL_law_812 (by decide) (fun c812 => absurd hPq c812) (fun c812 => ?_)
              refine v_aloadR (pc := 815) dL_law_815 rfl ?_
              refine v_iload (pc := 817) dL_law_817 rfl ?_
              refine v_aaldS (pc := 819) 50 (k := i) (by decide) rfl (by omega) (by omega) dL_law_819 ?_
              refine v_iconst (pc := 820) (v := 3) dL_law_820 rfl ?_
              refine v_ialdGN (pc := 821) 51 (j := 3) rfl (by omega) (by decide) (by decide) dL_law_821 ?_
              try dsimp only [wb, tlS_0, tlS_1, tlS_2, tlS_3, tlS_4, tlS_5, tlS_6, tlS_7, tlS_8, tlC_0, tlC_1, tlC_2, tlC_3, LawM, LakeM, WaysM, WorldM, SimM, List.set_cons_succ, List.set_cons_zero, List.append_nil, List.nil_append, List.cons_append, Option.toList, Nat.sub_zero]
              refine v_if_ne (pc := 822) (tgt := 830) dL_law_822 (by decide) (fun c822 => ?_) (fun c822 => ?_)
              · refine v_iload (pc := 830) dL_law_830 rfl ?_
                refine v_if_ne (pc := 832) (tgt := 853) dL_law_832 (by decide) (fun c832 => ?_) (fun c832 => ?_)
                · refine v_aloadR (pc := 853) dL_law_853 rfl ?_
                  refine v_iload (pc := 855) dL_law_855 rfl ?_
                  refine v_aaldS (pc := 857) 50 (k := i) (by decide) rfl (by omega) (by omega) dL_law_857 ?_
                  refine v_bipush (pc := 858) (v := 6) dL_law_858 rfl ?_
                  refine v_ialdGN (pc := 860) 51 (j := 6) rfl (by omega) (by decide) (by decide) dL_law_860 ?_
                  try dsimp only [wb, tlS_0, tlS_1, tlS_2, tlS_3, tlS_4, tlS_5, tlS_6, tlS_7, tlS_8, tlC_0, tlC_1, tlC_2, tlC_3, LawM, LakeM, WaysM, WorldM, SimM, List.set_cons_succ, List.set_cons_zero, List.append_nil, List.nil_append, List.cons_append, Option.toList, Nat.sub_zero]
                  refine v_iconst (pc := 861) (v := 1) dL_law_861 rfl ?_
                  refine v_icmp_gt (pc := 862) (tgt := 885) dL_law_862 (by decide) (fun c862 => ?_) (fun c862 => ?_)
                  · refine v_iinc (pc := 885) (v := nI (i + 1)) dL_law_885 rfl (nI_1 _) (by show _ < 26; decide) rfl ?_
                    refine v_goto (pc := 888) (tgt := 330) dL_law_888 (by decide) ?_
                    refine v_room (ck' := ck + 20 * m) (sk' := sk + 120 * m) (by omega) (by omega) ?_
                    have k9 := ihK _ (lf_no (fun q => q.2.2.1 c862) hL)
                    refine v_sub ?_ k9
                    exact ⟨rfl, rfl, rfl, rfl, rfl, rfl, rfl, rfl, rfl, rfl, rfl, rfl, rfl, rfl, rfl, rfl, rfl, trivial⟩
                  · refine v_aload_nR (pc := 865) dL_law_865 rfl rfl ?_
                    refine v_iload (pc := 866) dL_law_866 rfl ?_
                    refine v_bipush (pc := 868) (v := 6) dL_law_868 rfl ?_
                    refine v_callV2 (pc := 870) (c7_sleigh hps hsc hbc (s := i) (q := 6) hi (by decide)) cm_X5_sleigh q323 q324 q325 (ci := 5) rfl rfl (orcO 0 rfl) [0, 1, 2, 3, 4, 5, 6, 7, 8, 9, 10, 11, 12, 13, 14, 15, 16, 17] (by rfl) (by decide) (fun _ _ h => h) (by omega) (by omega) (by decide) (Nat.le_of_ble_eq_true rfl) dL_law_870 (fun v870 M870 hQ870 => ?_)
                    obtain ⟨rfl, rfl⟩ := hQ870
                    try dsimp only [wb, tlS_0, tlS_1, tlS_2, tlS_3, tlS_4, tlS_5, tlS_6, tlS_7, tlS_8, tlC_0, tlC_1, tlC_2, tlC_3, LawM, LakeM, WaysM, WorldM, SimM, List.set_cons_succ, List.set_cons_zero, List.append_nil, List.nil_append, List.cons_append, Option.toList, Nat.sub_zero]
                    refine v_if_le (pc := 873) (tgt := 885) dL_law_873 (by decide) (fun c873 => ?_) (fun c873 => ?_)
                    · refine v_iinc (pc := 885) (v := nI (i + 1)) dL_law_885 rfl (nI_1 _) (by show _ < 26; decide) rfl ?_
                      refine v_goto (pc := 888) (tgt := 330) dL_law_888 (by decide) ?_
                      refine v_room (ck' := ck + 20 * m) (sk' := sk + 120 * m) (by omega) (by omega) ?_
                      have k9 := ihK _ (lf_no (fun q => Int32.not_le.mpr q.2.2.2 c873) hL)
                      refine v_sub ?_ k9
                      exact ⟨rfl, rfl, rfl, rfl, rfl, rfl, rfl, rfl, rfl, rfl, rfl, rfl, rfl, rfl, rfl, rfl, rfl, trivial⟩
                    · refine v_aloadR (pc := 876) dL_law_876 rfl ?_
                      refine v_iload (pc := 878) dL_law_878 rfl ?_
                      refine v_dup2 (pc := 880) dL_law_880 rfl rfl ?_
                      refine v_ialdN (pc := 881) 54 (k := c4) rfl (by omega) (by omega) dL_law_881 ?_
                      refine v_iconst (pc := 882) (v := 1) dL_law_882 rfl ?_
                      refine v_iadd (pc := 883) dL_law_883 ?_
                      refine v_iastN (pc := 884) 54 (k := c4) rfl (by omega) (by omega) dL_law_884 ?_
                      try dsimp only [wb, tlS_0, tlS_1, tlS_2, tlS_3, tlS_4, tlS_5, tlS_6, tlS_7, tlS_8, tlC_0, tlC_1, tlC_2, tlC_3, LawM, LakeM, WaysM, WorldM, SimM, List.set_cons_succ, List.set_cons_zero, List.append_nil, List.nil_append, List.cons_append, Option.toList, Nat.sub_zero]
                      refine v_iinc (pc := 885) (v := nI (i + 1)) dL_law_885 rfl (nI_1 _) (by show _ < 26; decide) rfl ?_
                      refine v_goto (pc := 888) (tgt := 330) dL_law_888 (by decide) ?_
                      refine v_room (ck' := ck + 20 * m) (sk' := sk + 120 * m) (by omega) (by omega) ?_
                      have k9 := ihK _ (lf_yes ⟨c453, c479, c862, Int32.not_le.mp c873⟩ (by rw [e4]; exact cN_nI (by omega)) hc4 hL)
                      refine v_sub ?_ k9
                      exact ⟨rfl, rfl, rfl, rfl, rfl, rfl, rfl, rfl, rfl, rfl, rfl, rfl, rfl, rfl, rfl, rfl, rfl, trivial⟩
                · refine v_aloadR (pc := 835) dL_law_835 rfl ?_
                  refine v_iload (pc := 837) dL_law_837 rfl ?_
                  refine v_aaldS (pc := 839) 50 (k := i) (by decide) rfl (by omega) (by omega) dL_law_839 ?_
                  refine v_iconst (pc := 840) (v := 3) dL_law_840 rfl ?_
                  refine v_ialdGN (pc := 841) 51 (j := 3) rfl (by omega) (by decide) (by decide) dL_law_841 ?_
                  try dsimp only [wb, tlS_0, tlS_1, tlS_2, tlS_3, tlS_4, tlS_5, tlS_6, tlS_7, tlS_8, tlC_0, tlC_1, tlC_2, tlC_3, LawM, LakeM, WaysM, WorldM, SimM, List.set_cons_succ, List.set_cons_zero, List.append_nil, List.nil_append, List.cons_append, Option.toList, Nat.sub_zero]
                  refine v_iconst (pc := 842) (v := 1) dL_law_842 rfl ?_
                  refine v_icmp_ne (pc := 843) (tgt := 853) dL_law_843 (by decide) (fun c843 => ?_) (fun c843 => ?_)
                  · refine v_aloadR (pc := 853) dL_law_853 rfl ?_
                    refine v_iload (pc := 855) dL_law_855 rfl ?_
                    refine v_aaldS (pc := 857) 50 (k := i) (by decide) rfl (by omega) (by omega) dL_law_857 ?_
                    refine v_bipush (pc := 858) (v := 6) dL_law_858 rfl ?_
                    refine v_ialdGN (pc := 860) 51 (j := 6) rfl (by omega) (by decide) (by decide) dL_law_860 ?_
                    try dsimp only [wb, tlS_0, tlS_1, tlS_2, tlS_3, tlS_4, tlS_5, tlS_6, tlS_7, tlS_8, tlC_0, tlC_1, tlC_2, tlC_3, LawM, LakeM, WaysM, WorldM, SimM, List.set_cons_succ, List.set_cons_zero, List.append_nil, List.nil_append, List.cons_append, Option.toList, Nat.sub_zero]
                    refine v_iconst (pc := 861) (v := 1) dL_law_861 rfl ?_
                    refine v_icmp_gt (pc := 862) (tgt := 885) dL_law_862 (by decide) (fun c862 => ?_) (fun c862 => ?_)
                    · refine v_iinc (pc := 885) (v := nI (i + 1)) dL_law_885 rfl (nI_1 _) (by show _ < 26; decide) rfl ?_
                      refine v_goto (pc := 888) (tgt := 330) dL_law_888 (by decide) ?_
                      refine v_room (ck' := ck + 20 * m) (sk' := sk + 120 * m) (by omega) (by omega) ?_
                      have k9 := ihK _ (lf_no (fun q => q.2.2.1 c862) hL)
                      refine v_sub ?_ k9
                      exact ⟨rfl, rfl, rfl, rfl, rfl, rfl, rfl, rfl, rfl, rfl, rfl, rfl, rfl, rfl, rfl, rfl, rfl, trivial⟩
                    · refine v_aload_nR (pc := 865) dL_law_865 rfl rfl ?_
                      refine v_iload (pc := 866) dL_law_866 rfl ?_
                      refine v_bipush (pc := 868) (v := 6) dL_law_868 rfl ?_
                      refine v_callV2 (pc := 870) (c7_sleigh hps hsc hbc (s := i) (q := 6) hi (by decide)) cm_X5_sleigh q323 q324 q325 (ci := 5) rfl rfl (orcO 0 rfl) [0, 1, 2, 3, 4, 5, 6, 7, 8, 9, 10, 11, 12, 13, 14, 15, 16, 17] (by rfl) (by decide) (fun _ _ h => h) (by omega) (by omega) (by decide) (Nat.le_of_ble_eq_true rfl) dL_law_870 (fun v870 M870 hQ870 => ?_)
                      obtain ⟨rfl, rfl⟩ := hQ870
                      try dsimp only [wb, tlS_0, tlS_1, tlS_2, tlS_3, tlS_4, tlS_5, tlS_6, tlS_7, tlS_8, tlC_0, tlC_1, tlC_2, tlC_3, LawM, LakeM, WaysM, WorldM, SimM, List.set_cons_succ, List.set_cons_zero, List.append_nil, List.nil_append, List.cons_append, Option.toList, Nat.sub_zero]
                      refine v_if_le (pc := 873) (tgt := 885) dL_law_873 (by decide) (fun c873 => ?_) (fun c873 => ?_)
                      · refine v_iinc (pc := 885) (v := nI (i + 1)) dL_law_885 rfl (nI_1 _) (by show _ < 26; decide) rfl ?_
                        refine v_goto (pc := 888) (tgt := 330) dL_law_888 (by decide) ?_
                        refine v_room (ck' := ck + 20 * m) (sk' := sk + 120 * m) (by omega) (by omega) ?_
                        have k9 := ihK _ (lf_no (fun q => Int32.not_le.mpr q.2.2.2 c873) hL)
                        refine v_sub ?_ k9
                        exact ⟨rfl, rfl, rfl, rfl, rfl, rfl, rfl, rfl, rfl, rfl, rfl, rfl, rfl, rfl, rfl, rfl, rfl, trivial⟩
                      · refine v_aloadR (pc := 876) dL_law_876 rfl ?_
                        refine v_iload (pc := 878) dL_law_878 rfl ?_
                        refine v_dup2 (pc := 880) dL_law_880 rfl rfl ?_
                        refine v_ialdN (pc := 881) 54 (k := c4) rfl (by omega) (by omega) dL_law_881 ?_
                        refine v_iconst (pc := 882) (v := 1) dL_law_882 rfl ?_
                        refine v_iadd (pc := 883) dL_law_883 ?_
                        refine v_iastN (pc := 884) 54 (k := c4) rfl (by omega) (by omega) dL_law_884 ?_
                        try dsimp only [wb, tlS_0, tlS_1, tlS_2, tlS_3, tlS_4, tlS_5, tlS_6, tlS_7, tlS_8, tlC_0, tlC_1, tlC_2, tlC_3, LawM, LakeM, WaysM, WorldM, SimM, List.set_cons_succ, List.set_cons_zero, List.append_nil, List.nil_append, List.cons_append, Option.toList, Nat.sub_zero]
                        refine v_iinc (pc := 885) (v := nI (i + 1)) dL_law_885 rfl (nI_1 _) (by show _ < 26; decide) rfl ?_
                        refine v_goto (pc := 888) (tgt := 330) dL_law_888 (by decide) ?_
                        refine v_room (ck' := ck + 20 * m) (sk' := sk + 120 * m) (by omega) (by omega) ?_
                        have k9 := ihK _ (lf_yes ⟨c453, c479, c862, Int32.not_le.mp c873⟩ (by rw [e4]; exact cN_nI (by omega)) hc4 hL)
                        refine v_sub ?_ k9
                        exact ⟨rfl, rfl, rfl, rfl, rfl, rfl, rfl, rfl, rfl, rfl, rfl, rfl, rfl, rfl, rfl, rfl, rfl, trivial⟩
                  · refine v_iload (pc := 846) dL_law_846 rfl ?_
                    refine v_if_ne (pc := 848) (tgt := 853) dL_law_848 (by decide) (fun c848 => ?_) (fun c848 => absurd c848 (by decide))
                    refine v_aloadR (pc := 853) dL_law_853 rfl ?_
                    refine v_iload (pc := 855) dL_law_855 rfl ?_
                    refine v_aaldS (pc := 857) 50 (k := i) (by decide) rfl (by omega) (by omega) dL_law_857 ?_
                    refine v_bipush (pc := 858) (v := 6) dL_law_858 rfl ?_
                    refine v_ialdGN (pc := 860) 51 (j := 6) rfl (by omega) (by decide) (by decide) dL_law_860 ?_
                    try dsimp only [wb, tlS_0, tlS_1, tlS_2, tlS_3, tlS_4, tlS_5, tlS_6, tlS_7, tlS_8, tlC_0, tlC_1, tlC_2, tlC_3, LawM, LakeM, WaysM, WorldM, SimM, List.set_cons_succ, List.set_cons_zero, List.append_nil, List.nil_append, List.cons_append, Option.toList, Nat.sub_zero]
                    refine v_iconst (pc := 861) (v := 1) dL_law_861 rfl ?_
                    refine v_icmp_gt (pc := 862) (tgt := 885) dL_law_862 (by decide) (fun c862 => ?_) (fun c862 => ?_)
                    · refine v_iinc (pc := 885) (v := nI (i + 1)) dL_law_885 rfl (nI_1 _) (by show _ < 26; decide) rfl ?_
                      refine v_goto (pc := 888) (tgt := 330) dL_law_888 (by decide) ?_
                      refine v_room (ck' := ck + 20 * m) (sk' := sk + 120 * m) (by omega) (by omega) ?_
                      have k9 := ihK _ (lf_no (fun q => q.2.2.1 c862) hL)
                      refine v_sub ?_ k9
                      exact ⟨rfl, rfl, rfl, rfl, rfl, rfl, rfl, rfl, rfl, rfl, rfl, rfl, rfl, rfl, rfl, rfl, rfl, trivial⟩
                    · refine v_aload_nR (pc := 865) dL_law_865 rfl rfl ?_
                      refine v_iload (pc := 866) dL_law_866 rfl ?_
                      refine v_bipush (pc := 868) (v := 6) dL_law_868 rfl ?_
                      refine v_callV2 (pc := 870) (c7_sleigh hps hsc hbc (s := i) (q := 6) hi (by decide)) cm_X5_sleigh q323 q324 q325 (ci := 5) rfl rfl (orcO 0 rfl) [0, 1, 2, 3, 4, 5, 6, 7, 8, 9, 10, 11, 12, 13, 14, 15, 16, 17] (by rfl) (by decide) (fun _ _ h => h) (by omega) (by omega) (by decide) (Nat.le_of_ble_eq_true rfl) dL_law_870 (fun v870 M870 hQ870 => ?_)
                      obtain ⟨rfl, rfl⟩ := hQ870
                      try dsimp only [wb, tlS_0, tlS_1, tlS_2, tlS_3, tlS_4, tlS_5, tlS_6, tlS_7, tlS_8, tlC_0, tlC_1, tlC_2, tlC_3, LawM, LakeM, WaysM, WorldM, SimM, List.set_cons_succ, List.set_cons_zero, List.append_nil, List.nil_append, List.cons_append, Option.toList, Nat.sub_zero]
                      refine v_if_le (pc := 873) (tgt := 885) dL_law_873 (by decide) (fun c873 => ?_) (fun c873 => ?_)
                      · refine v_iinc (pc := 885) (v := nI (i + 1)) dL_law_885 rfl (nI_1 _) (by show _ < 26; decide) rfl ?_
                        refine v_goto (pc := 888) (tgt := 330) dL_law_888 (by decide) ?_
                        refine v_room (ck' := ck + 20 * m) (sk' := sk + 120 * m) (by omega) (by omega) ?_
                        have k9 := ihK _ (lf_no (fun q => Int32.not_le.mpr q.2.2.2 c873) hL)
                        refine v_sub ?_ k9
                        exact ⟨rfl, rfl, rfl, rfl, rfl, rfl, rfl, rfl, rfl, rfl, rfl, rfl, rfl, rfl, rfl, rfl, rfl, trivial⟩
                      · refine v_aloadR (pc := 876) dL_law_876 rfl ?_
                        refine v_iload (pc := 878) dL_law_878 rfl ?_
                        refine v_dup2 (pc := 880) dL_law_880 rfl rfl ?_
                        refine v_ialdN (pc := 881) 54 (k := c4) rfl (by omega) (by omega) dL_law_881 ?_
                        refine v_iconst (pc := 882) (v := 1) dL_law_882 rfl ?_
                        refine v_iadd (pc := 883) dL_law_883 ?_
                        refine v_iastN (pc := 884) 54 (k := c4) rfl (by omega) (by omega) dL_law_884 ?_
                        try dsimp only [wb, tlS_0, tlS_1, tlS_2, tlS_3, tlS_4, tlS_5, tlS_6, tlS_7, tlS_8, tlC_0, tlC_1, tlC_2, tlC_3, LawM, LakeM, WaysM, WorldM, SimM, List.set_cons_succ, List.set_cons_zero, List.append_nil, List.nil_append, List.cons_append, Option.toList, Nat.sub_zero]
                        refine v_iinc (pc := 885) (v := nI (i + 1)) dL_law_885 rfl (nI_1 _) (by show _ < 26; decide) rfl ?_
                        refine v_goto (pc := 888) (tgt := 330) dL_law_888 (by decide) ?_
                        refine v_room (ck' := ck + 20 * m) (sk' := sk + 120 * m) (by omega) (by omega) ?_
                        have k9 := ihK _ (lf_yes ⟨c453, c479, c862, Int32.not_le.mp c873⟩ (by rw [e4]; exact cN_nI (by omega)) hc4 hL)
                        refine v_sub ?_ k9
                        exact ⟨rfl, rfl, rfl, rfl, rfl, rfl, rfl, rfl, rfl, rfl, rfl, rfl, rfl, rfl, rfl, rfl, rfl, trivial⟩
              · refine v_iload (pc := 825) dL_law_825 rfl ?_
                refine v_if_ne (pc := 827) (tgt := 851) dL_law_827 (by decide) (fun c827 => absurd (g4a c822) c827) (fun c827 => ?_)
                refine v_iload (pc := 830) dL_law_830 rfl ?_
                refine v_if_ne (pc := 832) (tgt := 853) dL_law_832 (by decide) (fun c832 => ?_) (fun c832 => ?_)
                · refine v_aloadR (pc := 853) dL_law_853 rfl ?_
                  refine v_iload (pc := 855) dL_law_855 rfl ?_
                  refine v_aaldS (pc := 857) 50 (k := i) (by decide) rfl (by omega) (by omega) dL_law_857 ?_
                  refine v_bipush (pc := 858) (v := 6) dL_law_858 rfl ?_
                  refine v_ialdGN (pc := 860) 51 (j := 6) rfl (by omega) (by decide) (by decide) dL_law_860 ?_
                  try dsimp only [wb, tlS_0, tlS_1, tlS_2, tlS_3, tlS_4, tlS_5, tlS_6, tlS_7, tlS_8, tlC_0, tlC_1, tlC_2, tlC_3, LawM, LakeM, WaysM, WorldM, SimM, List.set_cons_succ, List.set_cons_zero, List.append_nil, List.nil_append, List.cons_append, Option.toList, Nat.sub_zero]
                  refine v_iconst (pc := 861) (v := 1) dL_law_861 rfl ?_
                  refine v_icmp_gt (pc := 862) (tgt := 885) dL_law_862 (by decide) (fun c862 => ?_) (fun c862 => ?_)
                  · refine v_iinc (pc := 885) (v := nI (i + 1)) dL_law_885 rfl (nI_1 _) (by show _ < 26; decide) rfl ?_
                    refine v_goto (pc := 888) (tgt := 330) dL_law_888 (by decide) ?_
                    refine v_room (ck' := ck + 20 * m) (sk' := sk + 120 * m) (by omega) (by omega) ?_
                    have k9 := ihK _ (lf_no (fun q => q.2.2.1 c862) hL)
                    refine v_sub ?_ k9
                    exact ⟨rfl, rfl, rfl, rfl, rfl, rfl, rfl, rfl, rfl, rfl, rfl, rfl, rfl, rfl, rfl, rfl, rfl, trivial⟩
                  · refine v_aload_nR (pc := 865) dL_law_865 rfl rfl ?_
                    refine v_iload (pc := 866) dL_law_866 rfl ?_
                    refine v_bipush (pc := 868) (v := 6) dL_law_868 rfl ?_
                    refine v_callV2 (pc := 870) (c7_sleigh hps hsc hbc (s := i) (q := 6) hi (by decide)) cm_X5_sleigh q323 q324 q325 (ci := 5) rfl rfl (orcO 0 rfl) [0, 1, 2, 3, 4, 5, 6, 7, 8, 9, 10, 11, 12, 13, 14, 15, 16, 17] (by rfl) (by decide) (fun _ _ h => h) (by omega) (by omega) (by decide) (Nat.le_of_ble_eq_true rfl) dL_law_870 (fun v870 M870 hQ870 => ?_)
                    obtain ⟨rfl, rfl⟩ := hQ870
                    try dsimp only [wb, tlS_0, tlS_1, tlS_2, tlS_3, tlS_4, tlS_5, tlS_6, tlS_7, tlS_8, tlC_0, tlC_1, tlC_2, tlC_3, LawM, LakeM, WaysM, WorldM, SimM, List.set_cons_succ, List.set_cons_zero, List.append_nil, List.nil_append, List.cons_append, Option.toList, Nat.sub_zero]
                    refine v_if_le (pc := 873) (tgt := 885) dL_law_873 (by decide) (fun c873 => ?_) (fun c873 => ?_)
                    · refine v_iinc (pc := 885) (v := nI (i + 1)) dL_law_885 rfl (nI_1 _) (by show _ < 26; decide) rfl ?_
                      refine v_goto (pc := 888) (tgt := 330) dL_law_888 (by decide) ?_
                      refine v_room (ck' := ck + 20 * m) (sk' := sk + 120 * m) (by omega) (by omega) ?_
                      have k9 := ihK _ (lf_no (fun q => Int32.not_le.mpr q.2.2.2 c873) hL)
                      refine v_sub ?_ k9
                      exact ⟨rfl, rfl, rfl, rfl, rfl, rfl, rfl, rfl, rfl, rfl, rfl, rfl, rfl, rfl, rfl, rfl, rfl, trivial⟩
                    · refine v_aloadR (pc := 876) dL_law_876 rfl ?_
                      refine v_iload (pc := 878) dL_law_878 rfl ?_
                      refine v_dup2 (pc := 880) dL_law_880 rfl rfl ?_
                      refine v_ialdN (pc := 881) 54 (k := c4) rfl (by omega) (by omega) dL_law_881 ?_
                      refine v_iconst (pc := 882) (v := 1) dL_law_882 rfl ?_
                      refine v_iadd (pc := 883) dL_law_883 ?_
                      refine v_iastN (pc := 884) 54 (k := c4) rfl (by omega) (by omega) dL_law_884 ?_
                      try dsimp only [wb, tlS_0, tlS_1, tlS_2, tlS_3, tlS_4, tlS_5, tlS_6, tlS_7, tlS_8, tlC_0, tlC_1, tlC_2, tlC_3, LawM, LakeM, WaysM, WorldM, SimM, List.set_cons_succ, List.set_cons_zero, List.append_nil, List.nil_append, List.cons_append, Option.toList, Nat.sub_zero]
                      refine v_iinc (pc := 885) (v := nI (i + 1)) dL_law_885 rfl (nI_1 _) (by show _ < 26; decide) rfl ?_
                      refine v_goto (pc := 888) (tgt := 330) dL_law_888 (by decide) ?_
                      refine v_room (ck' := ck + 20 * m) (sk' := sk + 120 * m) (by omega) (by omega) ?_
                      have k9 := ihK _ (lf_yes ⟨c453, c479, c862, Int32.not_le.mp c873⟩ (by rw [e4]; exact cN_nI (by omega)) hc4 hL)
                      refine v_sub ?_ k9
                      exact ⟨rfl, rfl, rfl, rfl, rfl, rfl, rfl, rfl, rfl, rfl, rfl, rfl, rfl, rfl, rfl, rfl, rfl, trivial⟩
                · refine v_aloadR (pc := 835) dL_law_835 rfl ?_
                  refine v_iload (pc := 837) dL_law_837 rfl ?_
                  refine v_aaldS (pc := 839) 50 (k := i) (by decide) rfl (by omega) (by omega) dL_law_839 ?_
                  refine v_iconst (pc := 840) (v := 3) dL_law_840 rfl ?_
                  refine v_ialdGN (pc := 841) 51 (j := 3) rfl (by omega) (by decide) (by decide) dL_law_841 ?_
                  try dsimp only [wb, tlS_0, tlS_1, tlS_2, tlS_3, tlS_4, tlS_5, tlS_6, tlS_7, tlS_8, tlC_0, tlC_1, tlC_2, tlC_3, LawM, LakeM, WaysM, WorldM, SimM, List.set_cons_succ, List.set_cons_zero, List.append_nil, List.nil_append, List.cons_append, Option.toList, Nat.sub_zero]
                  refine v_iconst (pc := 842) (v := 1) dL_law_842 rfl ?_
                  refine v_icmp_ne (pc := 843) (tgt := 853) dL_law_843 (by decide) (fun c843 => ?_) (fun c843 => ?_)
                  · refine v_aloadR (pc := 853) dL_law_853 rfl ?_
                    refine v_iload (pc := 855) dL_law_855 rfl ?_
                    refine v_aaldS (pc := 857) 50 (k := i) (by decide) rfl (by omega) (by omega) dL_law_857 ?_
                    refine v_bipush (pc := 858) (v := 6) dL_law_858 rfl ?_
                    refine v_ialdGN (pc := 860) 51 (j := 6) rfl (by omega) (by decide) (by decide) dL_law_860 ?_
                    try dsimp only [wb, tlS_0, tlS_1, tlS_2, tlS_3, tlS_4, tlS_5, tlS_6, tlS_7, tlS_8, tlC_0, tlC_1, tlC_2, tlC_3, LawM, LakeM, WaysM, WorldM, SimM, List.set_cons_succ, List.set_cons_zero, List.append_nil, List.nil_append, List.cons_append, Option.toList, Nat.sub_zero]
                    refine v_iconst (pc := 861) (v := 1) dL_law_861 rfl ?_
                    refine v_icmp_gt (pc := 862) (tgt := 885) dL_law_862 (by decide) (fun c862 => ?_) (fun c862 => ?_)
                    · refine v_iinc (pc := 885) (v := nI (i + 1)) dL_law_885 rfl (nI_1 _) (by show _ < 26; decide) rfl ?_
                      refine v_goto (pc := 888) (tgt := 330) dL_law_888 (by decide) ?_
                      refine v_room (ck' := ck + 20 * m) (sk' := sk + 120 * m) (by omega) (by omega) ?_
                      have k9 := ihK _ (lf_no (fun q => q.2.2.1 c862) hL)
                      refine v_sub ?_ k9
                      exact ⟨rfl, rfl, rfl, rfl, rfl, rfl, rfl, rfl, rfl, rfl, rfl, rfl, rfl, rfl, rfl, rfl, rfl, trivial⟩
                    · refine v_aload_nR (pc := 865) dL_law_865 rfl rfl ?_
                      refine v_iload (pc := 866) dL_law_866 rfl ?_
                      refine v_bipush (pc := 868) (v := 6) dL_law_868 rfl ?_
                      refine v_callV2 (pc := 870) (c7_sleigh hps hsc hbc (s := i) (q := 6) hi (by decide)) cm_X5_sleigh q323 q324 q325 (ci := 5) rfl rfl (orcO 0 rfl) [0, 1, 2, 3, 4, 5, 6, 7, 8, 9, 10, 11, 12, 13, 14, 15, 16, 17] (by rfl) (by decide) (fun _ _ h => h) (by omega) (by omega) (by decide) (Nat.le_of_ble_eq_true rfl) dL_law_870 (fun v870 M870 hQ870 => ?_)
                      obtain ⟨rfl, rfl⟩ := hQ870
                      try dsimp only [wb, tlS_0, tlS_1, tlS_2, tlS_3, tlS_4, tlS_5, tlS_6, tlS_7, tlS_8, tlC_0, tlC_1, tlC_2, tlC_3, LawM, LakeM, WaysM, WorldM, SimM, List.set_cons_succ, List.set_cons_zero, List.append_nil, List.nil_append, List.cons_append, Option.toList, Nat.sub_zero]
                      refine v_if_le (pc := 873) (tgt := 885) dL_law_873 (by decide) (fun c873 => ?_) (fun c873 => ?_)
                      · refine v_iinc (pc := 885) (v := nI (i + 1)) dL_law_885 rfl (nI_1 _) (by show _ < 26; decide) rfl ?_
                        refine v_goto (pc := 888) (tgt := 330) dL_law_888 (by decide) ?_
                        refine v_room (ck' := ck + 20 * m) (sk' := sk + 120 * m) (by omega) (by omega) ?_
                        have k9 := ihK _ (lf_no (fun q => Int32.not_le.mpr q.2.2.2 c873) hL)
                        refine v_sub ?_ k9
                        exact ⟨rfl, rfl, rfl, rfl, rfl, rfl, rfl, rfl, rfl, rfl, rfl, rfl, rfl, rfl, rfl, rfl, rfl, trivial⟩
                      · refine v_aloadR (pc := 876) dL_law_876 rfl ?_
                        refine v_iload (pc := 878) dL_law_878 rfl ?_
                        refine v_dup2 (pc := 880) dL_law_880 rfl rfl ?_
                        refine v_ialdN (pc := 881) 54 (k := c4) rfl (by omega) (by omega) dL_law_881 ?_
                        refine v_iconst (pc := 882) (v := 1) dL_law_882 rfl ?_
                        refine v_iadd (pc := 883) dL_law_883 ?_
                        refine v_iastN (pc := 884) 54 (k := c4) rfl (by omega) (by omega) dL_law_884 ?_
                        try dsimp only [wb, tlS_0, tlS_1, tlS_2, tlS_3, tlS_4, tlS_5, tlS_6, tlS_7, tlS_8, tlC_0, tlC_1, tlC_2, tlC_3, LawM, LakeM, WaysM, WorldM, SimM, List.set_cons_succ, List.set_cons_zero, List.append_nil, List.nil_append, List.cons_append, Option.toList, Nat.sub_zero]
                        refine v_iinc (pc := 885) (v := nI (i + 1)) dL_law_885 rfl (nI_1 _) (by show _ < 26; decide) rfl ?_
                        refine v_goto (pc := 888) (tgt := 330) dL_law_888 (by decide) ?_
                        refine v_room (ck' := ck + 20 * m) (sk' := sk + 120 * m) (by omega) (by omega) ?_
                        have k9 := ihK _ (lf_yes ⟨c453, c479, c862, Int32.not_le.mp c873⟩ (by rw [e4]; exact cN_nI (by omega)) hc4 hL)
                        refine v_sub ?_ k9
                        exact ⟨rfl, rfl, rfl, rfl, rfl, rfl, rfl, rfl, rfl, rfl, rfl, rfl, rfl, rfl, rfl, rfl, rfl, trivial⟩
                  · refine v_iload (pc := 846) dL_law_846 rfl ?_
                    refine v_if_ne (pc := 848) (tgt := 853) dL_law_848 (by decide) (fun c848 => ?_) (fun c848 => absurd c848 (by decide))
                    refine v_aloadR (pc := 853) dL_law_853 rfl ?_
                    refine v_iload (pc := 855) dL_law_855 rfl ?_
                    refine v_aaldS (pc := 857) 50 (k := i) (by decide) rfl (by omega) (by omega) dL_law_857 ?_
                    refine v_bipush (pc := 858) (v := 6) dL_law_858 rfl ?_
                    refine v_ialdGN (pc := 860) 51 (j := 6) rfl (by omega) (by decide) (by decide) dL_law_860 ?_
                    try dsimp only [wb, tlS_0, tlS_1, tlS_2, tlS_3, tlS_4, tlS_5, tlS_6, tlS_7, tlS_8, tlC_0, tlC_1, tlC_2, tlC_3, LawM, LakeM, WaysM, WorldM, SimM, List.set_cons_succ, List.set_cons_zero, List.append_nil, List.nil_append, List.cons_append, Option.toList, Nat.sub_zero]
                    refine v_iconst (pc := 861) (v := 1) dL_law_861 rfl ?_
                    refine v_icmp_gt (pc := 862) (tgt := 885) dL_law_862 (by decide) (fun c862 => ?_) (fun c862 => ?_)
                    · refine v_iinc (pc := 885) (v := nI (i + 1)) dL_law_885 rfl (nI_1 _) (by show _ < 26; decide) rfl ?_
                      refine v_goto (pc := 888) (tgt := 330) dL_law_888 (by decide) ?_
                      refine v_room (ck' := ck + 20 * m) (sk' := sk + 120 * m) (by omega) (by omega) ?_
                      have k9 := ihK _ (lf_no (fun q => q.2.2.1 c862) hL)
                      refine v_sub ?_ k9
                      exact ⟨rfl, rfl, rfl, rfl, rfl, rfl, rfl, rfl, rfl, rfl, rfl, rfl, rfl, rfl, rfl, rfl, rfl, trivial⟩
                    · refine v_aload_nR (pc := 865) dL_law_865 rfl rfl ?_
                      refine v_iload (pc := 866) dL_law_866 rfl ?_
                      refine v_bipush (pc := 868) (v := 6) dL_law_868 rfl ?_
                      refine v_callV2 (pc := 870) (c7_sleigh hps hsc hbc (s := i) (q := 6) hi (by decide)) cm_X5_sleigh q323 q324 q325 (ci := 5) rfl rfl (orcO 0 rfl) [0, 1, 2, 3, 4, 5, 6, 7, 8, 9, 10, 11, 12, 13, 14, 15, 16, 17] (by rfl) (by decide) (fun _ _ h => h) (by omega) (by omega) (by decide) (Nat.le_of_ble_eq_true rfl) dL_law_870 (fun v870 M870 hQ870 => ?_)
                      obtain ⟨rfl, rfl⟩ := hQ870
                      try dsimp only [wb, tlS_0, tlS_1, tlS_2, tlS_3, tlS_4, tlS_5, tlS_6, tlS_7, tlS_8, tlC_0, tlC_1, tlC_2, tlC_3, LawM, LakeM, WaysM, WorldM, SimM, List.set_cons_succ, List.set_cons_zero, List.append_nil, List.nil_append, List.cons_append, Option.toList, Nat.sub_zero]
                      refine v_if_le (pc := 873) (tgt := 885) dL_law_873 (by decide) (fun c873 => ?_) (fun c873 => ?_)
                      · refine v_iinc (pc := 885) (v := nI (i + 1)) dL_law_885 rfl (nI_1 _) (by show _ < 26; decide) rfl ?_
                        refine v_goto (pc := 888) (tgt := 330) dL_law_888 (by decide) ?_
                        refine v_room (ck' := ck + 20 * m) (sk' := sk + 120 * m) (by omega) (by omega) ?_
                        have k9 := ihK _ (lf_no (fun q => Int32.not_le.mpr q.2.2.2 c873) hL)
                        refine v_sub ?_ k9
                        exact ⟨rfl, rfl, rfl, rfl, rfl, rfl, rfl, rfl, rfl, rfl, rfl, rfl, rfl, rfl, rfl, rfl, rfl, trivial⟩
                      · refine v_aloadR (pc := 876) dL_law_876 rfl ?_
                        refine v_iload (pc := 878) dL_law_878 rfl ?_
                        refine v_dup2 (pc := 880) dL_law_880 rfl rfl ?_
                        refine v_ialdN (pc := 881) 54 (k := c4) rfl (by omega) (by omega) dL_law_881 ?_
                        refine v_iconst (pc := 882) (v := 1) dL_law_882 rfl ?_
                        refine v_iadd (pc := 883) dL_law_883 ?_
                        refine v_iastN (pc := 884) 54 (k := c4) rfl (by omega) (by omega) dL_law_884 ?_
                        try dsimp only [wb, tlS_0, tlS_1, tlS_2, tlS_3, tlS_4, tlS_5, tlS_6, tlS_7, tlS_8, tlC_0, tlC_1, tlC_2, tlC_3, LawM, LakeM, WaysM, WorldM, SimM, List.set_cons_succ, List.set_cons_zero, List.append_nil, List.nil_append, List.cons_append, Option.toList, Nat.sub_zero]
                        refine v_iinc (pc := 885) (v := nI (i + 1)) dL_law_885 rfl (nI_1 _) (by show _ < 26; decide) rfl ?_
                        refine v_goto (pc := 888) (tgt := 330) dL_law_888 (by decide) ?_
                        refine v_room (ck' := ck + 20 * m) (sk' := sk + 120 * m) (by omega) (by omega) ?_
                        have k9 := ihK _ (lf_yes ⟨c453, c479, c862, Int32.not_le.mp c873⟩ (by rw [e4]; exact cN_nI (by omega)) hc4 hL)
                        refine v_sub ?_ k9
                        exact ⟨rfl, rfl, rfl, rfl, rfl, rfl, rfl, rfl, rfl, rfl, rfl, rfl, rfl, rfl, rfl, rfl, rfl, trivial⟩
          · refine v_aload_nR (pc := 764) dL_law_764 rfl rfl ?_
            refine v_iload (pc := 765) dL_law_765 rfl ?_
            refine v_bipush (pc := 767) (v := 6) dL_law_767 rfl ?_
            refine v_callV2 (pc := 769) (c7_sleigh hps hsc hbc (s := i) (q := 6) hi (by decide)) cm_X5_sleigh q323 q324 q325 (ci := 5) rfl rfl (orcO 0 rfl) [0, 1, 2, 3, 4, 5, 6, 7, 8, 9, 10, 11, 12, 13, 14, 15, 16, 17] (by rfl) (by decide) (fun _ _ h => h) (by omega) (by omega) (by decide) (Nat.le_of_ble_eq_true rfl) dL_law_769 (fun v769 M769 hQ769 => ?_)
            obtain ⟨rfl, rfl⟩ := hQ769
            try dsimp only [wb, tlS_0, tlS_1, tlS_2, tlS_3, tlS_4, tlS_5, tlS_6, tlS_7, tlS_8, tlC_0, tlC_1, tlC_2, tlC_3, LawM, LakeM, WaysM, WorldM, SimM, List.set_cons_succ, List.set_cons_zero, List.append_nil, List.nil_append, List.cons_append, Option.toList, Nat.sub_zero]
            refine v_aloadR (pc := 772) dL_law_772 rfl ?_
            refine v_iload (pc := 774) dL_law_774 rfl ?_
            refine v_aaldS (pc := 776) 50 (k := i) (by decide) rfl (by omega) (by omega) dL_law_776 ?_
            refine v_bipush (pc := 777) (v := 6) dL_law_777 rfl ?_
            refine v_ialdGN (pc := 779) 51 (j := 6) rfl (by omega) (by decide) (by decide) dL_law_779 ?_
            try dsimp only [wb, tlS_0, tlS_1, tlS_2, tlS_3, tlS_4, tlS_5, tlS_6, tlS_7, tlS_8, tlC_0, tlC_1, tlC_2, tlC_3, LawM, LakeM, WaysM, WorldM, SimM, List.set_cons_succ, List.set_cons_zero, List.append_nil, List.nil_append, List.cons_append, Option.toList, Nat.sub_zero]
            refine v_iconst (pc := 780) (v := 1) dL_law_780 rfl ?_
            refine v_isub (pc := 781) dL_law_781 ?_
            refine v_icmp_ne (pc := 782) (tgt := 791) dL_law_782 (by decide) (fun c782 => absurd (g3a (Int32.not_le.mp c761)).1 c782) (fun c782 => ?_)
            refine v_iload (pc := 785) dL_law_785 rfl ?_
            refine v_iconst (pc := 787) (v := 1) dL_law_787 rfl ?_
            refine v_icmp_eq (pc := 788) (tgt := 793) dL_law_788 (by decide) (fun c788 => ?_) (fun c788 => absurd (g3a (Int32.not_le.mp c761)).2 c788)
            refine v_iload (pc := 793) dL_law_793 rfl ?_
            refine v_if_ne (pc := 795) (tgt := 815) dL_law_795 (by decide) (fun c795 => ?_) (fun c795 => ?_)
            · refine v_aloadR (pc := 815) dL_law_815 rfl ?_
              refine v_iload (pc := 817) dL_law_817 rfl ?_
              refine v_aaldS (pc := 819) 50 (k := i) (by decide) rfl (by omega) (by omega) dL_law_819 ?_
              refine v_iconst (pc := 820) (v := 3) dL_law_820 rfl ?_
              refine v_ialdGN (pc := 821) 51 (j := 3) rfl (by omega) (by decide) (by decide) dL_law_821 ?_
              try dsimp only [wb, tlS_0, tlS_1, tlS_2, tlS_3, tlS_4, tlS_5, tlS_6, tlS_7, tlS_8, tlC_0, tlC_1, tlC_2, tlC_3, LawM, LakeM, WaysM, WorldM, SimM, List.set_cons_succ, List.set_cons_zero, List.append_nil, List.nil_append, List.cons_append, Option.toList, Nat.sub_zero]
              refine v_if_ne (pc := 822) (tgt := 830) dL_law_822 (by decide) (fun c822 => ?_) (fun c822 => ?_)
              · refine v_iload (pc := 830) dL_law_830 rfl ?_
                refine v_if_ne (pc := 832) (tgt := 853) dL_law_832 (by decide) (fun c832 => ?_) (fun c832 => ?_)
                · refine v_aloadR (pc := 853) dL_law_853 rfl ?_
                  refine v_iload (pc := 855) dL_law_855 rfl ?_
                  refine v_aaldS (pc := 857) 50 (k := i) (by decide) rfl (by omega) (by omega) dL_law_857 ?_
                  refine v_bipush (pc := 858) (v := 6) dL_law_858 rfl ?_
                  refine v_ialdGN (pc := 860) 51 (j := 6) rfl (by omega) (by decide) (by decide) dL_law_860 ?_
                  try dsimp only [wb, tlS_0, tlS_1, tlS_2, tlS_3, tlS_4, tlS_5, tlS_6, tlS_7, tlS_8, tlC_0, tlC_1, tlC_2, tlC_3, LawM, LakeM, WaysM, WorldM, SimM, List.set_cons_succ, List.set_cons_zero, List.append_nil, List.nil_append, List.cons_append, Option.toList, Nat.sub_zero]
                  refine v_iconst (pc := 861) (v := 1) dL_law_861 rfl ?_
                  refine v_icmp_gt (pc := 862) (tgt := 885) dL_law_862 (by decide) (fun c862 => ?_) (fun c862 => ?_)
                  · refine v_iinc (pc := 885) (v := nI (i + 1)) dL_law_885 rfl (nI_1 _) (by show _ < 26; decide) rfl ?_
                    refine v_goto (pc := 888) (tgt := 330) dL_law_888 (by decide) ?_
                    refine v_room (ck' := ck + 20 * m) (sk' := sk + 120 * m) (by omega) (by omega) ?_
                    have k9 := ihK _ (lf_no (fun q => q.2.2.1 c862) hL)
                    refine v_sub ?_ k9
                    exact ⟨rfl, rfl, rfl, rfl, rfl, rfl, rfl, rfl, rfl, rfl, rfl, rfl, rfl, rfl, rfl, rfl, rfl, trivial⟩
                  · refine v_aload_nR (pc := 865) dL_law_865 rfl rfl ?_
                    refine v_iload (pc := 866) dL_law_866 rfl ?_
                    refine v_bipush (pc := 868) (v := 6) dL_law_868 rfl ?_
                    refine v_callV2 (pc := 870) (c7_sleigh hps hsc hbc (s := i) (q := 6) hi (by decide)) cm_X5_sleigh q323 q324 q325 (ci := 5) rfl rfl (orcO 0 rfl) [0, 1, 2, 3, 4, 5, 6, 7, 8, 9, 10, 11, 12, 13, 14, 15, 16, 17] (by rfl) (by decide) (fun _ _ h => h) (by omega) (by omega) (by decide) (Nat.le_of_ble_eq_true rfl) dL_law_870 (fun v870 M870 hQ870 => ?_)
                    obtain ⟨rfl, rfl⟩ := hQ870
                    try dsimp only [wb, tlS_0, tlS_1, tlS_2, tlS_3, tlS_4, tlS_5, tlS_6, tlS_7, tlS_8, tlC_0, tlC_1, tlC_2, tlC_3, LawM, LakeM, WaysM, WorldM, SimM, List.set_cons_succ, List.set_cons_zero, List.append_nil, List.nil_append, List.cons_append, Option.toList, Nat.sub_zero]
                    refine v_if_le (pc := 873) (tgt := 885) dL_law_873 (by decide) (fun c873 => ?_) (fun c873 => ?_)
                    · refine v_iinc (pc := 885) (v := nI (i + 1)) dL_law_885 rfl (nI_1 _) (by show _ < 26; decide) rfl ?_
                      refine v_goto (pc := 888) (tgt := 330) dL_law_888 (by decide) ?_
                      refine v_room (ck' := ck + 20 * m) (sk' := sk + 120 * m) (by omega) (by omega) ?_
                      have k9 := ihK _ (lf_no (fun q => Int32.not_le.mpr q.2.2.2 c873) hL)
                      refine v_sub ?_ k9
                      exact ⟨rfl, rfl, rfl, rfl, rfl, rfl, rfl, rfl, rfl, rfl, rfl, rfl, rfl, rfl, rfl, rfl, rfl, trivial⟩
                    · refine v_aloadR (pc := 876) dL_law_876 rfl ?_
                      refine v_iload (pc := 878) dL_law_878 rfl ?_
                      refine v_dup2 (pc := 880) dL_law_880 rfl rfl ?_
                      refine v_ialdN (pc := 881) 54 (k := c4) rfl (by omega) (by omega) dL_law_881 ?_
                      refine v_iconst (pc := 882) (v := 1) dL_law_882 rfl ?_
                      refine v_iadd (pc := 883) dL_law_883 ?_
                      refine v_iastN (pc := 884) 54 (k := c4) rfl (by omega) (by omega) dL_law_884 ?_
                      try dsimp only [wb, tlS_0, tlS_1, tlS_2, tlS_3, tlS_4, tlS_5, tlS_6, tlS_7, tlS_8, tlC_0, tlC_1, tlC_2, tlC_3, LawM, LakeM, WaysM, WorldM, SimM, List.set_cons_succ, List.set_cons_zero, List.append_nil, List.nil_append, List.cons_append, Option.toList, Nat.sub_zero]
                      refine v_iinc (pc := 885) (v := nI (i + 1)) dL_law_885 rfl (nI_1 _) (by show _ < 26; decide) rfl ?_
                      refine v_goto (pc := 888) (tgt := 330) dL_law_888 (by decide) ?_
                      refine v_room (ck' := ck + 20 * m) (sk' := sk + 120 * m) (by omega) (by omega) ?_
                      have k9 := ihK _ (lf_yes ⟨c453, c479, c862, Int32.not_le.mp c873⟩ (by rw [e4]; exact cN_nI (by omega)) hc4 hL)
                      refine v_sub ?_ k9
                      exact ⟨rfl, rfl, rfl, rfl, rfl, rfl, rfl, rfl, rfl, rfl, rfl, rfl, rfl, rfl, rfl, rfl, rfl, trivial⟩
                · refine v_aloadR (pc := 835) dL_law_835 rfl ?_
                  refine v_iload (pc := 837) dL_law_837 rfl ?_
                  refine v_aaldS (pc := 839) 50 (k := i) (by decide) rfl (by omega) (by omega) dL_law_839 ?_
                  refine v_iconst (pc := 840) (v := 3) dL_law_840 rfl ?_
                  refine v_ialdGN (pc := 841) 51 (j := 3) rfl (by omega) (by decide) (by decide) dL_law_841 ?_
                  try dsimp only [wb, tlS_0, tlS_1, tlS_2, tlS_3, tlS_4, tlS_5, tlS_6, tlS_7, tlS_8, tlC_0, tlC_1, tlC_2, tlC_3, LawM, LakeM, WaysM, WorldM, SimM, List.set_cons_succ, List.set_cons_zero, List.append_nil, List.nil_append, List.cons_append, Option.toList, Nat.sub_zero]
                  refine v_iconst (pc := 842) (v := 1) dL_law_842 rfl ?_
                  refine v_icmp_ne (pc := 843) (tgt := 853) dL_law_843 (by decide) (fun c843 => ?_) (fun c843 => ?_)
                  · refine v_aloadR (pc := 853) dL_law_853 rfl ?_
                    refine v_iload (pc := 855) dL_law_855 rfl ?_
                    refine v_aaldS (pc := 857) 50 (k := i) (by decide) rfl (by omega) (by omega) dL_law_857 ?_
                    refine v_bipush (pc := 858) (v := 6) dL_law_858 rfl ?_
                    refine v_ialdGN (pc := 860) 51 (j := 6) rfl (by omega) (by decide) (by decide) dL_law_860 ?_
                    try dsimp only [wb, tlS_0, tlS_1, tlS_2, tlS_3, tlS_4, tlS_5, tlS_6, tlS_7, tlS_8, tlC_0, tlC_1, tlC_2, tlC_3, LawM, LakeM, WaysM, WorldM, SimM, List.set_cons_succ, List.set_cons_zero, List.append_nil, List.nil_append, List.cons_append, Option.toList, Nat.sub_zero]
                    refine v_iconst (pc := 861) (v := 1) dL_law_861 rfl ?_
                    refine v_icmp_gt (pc := 862) (tgt := 885) dL_law_862 (by decide) (fun c862 => ?_) (fun c862 => ?_)
                    · refine v_iinc (pc := 885) (v := nI (i + 1)) dL_law_885 rfl (nI_1 _) (by show _ < 26; decide) rfl ?_
                      refine v_goto (pc := 888) (tgt := 330) dL_law_888 (by decide) ?_
                      refine v_room (ck' := ck + 20 * m) (sk' := sk + 120 * m) (by omega) (by omega) ?_
                      have k9 := ihK _ (lf_no (fun q => q.2.2.1 c862) hL)
                      refine v_sub ?_ k9
                      exact ⟨rfl, rfl, rfl, rfl, rfl, rfl, rfl, rfl, rfl, rfl, rfl, rfl, rfl, rfl, rfl, rfl, rfl, trivial⟩
                    · refine v_aload_nR (pc := 865) dL_law_865 rfl rfl ?_
                      refine v_iload (pc := 866) dL_law_866 rfl ?_
                      refine v_bipush (pc := 868) (v := 6) dL_law_868 rfl ?_
                      refine v_callV2 (pc := 870) (c7_sleigh hps hsc hbc (s := i) (q := 6) hi (by decide)) cm_X5_sleigh q323 q324 q325 (ci := 5) rfl rfl (orcO 0 rfl) [0, 1, 2, 3, 4, 5, 6, 7, 8, 9, 10, 11, 12, 13, 14, 15, 16, 17] (by rfl) (by decide) (fun _ _ h => h) (by omega) (by omega) (by decide) (Nat.le_of_ble_eq_true rfl) dL_law_870 (fun v870 M870 hQ870 => ?_)
                      obtain ⟨rfl, rfl⟩ := hQ870
                      try dsimp only [wb, tlS_0, tlS_1, tlS_2, tlS_3, tlS_4, tlS_5, tlS_6, tlS_7, tlS_8, tlC_0, tlC_1, tlC_2, tlC_3, LawM, LakeM, WaysM, WorldM, SimM, List.set_cons_succ, List.set_cons_zero, List.append_nil, List.nil_append, List.cons_append, Option.toList, Nat.sub_zero]
                      refine v_if_le (pc := 873) (tgt := 885) dL_law_873 (by decide) (fun c873 => ?_) (fun c873 => ?_)
                      · refine v_iinc (pc := 885) (v := nI (i + 1)) dL_law_885 rfl (nI_1 _) (by show _ < 26; decide) rfl ?_
                        refine v_goto (pc := 888) (tgt := 330) dL_law_888 (by decide) ?_
                        refine v_room (ck' := ck + 20 * m) (sk' := sk + 120 * m) (by omega) (by omega) ?_
                        have k9 := ihK _ (lf_no (fun q => Int32.not_le.mpr q.2.2.2 c873) hL)
                        refine v_sub ?_ k9
                        exact ⟨rfl, rfl, rfl, rfl, rfl, rfl, rfl, rfl, rfl, rfl, rfl, rfl, rfl, rfl, rfl, rfl, rfl, trivial⟩
                      · refine v_aloadR (pc := 876) dL_law_876 rfl ?_
                        refine v_iload (pc := 878) dL_law_878 rfl ?_
                        refine v_dup2 (pc := 880) dL_law_880 rfl rfl ?_
                        refine v_ialdN (pc := 881) 54 (k := c4) rfl (by omega) (by omega) dL_law_881 ?_
                        refine v_iconst (pc := 882) (v := 1) dL_law_882 rfl ?_
                        refine v_iadd (pc := 883) dL_law_883 ?_
                        refine v_iastN (pc := 884) 54 (k := c4) rfl (by omega) (by omega) dL_law_884 ?_
                        try dsimp only [wb, tlS_0, tlS_1, tlS_2, tlS_3, tlS_4, tlS_5, tlS_6, tlS_7, tlS_8, tlC_0, tlC_1, tlC_2, tlC_3, LawM, LakeM, WaysM, WorldM, SimM, List.set_cons_succ, List.set_cons_zero, List.append_nil, List.nil_append, List.cons_append, Option.toList, Nat.sub_zero]
                        refine v_iinc (pc := 885) (v := nI (i + 1)) dL_law_885 rfl (nI_1 _) (by show _ < 26; decide) rfl ?_
                        refine v_goto (pc := 888) (tgt := 330) dL_law_888 (by decide) ?_
                        refine v_room (ck' := ck + 20 * m) (sk' := sk + 120 * m) (by omega) (by omega) ?_
                        have k9 := ihK _ (lf_yes ⟨c453, c479, c862, Int32.not_le.mp c873⟩ (by rw [e4]; exact cN_nI (by omega)) hc4 hL)
                        refine v_sub ?_ k9
                        exact ⟨rfl, rfl, rfl, rfl, rfl, rfl, rfl, rfl, rfl, rfl, rfl, rfl, rfl, rfl, rfl, rfl, rfl, trivial⟩
                  · refine v_iload (pc := 846) dL_law_846 rfl ?_
                    refine v_if_ne (pc := 848) (tgt := 853) dL_law_848 (by decide) (fun c848 => ?_) (fun c848 => absurd c848 (by decide))
                    refine v_aloadR (pc := 853) dL_law_853 rfl ?_
                    refine v_iload (pc := 855) dL_law_855 rfl ?_
                    refine v_aaldS (pc := 857) 50 (k := i) (by decide) rfl (by omega) (by omega) dL_law_857 ?_
                    refine v_bipush (pc := 858) (v := 6) dL_law_858 rfl ?_
                    refine v_ialdGN (pc := 860) 51 (j := 6) rfl (by omega) (by decide) (by decide) dL_law_860 ?_
                    try dsimp only [wb, tlS_0, tlS_1, tlS_2, tlS_3, tlS_4, tlS_5, tlS_6, tlS_7, tlS_8, tlC_0, tlC_1, tlC_2, tlC_3, LawM, LakeM, WaysM, WorldM, SimM, List.set_cons_succ, List.set_cons_zero, List.append_nil, List.nil_append, List.cons_append, Option.toList, Nat.sub_zero]
                    refine v_iconst (pc := 861) (v := 1) dL_law_861 rfl ?_
                    refine v_icmp_gt (pc := 862) (tgt := 885) dL_law_862 (by decide) (fun c862 => ?_) (fun c862 => ?_)
                    · refine v_iinc (pc := 885) (v := nI (i + 1)) dL_law_885 rfl (nI_1 _) (by show _ < 26; decide) rfl ?_
                      refine v_goto (pc := 888) (tgt := 330) dL_law_888 (by decide) ?_
                      refine v_room (ck' := ck + 20 * m) (sk' := sk + 120 * m) (by omega) (by omega) ?_
                      have k9 := ihK _ (lf_no (fun q => q.2.2.1 c862) hL)
                      refine v_sub ?_ k9
                      exact ⟨rfl, rfl, rfl, rfl, rfl, rfl, rfl, rfl, rfl, rfl, rfl, rfl, rfl, rfl, rfl, rfl, rfl, trivial⟩
                    · refine v_aload_nR (pc := 865) dL_law_865 rfl rfl ?_
                      refine v_iload (pc := 866) dL_law_866 rfl ?_
                      refine v_bipush (pc := 868) (v := 6) dL_law_868 rfl ?_
                      refine v_callV2 (pc := 870) (c7_sleigh hps hsc hbc (s := i) (q := 6) hi (by decide)) cm_X5_sleigh q323 q324 q325 (ci := 5) rfl rfl (orcO 0 rfl) [0, 1, 2, 3, 4, 5, 6, 7, 8, 9, 10, 11, 12, 13, 14, 15, 16, 17] (by rfl) (by decide) (fun _ _ h => h) (by omega) (by omega) (by decide) (Nat.le_of_ble_eq_true rfl) dL_law_870 (fun v870 M870 hQ870 => ?_)
                      obtain ⟨rfl, rfl⟩ := hQ870
                      try dsimp only [wb, tlS_0, tlS_1, tlS_2, tlS_3, tlS_4, tlS_5, tlS_6, tlS_7, tlS_8, tlC_0, tlC_1, tlC_2, tlC_3, LawM, LakeM, WaysM, WorldM, SimM, List.set_cons_succ, List.set_cons_zero, List.append_nil, List.nil_append, List.cons_append, Option.toList, Nat.sub_zero]
                      refine v_if_le (pc := 873) (tgt := 885) dL_law_873 (by decide) (fun c873 => ?_) (fun c873 => ?_)
                      · refine v_iinc (pc := 885) (v := nI (i + 1)) dL_law_885 rfl (nI_1 _) (by show _ < 26; decide) rfl ?_
                        refine v_goto (pc := 888) (tgt := 330) dL_law_888 (by decide) ?_
                        refine v_room (ck' := ck + 20 * m) (sk' := sk + 120 * m) (by omega) (by omega) ?_
                        have k9 := ihK _ (lf_no (fun q => Int32.not_le.mpr q.2.2.2 c873) hL)
                        refine v_sub ?_ k9
                        exact ⟨rfl, rfl, rfl, rfl, rfl, rfl, rfl, rfl, rfl, rfl, rfl, rfl, rfl, rfl, rfl, rfl, rfl, trivial⟩
                      · refine v_aloadR (pc := 876) dL_law_876 rfl ?_
                        refine v_iload (pc := 878) dL_law_878 rfl ?_
                        refine v_dup2 (pc := 880) dL_law_880 rfl rfl ?_
                        refine v_ialdN (pc := 881) 54 (k := c4) rfl (by omega) (by omega) dL_law_881 ?_
                        refine v_iconst (pc := 882) (v := 1) dL_law_882 rfl ?_
                        refine v_iadd (pc := 883) dL_law_883 ?_
                        refine v_iastN (pc := 884) 54 (k := c4) rfl (by omega) (by omega) dL_law_884 ?_
                        try dsimp only [wb, tlS_0, tlS_1, tlS_2, tlS_3, tlS_4, tlS_5, tlS_6, tlS_7, tlS_8, tlC_0, tlC_1, tlC_2, tlC_3, LawM, LakeM, WaysM, WorldM, SimM, List.set_cons_succ, List.set_cons_zero, List.append_nil, List.nil_append, List.cons_append, Option.toList, Nat.sub_zero]
                        refine v_iinc (pc := 885) (v := nI (i + 1)) dL_law_885 rfl (nI_1 _) (by show _ < 26; decide) rfl ?_
                        refine v_goto (pc := 888) (tgt := 330) dL_law_888 (by decide) ?_
                        refine v_room (ck' := ck + 20 * m) (sk' := sk + 120 * m) (by omega) (by omega) ?_
                        have k9 := ihK _ (lf_yes ⟨c453, c479, c862, Int32.not_le.mp c873⟩ (by rw [e4]; exact cN_nI (by omega)) hc4 hL)
                        refine v_sub ?_ k9
                        exact ⟨rfl, rfl, rfl, rfl, rfl, rfl, rfl, rfl, rfl, rfl, rfl, rfl, rfl, rfl, rfl, rfl, rfl, trivial⟩
              · refine v_iload (pc := 825) dL_law_825 rfl ?_
                refine v_if_ne (pc := 827) (tgt := 851) dL_law_827 (by decide) (fun c827 => absurd (g4a c822) c827) (fun c827 => ?_)
                refine v_iload (pc := 830) dL_law_830 rfl ?_
                refine v_if_ne (pc := 832) (tgt := 853) dL_law_832 (by decide) (fun c832 => ?_) (fun c832 => ?_)
                · refine v_aloadR (pc := 853) dL_law_853 rfl ?_
                  refine v_iload (pc := 855) dL_law_855 rfl ?_
                  refine v_aaldS (pc := 857) 50 (k := i) (by decide) rfl (by omega) (by omega) dL_law_857 ?_
                  refine v_bipush (pc := 858) (v := 6) dL_law_858 rfl ?_
                  refine v_ialdGN (pc := 860) 51 (j := 6) rfl (by omega) (by decide) (by decide) dL_law_860 ?_
                  try dsimp only [wb, tlS_0, tlS_1, tlS_2, tlS_3, tlS_4, tlS_5, tlS_6, tlS_7, tlS_8, tlC_0, tlC_1, tlC_2, tlC_3, LawM, LakeM, WaysM, WorldM, SimM, List.set_cons_succ, List.set_cons_zero, List.append_nil, List.nil_append, List.cons_append, Option.toList, Nat.sub_zero]
                  refine v_iconst (pc := 861) (v := 1) dL_law_861 rfl ?_
                  refine v_icmp_gt (pc := 862) (tgt := 885) dL_law_862 (by decide) (fun c862 => ?_) (fun c862 => ?_)
                  · refine v_iinc (pc := 885) (v := nI (i + 1)) dL_law_885 rfl (nI_1 _) (by show _ < 26; decide) rfl ?_
                    refine v_goto (pc := 888) (tgt := 330) dL_law_888 (by decide) ?_
                    refine v_room (ck' := ck + 20 * m) (sk' := sk + 120 * m) (by omega) (by omega) ?_
                    have k9 := ihK _ (lf_no (fun q => q.2.2.1 c862) hL)
                    refine v_sub ?_ k9
                    exact ⟨rfl, rfl, rfl, rfl, rfl, rfl, rfl, rfl, rfl, rfl, rfl, rfl, rfl, rfl, rfl, rfl, rfl, trivial⟩
                  · refine v_aload_nR (pc := 865) dL_law_865 rfl rfl ?_
                    refine v_iload (pc := 866) dL_law_866 rfl ?_
                    refine v_bipush (pc := 868) (v := 6) dL_law_868 rfl ?_
                    refine v_callV2 (pc := 870) (c7_sleigh hps hsc hbc (s := i) (q := 6) hi (by decide)) cm_X5_sleigh q323 q324 q325 (ci := 5) rfl rfl (orcO 0 rfl) [0, 1, 2, 3, 4, 5, 6, 7, 8, 9, 10, 11, 12, 13, 14, 15, 16, 17] (by rfl) (by decide) (fun _ _ h => h) (by omega) (by omega) (by decide) (Nat.le_of_ble_eq_true rfl) dL_law_870 (fun v870 M870 hQ870 => ?_)
                    obtain ⟨rfl, rfl⟩ := hQ870
                    try dsimp only [wb, tlS_0, tlS_1, tlS_2, tlS_3, tlS_4, tlS_5, tlS_6, tlS_7, tlS_8, tlC_0, tlC_1, tlC_2, tlC_3, LawM, LakeM, WaysM, WorldM, SimM, List.set_cons_succ, List.set_cons_zero, List.append_nil, List.nil_append, List.cons_append, Option.toList, Nat.sub_zero]
                    refine v_if_le (pc := 873) (tgt := 885) dL_law_873 (by decide) (fun c873 => ?_) (fun c873 => ?_)
                    · refine v_iinc (pc := 885) (v := nI (i + 1)) dL_law_885 rfl (nI_1 _) (by show _ < 26; decide) rfl ?_
                      refine v_goto (pc := 888) (tgt := 330) dL_law_888 (by decide) ?_
                      refine v_room (ck' := ck + 20 * m) (sk' := sk + 120 * m) (by omega) (by omega) ?_
                      have k9 := ihK _ (lf_no (fun q => Int32.not_le.mpr q.2.2.2 c873) hL)
                      refine v_sub ?_ k9
                      exact ⟨rfl, rfl, rfl, rfl, rfl, rfl, rfl, rfl, rfl, rfl, rfl, rfl, rfl, rfl, rfl, rfl, rfl, trivial⟩
                    · refine v_aloadR (pc := 876) dL_law_876 rfl ?_
                      refine v_iload (pc := 878) dL_law_878 rfl ?_
                      refine v_dup2 (pc := 880) dL_law_880 rfl rfl ?_
                      refine v_ialdN (pc := 881) 54 (k := c4) rfl (by omega) (by omega) dL_law_881 ?_
                      refine v_iconst (pc := 882) (v := 1) dL_law_882 rfl ?_
                      refine v_iadd (pc := 883) dL_law_883 ?_
                      refine v_iastN (pc := 884) 54 (k := c4) rfl (by omega) (by omega) dL_law_884 ?_
                      try dsimp only [wb, tlS_0, tlS_1, tlS_2, tlS_3, tlS_4, tlS_5, tlS_6, tlS_7, tlS_8, tlC_0, tlC_1, tlC_2, tlC_3, LawM, LakeM, WaysM, WorldM, SimM, List.set_cons_succ, List.set_cons_zero, List.append_nil, List.nil_append, List.cons_append, Option.toList, Nat.sub_zero]
                      refine v_iinc (pc := 885) (v := nI (i + 1)) dL_law_885 rfl (nI_1 _) (by show _ < 26; decide) rfl ?_
                      refine v_goto (pc := 888) (tgt := 330) dL_law_888 (by decide) ?_
                      refine v_room (ck' := ck + 20 * m) (sk' := sk + 120 * m) (by omega) (by omega) ?_
                      have k9 := ihK _ (lf_yes ⟨c453, c479, c862, Int32.not_le.mp c873⟩ (by rw [e4]; exact cN_nI (by omega)) hc4 hL)
                      refine v_sub ?_ k9
                      exact ⟨rfl, rfl, rfl, rfl, rfl, rfl, rfl, rfl, rfl, rfl, rfl, rfl, rfl, rfl, rfl, rfl, rfl, trivial⟩
                · refine v_aloadR (pc := 835) dL_law_835 rfl ?_
                  refine v_iload (pc := 837) dL_law_837 rfl ?_
                  refine v_aaldS (pc := 839) 50 (k := i) (by decide) rfl (by omega) (by omega) dL_law_839 ?_
                  refine v_iconst (pc := 840) (v := 3) dL_law_840 rfl ?_
                  refine v_ialdGN (pc := 841) 51 (j := 3) rfl (by omega) (by decide) (by decide) dL_law_841 ?_
                  try dsimp only [wb, tlS_0, tlS_1, tlS_2, tlS_3, tlS_4, tlS_5, tlS_6, tlS_7, tlS_8, tlC_0, tlC_1, tlC_2, tlC_3, LawM, LakeM, WaysM, WorldM, SimM, List.set_cons_succ, List.set_cons_zero, List.append_nil, List.nil_append, List.cons_append, Option.toList, Nat.sub_zero]
                  refine v_iconst (pc := 842) (v := 1) dL_law_842 rfl ?_
                  refine v_icmp_ne (pc := 843) (tgt := 853) dL_law_843 (by decide) (fun c843 => ?_) (fun c843 => ?_)
                  · refine v_aloadR (pc := 853) dL_law_853 rfl ?_
                    refine v_iload (pc := 855) dL_law_855 rfl ?_
                    refine v_aaldS (pc := 857) 50 (k := i) (by decide) rfl (by omega) (by omega) dL_law_857 ?_
                    refine v_bipush (pc := 858) (v := 6) dL_law_858 rfl ?_
                    refine v_ialdGN (pc := 860) 51 (j := 6) rfl (by omega) (by decide) (by decide) dL_law_860 ?_
                    try dsimp only [wb, tlS_0, tlS_1, tlS_2, tlS_3, tlS_4, tlS_5, tlS_6, tlS_7, tlS_8, tlC_0, tlC_1, tlC_2, tlC_3, LawM, LakeM, WaysM, WorldM, SimM, List.set_cons_succ, List.set_cons_zero, List.append_nil, List.nil_append, List.cons_append, Option.toList, Nat.sub_zero]
                    refine v_iconst (pc := 861) (v := 1) dL_law_861 rfl ?_
                    refine v_icmp_gt (pc := 862) (tgt := 885) dL_law_862 (by decide) (fun c862 => ?_) (fun c862 => ?_)
                    · refine v_iinc (pc := 885) (v := nI (i + 1)) dL_law_885 rfl (nI_1 _) (by show _ < 26; decide) rfl ?_
                      refine v_goto (pc := 888) (tgt := 330) dL_law_888 (by decide) ?_
                      refine v_room (ck' := ck + 20 * m) (sk' := sk + 120 * m) (by omega) (by omega) ?_
                      have k9 := ihK _ (lf_no (fun q => q.2.2.1 c862) hL)
                      refine v_sub ?_ k9
                      exact ⟨rfl, rfl, rfl, rfl, rfl, rfl, rfl, rfl, rfl, rfl, rfl, rfl, rfl, rfl, rfl, rfl, rfl, trivial⟩
                    · refine v_aload_nR (pc := 865) dL_law_865 rfl rfl ?_
                      refine v_iload (pc := 866) dL_law_866 rfl ?_
                      refine v_bipush (pc := 868) (v := 6) dL_law_868 rfl ?_
                      refine v_callV2 (pc := 870) (c7_sleigh hps hsc hbc (s := i) (q := 6) hi (by decide)) cm_X5_sleigh q323 q324 q325 (ci := 5) rfl rfl (orcO 0 rfl) [0, 1, 2, 3, 4, 5, 6, 7, 8, 9, 10, 11, 12, 13, 14, 15, 16, 17] (by rfl) (by decide) (fun _ _ h => h) (by omega) (by omega) (by decide) (Nat.le_of_ble_eq_true rfl) dL_law_870 (fun v870 M870 hQ870 => ?_)
                      obtain ⟨rfl, rfl⟩ := hQ870
                      try dsimp only [wb, tlS_0, tlS_1, tlS_2, tlS_3, tlS_4, tlS_5, tlS_6, tlS_7, tlS_8, tlC_0, tlC_1, tlC_2, tlC_3, LawM, LakeM, WaysM, WorldM, SimM, List.set_cons_succ, List.set_cons_zero, List.append_nil, List.nil_append, List.cons_append, Option.toList, Nat.sub_zero]
                      refine v_if_le (pc := 873) (tgt := 885) dL_law_873 (by decide) (fun c873 => ?_) (fun c873 => ?_)
                      · refine v_iinc (pc := 885) (v := nI (i + 1)) dL_law_885 rfl (nI_1 _) (by show _ < 26; decide) rfl ?_
                        refine v_goto (pc := 888) (tgt := 330) dL_law_888 (by decide) ?_
                        refine v_room (ck' := ck + 20 * m) (sk' := sk + 120 * m) (by omega) (by omega) ?_
                        have k9 := ihK _ (lf_no (fun q => Int32.not_le.mpr q.2.2.2 c873) hL)
                        refine v_sub ?_ k9
                        exact ⟨rfl, rfl, rfl, rfl, rfl, rfl, rfl, rfl, rfl, rfl, rfl, rfl, rfl, rfl, rfl, rfl, rfl, trivial⟩
                      · refine v_aloadR (pc := 876) dL_law_876 rfl ?_
                        refine v_iload (pc := 878) dL_law_878 rfl ?_
                        refine v_dup2 (pc := 880) dL_law_880 rfl rfl ?_
                        refine v_ialdN (pc := 881) 54 (k := c4) rfl (by omega) (by omega) dL_law_881 ?_
                        refine v_iconst (pc := 882) (v := 1) dL_law_882 rfl ?_
                        refine v_iadd (pc := 883) dL_law_883 ?_
                        refine v_iastN (pc := 884) 54 (k := c4) rfl (by omega) (by omega) dL_law_884 ?_
                        try dsimp only [wb, tlS_0, tlS_1, tlS_2, tlS_3, tlS_4, tlS_5, tlS_6, tlS_7, tlS_8, tlC_0, tlC_1, tlC_2, tlC_3, LawM, LakeM, WaysM, WorldM, SimM, List.set_cons_succ, List.set_cons_zero, List.append_nil, List.nil_append, List.cons_append, Option.toList, Nat.sub_zero]
                        refine v_iinc (pc := 885) (v := nI (i + 1)) dL_law_885 rfl (nI_1 _) (by show _ < 26; decide) rfl ?_
                        refine v_goto (pc := 888) (tgt := 330) dL_law_888 (by decide) ?_
                        refine v_room (ck' := ck + 20 * m) (sk' := sk + 120 * m) (by omega) (by omega) ?_
                        have k9 := ihK _ (lf_yes ⟨c453, c479, c862, Int32.not_le.mp c873⟩ (by rw [e4]; exact cN_nI (by omega)) hc4 hL)
                        refine v_sub ?_ k9
                        exact ⟨rfl, rfl, rfl, rfl, rfl, rfl, rfl, rfl, rfl, rfl, rfl, rfl, rfl, rfl, rfl, rfl, rfl, trivial⟩
                  · refine v_iload (pc := 846) dL_law_846 rfl ?_
                    refine v_if_ne (pc := 848) (tgt := 853) dL_law_848 (by decide) (fun c848 => ?_) (fun c848 => absurd c848 (by decide))
                    refine v_aloadR (pc := 853) dL_law_853 rfl ?_
                    refine v_iload (pc := 855) dL_law_855 rfl ?_
                    refine v_aaldS (pc := 857) 50 (k := i) (by decide) rfl (by omega) (by omega) dL_law_857 ?_
                    refine v_bipush (pc := 858) (v := 6) dL_law_858 rfl ?_
                    refine v_ialdGN (pc := 860) 51 (j := 6) rfl (by omega) (by decide) (by decide) dL_law_860 ?_
                    try dsimp only [wb, tlS_0, tlS_1, tlS_2, tlS_3, tlS_4, tlS_5, tlS_6, tlS_7, tlS_8, tlC_0, tlC_1, tlC_2, tlC_3, LawM, LakeM, WaysM, WorldM, SimM, List.set_cons_succ, List.set_cons_zero, List.append_nil, List.nil_append, List.cons_append, Option.toList, Nat.sub_zero]
                    refine v_iconst (pc := 861) (v := 1) dL_law_861 rfl ?_
                    refine v_icmp_gt (pc := 862) (tgt := 885) dL_law_862 (by decide) (fun c862 => ?_) (fun c862 => ?_)
                    · refine v_iinc (pc := 885) (v := nI (i + 1)) dL_law_885 rfl (nI_1 _) (by show _ < 26; decide) rfl ?_
                      refine v_goto (pc := 888) (tgt := 330) dL_law_888 (by decide) ?_
                      refine v_room (ck' := ck + 20 * m) (sk' := sk + 120 * m) (by omega) (by omega) ?_
                      have k9 := ihK _ (lf_no (fun q => q.2.2.1 c862) hL)
                      refine v_sub ?_ k9
                      exact ⟨rfl, rfl, rfl, rfl, rfl, rfl, rfl, rfl, rfl, rfl, rfl, rfl, rfl, rfl, rfl, rfl, rfl, trivial⟩
                    · refine v_aload_nR (pc := 865) dL_law_865 rfl rfl ?_
                      refine v_iload (pc := 866) dL_law_866 rfl ?_
                      refine v_bipush (pc := 868) (v := 6) dL_law_868 rfl ?_
                      refine v_callV2 (pc := 870) (c7_sleigh hps hsc hbc (s := i) (q := 6) hi (by decide)) cm_X5_sleigh q323 q324 q325 (ci := 5) rfl rfl (orcO 0 rfl) [0, 1, 2, 3, 4, 5, 6, 7, 8, 9, 10, 11, 12, 13, 14, 15, 16, 17] (by rfl) (by decide) (fun _ _ h => h) (by omega) (by omega) (by decide) (Nat.le_of_ble_eq_true rfl) dL_law_870 (fun v870 M870 hQ870 => ?_)
                      obtain ⟨rfl, rfl⟩ := hQ870
                      try dsimp only [wb, tlS_0, tlS_1, tlS_2, tlS_3, tlS_4, tlS_5, tlS_6, tlS_7, tlS_8, tlC_0, tlC_1, tlC_2, tlC_3, LawM, LakeM, WaysM, WorldM, SimM, List.set_cons_succ, List.set_cons_zero, List.append_nil, List.nil_append, List.cons_append, Option.toList, Nat.sub_zero]
                      refine v_if_le (pc := 873) (tgt := 885) dL_law_873 (by decide) (fun c873 => ?_) (fun c873 => ?_)
                      · refine v_iinc (pc := 885) (v := nI (i + 1)) dL_law_885 rfl (nI_1 _) (by show _ < 26; decide) rfl ?_
                        refine v_goto (pc := 888) (tgt := 330) dL_law_888 (by decide) ?_
                        refine v_room (ck' := ck + 20 * m) (sk' := sk + 120 * m) (by omega) (by omega) ?_
                        have k9 := ihK _ (lf_no (fun q => Int32.not_le.mpr q.2.2.2 c873) hL)
                        refine v_sub ?_ k9
                        exact ⟨rfl, rfl, rfl, rfl, rfl, rfl, rfl, rfl, rfl, rfl, rfl, rfl, rfl, rfl, rfl, rfl, rfl, trivial⟩
                      · refine v_aloadR (pc := 876) dL_law_876 rfl ?_
                        refine v_iload (pc := 878) dL_law_878 rfl ?_
                        refine v_dup2 (pc := 880) dL_law_880 rfl rfl ?_
                        refine v_ialdN (pc := 881) 54 (k := c4) rfl (by omega) (by omega) dL_law_881 ?_
                        refine v_iconst (pc := 882) (v := 1) dL_law_882 rfl ?_
                        refine v_iadd (pc := 883) dL_law_883 ?_
                        refine v_iastN (pc := 884) 54 (k := c4) rfl (by omega) (by omega) dL_law_884 ?_
                        try dsimp only [wb, tlS_0, tlS_1, tlS_2, tlS_3, tlS_4, tlS_5, tlS_6, tlS_7, tlS_8, tlC_0, tlC_1, tlC_2, tlC_3, LawM, LakeM, WaysM, WorldM, SimM, List.set_cons_succ, List.set_cons_zero, List.append_nil, List.nil_append, List.cons_append, Option.toList, Nat.sub_zero]
                        refine v_iinc (pc := 885) (v := nI (i + 1)) dL_law_885 rfl (nI_1 _) (by show _ < 26; decide) rfl ?_
                        refine v_goto (pc := 888) (tgt := 330) dL_law_888 (by decide) ?_
                        refine v_room (ck' := ck + 20 * m) (sk' := sk + 120 * m) (by omega) (by omega) ?_
                        have k9 := ihK _ (lf_yes ⟨c453, c479, c862, Int32.not_le.mp c873⟩ (by rw [e4]; exact cN_nI (by omega)) hc4 hL)
                        refine v_sub ?_ k9
                        exact ⟨rfl, rfl, rfl, rfl, rfl, rfl, rfl, rfl, rfl, rfl, rfl, rfl, rfl, rfl, rfl, rfl, rfl, trivial⟩
            · obtain ⟨p5a, p5b⟩ := (hI.1.2.2.2.1.2.1 i hi).2.1 c795
              obtain ⟨p5q, hq5, e5⟩ := kOf p5a (by omega)
              have hPq : nI c4 = PC p5q := by rw [← e4, p5b, e5, cop_k hq5 hps]
              refine v_iload (pc := 798) dL_law_798 rfl ?_
              refine v_aload_nR (pc := 800) dL_law_800 rfl rfl ?_
              refine v_get (pc := 801) 6 35 fg_L_58 rfl rfl dL_law_801 ?_
              refine v_aload_nR (pc := 804) dL_law_804 rfl rfl ?_
              refine v_iload (pc := 805) dL_law_805 rfl ?_
              refine v_iconst (pc := 807) (v := 5) dL_law_807 rfl ?_
              refine v_callV2 (pc := 808) (c7_sleigh hps hsc hbc (s := i) (q := 5) hi (by decide)) cm_X5_sleigh q323 q324 q325 (ci := 5) rfl rfl (orcO 0 rfl) [0, 1, 2, 3, 4, 5, 6, 7, 8, 9, 10, 11, 12, 13, 14, 15, 16, 17] (by rfl) (by decide) (fun _ _ h => h) (by omega) (by omega) (by decide) (Nat.le_of_ble_eq_true rfl) dL_law_808 (fun v808 M808 hQ808 => ?_)
              obtain ⟨rfl, rfl⟩ := hQ808
              try dsimp only [wb, tlS_0, tlS_1, tlS_2, tlS_3, tlS_4, tlS_5, tlS_6, tlS_7, tlS_8, tlC_0, tlC_1, tlC_2, tlC_3, LawM, LakeM, WaysM, WorldM, SimM, List.set_cons_succ, List.set_cons_zero, List.append_nil, List.nil_append, List.cons_append, Option.toList, Nat.sub_zero]
              rw [e5]
              refine v_ialdN (pc := 811) 41 (k := p5q) rfl (by omega) (by omega) dL_law_811 ?_
              refine v_icmp_ne (pc := 812) (tgt := 851) dL_law_812 (by decide) (fun c812 => absurd hPq c812) (fun c812 => ?_)
              refine v_aloadR (pc := 815) dL_law_815 rfl ?_
              refine v_iload (pc := 817) dL_law_817 rfl ?_
              refine v_aaldS (pc := 819) 50 (k := i) (by decide) rfl (by omega) (by omega) dL_law_819 ?_
              refine v_iconst (pc := 820) (v := 3) dL_law_820 rfl ?_
              refine v_ialdGN (pc := 821) 51 (j := 3) rfl (by omega) (by decide) (by decide) dL_law_821 ?_
              try dsimp only [wb, tlS_0, tlS_1, tlS_2, tlS_3, tlS_4, tlS_5, tlS_6, tlS_7, tlS_8, tlC_0, tlC_1, tlC_2, tlC_3, LawM, LakeM, WaysM, WorldM, SimM, List.set_cons_succ, List.set_cons_zero, List.append_nil, List.nil_append, List.cons_append, Option.toList, Nat.sub_zero]
              refine v_if_ne (pc := 822) (tgt := 830) dL_law_822 (by decide) (fun c822 => ?_) (fun c822 => ?_)
              · refine v_iload (pc := 830) dL_law_830 rfl ?_
                refine v_if_ne (pc := 832) (tgt := 853) dL_law_832 (by decide) (fun c832 => ?_) (fun c832 => ?_)
                · refine v_aloadR (pc := 853) dL_law_853 rfl ?_
                  refine v_iload (pc := 855) dL_law_855 rfl ?_
                  refine v_aaldS (pc := 857) 50 (k := i) (by decide) rfl (by omega) (by omega) dL_law_857 ?_
                  refine v_bipush (pc := 858) (v := 6) dL_law_858 rfl ?_
                  refine v_ialdGN (pc := 860) 51 (j := 6) rfl (by omega) (by decide) (by decide) dL_law_860 ?_
                  try dsimp only [wb, tlS_0, tlS_1, tlS_2, tlS_3, tlS_4, tlS_5, tlS_6, tlS_7, tlS_8, tlC_0, tlC_1, tlC_2, tlC_3, LawM, LakeM, WaysM, WorldM, SimM, List.set_cons_succ, List.set_cons_zero, List.append_nil, List.nil_append, List.cons_append, Option.toList, Nat.sub_zero]
                  refine v_iconst (pc := 861) (v := 1) dL_law_861 rfl ?_
                  refine v_icmp_gt (pc := 862) (tgt := 885) dL_law_862 (by decide) (fun c862 => ?_) (fun c862 => ?_)
                  · refine v_iinc (pc := 885) (v := nI (i + 1)) dL_law_885 rfl (nI_1 _) (by show _ < 26; decide) rfl ?_
                    refine v_goto (pc := 888) (tgt := 330) dL_law_888 (by decide) ?_
                    refine v_room (ck' := ck + 20 * m) (sk' := sk + 120 * m) (by omega) (by omega) ?_
                    have k9 := ihK _ (lf_no (fun q => q.2.2.1 c862) hL)
                    refine v_sub ?_ k9
                    exact ⟨rfl, rfl, rfl, rfl, rfl, rfl, rfl, rfl, rfl, rfl, rfl, rfl, rfl, rfl, rfl, rfl, rfl, trivial⟩
                  · refine v_aload_nR (pc := 865) dL_law_865 rfl rfl ?_
                    refine v_iload (pc := 866) dL_law_866 rfl ?_
                    refine v_bipush (pc := 868) (v := 6) dL_law_868 rfl ?_
                    refine v_callV2 (pc := 870) (c7_sleigh hps hsc hbc (s := i) (q := 6) hi (by decide)) cm_X5_sleigh q323 q324 q325 (ci := 5) rfl rfl (orcO 0 rfl) [0, 1, 2, 3, 4, 5, 6, 7, 8, 9, 10, 11, 12, 13, 14, 15, 16, 17] (by rfl) (by decide) (fun _ _ h => h) (by omega) (by omega) (by decide) (Nat.le_of_ble_eq_true rfl) dL_law_870 (fun v870 M870 hQ870 => ?_)
                    obtain ⟨rfl, rfl⟩ := hQ870
                    try dsimp only [wb, tlS_0, tlS_1, tlS_2, tlS_3, tlS_4, tlS_5, tlS_6, tlS_7, tlS_8, tlC_0, tlC_1, tlC_2, tlC_3, LawM, LakeM, WaysM, WorldM, SimM, List.set_cons_succ, List.set_cons_zero, List.append_nil, List.nil_append, List.cons_append, Option.toList, Nat.sub_zero]
                    refine v_if_le (pc := 873) (tgt := 885) dL_law_873 (by decide) (fun c873 => ?_) (fun c873 => ?_)
                    · refine v_iinc (pc := 885) (v := nI (i + 1)) dL_law_885 rfl (nI_1 _) (by show _ < 26; decide) rfl ?_
                      refine v_goto (pc := 888) (tgt := 330) dL_law_888 (by decide) ?_
                      refine v_room (ck' := ck + 20 * m) (sk' := sk + 120 * m) (by omega) (by omega) ?_
                      have k9 := ihK _ (lf_no (fun q => Int32.not_le.mpr q.2.2.2 c873) hL)
                      refine v_sub ?_ k9
                      exact ⟨rfl, rfl, rfl, rfl, rfl, rfl, rfl, rfl, rfl, rfl, rfl, rfl, rfl, rfl, rfl, rfl, rfl, trivial⟩
                    · refine v_aloadR (pc := 876) dL_law_876 rfl ?_
                      refine v_iload (pc := 878) dL_law_878 rfl ?_
                      refine v_dup2 (pc := 880) dL_law_880 rfl rfl ?_
                      refine v_ialdN (pc := 881) 54 (k := c4) rfl (by omega) (by omega) dL_law_881 ?_
                      refine v_iconst (pc := 882) (v := 1) dL_law_882 rfl ?_
                      refine v_iadd (pc := 883) dL_law_883 ?_
                      refine v_iastN (pc := 884) 54 (k := c4) rfl (by omega) (by omega) dL_law_884 ?_
                      try dsimp only [wb, tlS_0, tlS_1, tlS_2, tlS_3, tlS_4, tlS_5, tlS_6, tlS_7, tlS_8, tlC_0, tlC_1, tlC_2, tlC_3, LawM, LakeM, WaysM, WorldM, SimM, List.set_cons_succ, List.set_cons_zero, List.append_nil, List.nil_append, List.cons_append, Option.toList, Nat.sub_zero]
                      refine v_iinc (pc := 885) (v := nI (i + 1)) dL_law_885 rfl (nI_1 _) (by show _ < 26; decide) rfl ?_
                      refine v_goto (pc := 888) (tgt := 330) dL_law_888 (by decide) ?_
                      refine v_room (ck' := ck + 20 * m) (sk' := sk + 120 * m) (by omega) (by omega) ?_
                      have k9 := ihK _ (lf_yes ⟨c453, c479, c862, Int32.not_le.mp c873⟩ (by rw [e4]; exact cN_nI (by omega)) hc4 hL)
                      refine v_sub ?_ k9
                      exact ⟨rfl, rfl, rfl, rfl, rfl, rfl, rfl, rfl, rfl, rfl, rfl, rfl, rfl, rfl, rfl, rfl, rfl, trivial⟩
                · refine v_aloadR (pc := 835) dL_law_835 rfl ?_
                  refine v_iload (pc := 837) dL_law_837 rfl ?_
                  refine v_aaldS (pc := 839) 50 (k := i) (by decide) rfl (by omega) (by omega) dL_law_839 ?_
                  refine v_iconst (pc := 840) (v := 3) dL_law_840 rfl ?_
                  refine v_ialdGN (pc := 841) 51 (j := 3) rfl (by omega) (by decide) (by decide) dL_law_841 ?_
                  try dsimp only [wb, tlS_0, tlS_1, tlS_2, tlS_3, tlS_4, tlS_5, tlS_6, tlS_7, tlS_8, tlC_0, tlC_1, tlC_2, tlC_3, LawM, LakeM, WaysM, WorldM, SimM, List.set_cons_succ, List.set_cons_zero, List.append_nil, List.nil_append, List.cons_append, Option.toList, Nat.sub_zero]
                  refine v_iconst (pc := 842) (v := 1) dL_law_842 rfl ?_
                  refine v_icmp_ne (pc := 843) (tgt := 853) dL_law_843 (by decide) (fun c843 => ?_) (fun c843 => ?_)
                  · refine v_aloadR (pc := 853) dL_law_853 rfl ?_
                    refine v_iload (pc := 855) dL_law_855 rfl ?_
                    refine v_aaldS (pc := 857) 50 (k := i) (by decide) rfl (by omega) (by omega) dL_law_857 ?_
                    refine v_bipush (pc := 858) (v := 6) dL_law_858 rfl ?_
                    refine v_ialdGN (pc := 860) 51 (j := 6) rfl (by omega) (by decide) (by decide) dL_law_860 ?_
                    try dsimp only [wb, tlS_0, tlS_1, tlS_2, tlS_3, tlS_4, tlS_5, tlS_6, tlS_7, tlS_8, tlC_0, tlC_1, tlC_2, tlC_3, LawM, LakeM, WaysM, WorldM, SimM, List.set_cons_succ, List.set_cons_zero, List.append_nil, List.nil_append, List.cons_append, Option.toList, Nat.sub_zero]
                    refine v_iconst (pc := 861) (v := 1) dL_law_861 rfl ?_
                    refine v_icmp_gt (pc := 862) (tgt := 885) dL_law_862 (by decide) (fun c862 => ?_) (fun c862 => ?_)
                    · refine v_iinc (pc := 885) (v := nI (i + 1)) dL_law_885 rfl (nI_1 _) (by show _ < 26; decide) rfl ?_
                      refine v_goto (pc := 888) (tgt := 330) dL_law_888 (by decide) ?_
                      refine v_room (ck' := ck + 20 * m) (sk' := sk + 120 * m) (by omega) (by omega) ?_
                      have k9 := ihK _ (lf_no (fun q => q.2.2.1 c862) hL)
                      refine v_sub ?_ k9
                      exact ⟨rfl, rfl, rfl, rfl, rfl, rfl, rfl, rfl, rfl, rfl, rfl, rfl, rfl, rfl, rfl, rfl, rfl, trivial⟩
                    · refine v_aload_nR (pc := 865) dL_law_865 rfl rfl ?_
                      refine v_iload (pc := 866) dL_law_866 rfl ?_
                      refine v_bipush (pc := 868) (v := 6) dL_law_868 rfl ?_
                      refine v_callV2 (pc := 870) (c7_sleigh hps hsc hbc (s := i) (q := 6) hi (by decide)) cm_X5_sleigh q323 q324 q325 (ci := 5) rfl rfl (orcO 0 rfl) [0, 1, 2, 3, 4, 5, 6, 7, 8, 9, 10, 11, 12, 13, 14, 15, 16, 17] (by rfl) (by decide) (fun _ _ h => h) (by omega) (by omega) (by decide) (Nat.le_of_ble_eq_true rfl) dL_law_870 (fun v870 M870 hQ870 => ?_)
                      obtain ⟨rfl, rfl⟩ := hQ870
                      try dsimp only [wb, tlS_0, tlS_1, tlS_2, tlS_3, tlS_4, tlS_5, tlS_6, tlS_7, tlS_8, tlC_0, tlC_1, tlC_2, tlC_3, LawM, LakeM, WaysM, WorldM, SimM, List.set_cons_succ, List.set_cons_zero, List.append_nil, List.nil_append, List.cons_append, Option.toList, Nat.sub_zero]
                      refine v_if_le (pc := 873) (tgt := 885) dL_law_873 (by decide) (fun c873 => ?_) (fun c873 => ?_)
                      · refine v_iinc (pc := 885) (v := nI (i + 1)) dL_law_885 rfl (nI_1 _) (by show _ < 26; decide) rfl ?_
                        refine v_goto (pc := 888) (tgt := 330) dL_law_888 (by decide) ?_
                        refine v_room (ck' := ck + 20 * m) (sk' := sk + 120 * m) (by omega) (by omega) ?_
                        have k9 := ihK _ (lf_no (fun q => Int32.not_le.mpr q.2.2.2 c873) hL)
                        refine v_sub ?_ k9
                        exact ⟨rfl, rfl, rfl, rfl, rfl, rfl, rfl, rfl, rfl, rfl, rfl, rfl, rfl, rfl, rfl, rfl, rfl, trivial⟩
                      · refine v_aloadR (pc := 876) dL_law_876 rfl ?_
                        refine v_iload (pc := 878) dL_law_878 rfl ?_
                        refine v_dup2 (pc := 880) dL_law_880 rfl rfl ?_
                        refine v_ialdN (pc := 881) 54 (k := c4) rfl (by omega) (by omega) dL_law_881 ?_
                        refine v_iconst (pc := 882) (v := 1) dL_law_882 rfl ?_
                        refine v_iadd (pc := 883) dL_law_883 ?_
                        refine v_iastN (pc := 884) 54 (k := c4) rfl (by omega) (by omega) dL_law_884 ?_
                        try dsimp only [wb, tlS_0, tlS_1, tlS_2, tlS_3, tlS_4, tlS_5, tlS_6, tlS_7, tlS_8, tlC_0, tlC_1, tlC_2, tlC_3, LawM, LakeM, WaysM, WorldM, SimM, List.set_cons_succ, List.set_cons_zero, List.append_nil, List.nil_append, List.cons_append, Option.toList, Nat.sub_zero]
                        refine v_iinc (pc := 885) (v := nI (i + 1)) dL_law_885 rfl (nI_1 _) (by show _ < 26; decide) rfl ?_
                        refine v_goto (pc := 888) (tgt := 330) dL_law_888 (by decide) ?_
                        refine v_room (ck' := ck + 20 * m) (sk' := sk + 120 * m) (by omega) (by omega) ?_
                        have k9 := ihK _ (lf_yes ⟨c453, c479, c862, Int32.not_le.mp c873⟩ (by rw [e4]; exact cN_nI (by omega)) hc4 hL)
                        refine v_sub ?_ k9
                        exact ⟨rfl, rfl, rfl, rfl, rfl, rfl, rfl, rfl, rfl, rfl, rfl, rfl, rfl, rfl, rfl, rfl, rfl, trivial⟩
                  · refine v_iload (pc := 846) dL_law_846 rfl ?_
                    refine v_if_ne (pc := 848) (tgt := 853) dL_law_848 (by decide) (fun c848 => ?_) (fun c848 => absurd c848 (by decide))
                    refine v_aloadR (pc := 853) dL_law_853 rfl ?_
                    refine v_iload (pc := 855) dL_law_855 rfl ?_
                    refine v_aaldS (pc := 857) 50 (k := i) (by decide) rfl (by omega) (by omega) dL_law_857 ?_
                    refine v_bipush (pc := 858) (v := 6) dL_law_858 rfl ?_
                    refine v_ialdGN (pc := 860) 51 (j := 6) rfl (by omega) (by decide) (by decide) dL_law_860 ?_
                    try dsimp only [wb, tlS_0, tlS_1, tlS_2, tlS_3, tlS_4, tlS_5, tlS_6, tlS_7, tlS_8, tlC_0, tlC_1, tlC_2, tlC_3, LawM, LakeM, WaysM, WorldM, SimM, List.set_cons_succ, List.set_cons_zero, List.append_nil, List.nil_append, List.cons_append, Option.toList, Nat.sub_zero]
                    refine v_iconst (pc := 861) (v := 1) dL_law_861 rfl ?_
                    refine v_icmp_gt (pc := 862) (tgt := 885) dL_law_862 (by decide) (fun c862 => ?_) (fun c862 => ?_)
                    · refine v_iinc (pc := 885) (v := nI (i + 1)) dL_law_885 rfl (nI_1 _) (by show _ < 26; decide) rfl ?_
                      refine v_goto (pc := 888) (tgt := 330) dL_law_888 (by decide) ?_
                      refine v_room (ck' := ck + 20 * m) (sk' := sk + 120 * m) (by omega) (by omega) ?_
                      have k9 := ihK _ (lf_no (fun q => q.2.2.1 c862) hL)
                      refine v_sub ?_ k9
                      exact ⟨rfl, rfl, rfl, rfl, rfl, rfl, rfl, rfl, rfl, rfl, rfl, rfl, rfl, rfl, rfl, rfl, rfl, trivial⟩
                    · refine v_aload_nR (pc := 865) dL_law_865 rfl rfl ?_
                      refine v_iload (pc := 866) dL_law_866 rfl ?_
                      refine v_bipush (pc := 868) (v := 6) dL_law_868 rfl ?_
                      refine v_callV2 (pc := 870) (c7_sleigh hps hsc hbc (s := i) (q := 6) hi (by decide)) cm_X5_sleigh q323 q324 q325 (ci := 5) rfl rfl (orcO 0 rfl) [0, 1, 2, 3, 4, 5, 6, 7, 8, 9, 10, 11, 12, 13, 14, 15, 16, 17] (by rfl) (by decide) (fun _ _ h => h) (by omega) (by omega) (by decide) (Nat.le_of_ble_eq_true rfl) dL_law_870 (fun v870 M870 hQ870 => ?_)
                      obtain ⟨rfl, rfl⟩ := hQ870
                      try dsimp only [wb, tlS_0, tlS_1, tlS_2, tlS_3, tlS_4, tlS_5, tlS_6, tlS_7, tlS_8, tlC_0, tlC_1, tlC_2, tlC_3, LawM, LakeM, WaysM, WorldM, SimM, List.set_cons_succ, List.set_cons_zero, List.append_nil, List.nil_append, List.cons_append, Option.toList, Nat.sub_zero]
                      refine v_if_le (pc := 873) (tgt := 885) dL_law_873 (by decide) (fun c873 => ?_) (fun c873 => ?_)
                      · refine v_iinc (pc := 885) (v := nI (i + 1)) dL_law_885 rfl (nI_1 _) (by show _ < 26; decide) rfl ?_
                        refine v_goto (pc := 888) (tgt := 330) dL_law_888 (by decide) ?_
                        refine v_room (ck' := ck + 20 * m) (sk' := sk + 120 * m) (by omega) (by omega) ?_
                        have k9 := ihK _ (lf_no (fun q => Int32.not_le.mpr q.2.2.2 c873) hL)
                        refine v_sub ?_ k9
                        exact ⟨rfl, rfl, rfl, rfl, rfl, rfl, rfl, rfl, rfl, rfl, rfl, rfl, rfl, rfl, rfl, rfl, rfl, trivial⟩
                      · refine v_aloadR (pc := 876) dL_law_876 rfl ?_
                        refine v_iload (pc := 878) dL_law_878 rfl ?_
                        refine v_dup2 (pc := 880) dL_law_880 rfl rfl ?_
                        refine v_ialdN (pc := 881) 54 (k := c4) rfl (by omega) (by omega) dL_law_881 ?_
                        refine v_iconst (pc := 882) (v := 1) dL_law_882 rfl ?_
                        refine v_iadd (pc := 883) dL_law_883 ?_
                        refine v_iastN (pc := 884) 54 (k := c4) rfl (by omega) (by omega) dL_law_884 ?_
                        try dsimp only [wb, tlS_0, tlS_1, tlS_2, tlS_3, tlS_4, tlS_5, tlS_6, tlS_7, tlS_8, tlC_0, tlC_1, tlC_2, tlC_3, LawM, LakeM, WaysM, WorldM, SimM, List.set_cons_succ, List.set_cons_zero, List.append_nil, List.nil_append, List.cons_append, Option.toList, Nat.sub_zero]
                        refine v_iinc (pc := 885) (v := nI (i + 1)) dL_law_885 rfl (nI_1 _) (by show _ < 26; decide) rfl ?_
                        refine v_goto (pc := 888) (tgt := 330) dL_law_888 (by decide) ?_
                        refine v_room (ck' := ck + 20 * m) (sk' := sk + 120 * m) (by omega) (by omega) ?_
                        have k9 := ihK _ (lf_yes ⟨c453, c479, c862, Int32.not_le.mp c873⟩ (by rw [e4]; exact cN_nI (by omega)) hc4 hL)
                        refine v_sub ?_ k9
                        exact ⟨rfl, rfl, rfl, rfl, rfl, rfl, rfl, rfl, rfl, rfl, rfl, rfl, rfl, rfl, rfl, rfl, rfl, trivial⟩
              · refine v_iload (pc := 825) dL_law_825 rfl ?_
                refine v_if_ne (pc := 827) (tgt := 851) dL_law_827 (by decide) (fun c827 => absurd (g4a c822) c827) (fun c827 => ?_)
                refine v_iload (pc := 830) dL_law_830 rfl ?_
                refine v_if_ne (pc := 832) (tgt := 853) dL_law_832 (by decide) (fun c832 => ?_) (fun c832 => ?_)
                · refine v_aloadR (pc := 853) dL_law_853 rfl ?_
                  refine v_iload (pc := 855) dL_law_855 rfl ?_
                  refine v_aaldS (pc := 857) 50 (k := i) (by decide) rfl (by omega) (by omega) dL_law_857 ?_
                  refine v_bipush (pc := 858) (v := 6) dL_law_858 rfl ?_
                  refine v_ialdGN (pc := 860) 51 (j := 6) rfl (by omega) (by decide) (by decide) dL_law_860 ?_
                  try dsimp only [wb, tlS_0, tlS_1, tlS_2, tlS_3, tlS_4, tlS_5, tlS_6, tlS_7, tlS_8, tlC_0, tlC_1, tlC_2, tlC_3, LawM, LakeM, WaysM, WorldM, SimM, List.set_cons_succ, List.set_cons_zero, List.append_nil, List.nil_append, List.cons_append, Option.toList, Nat.sub_zero]
                  refine v_iconst (pc := 861) (v := 1) dL_law_861 rfl ?_
                  refine v_icmp_gt (pc := 862) (tgt := 885) dL_law_862 (by decide) (fun c862 => ?_) (fun c862 => ?_)
                  · refine v_iinc (pc := 885) (v := nI (i + 1)) dL_law_885 rfl (nI_1 _) (by show _ < 26; decide) rfl ?_
                    refine v_goto (pc := 888) (tgt := 330) dL_law_888 (by decide) ?_
                    refine v_room (ck' := ck + 20 * m) (sk' := sk + 120 * m) (by omega) (by omega) ?_
                    have k9 := ihK _ (lf_no (fun q => q.2.2.1 c862) hL)
                    refine v_sub ?_ k9
                    exact ⟨rfl, rfl, rfl, rfl, rfl, rfl, rfl, rfl, rfl, rfl, rfl, rfl, rfl, rfl, rfl, rfl, rfl, trivial⟩
                  · refine v_aload_nR (pc := 865) dL_law_865 rfl rfl ?_
                    refine v_iload (pc := 866) dL_law_866 rfl ?_
                    refine v_bipush (pc := 868) (v := 6) dL_law_868 rfl ?_
                    refine v_callV2 (pc := 870) (c7_sleigh hps hsc hbc (s := i) (q := 6) hi (by decide)) cm_X5_sleigh q323 q324 q325 (ci := 5) rfl rfl (orcO 0 rfl) [0, 1, 2, 3, 4, 5, 6, 7, 8, 9, 10, 11, 12, 13, 14, 15, 16, 17] (by rfl) (by decide) (fun _ _ h => h) (by omega) (by omega) (by decide) (Nat.le_of_ble_eq_true rfl) dL_law_870 (fun v870 M870 hQ870 => ?_)
                    obtain ⟨rfl, rfl⟩ := hQ870
                    try dsimp only [wb, tlS_0, tlS_1, tlS_2, tlS_3, tlS_4, tlS_5, tlS_6, tlS_7, tlS_8, tlC_0, tlC_1, tlC_2, tlC_3, LawM, LakeM, WaysM, WorldM, SimM, List.set_cons_succ, List.set_cons_zero, List.append_nil, List.nil_append, List.cons_append, Option.toList, Nat.sub_zero]
                    refine v_if_le (pc := 873) (tgt := 885) dL_law_873 (by decide) (fun c873 => ?_) (fun c873 => ?_)
                    · refine v_iinc (pc := 885) (v := nI (i + 1)) dL_law_885 rfl (nI_1 _) (by show _ < 26; decide) rfl ?_
                      refine v_goto (pc := 888) (tgt := 330) dL_law_888 (by decide) ?_
                      refine v_room (ck' := ck + 20 * m) (sk' := sk + 120 * m) (by omega) (by omega) ?_
                      have k9 := ihK _ (lf_no (fun q => Int32.not_le.mpr q.2.2.2 c873) hL)
                      refine v_sub ?_ k9
                      exact ⟨rfl, rfl, rfl, rfl, rfl, rfl, rfl, rfl, rfl, rfl, rfl, rfl, rfl, rfl, rfl, rfl, rfl, trivial⟩
                    · refine v_aloadR (pc := 876) dL_law_876 rfl ?_
                      refine v_iload (pc := 878) dL_law_878 rfl ?_
                      refine v_dup2 (pc := 880) dL_law_880 rfl rfl ?_
                      refine v_ialdN (pc := 881) 54 (k := c4) rfl (by omega) (by omega) dL_law_881 ?_
                      refine v_iconst (pc := 882) (v := 1) dL_law_882 rfl ?_
                      refine v_iadd (pc := 883) dL_law_883 ?_
                      refine v_iastN (pc := 884) 54 (k := c4) rfl (by omega) (by omega) dL_law_884 ?_
                      try dsimp only [wb, tlS_0, tlS_1, tlS_2, tlS_3, tlS_4, tlS_5, tlS_6, tlS_7, tlS_8, tlC_0, tlC_1, tlC_2, tlC_3, LawM, LakeM, WaysM, WorldM, SimM, List.set_cons_succ, List.set_cons_zero, List.append_nil, List.nil_append, List.cons_append, Option.toList, Nat.sub_zero]
                      refine v_iinc (pc := 885) (v := nI (i + 1)) dL_law_885 rfl (nI_1 _) (by show _ < 26; decide) rfl ?_
                      refine v_goto (pc := 888) (tgt := 330) dL_law_888 (by decide) ?_
                      refine v_room (ck' := ck + 20 * m) (sk' := sk + 120 * m) (by omega) (by omega) ?_
                      have k9 := ihK _ (lf_yes ⟨c453, c479, c862, Int32.not_le.mp c873⟩ (by rw [e4]; exact cN_nI (by omega)) hc4 hL)
                      refine v_sub ?_ k9
                      exact ⟨rfl, rfl, rfl, rfl, rfl, rfl, rfl, rfl, rfl, rfl, rfl, rfl, rfl, rfl, rfl, rfl, rfl, trivial⟩
                · refine v_aloadR (pc := 835) dL_law_835 rfl ?_
                  refine v_iload (pc := 837) dL_law_837 rfl ?_
                  refine v_aaldS (pc := 839) 50 (k := i) (by decide) rfl (by omega) (by omega) dL_law_839 ?_
                  refine v_iconst (pc := 840) (v := 3) dL_law_840 rfl ?_
                  refine v_ialdGN (pc := 841) 51 (j := 3) rfl (by omega) (by decide) (by decide) dL_law_841 ?_
                  try dsimp only [wb, tlS_0, tlS_1, tlS_2, tlS_3, tlS_4, tlS_5, tlS_6, tlS_7, tlS_8, tlC_0, tlC_1, tlC_2, tlC_3, LawM, LakeM, WaysM, WorldM, SimM, List.set_cons_succ, List.set_cons_zero, List.append_nil, List.nil_append, List.cons_append, Option.toList, Nat.sub_zero]
                  refine v_iconst (pc := 842) (v := 1) dL_law_842 rfl ?_
                  refine v_icmp_ne (pc := 843) (tgt := 853) dL_law_843 (by decide) (fun c843 => ?_) (fun c843 => ?_)
                  · refine v_aloadR (pc := 853) dL_law_853 rfl ?_
                    refine v_iload (pc := 855) dL_law_855 rfl ?_
                    refine v_aaldS (pc := 857) 50 (k := i) (by decide) rfl (by omega) (by omega) dL_law_857 ?_
                    refine v_bipush (pc := 858) (v := 6) dL_law_858 rfl ?_
                    refine v_ialdGN (pc := 860) 51 (j := 6) rfl (by omega) (by decide) (by decide) dL_law_860 ?_
                    try dsimp only [wb, tlS_0, tlS_1, tlS_2, tlS_3, tlS_4, tlS_5, tlS_6, tlS_7, tlS_8, tlC_0, tlC_1, tlC_2, tlC_3, LawM, LakeM, WaysM, WorldM, SimM, List.set_cons_succ, List.set_cons_zero, List.append_nil, List.nil_append, List.cons_append, Option.toList, Nat.sub_zero]
                    refine v_iconst (pc := 861) (v := 1) dL_law_861 rfl ?_
                    refine v_icmp_gt (pc := 862) (tgt := 885) dL_law_862 (by decide) (fun c862 => ?_) (fun c862 => ?_)
                    · refine v_iinc (pc := 885) (v := nI (i + 1)) dL_law_885 rfl (nI_1 _) (by show _ < 26; decide) rfl ?_
                      refine v_goto (pc := 888) (tgt := 330) dL_law_888 (by decide) ?_
                      refine v_room (ck' := ck + 20 * m) (sk' := sk + 120 * m) (by omega) (by omega) ?_
                      have k9 := ihK _ (lf_no (fun q => q.2.2.1 c862) hL)
                      refine v_sub ?_ k9
                      exact ⟨rfl, rfl, rfl, rfl, rfl, rfl, rfl, rfl, rfl, rfl, rfl, rfl, rfl, rfl, rfl, rfl, rfl, trivial⟩
                    · refine v_aload_nR (pc := 865) dL_law_865 rfl rfl ?_
                      refine v_iload (pc := 866) dL_law_866 rfl ?_
                      refine v_bipush (pc := 868) (v := 6) dL_law_868 rfl ?_
                      refine v_callV2 (pc := 870) (c7_sleigh hps hsc hbc (s := i) (q := 6) hi (by decide)) cm_X5_sleigh q323 q324 q325 (ci := 5) rfl rfl (orcO 0 rfl) [0, 1, 2, 3, 4, 5, 6, 7, 8, 9, 10, 11, 12, 13, 14, 15, 16, 17] (by rfl) (by decide) (fun _ _ h => h) (by omega) (by omega) (by decide) (Nat.le_of_ble_eq_true rfl) dL_law_870 (fun v870 M870 hQ870 => ?_)
                      obtain ⟨rfl, rfl⟩ := hQ870
                      try dsimp only [wb, tlS_0, tlS_1, tlS_2, tlS_3, tlS_4, tlS_5, tlS_6, tlS_7, tlS_8, tlC_0, tlC_1, tlC_2, tlC_3, LawM, LakeM, WaysM, WorldM, SimM, List.set_cons_succ, List.set_cons_zero, List.append_nil, List.nil_append, List.cons_append, Option.toList, Nat.sub_zero]
                      refine v_if_le (pc := 873) (tgt := 885) dL_law_873 (by decide) (fun c873 => ?_) (fun c873 => ?_)
                      · refine v_iinc (pc := 885) (v := nI (i + 1)) dL_law_885 rfl (nI_1 _) (by show _ < 26; decide) rfl ?_
                        refine v_goto (pc := 888) (tgt := 330) dL_law_888 (by decide) ?_
                        refine v_room (ck' := ck + 20 * m) (sk' := sk + 120 * m) (by omega) (by omega) ?_
                        have k9 := ihK _ (lf_no (fun q => Int32.not_le.mpr q.2.2.2 c873) hL)
                        refine v_sub ?_ k9
                        exact ⟨rfl, rfl, rfl, rfl, rfl, rfl, rfl, rfl, rfl, rfl, rfl, rfl, rfl, rfl, rfl, rfl, rfl, trivial⟩
                      · refine v_aloadR (pc := 876) dL_law_876 rfl ?_
                        refine v_iload (pc := 878) dL_law_878 rfl ?_
                        refine v_dup2 (pc := 880) dL_law_880 rfl rfl ?_
                        refine v_ialdN (pc := 881) 54 (k := c4) rfl (by omega) (by omega) dL_law_881 ?_
                        refine v_iconst (pc := 882) (v := 1) dL_law_882 rfl ?_
                        refine v_iadd (pc := 883) dL_law_883 ?_
                        refine v_iastN (pc := 884) 54 (k := c4) rfl (by omega) (by omega) dL_law_884 ?_
                        try dsimp only [wb, tlS_0, tlS_1, tlS_2, tlS_3, tlS_4, tlS_5, tlS_6, tlS_7, tlS_8, tlC_0, tlC_1, tlC_2, tlC_3, LawM, LakeM, WaysM, WorldM, SimM, List.set_cons_succ, List.set_cons_zero, List.append_nil, List.nil_append, List.cons_append, Option.toList, Nat.sub_zero]
                        refine v_iinc (pc := 885) (v := nI (i + 1)) dL_law_885 rfl (nI_1 _) (by show _ < 26; decide) rfl ?_
                        refine v_goto (pc := 888) (tgt := 330) dL_law_888 (by decide) ?_
                        refine v_room (ck' := ck + 20 * m) (sk' := sk + 120 * m) (by omega) (by omega) ?_
                        have k9 := ihK _ (lf_yes ⟨c453, c479, c862, Int32.not_le.mp c873⟩ (by rw [e4]; exact cN_nI (by omega)) hc4 hL)
                        refine v_sub ?_ k9
                        exact ⟨rfl, rfl, rfl, rfl, rfl, rfl, rfl, rfl, rfl, rfl, rfl, rfl, rfl, rfl, rfl, rfl, rfl, trivial⟩
                  · refine v_iload (pc := 846) dL_law_846 rfl ?_
                    refine v_if_ne (pc := 848) (tgt := 853) dL_law_848 (by decide) (fun c848 => ?_) (fun c848 => absurd c848 (by decide))
                    refine v_aloadR (pc := 853) dL_law_853 rfl ?_
                    refine v_iload (pc := 855) dL_law_855 rfl ?_
                    refine v_aaldS (pc := 857) 50 (k := i) (by decide) rfl (by omega) (by omega) dL_law_857 ?_
                    refine v_bipush (pc := 858) (v := 6) dL_law_858 rfl ?_
                    refine v_ialdGN (pc := 860) 51 (j := 6) rfl (by omega) (by decide) (by decide) dL_law_860 ?_
                    try dsimp only [wb, tlS_0, tlS_1, tlS_2, tlS_3, tlS_4, tlS_5, tlS_6, tlS_7, tlS_8, tlC_0, tlC_1, tlC_2, tlC_3, LawM, LakeM, WaysM, WorldM, SimM, List.set_cons_succ, List.set_cons_zero, List.append_nil, List.nil_append, List.cons_append, Option.toList, Nat.sub_zero]
                    refine v_iconst (pc := 861) (v := 1) dL_law_861 rfl ?_
                    refine v_icmp_gt (pc := 862) (tgt := 885) dL_law_862 (by decide) (fun c862 => ?_) (fun c862 => ?_)
                    · refine v_iinc (pc := 885) (v := nI (i + 1)) dL_law_885 rfl (nI_1 _) (by show _ < 26; decide) rfl ?_
                      refine v_goto (pc := 888) (tgt := 330) dL_law_888 (by decide) ?_
                      refine v_room (ck' := ck + 20 * m) (sk' := sk + 120 * m) (by omega) (by omega) ?_
                      have k9 := ihK _ (lf_no (fun q => q.2.2.1 c862) hL)
                      refine v_sub ?_ k9
                      exact ⟨rfl, rfl, rfl, rfl, rfl, rfl, rfl, rfl, rfl, rfl, rfl, rfl, rfl, rfl, rfl, rfl, rfl, trivial⟩
                    · refine v_aload_nR (pc := 865) dL_law_865 rfl rfl ?_
                      refine v_iload (pc := 866) dL_law_866 rfl ?_
                      refine v_bipush (pc := 868) (v := 6) dL_law_868 rfl ?_
                      refine v_callV2 (pc := 870) (c7_sleigh hps hsc hbc (s := i) (q := 6) hi (by decide)) cm_X5_sleigh q323 q324 q325 (ci := 5) rfl rfl (orcO 0 rfl) [0, 1, 2, 3, 4, 5, 6, 7, 8, 9, 10, 11, 12, 13, 14, 15, 16, 17] (by rfl) (by decide) (fun _ _ h => h) (by omega) (by omega) (by decide) (Nat.le_of_ble_eq_true rfl) dL_law_870 (fun v870 M870 hQ870 => ?_)
                      obtain ⟨rfl, rfl⟩ := hQ870
                      try dsimp only [wb, tlS_0, tlS_1, tlS_2, tlS_3, tlS_4, tlS_5, tlS_6, tlS_7, tlS_8, tlC_0, tlC_1, tlC_2, tlC_3, LawM, LakeM, WaysM, WorldM, SimM, List.set_cons_succ, List.set_cons_zero, List.append_nil, List.nil_append, List.cons_append, Option.toList, Nat.sub_zero]
                      refine v_if_le (pc := 873) (tgt := 885) dL_law_873 (by decide) (fun c873 => ?_) (fun c873 => ?_)
                      · refine v_iinc (pc := 885) (v := nI (i + 1)) dL_law_885 rfl (nI_1 _) (by show _ < 26; decide) rfl ?_
                        refine v_goto (pc := 888) (tgt := 330) dL_law_888 (by decide) ?_
                        refine v_room (ck' := ck + 20 * m) (sk' := sk + 120 * m) (by omega) (by omega) ?_
                        have k9 := ihK _ (lf_no (fun q => Int32.not_le.mpr q.2.2.2 c873) hL)
                        refine v_sub ?_ k9
                        exact ⟨rfl, rfl, rfl, rfl, rfl, rfl, rfl, rfl, rfl, rfl, rfl, rfl, rfl, rfl, rfl, rfl, rfl, trivial⟩
                      · refine v_aloadR (pc := 876) dL_law_876 rfl ?_
                        refine v_iload (pc := 878) dL_law_878 rfl ?_
                        refine v_dup2 (pc := 880) dL_law_880 rfl rfl ?_
                        refine v_ialdN (pc := 881) 54 (k := c4) rfl (by omega) (by omega) dL_law_881 ?_
                        refine v_iconst (pc := 882) (v := 1) dL_law_882 rfl ?_
                        refine v_iadd (pc := 883) dL_law_883 ?_
                        refine v_iastN (pc := 884) 54 (k := c4) rfl (by omega) (by omega) dL_law_884 ?_
                        try dsimp only [wb, tlS_0, tlS_1, tlS_2, tlS_3, tlS_4, tlS_5, tlS_6, tlS_7, tlS_8, tlC_0, tlC_1, tlC_2, tlC_3, LawM, LakeM, WaysM, WorldM, SimM, List.set_cons_succ, List.set_cons_zero, List.append_nil, List.nil_append, List.cons_append, Option.toList, Nat.sub_zero]
                        refine v_iinc (pc := 885) (v := nI (i + 1)) dL_law_885 rfl (nI_1 _) (by show _ < 26; decide) rfl ?_
                        refine v_goto (pc := 888) (tgt := 330) dL_law_888 (by decide) ?_
                        refine v_room (ck' := ck + 20 * m) (sk' := sk + 120 * m) (by omega) (by omega) ?_
                        have k9 := ihK _ (lf_yes ⟨c453, c479, c862, Int32.not_le.mp c873⟩ (by rw [e4]; exact cN_nI (by omega)) hc4 hL)
                        refine v_sub ?_ k9
                        exact ⟨rfl, rfl, rfl, rfl, rfl, rfl, rfl, rfl, rfl, rfl, rfl, rfl, rfl, rfl, rfl, rfl, rfl, trivial⟩
        · refine v_iconst (pc := 724) (v := 2) dL_law_724 rfl ?_
          refine v_bipush (pc := 725) (v := 100) dL_law_725 rfl ?_
          refine v_aloadR (pc := 727) dL_law_727 rfl ?_
          refine v_iload (pc := 729) dL_law_729 rfl ?_
          refine v_aaldS (pc := 731) 50 (k := i) (by decide) rfl (by omega) (by omega) dL_law_731 ?_
          refine v_iconst (pc := 732) (v := 2) dL_law_732 rfl ?_
          refine v_ialdGN (pc := 733) 51 (j := 2) rfl (by omega) (by decide) (by decide) dL_law_733 ?_
          try dsimp only [wb, tlS_0, tlS_1, tlS_2, tlS_3, tlS_4, tlS_5, tlS_6, tlS_7, tlS_8, tlC_0, tlC_1, tlC_2, tlC_3, LawM, LakeM, WaysM, WorldM, SimM, List.set_cons_succ, List.set_cons_zero, List.append_nil, List.nil_append, List.cons_append, Option.toList, Nat.sub_zero]
          refine v_iconst (pc := 734) (v := 1) dL_law_734 rfl ?_
          refine v_iadd (pc := 735) dL_law_735 ?_
          refine v_mmin (pc := 736) q732 q403 q15 q404 (by decide) (Nat.le_of_ble_eq_true rfl) dL_law_736 ?_
          refine v_mmin (pc := 739) q732 q403 q15 q404 (by decide) (Nat.le_of_ble_eq_true rfl) dL_law_739 ?_
          refine v_goto (pc := 742) (tgt := 746) dL_law_742 (by decide) ?_
          refine v_isub (pc := 746) dL_law_746 ?_
          refine v_icmp_eq (pc := 747) (tgt := 752) dL_law_747 (by decide) (fun c747 => ?_) (fun c747 => absurd (((g1a c616).2.trans (if_pos c721)).trans (tDn_min (tUp_ok ht0))) c747)
          refine v_aloadR (pc := 752) dL_law_752 rfl ?_
          refine v_iload (pc := 754) dL_law_754 rfl ?_
          refine v_aaldS (pc := 756) 50 (k := i) (by decide) rfl (by omega) (by omega) dL_law_756 ?_
          refine v_bipush (pc := 757) (v := 6) dL_law_757 rfl ?_
          refine v_ialdGN (pc := 759) 51 (j := 6) rfl (by omega) (by decide) (by decide) dL_law_759 ?_
          try dsimp only [wb, tlS_0, tlS_1, tlS_2, tlS_3, tlS_4, tlS_5, tlS_6, tlS_7, tlS_8, tlC_0, tlC_1, tlC_2, tlC_3, LawM, LakeM, WaysM, WorldM, SimM, List.set_cons_succ, List.set_cons_zero, List.append_nil, List.nil_append, List.cons_append, Option.toList, Nat.sub_zero]
          refine v_iconst (pc := 760) (v := 1) dL_law_760 rfl ?_
          refine v_icmp_le (pc := 761) (tgt := 793) dL_law_761 (by decide) (fun c761 => ?_) (fun c761 => ?_)
          · refine v_iload (pc := 793) dL_law_793 rfl ?_
            refine v_if_ne (pc := 795) (tgt := 815) dL_law_795 (by decide) (fun c795 => ?_) (fun c795 => ?_)
            · refine v_aloadR (pc := 815) dL_law_815 rfl ?_
              refine v_iload (pc := 817) dL_law_817 rfl ?_
              refine v_aaldS (pc := 819) 50 (k := i) (by decide) rfl (by omega) (by omega) dL_law_819 ?_
              refine v_iconst (pc := 820) (v := 3) dL_law_820 rfl ?_
              refine v_ialdGN (pc := 821) 51 (j := 3) rfl (by omega) (by decide) (by decide) dL_law_821 ?_
              try dsimp only [wb, tlS_0, tlS_1, tlS_2, tlS_3, tlS_4, tlS_5, tlS_6, tlS_7, tlS_8, tlC_0, tlC_1, tlC_2, tlC_3, LawM, LakeM, WaysM, WorldM, SimM, List.set_cons_succ, List.set_cons_zero, List.append_nil, List.nil_append, List.cons_append, Option.toList, Nat.sub_zero]
              refine v_if_ne (pc := 822) (tgt := 830) dL_law_822 (by decide) (fun c822 => ?_) (fun c822 => ?_)
              · refine v_iload (pc := 830) dL_law_830 rfl ?_
                refine v_if_ne (pc := 832) (tgt := 853) dL_law_832 (by decide) (fun c832 => ?_) (fun c832 => ?_)
                · refine v_aloadR (pc := 853) dL_law_853 rfl ?_
                  refine v_iload (pc := 855) dL_law_855 rfl ?_
                  refine v_aaldS (pc := 857) 50 (k := i) (by decide) rfl (by omega) (by omega) dL_law_857 ?_
                  refine v_bipush (pc := 858) (v := 6) dL_law_858 rfl ?_
                  refine v_ialdGN (pc := 860) 51 (j := 6) rfl (by omega) (by decide) (by decide) dL_law_860 ?_
                  try dsimp only [wb, tlS_0, tlS_1, tlS_2, tlS_3, tlS_4, tlS_5, tlS_6, tlS_7, tlS_8, tlC_0, tlC_1, tlC_2, tlC_3, LawM, LakeM, WaysM, WorldM, SimM, List.set_cons_succ, List.set_cons_zero, List.append_nil, List.nil_append, List.cons_append, Option.toList, Nat.sub_zero]
                  refine v_iconst (pc := 861) (v := 1) dL_law_861 rfl ?_
                  refine v_icmp_gt (pc := 862) (tgt := 885) dL_law_862 (by decide) (fun c862 => ?_) (fun c862 => ?_)
                  · refine v_iinc (pc := 885) (v := nI (i + 1)) dL_law_885 rfl (nI_1 _) (by show _ < 26; decide) rfl ?_
                    refine v_goto (pc := 888) (tgt := 330) dL_law_888 (by decide) ?_
                    refine v_room (ck' := ck + 20 * m) (sk' := sk + 120 * m) (by omega) (by omega) ?_
                    have k9 := ihK _ (lf_no (fun q => q.2.2.1 c862) hL)
                    refine v_sub ?_ k9
                    exact ⟨rfl, rfl, rfl, rfl, rfl, rfl, rfl, rfl, rfl, rfl, rfl, rfl, rfl, rfl, rfl, rfl, rfl, trivial⟩
                  · refine v_aload_nR (pc := 865) dL_law_865 rfl rfl ?_
                    refine v_iload (pc := 866) dL_law_866 rfl ?_
                    refine v_bipush (pc := 868) (v := 6) dL_law_868 rfl ?_
                    refine v_callV2 (pc := 870) (c7_sleigh hps hsc hbc (s := i) (q := 6) hi (by decide)) cm_X5_sleigh q323 q324 q325 (ci := 5) rfl rfl (orcO 0 rfl) [0, 1, 2, 3, 4, 5, 6, 7, 8, 9, 10, 11, 12, 13, 14, 15, 16, 17] (by rfl) (by decide) (fun _ _ h => h) (by omega) (by omega) (by decide) (Nat.le_of_ble_eq_true rfl) dL_law_870 (fun v870 M870 hQ870 => ?_)
                    obtain ⟨rfl, rfl⟩ := hQ870
                    try dsimp only [wb, tlS_0, tlS_1, tlS_2, tlS_3, tlS_4, tlS_5, tlS_6, tlS_7, tlS_8, tlC_0, tlC_1, tlC_2, tlC_3, LawM, LakeM, WaysM, WorldM, SimM, List.set_cons_succ, List.set_cons_zero, List.append_nil, List.nil_append, List.cons_append, Option.toList, Nat.sub_zero]
                    refine v_if_le (pc := 873) (tgt := 885) dL_law_873 (by decide) (fun c873 => ?_) (fun c873 => ?_)
                    · refine v_iinc (pc := 885) (v := nI (i + 1)) dL_law_885 rfl (nI_1 _) (by show _ < 26; decide) rfl ?_
                      refine v_goto (pc := 888) (tgt := 330) dL_law_888 (by decide) ?_
                      refine v_room (ck' := ck + 20 * m) (sk' := sk + 120 * m) (by omega) (by omega) ?_
                      have k9 := ihK _ (lf_no (fun q => Int32.not_le.mpr q.2.2.2 c873) hL)
                      refine v_sub ?_ k9
                      exact ⟨rfl, rfl, rfl, rfl, rfl, rfl, rfl, rfl, rfl, rfl, rfl, rfl, rfl, rfl, rfl, rfl, rfl, trivial⟩
                    · refine v_aloadR (pc := 876) dL_law_876 rfl ?_
                      refine v_iload (pc := 878) dL_law_878 rfl ?_
                      refine v_dup2 (pc := 880) dL_law_880 rfl rfl ?_
                      refine v_ialdN (pc := 881) 54 (k := c4) rfl (by omega) (by omega) dL_law_881 ?_
                      refine v_iconst (pc := 882) (v := 1) dL_law_882 rfl ?_
                      refine v_iadd (pc := 883) dL_law_883 ?_
                      refine v_iastN (pc := 884) 54 (k := c4) rfl (by omega) (by omega) dL_law_884 ?_
                      try dsimp only [wb, tlS_0, tlS_1, tlS_2, tlS_3, tlS_4, tlS_5, tlS_6, tlS_7, tlS_8, tlC_0, tlC_1, tlC_2, tlC_3, LawM, LakeM, WaysM, WorldM, SimM, List.set_cons_succ, List.set_cons_zero, List.append_nil, List.nil_append, List.cons_append, Option.toList, Nat.sub_zero]
                      refine v_iinc (pc := 885) (v := nI (i + 1)) dL_law_885 rfl (nI_1 _) (by show _ < 26; decide) rfl ?_
                      refine v_goto (pc := 888) (tgt := 330) dL_law_888 (by decide) ?_
                      refine v_room (ck' := ck + 20 * m) (sk' := sk + 120 * m) (by omega) (by omega) ?_
                      have k9 := ihK _ (lf_yes ⟨c453, c479, c862, Int32.not_le.mp c873⟩ (by rw [e4]; exact cN_nI (by omega)) hc4 hL)
                      refine v_sub ?_ k9
                      exact ⟨rfl, rfl, rfl, rfl, rfl, rfl, rfl, rfl, rfl, rfl, rfl, rfl, rfl, rfl, rfl, rfl, rfl, trivial⟩
                · refine v_aloadR (pc := 835) dL_law_835 rfl ?_
                  refine v_iload (pc := 837) dL_law_837 rfl ?_
                  refine v_aaldS (pc := 839) 50 (k := i) (by decide) rfl (by omega) (by omega) dL_law_839 ?_
                  refine v_iconst (pc := 840) (v := 3) dL_law_840 rfl ?_
                  refine v_ialdGN (pc := 841) 51 (j := 3) rfl (by omega) (by decide) (by decide) dL_law_841 ?_
                  try dsimp only [wb, tlS_0, tlS_1, tlS_2, tlS_3, tlS_4, tlS_5, tlS_6, tlS_7, tlS_8, tlC_0, tlC_1, tlC_2, tlC_3, LawM, LakeM, WaysM, WorldM, SimM, List.set_cons_succ, List.set_cons_zero, List.append_nil, List.nil_append, List.cons_append, Option.toList, Nat.sub_zero]
                  refine v_iconst (pc := 842) (v := 1) dL_law_842 rfl ?_
                  refine v_icmp_ne (pc := 843) (tgt := 853) dL_law_843 (by decide) (fun c843 => ?_) (fun c843 => ?_)
                  · refine v_aloadR (pc := 853) dL_law_853 rfl ?_
                    refine v_iload (pc := 855) dL_law_855 rfl ?_
                    refine v_aaldS (pc := 857) 50 (k := i) (by decide) rfl (by omega) (by omega) dL_law_857 ?_
                    refine v_bipush (pc := 858) (v := 6) dL_law_858 rfl ?_
                    refine v_ialdGN (pc := 860) 51 (j := 6) rfl (by omega) (by decide) (by decide) dL_law_860 ?_
                    try dsimp only [wb, tlS_0, tlS_1, tlS_2, tlS_3, tlS_4, tlS_5, tlS_6, tlS_7, tlS_8, tlC_0, tlC_1, tlC_2, tlC_3, LawM, LakeM, WaysM, WorldM, SimM, List.set_cons_succ, List.set_cons_zero, List.append_nil, List.nil_append, List.cons_append, Option.toList, Nat.sub_zero]
                    refine v_iconst (pc := 861) (v := 1) dL_law_861 rfl ?_
                    refine v_icmp_gt (pc := 862) (tgt := 885) dL_law_862 (by decide) (fun c862 => ?_) (fun c862 => ?_)
                    · refine v_iinc (pc := 885) (v := nI (i + 1)) dL_law_885 rfl (nI_1 _) (by show _ < 26; decide) rfl ?_
                      refine v_goto (pc := 888) (tgt := 330) dL_law_888 (by decide) ?_
                      refine v_room (ck' := ck + 20 * m) (sk' := sk + 120 * m) (by omega) (by omega) ?_
                      have k9 := ihK _ (lf_no (fun q => q.2.2.1 c862) hL)
                      refine v_sub ?_ k9
                      exact ⟨rfl, rfl, rfl, rfl, rfl, rfl, rfl, rfl, rfl, rfl, rfl, rfl, rfl, rfl, rfl, rfl, rfl, trivial⟩
                    · refine v_aload_nR (pc := 865) dL_law_865 rfl rfl ?_
                      refine v_iload (pc := 866) dL_law_866 rfl ?_
                      refine v_bipush (pc := 868) (v := 6) dL_law_868 rfl ?_
                      refine v_callV2 (pc := 870) (c7_sleigh hps hsc hbc (s := i) (q := 6) hi (by decide)) cm_X5_sleigh q323 q324 q325 (ci := 5) rfl rfl (orcO 0 rfl) [0, 1, 2, 3, 4, 5, 6, 7, 8, 9, 10, 11, 12, 13, 14, 15, 16, 17] (by rfl) (by decide) (fun _ _ h => h) (by omega) (by omega) (by decide) (Nat.le_of_ble_eq_true rfl) dL_law_870 (fun v870 M870 hQ870 => ?_)
                      obtain ⟨rfl, rfl⟩ := hQ870
                      try dsimp only [wb, tlS_0, tlS_1, tlS_2, tlS_3, tlS_4, tlS_5, tlS_6, tlS_7, tlS_8, tlC_0, tlC_1, tlC_2, tlC_3, LawM, LakeM, WaysM, WorldM, SimM, List.set_cons_succ, List.set_cons_zero, List.append_nil, List.nil_append, List.cons_append, Option.toList, Nat.sub_zero]
                      refine v_if_le (pc := 873) (tgt := 885) dL_law_873 (by decide) (fun c873 => ?_) (fun c873 => ?_)
                      · refine v_iinc (pc := 885) (v := nI (i + 1)) dL_law_885 rfl (nI_1 _) (by show _ < 26; decide) rfl ?_
                        refine v_goto (pc := 888) (tgt := 330) dL_law_888 (by decide) ?_
                        refine v_room (ck' := ck + 20 * m) (sk' := sk + 120 * m) (by omega) (by omega) ?_
                        have k9 := ihK _ (lf_no (fun q => Int32.not_le.mpr q.2.2.2 c873) hL)
                        refine v_sub ?_ k9
                        exact ⟨rfl, rfl, rfl, rfl, rfl, rfl, rfl, rfl, rfl, rfl, rfl, rfl, rfl, rfl, rfl, rfl, rfl, trivial⟩
                      · refine v_aloadR (pc := 876) dL_law_876 rfl ?_
                        refine v_iload (pc := 878) dL_law_878 rfl ?_
                        refine v_dup2 (pc := 880) dL_law_880 rfl rfl ?_
                        refine v_ialdN (pc := 881) 54 (k := c4) rfl (by omega) (by omega) dL_law_881 ?_
                        refine v_iconst (pc := 882) (v := 1) dL_law_882 rfl ?_
                        refine v_iadd (pc := 883) dL_law_883 ?_
                        refine v_iastN (pc := 884) 54 (k := c4) rfl (by omega) (by omega) dL_law_884 ?_
                        try dsimp only [wb, tlS_0, tlS_1, tlS_2, tlS_3, tlS_4, tlS_5, tlS_6, tlS_7, tlS_8, tlC_0, tlC_1, tlC_2, tlC_3, LawM, LakeM, WaysM, WorldM, SimM, List.set_cons_succ, List.set_cons_zero, List.append_nil, List.nil_append, List.cons_append, Option.toList, Nat.sub_zero]
                        refine v_iinc (pc := 885) (v := nI (i + 1)) dL_law_885 rfl (nI_1 _) (by show _ < 26; decide) rfl ?_
                        refine v_goto (pc := 888) (tgt := 330) dL_law_888 (by decide) ?_
                        refine v_room (ck' := ck + 20 * m) (sk' := sk + 120 * m) (by omega) (by omega) ?_
                        have k9 := ihK _ (lf_yes ⟨c453, c479, c862, Int32.not_le.mp c873⟩ (by rw [e4]; exact cN_nI (by omega)) hc4 hL)
                        refine v_sub ?_ k9
                        exact ⟨rfl, rfl, rfl, rfl, rfl, rfl, rfl, rfl, rfl, rfl, rfl, rfl, rfl, rfl, rfl, rfl, rfl, trivial⟩
                  · refine v_iload (pc := 846) dL_law_846 rfl ?_
                    refine v_if_ne (pc := 848) (tgt := 853) dL_law_848 (by decide) (fun c848 => ?_) (fun c848 => absurd c848 (by decide))
                    refine v_aloadR (pc := 853) dL_law_853 rfl ?_
                    refine v_iload (pc := 855) dL_law_855 rfl ?_
                    refine v_aaldS (pc := 857) 50 (k := i) (by decide) rfl (by omega) (by omega) dL_law_857 ?_
                    refine v_bipush (pc := 858) (v := 6) dL_law_858 rfl ?_
                    refine v_ialdGN (pc := 860) 51 (j := 6) rfl (by omega) (by decide) (by decide) dL_law_860 ?_
                    try dsimp only [wb, tlS_0, tlS_1, tlS_2, tlS_3, tlS_4, tlS_5, tlS_6, tlS_7, tlS_8, tlC_0, tlC_1, tlC_2, tlC_3, LawM, LakeM, WaysM, WorldM, SimM, List.set_cons_succ, List.set_cons_zero, List.append_nil, List.nil_append, List.cons_append, Option.toList, Nat.sub_zero]
                    refine v_iconst (pc := 861) (v := 1) dL_law_861 rfl ?_
                    refine v_icmp_gt (pc := 862) (tgt := 885) dL_law_862 (by decide) (fun c862 => ?_) (fun c862 => ?_)
                    · refine v_iinc (pc := 885) (v := nI (i + 1)) dL_law_885 rfl (nI_1 _) (by show _ < 26; decide) rfl ?_
                      refine v_goto (pc := 888) (tgt := 330) dL_law_888 (by decide) ?_
                      refine v_room (ck' := ck + 20 * m) (sk' := sk + 120 * m) (by omega) (by omega) ?_
                      have k9 := ihK _ (lf_no (fun q => q.2.2.1 c862) hL)
                      refine v_sub ?_ k9
                      exact ⟨rfl, rfl, rfl, rfl, rfl, rfl, rfl, rfl, rfl, rfl, rfl, rfl, rfl, rfl, rfl, rfl, rfl, trivial⟩
                    · refine v_aload_nR (pc := 865) dL_law_865 rfl rfl ?_
                      refine v_iload (pc := 866) dL_law_866 rfl ?_
                      refine v_bipush (pc := 868) (v := 6) dL_law_868 rfl ?_
                      refine v_callV2 (pc := 870) (c7_sleigh hps hsc hbc (s := i) (q := 6) hi (by decide)) cm_X5_sleigh q323 q324 q325 (ci := 5) rfl rfl (orcO 0 rfl) [0, 1, 2, 3, 4, 5, 6, 7, 8, 9, 10, 11, 12, 13, 14, 15, 16, 17] (by rfl) (by decide) (fun _ _ h => h) (by omega) (by omega) (by decide) (Nat.le_of_ble_eq_true rfl) dL_law_870 (fun v870 M870 hQ870 => ?_)
                      obtain ⟨rfl, rfl⟩ := hQ870
                      try dsimp only [wb, tlS_0, tlS_1, tlS_2, tlS_3, tlS_4, tlS_5, tlS_6, tlS_7, tlS_8, tlC_0, tlC_1, tlC_2, tlC_3, LawM, LakeM, WaysM, WorldM, SimM, List.set_cons_succ, List.set_cons_zero, List.append_nil, List.nil_append, List.cons_append, Option.toList, Nat.sub_zero]
                      refine v_if_le (pc := 873) (tgt := 885) dL_law_873 (by decide) (fun c873 => ?_) (fun c873 => ?_)
                      · refine v_iinc (pc := 885) (v := nI (i + 1)) dL_law_885 rfl (nI_1 _) (by show _ < 26; decide) rfl ?_
                        refine v_goto (pc := 888) (tgt := 330) dL_law_888 (by decide) ?_
                        refine v_room (ck' := ck + 20 * m) (sk' := sk + 120 * m) (by omega) (by omega) ?_
                        have k9 := ihK _ (lf_no (fun q => Int32.not_le.mpr q.2.2.2 c873) hL)
                        refine v_sub ?_ k9
                        exact ⟨rfl, rfl, rfl, rfl, rfl, rfl, rfl, rfl, rfl, rfl, rfl, rfl, rfl, rfl, rfl, rfl, rfl, trivial⟩
                      · refine v_aloadR (pc := 876) dL_law_876 rfl ?_
                        refine v_iload (pc := 878) dL_law_878 rfl ?_
                        refine v_dup2 (pc := 880) dL_law_880 rfl rfl ?_
                        refine v_ialdN (pc := 881) 54 (k := c4) rfl (by omega) (by omega) dL_law_881 ?_
                        refine v_iconst (pc := 882) (v := 1) dL_law_882 rfl ?_
                        refine v_iadd (pc := 883) dL_law_883 ?_
                        refine v_iastN (pc := 884) 54 (k := c4) rfl (by omega) (by omega) dL_law_884 ?_
                        try dsimp only [wb, tlS_0, tlS_1, tlS_2, tlS_3, tlS_4, tlS_5, tlS_6, tlS_7, tlS_8, tlC_0, tlC_1, tlC_2, tlC_3, LawM, LakeM, WaysM, WorldM, SimM, List.set_cons_succ, List.set_cons_zero, List.append_nil, List.nil_append, List.cons_append, Option.toList, Nat.sub_zero]
                        refine v_iinc (pc := 885) (v := nI (i + 1)) dL_law_885 rfl (nI_1 _) (by show _ < 26; decide) rfl ?_
                        refine v_goto (pc := 888) (tgt := 330) dL_law_888 (by decide) ?_
                        refine v_room (ck' := ck + 20 * m) (sk' := sk + 120 * m) (by omega) (by omega) ?_
                        have k9 := ihK _ (lf_yes ⟨c453, c479, c862, Int32.not_le.mp c873⟩ (by rw [e4]; exact cN_nI (by omega)) hc4 hL)
                        refine v_sub ?_ k9
                        exact ⟨rfl, rfl, rfl, rfl, rfl, rfl, rfl, rfl, rfl, rfl, rfl, rfl, rfl, rfl, rfl, rfl, rfl, trivial⟩
              · refine v_iload (pc := 825) dL_law_825 rfl ?_
                refine v_if_ne (pc := 827) (tgt := 851) dL_law_827 (by decide) (fun c827 => absurd (g4a c822) c827) (fun c827 => ?_)
                refine v_iload (pc := 830) dL_law_830 rfl ?_
                refine v_if_ne (pc := 832) (tgt := 853) dL_law_832 (by decide) (fun c832 => ?_) (fun c832 => ?_)
                · refine v_aloadR (pc := 853) dL_law_853 rfl ?_
                  refine v_iload (pc := 855) dL_law_855 rfl ?_
                  refine v_aaldS (pc := 857) 50 (k := i) (by decide) rfl (by omega) (by omega) dL_law_857 ?_
                  refine v_bipush (pc := 858) (v := 6) dL_law_858 rfl ?_
                  refine v_ialdGN (pc := 860) 51 (j := 6) rfl (by omega) (by decide) (by decide) dL_law_860 ?_
                  try dsimp only [wb, tlS_0, tlS_1, tlS_2, tlS_3, tlS_4, tlS_5, tlS_6, tlS_7, tlS_8, tlC_0, tlC_1, tlC_2, tlC_3, LawM, LakeM, WaysM, WorldM, SimM, List.set_cons_succ, List.set_cons_zero, List.append_nil, List.nil_append, List.cons_append, Option.toList, Nat.sub_zero]
                  refine v_iconst (pc := 861) (v := 1) dL_law_861 rfl ?_
                  refine v_icmp_gt (pc := 862) (tgt := 885) dL_law_862 (by decide) (fun c862 => ?_) (fun c862 => ?_)
                  · refine v_iinc (pc := 885) (v := nI (i + 1)) dL_law_885 rfl (nI_1 _) (by show _ < 26; decide) rfl ?_
                    refine v_goto (pc := 888) (tgt := 330) dL_law_888 (by decide) ?_
                    refine v_room (ck' := ck + 20 * m) (sk' := sk + 120 * m) (by omega) (by omega) ?_
                    have k9 := ihK _ (lf_no (fun q => q.2.2.1 c862) hL)
                    refine v_sub ?_ k9
                    exact ⟨rfl, rfl, rfl, rfl, rfl, rfl, rfl, rfl, rfl, rfl, rfl, rfl, rfl, rfl, rfl, rfl, rfl, trivial⟩
                  · refine v_aload_nR (pc := 865) dL_law_865 rfl rfl ?_
                    refine v_iload (pc := 866) dL_law_866 rfl ?_
                    refine v_bipush (pc := 868) (v := 6) dL_law_868 rfl ?_
                    refine v_callV2 (pc := 870) (c7_sleigh hps hsc hbc (s := i) (q := 6) hi (by decide)) cm_X5_sleigh q323 q324 q325 (ci := 5) rfl rfl (orcO 0 rfl) [0, 1, 2, 3, 4, 5, 6, 7, 8, 9, 10, 11, 12, 13, 14, 15, 16, 17] (by rfl) (by decide) (fun _ _ h => h) (by omega) (by omega) (by decide) (Nat.le_of_ble_eq_true rfl) dL_law_870 (fun v870 M870 hQ870 => ?_)
                    obtain ⟨rfl, rfl⟩ := hQ870
                    try dsimp only [wb, tlS_0, tlS_1, tlS_2, tlS_3, tlS_4, tlS_5, tlS_6, tlS_7, tlS_8, tlC_0, tlC_1, tlC_2, tlC_3, LawM, LakeM, WaysM, WorldM, SimM, List.set_cons_succ, List.set_cons_zero, List.append_nil, List.nil_append, List.cons_append, Option.toList, Nat.sub_zero]
                    refine v_if_le (pc := 873) (tgt := 885) dL_law_873 (by decide) (fun c873 => ?_) (fun c873 => ?_)
                    · refine v_iinc (pc := 885) (v := nI (i + 1)) dL_law_885 rfl (nI_1 _) (by show _ < 26; decide) rfl ?_
                      refine v_goto (pc := 888) (tgt := 330) dL_law_888 (by decide) ?_
                      refine v_room (ck' := ck + 20 * m) (sk' := sk + 120 * m) (by omega) (by omega) ?_
                      have k9 := ihK _ (lf_no (fun q => Int32.not_le.mpr q.2.2.2 c873) hL)
                      refine v_sub ?_ k9
                      exact ⟨rfl, rfl, rfl, rfl, rfl, rfl, rfl, rfl, rfl, rfl, rfl, rfl, rfl, rfl, rfl, rfl, rfl, trivial⟩
                    · refine v_aloadR (pc := 876) dL_law_876 rfl ?_
                      refine v_iload (pc := 878) dL_law_878 rfl ?_
                      refine v_dup2 (pc := 880) dL_law_880 rfl rfl ?_
                      refine v_ialdN (pc := 881) 54 (k := c4) rfl (by omega) (by omega) dL_law_881 ?_
                      refine v_iconst (pc := 882) (v := 1) dL_law_882 rfl ?_
                      refine v_iadd (pc := 883) dL_law_883 ?_
                      refine v_iastN (pc := 884) 54 (k := c4) rfl (by omega) (by omega) dL_law_884 ?_
                      try dsimp only [wb, tlS_0, tlS_1, tlS_2, tlS_3, tlS_4, tlS_5, tlS_6, tlS_7, tlS_8, tlC_0, tlC_1, tlC_2, tlC_3, LawM, LakeM, WaysM, WorldM, SimM, List.set_cons_succ, List.set_cons_zero, List.append_nil, List.nil_append, List.cons_append, Option.toList, Nat.sub_zero]
                      refine v_iinc (pc := 885) (v := nI (i + 1)) dL_law_885 rfl (nI_1 _) (by show _ < 26; decide) rfl ?_
                      refine v_goto (pc := 888) (tgt := 330) dL_law_888 (by decide) ?_
                      refine v_room (ck' := ck + 20 * m) (sk' := sk + 120 * m) (by omega) (by omega) ?_
                      have k9 := ihK _ (lf_yes ⟨c453, c479, c862, Int32.not_le.mp c873⟩ (by rw [e4]; exact cN_nI (by omega)) hc4 hL)
                      refine v_sub ?_ k9
                      exact ⟨rfl, rfl, rfl, rfl, rfl, rfl, rfl, rfl, rfl, rfl, rfl, rfl, rfl, rfl, rfl, rfl, rfl, trivial⟩
                · refine v_aloadR (pc := 835) dL_law_835 rfl ?_
                  refine v_iload (pc := 837) dL_law_837 rfl ?_
                  refine v_aaldS (pc := 839) 50 (k := i) (by decide) rfl (by omega) (by omega) dL_law_839 ?_
                  refine v_iconst (pc := 840) (v := 3) dL_law_840 rfl ?_
                  refine v_ialdGN (pc := 841) 51 (j := 3) rfl (by omega) (by decide) (by decide) dL_law_841 ?_
                  try dsimp only [wb, tlS_0, tlS_1, tlS_2, tlS_3, tlS_4, tlS_5, tlS_6, tlS_7, tlS_8, tlC_0, tlC_1, tlC_2, tlC_3, LawM, LakeM, WaysM, WorldM, SimM, List.set_cons_succ, List.set_cons_zero, List.append_nil, List.nil_append, List.cons_append, Option.toList, Nat.sub_zero]
                  refine v_iconst (pc := 842) (v := 1) dL_law_842 rfl ?_
                  refine v_icmp_ne (pc := 843) (tgt := 853) dL_law_843 (by decide) (fun c843 => ?_) (fun c843 => ?_)
                  · refine v_aloadR (pc := 853) dL_law_853 rfl ?_
                    refine v_iload (pc := 855) dL_law_855 rfl ?_
                    refine v_aaldS (pc := 857) 50 (k := i) (by decide) rfl (by omega) (by omega) dL_law_857 ?_
                    refine v_bipush (pc := 858) (v := 6) dL_law_858 rfl ?_
                    refine v_ialdGN (pc := 860) 51 (j := 6) rfl (by omega) (by decide) (by decide) dL_law_860 ?_
                    try dsimp only [wb, tlS_0, tlS_1, tlS_2, tlS_3, tlS_4, tlS_5, tlS_6, tlS_7, tlS_8, tlC_0, tlC_1, tlC_2, tlC_3, LawM, LakeM, WaysM, WorldM, SimM, List.set_cons_succ, List.set_cons_zero, List.append_nil, List.nil_append, List.cons_append, Option.toList, Nat.sub_zero]
                    refine v_iconst (pc := 861) (v := 1) dL_law_861 rfl ?_
                    refine v_icmp_gt (pc := 862) (tgt := 885) dL_law_862 (by decide) (fun c862 => ?_) (fun c862 => ?_)
                    · refine v_iinc (pc := 885) (v := nI (i + 1)) dL_law_885 rfl (nI_1 _) (by show _ < 26; decide) rfl ?_
                      refine v_goto (pc := 888) (tgt := 330) dL_law_888 (by decide) ?_
                      refine v_room (ck' := ck + 20 * m) (sk' := sk + 120 * m) (by omega) (by omega) ?_
                      have k9 := ihK _ (lf_no (fun q => q.2.2.1 c862) hL)
                      refine v_sub ?_ k9
                      exact ⟨rfl, rfl, rfl, rfl, rfl, rfl, rfl, rfl, rfl, rfl, rfl, rfl, rfl, rfl, rfl, rfl, rfl, trivial⟩
                    · refine v_aload_nR (pc := 865) dL_law_865 rfl rfl ?_
                      refine v_iload (pc := 866) dL_law_866 rfl ?_
                      refine v_bipush (pc := 868) (v := 6) dL_law_868 rfl ?_
                      refine v_callV2 (pc := 870) (c7_sleigh hps hsc hbc (s := i) (q := 6) hi (by decide)) cm_X5_sleigh q323 q324 q325 (ci := 5) rfl rfl (orcO 0 rfl) [0, 1, 2, 3, 4, 5, 6, 7, 8, 9, 10, 11, 12, 13, 14, 15, 16, 17] (by rfl) (by decide) (fun _ _ h => h) (by omega) (by omega) (by decide) (Nat.le_of_ble_eq_true rfl) dL_law_870 (fun v870 M870 hQ870 => ?_)
                      obtain ⟨rfl, rfl⟩ := hQ870
                      try dsimp only [wb, tlS_0, tlS_1, tlS_2, tlS_3, tlS_4, tlS_5, tlS_6, tlS_7, tlS_8, tlC_0, tlC_1, tlC_2, tlC_3, LawM, LakeM, WaysM, WorldM, SimM, List.set_cons_succ, List.set_cons_zero, List.append_nil, List.nil_append, List.cons_append, Option.toList, Nat.sub_zero]
                      refine v_if_le (pc := 873) (tgt := 885) dL_law_873 (by decide) (fun c873 => ?_) (fun c873 => ?_)
                      · refine v_iinc (pc := 885) (v := nI (i + 1)) dL_law_885 rfl (nI_1 _) (by show _ < 26; decide) rfl ?_
                        refine v_goto (pc := 888) (tgt := 330) dL_law_888 (by decide) ?_
                        refine v_room (ck' := ck + 20 * m) (sk' := sk + 120 * m) (by omega) (by omega) ?_
                        have k9 := ihK _ (lf_no (fun q => Int32.not_le.mpr q.2.2.2 c873) hL)
                        refine v_sub ?_ k9
                        exact ⟨rfl, rfl, rfl, rfl, rfl, rfl, rfl, rfl, rfl, rfl, rfl, rfl, rfl, rfl, rfl, rfl, rfl, trivial⟩
                      · refine v_aloadR (pc := 876) dL_law_876 rfl ?_
                        refine v_iload (pc := 878) dL_law_878 rfl ?_
                        refine v_dup2 (pc := 880) dL_law_880 rfl rfl ?_
                        refine v_ialdN (pc := 881) 54 (k := c4) rfl (by omega) (by omega) dL_law_881 ?_
                        refine v_iconst (pc := 882) (v := 1) dL_law_882 rfl ?_
                        refine v_iadd (pc := 883) dL_law_883 ?_
                        refine v_iastN (pc := 884) 54 (k := c4) rfl (by omega) (by omega) dL_law_884 ?_
                        try dsimp only [wb, tlS_0, tlS_1, tlS_2, tlS_3, tlS_4, tlS_5, tlS_6, tlS_7, tlS_8, tlC_0, tlC_1, tlC_2, tlC_3, LawM, LakeM, WaysM, WorldM, SimM, List.set_cons_succ, List.set_cons_zero, List.append_nil, List.nil_append, List.cons_append, Option.toList, Nat.sub_zero]
                        refine v_iinc (pc := 885) (v := nI (i + 1)) dL_law_885 rfl (nI_1 _) (by show _ < 26; decide) rfl ?_
                        refine v_goto (pc := 888) (tgt := 330) dL_law_888 (by decide) ?_
                        refine v_room (ck' := ck + 20 * m) (sk' := sk + 120 * m) (by omega) (by omega) ?_
                        have k9 := ihK _ (lf_yes ⟨c453, c479, c862, Int32.not_le.mp c873⟩ (by rw [e4]; exact cN_nI (by omega)) hc4 hL)
                        refine v_sub ?_ k9
                        exact ⟨rfl, rfl, rfl, rfl, rfl, rfl, rfl, rfl, rfl, rfl, rfl, rfl, rfl, rfl, rfl, rfl, rfl, trivial⟩
                  · refine v_iload (pc := 846) dL_law_846 rfl ?_
                    refine v_if_ne (pc := 848) (tgt := 853) dL_law_848 (by decide) (fun c848 => ?_) (fun c848 => absurd c848 (by decide))
                    refine v_aloadR (pc := 853) dL_law_853 rfl ?_
                    refine v_iload (pc := 855) dL_law_855 rfl ?_
                    refine v_aaldS (pc := 857) 50 (k := i) (by decide) rfl (by omega) (by omega) dL_law_857 ?_
                    refine v_bipush (pc := 858) (v := 6) dL_law_858 rfl ?_
                    refine v_ialdGN (pc := 860) 51 (j := 6) rfl (by omega) (by decide) (by decide) dL_law_860 ?_
                    try dsimp only [wb, tlS_0, tlS_1, tlS_2, tlS_3, tlS_4, tlS_5, tlS_6, tlS_7, tlS_8, tlC_0, tlC_1, tlC_2, tlC_3, LawM, LakeM, WaysM, WorldM, SimM, List.set_cons_succ, List.set_cons_zero, List.append_nil, List.nil_append, List.cons_append, Option.toList, Nat.sub_zero]
                    refine v_iconst (pc := 861) (v := 1) dL_law_861 rfl ?_
                    refine v_icmp_gt (pc := 862) (tgt := 885) dL_law_862 (by decide) (fun c862 => ?_) (fun c862 => ?_)
                    · refine v_iinc (pc := 885) (v := nI (i + 1)) dL_law_885 rfl (nI_1 _) (by show _ < 26; decide) rfl ?_
                      refine v_goto (pc := 888) (tgt := 330) dL_law_888 (by decide) ?_
                      refine v_room (ck' := ck + 20 * m) (sk' := sk + 120 * m) (by omega) (by omega) ?_
                      have k9 := ihK _ (lf_no (fun q => q.2.2.1 c862) hL)
                      refine v_sub ?_ k9
                      exact ⟨rfl, rfl, rfl, rfl, rfl, rfl, rfl, rfl, rfl, rfl, rfl, rfl, rfl, rfl, rfl, rfl, rfl, trivial⟩
                    · refine v_aload_nR (pc := 865) dL_law_865 rfl rfl ?_
                      refine v_iload (pc := 866) dL_law_866 rfl ?_
                      refine v_bipush (pc := 868) (v := 6) dL_law_868 rfl ?_
                      refine v_callV2 (pc := 870) (c7_sleigh hps hsc hbc (s := i) (q := 6) hi (by decide)) cm_X5_sleigh q323 q324 q325 (ci := 5) rfl rfl (orcO 0 rfl) [0, 1, 2, 3, 4, 5, 6, 7, 8, 9, 10, 11, 12, 13, 14, 15, 16, 17] (by rfl) (by decide) (fun _ _ h => h) (by omega) (by omega) (by decide) (Nat.le_of_ble_eq_true rfl) dL_law_870 (fun v870 M870 hQ870 => ?_)
                      obtain ⟨rfl, rfl⟩ := hQ870
                      try dsimp only [wb, tlS_0, tlS_1, tlS_2, tlS_3, tlS_4, tlS_5, tlS_6, tlS_7, tlS_8, tlC_0, tlC_1, tlC_2, tlC_3, LawM, LakeM, WaysM, WorldM, SimM, List.set_cons_succ, List.set_cons_zero, List.append_nil, List.nil_append, List.cons_append, Option.toList, Nat.sub_zero]
                      refine v_if_le (pc := 873) (tgt := 885) dL_law_873 (by decide) (fun c873 => ?_) (fun c873 => ?_)
                      · refine v_iinc (pc := 885) (v := nI (i + 1)) dL_law_885 rfl (nI_1 _) (by show _ < 26; decide) rfl ?_
                        refine v_goto (pc := 888) (tgt := 330) dL_law_888 (by decide) ?_
                        refine v_room (ck' := ck + 20 * m) (sk' := sk + 120 * m) (by omega) (by omega) ?_
                        have k9 := ihK _ (lf_no (fun q => Int32.not_le.mpr q.2.2.2 c873) hL)
                        refine v_sub ?_ k9
                        exact ⟨rfl, rfl, rfl, rfl, rfl, rfl, rfl, rfl, rfl, rfl, rfl, rfl, rfl, rfl, rfl, rfl, rfl, trivial⟩
                      · refine v_aloadR (pc := 876) dL_law_876 rfl ?_
                        refine v_iload (pc := 878) dL_law_878 rfl ?_
                        refine v_dup2 (pc := 880) dL_law_880 rfl rfl ?_
                        refine v_ialdN (pc := 881) 54 (k := c4) rfl (by omega) (by omega) dL_law_881 ?_
                        refine v_iconst (pc := 882) (v := 1) dL_law_882 rfl ?_
                        refine v_iadd (pc := 883) dL_law_883 ?_
                        refine v_iastN (pc := 884) 54 (k := c4) rfl (by omega) (by omega) dL_law_884 ?_
                        try dsimp only [wb, tlS_0, tlS_1, tlS_2, tlS_3, tlS_4, tlS_5, tlS_6, tlS_7, tlS_8, tlC_0, tlC_1, tlC_2, tlC_3, LawM, LakeM, WaysM, WorldM, SimM, List.set_cons_succ, List.set_cons_zero, List.append_nil, List.nil_append, List.cons_append, Option.toList, Nat.sub_zero]
                        refine v_iinc (pc := 885) (v := nI (i + 1)) dL_law_885 rfl (nI_1 _) (by show _ < 26; decide) rfl ?_
                        refine v_goto (pc := 888) (tgt := 330) dL_law_888 (by decide) ?_
                        refine v_room (ck' := ck + 20 * m) (sk' := sk + 120 * m) (by omega) (by omega) ?_
                        have k9 := ihK _ (lf_yes ⟨c453, c479, c862, Int32.not_le.mp c873⟩ (by rw [e4]; exact cN_nI (by omega)) hc4 hL)
                        refine v_sub ?_ k9
                        exact ⟨rfl, rfl, rfl, rfl, rfl, rfl, rfl, rfl, rfl, rfl, rfl, rfl, rfl, rfl, rfl, rfl, rfl, trivial⟩
            · obtain ⟨p5a, p5b⟩ := (hI.1.2.2.2.1.2.1 i hi).2.1 c795
              obtain ⟨p5q, hq5, e5⟩ := kOf p5a (by omega)
              have hPq : nI c4 = PC p5q := by rw [← e4, p5b, e5, cop_k hq5 hps]
              refine v_iload (pc := 798) dL_law_798 rfl ?_
              refine v_aload_nR (pc := 800) dL_law_800 rfl rfl ?_
              refine v_get (pc := 801) 6 35 fg_L_58 rfl rfl dL_law_801 ?_
              refine v_aload_nR (pc := 804) dL_law_804 rfl rfl ?_
              refine v_iload (pc := 805) dL_law_805 rfl ?_
              refine v_iconst (pc := 807) (v := 5) dL_law_807 rfl ?_
              refine v_callV2 (pc := 808) (c7_sleigh hps hsc hbc (s := i) (q := 5) hi (by decide)) cm_X5_sleigh q323 q324 q325 (ci := 5) rfl rfl (orcO 0 rfl) [0, 1, 2, 3, 4, 5, 6, 7, 8, 9, 10, 11, 12, 13, 14, 15, 16, 17] (by rfl) (by decide) (fun _ _ h => h) (by omega) (by omega) (by decide) (Nat.le_of_ble_eq_true rfl) dL_law_808 (fun v808 M808 hQ808 => ?_)
              obtain ⟨rfl, rfl⟩ := hQ808
              try dsimp only [wb, tlS_0, tlS_1, tlS_2, tlS_3, tlS_4, tlS_5, tlS_6, tlS_7, tlS_8, tlC_0, tlC_1, tlC_2, tlC_3, LawM, LakeM, WaysM, WorldM, SimM, List.set_cons_succ, List.set_cons_zero, List.append_nil, List.nil_append, List.cons_append, Option.toList, Nat.sub_zero]
              rw [e5]
              refine v_ialdN (pc := 811) 41 (k := p5q) rfl (by omega) (by omega) dL_law_811 ?_
              refine v_icmp_ne (pc := 812) (tgt := 851) dL_law_812 (by decide) (fun c812 => absurd hPq c812) (fun c812 => ?_)
              refine v_aloadR (pc := 815) dL_law_815 rfl ?_
              refine v_iload (pc := 817) dL_law_817 rfl ?_
              refine v_aaldS (pc := 819) 50 (k := i) (by decide) rfl (by omega) (by omega) dL_law_819 ?_
              refine v_iconst (pc := 820) (v := 3) dL_law_820 rfl ?_
              refine v_ialdGN (pc := 821) 51 (j := 3) rfl (by omega) (by decide) (by decide) dL_law_821 ?_
              try dsimp only [wb, tlS_0, tlS_1, tlS_2, tlS_3, tlS_4, tlS_5, tlS_6, tlS_7, tlS_8, tlC_0, tlC_1, tlC_2, tlC_3, LawM, LakeM, WaysM, WorldM, SimM, List.set_cons_succ, List.set_cons_zero, List.append_nil, List.nil_append, List.cons_append, Option.toList, Nat.sub_zero]
              refine v_if_ne (pc := 822) (tgt := 830) dL_law_822 (by decide) (fun c822 => ?_) (fun c822 => ?_)
              · refine v_iload (pc := 830) dL_law_830 rfl ?_
                refine v_if_ne (pc := 832) (tgt := 853) dL_law_832 (by decide) (fun c832 => ?_) (fun c832 => ?_)
                · refine v_aloadR (pc := 853) dL_law_853 rfl ?_
                  refine v_iload (pc := 855) dL_law_855 rfl ?_
                  refine v_aaldS (pc := 857) 50 (k := i) (by decide) rfl (by omega) (by omega) dL_law_857 ?_
                  refine v_bipush (pc := 858) (v := 6) dL_law_858 rfl ?_
                  refine v_ialdGN (pc := 860) 51 (j := 6) rfl (by omega) (by decide) (by decide) dL_law_860 ?_
                  try dsimp only [wb, tlS_0, tlS_1, tlS_2, tlS_3, tlS_4, tlS_5, tlS_6, tlS_7, tlS_8, tlC_0, tlC_1, tlC_2, tlC_3, LawM, LakeM, WaysM, WorldM, SimM, List.set_cons_succ, List.set_cons_zero, List.append_nil, List.nil_append, List.cons_append, Option.toList, Nat.sub_zero]
                  refine v_iconst (pc := 861) (v := 1) dL_law_861 rfl ?_
                  refine v_icmp_gt (pc := 862) (tgt := 885) dL_law_862 (by decide) (fun c862 => ?_) (fun c862 => ?_)
                  · refine v_iinc (pc := 885) (v := nI (i + 1)) dL_law_885 rfl (nI_1 _) (by show _ < 26; decide) rfl ?_
                    refine v_goto (pc := 888) (tgt := 330) dL_law_888 (by decide) ?_
                    refine v_room (ck' := ck + 20 * m) (sk' := sk + 120 * m) (by omega) (by omega) ?_
                    have k9 := ihK _ (lf_no (fun q => q.2.2.1 c862) hL)
                    refine v_sub ?_ k9
                    exact ⟨rfl, rfl, rfl, rfl, rfl, rfl, rfl, rfl, rfl, rfl, rfl, rfl, rfl, rfl, rfl, rfl, rfl, trivial⟩
                  · refine v_aload_nR (pc := 865) dL_law_865 rfl rfl ?_
                    refine v_iload (pc := 866) dL_law_866 rfl ?_
                    refine v_bipush (pc := 868) (v := 6) dL_law_868 rfl ?_
                    refine v_callV2 (pc := 870) (c7_sleigh hps hsc hbc (s := i) (q := 6) hi (by decide)) cm_X5_sleigh q323 q324 q325 (ci := 5) rfl rfl (orcO 0 rfl) [0, 1, 2, 3, 4, 5, 6, 7, 8, 9, 10, 11, 12, 13, 14, 15, 16, 17] (by rfl) (by decide) (fun _ _ h => h) (by omega) (by omega) (by decide) (Nat.le_of_ble_eq_true rfl) dL_law_870 (fun v870 M870 hQ870 => ?_)
                    obtain ⟨rfl, rfl⟩ := hQ870
                    try dsimp only [wb, tlS_0, tlS_1, tlS_2, tlS_3, tlS_4, tlS_5, tlS_6, tlS_7, tlS_8, tlC_0, tlC_1, tlC_2, tlC_3, LawM, LakeM, WaysM, WorldM, SimM, List.set_cons_succ, List.set_cons_zero, List.append_nil, List.nil_append, List.cons_append, Option.toList, Nat.sub_zero]
                    refine v_if_le (pc := 873) (tgt := 885) dL_law_873 (by decide) (fun c873 => ?_) (fun c873 => ?_)
                    · refine v_iinc (pc := 885) (v := nI (i + 1)) dL_law_885 rfl (nI_1 _) (by show _ < 26; decide) rfl ?_
                      refine v_goto (pc := 888) (tgt := 330) dL_law_888 (by decide) ?_
                      refine v_room (ck' := ck + 20 * m) (sk' := sk + 120 * m) (by omega) (by omega) ?_
                      have k9 := ihK _ (lf_no (fun q => Int32.not_le.mpr q.2.2.2 c873) hL)
                      refine v_sub ?_ k9
                      exact ⟨rfl, rfl, rfl, rfl, rfl, rfl, rfl, rfl, rfl, rfl, rfl, rfl, rfl, rfl, rfl, rfl, rfl, trivial⟩
                    · refine v_aloadR (pc := 876) dL_law_876 rfl ?_
                      refine v_iload (pc := 878) dL_law_878 rfl ?_
                      refine v_dup2 (pc := 880) dL_law_880 rfl rfl ?_
                      refine v_ialdN (pc := 881) 54 (k := c4) rfl (by omega) (by omega) dL_law_881 ?_
                      refine v_iconst (pc := 882) (v := 1) dL_law_882 rfl ?_
                      refine v_iadd (pc := 883) dL_law_883 ?_
                      refine v_iastN (pc := 884) 54 (k := c4) rfl (by omega) (by omega) dL_law_884 ?_
                      try dsimp only [wb, tlS_0, tlS_1, tlS_2, tlS_3, tlS_4, tlS_5, tlS_6, tlS_7, tlS_8, tlC_0, tlC_1, tlC_2, tlC_3, LawM, LakeM, WaysM, WorldM, SimM, List.set_cons_succ, List.set_cons_zero, List.append_nil, List.nil_append, List.cons_append, Option.toList, Nat.sub_zero]
                      refine v_iinc (pc := 885) (v := nI (i + 1)) dL_law_885 rfl (nI_1 _) (by show _ < 26; decide) rfl ?_
                      refine v_goto (pc := 888) (tgt := 330) dL_law_888 (by decide) ?_
                      refine v_room (ck' := ck + 20 * m) (sk' := sk + 120 * m) (by omega) (by omega) ?_
                      have k9 := ihK _ (lf_yes ⟨c453, c479, c862, Int32.not_le.mp c873⟩ (by rw [e4]; exact cN_nI (by omega)) hc4 hL)
                      refine v_sub ?_ k9
                      exact ⟨rfl, rfl, rfl, rfl, rfl, rfl, rfl, rfl, rfl, rfl, rfl, rfl, rfl, rfl, rfl, rfl, rfl, trivial⟩
                · refine v_aloadR (pc := 835) dL_law_835 rfl ?_
                  refine v_iload (pc := 837) dL_law_837 rfl ?_
                  refine v_aaldS (pc := 839) 50 (k := i) (by decide) rfl (by omega) (by omega) dL_law_839 ?_
                  refine v_iconst (pc := 840) (v := 3) dL_law_840 rfl ?_
                  refine v_ialdGN (pc := 841) 51 (j := 3) rfl (by omega) (by decide) (by decide) dL_law_841 ?_
                  try dsimp only [wb, tlS_0, tlS_1, tlS_2, tlS_3, tlS_4, tlS_5, tlS_6, tlS_7, tlS_8, tlC_0, tlC_1, tlC_2, tlC_3, LawM, LakeM, WaysM, WorldM, SimM, List.set_cons_succ, List.set_cons_zero, List.append_nil, List.nil_append, List.cons_append, Option.toList, Nat.sub_zero]
                  refine v_iconst (pc := 842) (v := 1) dL_law_842 rfl ?_
                  refine v_icmp_ne (pc := 843) (tgt := 853) dL_law_843 (by decide) (fun c843 => ?_) (fun c843 => ?_)
                  · refine v_aloadR (pc := 853) dL_law_853 rfl ?_
                    refine v_iload (pc := 855) dL_law_855 rfl ?_
                    refine v_aaldS (pc := 857) 50 (k := i) (by decide) rfl (by omega) (by omega) dL_law_857 ?_
                    refine v_bipush (pc := 858) (v := 6) dL_law_858 rfl ?_
                    refine v_ialdGN (pc := 860) 51 (j := 6) rfl (by omega) (by decide) (by decide) dL_law_860 ?_
                    try dsimp only [wb, tlS_0, tlS_1, tlS_2, tlS_3, tlS_4, tlS_5, tlS_6, tlS_7, tlS_8, tlC_0, tlC_1, tlC_2, tlC_3, LawM, LakeM, WaysM, WorldM, SimM, List.set_cons_succ, List.set_cons_zero, List.append_nil, List.nil_append, List.cons_append, Option.toList, Nat.sub_zero]
                    refine v_iconst (pc := 861) (v := 1) dL_law_861 rfl ?_
                    refine v_icmp_gt (pc := 862) (tgt := 885) dL_law_862 (by decide) (fun c862 => ?_) (fun c862 => ?_)
                    · refine v_iinc (pc := 885) (v := nI (i + 1)) dL_law_885 rfl (nI_1 _) (by show _ < 26; decide) rfl ?_
                      refine v_goto (pc := 888) (tgt := 330) dL_law_888 (by decide) ?_
                      refine v_room (ck' := ck + 20 * m) (sk' := sk + 120 * m) (by omega) (by omega) ?_
                      have k9 := ihK _ (lf_no (fun q => q.2.2.1 c862) hL)
                      refine v_sub ?_ k9
                      exact ⟨rfl, rfl, rfl, rfl, rfl, rfl, rfl, rfl, rfl, rfl, rfl, rfl, rfl, rfl, rfl, rfl, rfl, trivial⟩
                    · refine v_aload_nR (pc := 865) dL_law_865 rfl rfl ?_
                      refine v_iload (pc := 866) dL_law_866 rfl ?_
                      refine v_bipush (pc := 868) (v := 6) dL_law_868 rfl ?_
                      refine v_callV2 (pc := 870) (c7_sleigh hps hsc hbc (s := i) (q := 6) hi (by decide)) cm_X5_sleigh q323 q324 q325 (ci := 5) rfl rfl (orcO 0 rfl) [0, 1, 2, 3, 4, 5, 6, 7, 8, 9, 10, 11, 12, 13, 14, 15, 16, 17] (by rfl) (by decide) (fun _ _ h => h) (by omega) (by omega) (by decide) (Nat.le_of_ble_eq_true rfl) dL_law_870 (fun v870 M870 hQ870 => ?_)
                      obtain ⟨rfl, rfl⟩ := hQ870
                      try dsimp only [wb, tlS_0, tlS_1, tlS_2, tlS_3, tlS_4, tlS_5, tlS_6, tlS_7, tlS_8, tlC_0, tlC_1, tlC_2, tlC_3, LawM, LakeM, WaysM, WorldM, SimM, List.set_cons_succ, List.set_cons_zero, List.append_nil, List.nil_append, List.cons_append, Option.toList, Nat.sub_zero]
                      refine v_if_le (pc := 873) (tgt := 885) dL_law_873 (by decide) (fun c873 => ?_) (fun c873 => ?_)
                      · refine v_iinc (pc := 885) (v := nI (i + 1)) dL_law_885 rfl (nI_1 _) (by show _ < 26; decide) rfl ?_
                        refine v_goto (pc := 888) (tgt := 330) dL_law_888 (by decide) ?_
                        refine v_room (ck' := ck + 20 * m) (sk' := sk + 120 * m) (by omega) (by omega) ?_
                        have k9 := ihK _ (lf_no (fun q => Int32.not_le.mpr q.2.2.2 c873) hL)
                        refine v_sub ?_ k9
                        exact ⟨rfl, rfl, rfl, rfl, rfl, rfl, rfl, rfl, rfl, rfl, rfl, rfl, rfl, rfl, rfl, rfl, rfl, trivial⟩
                      · refine v_aloadR (pc := 876) dL_law_876 rfl ?_
                        refine v_iload (pc := 878) dL_law_878 rfl ?_
                        refine v_dup2 (pc := 880) dL_law_880 rfl rfl ?_
                        refine v_ialdN (pc := 881) 54 (k := c4) rfl (by omega) (by omega) dL_law_881 ?_
                        refine v_iconst (pc := 882) (v := 1) dL_law_882 rfl ?_
                        refine v_iadd (pc := 883) dL_law_883 ?_
                        refine v_iastN (pc := 884) 54 (k := c4) rfl (by omega) (by omega) dL_law_884 ?_
                        try dsimp only [wb, tlS_0, tlS_1, tlS_2, tlS_3, tlS_4, tlS_5, tlS_6, tlS_7, tlS_8, tlC_0, tlC_1, tlC_2, tlC_3, LawM, LakeM, WaysM, WorldM, SimM, List.set_cons_succ, List.set_cons_zero, List.append_nil, List.nil_append, List.cons_append, Option.toList, Nat.sub_zero]
                        refine v_iinc (pc := 885) (v := nI (i + 1)) dL_law_885 rfl (nI_1 _) (by show _ < 26; decide) rfl ?_
                        refine v_goto (pc := 888) (tgt := 330) dL_law_888 (by decide) ?_
                        refine v_room (ck' := ck + 20 * m) (sk' := sk + 120 * m) (by omega) (by omega) ?_
                        have k9 := ihK _ (lf_yes ⟨c453, c479, c862, Int32.not_le.mp c873⟩ (by rw [e4]; exact cN_nI (by omega)) hc4 hL)
                        refine v_sub ?_ k9
                        exact ⟨rfl, rfl, rfl, rfl, rfl, rfl, rfl, rfl, rfl, rfl, rfl, rfl, rfl, rfl, rfl, rfl, rfl, trivial⟩
                  · refine v_iload (pc := 846) dL_law_846 rfl ?_
                    refine v_if_ne (pc := 848) (tgt := 853) dL_law_848 (by decide) (fun c848 => ?_) (fun c848 => absurd c848 (by decide))
                    refine v_aloadR (pc := 853) dL_law_853 rfl ?_
                    refine v_iload (pc := 855) dL_law_855 rfl ?_
                    refine v_aaldS (pc := 857) 50 (k := i) (by decide) rfl (by omega) (by omega) dL_law_857 ?_
                    refine v_bipush (pc := 858) (v := 6) dL_law_858 rfl ?_
                    refine v_ialdGN (pc := 860) 51 (j := 6) rfl (by omega) (by decide) (by decide) dL_law_860 ?_
                    try dsimp only [wb, tlS_0, tlS_1, tlS_2, tlS_3, tlS_4, tlS_5, tlS_6, tlS_7, tlS_8, tlC_0, tlC_1, tlC_2, tlC_3, LawM, LakeM, WaysM, WorldM, SimM, List.set_cons_succ, List.set_cons_zero, List.append_nil, List.nil_append, List.cons_append, Option.toList, Nat.sub_zero]
                    refine v_iconst (pc := 861) (v := 1) dL_law_861 rfl ?_
                    refine v_icmp_gt (pc := 862) (tgt := 885) dL_law_862 (by decide) (fun c862 => ?_) (fun c862 => ?_)
                    · refine v_iinc (pc := 885) (v := nI (i + 1)) dL_law_885 rfl (nI_1 _) (by show _ < 26; decide) rfl ?_
                      refine v_goto (pc := 888) (tgt := 330) dL_law_888 (by decide) ?_
                      refine v_room (ck' := ck + 20 * m) (sk' := sk + 120 * m) (by omega) (by omega) ?_
                      have k9 := ihK _ (lf_no (fun q => q.2.2.1 c862) hL)
                      refine v_sub ?_ k9
                      exact ⟨rfl, rfl, rfl, rfl, rfl, rfl, rfl, rfl, rfl, rfl, rfl, rfl, rfl, rfl, rfl, rfl, rfl, trivial⟩
                    · refine v_aload_nR (pc := 865) dL_law_865 rfl rfl ?_
                      refine v_iload (pc := 866) dL_law_866 rfl ?_
                      refine v_bipush (pc := 868) (v := 6) dL_law_868 rfl ?_
                      refine v_callV2 (pc := 870) (c7_sleigh hps hsc hbc (s := i) (q := 6) hi (by decide)) cm_X5_sleigh q323 q324 q325 (ci := 5) rfl rfl (orcO 0 rfl) [0, 1, 2, 3, 4, 5, 6, 7, 8, 9, 10, 11, 12, 13, 14, 15, 16, 17] (by rfl) (by decide) (fun _ _ h => h) (by omega) (by omega) (by decide) (Nat.le_of_ble_eq_true rfl) dL_law_870 (fun v870 M870 hQ870 => ?_)
                      obtain ⟨rfl, rfl⟩ := hQ870
                      try dsimp only [wb, tlS_0, tlS_1, tlS_2, tlS_3, tlS_4, tlS_5, tlS_6, tlS_7, tlS_8, tlC_0, tlC_1, tlC_2, tlC_3, LawM, LakeM, WaysM, WorldM, SimM, List.set_cons_succ, List.set_cons_zero, List.append_nil, List.nil_append, List.cons_append, Option.toList, Nat.sub_zero]
                      refine v_if_le (pc := 873) (tgt := 885) dL_law_873 (by decide) (fun c873 => ?_) (fun c873 => ?_)
                      · refine v_iinc (pc := 885) (v := nI (i + 1)) dL_law_885 rfl (nI_1 _) (by show _ < 26; decide) rfl ?_
                        refine v_goto (pc := 888) (tgt := 330) dL_law_888 (by decide) ?_
                        refine v_room (ck' := ck + 20 * m) (sk' := sk + 120 * m) (by omega) (by omega) ?_
                        have k9 := ihK _ (lf_no (fun q => Int32.not_le.mpr q.2.2.2 c873) hL)
                        refine v_sub ?_ k9
                        exact ⟨rfl, rfl, rfl, rfl, rfl, rfl, rfl, rfl, rfl, rfl, rfl, rfl, rfl, rfl, rfl, rfl, rfl, trivial⟩
                      · refine v_aloadR (pc := 876) dL_law_876 rfl ?_
                        refine v_iload (pc := 878) dL_law_878 rfl ?_
                        refine v_dup2 (pc := 880) dL_law_880 rfl rfl ?_
                        refine v_ialdN (pc := 881) 54 (k := c4) rfl (by omega) (by omega) dL_law_881 ?_
                        refine v_iconst (pc := 882) (v := 1) dL_law_882 rfl ?_
                        refine v_iadd (pc := 883) dL_law_883 ?_
                        refine v_iastN (pc := 884) 54 (k := c4) rfl (by omega) (by omega) dL_law_884 ?_
                        try dsimp only [wb, tlS_0, tlS_1, tlS_2, tlS_3, tlS_4, tlS_5, tlS_6, tlS_7, tlS_8, tlC_0, tlC_1, tlC_2, tlC_3, LawM, LakeM, WaysM, WorldM, SimM, List.set_cons_succ, List.set_cons_zero, List.append_nil, List.nil_append, List.cons_append, Option.toList, Nat.sub_zero]
                        refine v_iinc (pc := 885) (v := nI (i + 1)) dL_law_885 rfl (nI_1 _) (by show _ < 26; decide) rfl ?_
                        refine v_goto (pc := 888) (tgt := 330) dL_law_888 (by decide) ?_
                        refine v_room (ck' := ck + 20 * m) (sk' := sk + 120 * m) (by omega) (by omega) ?_
                        have k9 := ihK _ (lf_yes ⟨c453, c479, c862, Int32.not_le.mp c873⟩ (by rw [e4]; exact cN_nI (by omega)) hc4 hL)
                        refine v_sub ?_ k9
                        exact ⟨rfl, rfl, rfl, rfl, rfl, rfl, rfl, rfl, rfl, rfl, rfl, rfl, rfl, rfl, rfl, rfl, rfl, trivial⟩
              · refine v_iload (pc := 825) dL_law_825 rfl ?_
                refine v_if_ne (pc := 827) (tgt := 851) dL_law_827 (by decide) (fun c827 => absurd (g4a c822) c827) (fun c827 => ?_)
                refine v_iload (pc := 830) dL_law_830 rfl ?_
                refine v_if_ne (pc := 832) (tgt := 853) dL_law_832 (by decide) (fun c832 => ?_) (fun c832 => ?_)
                · refine v_aloadR (pc := 853) dL_law_853 rfl ?_
                  refine v_iload (pc := 855) dL_law_855 rfl ?_
                  refine v_aaldS (pc := 857) 50 (k := i) (by decide) rfl (by omega) (by omega) dL_law_857 ?_
                  refine v_bipush (pc := 858) (v := 6) dL_law_858 rfl ?_
                  refine v_ialdGN (pc := 860) 51 (j := 6) rfl (by omega) (by decide) (by decide) dL_law_860 ?_
                  try dsimp only [wb, tlS_0, tlS_1, tlS_2, tlS_3, tlS_4, tlS_5, tlS_6, tlS_7, tlS_8, tlC_0, tlC_1, tlC_2, tlC_3, LawM, LakeM, WaysM, WorldM, SimM, List.set_cons_succ, List.set_cons_zero, List.append_nil, List.nil_append, List.cons_append, Option.toList, Nat.sub_zero]
                  refine v_iconst (pc := 861) (v := 1) dL_law_861 rfl ?_
                  refine v_icmp_gt (pc := 862) (tgt := 885) dL_law_862 (by decide) (fun c862 => ?_) (fun c862 => ?_)
                  · refine v_iinc (pc := 885) (v := nI (i + 1)) dL_law_885 rfl (nI_1 _) (by show _ < 26; decide) rfl ?_
                    refine v_goto (pc := 888) (tgt := 330) dL_law_888 (by decide) ?_
                    refine v_room (ck' := ck + 20 * m) (sk' := sk + 120 * m) (by omega) (by omega) ?_
                    have k9 := ihK _ (lf_no (fun q => q.2.2.1 c862) hL)
                    refine v_sub ?_ k9
                    exact ⟨rfl, rfl, rfl, rfl, rfl, rfl, rfl, rfl, rfl, rfl, rfl, rfl, rfl, rfl, rfl, rfl, rfl, trivial⟩
                  · refine v_aload_nR (pc := 865) dL_law_865 rfl rfl ?_
                    refine v_iload (pc := 866) dL_law_866 rfl ?_
                    refine v_bipush (pc := 868) (v := 6) dL_law_868 rfl ?_
                    refine v_callV2 (pc := 870) (c7_sleigh hps hsc hbc (s := i) (q := 6) hi (by decide)) cm_X5_sleigh q323 q324 q325 (ci := 5) rfl rfl (orcO 0 rfl) [0, 1, 2, 3, 4, 5, 6, 7, 8, 9, 10, 11, 12, 13, 14, 15, 16, 17] (by rfl) (by decide) (fun _ _ h => h) (by omega) (by omega) (by decide) (Nat.le_of_ble_eq_true rfl) dL_law_870 (fun v870 M870 hQ870 => ?_)
                    obtain ⟨rfl, rfl⟩ := hQ870
                    try dsimp only [wb, tlS_0, tlS_1, tlS_2, tlS_3, tlS_4, tlS_5, tlS_6, tlS_7, tlS_8, tlC_0, tlC_1, tlC_2, tlC_3, LawM, LakeM, WaysM, WorldM, SimM, List.set_cons_succ, List.set_cons_zero, List.append_nil, List.nil_append, List.cons_append, Option.toList, Nat.sub_zero]
                    refine v_if_le (pc := 873) (tgt := 885) dL_law_873 (by decide) (fun c873 => ?_) (fun c873 => ?_)
                    · refine v_iinc (pc := 885) (v := nI (i + 1)) dL_law_885 rfl (nI_1 _) (by show _ < 26; decide) rfl ?_
                      refine v_goto (pc := 888) (tgt := 330) dL_law_888 (by decide) ?_
                      refine v_room (ck' := ck + 20 * m) (sk' := sk + 120 * m) (by omega) (by omega) ?_
                      have k9 := ihK _ (lf_no (fun q => Int32.not_le.mpr q.2.2.2 c873) hL)
                      refine v_sub ?_ k9
                      exact ⟨rfl, rfl, rfl, rfl, rfl, rfl, rfl, rfl, rfl, rfl, rfl, rfl, rfl, rfl, rfl, rfl, rfl, trivial⟩
                    · refine v_aloadR (pc := 876) dL_law_876 rfl ?_
                      refine v_iload (pc := 878) dL_law_878 rfl ?_
                      refine v_dup2 (pc := 880) dL_law_880 rfl rfl ?_
                      refine v_ialdN (pc := 881) 54 (k := c4) rfl (by omega) (by omega) dL_law_881 ?_
                      refine v_iconst (pc := 882) (v := 1) dL_law_882 rfl ?_
                      refine v_iadd (pc := 883) dL_law_883 ?_
                      refine v_iastN (pc := 884) 54 (k := c4) rfl (by omega) (by omega) dL_law_884 ?_
                      try dsimp only [wb, tlS_0, tlS_1, tlS_2, tlS_3, tlS_4, tlS_5, tlS_6, tlS_7, tlS_8, tlC_0, tlC_1, tlC_2, tlC_3, LawM, LakeM, WaysM, WorldM, SimM, List.set_cons_succ, List.set_cons_zero, List.append_nil, List.nil_append, List.cons_append, Option.toList, Nat.sub_zero]
                      refine v_iinc (pc := 885) (v := nI (i + 1)) dL_law_885 rfl (nI_1 _) (by show _ < 26; decide) rfl ?_
                      refine v_goto (pc := 888) (tgt := 330) dL_law_888 (by decide) ?_
                      refine v_room (ck' := ck + 20 * m) (sk' := sk + 120 * m) (by omega) (by omega) ?_
                      have k9 := ihK _ (lf_yes ⟨c453, c479, c862, Int32.not_le.mp c873⟩ (by rw [e4]; exact cN_nI (by omega)) hc4 hL)
                      refine v_sub ?_ k9
                      exact ⟨rfl, rfl, rfl, rfl, rfl, rfl, rfl, rfl, rfl, rfl, rfl, rfl, rfl, rfl, rfl, rfl, rfl, trivial⟩
                · refine v_aloadR (pc := 835) dL_law_835 rfl ?_
                  refine v_iload (pc := 837) dL_law_837 rfl ?_
                  refine v_aaldS (pc := 839) 50 (k := i) (by decide) rfl (by omega) (by omega) dL_law_839 ?_
                  refine v_iconst (pc := 840) (v := 3) dL_law_840 rfl ?_
                  refine v_ialdGN (pc := 841) 51 (j := 3) rfl (by omega) (by decide) (by decide) dL_law_841 ?_
                  try dsimp only [wb, tlS_0, tlS_1, tlS_2, tlS_3, tlS_4, tlS_5, tlS_6, tlS_7, tlS_8, tlC_0, tlC_1, tlC_2, tlC_3, LawM, LakeM, WaysM, WorldM, SimM, List.set_cons_succ, List.set_cons_zero, List.append_nil, List.nil_append, List.cons_append, Option.toList, Nat.sub_zero]
                  refine v_iconst (pc := 842) (v := 1) dL_law_842 rfl ?_
                  refine v_icmp_ne (pc := 843) (tgt := 853) dL_law_843 (by decide) (fun c843 => ?_) (fun c843 => ?_)
                  · refine v_aloadR (pc := 853) dL_law_853 rfl ?_
                    refine v_iload (pc := 855) dL_law_855 rfl ?_
                    refine v_aaldS (pc := 857) 50 (k := i) (by decide) rfl (by omega) (by omega) dL_law_857 ?_
                    refine v_bipush (pc := 858) (v := 6) dL_law_858 rfl ?_
                    refine v_ialdGN (pc := 860) 51 (j := 6) rfl (by omega) (by decide) (by decide) dL_law_860 ?_
                    try dsimp only [wb, tlS_0, tlS_1, tlS_2, tlS_3, tlS_4, tlS_5, tlS_6, tlS_7, tlS_8, tlC_0, tlC_1, tlC_2, tlC_3, LawM, LakeM, WaysM, WorldM, SimM, List.set_cons_succ, List.set_cons_zero, List.append_nil, List.nil_append, List.cons_append, Option.toList, Nat.sub_zero]
                    refine v_iconst (pc := 861) (v := 1) dL_law_861 rfl ?_
                    refine v_icmp_gt (pc := 862) (tgt := 885) dL_law_862 (by decide) (fun c862 => ?_) (fun c862 => ?_)
                    · refine v_iinc (pc := 885) (v := nI (i + 1)) dL_law_885 rfl (nI_1 _) (by show _ < 26; decide) rfl ?_
                      refine v_goto (pc := 888) (tgt := 330) dL_law_888 (by decide) ?_
                      refine v_room (ck' := ck + 20 * m) (sk' := sk + 120 * m) (by omega) (by omega) ?_
                      have k9 := ihK _ (lf_no (fun q => q.2.2.1 c862) hL)
                      refine v_sub ?_ k9
                      exact ⟨rfl, rfl, rfl, rfl, rfl, rfl, rfl, rfl, rfl, rfl, rfl, rfl, rfl, rfl, rfl, rfl, rfl, trivial⟩
                    · refine v_aload_nR (pc := 865) dL_law_865 rfl rfl ?_
                      refine v_iload (pc := 866) dL_law_866 rfl ?_
                      refine v_bipush (pc := 868) (v := 6) dL_law_868 rfl ?_
                      refine v_callV2 (pc := 870) (c7_sleigh hps hsc hbc (s := i) (q := 6) hi (by decide)) cm_X5_sleigh q323 q324 q325 (ci := 5) rfl rfl (orcO 0 rfl) [0, 1, 2, 3, 4, 5, 6, 7, 8, 9, 10, 11, 12, 13, 14, 15, 16, 17] (by rfl) (by decide) (fun _ _ h => h) (by omega) (by omega) (by decide) (Nat.le_of_ble_eq_true rfl) dL_law_870 (fun v870 M870 hQ870 => ?_)
                      obtain ⟨rfl, rfl⟩ := hQ870
                      try dsimp only [wb, tlS_0, tlS_1, tlS_2, tlS_3, tlS_4, tlS_5, tlS_6, tlS_7, tlS_8, tlC_0, tlC_1, tlC_2, tlC_3, LawM, LakeM, WaysM, WorldM, SimM, List.set_cons_succ, List.set_cons_zero, List.append_nil, List.nil_append, List.cons_append, Option.toList, Nat.sub_zero]
                      refine v_if_le (pc := 873) (tgt := 885) dL_law_873 (by decide) (fun c873 => ?_) (fun c873 => ?_)
                      · refine v_iinc (pc := 885) (v := nI (i + 1)) dL_law_885 rfl (nI_1 _) (by show _ < 26; decide) rfl ?_
                        refine v_goto (pc := 888) (tgt := 330) dL_law_888 (by decide) ?_
                        refine v_room (ck' := ck + 20 * m) (sk' := sk + 120 * m) (by omega) (by omega) ?_
                        have k9 := ihK _ (lf_no (fun q => Int32.not_le.mpr q.2.2.2 c873) hL)
                        refine v_sub ?_ k9
                        exact ⟨rfl, rfl, rfl, rfl, rfl, rfl, rfl, rfl, rfl, rfl, rfl, rfl, rfl, rfl, rfl, rfl, rfl, trivial⟩
                      · refine v_aloadR (pc := 876) dL_law_876 rfl ?_
                        refine v_iload (pc := 878) dL_law_878 rfl ?_
                        refine v_dup2 (pc := 880) dL_law_880 rfl rfl ?_
                        refine v_ialdN (pc := 881) 54 (k := c4) rfl (by omega) (by omega) dL_law_881 ?_
                        refine v_iconst (pc := 882) (v := 1) dL_law_882 rfl ?_
                        refine v_iadd (pc := 883) dL_law_883 ?_
                        refine v_iastN (pc := 884) 54 (k := c4) rfl (by omega) (by omega) dL_law_884 ?_
                        try dsimp only [wb, tlS_0, tlS_1, tlS_2, tlS_3, tlS_4, tlS_5, tlS_6, tlS_7, tlS_8, tlC_0, tlC_1, tlC_2, tlC_3, LawM, LakeM, WaysM, WorldM, SimM, List.set_cons_succ, List.set_cons_zero, List.append_nil, List.nil_append, List.cons_append, Option.toList, Nat.sub_zero]
                        refine v_iinc (pc := 885) (v := nI (i + 1)) dL_law_885 rfl (nI_1 _) (by show _ < 26; decide) rfl ?_
                        refine v_goto (pc := 888) (tgt := 330) dL_law_888 (by decide) ?_
                        refine v_room (ck' := ck + 20 * m) (sk' := sk + 120 * m) (by omega) (by omega) ?_
                        have k9 := ihK _ (lf_yes ⟨c453, c479, c862, Int32.not_le.mp c873⟩ (by rw [e4]; exact cN_nI (by omega)) hc4 hL)
                        refine v_sub ?_ k9
                        exact ⟨rfl, rfl, rfl, rfl, rfl, rfl, rfl, rfl, rfl, rfl, rfl, rfl, rfl, rfl, rfl, rfl, rfl, trivial⟩
                  · refine v_iload (pc := 846) dL_law_846 rfl ?_
                    refine v_if_ne (pc := 848) (tgt := 853) dL_law_848 (by decide) (fun c848 => ?_) (fun c848 => absurd c848 (by decide))
                    refine v_aloadR (pc := 853) dL_law_853 rfl ?_
                    refine v_iload (pc := 855) dL_law_855 rfl ?_
                    refine v_aaldS (pc := 857) 50 (k := i) (by decide) rfl (by omega) (by omega) dL_law_857 ?_
                    refine v_bipush (pc := 858) (v := 6) dL_law_858 rfl ?_
                    refine v_ialdGN (pc := 860) 51 (j := 6) rfl (by omega) (by decide) (by decide) dL_law_860 ?_
                    try dsimp only [wb, tlS_0, tlS_1, tlS_2, tlS_3, tlS_4, tlS_5, tlS_6, tlS_7, tlS_8, tlC_0, tlC_1, tlC_2, tlC_3, LawM, LakeM, WaysM, WorldM, SimM, List.set_cons_succ, List.set_cons_zero, List.append_nil, List.nil_append, List.cons_append, Option.toList, Nat.sub_zero]
                    refine v_iconst (pc := 861) (v := 1) dL_law_861 rfl ?_
                    refine v_icmp_gt (pc := 862) (tgt := 885) dL_law_862 (by decide) (fun c862 => ?_) (fun c862 => ?_)
                    · refine v_iinc (pc := 885) (v := nI (i + 1)) dL_law_885 rfl (nI_1 _) (by show _ < 26; decide) rfl ?_
                      refine v_goto (pc := 888) (tgt := 330) dL_law_888 (by decide) ?_
                      refine v_room (ck' := ck + 20 * m) (sk' := sk + 120 * m) (by omega) (by omega) ?_
                      have k9 := ihK _ (lf_no (fun q => q.2.2.1 c862) hL)
                      refine v_sub ?_ k9
                      exact ⟨rfl, rfl, rfl, rfl, rfl, rfl, rfl, rfl, rfl, rfl, rfl, rfl, rfl, rfl, rfl, rfl, rfl, trivial⟩
                    · refine v_aload_nR (pc := 865) dL_law_865 rfl rfl ?_
                      refine v_iload (pc := 866) dL_law_866 rfl ?_
                      refine v_bipush (pc := 868) (v := 6) dL_law_868 rfl ?_
                      refine v_callV2 (pc := 870) (c7_sleigh hps hsc hbc (s := i) (q := 6) hi (by decide)) cm_X5_sleigh q323 q324 q325 (ci := 5) rfl rfl (orcO 0 rfl) [0, 1, 2, 3, 4, 5, 6, 7, 8, 9, 10, 11, 12, 13, 14, 15, 16, 17] (by rfl) (by decide) (fun _ _ h => h) (by omega) (by omega) (by decide) (Nat.le_of_ble_eq_true rfl) dL_law_870 (fun v870 M870 hQ870 => ?_)
                      obtain ⟨rfl, rfl⟩ := hQ870
                      try dsimp only [wb, tlS_0, tlS_1, tlS_2, tlS_3, tlS_4, tlS_5, tlS_6, tlS_7, tlS_8, tlC_0, tlC_1, tlC_2, tlC_3, LawM, LakeM, WaysM, WorldM, SimM, List.set_cons_succ, List.set_cons_zero, List.append_nil, List.nil_append, List.cons_append, Option.toList, Nat.sub_zero]
                      refine v_if_le (pc := 873) (tgt := 885) dL_law_873 (by decide) (fun c873 => ?_) (fun c873 => ?_)
                      · refine v_iinc (pc := 885) (v := nI (i + 1)) dL_law_885 rfl (nI_1 _) (by show _ < 26; decide) rfl ?_
                        refine v_goto (pc := 888) (tgt := 330) dL_law_888 (by decide) ?_
                        refine v_room (ck' := ck + 20 * m) (sk' := sk + 120 * m) (by omega) (by omega) ?_
                        have k9 := ihK _ (lf_no (fun q => Int32.not_le.mpr q.2.2.2 c873) hL)
                        refine v_sub ?_ k9
                        exact ⟨rfl, rfl, rfl, rfl, rfl, rfl, rfl, rfl, rfl, rfl, rfl, rfl, rfl, rfl, rfl, rfl, rfl, trivial⟩
                      · refine v_aloadR (pc := 876) dL_law_876 rfl ?_
                        refine v_iload (pc := 878) dL_law_878 rfl ?_
                        refine v_dup2 (pc := 880) dL_law_880 rfl rfl ?_
                        refine v_ialdN (pc := 881) 54 (k := c4) rfl (by omega) (by omega) dL_law_881 ?_
                        refine v_iconst (pc := 882) (v := 1) dL_law_882 rfl ?_
                        refine v_iadd (pc := 883) dL_law_883 ?_
                        refine v_iastN (pc := 884) 54 (k := c4) rfl (by omega) (by omega) dL_law_884 ?_
                        try dsimp only [wb, tlS_0, tlS_1, tlS_2, tlS_3, tlS_4, tlS_5, tlS_6, tlS_7, tlS_8, tlC_0, tlC_1, tlC_2, tlC_3, LawM, LakeM, WaysM, WorldM, SimM, List.set_cons_succ, List.set_cons_zero, List.append_nil, List.nil_append, List.cons_append, Option.toList, Nat.sub_zero]
                        refine v_iinc (pc := 885) (v := nI (i + 1)) dL_law_885 rfl (nI_1 _) (by show _ < 26; decide) rfl ?_
                        refine v_goto (pc := 888) (tgt := 330) dL_law_888 (by decide) ?_
                        refine v_room (ck' := ck + 20 * m) (sk' := sk + 120 * m) (by omega) (by omega) ?_
                        have k9 := ihK _ (lf_yes ⟨c453, c479, c862, Int32.not_le.mp c873⟩ (by rw [e4]; exact cN_nI (by omega)) hc4 hL)
                        refine v_sub ?_ k9
                        exact ⟨rfl, rfl, rfl, rfl, rfl, rfl, rfl, rfl, rfl, rfl, rfl, rfl, rfl, rfl, rfl, rfl, rfl, trivial⟩
          · refine v_aload_nR (pc := 764) dL_law_764 rfl rfl ?_
            refine v_iload (pc := 765) dL_law_765 rfl ?_
            refine v_bipush (pc := 767) (v := 6) dL_law_767 rfl ?_
            refine v_callV2 (pc := 769) (c7_sleigh hps hsc hbc (s := i) (q := 6) hi (by decide)) cm_X5_sleigh q323 q324 q325 (ci := 5) rfl rfl (orcO 0 rfl) [0, 1, 2, 3, 4, 5, 6, 7, 8, 9, 10, 11, 12, 13, 14, 15, 16, 17] (by rfl) (by decide) (fun _ _ h => h) (by omega) (by omega) (by decide) (Nat.le_of_ble_eq_true rfl) dL_law_769 (fun v769 M769 hQ769 => ?_)
            obtain ⟨rfl, rfl⟩ := hQ769
            try dsimp only [wb, tlS_0, tlS_1, tlS_2, tlS_3, tlS_4, tlS_5, tlS_6, tlS_7, tlS_8, tlC_0, tlC_1, tlC_2, tlC_3, LawM, LakeM, WaysM, WorldM, SimM, List.set_cons_succ, List.set_cons_zero, List.append_nil, List.nil_append, List.cons_append, Option.toList, Nat.sub_zero]
            refine v_aloadR (pc := 772) dL_law_772 rfl ?_
            refine v_iload (pc := 774) dL_law_774 rfl ?_
            refine v_aaldS (pc := 776) 50 (k := i) (by decide) rfl (by omega) (by omega) dL_law_776 ?_
            refine v_bipush (pc := 777) (v := 6) dL_law_777 rfl ?_
            refine v_ialdGN (pc := 779) 51 (j := 6) rfl (by omega) (by decide) (by decide) dL_law_779 ?_
            try dsimp only [wb, tlS_0, tlS_1, tlS_2, tlS_3, tlS_4, tlS_5, tlS_6, tlS_7, tlS_8, tlC_0, tlC_1, tlC_2, tlC_3, LawM, LakeM, WaysM, WorldM, SimM, List.set_cons_succ, List.set_cons_zero, List.append_nil, List.nil_append, List.cons_append, Option.toList, Nat.sub_zero]
            refine v_iconst (pc := 780) (v := 1) dL_law_780 rfl ?_
            refine v_isub (pc := 781) dL_law_781 ?_
            refine v_icmp_ne (pc := 782) (tgt := 791) dL_law_782 (by decide) (fun c782 => absurd (g3a (Int32.not_le.mp c761)).1 c782) (fun c782 => ?_)
            refine v_iload (pc := 785) dL_law_785 rfl ?_
            refine v_iconst (pc := 787) (v := 1) dL_law_787 rfl ?_
            refine v_icmp_eq (pc := 788) (tgt := 793) dL_law_788 (by decide) (fun c788 => ?_) (fun c788 => absurd (g3a (Int32.not_le.mp c761)).2 c788)
            refine v_iload (pc := 793) dL_law_793 rfl ?_
            refine v_if_ne (pc := 795) (tgt := 815) dL_law_795 (by decide) (fun c795 => ?_) (fun c795 => ?_)
            · refine v_aloadR (pc := 815) dL_law_815 rfl ?_
              refine v_iload (pc := 817) dL_law_817 rfl ?_
              refine v_aaldS (pc := 819) 50 (k := i) (by decide) rfl (by omega) (by omega) dL_law_819 ?_
              refine v_iconst (pc := 820) (v := 3) dL_law_820 rfl ?_
              refine v_ialdGN (pc := 821) 51 (j := 3) rfl (by omega) (by decide) (by decide) dL_law_821 ?_
              try dsimp only [wb, tlS_0, tlS_1, tlS_2, tlS_3, tlS_4, tlS_5, tlS_6, tlS_7, tlS_8, tlC_0, tlC_1, tlC_2, tlC_3, LawM, LakeM, WaysM, WorldM, SimM, List.set_cons_succ, List.set_cons_zero, List.append_nil, List.nil_append, List.cons_append, Option.toList, Nat.sub_zero]
              refine v_if_ne (pc := 822) (tgt := 830) dL_law_822 (by decide) (fun c822 => ?_) (fun c822 => ?_)
              · refine v_iload (pc := 830) dL_law_830 rfl ?_
                refine v_if_ne (pc := 832) (tgt := 853) dL_law_832 (by decide) (fun c832 => ?_) (fun c832 => ?_)
                · refine v_aloadR (pc := 853) dL_law_853 rfl ?_
                  refine v_iload (pc := 855) dL_law_855 rfl ?_
                  refine v_aaldS (pc := 857) 50 (k := i) (by decide) rfl (by omega) (by omega) dL_law_857 ?_
                  refine v_bipush (pc := 858) (v := 6) dL_law_858 rfl ?_
                  refine v_ialdGN (pc := 860) 51 (j := 6) rfl (by omega) (by decide) (by decide) dL_law_860 ?_
                  try dsimp only [wb, tlS_0, tlS_1, tlS_2, tlS_3, tlS_4, tlS_5, tlS_6, tlS_7, tlS_8, tlC_0, tlC_1, tlC_2, tlC_3, LawM, LakeM, WaysM, WorldM, SimM, List.set_cons_succ, List.set_cons_zero, List.append_nil, List.nil_append, List.cons_append, Option.toList, Nat.sub_zero]
                  refine v_iconst (pc := 861) (v := 1) dL_law_861 rfl ?_
                  refine v_icmp_gt (pc := 862) (tgt := 885) dL_law_862 (by decide) (fun c862 => ?_) (fun c862 => ?_)
                  · refine v_iinc (pc := 885) (v := nI (i + 1)) dL_law_885 rfl (nI_1 _) (by show _ < 26; decide) rfl ?_
                    refine v_goto (pc := 888) (tgt := 330) dL_law_888 (by decide) ?_
                    refine v_room (ck' := ck + 20 * m) (sk' := sk + 120 * m) (by omega) (by omega) ?_
                    have k9 := ihK _ (lf_no (fun q => q.2.2.1 c862) hL)
                    refine v_sub ?_ k9
                    exact ⟨rfl, rfl, rfl, rfl, rfl, rfl, rfl, rfl, rfl, rfl, rfl, rfl, rfl, rfl, rfl, rfl, rfl, trivial⟩
                  · refine v_aload_nR (pc := 865) dL_law_865 rfl rfl ?_
                    refine v_iload (pc := 866) dL_law_866 rfl ?_
                    refine v_bipush (pc := 868) (v := 6) dL_law_868 rfl ?_
                    refine v_callV2 (pc := 870) (c7_sleigh hps hsc hbc (s := i) (q := 6) hi (by decide)) cm_X5_sleigh q323 q324 q325 (ci := 5) rfl rfl (orcO 0 rfl) [0, 1, 2, 3, 4, 5, 6, 7, 8, 9, 10, 11, 12, 13, 14, 15, 16, 17] (by rfl) (by decide) (fun _ _ h => h) (by omega) (by omega) (by decide) (Nat.le_of_ble_eq_true rfl) dL_law_870 (fun v870 M870 hQ870 => ?_)
                    obtain ⟨rfl, rfl⟩ := hQ870
                    try dsimp only [wb, tlS_0, tlS_1, tlS_2, tlS_3, tlS_4, tlS_5, tlS_6, tlS_7, tlS_8, tlC_0, tlC_1, tlC_2, tlC_3, LawM, LakeM, WaysM, WorldM, SimM, List.set_cons_succ, List.set_cons_zero, List.append_nil, List.nil_append, List.cons_append, Option.toList, Nat.sub_zero]
                    refine v_if_le (pc := 873) (tgt := 885) dL_law_873 (by decide) (fun c873 => ?_) (fun c873 => ?_)
                    · refine v_iinc (pc := 885) (v := nI (i + 1)) dL_law_885 rfl (nI_1 _) (by show _ < 26; decide) rfl ?_
                      refine v_goto (pc := 888) (tgt := 330) dL_law_888 (by decide) ?_
                      refine v_room (ck' := ck + 20 * m) (sk' := sk + 120 * m) (by omega) (by omega) ?_
                      have k9 := ihK _ (lf_no (fun q => Int32.not_le.mpr q.2.2.2 c873) hL)
                      refine v_sub ?_ k9
                      exact ⟨rfl, rfl, rfl, rfl, rfl, rfl, rfl, rfl, rfl, rfl, rfl, rfl, rfl, rfl, rfl, rfl, rfl, trivial⟩
                    · refine v_aloadR (pc := 876) dL_law_876 rfl ?_
                      refine v_iload (pc := 878) dL_law_878 rfl ?_
                      refine v_dup2 (pc := 880) dL_law_880 rfl rfl ?_
                      refine v_ialdN (pc := 881) 54 (k := c4) rfl (by omega) (by omega) dL_law_881 ?_
                      refine v_iconst (pc := 882) (v := 1) dL_law_882 rfl ?_
                      refine v_iadd (pc := 883) dL_law_883 ?_
                      refine v_iastN (pc := 884) 54 (k := c4) rfl (by omega) (by omega) dL_law_884 ?_
                      try dsimp only [wb, tlS_0, tlS_1, tlS_2, tlS_3, tlS_4, tlS_5, tlS_6, tlS_7, tlS_8, tlC_0, tlC_1, tlC_2, tlC_3, LawM, LakeM, WaysM, WorldM, SimM, List.set_cons_succ, List.set_cons_zero, List.append_nil, List.nil_append, List.cons_append, Option.toList, Nat.sub_zero]
                      refine v_iinc (pc := 885) (v := nI (i + 1)) dL_law_885 rfl (nI_1 _) (by show _ < 26; decide) rfl ?_
                      refine v_goto (pc := 888) (tgt := 330) dL_law_888 (by decide) ?_
                      refine v_room (ck' := ck + 20 * m) (sk' := sk + 120 * m) (by omega) (by omega) ?_
                      have k9 := ihK _ (lf_yes ⟨c453, c479, c862, Int32.not_le.mp c873⟩ (by rw [e4]; exact cN_nI (by omega)) hc4 hL)
                      refine v_sub ?_ k9
                      exact ⟨rfl, rfl, rfl, rfl, rfl, rfl, rfl, rfl, rfl, rfl, rfl, rfl, rfl, rfl, rfl, rfl, rfl, trivial⟩
                · refine v_aloadR (pc := 835) dL_law_835 rfl ?_
                  refine v_iload (pc := 837) dL_law_837 rfl ?_
                  refine v_aaldS (pc := 839) 50 (k := i) (by decide) rfl (by omega) (by omega) dL_law_839 ?_
                  refine v_iconst (pc := 840) (v := 3) dL_law_840 rfl ?_
                  refine v_ialdGN (pc := 841) 51 (j := 3) rfl (by omega) (by decide) (by decide) dL_law_841 ?_
                  try dsimp only [wb, tlS_0, tlS_1, tlS_2, tlS_3, tlS_4, tlS_5, tlS_6, tlS_7, tlS_8, tlC_0, tlC_1, tlC_2, tlC_3, LawM, LakeM, WaysM, WorldM, SimM, List.set_cons_succ, List.set_cons_zero, List.append_nil, List.nil_append, List.cons_append, Option.toList, Nat.sub_zero]
                  refine v_iconst (pc := 842) (v := 1) dL_law_842 rfl ?_
                  refine v_icmp_ne (pc := 843) (tgt := 853) dL_law_843 (by decide) (fun c843 => ?_) (fun c843 => ?_)
                  · refine v_aloadR (pc := 853) dL_law_853 rfl ?_
                    refine v_iload (pc := 855) dL_law_855 rfl ?_
                    refine v_aaldS (pc := 857) 50 (k := i) (by decide) rfl (by omega) (by omega) dL_law_857 ?_
                    refine v_bipush (pc := 858) (v := 6) dL_law_858 rfl ?_
                    refine v_ialdGN (pc := 860) 51 (j := 6) rfl (by omega) (by decide) (by decide) dL_law_860 ?_
                    try dsimp only [wb, tlS_0, tlS_1, tlS_2, tlS_3, tlS_4, tlS_5, tlS_6, tlS_7, tlS_8, tlC_0, tlC_1, tlC_2, tlC_3, LawM, LakeM, WaysM, WorldM, SimM, List.set_cons_succ, List.set_cons_zero, List.append_nil, List.nil_append, List.cons_append, Option.toList, Nat.sub_zero]
                    refine v_iconst (pc := 861) (v := 1) dL_law_861 rfl ?_
                    refine v_icmp_gt (pc := 862) (tgt := 885) dL_law_862 (by decide) (fun c862 => ?_) (fun c862 => ?_)
                    · refine v_iinc (pc := 885) (v := nI (i + 1)) dL_law_885 rfl (nI_1 _) (by show _ < 26; decide) rfl ?_
                      refine v_goto (pc := 888) (tgt := 330) dL_law_888 (by decide) ?_
                      refine v_room (ck' := ck + 20 * m) (sk' := sk + 120 * m) (by omega) (by omega) ?_
                      have k9 := ihK _ (lf_no (fun q => q.2.2.1 c862) hL)
                      refine v_sub ?_ k9
                      exact ⟨rfl, rfl, rfl, rfl, rfl, rfl, rfl, rfl, rfl, rfl, rfl, rfl, rfl, rfl, rfl, rfl, rfl, trivial⟩
                    · refine v_aload_nR (pc := 865) dL_law_865 rfl rfl ?_
                      refine v_iload (pc := 866) dL_law_866 rfl ?_
                      refine v_bipush (pc := 868) (v := 6) dL_law_868 rfl ?_
                      refine v_callV2 (pc := 870) (c7_sleigh hps hsc hbc (s := i) (q := 6) hi (by decide)) cm_X5_sleigh q323 q324 q325 (ci := 5) rfl rfl (orcO 0 rfl) [0, 1, 2, 3, 4, 5, 6, 7, 8, 9, 10, 11, 12, 13, 14, 15, 16, 17] (by rfl) (by decide) (fun _ _ h => h) (by omega) (by omega) (by decide) (Nat.le_of_ble_eq_true rfl) dL_law_870 (fun v870 M870 hQ870 => ?_)
                      obtain ⟨rfl, rfl⟩ := hQ870
                      try dsimp only [wb, tlS_0, tlS_1, tlS_2, tlS_3, tlS_4, tlS_5, tlS_6, tlS_7, tlS_8, tlC_0, tlC_1, tlC_2, tlC_3, LawM, LakeM, WaysM, WorldM, SimM, List.set_cons_succ, List.set_cons_zero, List.append_nil, List.nil_append, List.cons_append, Option.toList, Nat.sub_zero]
                      refine v_if_le (pc := 873) (tgt := 885) dL_law_873 (by decide) (fun c873 => ?_) (fun c873 => ?_)
                      · refine v_iinc (pc := 885) (v := nI (i + 1)) dL_law_885 rfl (nI_1 _) (by show _ < 26; decide) rfl ?_
                        refine v_goto (pc := 888) (tgt := 330) dL_law_888 (by decide) ?_
                        refine v_room (ck' := ck + 20 * m) (sk' := sk + 120 * m) (by omega) (by omega) ?_
                        have k9 := ihK _ (lf_no (fun q => Int32.not_le.mpr q.2.2.2 c873) hL)
                        refine v_sub ?_ k9
                        exact ⟨rfl, rfl, rfl, rfl, rfl, rfl, rfl, rfl, rfl, rfl, rfl, rfl, rfl, rfl, rfl, rfl, rfl, trivial⟩
                      · refine v_aloadR (pc := 876) dL_law_876 rfl ?_
                        refine v_iload (pc := 878) dL_law_878 rfl ?_
                        refine v_dup2 (pc := 880) dL_law_880 rfl rfl ?_
                        refine v_ialdN (pc := 881) 54 (k := c4) rfl (by omega) (by omega) dL_law_881 ?_
                        refine v_iconst (pc := 882) (v := 1) dL_law_882 rfl ?_
                        refine v_iadd (pc := 883) dL_law_883 ?_
                        refine v_iastN (pc := 884) 54 (k := c4) rfl (by omega) (by omega) dL_law_884 ?_
                        try dsimp only [wb, tlS_0, tlS_1, tlS_2, tlS_3, tlS_4, tlS_5, tlS_6, tlS_7, tlS_8, tlC_0, tlC_1, tlC_2, tlC_3, LawM, LakeM, WaysM, WorldM, SimM, List.set_cons_succ, List.set_cons_zero, List.append_nil, List.nil_append, List.cons_append, Option.toList, Nat.sub_zero]
                        refine v_iinc (pc := 885) (v := nI (i + 1)) dL_law_885 rfl (nI_1 _) (by show _ < 26; decide) rfl ?_
                        refine v_goto (pc := 888) (tgt := 330) dL_law_888 (by decide) ?_
                        refine v_room (ck' := ck + 20 * m) (sk' := sk + 120 * m) (by omega) (by omega) ?_
                        have k9 := ihK _ (lf_yes ⟨c453, c479, c862, Int32.not_le.mp c873⟩ (by rw [e4]; exact cN_nI (by omega)) hc4 hL)
                        refine v_sub ?_ k9
                        exact ⟨rfl, rfl, rfl, rfl, rfl, rfl, rfl, rfl, rfl, rfl, rfl, rfl, rfl, rfl, rfl, rfl, rfl, trivial⟩
                  · refine v_iload (pc := 846) dL_law_846 rfl ?_
                    refine v_if_ne (pc := 848) (tgt := 853) dL_law_848 (by decide) (fun c848 => ?_) (fun c848 => absurd c848 (by decide))
                    refine v_aloadR (pc := 853) dL_law_853 rfl ?_
                    refine v_iload (pc := 855) dL_law_855 rfl ?_
                    refine v_aaldS (pc := 857) 50 (k := i) (by decide) rfl (by omega) (by omega) dL_law_857 ?_
                    refine v_bipush (pc := 858) (v := 6) dL_law_858 rfl ?_
                    refine v_ialdGN (pc := 860) 51 (j := 6) rfl (by omega) (by decide) (by decide) dL_law_860 ?_
                    try dsimp only [wb, tlS_0, tlS_1, tlS_2, tlS_3, tlS_4, tlS_5, tlS_6, tlS_7, tlS_8, tlC_0, tlC_1, tlC_2, tlC_3, LawM, LakeM, WaysM, WorldM, SimM, List.set_cons_succ, List.set_cons_zero, List.append_nil, List.nil_append, List.cons_append, Option.toList, Nat.sub_zero]
                    refine v_iconst (pc := 861) (v := 1) dL_law_861 rfl ?_
                    refine v_icmp_gt (pc := 862) (tgt := 885) dL_law_862 (by decide) (fun c862 => ?_) (fun c862 => ?_)
                    · refine v_iinc (pc := 885) (v := nI (i + 1)) dL_law_885 rfl (nI_1 _) (by show _ < 26; decide) rfl ?_
                      refine v_goto (pc := 888) (tgt := 330) dL_law_888 (by decide) ?_
                      refine v_room (ck' := ck + 20 * m) (sk' := sk + 120 * m) (by omega) (by omega) ?_
                      have k9 := ihK _ (lf_no (fun q => q.2.2.1 c862) hL)
                      refine v_sub ?_ k9
                      exact ⟨rfl, rfl, rfl, rfl, rfl, rfl, rfl, rfl, rfl, rfl, rfl, rfl, rfl, rfl, rfl, rfl, rfl, trivial⟩
                    · refine v_aload_nR (pc := 865) dL_law_865 rfl rfl ?_
                      refine v_iload (pc := 866) dL_law_866 rfl ?_
                      refine v_bipush (pc := 868) (v := 6) dL_law_868 rfl ?_
                      refine v_callV2 (pc := 870) (c7_sleigh hps hsc hbc (s := i) (q := 6) hi (by decide)) cm_X5_sleigh q323 q324 q325 (ci := 5) rfl rfl (orcO 0 rfl) [0, 1, 2, 3, 4, 5, 6, 7, 8, 9, 10, 11, 12, 13, 14, 15, 16, 17] (by rfl) (by decide) (fun _ _ h => h) (by omega) (by omega) (by decide) (Nat.le_of_ble_eq_true rfl) dL_law_870 (fun v870 M870 hQ870 => ?_)
                      obtain ⟨rfl, rfl⟩ := hQ870
                      try dsimp only [wb, tlS_0, tlS_1, tlS_2, tlS_3, tlS_4, tlS_5, tlS_6, tlS_7, tlS_8, tlC_0, tlC_1, tlC_2, tlC_3, LawM, LakeM, WaysM, WorldM, SimM, List.set_cons_succ, List.set_cons_zero, List.append_nil, List.nil_append, List.cons_append, Option.toList, Nat.sub_zero]
                      refine v_if_le (pc := 873) (tgt := 885) dL_law_873 (by decide) (fun c873 => ?_) (fun c873 => ?_)
                      · refine v_iinc (pc := 885) (v := nI (i + 1)) dL_law_885 rfl (nI_1 _) (by show _ < 26; decide) rfl ?_
                        refine v_goto (pc := 888) (tgt := 330) dL_law_888 (by decide) ?_
                        refine v_room (ck' := ck + 20 * m) (sk' := sk + 120 * m) (by omega) (by omega) ?_
                        have k9 := ihK _ (lf_no (fun q => Int32.not_le.mpr q.2.2.2 c873) hL)
                        refine v_sub ?_ k9
                        exact ⟨rfl, rfl, rfl, rfl, rfl, rfl, rfl, rfl, rfl, rfl, rfl, rfl, rfl, rfl, rfl, rfl, rfl, trivial⟩
                      · refine v_aloadR (pc := 876) dL_law_876 rfl ?_
                        refine v_iload (pc := 878) dL_law_878 rfl ?_
                        refine v_dup2 (pc := 880) dL_law_880 rfl rfl ?_
                        refine v_ialdN (pc := 881) 54 (k := c4) rfl (by omega) (by omega) dL_law_881 ?_
                        refine v_iconst (pc := 882) (v := 1) dL_law_882 rfl ?_
                        refine v_iadd (pc := 883) dL_law_883 ?_
                        refine v_iastN (pc := 884) 54 (k := c4) rfl (by omega) (by omega) dL_law_884 ?_
                        try dsimp only [wb, tlS_0, tlS_1, tlS_2, tlS_3, tlS_4, tlS_5, tlS_6, tlS_7, tlS_8, tlC_0, tlC_1, tlC_2, tlC_3, LawM, LakeM, WaysM, WorldM, SimM, List.set_cons_succ, List.set_cons_zero, List.append_nil, List.nil_append, List.cons_append, Option.toList, Nat.sub_zero]
                        refine v_iinc (pc := 885) (v := nI (i + 1)) dL_law_885 rfl (nI_1 _) (by show _ < 26; decide) rfl ?_
                        refine v_goto (pc := 888) (tgt := 330) dL_law_888 (by decide) ?_
                        refine v_room (ck' := ck + 20 * m) (sk' := sk + 120 * m) (by omega) (by omega) ?_
                        have k9 := ihK _ (lf_yes ⟨c453, c479, c862, Int32.not_le.mp c873⟩ (by rw [e4]; exact cN_nI (by omega)) hc4 hL)
                        refine v_sub ?_ k9
                        exact ⟨rfl, rfl, rfl, rfl, rfl, rfl, rfl, rfl, rfl, rfl, rfl, rfl, rfl, rfl, rfl, rfl, rfl, trivial⟩
              · refine v_iload (pc := 825) dL_law_825 rfl ?_
                refine v_if_ne (pc := 827) (tgt := 851) dL_law_827 (by decide) (fun c827 => absurd (g4a c822) c827) (fun c827 => ?_)
                refine v_iload (pc := 830) dL_law_830 rfl ?_
                refine v_if_ne (pc := 832) (tgt := 853) dL_law_832 (by decide) (fun c832 => ?_) (fun c832 => ?_)
                · refine v_aloadR (pc := 853) dL_law_853 rfl ?_
                  refine v_iload (pc := 855) dL_law_855 rfl ?_
                  refine v_aaldS (pc := 857) 50 (k := i) (by decide) rfl (by omega) (by omega) dL_law_857 ?_
                  refine v_bipush (pc := 858) (v := 6) dL_law_858 rfl ?_
                  refine v_ialdGN (pc := 860) 51 (j := 6) rfl (by omega) (by decide) (by decide) dL_law_860 ?_
                  try dsimp only [wb, tlS_0, tlS_1, tlS_2, tlS_3, tlS_4, tlS_5, tlS_6, tlS_7, tlS_8, tlC_0, tlC_1, tlC_2, tlC_3, LawM, LakeM, WaysM, WorldM, SimM, List.set_cons_succ, List.set_cons_zero, List.append_nil, List.nil_append, List.cons_append, Option.toList, Nat.sub_zero]
                  refine v_iconst (pc := 861) (v := 1) dL_law_861 rfl ?_
                  refine v_icmp_gt (pc := 862) (tgt := 885) dL_law_862 (by decide) (fun c862 => ?_) (fun c862 => ?_)
                  · refine v_iinc (pc := 885) (v := nI (i + 1)) dL_law_885 rfl (nI_1 _) (by show _ < 26; decide) rfl ?_
                    refine v_goto (pc := 888) (tgt := 330) dL_law_888 (by decide) ?_
                    refine v_room (ck' := ck + 20 * m) (sk' := sk + 120 * m) (by omega) (by omega) ?_
                    have k9 := ihK _ (lf_no (fun q => q.2.2.1 c862) hL)
                    refine v_sub ?_ k9
                    exact ⟨rfl, rfl, rfl, rfl, rfl, rfl, rfl, rfl, rfl, rfl, rfl, rfl, rfl, rfl, rfl, rfl, rfl, trivial⟩
                  · refine v_aload_nR (pc := 865) dL_law_865 rfl rfl ?_
                    refine v_iload (pc := 866) dL_law_866 rfl ?_
                    refine v_bipush (pc := 868) (v := 6) dL_law_868 rfl ?_
                    refine v_callV2 (pc := 870) (c7_sleigh hps hsc hbc (s := i) (q := 6) hi (by decide)) cm_X5_sleigh q323 q324 q325 (ci := 5) rfl rfl (orcO 0 rfl) [0, 1, 2, 3, 4, 5, 6, 7, 8, 9, 10, 11, 12, 13, 14, 15, 16, 17] (by rfl) (by decide) (fun _ _ h => h) (by omega) (by omega) (by decide) (Nat.le_of_ble_eq_true rfl) dL_law_870 (fun v870 M870 hQ870 => ?_)
                    obtain ⟨rfl, rfl⟩ := hQ870
                    try dsimp only [wb, tlS_0, tlS_1, tlS_2, tlS_3, tlS_4, tlS_5, tlS_6, tlS_7, tlS_8, tlC_0, tlC_1, tlC_2, tlC_3, LawM, LakeM, WaysM, WorldM, SimM, List.set_cons_succ, List.set_cons_zero, List.append_nil, List.nil_append, List.cons_append, Option.toList, Nat.sub_zero]
                    refine v_if_le (pc := 873) (tgt := 885) dL_law_873 (by decide) (fun c873 => ?_) (fun c873 => ?_)
                    · refine v_iinc (pc := 885) (v := nI (i + 1)) dL_law_885 rfl (nI_1 _) (by show _ < 26; decide) rfl ?_
                      refine v_goto (pc := 888) (tgt := 330) dL_law_888 (by decide) ?_
                      refine v_room (ck' := ck + 20 * m) (sk' := sk + 120 * m) (by omega) (by omega) ?_
                      have k9 := ihK _ (lf_no (fun q => Int32.not_le.mpr q.2.2.2 c873) hL)
                      refine v_sub ?_ k9
                      exact ⟨rfl, rfl, rfl, rfl, rfl, rfl, rfl, rfl, rfl, rfl, rfl, rfl, rfl, rfl, rfl, rfl, rfl, trivial⟩
                    · refine v_aloadR (pc := 876) dL_law_876 rfl ?_
                      refine v_iload (pc := 878) dL_law_878 rfl ?_
                      refine v_dup2 (pc := 880) dL_law_880 rfl rfl ?_
                      refine v_ialdN (pc := 881) 54 (k := c4) rfl (by omega) (by omega) dL_law_881 ?_
                      refine v_iconst (pc := 882) (v := 1) dL_law_882 rfl ?_
                      refine v_iadd (pc := 883) dL_law_883 ?_
                      refine v_iastN (pc := 884) 54 (k := c4) rfl (by omega) (by omega) dL_law_884 ?_
                      try dsimp only [wb, tlS_0, tlS_1, tlS_2, tlS_3, tlS_4, tlS_5, tlS_6, tlS_7, tlS_8, tlC_0, tlC_1, tlC_2, tlC_3, LawM, LakeM, WaysM, WorldM, SimM, List.set_cons_succ, List.set_cons_zero, List.append_nil, List.nil_append, List.cons_append, Option.toList, Nat.sub_zero]
                      refine v_iinc (pc := 885) (v := nI (i + 1)) dL_law_885 rfl (nI_1 _) (by show _ < 26; decide) rfl ?_
                      refine v_goto (pc := 888) (tgt := 330) dL_law_888 (by decide) ?_
                      refine v_room (ck' := ck + 20 * m) (sk' := sk + 120 * m) (by omega) (by omega) ?_
                      have k9 := ihK _ (lf_yes ⟨c453, c479, c862, Int32.not_le.mp c873⟩ (by rw [e4]; exact cN_nI (by omega)) hc4 hL)
                      refine v_sub ?_ k9
                      exact ⟨rfl, rfl, rfl, rfl, rfl, rfl, rfl, rfl, rfl, rfl, rfl, rfl, rfl, rfl, rfl, rfl, rfl, trivial⟩
                · refine v_aloadR (pc := 835) dL_law_835 rfl ?_
                  refine v_iload (pc := 837) dL_law_837 rfl ?_
                  refine v_aaldS (pc := 839) 50 (k := i) (by decide) rfl (by omega) (by omega) dL_law_839 ?_
                  refine v_iconst (pc := 840) (v := 3) dL_law_840 rfl ?_
                  refine v_ialdGN (pc := 841) 51 (j := 3) rfl (by omega) (by decide) (by decide) dL_law_841 ?_
                  try dsimp only [wb, tlS_0, tlS_1, tlS_2, tlS_3, tlS_4, tlS_5, tlS_6, tlS_7, tlS_8, tlC_0, tlC_1, tlC_2, tlC_3, LawM, LakeM, WaysM, WorldM, SimM, List.set_cons_succ, List.set_cons_zero, List.append_nil, List.nil_append, List.cons_append, Option.toList, Nat.sub_zero]
                  refine v_iconst (pc := 842) (v := 1) dL_law_842 rfl ?_
                  refine v_icmp_ne (pc := 843) (tgt := 853) dL_law_843 (by decide) (fun c843 => ?_) (fun c843 => ?_)
                  · refine v_aloadR (pc := 853) dL_law_853 rfl ?_
                    refine v_iload (pc := 855) dL_law_855 rfl ?_
                    refine v_aaldS (pc := 857) 50 (k := i) (by decide) rfl (by omega) (by omega) dL_law_857 ?_
                    refine v_bipush (pc := 858) (v := 6) dL_law_858 rfl ?_
                    refine v_ialdGN (pc := 860) 51 (j := 6) rfl (by omega) (by decide) (by decide) dL_law_860 ?_
                    try dsimp only [wb, tlS_0, tlS_1, tlS_2, tlS_3, tlS_4, tlS_5, tlS_6, tlS_7, tlS_8, tlC_0, tlC_1, tlC_2, tlC_3, LawM, LakeM, WaysM, WorldM, SimM, List.set_cons_succ, List.set_cons_zero, List.append_nil, List.nil_append, List.cons_append, Option.toList, Nat.sub_zero]
                    refine v_iconst (pc := 861) (v := 1) dL_law_861 rfl ?_
                    refine v_icmp_gt (pc := 862) (tgt := 885) dL_law_862 (by decide) (fun c862 => ?_) (fun c862 => ?_)
                    · refine v_iinc (pc := 885) (v := nI (i + 1)) dL_law_885 rfl (nI_1 _) (by show _ < 26; decide) rfl ?_
                      refine v_goto (pc := 888) (tgt := 330) dL_law_888 (by decide) ?_
                      refine v_room (ck' := ck + 20 * m) (sk' := sk + 120 * m) (by omega) (by omega) ?_
                      have k9 := ihK _ (lf_no (fun q => q.2.2.1 c862) hL)
                      refine v_sub ?_ k9
                      exact ⟨rfl, rfl, rfl, rfl, rfl, rfl, rfl, rfl, rfl, rfl, rfl, rfl, rfl, rfl, rfl, rfl, rfl, trivial⟩
                    · refine v_aload_nR (pc := 865) dL_law_865 rfl rfl ?_
                      refine v_iload (pc := 866) dL_law_866 rfl ?_
                      refine v_bipush (pc := 868) (v := 6) dL_law_868 rfl ?_
                      refine v_callV2 (pc := 870) (c7_sleigh hps hsc hbc (s := i) (q := 6) hi (by decide)) cm_X5_sleigh q323 q324 q325 (ci := 5) rfl rfl (orcO 0 rfl) [0, 1, 2, 3, 4, 5, 6, 7, 8, 9, 10, 11, 12, 13, 14, 15, 16, 17] (by rfl) (by decide) (fun _ _ h => h) (by omega) (by omega) (by decide) (Nat.le_of_ble_eq_true rfl) dL_law_870 (fun v870 M870 hQ870 => ?_)
                      obtain ⟨rfl, rfl⟩ := hQ870
                      try dsimp only [wb, tlS_0, tlS_1, tlS_2, tlS_3, tlS_4, tlS_5, tlS_6, tlS_7, tlS_8, tlC_0, tlC_1, tlC_2, tlC_3, LawM, LakeM, WaysM, WorldM, SimM, List.set_cons_succ, List.set_cons_zero, List.append_nil, List.nil_append, List.cons_append, Option.toList, Nat.sub_zero]
                      refine v_if_le (pc := 873) (tgt := 885) dL_law_873 (by decide) (fun c873 => ?_) (fun c873 => ?_)
                      · refine v_iinc (pc := 885) (v := nI (i + 1)) dL_law_885 rfl (nI_1 _) (by show _ < 26; decide) rfl ?_
                        refine v_goto (pc := 888) (tgt := 330) dL_law_888 (by decide) ?_
                        refine v_room (ck' := ck + 20 * m) (sk' := sk + 120 * m) (by omega) (by omega) ?_
                        have k9 := ihK _ (lf_no (fun q => Int32.not_le.mpr q.2.2.2 c873) hL)
                        refine v_sub ?_ k9
                        exact ⟨rfl, rfl, rfl, rfl, rfl, rfl, rfl, rfl, rfl, rfl, rfl, rfl, rfl, rfl, rfl, rfl, rfl, trivial⟩
                      · refine v_aloadR (pc := 876) dL_law_876 rfl ?_
                        refine v_iload (pc := 878) dL_law_878 rfl ?_
                        refine v_dup2 (pc := 880) dL_law_880 rfl rfl ?_
                        refine v_ialdN (pc := 881) 54 (k := c4) rfl (by omega) (by omega) dL_law_881 ?_
                        refine v_iconst (pc := 882) (v := 1) dL_law_882 rfl ?_
                        refine v_iadd (pc := 883) dL_law_883 ?_
                        refine v_iastN (pc := 884) 54 (k := c4) rfl (by omega) (by omega) dL_law_884 ?_
                        try dsimp only [wb, tlS_0, tlS_1, tlS_2, tlS_3, tlS_4, tlS_5, tlS_6, tlS_7, tlS_8, tlC_0, tlC_1, tlC_2, tlC_3, LawM, LakeM, WaysM, WorldM, SimM, List.set_cons_succ, List.set_cons_zero, List.append_nil, List.nil_append, List.cons_append, Option.toList, Nat.sub_zero]
                        refine v_iinc (pc := 885) (v := nI (i + 1)) dL_law_885 rfl (nI_1 _) (by show _ < 26; decide) rfl ?_
                        refine v_goto (pc := 888) (tgt := 330) dL_law_888 (by decide) ?_
                        refine v_room (ck' := ck + 20 * m) (sk' := sk + 120 * m) (by omega) (by omega) ?_
                        have k9 := ihK _ (lf_yes ⟨c453, c479, c862, Int32.not_le.mp c873⟩ (by rw [e4]; exact cN_nI (by omega)) hc4 hL)
                        refine v_sub ?_ k9
                        exact ⟨rfl, rfl, rfl, rfl, rfl, rfl, rfl, rfl, rfl, rfl, rfl, rfl, rfl, rfl, rfl, rfl, rfl, trivial⟩
                  · refine v_iload (pc := 846) dL_law_846 rfl ?_
                    refine v_if_ne (pc := 848) (tgt := 853) dL_law_848 (by decide) (fun c848 => ?_) (fun c848 => absurd c848 (by decide))
                    refine v_aloadR (pc := 853) dL_law_853 rfl ?_
                    refine v_iload (pc := 855) dL_law_855 rfl ?_
                    refine v_aaldS (pc := 857) 50 (k := i) (by decide) rfl (by omega) (by omega) dL_law_857 ?_
                    refine v_bipush (pc := 858) (v := 6) dL_law_858 rfl ?_
                    refine v_ialdGN (pc := 860) 51 (j := 6) rfl (by omega) (by decide) (by decide) dL_law_860 ?_
                    try dsimp only [wb, tlS_0, tlS_1, tlS_2, tlS_3, tlS_4, tlS_5, tlS_6, tlS_7, tlS_8, tlC_0, tlC_1, tlC_2, tlC_3, LawM, LakeM, WaysM, WorldM, SimM, List.set_cons_succ, List.set_cons_zero, List.append_nil, List.nil_append, List.cons_append, Option.toList, Nat.sub_zero]
                    refine v_iconst (pc := 861) (v := 1) dL_law_861 rfl ?_
                    refine v_icmp_gt (pc := 862) (tgt := 885) dL_law_862 (by decide) (fun c862 => ?_) (fun c862 => ?_)
                    · refine v_iinc (pc := 885) (v := nI (i + 1)) dL_law_885 rfl (nI_1 _) (by show _ < 26; decide) rfl ?_
                      refine v_goto (pc := 888) (tgt := 330) dL_law_888 (by decide) ?_
                      refine v_room (ck' := ck + 20 * m) (sk' := sk + 120 * m) (by omega) (by omega) ?_
                      have k9 := ihK _ (lf_no (fun q => q.2.2.1 c862) hL)
                      refine v_sub ?_ k9
                      exact ⟨rfl, rfl, rfl, rfl, rfl, rfl, rfl, rfl, rfl, rfl, rfl, rfl, rfl, rfl, rfl, rfl, rfl, trivial⟩
                    · refine v_aload_nR (pc := 865) dL_law_865 rfl rfl ?_
                      refine v_iload (pc := 866) dL_law_866 rfl ?_
                      refine v_bipush (pc := 868) (v := 6) dL_law_868 rfl ?_
                      refine v_callV2 (pc := 870) (c7_sleigh hps hsc hbc (s := i) (q := 6) hi (by decide)) cm_X5_sleigh q323 q324 q325 (ci := 5) rfl rfl (orcO 0 rfl) [0, 1, 2, 3, 4, 5, 6, 7, 8, 9, 10, 11, 12, 13, 14, 15, 16, 17] (by rfl) (by decide) (fun _ _ h => h) (by omega) (by omega) (by decide) (Nat.le_of_ble_eq_true rfl) dL_law_870 (fun v870 M870 hQ870 => ?_)
                      obtain ⟨rfl, rfl⟩ := hQ870
                      try dsimp only [wb, tlS_0, tlS_1, tlS_2, tlS_3, tlS_4, tlS_5, tlS_6, tlS_7, tlS_8, tlC_0, tlC_1, tlC_2, tlC_3, LawM, LakeM, WaysM, WorldM, SimM, List.set_cons_succ, List.set_cons_zero, List.append_nil, List.nil_append, List.cons_append, Option.toList, Nat.sub_zero]
                      refine v_if_le (pc := 873) (tgt := 885) dL_law_873 (by decide) (fun c873 => ?_) (fun c873 => ?_)
                      · refine v_iinc (pc := 885) (v := nI (i + 1)) dL_law_885 rfl (nI_1 _) (by show _ < 26; decide) rfl ?_
                        refine v_goto (pc := 888) (tgt := 330) dL_law_888 (by decide) ?_
                        refine v_room (ck' := ck + 20 * m) (sk' := sk + 120 * m) (by omega) (by omega) ?_
                        have k9 := ihK _ (lf_no (fun q => Int32.not_le.mpr q.2.2.2 c873) hL)
                        refine v_sub ?_ k9
                        exact ⟨rfl, rfl, rfl, rfl, rfl, rfl, rfl, rfl, rfl, rfl, rfl, rfl, rfl, rfl, rfl, rfl, rfl, trivial⟩
                      · refine v_aloadR (pc := 876) dL_law_876 rfl ?_
                        refine v_iload (pc := 878) dL_law_878 rfl ?_
                        refine v_dup2 (pc := 880) dL_law_880 rfl rfl ?_
                        refine v_ialdN (pc := 881) 54 (k := c4) rfl (by omega) (by omega) dL_law_881 ?_
                        refine v_iconst (pc := 882) (v := 1) dL_law_882 rfl ?_
                        refine v_iadd (pc := 883) dL_law_883 ?_
                        refine v_iastN (pc := 884) 54 (k := c4) rfl (by omega) (by omega) dL_law_884 ?_
                        try dsimp only [wb, tlS_0, tlS_1, tlS_2, tlS_3, tlS_4, tlS_5, tlS_6, tlS_7, tlS_8, tlC_0, tlC_1, tlC_2, tlC_3, LawM, LakeM, WaysM, WorldM, SimM, List.set_cons_succ, List.set_cons_zero, List.append_nil, List.nil_append, List.cons_append, Option.toList, Nat.sub_zero]
                        refine v_iinc (pc := 885) (v := nI (i + 1)) dL_law_885 rfl (nI_1 _) (by show _ < 26; decide) rfl ?_
                        refine v_goto (pc := 888) (tgt := 330) dL_law_888 (by decide) ?_
                        refine v_room (ck' := ck + 20 * m) (sk' := sk + 120 * m) (by omega) (by omega) ?_
                        have k9 := ihK _ (lf_yes ⟨c453, c479, c862, Int32.not_le.mp c873⟩ (by rw [e4]; exact cN_nI (by omega)) hc4 hL)
                        refine v_sub ?_ k9
                        exact ⟨rfl, rfl, rfl, rfl, rfl, rfl, rfl, rfl, rfl, rfl, rfl, rfl, rfl, rfl, rfl, rfl, rfl, trivial⟩
            · obtain ⟨p5a, p5b⟩ := (hI.1.2.2.2.1.2.1 i hi).2.1 c795
              obtain ⟨p5q, hq5, e5⟩ := kOf p5a (by omega)
              have hPq : nI c4 = PC p5q := by rw [← e4, p5b, e5, cop_k hq5 hps]
              refine v_iload (pc := 798) dL_law_798 rfl ?_
              refine v_aload_nR (pc := 800) dL_law_800 rfl rfl ?_
              refine v_get (pc := 801) 6 35 fg_L_58 rfl rfl dL_law_801 ?_
              refine v_aload_nR (pc := 804) dL_law_804 rfl rfl ?_
              refine v_iload (pc := 805) dL_law_805 rfl ?_
              refine v_iconst (pc := 807) (v := 5) dL_law_807 rfl ?_
              refine v_callV2 (pc := 808) (c7_sleigh hps hsc hbc (s := i) (q := 5) hi (by decide)) cm_X5_sleigh q323 q324 q325 (ci := 5) rfl rfl (orcO 0 rfl) [0, 1, 2, 3, 4, 5, 6, 7, 8, 9, 10, 11, 12, 13, 14, 15, 16, 17] (by rfl) (by decide) (fun _ _ h => h) (by omega) (by omega) (by decide) (Nat.le_of_ble_eq_true rfl) dL_law_808 (fun v808 M808 hQ808 => ?_)
              obtain ⟨rfl, rfl⟩ := hQ808
              try dsimp only [wb, tlS_0, tlS_1, tlS_2, tlS_3, tlS_4, tlS_5, tlS_6, tlS_7, tlS_8, tlC_0, tlC_1, tlC_2, tlC_3, LawM, LakeM, WaysM, WorldM, SimM, List.set_cons_succ, List.set_cons_zero, List.append_nil, List.nil_append, List.cons_append, Option.toList, Nat.sub_zero]
              rw [e5]
              refine v_ialdN (pc := 811) 41 (k := p5q) rfl (by omega) (by omega) dL_law_811 ?_
              refine v_icmp_ne (pc := 812) (tgt := 851) dL_law_812 (by decide) (fun c812 => absurd hPq c812) (fun c812 => ?_)
              refine v_aloadR (pc := 815) dL_law_815 rfl ?_
              refine v_iload (pc := 817) dL_law_817 rfl ?_
              refine v_aaldS (pc := 819) 50 (k := i) (by decide) rfl (by omega) (by omega) dL_law_819 ?_
              refine v_iconst (pc := 820) (v := 3) dL_law_820 rfl ?_
              refine v_ialdGN (pc := 821) 51 (j := 3) rfl (by omega) (by decide) (by decide) dL_law_821 ?_
              try dsimp only [wb, tlS_0, tlS_1, tlS_2, tlS_3, tlS_4, tlS_5, tlS_6, tlS_7, tlS_8, tlC_0, tlC_1, tlC_2, tlC_3, LawM, LakeM, WaysM, WorldM, SimM, List.set_cons_succ, List.set_cons_zero, List.append_nil, List.nil_append, List.cons_append, Option.toList, Nat.sub_zero]
              refine v_if_ne (pc := 822) (tgt := 830) dL_law_822 (by decide) (fun c822 => ?_) (fun c822 => ?_)
              · refine v_iload (pc := 830) dL_law_830 rfl ?_
                refine v_if_ne (pc := 832) (tgt := 853) dL_law_832 (by decide) (fun c832 => ?_) (fun c832 => ?_)
                · refine v_aloadR (pc := 853) dL_law_853 rfl ?_
                  refine v_iload (pc := 855) dL_law_855 rfl ?_
                  refine v_aaldS (pc := 857) 50 (k := i) (by decide) rfl (by omega) (by omega) dL_law_857 ?_
                  refine v_bipush (pc := 858) (v := 6) dL_law_858 rfl ?_
                  refine v_ialdGN (pc := 860) 51 (j := 6) rfl (by omega) (by decide) (by decide) dL_law_860 ?_
                  try dsimp only [wb, tlS_0, tlS_1, tlS_2, tlS_3, tlS_4, tlS_5, tlS_6, tlS_7, tlS_8, tlC_0, tlC_1, tlC_2, tlC_3, LawM, LakeM, WaysM, WorldM, SimM, List.set_cons_succ, List.set_cons_zero, List.append_nil, List.nil_append, List.cons_append, Option.toList, Nat.sub_zero]
                  refine v_iconst (pc := 861) (v := 1) dL_law_861 rfl ?_
                  refine v_icmp_gt (pc := 862) (tgt := 885) dL_law_862 (by decide) (fun c862 => ?_) (fun c862 => ?_)
                  · refine v_iinc (pc := 885) (v := nI (i + 1)) dL_law_885 rfl (nI_1 _) (by show _ < 26; decide) rfl ?_
                    refine v_goto (pc := 888) (tgt := 330) dL_law_888 (by decide) ?_
                    refine v_room (ck' := ck + 20 * m) (sk' := sk + 120 * m) (by omega) (by omega) ?_
                    have k9 := ihK _ (lf_no (fun q => q.2.2.1 c862) hL)
                    refine v_sub ?_ k9
                    exact ⟨rfl, rfl, rfl, rfl, rfl, rfl, rfl, rfl, rfl, rfl, rfl, rfl, rfl, rfl, rfl, rfl, rfl, trivial⟩
                  · refine v_aload_nR (pc := 865) dL_law_865 rfl rfl ?_
                    refine v_iload (pc := 866) dL_law_866 rfl ?_
                    refine v_bipush (pc := 868) (v := 6) dL_law_868 rfl ?_
                    refine v_callV2 (pc := 870) (c7_sleigh hps hsc hbc (s := i) (q := 6) hi (by decide)) cm_X5_sleigh q323 q324 q325 (ci := 5) rfl rfl (orcO 0 rfl) [0, 1, 2, 3, 4, 5, 6, 7, 8, 9, 10, 11, 12, 13, 14, 15, 16, 17] (by rfl) (by decide) (fun _ _ h => h) (by omega) (by omega) (by decide) (Nat.le_of_ble_eq_true rfl) dL_law_870 (fun v870 M870 hQ870 => ?_)
                    obtain ⟨rfl, rfl⟩ := hQ870
                    try dsimp only [wb, tlS_0, tlS_1, tlS_2, tlS_3, tlS_4, tlS_5, tlS_6, tlS_7, tlS_8, tlC_0, tlC_1, tlC_2, tlC_3, LawM, LakeM, WaysM, WorldM, SimM, List.set_cons_succ, List.set_cons_zero, List.append_nil, List.nil_append, List.cons_append, Option.toList, Nat.sub_zero]
                    refine v_if_le (pc := 873) (tgt := 885) dL_law_873 (by decide) (fun c873 => ?_) (fun c873 => ?_)
                    · refine v_iinc (pc := 885) (v := nI (i + 1)) dL_law_885 rfl (nI_1 _) (by show _ < 26; decide) rfl ?_
                      refine v_goto (pc := 888) (tgt := 330) dL_law_888 (by decide) ?_
                      refine v_room (ck' := ck + 20 * m) (sk' := sk + 120 * m) (by omega) (by omega) ?_
                      have k9 := ihK _ (lf_no (fun q => Int32.not_le.mpr q.2.2.2 c873) hL)
                      refine v_sub ?_ k9
                      exact ⟨rfl, rfl, rfl, rfl, rfl, rfl, rfl, rfl, rfl, rfl, rfl, rfl, rfl, rfl, rfl, rfl, rfl, trivial⟩
                    · refine v_aloadR (pc := 876) dL_law_876 rfl ?_
                      refine v_iload (pc := 878) dL_law_878 rfl ?_
                      refine v_dup2 (pc := 880) dL_law_880 rfl rfl ?_
                      refine v_ialdN (pc := 881) 54 (k := c4) rfl (by omega) (by omega) dL_law_881 ?_
                      refine v_iconst (pc := 882) (v := 1) dL_law_882 rfl ?_
                      refine v_iadd (pc := 883) dL_law_883 ?_
                      refine v_iastN (pc := 884) 54 (k := c4) rfl (by omega) (by omega) dL_law_884 ?_
                      try dsimp only [wb, tlS_0, tlS_1, tlS_2, tlS_3, tlS_4, tlS_5, tlS_6, tlS_7, tlS_8, tlC_0, tlC_1, tlC_2, tlC_3, LawM, LakeM, WaysM, WorldM, SimM, List.set_cons_succ, List.set_cons_zero, List.append_nil, List.nil_append, List.cons_append, Option.toList, Nat.sub_zero]
                      refine v_iinc (pc := 885) (v := nI (i + 1)) dL_law_885 rfl (nI_1 _) (by show _ < 26; decide) rfl ?_
                      refine v_goto (pc := 888) (tgt := 330) dL_law_888 (by decide) ?_
                      refine v_room (ck' := ck + 20 * m) (sk' := sk + 120 * m) (by omega) (by omega) ?_
                      have k9 := ihK _ (lf_yes ⟨c453, c479, c862, Int32.not_le.mp c873⟩ (by rw [e4]; exact cN_nI (by omega)) hc4 hL)
                      refine v_sub ?_ k9
                      exact ⟨rfl, rfl, rfl, rfl, rfl, rfl, rfl, rfl, rfl, rfl, rfl, rfl, rfl, rfl, rfl, rfl, rfl, trivial⟩
                · refine v_aloadR (pc := 835) dL_law_835 rfl ?_
                  refine v_iload (pc := 837) dL_law_837 rfl ?_
                  refine v_aaldS (pc := 839) 50 (k := i) (by decide) rfl (by omega) (by omega) dL_law_839 ?_
                  refine v_iconst (pc := 840) (v := 3) dL_law_840 rfl ?_
                  refine v_ialdGN (pc := 841) 51 (j := 3) rfl (by omega) (by decide) (by decide) dL_law_841 ?_
                  try dsimp only [wb, tlS_0, tlS_1, tlS_2, tlS_3, tlS_4, tlS_5, tlS_6, tlS_7, tlS_8, tlC_0, tlC_1, tlC_2, tlC_3, LawM, LakeM, WaysM, WorldM, SimM, List.set_cons_succ, List.set_cons_zero, List.append_nil, List.nil_append, List.cons_append, Option.toList, Nat.sub_zero]
                  refine v_iconst (pc := 842) (v := 1) dL_law_842 rfl ?_
                  refine v_icmp_ne (pc := 843) (tgt := 853) dL_law_843 (by decide) (fun c843 => ?_) (fun c843 => ?_)
                  · refine v_aloadR (pc := 853) dL_law_853 rfl ?_
                    refine v_iload (pc := 855) dL_law_855 rfl ?_
                    refine v_aaldS (pc := 857) 50 (k := i) (by decide) rfl (by omega) (by omega) dL_law_857 ?_
                    refine v_bipush (pc := 858) (v := 6) dL_law_858 rfl ?_
                    refine v_ialdGN (pc := 860) 51 (j := 6) rfl (by omega) (by decide) (by decide) dL_law_860 ?_
                    try dsimp only [wb, tlS_0, tlS_1, tlS_2, tlS_3, tlS_4, tlS_5, tlS_6, tlS_7, tlS_8, tlC_0, tlC_1, tlC_2, tlC_3, LawM, LakeM, WaysM, WorldM, SimM, List.set_cons_succ, List.set_cons_zero, List.append_nil, List.nil_append, List.cons_append, Option.toList, Nat.sub_zero]
                    refine v_iconst (pc := 861) (v := 1) dL_law_861 rfl ?_
                    refine v_icmp_gt (pc := 862) (tgt := 885) dL_law_862 (by decide) (fun c862 => ?_) (fun c862 => ?_)
                    · refine v_iinc (pc := 885) (v := nI (i + 1)) dL_law_885 rfl (nI_1 _) (by show _ < 26; decide) rfl ?_
                      refine v_goto (pc := 888) (tgt := 330) dL_law_888 (by decide) ?_
                      refine v_room (ck' := ck + 20 * m) (sk' := sk + 120 * m) (by omega) (by omega) ?_
                      have k9 := ihK _ (lf_no (fun q => q.2.2.1 c862) hL)
                      refine v_sub ?_ k9
                      exact ⟨rfl, rfl, rfl, rfl, rfl, rfl, rfl, rfl, rfl, rfl, rfl, rfl, rfl, rfl, rfl, rfl, rfl, trivial⟩
                    · refine v_aload_nR (pc := 865) dL_law_865 rfl rfl ?_
                      refine v_iload (pc := 866) dL_law_866 rfl ?_
                      refine v_bipush (pc := 868) (v := 6) dL_law_868 rfl ?_
                      refine v_callV2 (pc := 870) (c7_sleigh hps hsc hbc (s := i) (q := 6) hi (by decide)) cm_X5_sleigh q323 q324 q325 (ci := 5) rfl rfl (orcO 0 rfl) [0, 1, 2, 3, 4, 5, 6, 7, 8, 9, 10, 11, 12, 13, 14, 15, 16, 17] (by rfl) (by decide) (fun _ _ h => h) (by omega) (by omega) (by decide) (Nat.le_of_ble_eq_true rfl) dL_law_870 (fun v870 M870 hQ870 => ?_)
                      obtain ⟨rfl, rfl⟩ := hQ870
                      try dsimp only [wb, tlS_0, tlS_1, tlS_2, tlS_3, tlS_4, tlS_5, tlS_6, tlS_7, tlS_8, tlC_0, tlC_1, tlC_2, tlC_3, LawM, LakeM, WaysM, WorldM, SimM, List.set_cons_succ, List.set_cons_zero, List.append_nil, List.nil_append, List.cons_append, Option.toList, Nat.sub_zero]
                      refine v_if_le (pc := 873) (tgt := 885) dL_law_873 (by decide) (fun c873 => ?_) (fun c873 => ?_)
                      · refine v_iinc (pc := 885) (v := nI (i + 1)) dL_law_885 rfl (nI_1 _) (by show _ < 26; decide) rfl ?_
                        refine v_goto (pc := 888) (tgt := 330) dL_law_888 (by decide) ?_
                        refine v_room (ck' := ck + 20 * m) (sk' := sk + 120 * m) (by omega) (by omega) ?_
                        have k9 := ihK _ (lf_no (fun q => Int32.not_le.mpr q.2.2.2 c873) hL)
                        refine v_sub ?_ k9
                        exact ⟨rfl, rfl, rfl, rfl, rfl, rfl, rfl, rfl, rfl, rfl, rfl, rfl, rfl, rfl, rfl, rfl, rfl, trivial⟩
                      · refine v_aloadR (pc := 876) dL_law_876 rfl ?_
                        refine v_iload (pc := 878) dL_law_878 rfl ?_
                        refine v_dup2 (pc := 880) dL_law_880 rfl rfl ?_
                        refine v_ialdN (pc := 881) 54 (k := c4) rfl (by omega) (by omega) dL_law_881 ?_
                        refine v_iconst (pc := 882) (v := 1) dL_law_882 rfl ?_
                        refine v_iadd (pc := 883) dL_law_883 ?_
                        refine v_iastN (pc := 884) 54 (k := c4) rfl (by omega) (by omega) dL_law_884 ?_
                        try dsimp only [wb, tlS_0, tlS_1, tlS_2, tlS_3, tlS_4, tlS_5, tlS_6, tlS_7, tlS_8, tlC_0, tlC_1, tlC_2, tlC_3, LawM, LakeM, WaysM, WorldM, SimM, List.set_cons_succ, List.set_cons_zero, List.append_nil, List.nil_append, List.cons_append, Option.toList, Nat.sub_zero]
                        refine v_iinc (pc := 885) (v := nI (i + 1)) dL_law_885 rfl (nI_1 _) (by show _ < 26; decide) rfl ?_
                        refine v_goto (pc := 888) (tgt := 330) dL_law_888 (by decide) ?_
                        refine v_room (ck' := ck + 20 * m) (sk' := sk + 120 * m) (by omega) (by omega) ?_
                        have k9 := ihK _ (lf_yes ⟨c453, c479, c862, Int32.not_le.mp c873⟩ (by rw [e4]; exact cN_nI (by omega)) hc4 hL)
                        refine v_sub ?_ k9
                        exact ⟨rfl, rfl, rfl, rfl, rfl, rfl, rfl, rfl, rfl, rfl, rfl, rfl, rfl, rfl, rfl, rfl, rfl, trivial⟩
                  · refine v_iload (pc := 846) dL_law_846 rfl ?_
                    refine v_if_ne (pc := 848) (tgt := 853) dL_law_848 (by decide) (fun c848 => ?_) (fun c848 => absurd c848 (by decide))
                    refine v_aloadR (pc := 853) dL_law_853 rfl ?_
                    refine v_iload (pc := 855) dL_law_855 rfl ?_
                    refine v_aaldS (pc := 857) 50 (k := i) (by decide) rfl (by omega) (by omega) dL_law_857 ?_
                    refine v_bipush (pc := 858) (v := 6) dL_law_858 rfl ?_
                    refine v_ialdGN (pc := 860) 51 (j := 6) rfl (by omega) (by decide) (by decide) dL_law_860 ?_
                    try dsimp only [wb, tlS_0, tlS_1, tlS_2, tlS_3, tlS_4, tlS_5, tlS_6, tlS_7, tlS_8, tlC_0, tlC_1, tlC_2, tlC_3, LawM, LakeM, WaysM, WorldM, SimM, List.set_cons_succ, List.set_cons_zero, List.append_nil, List.nil_append, List.cons_append, Option.toList, Nat.sub_zero]
                    refine v_iconst (pc := 861) (v := 1) dL_law_861 rfl ?_
                    refine v_icmp_gt (pc := 862) (tgt := 885) dL_law_862 (by decide) (fun c862 => ?_) (fun c862 => ?_)
                    · refine v_iinc (pc := 885) (v := nI (i + 1)) dL_law_885 rfl (nI_1 _) (by show _ < 26; decide) rfl ?_
                      refine v_goto (pc := 888) (tgt := 330) dL_law_888 (by decide) ?_
                      refine v_room (ck' := ck + 20 * m) (sk' := sk + 120 * m) (by omega) (by omega) ?_
                      have k9 := ihK _ (lf_no (fun q => q.2.2.1 c862) hL)
                      refine v_sub ?_ k9
                      exact ⟨rfl, rfl, rfl, rfl, rfl, rfl, rfl, rfl, rfl, rfl, rfl, rfl, rfl, rfl, rfl, rfl, rfl, trivial⟩
                    · refine v_aload_nR (pc := 865) dL_law_865 rfl rfl ?_
                      refine v_iload (pc := 866) dL_law_866 rfl ?_
                      refine v_bipush (pc := 868) (v := 6) dL_law_868 rfl ?_
                      refine v_callV2 (pc := 870) (c7_sleigh hps hsc hbc (s := i) (q := 6) hi (by decide)) cm_X5_sleigh q323 q324 q325 (ci := 5) rfl rfl (orcO 0 rfl) [0, 1, 2, 3, 4, 5, 6, 7, 8, 9, 10, 11, 12, 13, 14, 15, 16, 17] (by rfl) (by decide) (fun _ _ h => h) (by omega) (by omega) (by decide) (Nat.le_of_ble_eq_true rfl) dL_law_870 (fun v870 M870 hQ870 => ?_)
                      obtain ⟨rfl, rfl⟩ := hQ870
                      try dsimp only [wb, tlS_0, tlS_1, tlS_2, tlS_3, tlS_4, tlS_5, tlS_6, tlS_7, tlS_8, tlC_0, tlC_1, tlC_2, tlC_3, LawM, LakeM, WaysM, WorldM, SimM, List.set_cons_succ, List.set_cons_zero, List.append_nil, List.nil_append, List.cons_append, Option.toList, Nat.sub_zero]
                      refine v_if_le (pc := 873) (tgt := 885) dL_law_873 (by decide) (fun c873 => ?_) (fun c873 => ?_)
                      · refine v_iinc (pc := 885) (v := nI (i + 1)) dL_law_885 rfl (nI_1 _) (by show _ < 26; decide) rfl ?_
                        refine v_goto (pc := 888) (tgt := 330) dL_law_888 (by decide) ?_
                        refine v_room (ck' := ck + 20 * m) (sk' := sk + 120 * m) (by omega) (by omega) ?_
                        have k9 := ihK _ (lf_no (fun q => Int32.not_le.mpr q.2.2.2 c873) hL)
                        refine v_sub ?_ k9
                        exact ⟨rfl, rfl, rfl, rfl, rfl, rfl, rfl, rfl, rfl, rfl, rfl, rfl, rfl, rfl, rfl, rfl, rfl, trivial⟩
                      · refine v_aloadR (pc := 876) dL_law_876 rfl ?_
                        refine v_iload (pc := 878) dL_law_878 rfl ?_
                        refine v_dup2 (pc := 880) dL_law_880 rfl rfl ?_
                        refine v_ialdN (pc := 881) 54 (k := c4) rfl (by omega) (by omega) dL_law_881 ?_
                        refine v_iconst (pc := 882) (v := 1) dL_law_882 rfl ?_
                        refine v_iadd (pc := 883) dL_law_883 ?_
                        refine v_iastN (pc := 884) 54 (k := c4) rfl (by omega) (by omega) dL_law_884 ?_
                        try dsimp only [wb, tlS_0, tlS_1, tlS_2, tlS_3, tlS_4, tlS_5, tlS_6, tlS_7, tlS_8, tlC_0, tlC_1, tlC_2, tlC_3, LawM, LakeM, WaysM, WorldM, SimM, List.set_cons_succ, List.set_cons_zero, List.append_nil, List.nil_append, List.cons_append, Option.toList, Nat.sub_zero]
                        refine v_iinc (pc := 885) (v := nI (i + 1)) dL_law_885 rfl (nI_1 _) (by show _ < 26; decide) rfl ?_
                        refine v_goto (pc := 888) (tgt := 330) dL_law_888 (by decide) ?_
                        refine v_room (ck' := ck + 20 * m) (sk' := sk + 120 * m) (by omega) (by omega) ?_
                        have k9 := ihK _ (lf_yes ⟨c453, c479, c862, Int32.not_le.mp c873⟩ (by rw [e4]; exact cN_nI (by omega)) hc4 hL)
                        refine v_sub ?_ k9
                        exact ⟨rfl, rfl, rfl, rfl, rfl, rfl, rfl, rfl, rfl, rfl, rfl, rfl, rfl, rfl, rfl, rfl, rfl, trivial⟩
              · refine v_iload (pc := 825) dL_law_825 rfl ?_
                refine v_if_ne (pc := 827) (tgt := 851) dL_law_827 (by decide) (fun c827 => absurd (g4a c822) c827) (fun c827 => ?_)
                refine v_iload (pc := 830) dL_law_830 rfl ?_
                refine v_if_ne (pc := 832) (tgt := 853) dL_law_832 (by decide) (fun c832 => ?_) (fun c832 => ?_)
                · refine v_aloadR (pc := 853) dL_law_853 rfl ?_
                  refine v_iload (pc := 855) dL_law_855 rfl ?_
                  refine v_aaldS (pc := 857) 50 (k := i) (by decide) rfl (by omega) (by omega) dL_law_857 ?_
                  refine v_bipush (pc := 858) (v := 6) dL_law_858 rfl ?_
                  refine v_ialdGN (pc := 860) 51 (j := 6) rfl (by omega) (by decide) (by decide) dL_law_860 ?_
                  try dsimp only [wb, tlS_0, tlS_1, tlS_2, tlS_3, tlS_4, tlS_5, tlS_6, tlS_7, tlS_8, tlC_0, tlC_1, tlC_2, tlC_3, LawM, LakeM, WaysM, WorldM, SimM, List.set_cons_succ, List.set_cons_zero, List.append_nil, List.nil_append, List.cons_append, Option.toList, Nat.sub_zero]
                  refine v_iconst (pc := 861) (v := 1) dL_law_861 rfl ?_
                  refine v_icmp_gt (pc := 862) (tgt := 885) dL_law_862 (by decide) (fun c862 => ?_) (fun c862 => ?_)
                  · refine v_iinc (pc := 885) (v := nI (i + 1)) dL_law_885 rfl (nI_1 _) (by show _ < 26; decide) rfl ?_
                    refine v_goto (pc := 888) (tgt := 330) dL_law_888 (by decide) ?_
                    refine v_room (ck' := ck + 20 * m) (sk' := sk + 120 * m) (by omega) (by omega) ?_
                    have k9 := ihK _ (lf_no (fun q => q.2.2.1 c862) hL)
                    refine v_sub ?_ k9
                    exact ⟨rfl, rfl, rfl, rfl, rfl, rfl, rfl, rfl, rfl, rfl, rfl, rfl, rfl, rfl, rfl, rfl, rfl, trivial⟩
                  · refine v_aload_nR (pc := 865) dL_law_865 rfl rfl ?_
                    refine v_iload (pc := 866) dL_law_866 rfl ?_
                    refine v_bipush (pc := 868) (v := 6) dL_law_868 rfl ?_
                    refine v_callV2 (pc := 870) (c7_sleigh hps hsc hbc (s := i) (q := 6) hi (by decide)) cm_X5_sleigh q323 q324 q325 (ci := 5) rfl rfl (orcO 0 rfl) [0, 1, 2, 3, 4, 5, 6, 7, 8, 9, 10, 11, 12, 13, 14, 15, 16, 17] (by rfl) (by decide) (fun _ _ h => h) (by omega) (by omega) (by decide) (Nat.le_of_ble_eq_true rfl) dL_law_870 (fun v870 M870 hQ870 => ?_)
                    obtain ⟨rfl, rfl⟩ := hQ870
                    try dsimp only [wb, tlS_0, tlS_1, tlS_2, tlS_3, tlS_4, tlS_5, tlS_6, tlS_7, tlS_8, tlC_0, tlC_1, tlC_2, tlC_3, LawM, LakeM, WaysM, WorldM, SimM, List.set_cons_succ, List.set_cons_zero, List.append_nil, List.nil_append, List.cons_append, Option.toList, Nat.sub_zero]
                    refine v_if_le (pc := 873) (tgt := 885) dL_law_873 (by decide) (fun c873 => ?_) (fun c873 => ?_)
                    · refine v_iinc (pc := 885) (v := nI (i + 1)) dL_law_885 rfl (nI_1 _) (by show _ < 26; decide) rfl ?_
                      refine v_goto (pc := 888) (tgt := 330) dL_law_888 (by decide) ?_
                      refine v_room (ck' := ck + 20 * m) (sk' := sk + 120 * m) (by omega) (by omega) ?_
                      have k9 := ihK _ (lf_no (fun q => Int32.not_le.mpr q.2.2.2 c873) hL)
                      refine v_sub ?_ k9
                      exact ⟨rfl, rfl, rfl, rfl, rfl, rfl, rfl, rfl, rfl, rfl, rfl, rfl, rfl, rfl, rfl, rfl, rfl, trivial⟩
                    · refine v_aloadR (pc := 876) dL_law_876 rfl ?_
                      refine v_iload (pc := 878) dL_law_878 rfl ?_
                      refine v_dup2 (pc := 880) dL_law_880 rfl rfl ?_
                      refine v_ialdN (pc := 881) 54 (k := c4) rfl (by omega) (by omega) dL_law_881 ?_
                      refine v_iconst (pc := 882) (v := 1) dL_law_882 rfl ?_
                      refine v_iadd (pc := 883) dL_law_883 ?_
                      refine v_iastN (pc := 884) 54 (k := c4) rfl (by omega) (by omega) dL_law_884 ?_
                      try dsimp only [wb, tlS_0, tlS_1, tlS_2, tlS_3, tlS_4, tlS_5, tlS_6, tlS_7, tlS_8, tlC_0, tlC_1, tlC_2, tlC_3, LawM, LakeM, WaysM, WorldM, SimM, List.set_cons_succ, List.set_cons_zero, List.append_nil, List.nil_append, List.cons_append, Option.toList, Nat.sub_zero]
                      refine v_iinc (pc := 885) (v := nI (i + 1)) dL_law_885 rfl (nI_1 _) (by show _ < 26; decide) rfl ?_
                      refine v_goto (pc := 888) (tgt := 330) dL_law_888 (by decide) ?_
                      refine v_room (ck' := ck + 20 * m) (sk' := sk + 120 * m) (by omega) (by omega) ?_
                      have k9 := ihK _ (lf_yes ⟨c453, c479, c862, Int32.not_le.mp c873⟩ (by rw [e4]; exact cN_nI (by omega)) hc4 hL)
                      refine v_sub ?_ k9
                      exact ⟨rfl, rfl, rfl, rfl, rfl, rfl, rfl, rfl, rfl, rfl, rfl, rfl, rfl, rfl, rfl, rfl, rfl, trivial⟩
                · refine v_aloadR (pc := 835) dL_law_835 rfl ?_
                  refine v_iload (pc := 837) dL_law_837 rfl ?_
                  refine v_aaldS (pc := 839) 50 (k := i) (by decide) rfl (by omega) (by omega) dL_law_839 ?_
                  refine v_iconst (pc := 840) (v := 3) dL_law_840 rfl ?_
                  refine v_ialdGN (pc := 841) 51 (j := 3) rfl (by omega) (by decide) (by decide) dL_law_841 ?_
                  try dsimp only [wb, tlS_0, tlS_1, tlS_2, tlS_3, tlS_4, tlS_5, tlS_6, tlS_7, tlS_8, tlC_0, tlC_1, tlC_2, tlC_3, LawM, LakeM, WaysM, WorldM, SimM, List.set_cons_succ, List.set_cons_zero, List.append_nil, List.nil_append, List.cons_append, Option.toList, Nat.sub_zero]
                  refine v_iconst (pc := 842) (v := 1) dL_law_842 rfl ?_
                  refine v_icmp_ne (pc := 843) (tgt := 853) dL_law_843 (by decide) (fun c843 => ?_) (fun c843 => ?_)
                  · refine v_aloadR (pc := 853) dL_law_853 rfl ?_
                    refine v_iload (pc := 855) dL_law_855 rfl ?_
                    refine v_aaldS (pc := 857) 50 (k := i) (by decide) rfl (by omega) (by omega) dL_law_857 ?_
                    refine v_bipush (pc := 858) (v := 6) dL_law_858 rfl ?_
                    refine v_ialdGN (pc := 860) 51 (j := 6) rfl (by omega) (by decide) (by decide) dL_law_860 ?_
                    try dsimp only [wb, tlS_0, tlS_1, tlS_2, tlS_3, tlS_4, tlS_5, tlS_6, tlS_7, tlS_8, tlC_0, tlC_1, tlC_2, tlC_3, LawM, LakeM, WaysM, WorldM, SimM, List.set_cons_succ, List.set_cons_zero, List.append_nil, List.nil_append, List.cons_append, Option.toList, Nat.sub_zero]
                    refine v_iconst (pc := 861) (v := 1) dL_law_861 rfl ?_
                    refine v_icmp_gt (pc := 862) (tgt := 885) dL_law_862 (by decide) (fun c862 => ?_) (fun c862 => ?_)
                    · refine v_iinc (pc := 885) (v := nI (i + 1)) dL_law_885 rfl (nI_1 _) (by show _ < 26; decide) rfl ?_
                      refine v_goto (pc := 888) (tgt := 330) dL_law_888 (by decide) ?_
                      refine v_room (ck' := ck + 20 * m) (sk' := sk + 120 * m) (by omega) (by omega) ?_
                      have k9 := ihK _ (lf_no (fun q => q.2.2.1 c862) hL)
                      refine v_sub ?_ k9
                      exact ⟨rfl, rfl, rfl, rfl, rfl, rfl, rfl, rfl, rfl, rfl, rfl, rfl, rfl, rfl, rfl, rfl, rfl, trivial⟩
                    · refine v_aload_nR (pc := 865) dL_law_865 rfl rfl ?_
                      refine v_iload (pc := 866) dL_law_866 rfl ?_
                      refine v_bipush (pc := 868) (v := 6) dL_law_868 rfl ?_
                      refine v_callV2 (pc := 870) (c7_sleigh hps hsc hbc (s := i) (q := 6) hi (by decide)) cm_X5_sleigh q323 q324 q325 (ci := 5) rfl rfl (orcO 0 rfl) [0, 1, 2, 3, 4, 5, 6, 7, 8, 9, 10, 11, 12, 13, 14, 15, 16, 17] (by rfl) (by decide) (fun _ _ h => h) (by omega) (by omega) (by decide) (Nat.le_of_ble_eq_true rfl) dL_law_870 (fun v870 M870 hQ870 => ?_)
                      obtain ⟨rfl, rfl⟩ := hQ870
                      try dsimp only [wb, tlS_0, tlS_1, tlS_2, tlS_3, tlS_4, tlS_5, tlS_6, tlS_7, tlS_8, tlC_0, tlC_1, tlC_2, tlC_3, LawM, LakeM, WaysM, WorldM, SimM, List.set_cons_succ, List.set_cons_zero, List.append_nil, List.nil_append, List.cons_append, Option.toList, Nat.sub_zero]
                      refine v_if_le (pc := 873) (tgt := 885) dL_law_873 (by decide) (fun c873 => ?_) (fun c873 => ?_)
                      · refine v_iinc (pc := 885) (v := nI (i + 1)) dL_law_885 rfl (nI_1 _) (by show _ < 26; decide) rfl ?_
                        refine v_goto (pc := 888) (tgt := 330) dL_law_888 (by decide) ?_
                        refine v_room (ck' := ck + 20 * m) (sk' := sk + 120 * m) (by omega) (by omega) ?_
                        have k9 := ihK _ (lf_no (fun q => Int32.not_le.mpr q.2.2.2 c873) hL)
                        refine v_sub ?_ k9
                        exact ⟨rfl, rfl, rfl, rfl, rfl, rfl, rfl, rfl, rfl, rfl, rfl, rfl, rfl, rfl, rfl, rfl, rfl, trivial⟩
                      · refine v_aloadR (pc := 876) dL_law_876 rfl ?_
                        refine v_iload (pc := 878) dL_law_878 rfl ?_
                        refine v_dup2 (pc := 880) dL_law_880 rfl rfl ?_
                        refine v_ialdN (pc := 881) 54 (k := c4) rfl (by omega) (by omega) dL_law_881 ?_
                        refine v_iconst (pc := 882) (v := 1) dL_law_882 rfl ?_
                        refine v_iadd (pc := 883) dL_law_883 ?_
                        refine v_iastN (pc := 884) 54 (k := c4) rfl (by omega) (by omega) dL_law_884 ?_
                        try dsimp only [wb, tlS_0, tlS_1, tlS_2, tlS_3, tlS_4, tlS_5, tlS_6, tlS_7, tlS_8, tlC_0, tlC_1, tlC_2, tlC_3, LawM, LakeM, WaysM, WorldM, SimM, List.set_cons_succ, List.set_cons_zero, List.append_nil, List.nil_append, List.cons_append, Option.toList, Nat.sub_zero]
                        refine v_iinc (pc := 885) (v := nI (i + 1)) dL_law_885 rfl (nI_1 _) (by show _ < 26; decide) rfl ?_
                        refine v_goto (pc := 888) (tgt := 330) dL_law_888 (by decide) ?_
                        refine v_room (ck' := ck + 20 * m) (sk' := sk + 120 * m) (by omega) (by omega) ?_
                        have k9 := ihK _ (lf_yes ⟨c453, c479, c862, Int32.not_le.mp c873⟩ (by rw [e4]; exact cN_nI (by omega)) hc4 hL)
                        refine v_sub ?_ k9
                        exact ⟨rfl, rfl, rfl, rfl, rfl, rfl, rfl, rfl, rfl, rfl, rfl, rfl, rfl, rfl, rfl, rfl, rfl, trivial⟩
                  · refine v_iload (pc := 846) dL_law_846 rfl ?_
                    refine v_if_ne (pc := 848) (tgt := 853) dL_law_848 (by decide) (fun c848 => ?_) (fun c848 => absurd c848 (by decide))
                    refine v_aloadR (pc := 853) dL_law_853 rfl ?_
                    refine v_iload (pc := 855) dL_law_855 rfl ?_
                    refine v_aaldS (pc := 857) 50 (k := i) (by decide) rfl (by omega) (by omega) dL_law_857 ?_
                    refine v_bipush (pc := 858) (v := 6) dL_law_858 rfl ?_
                    refine v_ialdGN (pc := 860) 51 (j := 6) rfl (by omega) (by decide) (by decide) dL_law_860 ?_
                    try dsimp only [wb, tlS_0, tlS_1, tlS_2, tlS_3, tlS_4, tlS_5, tlS_6, tlS_7, tlS_8, tlC_0, tlC_1, tlC_2, tlC_3, LawM, LakeM, WaysM, WorldM, SimM, List.set_cons_succ, List.set_cons_zero, List.append_nil, List.nil_append, List.cons_append, Option.toList, Nat.sub_zero]
                    refine v_iconst (pc := 861) (v := 1) dL_law_861 rfl ?_
                    refine v_icmp_gt (pc := 862) (tgt := 885) dL_law_862 (by decide) (fun c862 => ?_) (fun c862 => ?_)
                    · refine v_iinc (pc := 885) (v := nI (i + 1)) dL_law_885 rfl (nI_1 _) (by show _ < 26; decide) rfl ?_
                      refine v_goto (pc := 888) (tgt := 330) dL_law_888 (by decide) ?_
                      refine v_room (ck' := ck + 20 * m) (sk' := sk + 120 * m) (by omega) (by omega) ?_
                      have k9 := ihK _ (lf_no (fun q => q.2.2.1 c862) hL)
                      refine v_sub ?_ k9
                      exact ⟨rfl, rfl, rfl, rfl, rfl, rfl, rfl, rfl, rfl, rfl, rfl, rfl, rfl, rfl, rfl, rfl, rfl, trivial⟩
                    · refine v_aload_nR (pc := 865) dL_law_865 rfl rfl ?_
                      refine v_iload (pc := 866) dL_law_866 rfl ?_
                      refine v_bipush (pc := 868) (v := 6) dL_law_868 rfl ?_
                      refine v_callV2 (pc := 870) (c7_sleigh hps hsc hbc (s := i) (q := 6) hi (by decide)) cm_X5_sleigh q323 q324 q325 (ci := 5) rfl rfl (orcO 0 rfl) [0, 1, 2, 3, 4, 5, 6, 7, 8, 9, 10, 11, 12, 13, 14, 15, 16, 17] (by rfl) (by decide) (fun _ _ h => h) (by omega) (by omega) (by decide) (Nat.le_of_ble_eq_true rfl) dL_law_870 (fun v870 M870 hQ870 => ?_)
                      obtain ⟨rfl, rfl⟩ := hQ870
                      try dsimp only [wb, tlS_0, tlS_1, tlS_2, tlS_3, tlS_4, tlS_5, tlS_6, tlS_7, tlS_8, tlC_0, tlC_1, tlC_2, tlC_3, LawM, LakeM, WaysM, WorldM, SimM, List.set_cons_succ, List.set_cons_zero, List.append_nil, List.nil_append, List.cons_append, Option.toList, Nat.sub_zero]
                      refine v_if_le (pc := 873) (tgt := 885) dL_law_873 (by decide) (fun c873 => ?_) (fun c873 => ?_)
                      · refine v_iinc (pc := 885) (v := nI (i + 1)) dL_law_885 rfl (nI_1 _) (by show _ < 26; decide) rfl ?_
                        refine v_goto (pc := 888) (tgt := 330) dL_law_888 (by decide) ?_
                        refine v_room (ck' := ck + 20 * m) (sk' := sk + 120 * m) (by omega) (by omega) ?_
                        have k9 := ihK _ (lf_no (fun q => Int32.not_le.mpr q.2.2.2 c873) hL)
                        refine v_sub ?_ k9
                        exact ⟨rfl, rfl, rfl, rfl, rfl, rfl, rfl, rfl, rfl, rfl, rfl, rfl, rfl, rfl, rfl, rfl, rfl, trivial⟩
                      · refine v_aloadR (pc := 876) dL_law_876 rfl ?_
                        refine v_iload (pc := 878) dL_law_878 rfl ?_
                        refine v_dup2 (pc := 880) dL_law_880 rfl rfl ?_
                        refine v_ialdN (pc := 881) 54 (k := c4) rfl (by omega) (by omega) dL_law_881 ?_
                        refine v_iconst (pc := 882) (v := 1) dL_law_882 rfl ?_
                        refine v_iadd (pc := 883) dL_law_883 ?_
                        refine v_iastN (pc := 884) 54 (k := c4) rfl (by omega) (by omega) dL_law_884 ?_
                        try dsimp only [wb, tlS_0, tlS_1, tlS_2, tlS_3, tlS_4, tlS_5, tlS_6, tlS_7, tlS_8, tlC_0, tlC_1, tlC_2, tlC_3, LawM, LakeM, WaysM, WorldM, SimM, List.set_cons_succ, List.set_cons_zero, List.append_nil, List.nil_append, List.cons_append, Option.toList, Nat.sub_zero]
                        refine v_iinc (pc := 885) (v := nI (i + 1)) dL_law_885 rfl (nI_1 _) (by show _ < 26; decide) rfl ?_
                        refine v_goto (pc := 888) (tgt := 330) dL_law_888 (by decide) ?_
                        refine v_room (ck' := ck + 20 * m) (sk' := sk + 120 * m) (by omega) (by omega) ?_
                        have k9 := ihK _ (lf_yes ⟨c453, c479, c862, Int32.not_le.mp c873⟩ (by rw [e4]; exact cN_nI (by omega)) hc4 hL)
                        refine v_sub ?_ k9
                        exact ⟨rfl, rfl, rfl, rfl, rfl, rfl, rfl, rfl, rfl, rfl, rfl, rfl, rfl, rfl, rfl, rfl, rfl, trivial⟩
    · have h49 := f4 c453 c479
      have ec : cN (SF0 i 4) = c4 := by rw [← h49.1, e4, cN_nI (by omega)]
      rw [ec] at h49
      obtain ⟨g1, g2, g3, g4, g5⟩ := h49
      refine v_bipush (pc := 482) (v := 8) dL_law_482 rfl ?_
      refine v_aloadR (pc := 484) dL_law_484 rfl ?_
      refine v_iload (pc := 486) dL_law_486 rfl ?_
      refine v_aaldS (pc := 488) 50 (k := i) (by decide) rfl (by omega) (by omega) dL_law_488 ?_
      refine v_iconst (pc := 489) (v := 1) dL_law_489 rfl ?_
      refine v_ialdGN (pc := 490) 51 (j := 1) rfl (by omega) (by decide) (by decide) dL_law_490 ?_
      try dsimp only [wb, tlS_0, tlS_1, tlS_2, tlS_3, tlS_4, tlS_5, tlS_6, tlS_7, tlS_8, tlC_0, tlC_1, tlC_2, tlC_3, LawM, LakeM, WaysM, WorldM, SimM, List.set_cons_succ, List.set_cons_zero, List.append_nil, List.nil_append, List.cons_append, Option.toList, Nat.sub_zero]
      refine v_bipush (pc := 491) (v := 12) dL_law_491 rfl ?_
      refine v_idiv (pc := 493) dL_law_493 (by decide) ?_
      refine v_iadd (pc := 494) dL_law_494 ?_
      refine v_aload_nR (pc := 495) dL_law_495 rfl rfl ?_
      refine v_iload (pc := 496) dL_law_496 rfl ?_
      refine v_bipush (pc := 498) (v := 16) dL_law_498 rfl ?_
      refine v_irem (pc := 500) dL_law_500 (by decide) ?_
      rw [show nI c4 - nI c4 / 16 * 16 = nI (c4 % 16) from pk_rem (d := 16) (by omega) (by decide) (by decide)]
      refine v_iload (pc := 501) dL_law_501 rfl ?_
      refine v_bipush (pc := 503) (v := 16) dL_law_503 rfl ?_
      refine v_idiv (pc := 505) dL_law_505 (by decide) ?_
      rw [show nI c4 / 16 = nI (c4 / 16) from pk_div (d := 16) (by omega) (by decide) (by decide)]
      refine v_iconst (pc := 506) (v := 3) dL_law_506 rfl ?_
      refine v_callV3 (pc := 507) (c7_cell hps hsc hbc (c := c4) (e9 := 3) hc4 (by decide)) cm_X5_cell q207 q208 q209 (ci := 5) rfl rfl (orcO 0 rfl) [0, 1, 2, 3, 4, 5, 6, 7, 8, 9, 10, 11, 12, 13, 14, 15, 16, 17] (by rfl) (by decide) (fun _ _ h => h) (by omega) (by omega) (by decide) (Nat.le_of_ble_eq_true rfl) dL_law_507 (fun v507 M507 hQ507 => ?_)
      obtain ⟨rfl, rfl⟩ := hQ507
      try dsimp only [wb, tlS_0, tlS_1, tlS_2, tlS_3, tlS_4, tlS_5, tlS_6, tlS_7, tlS_8, tlC_0, tlC_1, tlC_2, tlC_3, LawM, LakeM, WaysM, WorldM, SimM, List.set_cons_succ, List.set_cons_zero, List.append_nil, List.nil_append, List.cons_append, Option.toList, Nat.sub_zero]
      refine v_iconst (pc := 510) (v := 1) dL_law_510 rfl ?_
      refine v_icmp_ne (pc := 511) (tgt := 518) dL_law_511 (by decide) (fun c511 => ?_) (fun c511 => ?_)
      · refine v_iconst (pc := 518) (v := 1) dL_law_518 rfl ?_
        refine v_imul (pc := 519) dL_law_519 ?_
        refine v_istore (pc := 520) dL_law_520 (by show _ < 26; decide) rfl ?_
        have hC9 : C c4 = 0 := Classical.byContradiction (fun q => c511 (bI_t q))
        have g33 : T c4 < (8 + slW SF0 i / 12) * 1 := by
          unfold ndM at g3
          rw [if_neg (fun q => q hC9)] at g3
          exact g3
        refine v_iload (pc := 522) dL_law_522 rfl ?_
        refine v_aloadR (pc := 524) dL_law_524 rfl ?_
        refine v_iload (pc := 526) dL_law_526 rfl ?_
        refine v_aaldS (pc := 528) 50 (k := i) (by decide) rfl (by omega) (by omega) dL_law_528 ?_
        refine v_iconst (pc := 529) (v := 4) dL_law_529 rfl ?_
        refine v_ialdGN (pc := 530) 51 (j := 4) rfl (by omega) (by decide) (by decide) dL_law_530 ?_
        try dsimp only [wb, tlS_0, tlS_1, tlS_2, tlS_3, tlS_4, tlS_5, tlS_6, tlS_7, tlS_8, tlC_0, tlC_1, tlC_2, tlC_3, LawM, LakeM, WaysM, WorldM, SimM, List.set_cons_succ, List.set_cons_zero, List.append_nil, List.nil_append, List.cons_append, Option.toList, Nat.sub_zero]
        refine v_icmp_ne (pc := 531) (tgt := 605) dL_law_531 (by decide) (fun c531 => absurd (e4.symm.trans g1) c531) (fun c531 => ?_)
        refine v_aload_nR (pc := 534) dL_law_534 rfl rfl ?_
        refine v_iload (pc := 535) dL_law_535 rfl ?_
        refine v_bipush (pc := 537) (v := 16) dL_law_537 rfl ?_
        refine v_irem (pc := 539) dL_law_539 (by decide) ?_
        rw [show nI c4 - nI c4 / 16 * 16 = nI (c4 % 16) from pk_rem (d := 16) (by omega) (by decide) (by decide)]
        refine v_iload (pc := 540) dL_law_540 rfl ?_
        refine v_bipush (pc := 542) (v := 16) dL_law_542 rfl ?_
        refine v_idiv (pc := 544) dL_law_544 (by decide) ?_
        rw [show nI c4 / 16 = nI (c4 / 16) from pk_div (d := 16) (by omega) (by decide) (by decide)]
        refine v_iconst (pc := 545) (v := 0) dL_law_545 rfl ?_
        refine v_callV3 (pc := 546) (c7_cell hps hsc hbc (c := c4) (e9 := 0) hc4 (by decide)) cm_X5_cell q207 q208 q209 (ci := 5) rfl rfl (orcO 0 rfl) [0, 1, 2, 3, 4, 5, 6, 7, 8, 9, 10, 11, 12, 13, 14, 15, 16, 17] (by rfl) (by decide) (fun _ _ h => h) (by omega) (by omega) (by decide) (Nat.le_of_ble_eq_true rfl) dL_law_546 (fun v546 M546 hQ546 => ?_)
        obtain ⟨rfl, rfl⟩ := hQ546
        try dsimp only [wb, tlS_0, tlS_1, tlS_2, tlS_3, tlS_4, tlS_5, tlS_6, tlS_7, tlS_8, tlC_0, tlC_1, tlC_2, tlC_3, LawM, LakeM, WaysM, WorldM, SimM, List.set_cons_succ, List.set_cons_zero, List.append_nil, List.nil_append, List.cons_append, Option.toList, Nat.sub_zero]
        refine v_if_lt (pc := 549) (tgt := 605) dL_law_549 (by decide) (fun c549 => absurd c549 g2) (fun c549 => ?_)
        refine v_aload_nR (pc := 552) dL_law_552 rfl rfl ?_
        refine v_iload (pc := 553) dL_law_553 rfl ?_
        refine v_bipush (pc := 555) (v := 16) dL_law_555 rfl ?_
        refine v_irem (pc := 557) dL_law_557 (by decide) ?_
        rw [show nI c4 - nI c4 / 16 * 16 = nI (c4 % 16) from pk_rem (d := 16) (by omega) (by decide) (by decide)]
        refine v_iload (pc := 558) dL_law_558 rfl ?_
        refine v_bipush (pc := 560) (v := 16) dL_law_560 rfl ?_
        refine v_idiv (pc := 562) dL_law_562 (by decide) ?_
        rw [show nI c4 / 16 = nI (c4 / 16) from pk_div (d := 16) (by omega) (by decide) (by decide)]
        refine v_iconst (pc := 563) (v := 0) dL_law_563 rfl ?_
        refine v_callV3 (pc := 564) (c7_cell hps hsc hbc (c := c4) (e9 := 0) hc4 (by decide)) cm_X5_cell q207 q208 q209 (ci := 5) rfl rfl (orcO 0 rfl) [0, 1, 2, 3, 4, 5, 6, 7, 8, 9, 10, 11, 12, 13, 14, 15, 16, 17] (by rfl) (by decide) (fun _ _ h => h) (by omega) (by omega) (by decide) (Nat.le_of_ble_eq_true rfl) dL_law_564 (fun v564 M564 hQ564 => ?_)
        obtain ⟨rfl, rfl⟩ := hQ564
        try dsimp only [wb, tlS_0, tlS_1, tlS_2, tlS_3, tlS_4, tlS_5, tlS_6, tlS_7, tlS_8, tlC_0, tlC_1, tlC_2, tlC_3, LawM, LakeM, WaysM, WorldM, SimM, List.set_cons_succ, List.set_cons_zero, List.append_nil, List.nil_append, List.cons_append, Option.toList, Nat.sub_zero]
        refine v_iload (pc := 567) dL_law_567 rfl ?_
        refine v_icmp_ge (pc := 569) (tgt := 605) dL_law_569 (by decide) (fun c569 => absurd g33 (Int32.not_lt.mpr c569)) (fun c569 => ?_)
        refine v_aload_nR (pc := 572) dL_law_572 rfl rfl ?_
        refine v_iload (pc := 573) dL_law_573 rfl ?_
        refine v_iconst (pc := 575) (v := 5) dL_law_575 rfl ?_
        refine v_callV2 (pc := 576) (c7_sleigh hps hsc hbc (s := i) (q := 5) hi (by decide)) cm_X5_sleigh q323 q324 q325 (ci := 5) rfl rfl (orcO 0 rfl) [0, 1, 2, 3, 4, 5, 6, 7, 8, 9, 10, 11, 12, 13, 14, 15, 16, 17] (by rfl) (by decide) (fun _ _ h => h) (by omega) (by omega) (by decide) (Nat.le_of_ble_eq_true rfl) dL_law_576 (fun v576 M576 hQ576 => ?_)
        obtain ⟨rfl, rfl⟩ := hQ576
        try dsimp only [wb, tlS_0, tlS_1, tlS_2, tlS_3, tlS_4, tlS_5, tlS_6, tlS_7, tlS_8, tlC_0, tlC_1, tlC_2, tlC_3, LawM, LakeM, WaysM, WorldM, SimM, List.set_cons_succ, List.set_cons_zero, List.append_nil, List.nil_append, List.cons_append, Option.toList, Nat.sub_zero]
        refine v_iconst (pc := 579) (v := -1) dL_law_579 rfl ?_
        refine v_icmp_ne (pc := 580) (tgt := 605) dL_law_580 (by decide) (fun c580 => absurd g4 c580) (fun c580 => ?_)
        refine v_aload_nR (pc := 583) dL_law_583 rfl rfl ?_
        refine v_iload (pc := 584) dL_law_584 rfl ?_
        refine v_bipush (pc := 586) (v := 6) dL_law_586 rfl ?_
        refine v_callV2 (pc := 588) (c7_sleigh hps hsc hbc (s := i) (q := 6) hi (by decide)) cm_X5_sleigh q323 q324 q325 (ci := 5) rfl rfl (orcO 0 rfl) [0, 1, 2, 3, 4, 5, 6, 7, 8, 9, 10, 11, 12, 13, 14, 15, 16, 17] (by rfl) (by decide) (fun _ _ h => h) (by omega) (by omega) (by decide) (Nat.le_of_ble_eq_true rfl) dL_law_588 (fun v588 M588 hQ588 => ?_)
        obtain ⟨rfl, rfl⟩ := hQ588
        try dsimp only [wb, tlS_0, tlS_1, tlS_2, tlS_3, tlS_4, tlS_5, tlS_6, tlS_7, tlS_8, tlC_0, tlC_1, tlC_2, tlC_3, LawM, LakeM, WaysM, WorldM, SimM, List.set_cons_succ, List.set_cons_zero, List.append_nil, List.nil_append, List.cons_append, Option.toList, Nat.sub_zero]
        refine v_if_ne (pc := 591) (tgt := 605) dL_law_591 (by decide) (fun c591 => absurd g5 c591) (fun c591 => ?_)
        refine v_aload_nR (pc := 594) dL_law_594 rfl rfl ?_
        refine v_iload (pc := 595) dL_law_595 rfl ?_
        refine v_bipush (pc := 597) (v := 8) dL_law_597 rfl ?_
        refine v_callV2 (pc := 599) (c7_sleigh hps hsc hbc (s := i) (q := 8) hi (by decide)) cm_X5_sleigh q323 q324 q325 (ci := 5) rfl rfl (orcO 0 rfl) [0, 1, 2, 3, 4, 5, 6, 7, 8, 9, 10, 11, 12, 13, 14, 15, 16, 17] (by rfl) (by decide) (fun _ _ h => h) (by omega) (by omega) (by decide) (Nat.le_of_ble_eq_true rfl) dL_law_599 (fun v599 M599 hQ599 => ?_)
        obtain ⟨rfl, rfl⟩ := hQ599
        try dsimp only [wb, tlS_0, tlS_1, tlS_2, tlS_3, tlS_4, tlS_5, tlS_6, tlS_7, tlS_8, tlC_0, tlC_1, tlC_2, tlC_3, LawM, LakeM, WaysM, WorldM, SimM, List.set_cons_succ, List.set_cons_zero, List.append_nil, List.nil_append, List.cons_append, Option.toList, Nat.sub_zero]
        refine v_if_eq (pc := 602) (tgt := 885) dL_law_602 (by decide) (fun c602 => ?_) (fun c602 => absurd (fK i hi c479) c602)
        refine v_iinc (pc := 885) (v := nI (i + 1)) dL_law_885 rfl (nI_1 _) (by show _ < 26; decide) rfl ?_
        refine v_goto (pc := 888) (tgt := 330) dL_law_888 (by decide) ?_
        refine v_room (ck' := ck + 20 * m) (sk' := sk + 120 * m) (by omega) (by omega) ?_
        have k9 := ihK _ (lf_no (fun q => q.2.1 c479) hL)
        refine v_sub ?_ k9
        exact ⟨rfl, rfl, rfl, rfl, rfl, rfl, rfl, rfl, rfl, rfl, rfl, rfl, rfl, rfl, rfl, rfl, rfl, trivial⟩
      · refine v_iconst (pc := 514) (v := 2) dL_law_514 rfl ?_
        refine v_goto (pc := 515) (tgt := 519) dL_law_515 (by decide) ?_
        refine v_imul (pc := 519) dL_law_519 ?_
        refine v_istore (pc := 520) dL_law_520 (by show _ < 26; decide) rfl ?_
        have hC9 : ¬ C c4 = 0 := bI_n.mp (by rw [c511]; decide)
        have g33 : T c4 < (8 + slW SF0 i / 12) * 2 := by
          unfold ndM at g3
          rw [if_pos hC9] at g3
          exact g3
        refine v_iload (pc := 522) dL_law_522 rfl ?_
        refine v_aloadR (pc := 524) dL_law_524 rfl ?_
        refine v_iload (pc := 526) dL_law_526 rfl ?_
        refine v_aaldS (pc := 528) 50 (k := i) (by decide) rfl (by omega) (by omega) dL_law_528 ?_
        refine v_iconst (pc := 529) (v := 4) dL_law_529 rfl ?_
        refine v_ialdGN (pc := 530) 51 (j := 4) rfl (by omega) (by decide) (by decide) dL_law_530 ?_
        try dsimp only [wb, tlS_0, tlS_1, tlS_2, tlS_3, tlS_4, tlS_5, tlS_6, tlS_7, tlS_8, tlC_0, tlC_1, tlC_2, tlC_3, LawM, LakeM, WaysM, WorldM, SimM, List.set_cons_succ, List.set_cons_zero, List.append_nil, List.nil_append, List.cons_append, Option.toList, Nat.sub_zero]
        refine v_icmp_ne (pc := 531) (tgt := 605) dL_law_531 (by decide) (fun c531 => absurd (e4.symm.trans g1) c531) (fun c531 => ?_)
        refine v_aload_nR (pc := 534) dL_law_534 rfl rfl ?_
        refine v_iload (pc := 535) dL_law_535 rfl ?_
        refine v_bipush (pc := 537) (v := 16) dL_law_537 rfl ?_
        refine v_irem (pc := 539) dL_law_539 (by decide) ?_
        rw [show nI c4 - nI c4 / 16 * 16 = nI (c4 % 16) from pk_rem (d := 16) (by omega) (by decide) (by decide)]
        refine v_iload (pc := 540) dL_law_540 rfl ?_
        refine v_bipush (pc := 542) (v := 16) dL_law_542 rfl ?_
        refine v_idiv (pc := 544) dL_law_544 (by decide) ?_
        rw [show nI c4 / 16 = nI (c4 / 16) from pk_div (d := 16) (by omega) (by decide) (by decide)]
        refine v_iconst (pc := 545) (v := 0) dL_law_545 rfl ?_
        refine v_callV3 (pc := 546) (c7_cell hps hsc hbc (c := c4) (e9 := 0) hc4 (by decide)) cm_X5_cell q207 q208 q209 (ci := 5) rfl rfl (orcO 0 rfl) [0, 1, 2, 3, 4, 5, 6, 7, 8, 9, 10, 11, 12, 13, 14, 15, 16, 17] (by rfl) (by decide) (fun _ _ h => h) (by omega) (by omega) (by decide) (Nat.le_of_ble_eq_true rfl) dL_law_546 (fun v546 M546 hQ546 => ?_)
        obtain ⟨rfl, rfl⟩ := hQ546
        try dsimp only [wb, tlS_0, tlS_1, tlS_2, tlS_3, tlS_4, tlS_5, tlS_6, tlS_7, tlS_8, tlC_0, tlC_1, tlC_2, tlC_3, LawM, LakeM, WaysM, WorldM, SimM, List.set_cons_succ, List.set_cons_zero, List.append_nil, List.nil_append, List.cons_append, Option.toList, Nat.sub_zero]
        refine v_if_lt (pc := 549) (tgt := 605) dL_law_549 (by decide) (fun c549 => absurd c549 g2) (fun c549 => ?_)
        refine v_aload_nR (pc := 552) dL_law_552 rfl rfl ?_
        refine v_iload (pc := 553) dL_law_553 rfl ?_
        refine v_bipush (pc := 555) (v := 16) dL_law_555 rfl ?_
        refine v_irem (pc := 557) dL_law_557 (by decide) ?_
        rw [show nI c4 - nI c4 / 16 * 16 = nI (c4 % 16) from pk_rem (d := 16) (by omega) (by decide) (by decide)]
        refine v_iload (pc := 558) dL_law_558 rfl ?_
        refine v_bipush (pc := 560) (v := 16) dL_law_560 rfl ?_
        refine v_idiv (pc := 562) dL_law_562 (by decide) ?_
        rw [show nI c4 / 16 = nI (c4 / 16) from pk_div (d := 16) (by omega) (by decide) (by decide)]
        refine v_iconst (pc := 563) (v := 0) dL_law_563 rfl ?_
        refine v_callV3 (pc := 564) (c7_cell hps hsc hbc (c := c4) (e9 := 0) hc4 (by decide)) cm_X5_cell q207 q208 q209 (ci := 5) rfl rfl (orcO 0 rfl) [0, 1, 2, 3, 4, 5, 6, 7, 8, 9, 10, 11, 12, 13, 14, 15, 16, 17] (by rfl) (by decide) (fun _ _ h => h) (by omega) (by omega) (by decide) (Nat.le_of_ble_eq_true rfl) dL_law_564 (fun v564 M564 hQ564 => ?_)
        obtain ⟨rfl, rfl⟩ := hQ564
        try dsimp only [wb, tlS_0, tlS_1, tlS_2, tlS_3, tlS_4, tlS_5, tlS_6, tlS_7, tlS_8, tlC_0, tlC_1, tlC_2, tlC_3, LawM, LakeM, WaysM, WorldM, SimM, List.set_cons_succ, List.set_cons_zero, List.append_nil, List.nil_append, List.cons_append, Option.toList, Nat.sub_zero]
        refine v_iload (pc := 567) dL_law_567 rfl ?_
        refine v_icmp_ge (pc := 569) (tgt := 605) dL_law_569 (by decide) (fun c569 => absurd g33 (Int32.not_lt.mpr c569)) (fun c569 => ?_)
        refine v_aload_nR (pc := 572) dL_law_572 rfl rfl ?_
        refine v_iload (pc := 573) dL_law_573 rfl ?_
        refine v_iconst (pc := 575) (v := 5) dL_law_575 rfl ?_
        refine v_callV2 (pc := 576) (c7_sleigh hps hsc hbc (s := i) (q := 5) hi (by decide)) cm_X5_sleigh q323 q324 q325 (ci := 5) rfl rfl (orcO 0 rfl) [0, 1, 2, 3, 4, 5, 6, 7, 8, 9, 10, 11, 12, 13, 14, 15, 16, 17] (by rfl) (by decide) (fun _ _ h => h) (by omega) (by omega) (by decide) (Nat.le_of_ble_eq_true rfl) dL_law_576 (fun v576 M576 hQ576 => ?_)
        obtain ⟨rfl, rfl⟩ := hQ576
        try dsimp only [wb, tlS_0, tlS_1, tlS_2, tlS_3, tlS_4, tlS_5, tlS_6, tlS_7, tlS_8, tlC_0, tlC_1, tlC_2, tlC_3, LawM, LakeM, WaysM, WorldM, SimM, List.set_cons_succ, List.set_cons_zero, List.append_nil, List.nil_append, List.cons_append, Option.toList, Nat.sub_zero]
        refine v_iconst (pc := 579) (v := -1) dL_law_579 rfl ?_
        refine v_icmp_ne (pc := 580) (tgt := 605) dL_law_580 (by decide) (fun c580 => absurd g4 c580) (fun c580 => ?_)
        refine v_aload_nR (pc := 583) dL_law_583 rfl rfl ?_
        refine v_iload (pc := 584) dL_law_584 rfl ?_
        refine v_bipush (pc := 586) (v := 6) dL_law_586 rfl ?_
        refine v_callV2 (pc := 588) (c7_sleigh hps hsc hbc (s := i) (q := 6) hi (by decide)) cm_X5_sleigh q323 q324 q325 (ci := 5) rfl rfl (orcO 0 rfl) [0, 1, 2, 3, 4, 5, 6, 7, 8, 9, 10, 11, 12, 13, 14, 15, 16, 17] (by rfl) (by decide) (fun _ _ h => h) (by omega) (by omega) (by decide) (Nat.le_of_ble_eq_true rfl) dL_law_588 (fun v588 M588 hQ588 => ?_)
        obtain ⟨rfl, rfl⟩ := hQ588
        try dsimp only [wb, tlS_0, tlS_1, tlS_2, tlS_3, tlS_4, tlS_5, tlS_6, tlS_7, tlS_8, tlC_0, tlC_1, tlC_2, tlC_3, LawM, LakeM, WaysM, WorldM, SimM, List.set_cons_succ, List.set_cons_zero, List.append_nil, List.nil_append, List.cons_append, Option.toList, Nat.sub_zero]
        refine v_if_ne (pc := 591) (tgt := 605) dL_law_591 (by decide) (fun c591 => absurd g5 c591) (fun c591 => ?_)
        refine v_aload_nR (pc := 594) dL_law_594 rfl rfl ?_
        refine v_iload (pc := 595) dL_law_595 rfl ?_
        refine v_bipush (pc := 597) (v := 8) dL_law_597 rfl ?_
        refine v_callV2 (pc := 599) (c7_sleigh hps hsc hbc (s := i) (q := 8) hi (by decide)) cm_X5_sleigh q323 q324 q325 (ci := 5) rfl rfl (orcO 0 rfl) [0, 1, 2, 3, 4, 5, 6, 7, 8, 9, 10, 11, 12, 13, 14, 15, 16, 17] (by rfl) (by decide) (fun _ _ h => h) (by omega) (by omega) (by decide) (Nat.le_of_ble_eq_true rfl) dL_law_599 (fun v599 M599 hQ599 => ?_)
        obtain ⟨rfl, rfl⟩ := hQ599
        try dsimp only [wb, tlS_0, tlS_1, tlS_2, tlS_3, tlS_4, tlS_5, tlS_6, tlS_7, tlS_8, tlC_0, tlC_1, tlC_2, tlC_3, LawM, LakeM, WaysM, WorldM, SimM, List.set_cons_succ, List.set_cons_zero, List.append_nil, List.nil_append, List.cons_append, Option.toList, Nat.sub_zero]
        refine v_if_eq (pc := 602) (tgt := 885) dL_law_602 (by decide) (fun c602 => ?_) (fun c602 => absurd (fK i hi c479) c602)
        refine v_iinc (pc := 885) (v := nI (i + 1)) dL_law_885 rfl (nI_1 _) (by show _ < 26; decide) rfl ?_
        refine v_goto (pc := 888) (tgt := 330) dL_law_888 (by decide) ?_
        refine v_room (ck' := ck + 20 * m) (sk' := sk + 120 * m) (by omega) (by omega) ?_
        have k9 := ihK _ (lf_no (fun q => q.2.1 c479) hL)
        refine v_sub ?_ k9
        exact ⟨rfl, rfl, rfl, rfl, rfl, rfl, rfl, rfl, rfl, rfl, rfl, rfl, rfl, rfl, rfl, rfl, rfl, trivial⟩
  · refine v_iload (pc := 456) dL_law_456 rfl ?_
    refine v_iconst (pc := 458) (v := 2) dL_law_458 rfl ?_
    refine v_icmp_ne (pc := 459) (tgt := 474) dL_law_459 (by decide) (fun c459 => absurd (f3 c453).1 c459) (fun c459 => ?_)
    refine v_iload (pc := 462) dL_law_462 rfl ?_
    refine v_aloadR (pc := 464) dL_law_464 rfl ?_
    refine v_iload (pc := 466) dL_law_466 rfl ?_
    refine v_aaldS (pc := 468) 50 (k := i) (by decide) rfl (by omega) (by omega) dL_law_468 ?_
    refine v_iconst (pc := 469) (v := 4) dL_law_469 rfl ?_
    refine v_ialdGN (pc := 470) 51 (j := 4) rfl (by omega) (by decide) (by decide) dL_law_470 ?_
    try dsimp only [wb, tlS_0, tlS_1, tlS_2, tlS_3, tlS_4, tlS_5, tlS_6, tlS_7, tlS_8, tlC_0, tlC_1, tlC_2, tlC_3, LawM, LakeM, WaysM, WorldM, SimM, List.set_cons_succ, List.set_cons_zero, List.append_nil, List.nil_append, List.cons_append, Option.toList, Nat.sub_zero]
    refine v_icmp_eq (pc := 471) (tgt := 885) dL_law_471 (by decide) (fun c471 => ?_) (fun c471 => absurd (e4.symm.trans (f3 c453).2) c471)
    refine v_iinc (pc := 885) (v := nI (i + 1)) dL_law_885 rfl (nI_1 _) (by show _ < 26; decide) rfl ?_
    refine v_goto (pc := 888) (tgt := 330) dL_law_888 (by decide) ?_
    refine v_room (ck' := ck + 20 * m) (sk' := sk + 120 * m) (by omega) (by omega) ?_
    have k9 := ihK _ (lf_no (fun q => q.1 c453) hL)
    refine v_sub ?_ k9
    exact ⟨rfl, rfl, rfl, rfl, rfl, rfl, rfl, rfl, rfl, rfl, rfl, rfl, rfl, rfl, rfl, rfl, rfl, trivial⟩
set_option maxRecDepth 100000 in
set_option maxHeartbeats 4000000 in
theorem lw_sl {G : Cx} {nm : String} {hd9 : List (Nat × Nat × Nat × Nat)} {Z : ZT} {ck sk : Nat} {g0 : Nat} {w u v xs bs : Nat → Nat} {a b f : Nat → Int32} {wa : Int32} {lr : Value} {nd dg : Int32} {T N S C B O : Nat → Int32} {ch : Int32} {PC : Nat → Int32} {SF BF : Nat → Nat → Int32} {ps sc bc hh : Nat} {a2 b2 f2 : Nat → Int32} {wa2 : Int32} {lr2 : Value} {nd2 dg2 : Int32} {T2 N2 S2 C2 B2 O2 : Nat → Int32} {ch2 : Int32} {PC2 : Nat → Int32} {SF2 BF2 : Nat → Nat → Int32} {ps2 sc2 hh2 : Nat} {MX H D : Nat → Int32} (hps : ps ≤ 8) (hsc : sc ≤ 5) (hbc : bc ≤ 40) {T0 S0 C0 : Nat → Int32} {ch0 : Int32} {SF0 BF0 : Nat → Nat → Int32} {MX0 : Nat → Int32} {B0 B1 t0 : Nat} {r7 r8 r9 : Nat → Nat} {a7 a8 a9 a15 wo : Nat} {sn cm cd im : Int32} (hI : LI N O PC ps sc bc T S C ch SF BF MX B0) (hI0 : LI N O PC ps sc bc T0 S0 C0 ch0 SF0 BF0 MX0 B1) (fS : ∀ i, i < sc → slF T C SF0 SF i) (fK : ∀ i, i < sc → SF i 3 = 2 → sumN (bgF BF bc (nI i)) 40 = 0) (hsn : sn = (if SF wo 3 = 2 then -1 else SF wo 4)) (hwo : wo < sc)
    (K : ∀ LF : Nat → Int32, (∀ c, c < 160 → LF c = nI (fb_ct (lfB SF0 SF c) sc)) → V G (YL nm hd9) Z 9 (ck) (sk) 891 [some (.ref G.2.2.2.1), some (.ref g0), some (.ref (v 0)), some (.int (nI sc)), some (.int (nI bc)), some (.int (nI t0)), none, some (.ref a7), some (.ref a8), some (.ref a9), none, none, some (.int cm), some (.int cd), some (.int im), some (.ref a15), some (.int 0), none, none, none, none, none, none, none, none, none] [] (LawM g0 w u v xs bs a b f wa lr nd dg T N S C B O ch PC SF BF ps sc bc hh a2 b2 f2 wa2 lr2 nd2 dg2 T2 N2 S2 C2 B2 O2 ch2 PC2 SF2 BF2 ps2 sc2 hh2 MX H D ++ [eQ 5 a7 160 (fun j => some (r7 j)), eG r7 160 4 (tlC T0 N S0 C0 PC SF0 ps sc), eQ 5 a8 sc (fun j => some (r8 j)), eG r8 sc 9 (tlS SF0 BF0 bc), eQ 5 a9 bc (fun j => some (r9 j)), eG r9 bc 5 BF0, eI a15 160 LF])) : ∀ (m i : Nat), m + i = sc → ∀ LF : Nat → Int32, (∀ c, c < 160 → LF c = nI (fb_ct (lfB SF0 SF c) i)) → V G (YL nm hd9) Z 9 (ck + 20 * m) (sk + 120 * m) 330 [some (.ref G.2.2.2.1), some (.ref g0), some (.ref (v 0)), some (.int (nI sc)), some (.int (nI bc)), some (.int (nI t0)), none, some (.ref a7), some (.ref a8), some (.ref a9), some (.int (nI wo)), some (.int sn), some (.int cm), some (.int cd), some (.int im), some (.ref a15), some (.int 0), some (.int (nI i)), none, none, none, none, none, none, none, none] [] (LawM g0 w u v xs bs a b f wa lr nd dg T N S C B O ch PC SF BF ps sc bc hh a2 b2 f2 wa2 lr2 nd2 dg2 T2 N2 S2 C2 B2 O2 ch2 PC2 SF2 BF2 ps2 sc2 hh2 MX H D ++ [eQ 5 a7 160 (fun j => some (r7 j)), eG r7 160 4 (tlC T0 N S0 C0 PC SF0 ps sc), eQ 5 a8 sc (fun j => some (r8 j)), eG r8 sc 9 (tlS SF0 BF0 bc), eQ 5 a9 bc (fun j => some (r9 j)), eG r9 bc 5 BF0, eI a15 160 LF]) := by
  intro m
  induction m with
  | zero =>
    intro i hi LF hL
    refine v_iload (pc := 330) dL_law_330 rfl ?_
    refine v_iload_n (pc := 332) dL_law_332 rfl rfl ?_
    refine v_icmp_ge (pc := 333) (tgt := 891) dL_law_333 (by decide) (fun c333 => ?_) (fun c333 => absurd (nI_le (a := sc) (b := i) (by omega) (by omega)) c333)
    have c333 : sc ≤ i := (nI_leI (a := sc) (b := i) (by omega) (by omega)).mp c333
    refine v_room (ck' := ck) (sk' := sk) (by omega) (by omega) ?_
    refine v_sub ?_ (K LF (by rw [← show i = sc by omega]; exact hL))
    exact ⟨rfl, rfl, rfl, rfl, rfl, rfl, rfl, rfl, rfl, rfl, rfl, rfl, rfl, rfl, trivial⟩
  | succ m ih =>
    intro i him LF hL
    have hi : i < sc := by omega
    have h04 := (hI.1.2.2.2.1.1 i hi).2.1
    obtain ⟨c4, hc4, e4⟩ : ∃ c4, c4 < 160 ∧ SF i 4 = nI c4 := ⟨_, (cN_of h04).2, (cN_of h04).1⟩
    have K380 := lw_s380 (G := G) (nm := nm) (hd9 := hd9) (Z := Z) (ck := ck) (sk := sk) (g0 := g0) (w := w) (u := u) (v := v) (xs := xs) (bs := bs) (a := a) (b := b) (f := f) (wa := wa) (lr := lr) (nd := nd) (dg := dg) (T := T) (N := N) (S := S) (C := C) (B := B) (O := O) (ch := ch) (PC := PC) (SF := SF) (BF := BF) (ps := ps) (sc := sc) (bc := bc) (hh := hh) (a2 := a2) (b2 := b2) (f2 := f2) (wa2 := wa2) (lr2 := lr2) (nd2 := nd2) (dg2 := dg2) (T2 := T2) (N2 := N2) (S2 := S2) (C2 := C2) (B2 := B2) (O2 := O2) (ch2 := ch2) (PC2 := PC2) (SF2 := SF2) (BF2 := BF2) (ps2 := ps2) (sc2 := sc2) (hh2 := hh2) (MX := MX) (H := H) (D := D) (t0 := t0) (r7 := r7) (r8 := r8) (r9 := r9) (a7 := a7) (a8 := a8) (a9 := a9) (a15 := a15) (cm := cm) (cd := cd) (im := im) (m := m) hps hsc hbc hI hI0 fS fK hi hc4 e4 hL (fun LF hL9 => by
      have k9 := ih (i + 1) (by omega) LF hL9
      exact k9)
    refine v_iload (pc := 330) dL_law_330 rfl ?_
    refine v_iload_n (pc := 332) dL_law_332 rfl rfl ?_
    refine v_icmp_ge (pc := 333) (tgt := 891) dL_law_333 (by decide) (fun c333 => absurd c333 (nI_ge (a := i) (b := sc) (by omega) (by omega))) (fun c333 => ?_)
    have c333 : ¬ sc ≤ i := fun h => c333 ((nI_leI (a := sc) (b := i) (by omega) (by omega)).mpr h)
    refine v_aload_nR (pc := 336) dL_law_336 rfl rfl ?_
    refine v_iload (pc := 337) dL_law_337 rfl ?_
    refine v_iconst (pc := 339) (v := 3) dL_law_339 rfl ?_
    refine v_callV2 (pc := 340) (c7_sleigh hps hsc hbc (s := i) (q := 3) hi (by decide)) cm_X5_sleigh q323 q324 q325 (ci := 5) rfl rfl (orcO 0 rfl) [0, 1, 2, 3, 4, 5, 6, 7, 8, 9, 10, 11, 12, 13, 14, 15, 16, 17] (by rfl) (by decide) (fun _ _ h => h) (by omega) (by omega) (by decide) (Nat.le_of_ble_eq_true rfl) dL_law_340 (fun v340 M340 hQ340 => ?_)
    obtain ⟨rfl, rfl⟩ := hQ340
    try dsimp only [wb, tlS_0, tlS_1, tlS_2, tlS_3, tlS_4, tlS_5, tlS_6, tlS_7, tlS_8, tlC_0, tlC_1, tlC_2, tlC_3, LawM, LakeM, WaysM, WorldM, SimM, List.set_cons_succ, List.set_cons_zero, List.append_nil, List.nil_append, List.cons_append, Option.toList, Nat.sub_zero]
    refine v_istore (pc := 343) dL_law_343 (by show _ < 26; decide) rfl ?_
    refine v_aload_nR (pc := 345) dL_law_345 rfl rfl ?_
    refine v_iload (pc := 346) dL_law_346 rfl ?_
    refine v_iconst (pc := 348) (v := 4) dL_law_348 rfl ?_
    refine v_callV2 (pc := 349) (c7_sleigh hps hsc hbc (s := i) (q := 4) hi (by decide)) cm_X5_sleigh q323 q324 q325 (ci := 5) rfl rfl (orcO 0 rfl) [0, 1, 2, 3, 4, 5, 6, 7, 8, 9, 10, 11, 12, 13, 14, 15, 16, 17] (by rfl) (by decide) (fun _ _ h => h) (by omega) (by omega) (by decide) (Nat.le_of_ble_eq_true rfl) dL_law_349 (fun v349 M349 hQ349 => ?_)
    obtain ⟨rfl, rfl⟩ := hQ349
    try dsimp only [wb, tlS_0, tlS_1, tlS_2, tlS_3, tlS_4, tlS_5, tlS_6, tlS_7, tlS_8, tlC_0, tlC_1, tlC_2, tlC_3, LawM, LakeM, WaysM, WorldM, SimM, List.set_cons_succ, List.set_cons_zero, List.append_nil, List.nil_append, List.cons_append, Option.toList, Nat.sub_zero]
    rw [e4]
    refine v_istore (pc := 352) dL_law_352 (by show _ < 26; decide) rfl ?_
    refine v_iload (pc := 354) dL_law_354 rfl ?_
    refine v_iload (pc := 356) dL_law_356 rfl ?_
    refine v_icmp_ne (pc := 358) (tgt := 380) dL_law_358 (by decide) (fun c358 => ?_) (fun c358 => ?_)
    · have c358 : ¬ i = wo := fun h => c358 ((nI_eq (a := i) (b := wo) (by omega) (by omega)).mpr h)
      refine v_room (ck' := ck + 20 * m + 17) (sk' := sk + 120 * m + 100) (by omega) (by omega) ?_
      refine v_sub ?_ K380
      exact ⟨rfl, rfl, rfl, rfl, rfl, rfl, rfl, rfl, rfl, rfl, rfl, rfl, rfl, rfl, rfl, rfl, rfl, rfl, rfl, trivial⟩
    · have c358 : i = wo := (nI_eq (a := i) (b := wo) (by omega) (by omega)).mp c358
      refine v_iload (pc := 361) dL_law_361 rfl ?_
      refine v_iload (pc := 363) dL_law_363 rfl ?_
      refine v_iconst (pc := 365) (v := 2) dL_law_365 rfl ?_
      refine v_icmp_ne (pc := 366) (tgt := 373) dL_law_366 (by decide) (fun c366 => ?_) (fun c366 => ?_)
      · refine v_iload (pc := 373) dL_law_373 rfl ?_
        refine v_icmp_eq (pc := 375) (tgt := 380) dL_law_375 (by decide) (fun c375 => ?_) (fun c375 => absurd (by rw [hsn, ← c358, if_neg c366, e4]) c375)
        refine v_room (ck' := ck + 20 * m + 17) (sk' := sk + 120 * m + 100) (by omega) (by omega) ?_
        refine v_sub ?_ K380
        exact ⟨rfl, rfl, rfl, rfl, rfl, rfl, rfl, rfl, rfl, rfl, rfl, rfl, rfl, rfl, rfl, rfl, rfl, rfl, rfl, trivial⟩
      · refine v_iconst (pc := 369) (v := -1) dL_law_369 rfl ?_
        refine v_goto (pc := 370) (tgt := 375) dL_law_370 (by decide) ?_
        refine v_icmp_eq (pc := 375) (tgt := 380) dL_law_375 (by decide) (fun c375 => ?_) (fun c375 => absurd (by rw [hsn, ← c358, if_pos c366]) c375)
        refine v_room (ck' := ck + 20 * m + 17) (sk' := sk + 120 * m + 100) (by omega) (by omega) ?_
        refine v_sub ?_ K380
        exact ⟨rfl, rfl, rfl, rfl, rfl, rfl, rfl, rfl, rfl, rfl, rfl, rfl, rfl, rfl, rfl, rfl, rfl, rfl, rfl, trivial⟩
