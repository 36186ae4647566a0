/-! the law's own model: setting out -/
/-- a cell beside by which the way goes on -/
def cnX (Hb : Nat → Bool) (P H : Nat → Int32) (k c : Nat) : Prop := adj c k = true ∧ Hb c = true ∧ H c < 9999 ∧ H c + P c = H k
/-- the smallest of them from m on, in w; w0 if there is none -/
def nxI (Hb : Nat → Bool) (P H : Nat → Int32) (k m : Nat) (w0 w : Int32) : Prop := (w = w0 ∧ ∀ c, m ≤ c → c < 160 → ¬ cnX Hb P H k c) ∨ ∃ j, w = nI j ∧ m ≤ j ∧ j < 160 ∧ cnX Hb P H k j ∧ ∀ c, m ≤ c → c < j → ¬ cnX Hb P H k c
section NX
variable {Hb : Nat → Bool} {P H : Nat → Int32} {k m : Nat} {w0 w : Int32}
theorem nxI_0 : nxI Hb P H k 160 w w := Or.inl ⟨rfl, fun c h1 h2 => by omega⟩
theorem nxI.skip (h : nxI Hb P H k (m + 1) w0 w) (hn : ¬ cnX Hb P H k m) : nxI Hb P H k m w0 w := by
  rcases h with ⟨h1, h2⟩ | ⟨j, h1, h2, h3, h4, h5⟩
  · refine Or.inl ⟨h1, fun c hc hc2 => ?_⟩
    by_cases e : c = m
    · rw [e]; exact hn
    · exact h2 c (by omega) hc2
  · refine Or.inr ⟨j, h1, by omega, h3, h4, fun c hc hc2 => ?_⟩
    by_cases e : c = m
    · rw [e]; exact hn
    · exact h5 c (by omega) hc2
theorem nxI.take (hm : m < 160) (hy : cnX Hb P H k m) : nxI Hb P H k m w0 (nI m) := Or.inr ⟨m, rfl, Nat.le_refl m, hm, hy, fun c h1 h2 => by omega⟩
theorem nxI.fin {j : Nat} (h : nxI Hb P H k 0 w0 w) (hj : j < 160) (hy : cnX Hb P H k j) (hl : ∀ c, c < j → ¬ cnX Hb P H k c) : w = nI j := by
  rcases h with ⟨-, h2⟩ | ⟨i, h1, -, h3, h4, h5⟩
  · exact absurd hy (h2 j (Nat.zero_le _) hj)
  · rcases Nat.lt_trichotomy i j with q | q | q
    · exact absurd h4 (hl i q)
    · rw [h1, q]
    · exact absurd hy (h5 j (Nat.zero_le _) q)
end NX
theorem nbr_mono {k a b x y : Nat} (hk : k < 160) (ha : nbr k a = some x) (hb : nbr k b = some y) (h : a ≤ b) (hb4 : b < 4) : x ≤ y := by
  have e : ∀ i z, i < 4 → nbr k i = some z → (i = 0 ∧ 16 ≤ k ∧ z = k - 16) ∨ (i = 1 ∧ ¬ k % 16 = 0 ∧ z = k - 1) ∨ (i = 2 ∧ z = k + 1) ∨ (i = 3 ∧ z = k + 16) := by
    intro i z hi hz
    rcases (show i = 0 ∨ i = 1 ∨ i = 2 ∨ i = 3 by omega) with rfl | rfl | rfl | rfl
    · have hz : (if k < 16 then none else some (k - 16)) = some z := hz
      split at hz <;> cases hz
      exact Or.inl ⟨rfl, by omega, rfl⟩
    · have hz : (if k % 16 = 0 then none else some (k - 1)) = some z := hz
      split at hz <;> cases hz
      exact Or.inr (Or.inl ⟨rfl, by assumption, rfl⟩)
    · have hz : (if k % 16 = 15 then none else some (k + 1)) = some z := hz
      split at hz <;> cases hz
      exact Or.inr (Or.inr (Or.inl ⟨rfl, rfl⟩))
    · have hz : (if k + 16 < 160 then some (k + 16) else none) = some z := hz
      split at hz <;> cases hz
      exact Or.inr (Or.inr (Or.inr ⟨rfl, rfl⟩))
  rcases e a x (by omega) ha with ⟨a1, a2, a3⟩ | ⟨a1, a2, a3⟩ | ⟨a1, a3⟩ | ⟨a1, a3⟩ <;> rcases e b y hb4 hb with ⟨b1, b2, b3⟩ | ⟨b1, b2, b3⟩ | ⟨b1, b3⟩ | ⟨b1, b3⟩ <;> omega
theorem ffm_spec {Hb : Nat → Bool} {P h : Nat → Int32} {k j : Nat} : ∀ m i, ffm Hb P h k m i = some j → ∃ s, i ≤ s ∧ s < i + m ∧ nbr k s = some j ∧ (Hb j = true ∧ h j + P j = h k) ∧ ∀ s' j', i ≤ s' → s' < s → nbr k s' = some j' → ¬ (Hb j' = true ∧ h j' + P j' = h k)
  | 0, i, e => by cases e
  | m + 1, i, e => by
    cases hn : nbr k i with
    | none =>
      rw [ffm_no0 hn] at e
      obtain ⟨s, h1, h2, h3, h4, h5⟩ := ffm_spec m (i + 1) e
      refine ⟨s, by omega, by omega, h3, h4, fun s' j' q1 q2 q3 => ?_⟩
      by_cases e9 : s' = i
      · rw [e9, hn] at q3
        cases q3
      · exact h5 s' j' (by omega) q2 q3
    | some x =>
      by_cases hc : Hb x = true ∧ h x + P x = h k
      · rw [ffm_yes hn hc] at e
        cases e
        exact ⟨i, Nat.le_refl i, by omega, hn, hc, fun s' j' q1 q2 => by omega⟩
      · rw [ffm_no hn hc] at e
        obtain ⟨s, h1, h2, h3, h4, h5⟩ := ffm_spec m (i + 1) e
        refine ⟨s, by omega, by omega, h3, h4, fun s' j' q1 q2 q3 => ?_⟩
        by_cases e9 : s' = i
        · rw [e9, hn] at q3
          cases q3
          exact hc
        · exact h5 s' j' (by omega) q2 q3
theorem ffm_cn {Hb : Nat → Bool} {cst : Nat → Nat} {g k j : Nat} {P H a : Nat → Int32} (hP : ∀ j, j < 160 → P j = nI (cst j) ∧ 1 ≤ cst j ∧ cst j ≤ 43) (hL : LSp Hb cst g a k) (hF : FDs Hb cst g (far9 H)) (hB : ∀ c, c < 160 → 0 ≤ (H c).toInt ∧ (H c).toInt ≤ 9999) (hk : k < 160) (e : ¬ a k = -1) (hj : ffm Hb P (far9 H) k 4 0 = some j) :
    j < 160 ∧ cnX Hb P H k j ∧ ∀ c, c < j → ¬ cnX Hb P H k c := by
  obtain ⟨s, -, h2, h3, ⟨h4, h5⟩, h6⟩ := ffm_spec 4 0 hj
  obtain ⟨m, n, b1, b2, b3, -⟩ := both_some hL hF hk e
  have hj1 : j < 160 := nbr_lt hk h3
  have e9 : (9999 : Int32).toInt = 9999 := by decide
  have big : ∀ c, c < 160 → H c = 9999 ∨ (H c < 9999 ∧ far9 H c = H c) := fun c hc => by
    by_cases q : H c = 9999
    · exact Or.inl q
    · refine Or.inr ⟨?_, if_neg q⟩
      have := (hB c hc).2
      rw [i_lt, e9]
      have h9 : (H c).toInt ≠ 9999 := fun q2 => q (Int32.toInt_inj.mp (by rw [e9]; exact q2))
      omega
  have hkk : H k < 9999 ∧ far9 H k = H k := by
    rcases big k hk with q | q
    · have : far9 H k = 1000000 := if_pos q
      rw [this] at b2
      have := (nI_eq (a := 1000000) (b := m) (by decide) (by omega)).mp b2
      omega
    · exact q
  have hjj : H j < 9999 ∧ far9 H j = H j := by
    rcases big j hj1 with q | q
    · have q2 : far9 H j = nI 1000000 := if_pos q
      have := hP j hj1
      rw [q2, this.1, nI_add, b2] at h5
      have := (nI_eq (a := 1000000 + cst j) (b := m) (by omega) (by omega)).mp h5
      omega
    · exact q
  refine ⟨hj1, ⟨?_, h4, hjj.1, ?_⟩, fun c hc hn => ?_⟩
  · obtain ⟨s', q1, q2⟩ := nbr_sym hk h3
    exact adj_nbr.mpr ⟨s', q1, q2⟩
  · rw [hjj.2, hkk.2] at h5
    exact h5
  · obtain ⟨q1, q2, q3, q4⟩ := hn
    obtain ⟨i, i1, i2⟩ := adj_nbr.mp q1
    obtain ⟨s2, s3, s4⟩ := nbr_sym (by omega) i2
    have hcc : far9 H c = H c := by
      rcases big c (by omega) with q | q
      · rw [q] at q3
        exact absurd q3 (by decide)
      · exact q.2
    have hnot : ¬ s2 < s := fun q => h6 s2 c (Nat.zero_le _) q s4 ⟨q2, by rw [hcc, hkk.2]; exact q4⟩
    have := nbr_mono hk h3 s4 (by omega) s3
    omega
theorem su_eq {x : Int32} (h : 0 ≤ x.toInt ∧ x.toInt ≤ 9) : (x < 9 → x + 1 = (if x + 1 < 9 then x + 1 else 9)) ∧ (¬ x < 9 → x = (if x + 1 < 9 then x + 1 else 9)) ∧ 0 ≤ (if x + 1 < 9 then x + 1 else 9 : Int32).toInt ∧ (if x + 1 < 9 then x + 1 else 9 : Int32).toInt ≤ 9 := by
  have e9 : (9 : Int32).toInt = 9 := by decide
  have e : (x + 1).toInt = x.toInt + 1 := by rw [fb_addI (by rw [i_1]; omega) (by rw [i_1]; omega), i_1]
  by_cases h1 : x + 1 < 9
  · rw [if_pos h1]
    rw [i_lt, e, e9] at h1
    refine ⟨fun _ => rfl, fun q => absurd (i_lt.mpr (by rw [e9]; omega)) q, by rw [e]; omega, by rw [e]; omega⟩
  · rw [if_neg h1]
    rw [i_lt, e, e9] at h1
    refine ⟨fun q => ?_, fun q => ?_, by decide, by decide⟩
    · rw [i_lt, e9] at q
      exact Int32.toInt_inj.mp (by rw [e, e9]; omega)
    · rw [i_lt, e9] at q
      exact Int32.toInt_inj.mp (by rw [e9]; omega)
theorem sTK.st {T S C : Nat → Int32} {k : Nat} {nd ch : Int32} (h : sTK S) : sTK (stU T S C k nd ch).1 := by
  unfold stU
  split
  · intro j hj
    show 0 ≤ (upd S k (suS S k) j).toInt ∧ (upd S k (suS S k) j).toInt ≤ 9
    by_cases e : j = k
    · subst e
      rw [pk_us]
      exact (su_eq (h j hj)).2.2
    · rw [pk_un e]
      exact h j hj
  · exact h
theorem sTK.so {l5 : Value} {T N PC : Nat → Int32} {ps sc n : Nat} {x : SO} (h : sTK x.2.2.2.2.2.1) : sTK (soT l5 T N PC ps sc n x).2.2.2.2.2.1 := by
  unfold soT
  split
  · split
    · exact h
    · exact h.st
  · exact h
set_option maxRecDepth 100000 in
set_option maxHeartbeats 4000000 in
theorem lp_X6_nx {G : Cx} {v xs bs : Nat → Nat} {hh : Nat} {T N S C O PC : Nat → Int32} {ps sc bc : Nat} {SF : Nat → Nat → Int32} {MX : Nat → Int32} {BF : Nat → Nat → Int32} {H D : Nat → Int32} (hps : ps ≤ 8) (hsc : sc ≤ 5) (hbc : bc ≤ 40) {Z : ZT} {c : Int32} {s k : Nat} {MX0 : Nat → Int32} (hs : s < sc) (hr : 1 ≤ (SF s 0).toInt ∧ (SF s 0).toInt ≤ 6) (h4 : SF s 4 = nI k) (hk : k < 160) (K : ∀ MX : Nat → Int32, (∀ i, ¬ i = s → MX i = MX0 i) → nxI (HbS T C SF s) (mpS N SF s) H k 0 (MX0 s) (MX s) → V G Y_X6_pass Z 6 1 160 537 [some (.ref (v 0)), some (.int c), some (.int (nI s)), some (.ref (xs s)), some (.int (slW SF s)), none, none, none] [] (SimM v xs bs hh T N S C O PC ps sc bc SF MX BF H D)) : ∀ m : Nat, m ≤ 160 → ∀ MX : Nat → Int32, (∀ i, ¬ i = s → MX i = MX0 i) → nxI (HbS T C SF s) (mpS N SF s) H k m (MX0 s) (MX s) → V G Y_X6_pass Z 6 1 160 448 [some (.ref (v 0)), some (.int c), some (.int (nI s)), some (.ref (xs s)), some (.int (slW SF s)), some (.int (dI m)), none, none] [] (SimM v xs bs hh T N S C O PC ps sc bc SF MX BF H D) := by
  intro m
  induction m with
  | zero =>
    intro _ MX hO hm
    rw [show dI 0 = -1 from rfl]
    refine v_iload (pc := 448) dX6_pass_448 rfl ?_
    refine v_if_lt (pc := 450) (tgt := 537) dX6_pass_450 (by decide) (fun c450 => ?_) (fun c450 => absurd c450 (by decide))
    refine v_sub ?_ (K MX hO hm)
    exact ⟨rfl, rfl, rfl, rfl, rfl, trivial⟩
  | succ m ih =>
    intro hm4 MX hO hm
    rw [show dI (m + 1) = nI m from rfl]
    refine v_iload (pc := 448) dX6_pass_448 rfl ?_
    refine v_if_lt (pc := 450) (tgt := 537) dX6_pass_450 (by decide) (fun c450 => absurd c450 (nI_pos (n := m) (by omega))) (fun c450 => ?_)
    have c450 : ¬ m < 0 := fun h => c450 ((nI_ltI (a := m) (b := 0) (by omega) (by omega)).mpr h)
    refine v_iload (pc := 453) dX6_pass_453 rfl ?_
    refine v_aload_nR (pc := 455) dX6_pass_455 rfl rfl ?_
    refine v_getS (pc := 456) 3 11 fg_X6_71 rfl hs (by decide) dX6_pass_456 ?_
    rw [smX_g3]
    rw [h4]
    refine v_callS2 (pc := 459) (c_X6_areBeside (by omega) hk) cm_X6_areBeside q593 q572 [] (by rfl) (by decide) (fun _ _ h => h) (by decide) (by decide) (by decide) (Nat.le_of_ble_eq_true rfl) dX6_pass_459 (fun v459 M459 hQ459 => ?_)
    obtain ⟨rfl, rfl⟩ := hQ459
    try dsimp only [wb, SimM, List.set_cons_succ, List.set_cons_zero, List.append_nil, List.nil_append, List.cons_append, Option.toList, Nat.sub_zero]
    refine v_if_eq (pc := 462) (tgt := 531) dX6_pass_462 (by decide) (fun c462 => ?_) (fun c462 => ?_)
    · have c462 := bI_0.mp c462
      refine v_iinc (pc := 531) dX6_pass_531 rfl rfl (by decide) rfl ?_
      refine v_goto (pc := 534) (tgt := 448) dX6_pass_534 (by decide) ?_
      rw [dI_s]
      refine v_sub ?_ (ih (by omega) MX hO (hm.skip (fun h => c462 h.1)))
      exact ⟨rfl, rfl, rfl, rfl, rfl, rfl, trivial⟩
    · have c462 := bI_n.mp c462
      refine v_aload_nR (pc := 465) dX6_pass_465 rfl rfl ?_
      refine v_iload (pc := 466) dX6_pass_466 rfl ?_
      refine v_iload (pc := 468) dX6_pass_468 rfl ?_
      refine v_callV2 (pc := 470) (c_X6_bears hps hsc hbc (by omega)) cm_X6_bears q598 q599 q600 (ci := 6) rfl rfl (orcO 0 rfl) [0, 1, 2, 3, 4, 5, 6, 7, 8, 9, 10, 11, 12] (by rfl) (by decide) (fun _ _ h => h) (by decide) (by decide) (by decide) (Nat.le_of_ble_eq_true rfl) dX6_pass_470 (fun v470 M470 hQ470 => ?_)
      obtain ⟨rfl, rfl⟩ := hQ470
      try dsimp only [wb, SimM, List.set_cons_succ, List.set_cons_zero, List.append_nil, List.nil_append, List.cons_append, Option.toList, Nat.sub_zero]
      refine v_if_eq (pc := 473) (tgt := 531) dX6_pass_473 (by decide) (fun c473 => ?_) (fun c473 => ?_)
      · have c473 := bI_0.mp c473
        refine v_iinc (pc := 531) dX6_pass_531 rfl rfl (by decide) rfl ?_
        refine v_goto (pc := 534) (tgt := 448) dX6_pass_534 (by decide) ?_
        rw [dI_s]
        refine v_sub ?_ (ih (by omega) MX hO (hm.skip (fun h => c473 h.2.1)))
        exact ⟨rfl, rfl, rfl, rfl, rfl, rfl, trivial⟩
      · have c473 := bI_n.mp c473
        refine v_aload_nR (pc := 476) dX6_pass_476 rfl rfl ?_
        refine v_get (pc := 477) 9 0 fg_X6_40 rfl rfl dX6_pass_477 ?_
        refine v_iload (pc := 480) dX6_pass_480 rfl ?_
        refine v_ialdN (pc := 482) 9 (k := m) rfl (by omega) (by omega) dX6_pass_482 ?_
        refine v_sipush (pc := 483) (v := 9999) dX6_pass_483 rfl ?_
        refine v_icmp_ge (pc := 486) (tgt := 531) dX6_pass_486 (by decide) (fun c486 => ?_) (fun c486 => ?_)
        · refine v_iinc (pc := 531) dX6_pass_531 rfl rfl (by decide) rfl ?_
          refine v_goto (pc := 534) (tgt := 448) dX6_pass_534 (by decide) ?_
          rw [dI_s]
          refine v_sub ?_ (ih (by omega) MX hO (hm.skip (fun h => absurd h.2.2.1 (Int32.not_lt.mpr c486))))
          exact ⟨rfl, rfl, rfl, rfl, rfl, rfl, trivial⟩
        · refine v_aload_nR (pc := 489) dX6_pass_489 rfl rfl ?_
          refine v_get (pc := 490) 9 0 fg_X6_40 rfl rfl dX6_pass_490 ?_
          refine v_iload (pc := 493) dX6_pass_493 rfl ?_
          refine v_ialdN (pc := 495) 9 (k := m) rfl (by omega) (by omega) dX6_pass_495 ?_
          refine v_aload_nR (pc := 496) dX6_pass_496 rfl rfl ?_
          refine v_iload (pc := 497) dX6_pass_497 rfl ?_
          refine v_iload (pc := 499) dX6_pass_499 rfl ?_
          refine v_aload_nR (pc := 501) dX6_pass_501 rfl rfl ?_
          refine v_getS (pc := 502) 0 11 fg_X6_68 rfl hs (by decide) dX6_pass_502 ?_
          rw [smX_g0]
          refine v_aload_nR (pc := 505) dX6_pass_505 rfl rfl ?_
          refine v_getS (pc := 506) 1 11 fg_X6_121 rfl hs (by decide) dX6_pass_506 ?_
          rw [smX_g1]
          refine v_callV4 (pc := 509) (c_X6_pace hps hsc hbc (by omega) hr) cm_X6_pace q614 q615 q616 (ci := 6) rfl rfl (orcO 0 rfl) [0, 1, 2, 3, 4, 5, 6, 7, 8, 9, 10, 11, 12] (by rfl) (by decide) (fun _ _ h => h) (by decide) (by decide) (by decide) (Nat.le_of_ble_eq_true rfl) dX6_pass_509 (fun v509 M509 hQ509 => ?_)
          obtain ⟨rfl, rfl⟩ := hQ509
          try dsimp only [wb, SimM, List.set_cons_succ, List.set_cons_zero, List.append_nil, List.nil_append, List.cons_append, Option.toList, Nat.sub_zero]
          refine v_iadd (pc := 512) dX6_pass_512 ?_
          refine v_aload_nR (pc := 513) dX6_pass_513 rfl rfl ?_
          refine v_get (pc := 514) 9 0 fg_X6_40 rfl rfl dX6_pass_514 ?_
          refine v_aload_nR (pc := 517) dX6_pass_517 rfl rfl ?_
          refine v_getS (pc := 518) 3 11 fg_X6_71 rfl hs (by decide) dX6_pass_518 ?_
          rw [smX_g3]
          rw [h4]
          refine v_ialdN (pc := 521) 9 (k := k) rfl (by omega) (by omega) dX6_pass_521 ?_
          refine v_icmp_ne (pc := 522) (tgt := 531) dX6_pass_522 (by decide) (fun c522 => ?_) (fun c522 => ?_)
          · refine v_iinc (pc := 531) dX6_pass_531 rfl rfl (by decide) rfl ?_
            refine v_goto (pc := 534) (tgt := 448) dX6_pass_534 (by decide) ?_
            rw [dI_s]
            refine v_sub ?_ (ih (by omega) MX hO (hm.skip (fun h => c522 h.2.2.2)))
            exact ⟨rfl, rfl, rfl, rfl, rfl, rfl, trivial⟩
          · refine v_aload_nR (pc := 525) dX6_pass_525 rfl rfl ?_
            refine v_iload (pc := 526) dX6_pass_526 rfl ?_
            refine v_putS (pc := 528) 5 11 fp_X6_pass_118 rfl hs (by decide) dX6_pass_528 ?_
            try dsimp only [wb, SimM, List.set_cons_succ, List.set_cons_zero, List.append_nil, List.nil_append, List.cons_append, Option.toList, Nat.sub_zero]
            rw [smX_u5]
            refine v_iinc (pc := 531) dX6_pass_531 rfl rfl (by decide) rfl ?_
            refine v_goto (pc := 534) (tgt := 448) dX6_pass_534 (by decide) ?_
            rw [dI_s]
            refine v_sub ?_ (ih (by omega) (upd MX s (nI m)) (fun i hi => by rw [pk_un hi]; exact hO i hi) (by rw [pk_us]; exact nxI.take (by omega) ⟨c462, c473, Int32.not_le.mp c486, c522⟩))
            exact ⟨rfl, rfl, rfl, rfl, rfl, rfl, trivial⟩
set_option maxRecDepth 100000 in
set_option maxHeartbeats 4000000 in
theorem lp_X6_so1 {G : Cx} {v xs bs : Nat → Nat} {hh : Nat} {T N S C O PC : Nat → Int32} {ps sc bc : Nat} {SF : Nat → Nat → Int32} {MX : Nat → Int32} {BF : Nat → Nat → Int32} {H D : Nat → Int32} (hps : ps ≤ 8) (hsc : sc ≤ 5) (hbc : bc ≤ 40) {Z : ZT} {qs : QS} {lr l5 : Value} {nd dg ch c : Int32} {s k : Nat} (hs : s < sc) (hw : SF s 1 = sumN (wgF BF bc (nI s)) 40) (hx : 0 ≤ (slW SF s).toInt ∧ (slW SF s).toInt ≤ 2039) (hr : 1 ≤ (SF s 0).toInt ∧ (SF s 0).toInt ≤ 6) (hN : nOK N) (hT : tOK T) (hC : cOK C) (hS : sTK S) (h4 : SF s 4 = nI k) (hk : k < 160) (hX : SF s 3 = 1 → 0 < SF s 7 → MX s = SF s 6) (h5 : SF s 3 = 1 → ∃ q g, q < ps ∧ SF s 5 = nI q ∧ PC q = nI g ∧ g < 160 ∧ (¬ 0 < SF s 7 → ¬ k = g ∧ (SF s 8 = ch → ∀ n, ¬ Rch (HbS T C SF s) g n k))) (K : ∀ MX' H' D' : Nat → Int32, (∀ i, ¬ i = s → MX' i = MX i) → ((soT l5 T N PC ps sc s (SF, qs, lr, nd, dg, S, C, ch)).1 s 3 = 1 → 0 < (soT l5 T N PC ps sc s (SF, qs, lr, nd, dg, S, C, ch)).1 s 7 → MX' s = (soT l5 T N PC ps sc s (SF, qs, lr, nd, dg, S, C, ch)).1 s 6) → V G Y_X6_pass Z 6 1 160 646 [some (.ref (v 0)), some (.int c), some (.int (nI s)), none, none, none, none, none] [] (SimM v xs bs hh T N (soT l5 T N PC ps sc s (SF, qs, lr, nd, dg, S, C, ch)).2.2.2.2.2.1 (soT l5 T N PC ps sc s (SF, qs, lr, nd, dg, S, C, ch)).2.2.2.2.2.2.1 O PC ps sc bc (soT l5 T N PC ps sc s (SF, qs, lr, nd, dg, S, C, ch)).1 MX' BF H' D')) : V G Y_X6_pass Z 6 1 160 385 [some (.ref (v 0)), some (.int c), some (.int (nI s)), some (.ref (xs s)), none, none, none, none] [] (SimM v xs bs hh T N S C O PC ps sc bc SF MX BF H D) := by
  refine v_aload_nR (pc := 385) dX6_pass_385 rfl rfl ?_
  refine v_getS (pc := 386) 2 11 fg_X6_109 rfl hs (by decide) dX6_pass_386 ?_
  rw [smX_g2]
  refine v_iconst (pc := 389) (v := 1) dX6_pass_389 rfl ?_
  refine v_icmp_ne (pc := 390) (tgt := 646) dX6_pass_390 (by decide) (fun c390 => ?_) (fun c390 => ?_)
  · have e : (soT l5 T N PC ps sc s (SF, qs, lr, nd, dg, S, C, ch)) = (SF, qs, lr, nd, dg, S, C, ch) := if_neg (fun h => c390 h.2.1)
    rw [e] at K
    refine v_sub ?_ (K MX H D (fun i _ => rfl) hX)
    exact ⟨rfl, rfl, rfl, trivial⟩
  · refine v_aload_nR (pc := 393) dX6_pass_393 rfl rfl ?_
    refine v_getS (pc := 394) 6 11 fg_X6_115 rfl hs (by decide) dX6_pass_394 ?_
    rw [smX_g6]
    refine v_if_le (pc := 397) (tgt := 403) dX6_pass_397 (by decide) (fun c397 => ?_) (fun c397 => ?_)
    · have c397 : ¬ 0 < SF s 7 := Int32.not_lt.mpr c397
      obtain ⟨q, g, hq, hq5, hPg, hg, hst⟩ := h5 c390
      obtain ⟨hkg, hnw⟩ := hst c397
      have hL := lkq_spec (Hb := HbS T C SF s) (csS_ok hN hx hr) hg hk qs.2.2.1
      have hsQ : soQ T N PC ps s (SF, qs, lr, nd, dg, S, C, ch) = lkq (HbS T C SF s) N (slD SF s) k (some g) qs.2.2.1 := by
        show lkq (HbS T C SF s) N (slD SF s) (cN (SF s 4)) (cpo PC ps (SF s 5)) qs.2.2.1 = _
        rw [h4, cN_nI (by omega), hq5, cpo_q hps hq hPg hg]
      have hso : soX T N PC ps s (SF, qs, lr, nd, dg, S, C, ch) = ffq (HbS T C SF s) N (slD SF s) (lkq (HbS T C SF s) N (slD SF s) k (some g) qs.2.2.1).1 k := by
        show ffq (HbS T C SF s) N (slD SF s) (soQ T N PC ps s (SF, qs, lr, nd, dg, S, C, ch)).1 (cN (SF s 4)) = _
        rw [hsQ, h4, cN_nI (by omega)]
      refine v_aload_nR (pc := 403) dX6_pass_403 rfl rfl ?_
      refine v_iload_n (pc := 404) dX6_pass_404 rfl rfl ?_
      refine v_callV1 (pc := 405) (c_X6_weight hps hsc hbc hs hw) cm_X6_weight q594 q595 q596 (ci := 6) rfl rfl (orcO 0 rfl) [0, 1, 2, 3, 4, 5, 6, 7, 8, 9, 10, 11, 12] (by rfl) (by decide) (fun _ _ h => h) (by decide) (by decide) (by decide) (Nat.le_of_ble_eq_true rfl) dX6_pass_405 (fun v405 M405 hQ405 => ?_)
      obtain ⟨rfl, rfl⟩ := hQ405
      try dsimp only [wb, SimM, List.set_cons_succ, List.set_cons_zero, List.append_nil, List.nil_append, List.cons_append, Option.toList, Nat.sub_zero]
      refine v_istore (pc := 408) dX6_pass_408 (by decide) rfl ?_
      refine v_aload_nR (pc := 410) dX6_pass_410 rfl rfl ?_
      refine v_aload_nR (pc := 411) dX6_pass_411 rfl rfl ?_
      refine v_getS (pc := 412) 3 11 fg_X6_71 rfl hs (by decide) dX6_pass_412 ?_
      rw [smX_g3]
      rw [h4]
      refine v_aload_nR (pc := 415) dX6_pass_415 rfl rfl ?_
      refine v_get (pc := 416) 6 0 fg_X6_26 rfl rfl dX6_pass_416 ?_
      refine v_aload_nR (pc := 419) dX6_pass_419 rfl rfl ?_
      refine v_getS (pc := 420) 4 11 fg_X6_74 rfl hs (by decide) dX6_pass_420 ?_
      rw [smX_g4]
      rw [hq5]
      refine v_ialdN (pc := 423) 6 (k := q) rfl (by omega) (by omega) dX6_pass_423 ?_
      rw [hPg]
      refine v_iload (pc := 424) dX6_pass_424 rfl ?_
      refine v_aload_nR (pc := 426) dX6_pass_426 rfl rfl ?_
      refine v_getS (pc := 427) 0 11 fg_X6_68 rfl hs (by decide) dX6_pass_427 ?_
      rw [smX_g0]
      refine v_aload_nR (pc := 430) dX6_pass_430 rfl rfl ?_
      refine v_getS (pc := 431) 1 11 fg_X6_121 rfl hs (by decide) dX6_pass_431 ?_
      rw [smX_g1]
      refine v_callV5 (pc := 434) (c_X6_way hps hsc hbc (cst := csS N SF s) hk hg hr (mpS_ok hN hx hr)) cm_X6_way q606 q607 q608 (ci := 6) rfl rfl (orcO 0 rfl) [0, 1, 2, 3, 4, 5, 6, 7, 8, 9, 10, 11, 12] (by rfl) (by decide) (fun _ _ h => h) (by decide) (by decide) (by decide) (Nat.le_of_ble_eq_true rfl) dX6_pass_434 (fun v434 M434 hQ434 => ?_)
      obtain ⟨H', D', hF, hB, rfl, rfl⟩ := hQ434
      try dsimp only [wb, SimM, List.set_cons_succ, List.set_cons_zero, List.append_nil, List.nil_append, List.cons_append, Option.toList, Nat.sub_zero]
      rw [both_hours hL hF hk]
      refine v_if_ge (pc := 437) (tgt := 443) dX6_pass_437 (by decide) (fun c437 => ?_) (fun c437 => ?_)
      · have hay : ¬ (lkq (HbS T C SF s) N (slD SF s) k (some g) qs.2.2.1).1 k = -1 := fun q9 => by
          rw [q9] at c437
          exact absurd c437 (by decide)
        obtain ⟨mw, nw, hw1, hw2, hw3, hww⟩ := both_some hL hF hk hay
        have hch : ¬ SF s 8 = ch := fun e => hnw e nw hww.rch
        obtain ⟨j, hj⟩ := both_ahead (mpS_ok hN hx hr) hL hF hk hkg hay
        have hsj : soX T N PC ps s (SF, qs, lr, nd, dg, S, C, ch) = some j := by
          rw [hso]
          unfold ffq
          rw [if_neg hay, both_ffr (csS_ok hN hx hr) (mpS_ok hN hx hr) hL hF hk hay]
          exact hj
        obtain ⟨hjl, hjc, hjm⟩ := ffm_cn (mpS_ok hN hx hr) hL hF hB hk hay hj
        have eY : (soT l5 T N PC ps sc s (SF, qs, lr, nd, dg, S, C, ch)) = (upS (upS SF s 6 (nI j)) s 7 (N j + slD SF s), soQ T N PC ps s (SF, qs, lr, nd, dg, S, C, ch), l5, slN SF s, slD SF s, stU T S C k (slN SF s) ch) := by
          unfold soT
          rw [if_pos ⟨hs, c390, c397, hch⟩, hsj]
          show (_, _, _, _, _, stU T S C (cN (SF s 4)) _ _) = _
          rw [h4, cN_nI (by omega)]
        rw [eY] at K
        clear eY
        refine v_sipush (pc := 443) (v := 159) dX6_pass_443 rfl ?_
        refine v_istore (pc := 446) dX6_pass_446 (by decide) rfl ?_
        refine v_sub (L' := [some (.ref (v 0)), some (.int c), some (.int (nI s)), some (.ref (xs s)), some (.int (slW SF s)), some (.int (dI 160)), none, none]) ⟨rfl, rfl, rfl, rfl, rfl, rfl, trivial⟩ ?_
        refine lp_X6_nx (MX := MX) (H := H') (D := D') hps hsc hbc (MX0 := MX) hs hr h4 hk (fun MX2 hO2 hnx => ?_) 160 (Nat.le_refl _) MX (fun i _ => rfl) nxI_0
        have hM2 : MX2 s = nI j := hnx.fin hjl hjc hjm
        refine v_aload_nR (pc := 537) dX6_pass_537 rfl rfl ?_
        refine v_aload_nR (pc := 538) dX6_pass_538 rfl rfl ?_
        refine v_aload_nR (pc := 539) dX6_pass_539 rfl rfl ?_
        refine v_getS (pc := 540) 5 11 fg_X6_118 rfl hs (by decide) dX6_pass_540 ?_
        rw [smX_g5]
        rw [hM2]
        refine v_iload (pc := 543) dX6_pass_543 rfl ?_
        refine v_aload_nR (pc := 545) dX6_pass_545 rfl rfl ?_
        refine v_getS (pc := 546) 0 11 fg_X6_68 rfl hs (by decide) dX6_pass_546 ?_
        rw [smX_g0]
        refine v_aload_nR (pc := 549) dX6_pass_549 rfl rfl ?_
        refine v_getS (pc := 550) 1 11 fg_X6_121 rfl hs (by decide) dX6_pass_550 ?_
        rw [smX_g1]
        refine v_callV4 (pc := 553) (c_X6_pace hps hsc hbc hjl hr) cm_X6_pace q614 q615 q616 (ci := 6) rfl rfl (orcO 0 rfl) [0, 1, 2, 3, 4, 5, 6, 7, 8, 9, 10, 11, 12] (by rfl) (by decide) (fun _ _ h => h) (by decide) (by decide) (by decide) (Nat.le_of_ble_eq_true rfl) dX6_pass_553 (fun v553 M553 hQ553 => ?_)
        obtain ⟨rfl, rfl⟩ := hQ553
        try dsimp only [wb, SimM, List.set_cons_succ, List.set_cons_zero, List.append_nil, List.nil_append, List.cons_append, Option.toList, Nat.sub_zero]
        refine v_putS (pc := 556) 6 11 fp_X6_pass_115 rfl hs (by decide) dX6_pass_556 ?_
        try dsimp only [wb, SimM, List.set_cons_succ, List.set_cons_zero, List.append_nil, List.nil_append, List.cons_append, Option.toList, Nat.sub_zero]
        rw [smX_u6]
        refine v_aload_nR (pc := 559) dX6_pass_559 rfl rfl ?_
        refine v_get (pc := 560) 1 0 fg_X6_7 rfl rfl dX6_pass_560 ?_
        refine v_aload_nR (pc := 563) dX6_pass_563 rfl rfl ?_
        refine v_getS (pc := 564) 3 11 fg_X6_71 rfl hs (by decide) dX6_pass_564 ?_
        rw [smX_g3]
        rw [upS_n _ _ (by omega : ¬ (s = s ∧ 4 = 7)), h4]
        refine v_ialdN (pc := 567) 1 (k := k) rfl (by omega) (by omega) dX6_pass_567 ?_
        refine v_if_lt (pc := 568) (tgt := 646) dX6_pass_568 (by decide) (fun c568 => ?_) (fun c568 => ?_)
        · have eS : stU T S C k (slN SF s) ch = (S, C, ch) := if_neg (fun h9 => (thin_iff.mp h9).1 c568)
          rw [eS] at K
          refine v_cgS 11 (t := smX (upS (upS SF s 6 (nI j)) s 7 (N j + slD SF s)) MX2) rfl (smX_cong (fun i k _ hk => ?_)) ?_
          · rw [show N j + slD SF s = N j + slW SF s / (60 * SF s 0) + (if 50 ≤ SF s 2 then 1 else 0) from (Int32.add_assoc _ _ _).symm]
            unfold upS
            rcases hk with rfl | rfl | rfl | rfl | rfl | rfl <;> simp
          try dsimp only [wb, SimM, List.set_cons_succ, List.set_cons_zero, List.append_nil, List.nil_append, List.cons_append, Option.toList, Nat.sub_zero]
          refine v_sub ?_ (K MX2 H' D' hO2 (fun _ _ => ?_))
          · exact ⟨rfl, rfl, rfl, trivial⟩
          · show MX2 s = (upS (upS SF s 6 (nI j)) s 7 (N j + slD SF s)) s 6
            rw [upS_n _ _ (by omega), upS_s]
            exact hM2
        · refine v_aload_nR (pc := 571) dX6_pass_571 rfl rfl ?_
          refine v_get (pc := 572) 1 0 fg_X6_7 rfl rfl dX6_pass_572 ?_
          refine v_aload_nR (pc := 575) dX6_pass_575 rfl rfl ?_
          refine v_getS (pc := 576) 3 11 fg_X6_71 rfl hs (by decide) dX6_pass_576 ?_
          rw [smX_g3]
          rw [upS_n _ _ (by omega : ¬ (s = s ∧ 4 = 7)), h4]
          refine v_ialdN (pc := 579) 1 (k := k) rfl (by omega) (by omega) dX6_pass_579 ?_
          refine v_aload_nR (pc := 580) dX6_pass_580 rfl rfl ?_
          refine v_aload_nR (pc := 581) dX6_pass_581 rfl rfl ?_
          refine v_getS (pc := 582) 3 11 fg_X6_71 rfl hs (by decide) dX6_pass_582 ?_
          rw [smX_g3]
          rw [upS_n _ _ (by omega : ¬ (s = s ∧ 4 = 7)), h4]
          refine v_iload (pc := 585) dX6_pass_585 rfl ?_
          refine v_callV2 (pc := 587) (c_X6_needs hps hsc hbc hk) cm_X6_needs q602 q603 q604 (ci := 6) rfl rfl (orcO 0 rfl) [0, 1, 2, 3, 4, 5, 6, 7, 8, 9, 10, 11, 12] (by rfl) (by decide) (fun _ _ h => h) (by decide) (by decide) (by decide) (Nat.le_of_ble_eq_true rfl) dX6_pass_587 (fun v587 M587 hQ587 => ?_)
          obtain ⟨rfl, rfl⟩ := hQ587
          try dsimp only [wb, SimM, List.set_cons_succ, List.set_cons_zero, List.append_nil, List.nil_append, List.cons_append, Option.toList, Nat.sub_zero]
          refine v_bipush (pc := 590) (v := 10) dX6_pass_590 rfl ?_
          refine v_iadd (pc := 592) dX6_pass_592 ?_
          refine v_icmp_ge (pc := 593) (tgt := 646) dX6_pass_593 (by decide) (fun c593 => ?_) (fun c593 => ?_)
          · have eS : stU T S C k (slN SF s) ch = (S, C, ch) := if_neg (fun h9 => absurd (thin_iff.mp h9).2 (Int32.not_lt.mpr c593))
            rw [eS] at K
            refine v_cgS 11 (t := smX (upS (upS SF s 6 (nI j)) s 7 (N j + slD SF s)) MX2) rfl (smX_cong (fun i k _ hk => ?_)) ?_
            · rw [show N j + slD SF s = N j + slW SF s / (60 * SF s 0) + (if 50 ≤ SF s 2 then 1 else 0) from (Int32.add_assoc _ _ _).symm]
              unfold upS
              rcases hk with rfl | rfl | rfl | rfl | rfl | rfl <;> simp
            try dsimp only [wb, SimM, List.set_cons_succ, List.set_cons_zero, List.append_nil, List.nil_append, List.cons_append, Option.toList, Nat.sub_zero]
            refine v_sub ?_ (K MX2 H' D' hO2 (fun _ _ => ?_))
            · exact ⟨rfl, rfl, rfl, trivial⟩
            · show MX2 s = (upS (upS SF s 6 (nI j)) s 7 (N j + slD SF s)) s 6
              rw [upS_n _ _ (by omega), upS_s]
              exact hM2
          · refine v_aload_nR (pc := 596) dX6_pass_596 rfl rfl ?_
            refine v_get (pc := 597) 3 0 fg_X6_16 rfl rfl dX6_pass_597 ?_
            refine v_aload_nR (pc := 600) dX6_pass_600 rfl rfl ?_
            refine v_getS (pc := 601) 3 11 fg_X6_71 rfl hs (by decide) dX6_pass_601 ?_
            rw [smX_g3]
            rw [upS_n _ _ (by omega : ¬ (s = s ∧ 4 = 7)), h4]
            refine v_ialdN (pc := 604) 3 (k := k) rfl (by omega) (by omega) dX6_pass_604 ?_
            refine v_bipush (pc := 605) (v := 9) dX6_pass_605 rfl ?_
            refine v_icmp_ge (pc := 607) (tgt := 623) dX6_pass_607 (by decide) (fun c607 => ?_) (fun c607 => ?_)
            · refine v_aload_nR (pc := 623) dX6_pass_623 rfl rfl ?_
              refine v_get (pc := 624) 3 0 fg_X6_16 rfl rfl dX6_pass_624 ?_
              refine v_aload_nR (pc := 627) dX6_pass_627 rfl rfl ?_
              refine v_getS (pc := 628) 3 11 fg_X6_71 rfl hs (by decide) dX6_pass_628 ?_
              rw [smX_g3]
              rw [upS_n _ _ (by omega : ¬ (s = s ∧ 4 = 7)), h4]
              refine v_ialdN (pc := 631) 3 (k := k) rfl (by omega) (by omega) dX6_pass_631 ?_
              refine v_iconst (pc := 632) (v := 2) dX6_pass_632 rfl ?_
              refine v_icmp_le (pc := 633) (tgt := 646) dX6_pass_633 (by decide) (fun c633 => ?_) (fun c633 => ?_)
              · have ht9 : thin? T C k (slN SF s) = true := thin_iff.mpr ⟨c568, Int32.not_le.mp c593⟩
                have eS : stU T S C k (slN SF s) ch = (upd S k (suS S k), upd C k (suC S C k), ch) := by
                  unfold stU
                  rw [if_pos ht9]
                rw [eS] at K
                have es : S k = suS S k := (su_eq (hS k hk)).2.1 (Int32.not_lt.mpr c607)
                refine v_cgI 3 (g := upd S k (suS S k)) rfl (fun i _ => by rw [fa_upd_same es]) ?_
                try dsimp only [wb, SimM, List.set_cons_succ, List.set_cons_zero, List.append_nil, List.nil_append, List.cons_append, Option.toList, Nat.sub_zero]
                have c633 := c633
                rw [es] at c633
                have e9 : C k = suC S C k := by
                  show C k = bI (¬ C k = 0 ∨ 3 ≤ suS S k)
                  rcases cOK01 hC k with h9 | h9
                  · rw [h9, bI_f]
                    exact fun h8 => h8.elim (fun h7 => h7 rfl) (fun h7 => by
                      rw [i_le] at c633 h7
                      rw [show (2 : Int32).toInt = 2 by decide] at c633
                      rw [show (3 : Int32).toInt = 3 by decide] at h7
                      omega)
                  · rw [h9, bI_t (Or.inl (by decide))]
                refine v_cgZ 4 (g := upd C k (suC S C k)) rfl (fun i _ => by rw [fa_upd_same e9]) ?_
                try dsimp only [wb, SimM, List.set_cons_succ, List.set_cons_zero, List.append_nil, List.nil_append, List.cons_append, Option.toList, Nat.sub_zero]
                refine v_cgS 11 (t := smX (upS (upS SF s 6 (nI j)) s 7 (N j + slD SF s)) MX2) rfl (smX_cong (fun i k _ hk => ?_)) ?_
                · rw [show N j + slD SF s = N j + slW SF s / (60 * SF s 0) + (if 50 ≤ SF s 2 then 1 else 0) from (Int32.add_assoc _ _ _).symm]
                  unfold upS
                  rcases hk with rfl | rfl | rfl | rfl | rfl | rfl <;> simp
                try dsimp only [wb, SimM, List.set_cons_succ, List.set_cons_zero, List.append_nil, List.nil_append, List.cons_append, Option.toList, Nat.sub_zero]
                refine v_sub ?_ (K MX2 H' D' hO2 (fun _ _ => ?_))
                · exact ⟨rfl, rfl, rfl, trivial⟩
                · show MX2 s = (upS (upS SF s 6 (nI j)) s 7 (N j + slD SF s)) s 6
                  rw [upS_n _ _ (by omega), upS_s]
                  exact hM2
              · refine v_aload_nR (pc := 636) dX6_pass_636 rfl rfl ?_
                refine v_get (pc := 637) 4 0 fg_X6_19 rfl rfl dX6_pass_637 ?_
                refine v_aload_nR (pc := 640) dX6_pass_640 rfl rfl ?_
                refine v_getS (pc := 641) 3 11 fg_X6_71 rfl hs (by decide) dX6_pass_641 ?_
                rw [smX_g3]
                rw [upS_n _ _ (by omega : ¬ (s = s ∧ 4 = 7)), h4]
                refine v_iconst (pc := 644) (v := 1) dX6_pass_644 rfl ?_
                refine v_zastN (pc := 645) 4 (k := k) rfl (by omega) (by omega) rfl dX6_pass_645 ?_
                try dsimp only [wb, SimM, List.set_cons_succ, List.set_cons_zero, List.append_nil, List.nil_append, List.cons_append, Option.toList, Nat.sub_zero]
                have ht9 : thin? T C k (slN SF s) = true := thin_iff.mpr ⟨c568, Int32.not_le.mp c593⟩
                have eS : stU T S C k (slN SF s) ch = (upd S k (suS S k), upd C k (suC S C k), ch) := by
                  unfold stU
                  rw [if_pos ht9]
                rw [eS] at K
                have es : S k = suS S k := (su_eq (hS k hk)).2.1 (Int32.not_lt.mpr c607)
                refine v_cgI 3 (g := upd S k (suS S k)) rfl (fun i _ => by rw [fa_upd_same es]) ?_
                try dsimp only [wb, SimM, List.set_cons_succ, List.set_cons_zero, List.append_nil, List.nil_append, List.cons_append, Option.toList, Nat.sub_zero]
                have c633 := c633
                rw [es] at c633
                have e9 : (1 : Int32) = suC S C k := (bI_t (P := ¬ C k = 0 ∨ 3 ≤ suS S k) (Or.inr (by
                  rw [i_le] at c633 ⊢
                  rw [show (2 : Int32).toInt = 2 by decide] at c633
                  rw [show (3 : Int32).toInt = 3 by decide]
                  omega))).symm
                refine v_cgZ 4 (g := upd C k (suC S C k)) rfl (fun i _ => by rw [← e9]) ?_
                try dsimp only [wb, SimM, List.set_cons_succ, List.set_cons_zero, List.append_nil, List.nil_append, List.cons_append, Option.toList, Nat.sub_zero]
                refine v_cgS 11 (t := smX (upS (upS SF s 6 (nI j)) s 7 (N j + slD SF s)) MX2) rfl (smX_cong (fun i k _ hk => ?_)) ?_
                · rw [show N j + slD SF s = N j + slW SF s / (60 * SF s 0) + (if 50 ≤ SF s 2 then 1 else 0) from (Int32.add_assoc _ _ _).symm]
                  unfold upS
                  rcases hk with rfl | rfl | rfl | rfl | rfl | rfl <;> simp
                try dsimp only [wb, SimM, List.set_cons_succ, List.set_cons_zero, List.append_nil, List.nil_append, List.cons_append, Option.toList, Nat.sub_zero]
                refine v_sub ?_ (K MX2 H' D' hO2 (fun _ _ => ?_))
                · exact ⟨rfl, rfl, rfl, trivial⟩
                · show MX2 s = (upS (upS SF s 6 (nI j)) s 7 (N j + slD SF s)) s 6
                  rw [upS_n _ _ (by omega), upS_s]
                  exact hM2
            · refine v_aload_nR (pc := 610) dX6_pass_610 rfl rfl ?_
              refine v_get (pc := 611) 3 0 fg_X6_16 rfl rfl dX6_pass_611 ?_
              refine v_aload_nR (pc := 614) dX6_pass_614 rfl rfl ?_
              refine v_getS (pc := 615) 3 11 fg_X6_71 rfl hs (by decide) dX6_pass_615 ?_
              rw [smX_g3]
              rw [upS_n _ _ (by omega : ¬ (s = s ∧ 4 = 7)), h4]
              refine v_dup2 (pc := 618) dX6_pass_618 rfl rfl ?_
              refine v_ialdN (pc := 619) 3 (k := k) rfl (by omega) (by omega) dX6_pass_619 ?_
              refine v_iconst (pc := 620) (v := 1) dX6_pass_620 rfl ?_
              refine v_iadd (pc := 621) dX6_pass_621 ?_
              refine v_iastN (pc := 622) 3 (k := k) rfl (by omega) (by omega) dX6_pass_622 ?_
              try dsimp only [wb, SimM, List.set_cons_succ, List.set_cons_zero, List.append_nil, List.nil_append, List.cons_append, Option.toList, Nat.sub_zero]
              refine v_aload_nR (pc := 623) dX6_pass_623 rfl rfl ?_
              refine v_get (pc := 624) 3 0 fg_X6_16 rfl rfl dX6_pass_624 ?_
              refine v_aload_nR (pc := 627) dX6_pass_627 rfl rfl ?_
              refine v_getS (pc := 628) 3 11 fg_X6_71 rfl hs (by decide) dX6_pass_628 ?_
              rw [smX_g3]
              rw [upS_n _ _ (by omega : ¬ (s = s ∧ 4 = 7)), h4]
              refine v_ialdN (pc := 631) 3 (k := k) rfl (by omega) (by omega) dX6_pass_631 ?_
              rw [pk_us]
              refine v_iconst (pc := 632) (v := 2) dX6_pass_632 rfl ?_
              refine v_icmp_le (pc := 633) (tgt := 646) dX6_pass_633 (by decide) (fun c633 => ?_) (fun c633 => ?_)
              · have ht9 : thin? T C k (slN SF s) = true := thin_iff.mpr ⟨c568, Int32.not_le.mp c593⟩
                have eS : stU T S C k (slN SF s) ch = (upd S k (suS S k), upd C k (suC S C k), ch) := by
                  unfold stU
                  rw [if_pos ht9]
                rw [eS] at K
                have es : S k + 1 = suS S k := (su_eq (hS k hk)).1 (Int32.not_le.mp c607)
                refine v_cgI 3 (g := upd S k (suS S k)) rfl (fun i _ => by rw [es]) ?_
                try dsimp only [wb, SimM, List.set_cons_succ, List.set_cons_zero, List.append_nil, List.nil_append, List.cons_append, Option.toList, Nat.sub_zero]
                have c633 := c633
                rw [es] at c633
                have e9 : C k = suC S C k := by
                  show C k = bI (¬ C k = 0 ∨ 3 ≤ suS S k)
                  rcases cOK01 hC k with h9 | h9
                  · rw [h9, bI_f]
                    exact fun h8 => h8.elim (fun h7 => h7 rfl) (fun h7 => by
                      rw [i_le] at c633 h7
                      rw [show (2 : Int32).toInt = 2 by decide] at c633
                      rw [show (3 : Int32).toInt = 3 by decide] at h7
                      omega)
                  · rw [h9, bI_t (Or.inl (by decide))]
                refine v_cgZ 4 (g := upd C k (suC S C k)) rfl (fun i _ => by rw [fa_upd_same e9]) ?_
                try dsimp only [wb, SimM, List.set_cons_succ, List.set_cons_zero, List.append_nil, List.nil_append, List.cons_append, Option.toList, Nat.sub_zero]
                refine v_cgS 11 (t := smX (upS (upS SF s 6 (nI j)) s 7 (N j + slD SF s)) MX2) rfl (smX_cong (fun i k _ hk => ?_)) ?_
                · rw [show N j + slD SF s = N j + slW SF s / (60 * SF s 0) + (if 50 ≤ SF s 2 then 1 else 0) from (Int32.add_assoc _ _ _).symm]
                  unfold upS
                  rcases hk with rfl | rfl | rfl | rfl | rfl | rfl <;> simp
                try dsimp only [wb, SimM, List.set_cons_succ, List.set_cons_zero, List.append_nil, List.nil_append, List.cons_append, Option.toList, Nat.sub_zero]
                refine v_sub ?_ (K MX2 H' D' hO2 (fun _ _ => ?_))
                · exact ⟨rfl, rfl, rfl, trivial⟩
                · show MX2 s = (upS (upS SF s 6 (nI j)) s 7 (N j + slD SF s)) s 6
                  rw [upS_n _ _ (by omega), upS_s]
                  exact hM2
              · refine v_aload_nR (pc := 636) dX6_pass_636 rfl rfl ?_
                refine v_get (pc := 637) 4 0 fg_X6_19 rfl rfl dX6_pass_637 ?_
                refine v_aload_nR (pc := 640) dX6_pass_640 rfl rfl ?_
                refine v_getS (pc := 641) 3 11 fg_X6_71 rfl hs (by decide) dX6_pass_641 ?_
                rw [smX_g3]
                rw [upS_n _ _ (by omega : ¬ (s = s ∧ 4 = 7)), h4]
                refine v_iconst (pc := 644) (v := 1) dX6_pass_644 rfl ?_
                refine v_zastN (pc := 645) 4 (k := k) rfl (by omega) (by omega) rfl dX6_pass_645 ?_
                try dsimp only [wb, SimM, List.set_cons_succ, List.set_cons_zero, List.append_nil, List.nil_append, List.cons_append, Option.toList, Nat.sub_zero]
                have ht9 : thin? T C k (slN SF s) = true := thin_iff.mpr ⟨c568, Int32.not_le.mp c593⟩
                have eS : stU T S C k (slN SF s) ch = (upd S k (suS S k), upd C k (suC S C k), ch) := by
                  unfold stU
                  rw [if_pos ht9]
                rw [eS] at K
                have es : S k + 1 = suS S k := (su_eq (hS k hk)).1 (Int32.not_le.mp c607)
                refine v_cgI 3 (g := upd S k (suS S k)) rfl (fun i _ => by rw [es]) ?_
                try dsimp only [wb, SimM, List.set_cons_succ, List.set_cons_zero, List.append_nil, List.nil_append, List.cons_append, Option.toList, Nat.sub_zero]
                have c633 := c633
                rw [es] at c633
                have e9 : (1 : Int32) = suC S C k := (bI_t (P := ¬ C k = 0 ∨ 3 ≤ suS S k) (Or.inr (by
                  rw [i_le] at c633 ⊢
                  rw [show (2 : Int32).toInt = 2 by decide] at c633
                  rw [show (3 : Int32).toInt = 3 by decide]
                  omega))).symm
                refine v_cgZ 4 (g := upd C k (suC S C k)) rfl (fun i _ => by rw [← e9]) ?_
                try dsimp only [wb, SimM, List.set_cons_succ, List.set_cons_zero, List.append_nil, List.nil_append, List.cons_append, Option.toList, Nat.sub_zero]
                refine v_cgS 11 (t := smX (upS (upS SF s 6 (nI j)) s 7 (N j + slD SF s)) MX2) rfl (smX_cong (fun i k _ hk => ?_)) ?_
                · rw [show N j + slD SF s = N j + slW SF s / (60 * SF s 0) + (if 50 ≤ SF s 2 then 1 else 0) from (Int32.add_assoc _ _ _).symm]
                  unfold upS
                  rcases hk with rfl | rfl | rfl | rfl | rfl | rfl <;> simp
                try dsimp only [wb, SimM, List.set_cons_succ, List.set_cons_zero, List.append_nil, List.nil_append, List.cons_append, Option.toList, Nat.sub_zero]
                refine v_sub ?_ (K MX2 H' D' hO2 (fun _ _ => ?_))
                · exact ⟨rfl, rfl, rfl, trivial⟩
                · show MX2 s = (upS (upS SF s 6 (nI j)) s 7 (N j + slD SF s)) s 6
                  rw [upS_n _ _ (by omega), upS_s]
                  exact hM2
      · refine v_goto (pc := 440) (tgt := 646) dX6_pass_440 (by decide) ?_
        have hay : (lkq (HbS T C SF s) N (slD SF s) k (some g) qs.2.2.1).1 k = -1 := by
          rcases hL.1 k hk with q9 | ⟨m9, n9, q9, q8, -⟩
          · exact q9
          · rw [q9] at c437
            exact absurd (nI_pos' (n := m9) (by omega)) c437
        by_cases hch : SF s 8 = ch
        · have e : (soT l5 T N PC ps sc s (SF, qs, lr, nd, dg, S, C, ch)) = (SF, qs, lr, nd, dg, S, C, ch) := if_neg (fun h => h.2.2.2 hch)
          rw [e] at K
          refine v_sub ?_ (K MX H' D' (fun i _ => rfl) (fun _ h => absurd h c397))
          exact ⟨rfl, rfl, rfl, trivial⟩
        · have e : (soT l5 T N PC ps sc s (SF, qs, lr, nd, dg, S, C, ch)) = (upS SF s 8 ch, soQ T N PC ps s (SF, qs, lr, nd, dg, S, C, ch), l5, slN SF s, slD SF s, S, C, ch) := by
            unfold soT
            rw [if_pos ⟨hs, c390, c397, hch⟩, hso]
            unfold ffq
            rw [if_pos hay]
          rw [e] at K
          refine v_cgS 11 (t := smX (upS SF s 8 ch) MX) rfl (smX_cong (fun i k _ hk => (upS_n _ _ (by omega)).symm)) ?_
          try dsimp only [wb, SimM, List.set_cons_succ, List.set_cons_zero, List.append_nil, List.nil_append, List.cons_append, Option.toList, Nat.sub_zero]
          refine v_sub ?_ (K MX H' D' (fun i _ => rfl) (fun _ h => absurd h ?_))
          · exact ⟨rfl, rfl, rfl, trivial⟩
          · show ¬ 0 < upS SF s 8 ch s 7
            rw [upS_n _ _ (by omega)]
            exact c397
    · refine v_goto (pc := 400) (tgt := 646) dX6_pass_400 (by decide) ?_
      have e : (soT l5 T N PC ps sc s (SF, qs, lr, nd, dg, S, C, ch)) = (SF, qs, lr, nd, dg, S, C, ch) := if_neg (fun h => h.2.2.1 (Int32.not_le.mp c397))
      rw [e] at K
      refine v_sub ?_ (K MX H D (fun i _ => rfl) hX)
      exact ⟨rfl, rfl, rfl, trivial⟩
set_option maxRecDepth 100000 in
set_option maxHeartbeats 4000000 in
theorem lp_X6_p3 {G : Cx} {v xs bs : Nat → Nat} {hh : Nat} {T N S C O PC : Nat → Int32} {ps sc bc : Nat} {SF : Nat → Nat → Int32} {MX : Nat → Int32} {BF : Nat → Nat → Int32} {H D : Nat → Int32} (hps : ps ≤ 8) (hsc : sc ≤ 5) (hbc : bc ≤ 40) {sz : Nat} {n5 : Nat} (h5 : n5 = 5) {Z : ZT} {q : Int32} {l5 : Value} {B : Nat} (hB : B < 2 ^ 30 - 10) {r : SO} (hPC : ∀ k, k < 8 → 0 ≤ PC k ∧ PC k < 160) (hN : nOK N) (K : ∀ MX H D : Nat → Int32, hIV PC ps sc bc T r.2.2.2.2.2.2.1 r.2.2.2.2.2.2.2 r.1 BF MX (B + sc) → jV r.1 sc → sTK r.2.2.2.2.2.1 → V G Y_X6_pass Z 6 1 160 652 [some (.ref (v 0)), some (.int q), some (.int (nI sc)), none, none, none, none, none] [] (SimM v xs bs hh T N r.2.2.2.2.2.1 r.2.2.2.2.2.2.1 O PC ps sc bc r.1 MX BF H D)) : ∀ (m i : Nat), m + i = sc → ∀ (y : SO) (MX H D : Nat → Int32), hIV PC ps sc bc T y.2.2.2.2.2.2.1 y.2.2.2.2.2.2.2 y.1 BF MX (B + i) → jV y.1 sc → sTK y.2.2.2.2.2.1 → soL l5 T N PC ps sc (n5 - i) i y = r → V G Y_X6_pass Z 6 1 160 369 [some (.ref (v 0)), some (.int q), some (.int (nI i)), none, none, none, none, none] [] (SimM v xs bs hh T N y.2.2.2.2.2.1 y.2.2.2.2.2.2.1 O PC ps sc bc y.1 MX BF H D) := by
  intro m
  induction m with
  | zero =>
    intro i hi
    have hi2 : i = sc := by omega
    intro y MX H D hI hJ hS hr
    rw [soL_stop _ i y (by omega)] at hr
    subst hr
    refine v_iload_n (pc := 369) dX6_pass_369 rfl rfl ?_
    refine v_aload_nR (pc := 370) dX6_pass_370 rfl rfl ?_
    refine v_get (pc := 371) 7 0 fg_X6_31 rfl rfl dX6_pass_371 ?_
    refine v_alen (pc := 374) 7 (v := nI sc) rfl (fun _ => rfl) rfl dX6_pass_374 ?_
    refine v_icmp_ge (pc := 375) (tgt := 652) dX6_pass_375 (by decide) (fun c375 => ?_) (fun c375 => absurd (nI_le (a := sc) (b := i) (by omega) (by omega)) c375)
    have c375 : sc ≤ i := (nI_leI (a := sc) (b := i) (by omega) (by omega)).mp c375
    rw [hi2]
    refine v_sub ?_ (K MX H D (hI.more (by omega)) hJ hS)
    exact ⟨rfl, rfl, rfl, trivial⟩
  | succ m ih =>
    intro i hi
    intro y MX H D hI hJ hS hr
    obtain ⟨hI1, hI2, hI3, hI4, hI5, ⟨hT, hC, hL⟩, hI7, hI8⟩ := id hI
    have hc4 := cN_of (hI1 i (by omega)).2.1
    refine v_iload_n (pc := 369) dX6_pass_369 rfl rfl ?_
    refine v_aload_nR (pc := 370) dX6_pass_370 rfl rfl ?_
    refine v_get (pc := 371) 7 0 fg_X6_31 rfl rfl dX6_pass_371 ?_
    refine v_alen (pc := 374) 7 (v := nI sc) rfl (fun _ => rfl) rfl dX6_pass_374 ?_
    refine v_icmp_ge (pc := 375) (tgt := 652) dX6_pass_375 (by decide) (fun c375 => absurd c375 (nI_ge (a := i) (b := sc) (by omega) (by omega))) (fun c375 => ?_)
    have c375 : ¬ sc ≤ i := fun h => c375 ((nI_leI (a := sc) (b := i) (by omega) (by omega)).mpr h)
    refine v_aload_nR (pc := 378) dX6_pass_378 rfl rfl ?_
    refine v_get (pc := 379) 7 0 fg_X6_31 rfl rfl dX6_pass_379 ?_
    refine v_iload_n (pc := 382) dX6_pass_382 rfl rfl ?_
    refine v_aaldS (pc := 383) 7 (k := i) (by decide) rfl (by omega) (by omega) dX6_pass_383 ?_
    refine v_astore_nR (pc := 384) dX6_pass_384 rfl (by decide) rfl ?_
    refine lp_X6_so1 (SF := y.1) (S := y.2.2.2.2.2.1) (C := y.2.2.2.2.2.2.1) hps hsc hbc (qs := y.2.1) (lr := y.2.2.1) (l5 := l5) (nd := y.2.2.2.1) (dg := y.2.2.2.2.1) (ch := y.2.2.2.2.2.2.2) (s := i) (by omega) (hI4 i (by omega)) (wt_bd hI4 hI5 hI1 hsc (by omega)) (hI1 i (by omega)).1 hN hT hC hS hc4.1 hc4.2 (hI7 i (by omega)) (so_h5 hps hPC hI1 hI2 hI3 (by omega)) (fun MY H9 D9 hO9 hM9 => ?_)
    refine v_iinc (pc := 646) (v := nI (i + 1)) dX6_pass_646 rfl (nI_1 _) (by decide) rfl ?_
    refine v_goto (pc := 649) (tgt := 369) dX6_pass_649 (by decide) ?_
    have hr2 : soL l5 T N PC ps sc (n5 - (i + 1)) (i + 1) (soT l5 T N PC ps sc i y) = r := by
      rw [show n5 - i = (n5 - (i + 1)) + 1 by omega] at hr
      exact hr
    refine v_sub ?_ (ih (i + 1) (by omega) _ MY H9 D9 ((hI.so (l5 := l5) (n := i) (by omega) hsc hps hPC hN hO9 hM9).more (by omega)) hJ.so hS.so hr2)
    exact ⟨rfl, rfl, rfl, trivial⟩
