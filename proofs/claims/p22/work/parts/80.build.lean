/-! the lake that is chosen -/
set_option maxRecDepth 100000 in
set_option maxHeartbeats 4000000 in
theorem lp_b6 {G : Cx} {w : Nat → Nat} {a b f : Nat → Int32} {wa : Int32} {lr : Value} {nd dg : Int32} {B : Nat → Int32} {hh g0 u0 : Nat} {H D : Nat → Int32} {M0 : List ME} (hM0 : M0.length = 18) (hL31 : G.2.2.2.2.2.1 < 2 ^ 31) {sz : Nat} : ∀ (m : Nat), ∀ (v xs bs : Nat → Nat) (T N S C O : Nat → Int32) (ch : Int32) (PC : Nat → Int32) (SF BF : Nat → Nat → Int32) (ps sc bc : Nat) (MX : Nat → Int32) (nb : Nat), m + bc = nb → nb ≤ 8 → (0 < nb → 2 ≤ ps) → (1 ≤ ps ∧ (1 ≤ sc ∧ sc ≤ 4)) → LI N O PC ps sc bc T S C ch SF BF MX 2000 → V G Y_L_build (ZM G M0 sz (fun v' M' => ∃ (v xs bs : Nat → Nat) (T N S C O : Nat → Int32) (ch : Int32) (PC : Nat → Int32) (SF BF : Nat → Nat → Int32) (ps sc bc : Nat) (MX : Nat → Int32) (H D : Nat → Int32), v' = some (.ref (v 0)) ∧ (1 ≤ ps ∧ (1 ≤ sc ∧ sc ≤ 4) ∧ bc ≤ 8) ∧ LI N O PC ps sc bc T S C ch SF BF MX 2000 ∧ M' = eO 5 g0 [.ref (w 0), .ref u0] :: (WorldM w a b f wa lr nd dg T N S C B O ch PC SF BF ps sc bc hh ++ SimM v xs bs hh T N S C O PC ps sc bc SF MX BF H D)) noX) 8 (3 * m) (51 * m) 600 [some (.ref g0), some (.ref G.2.2.2.1), some (.ref (v 0)), none, none, some (.int (nI ps)), none, some (.int (nI nb)), some (.int (nI bc)), none, none, none] [] (eO 5 g0 [.ref (w 0), .ref u0] :: (WorldM w a b f wa lr nd dg T N S C B O ch PC SF BF ps sc bc hh ++ SimM v xs bs hh T N S C O PC ps sc bc SF MX BF H D)) := by
  intro m
  induction m with
  | zero =>
    intro v xs bs T N S C O ch PC SF BF ps sc bc MX nb hmn hn8 h2 h1 hI
    obtain ⟨hps, hsc, hbc⟩ := hI.1.1
    have h2x := 0
    refine v_iload (pc := 600) dL_build_600 rfl ?_
    refine v_iload (pc := 602) dL_build_602 rfl ?_
    refine v_icmp_ge (pc := 604) (tgt := 702) dL_build_604 (by decide) (fun c604 => ?_) (fun c604 => absurd (nI_le (a := nb) (b := bc) (by omega) (by omega)) c604)
    have c604 : nb ≤ bc := (nI_leI (a := nb) (b := bc) (by omega) (by omega)).mp c604
    refine v_aload_nR (pc := 702) dL_build_702 rfl rfl ?_
    refine v_aret (pc := 703) rfl (Or.inl ⟨_, rfl⟩) (Or.inr ⟨_, rfl⟩) (by rw [hM0]; exact Nat.le_of_ble_eq_true rfl) dL_build_703 ?_
    exact ⟨v, xs, bs, T, N, S, C, O, ch, PC, SF, BF, ps, sc, bc, MX, H, D, rfl, ⟨h1.1, h1.2, by omega⟩, hI, rfl⟩
  | succ m ih =>
    intro v xs bs T N S C O ch PC SF BF ps sc bc MX nb hmn hn8 h2 h1 hI
    obtain ⟨hps, hsc, hbc⟩ := hI.1.1
    have hps2 := h2 (by omega)
    refine v_iload (pc := 600) dL_build_600 rfl ?_
    refine v_iload (pc := 602) dL_build_602 rfl ?_
    refine v_icmp_ge (pc := 604) (tgt := 702) dL_build_604 (by decide) (fun c604 => absurd c604 (nI_ge (a := bc) (b := nb) (by omega) (by omega))) (fun c604 => ?_)
    have c604 : ¬ nb ≤ bc := fun h => c604 ((nI_leI (a := nb) (b := bc) (by omega) (by omega)).mpr h)
    refine v_aload_nR (pc := 607) dL_build_607 rfl rfl ?_
    refine v_bipush (pc := 608) (v := 12) dL_build_608 rfl ?_
    refine v_callS2 (pc := 610) (c_L_cell hL31 (k := 12) (by omega)) cm_L_cell q622 q623 [] (by rfl) (by decide) (fun _ _ h => h) (by omega) (by omega) (by decide) (Nat.le_of_ble_eq_true rfl) dL_build_610 (fun v610 M610 hQ610 => ?_)
    obtain ⟨r610, rfl, rfl⟩ := hQ610
    try dsimp only [wb, LakeM, WaysM, WorldM, SimM, List.set_cons_succ, List.set_cons_zero, List.append_nil, List.nil_append, List.cons_append, Option.toList, Nat.sub_zero]
    refine v_iload (pc := 613) dL_build_613 rfl ?_
    refine v_ishr (pc := 615) dL_build_615 ?_
    refine v_iload (pc := 616) dL_build_616 rfl ?_
    refine v_callS2 (pc := 618) (c_L_below (n := ps) (by omega) (by omega)) cm_L_below q618 q619 [] (by rfl) (by decide) (fun _ _ h => h) (by omega) (by omega) (by decide) (Nat.le_of_ble_eq_true rfl) dL_build_618 (fun v618 M618 hQ618 => ?_)
    obtain ⟨r618, hr618, rfl, rfl⟩ := hQ618
    try dsimp only [wb, LakeM, WaysM, WorldM, SimM, List.set_cons_succ, List.set_cons_zero, List.append_nil, List.nil_append, List.cons_append, Option.toList, Nat.sub_zero]
    refine v_istore (pc := 621) dL_build_621 (by decide) rfl ?_
    refine v_iload (pc := 623) dL_build_623 rfl ?_
    refine v_iconst (pc := 625) (v := 1) dL_build_625 rfl ?_
    refine v_iadd (pc := 626) dL_build_626 ?_
    rw [show nI r618 + 1 = nI (r618 + 1) from nI_add r618 1]
    refine v_aload_nR (pc := 627) dL_build_627 rfl rfl ?_
    refine v_bipush (pc := 628) (v := 13) dL_build_628 rfl ?_
    refine v_callS2 (pc := 630) (c_L_cell hL31 (k := 13) (by omega)) cm_L_cell q622 q623 [] (by rfl) (by decide) (fun _ _ h => h) (by omega) (by omega) (by decide) (Nat.le_of_ble_eq_true rfl) dL_build_630 (fun v630 M630 hQ630 => ?_)
    obtain ⟨r630, rfl, rfl⟩ := hQ630
    try dsimp only [wb, LakeM, WaysM, WorldM, SimM, List.set_cons_succ, List.set_cons_zero, List.append_nil, List.nil_append, List.cons_append, Option.toList, Nat.sub_zero]
    refine v_iload (pc := 633) dL_build_633 rfl ?_
    refine v_ishr (pc := 635) dL_build_635 ?_
    refine v_iload (pc := 636) dL_build_636 rfl ?_
    refine v_iconst (pc := 638) (v := 1) dL_build_638 rfl ?_
    refine v_isub (pc := 639) dL_build_639 ?_
    rw [show nI ps - 1 = nI (ps - 1) from pk_sub (a := ps) (b := 1) (by omega)]
    refine v_callS2 (pc := 640) (c_L_below (n := (ps - 1)) (by omega) (by omega)) cm_L_below q618 q619 [] (by rfl) (by decide) (fun _ _ h => h) (by omega) (by omega) (by decide) (Nat.le_of_ble_eq_true rfl) dL_build_640 (fun v640 M640 hQ640 => ?_)
    obtain ⟨r640, hr640, rfl, rfl⟩ := hQ640
    try dsimp only [wb, LakeM, WaysM, WorldM, SimM, List.set_cons_succ, List.set_cons_zero, List.append_nil, List.nil_append, List.cons_append, Option.toList, Nat.sub_zero]
    refine v_iadd (pc := 643) dL_build_643 ?_
    rw [show nI (r618 + 1) + nI r640 = nI (r618 + 1 + r640) from nI_add _ _]
    refine v_iload (pc := 644) dL_build_644 rfl ?_
    refine v_irem (pc := 646) dL_build_646 (fun q => by have := (nI_eq (a := ps) (b := 0) (by omega) (by decide)).mp q; omega) ?_
    obtain ⟨t9, ht9, ht0, et9⟩ : ∃ t9, t9 < ps ∧ ¬ r618 = t9 ∧ nI (r618 + 1 + r640) - nI (r618 + 1 + r640) / nI ps * nI ps = nI t9 := ⟨(r618 + 1 + r640) % ps, by have h := (mod_ne (a := r618) (d := 1 + r640) (n := ps) hr618 (by omega) (by omega)).2; rw [← Nat.add_assoc] at h; exact h, by have h := (mod_ne (a := r618) (d := 1 + r640) (n := ps) hr618 (by omega) (by omega)).1; rw [← Nat.add_assoc] at h; exact h, pk_rem (by omega) (by omega) (by omega)⟩
    rw [et9]
    refine v_istore (pc := 647) dL_build_647 (by decide) rfl ?_
    refine v_iconst (pc := 649) (v := 1) dL_build_649 rfl ?_
    refine v_aload_nR (pc := 650) dL_build_650 rfl rfl ?_
    refine v_bipush (pc := 651) (v := 13) dL_build_651 rfl ?_
    refine v_callS2 (pc := 653) (c_L_cell hL31 (k := 13) (by omega)) cm_L_cell q622 q623 [] (by rfl) (by decide) (fun _ _ h => h) (by omega) (by omega) (by decide) (Nat.le_of_ble_eq_true rfl) dL_build_653 (fun v653 M653 hQ653 => ?_)
    obtain ⟨r653, rfl, rfl⟩ := hQ653
    try dsimp only [wb, LakeM, WaysM, WorldM, SimM, List.set_cons_succ, List.set_cons_zero, List.append_nil, List.nil_append, List.cons_append, Option.toList, Nat.sub_zero]
    refine v_iconst (pc := 656) (v := 2) dL_build_656 rfl ?_
    refine v_iload (pc := 657) dL_build_657 rfl ?_
    refine v_imul (pc := 659) dL_build_659 ?_
    refine v_ishr (pc := 660) dL_build_660 ?_
    refine v_bipush (pc := 661) (v := 30) dL_build_661 rfl ?_
    refine v_callS2 (pc := 663) (c_L_below (n := 30) (by omega) (by omega)) cm_L_below q618 q619 [] (by rfl) (by decide) (fun _ _ h => h) (by omega) (by omega) (by decide) (Nat.le_of_ble_eq_true rfl) dL_build_663 (fun v663 M663 hQ663 => ?_)
    obtain ⟨r663, hr663, rfl, rfl⟩ := hQ663
    try dsimp only [wb, LakeM, WaysM, WorldM, SimM, List.set_cons_succ, List.set_cons_zero, List.append_nil, List.nil_append, List.cons_append, Option.toList, Nat.sub_zero]
    refine v_iadd (pc := 666) dL_build_666 ?_
    rw [show 1 + nI r663 = nI (1 + r663) from nI_add 1 r663]
    refine v_istore (pc := 667) dL_build_667 (by decide) rfl ?_
    refine v_aload_nR (pc := 669) dL_build_669 rfl rfl ?_
    refine v_iload (pc := 670) dL_build_670 rfl ?_
    refine v_iload (pc := 672) dL_build_672 rfl ?_
    refine v_iload (pc := 674) dL_build_674 rfl ?_
    refine v_callV3 (pc := 676) (c7_addBag hps hsc hbc hr618 ht9 ht0 (by omega) (by omega) (by omega)) cm_X5_addBag q805 q806 q807 (ci := 5) rfl rfl (orcO 0 rfl) [0, 1, 2, 3, 4, 5, 6, 7, 8, 9, 10, 11, 12, 13, 14, 15, 16, 17] (by rfl) (by decide) (fun _ _ h => h) (by omega) (by omega) (by decide) (Nat.le_of_ble_eq_true rfl) dL_build_676 (fun v676 M676 hQ676 => ?_)
    obtain ⟨rfl, rfl⟩ := hQ676
    try dsimp only [wb, LakeM, WaysM, WorldM, SimM, List.set_cons_succ, List.set_cons_zero, List.append_nil, List.nil_append, List.cons_append, Option.toList, Nat.sub_zero]
    refine v_iload (pc := 679) dL_build_679 rfl ?_
    refine v_icmp_eq (pc := 681) (tgt := 686) dL_build_681 (by decide) (fun c681 => ?_) (fun c681 => absurd rfl c681)
    refine v_aload_nR (pc := 686) dL_build_686 rfl rfl ?_
    refine v_iload (pc := 687) dL_build_687 rfl ?_
    refine v_iload (pc := 689) dL_build_689 rfl ?_
    refine v_iload (pc := 691) dL_build_691 rfl ?_
    refine v_callV3 (pc := 693) (c_X6_bag hps hsc hbc (by omega)) cm_X6_bag q819 q820 q821 (ci := 6) rfl rfl (orcO 18 rfl) [18, 19, 20, 21, 22, 23, 24, 25, 26, 27, 28, 29, 30] (by rfl) (by decide) (fun _ _ h => h) (by omega) (by omega) (by decide) (Nat.le_of_ble_eq_true rfl) dL_build_693 (fun v693 M693 hQ693 => ?_)
    obtain ⟨rfl, q693, z693, rfl⟩ := hQ693
    try dsimp only [wb, LakeM, WaysM, WorldM, SimM, List.set_cons_succ, List.set_cons_zero, List.append_nil, List.nil_append, List.cons_append, Option.toList, Nat.sub_zero]
    refine v_iinc (pc := 696) (v := nI (bc + 1)) dL_build_696 rfl (nI_1 _) (by decide) rfl ?_
    refine v_goto (pc := 699) (tgt := 600) dL_build_699 (by decide) ?_
    refine v_room (ck' := 3 * m) (sk' := 51 * m) (by omega) (by omega) ?_
    have k9 := ih (upv v 8 q693) xs (fun j => if j = bc then z693 else bs j) T N S C O ch PC SF (begB BF bc (nI r618) (nI t9) (nI (1 + r663))) ps sc (bc + 1) MX nb (by omega) hn8 h2 h1 (hI.addB hr618 ht9 ht0 (by omega) (by omega) (by omega))
    refine v_sub ?_ k9
    exact ⟨rfl, rfl, rfl, rfl, rfl, rfl, trivial⟩
set_option maxRecDepth 100000 in
set_option maxHeartbeats 4000000 in
theorem lp_b5 {G : Cx} {w : Nat → Nat} {a b f : Nat → Int32} {wa : Int32} {lr : Value} {nd dg : Int32} {B : Nat → Int32} {hh g0 u0 : Nat} {H D : Nat → Int32} {M0 : List ME} (hM0 : M0.length = 18) (hL31 : G.2.2.2.2.2.1 < 2 ^ 31) {sz : Nat} : ∀ (m : Nat), ∀ (v xs bs : Nat → Nat) (T N S C O : Nat → Int32) (ch : Int32) (PC : Nat → Int32) (SF BF : Nat → Nat → Int32) (ps sc bc : Nat) (MX : Nat → Int32) (ns : Nat), m + sc = ns → (1 ≤ ns ∧ ns ≤ 4) → bc = 0 → 1 ≤ ps → LI N O PC ps sc bc T S C ch SF BF MX 2000 → V G Y_L_build (ZM G M0 sz (fun v' M' => ∃ (v xs bs : Nat → Nat) (T N S C O : Nat → Int32) (ch : Int32) (PC : Nat → Int32) (SF BF : Nat → Nat → Int32) (ps sc bc : Nat) (MX : Nat → Int32) (H D : Nat → Int32), v' = some (.ref (v 0)) ∧ (1 ≤ ps ∧ (1 ≤ sc ∧ sc ≤ 4) ∧ bc ≤ 8) ∧ LI N O PC ps sc bc T S C ch SF BF MX 2000 ∧ M' = eO 5 g0 [.ref (w 0), .ref u0] :: (WorldM w a b f wa lr nd dg T N S C B O ch PC SF BF ps sc bc hh ++ SimM v xs bs hh T N S C O PC ps sc bc SF MX BF H D)) noX) 8 (24 + 3 * m) (408 + 18 * m) 500 [some (.ref g0), some (.ref G.2.2.2.1), some (.ref (v 0)), none, none, some (.int (nI ps)), some (.int (nI ns)), some (.int (nI sc)), none, none, none, none] [] (eO 5 g0 [.ref (w 0), .ref u0] :: (WorldM w a b f wa lr nd dg T N S C B O ch PC SF BF ps sc bc hh ++ SimM v xs bs hh T N S C O PC ps sc bc SF MX BF H D)) := by
  intro m
  induction m with
  | zero =>
    intro v xs bs T N S C O ch PC SF BF ps sc bc MX ns hmn hns hb0 hp1 hI
    obtain ⟨hps, hsc, hbc⟩ := hI.1.1
    refine v_iload (pc := 500) dL_build_500 rfl ?_
    refine v_iload (pc := 502) dL_build_502 rfl ?_
    refine v_icmp_ge (pc := 504) (tgt := 574) dL_build_504 (by decide) (fun c504 => ?_) (fun c504 => absurd (nI_le (a := ns) (b := sc) (by omega) (by omega)) c504)
    have c504 : ns ≤ sc := (nI_leI (a := ns) (b := sc) (by omega) (by omega)).mp c504
    refine v_iload (pc := 574) dL_build_574 rfl ?_
    refine v_iconst (pc := 576) (v := 2) dL_build_576 rfl ?_
    refine v_icmp_ge (pc := 577) (tgt := 584) dL_build_577 (by decide) (fun c577 => ?_) (fun c577 => ?_)
    · have c577 : 2 ≤ ps := (nI_leI (a := 2) (b := ps) (by omega) (by omega)).mp c577
      refine v_aload_nR (pc := 584) dL_build_584 rfl rfl ?_
      refine v_bipush (pc := 585) (v := 11) dL_build_585 rfl ?_
      refine v_callS2 (pc := 587) (c_L_cell hL31 (k := 11) (by omega)) cm_L_cell q622 q623 [] (by rfl) (by decide) (fun _ _ h => h) (by omega) (by omega) (by decide) (Nat.le_of_ble_eq_true rfl) dL_build_587 (fun v587 M587 hQ587 => ?_)
      obtain ⟨r587, rfl, rfl⟩ := hQ587
      try dsimp only [wb, LakeM, WaysM, WorldM, SimM, List.set_cons_succ, List.set_cons_zero, List.append_nil, List.nil_append, List.cons_append, Option.toList, Nat.sub_zero]
      refine v_bipush (pc := 590) (v := 9) dL_build_590 rfl ?_
      refine v_callS2 (pc := 592) (c_L_below (n := 9) (by omega) (by omega)) cm_L_below q618 q619 [] (by rfl) (by decide) (fun _ _ h => h) (by omega) (by omega) (by decide) (Nat.le_of_ble_eq_true rfl) dL_build_592 (fun v592 M592 hQ592 => ?_)
      obtain ⟨r592, hr592, rfl, rfl⟩ := hQ592
      try dsimp only [wb, LakeM, WaysM, WorldM, SimM, List.set_cons_succ, List.set_cons_zero, List.append_nil, List.nil_append, List.cons_append, Option.toList, Nat.sub_zero]
      refine v_istore (pc := 595) dL_build_595 (by decide) rfl ?_
      refine v_iconst (pc := 597) (v := 0) dL_build_597 rfl ?_
      refine v_istore (pc := 598) dL_build_598 (by decide) rfl ?_
      refine v_room (ck' := 3 * r592) (sk' := 51 * r592) (by omega) (by omega) ?_
      have k9 := lp_b6 (G := G) (w := w) (a := a) (b := b) (f := f) (wa := wa) (lr := lr) (nd := nd) (dg := dg) (B := B) (hh := hh) (g0 := g0) (u0 := u0) (H := H) (D := D) (sz := sz) hM0 hL31 r592 v xs bs T N S C O ch PC SF BF ps sc bc MX r592 (by omega) (by omega) (fun _ => c577) ⟨hp1, by omega, by omega⟩ hI
      rw [hb0] at k9 ⊢
      refine v_sub ?_ k9
      exact ⟨rfl, rfl, rfl, rfl, rfl, rfl, trivial⟩
    · have c577 : ¬ 2 ≤ ps := fun h => c577 ((nI_leI (a := 2) (b := ps) (by omega) (by omega)).mpr h)
      refine v_iconst (pc := 580) (v := 0) dL_build_580 rfl ?_
      refine v_goto (pc := 581) (tgt := 595) dL_build_581 (by decide) ?_
      refine v_istore (pc := 595) dL_build_595 (by decide) rfl ?_
      refine v_iconst (pc := 597) (v := 0) dL_build_597 rfl ?_
      refine v_istore (pc := 598) dL_build_598 (by decide) rfl ?_
      refine v_room (ck' := 3 * 0) (sk' := 51 * 0) (by omega) (by omega) ?_
      have k9 := lp_b6 (G := G) (w := w) (a := a) (b := b) (f := f) (wa := wa) (lr := lr) (nd := nd) (dg := dg) (B := B) (hh := hh) (g0 := g0) (u0 := u0) (H := H) (D := D) (sz := sz) hM0 hL31 0 v xs bs T N S C O ch PC SF BF ps sc bc MX 0 (by omega) (by omega) (fun q => absurd q (by omega)) ⟨hp1, by omega, by omega⟩ hI
      rw [hb0] at k9 ⊢
      refine v_sub ?_ k9
      exact ⟨rfl, rfl, rfl, rfl, rfl, rfl, trivial⟩
  | succ m ih =>
    intro v xs bs T N S C O ch PC SF BF ps sc bc MX ns hmn hns hb0 hp1 hI
    obtain ⟨hps, hsc, hbc⟩ := hI.1.1
    refine v_iload (pc := 500) dL_build_500 rfl ?_
    refine v_iload (pc := 502) dL_build_502 rfl ?_
    refine v_icmp_ge (pc := 504) (tgt := 574) dL_build_504 (by decide) (fun c504 => absurd c504 (nI_ge (a := sc) (b := ns) (by omega) (by omega))) (fun c504 => ?_)
    have c504 : ¬ ns ≤ sc := fun h => c504 ((nI_leI (a := ns) (b := sc) (by omega) (by omega)).mpr h)
    refine v_aload_nR (pc := 507) dL_build_507 rfl rfl ?_
    refine v_bipush (pc := 508) (v := 9) dL_build_508 rfl ?_
    refine v_callS2 (pc := 510) (c_L_cell hL31 (k := 9) (by omega)) cm_L_cell q622 q623 [] (by rfl) (by decide) (fun _ _ h => h) (by omega) (by omega) (by decide) (Nat.le_of_ble_eq_true rfl) dL_build_510 (fun v510 M510 hQ510 => ?_)
    obtain ⟨r510, rfl, rfl⟩ := hQ510
    try dsimp only [wb, LakeM, WaysM, WorldM, SimM, List.set_cons_succ, List.set_cons_zero, List.append_nil, List.nil_append, List.cons_append, Option.toList, Nat.sub_zero]
    refine v_iconst (pc := 513) (v := 2) dL_build_513 rfl ?_
    refine v_iload (pc := 514) dL_build_514 rfl ?_
    refine v_iadd (pc := 516) dL_build_516 ?_
    refine v_ishr (pc := 517) dL_build_517 ?_
    refine v_iload (pc := 518) dL_build_518 rfl ?_
    refine v_callS2 (pc := 520) (c_L_below (n := ps) (by omega) (by omega)) cm_L_below q618 q619 [] (by rfl) (by decide) (fun _ _ h => h) (by omega) (by omega) (by decide) (Nat.le_of_ble_eq_true rfl) dL_build_520 (fun v520 M520 hQ520 => ?_)
    obtain ⟨r520, hr520, rfl, rfl⟩ := hQ520
    try dsimp only [wb, LakeM, WaysM, WorldM, SimM, List.set_cons_succ, List.set_cons_zero, List.append_nil, List.nil_append, List.cons_append, Option.toList, Nat.sub_zero]
    refine v_istore (pc := 523) dL_build_523 (by decide) rfl ?_
    refine v_iconst (pc := 525) (v := 1) dL_build_525 rfl ?_
    refine v_aload_nR (pc := 526) dL_build_526 rfl rfl ?_
    refine v_bipush (pc := 527) (v := 10) dL_build_527 rfl ?_
    refine v_callS2 (pc := 529) (c_L_cell hL31 (k := 10) (by omega)) cm_L_cell q622 q623 [] (by rfl) (by decide) (fun _ _ h => h) (by omega) (by omega) (by decide) (Nat.le_of_ble_eq_true rfl) dL_build_529 (fun v529 M529 hQ529 => ?_)
    obtain ⟨r529, rfl, rfl⟩ := hQ529
    try dsimp only [wb, LakeM, WaysM, WorldM, SimM, List.set_cons_succ, List.set_cons_zero, List.append_nil, List.nil_append, List.cons_append, Option.toList, Nat.sub_zero]
    refine v_iconst (pc := 532) (v := 2) dL_build_532 rfl ?_
    refine v_iload (pc := 533) dL_build_533 rfl ?_
    refine v_imul (pc := 535) dL_build_535 ?_
    refine v_ishr (pc := 536) dL_build_536 ?_
    refine v_bipush (pc := 537) (v := 6) dL_build_537 rfl ?_
    refine v_callS2 (pc := 539) (c_L_below (n := 6) (by omega) (by omega)) cm_L_below q618 q619 [] (by rfl) (by decide) (fun _ _ h => h) (by omega) (by omega) (by decide) (Nat.le_of_ble_eq_true rfl) dL_build_539 (fun v539 M539 hQ539 => ?_)
    obtain ⟨r539, hr539, rfl, rfl⟩ := hQ539
    try dsimp only [wb, LakeM, WaysM, WorldM, SimM, List.set_cons_succ, List.set_cons_zero, List.append_nil, List.nil_append, List.cons_append, Option.toList, Nat.sub_zero]
    refine v_iadd (pc := 542) dL_build_542 ?_
    rw [show 1 + nI r539 = nI (1 + r539) from nI_add 1 r539]
    refine v_istore (pc := 543) dL_build_543 (by decide) rfl ?_
    refine v_aload_nR (pc := 545) dL_build_545 rfl rfl ?_
    refine v_iload (pc := 546) dL_build_546 rfl ?_
    refine v_iload (pc := 548) dL_build_548 rfl ?_
    refine v_callV2 (pc := 550) (c7_addSleigh hps hsc hbc hr520 (by omega) (by omega) (by omega)) cm_X5_addSleigh q753 q754 q755 (ci := 5) rfl rfl (orcO 0 rfl) [0, 1, 2, 3, 4, 5, 6, 7, 8, 9, 10, 11, 12, 13, 14, 15, 16, 17] (by rfl) (by decide) (fun _ _ h => h) (by omega) (by omega) (by decide) (Nat.le_of_ble_eq_true rfl) dL_build_550 (fun v550 M550 hQ550 => ?_)
    obtain ⟨rfl, rfl⟩ := hQ550
    try dsimp only [wb, LakeM, WaysM, WorldM, SimM, List.set_cons_succ, List.set_cons_zero, List.append_nil, List.nil_append, List.cons_append, Option.toList, Nat.sub_zero]
    refine v_iload (pc := 553) dL_build_553 rfl ?_
    refine v_icmp_eq (pc := 555) (tgt := 560) dL_build_555 (by decide) (fun c555 => ?_) (fun c555 => absurd rfl c555)
    refine v_aload_nR (pc := 560) dL_build_560 rfl rfl ?_
    refine v_iload (pc := 561) dL_build_561 rfl ?_
    refine v_iload (pc := 563) dL_build_563 rfl ?_
    refine v_callV2 (pc := 565) (c_X6_come hps hsc hbc (by omega) hr520 (hI.1.2.2.2.2.2.1 sc (Nat.le_refl sc)).1 (hI.1.2.2.2.2.2.1 sc (Nat.le_refl sc)).2) cm_X6_come q769 q770 q771 (ci := 6) rfl rfl (orcO 18 rfl) [18, 19, 20, 21, 22, 23, 24, 25, 26, 27, 28, 29, 30] (by rfl) (by decide) (fun _ _ h => h) (by omega) (by omega) (by decide) (Nat.le_of_ble_eq_true rfl) dL_build_565 (fun v565 M565 hQ565 => ?_)
    obtain ⟨rfl, q565, z565, rfl⟩ := hQ565
    try dsimp only [wb, LakeM, WaysM, WorldM, SimM, List.set_cons_succ, List.set_cons_zero, List.append_nil, List.nil_append, List.cons_append, Option.toList, Nat.sub_zero]
    refine v_iinc (pc := 568) (v := nI (sc + 1)) dL_build_568 rfl (nI_1 _) (by decide) rfl ?_
    refine v_goto (pc := 571) (tgt := 500) dL_build_571 (by decide) ?_
    refine v_room (ck' := 24 + 3 * m) (sk' := 408 + 18 * m) (by omega) (by omega) ?_
    have k9 := ih (upv v 7 q565) (fun j => if j = sc then z565 else xs j) bs T N S C O ch PC (begS SF sc (nI r520) (PC r520) (nI (1 + r539))) BF ps (sc + 1) bc (upd MX sc 0) ns (by omega) hns hb0 hp1 (hI.addS hr520 (by omega) (by omega) (by omega))
    refine v_sub ?_ k9
    exact ⟨rfl, rfl, rfl, rfl, rfl, rfl, trivial⟩
set_option maxRecDepth 100000 in
set_option maxHeartbeats 4000000 in
theorem lp_b4 {G : Cx} {w : Nat → Nat} {a b f : Nat → Int32} {wa : Int32} {lr : Value} {nd dg : Int32} {B : Nat → Int32} {hh g0 u0 : Nat} {H D : Nat → Int32} {M0 : List ME} (hM0 : M0.length = 18) (hL31 : G.2.2.2.2.2.1 < 2 ^ 31) {sz : Nat} : ∀ (m : Nat), ∀ (i : Nat) (v xs bs : Nat → Nat) (T N S C O : Nat → Int32) (ch : Int32) (PC : Nat → Int32) (SF BF : Nat → Nat → Int32) (ps sc bc : Nat) (MX : Nat → Int32) (np : Nat), m + i = np → (1 ≤ np ∧ np ≤ 5) → bc = 0 → sc = 0 → ps ≤ i → (0 < i → 1 ≤ ps) → LI N O PC ps sc bc T S C ch SF BF MX (1300 + i) → V G Y_L_build (ZM G M0 sz (fun v' M' => ∃ (v xs bs : Nat → Nat) (T N S C O : Nat → Int32) (ch : Int32) (PC : Nat → Int32) (SF BF : Nat → Nat → Int32) (ps sc bc : Nat) (MX : Nat → Int32) (H D : Nat → Int32), v' = some (.ref (v 0)) ∧ (1 ≤ ps ∧ (1 ≤ sc ∧ sc ≤ 4) ∧ bc ≤ 8) ∧ LI N O PC ps sc bc T S C ch SF BF MX 2000 ∧ M' = eO 5 g0 [.ref (w 0), .ref u0] :: (WorldM w a b f wa lr nd dg T N S C B O ch PC SF BF ps sc bc hh ++ SimM v xs bs hh T N S C O PC ps sc bc SF MX BF H D)) noX) 8 (36 + 2 * m) (480 + 15 * m) 388 [some (.ref g0), some (.ref G.2.2.2.1), some (.ref (v 0)), none, some (.int (nI np)), some (.int (nI i)), none, none, none, none, none, none] [] (eO 5 g0 [.ref (w 0), .ref u0] :: (WorldM w a b f wa lr nd dg T N S C B O ch PC SF BF ps sc bc hh ++ SimM v xs bs hh T N S C O PC ps sc bc SF MX BF H D)) := by
  intro m
  induction m with
  | zero =>
    intro i v xs bs T N S C O ch PC SF BF ps sc bc MX np hmn hnp hb0 hs0 hpi hp1 hI
    obtain ⟨hps, hsc, hbc⟩ := hI.1.1
    refine v_iload (pc := 388) dL_build_388 rfl ?_
    refine v_iload (pc := 390) dL_build_390 rfl ?_
    refine v_icmp_ge (pc := 392) (tgt := 476) dL_build_392 (by decide) (fun c392 => ?_) (fun c392 => absurd (nI_le (a := np) (b := i) (by omega) (by omega)) c392)
    have c392 : np ≤ i := (nI_leI (a := np) (b := i) (by omega) (by omega)).mp c392
    refine v_aload_nR (pc := 476) dL_build_476 rfl rfl ?_
    refine v_get (pc := 477) 6 18 fg_L_58 rfl rfl dL_build_477 ?_
    refine v_alen (pc := 480) 24 (v := nI ps) rfl (fun _ => rfl) rfl dL_build_480 ?_
    refine v_istore (pc := 481) dL_build_481 (by decide) rfl ?_
    refine v_iconst (pc := 483) (v := 1) dL_build_483 rfl ?_
    refine v_aload_nR (pc := 484) dL_build_484 rfl rfl ?_
    refine v_bipush (pc := 485) (v := 9) dL_build_485 rfl ?_
    refine v_callS2 (pc := 487) (c_L_cell hL31 (k := 9) (by omega)) cm_L_cell q622 q623 [] (by rfl) (by decide) (fun _ _ h => h) (by omega) (by omega) (by decide) (Nat.le_of_ble_eq_true rfl) dL_build_487 (fun v487 M487 hQ487 => ?_)
    obtain ⟨r487, rfl, rfl⟩ := hQ487
    try dsimp only [wb, LakeM, WaysM, WorldM, SimM, List.set_cons_succ, List.set_cons_zero, List.append_nil, List.nil_append, List.cons_append, Option.toList, Nat.sub_zero]
    refine v_iconst (pc := 490) (v := 4) dL_build_490 rfl ?_
    refine v_callS2 (pc := 491) (c_L_below (n := 4) (by omega) (by omega)) cm_L_below q618 q619 [] (by rfl) (by decide) (fun _ _ h => h) (by omega) (by omega) (by decide) (Nat.le_of_ble_eq_true rfl) dL_build_491 (fun v491 M491 hQ491 => ?_)
    obtain ⟨r491, hr491, rfl, rfl⟩ := hQ491
    try dsimp only [wb, LakeM, WaysM, WorldM, SimM, List.set_cons_succ, List.set_cons_zero, List.append_nil, List.nil_append, List.cons_append, Option.toList, Nat.sub_zero]
    refine v_iadd (pc := 494) dL_build_494 ?_
    rw [show 1 + nI r491 = nI (1 + r491) from nI_add 1 r491]
    refine v_istore (pc := 495) dL_build_495 (by decide) rfl ?_
    refine v_iconst (pc := 497) (v := 0) dL_build_497 rfl ?_
    refine v_istore (pc := 498) dL_build_498 (by decide) rfl ?_
    refine v_room (ck' := 24 + 3 * (1 + r491)) (sk' := 408 + 18 * (1 + r491)) (by omega) (by omega) ?_
    have k9 := lp_b5 (G := G) (w := w) (a := a) (b := b) (f := f) (wa := wa) (lr := lr) (nd := nd) (dg := dg) (B := B) (hh := hh) (g0 := g0) (u0 := u0) (H := H) (D := D) (sz := sz) hM0 hL31 (1 + r491) v xs bs T N S C O ch PC SF BF ps sc bc MX (1 + r491) (by omega) (by omega) hb0 (hp1 (by omega)) (hI.more (by omega))
    rw [hs0] at k9 ⊢
    refine v_sub ?_ k9
    exact ⟨rfl, rfl, rfl, rfl, rfl, rfl, trivial⟩
  | succ m ih =>
    intro i v xs bs T N S C O ch PC SF BF ps sc bc MX np hmn hnp hb0 hs0 hpi hp1 hI
    obtain ⟨hps, hsc, hbc⟩ := hI.1.1
    refine v_iload (pc := 388) dL_build_388 rfl ?_
    refine v_iload (pc := 390) dL_build_390 rfl ?_
    refine v_icmp_ge (pc := 392) (tgt := 476) dL_build_392 (by decide) (fun c392 => absurd c392 (nI_ge (a := i) (b := np) (by omega) (by omega))) (fun c392 => ?_)
    have c392 : ¬ np ≤ i := fun h => c392 ((nI_leI (a := np) (b := i) (by omega) (by omega)).mpr h)
    refine v_aload_nR (pc := 395) dL_build_395 rfl rfl ?_
    refine v_bipush (pc := 396) (v := 8) dL_build_396 rfl ?_
    refine v_callS2 (pc := 398) (c_L_cell hL31 (k := 8) (by omega)) cm_L_cell q622 q623 [] (by rfl) (by decide) (fun _ _ h => h) (by omega) (by omega) (by decide) (Nat.le_of_ble_eq_true rfl) dL_build_398 (fun v398 M398 hQ398 => ?_)
    obtain ⟨r398, rfl, rfl⟩ := hQ398
    try dsimp only [wb, LakeM, WaysM, WorldM, SimM, List.set_cons_succ, List.set_cons_zero, List.append_nil, List.nil_append, List.cons_append, Option.toList, Nat.sub_zero]
    refine v_iconst (pc := 401) (v := 2) dL_build_401 rfl ?_
    refine v_iload (pc := 402) dL_build_402 rfl ?_
    refine v_imul (pc := 404) dL_build_404 ?_
    refine v_ishr (pc := 405) dL_build_405 ?_
    refine v_bipush (pc := 406) (v := 32) dL_build_406 rfl ?_
    refine v_callS2 (pc := 408) (c_L_below (n := 32) (by omega) (by omega)) cm_L_below q618 q619 [] (by rfl) (by decide) (fun _ _ h => h) (by omega) (by omega) (by decide) (Nat.le_of_ble_eq_true rfl) dL_build_408 (fun v408 M408 hQ408 => ?_)
    obtain ⟨r408, hr408, rfl, rfl⟩ := hQ408
    try dsimp only [wb, LakeM, WaysM, WorldM, SimM, List.set_cons_succ, List.set_cons_zero, List.append_nil, List.nil_append, List.cons_append, Option.toList, Nat.sub_zero]
    refine v_iconst (pc := 411) (v := 5) dL_build_411 rfl ?_
    refine v_imul (pc := 412) dL_build_412 ?_
    refine v_iload (pc := 413) dL_build_413 rfl ?_
    refine v_iadd (pc := 415) dL_build_415 ?_
    rw [show nI r408 * 5 + nI i = nI (r408 * 5 + i) from by rw [show nI r408 * 5 = nI (r408 * 5) from pk_mul r408 5, nI_add]]
    refine v_istore (pc := 416) dL_build_416 (by decide) rfl ?_
    refine v_iload (pc := 418) dL_build_418 rfl ?_
    refine v_sipush (pc := 420) (v := 159) dL_build_420 rfl ?_
    refine v_mmin (pc := 423) q732 q403 q15 q404 (by decide) (Nat.le_of_ble_eq_true rfl) dL_build_423 ?_
    obtain ⟨c9, hc9, e9⟩ := min159 (c := r408 * 5 + i) (by omega)
    rw [e9]
    refine v_istore (pc := 426) dL_build_426 (by decide) rfl ?_
    refine v_aload_nR (pc := 428) dL_build_428 rfl rfl ?_
    refine v_iload (pc := 429) dL_build_429 rfl ?_
    refine v_callV1 (pc := 431) (c_X6_postAt hps hsc hbc) cm_X6_postAt q733 q734 q735 (ci := 6) rfl rfl (orcO 18 rfl) [18, 19, 20, 21, 22, 23, 24, 25, 26, 27, 28, 29, 30] (by rfl) (by decide) (fun _ _ h => h) (by omega) (by omega) (by decide) (Nat.le_of_ble_eq_true rfl) dL_build_431 (fun v431 M431 hQ431 => ?_)
    obtain ⟨rfl, rfl⟩ := hQ431
    try dsimp only [wb, LakeM, WaysM, WorldM, SimM, List.set_cons_succ, List.set_cons_zero, List.append_nil, List.nil_append, List.cons_append, Option.toList, Nat.sub_zero]
    refine v_if_lt (pc := 434) (tgt := 440) dL_build_434 (by decide) (fun c434 => ?_) (fun c434 => ?_)
    · have hn9 : pOn PC ps (nI c9) 8 0 = none := oI_neg c434 (fun j h => by have := pOn_lt 8 0 h; omega)
      refine v_aload_nR (pc := 440) dL_build_440 rfl rfl ?_
      refine v_iload (pc := 441) dL_build_441 rfl ?_
      refine v_bipush (pc := 443) (v := 16) dL_build_443 rfl ?_
      refine v_irem (pc := 445) dL_build_445 (by decide) ?_
      rw [show nI c9 - nI c9 / 16 * 16 = nI (c9 % 16) from pk_rem (d := 16) (by omega) (by decide) (by decide)]
      refine v_iload (pc := 446) dL_build_446 rfl ?_
      refine v_bipush (pc := 448) (v := 16) dL_build_448 rfl ?_
      refine v_idiv (pc := 450) dL_build_450 (by decide) ?_
      rw [show nI c9 / 16 = nI (c9 / 16) from pk_div (d := 16) (by omega) (by decide) (by decide)]
      refine v_callV2 (pc := 451) (c7_addPost hps hsc hbc hc9 (by omega) hn9) cm_X5_addPost q737 q738 q739 (ci := 5) rfl rfl (orcO 0 rfl) [0, 1, 2, 3, 4, 5, 6, 7, 8, 9, 10, 11, 12, 13, 14, 15, 16, 17] (by rfl) (by decide) (fun _ _ h => h) (by omega) (by omega) (by decide) (Nat.le_of_ble_eq_true rfl) dL_build_451 (fun v451 M451 hQ451 => ?_)
      obtain ⟨rfl, rfl⟩ := hQ451
      try dsimp only [wb, LakeM, WaysM, WorldM, SimM, List.set_cons_succ, List.set_cons_zero, List.append_nil, List.nil_append, List.cons_append, Option.toList, Nat.sub_zero]
      refine v_aload_nR (pc := 454) dL_build_454 rfl rfl ?_
      refine v_get (pc := 455) 6 18 fg_L_58 rfl rfl dL_build_455 ?_
      refine v_alen (pc := 458) 24 (v := nI ps) rfl (fun _ => rfl) rfl dL_build_458 ?_
      refine v_icmp_eq (pc := 459) (tgt := 464) dL_build_459 (by decide) (fun c459 => ?_) (fun c459 => absurd rfl c459)
      refine v_aload_nR (pc := 464) dL_build_464 rfl rfl ?_
      refine v_iload (pc := 465) dL_build_465 rfl ?_
      refine v_callV1 (pc := 467) (c_X6_post hps hsc hbc (by omega) hc9) cm_X6_post q748 q749 q750 (ci := 6) rfl rfl (orcO 18 rfl) [18, 19, 20, 21, 22, 23, 24, 25, 26, 27, 28, 29, 30] (by rfl) (by decide) (fun _ _ h => h) (by omega) (by omega) (by decide) (Nat.le_of_ble_eq_true rfl) dL_build_467 (fun v467 M467 hQ467 => ?_)
      obtain ⟨rfl, q467, rfl⟩ := hQ467
      try dsimp only [wb, LakeM, WaysM, WorldM, SimM, List.set_cons_succ, List.set_cons_zero, List.append_nil, List.nil_append, List.cons_append, Option.toList, Nat.sub_zero]
      refine v_iinc (pc := 470) (v := nI (i + 1)) dL_build_470 rfl (nI_1 _) (by decide) rfl ?_
      refine v_goto (pc := 473) (tgt := 388) dL_build_473 (by decide) ?_
      refine v_room (ck' := 36 + 2 * m) (sk' := 480 + 15 * m) (by omega) (by omega) ?_
      have k9 := ih (i + 1) (upv v 6 q467) xs bs (upd T c9 (-1)) N (upd S c9 0) (upd C c9 0) O (ch + 1) (upd PC ps (nI c9)) SF BF (ps + 1) sc bc MX np (by omega) hnp hb0 hs0 (by omega) (fun _ => by omega) (hI.post (by omega) hc9 (by omega) hn9)
      refine v_sub ?_ k9
      exact ⟨rfl, rfl, rfl, rfl, rfl, trivial⟩
    · refine v_goto (pc := 437) (tgt := 470) dL_build_437 (by decide) ?_
      have hp9 : 1 ≤ ps := Nat.pos_of_ne_zero (fun q => c434 (by rw [pOn_stop 8 0 (by omega)]; decide))
      refine v_iinc (pc := 470) (v := nI (i + 1)) dL_build_470 rfl (nI_1 _) (by decide) rfl ?_
      refine v_goto (pc := 473) (tgt := 388) dL_build_473 (by decide) ?_
      refine v_room (ck' := 36 + 2 * m) (sk' := 480 + 15 * m) (by omega) (by omega) ?_
      have k9 := ih (i + 1) v xs bs T N S C O ch PC SF BF ps sc bc MX np (by omega) hnp hb0 hs0 (by omega) (fun _ => hp9) (hI.more (by omega))
      refine v_sub ?_ k9
      exact ⟨rfl, rfl, rfl, rfl, rfl, trivial⟩
set_option maxRecDepth 100000 in
set_option maxHeartbeats 4000000 in
theorem lp_b3 {G : Cx} {w : Nat → Nat} {a b f : Nat → Int32} {wa : Int32} {lr : Value} {nd dg : Int32} {B : Nat → Int32} {hh g0 u0 : Nat} {H D : Nat → Int32} {M0 : List ME} (hM0 : M0.length = 18) (hL31 : G.2.2.2.2.2.1 < 2 ^ 31) {sz : Nat} : ∀ (m : Nat), ∀ (i : Nat) (v xs bs : Nat → Nat) (T N S C O : Nat → Int32) (ch : Int32) (PC : Nat → Int32) (SF BF : Nat → Nat → Int32) (ps sc bc : Nat) (MX : Nat → Int32), m + i = 8 → bc = 0 → sc = 0 → ps = 0 → (∀ j, i ≤ j → j < 8 → O j = 5) → LI N O PC ps sc bc T S C ch SF BF MX 1300 → V G Y_L_build (ZM G M0 sz (fun v' M' => ∃ (v xs bs : Nat → Nat) (T N S C O : Nat → Int32) (ch : Int32) (PC : Nat → Int32) (SF BF : Nat → Nat → Int32) (ps sc bc : Nat) (MX : Nat → Int32) (H D : Nat → Int32), v' = some (.ref (v 0)) ∧ (1 ≤ ps ∧ (1 ≤ sc ∧ sc ≤ 4) ∧ bc ≤ 8) ∧ LI N O PC ps sc bc T S C ch SF BF MX 2000 ∧ M' = eO 5 g0 [.ref (w 0), .ref u0] :: (WorldM w a b f wa lr nd dg T N S C B O ch PC SF BF ps sc bc hh ++ SimM v xs bs hh T N S C O PC ps sc bc SF MX BF H D)) noX) 8 (46 + m) (555 + 6 * m) 314 [some (.ref g0), some (.ref G.2.2.2.1), some (.ref (v 0)), none, some (.int (nI i)), none, none, none, none, none, none, none] [] (eO 5 g0 [.ref (w 0), .ref u0] :: (WorldM w a b f wa lr nd dg T N S C B O ch PC SF BF ps sc bc hh ++ SimM v xs bs hh T N S C O PC ps sc bc SF MX BF H D)) := by
  intro m
  induction m with
  | zero =>
    intro i v xs bs T N S C O ch PC SF BF ps sc bc MX hmn hb0 hs0 hp0 hO hI
    obtain ⟨hps, hsc, hbc⟩ := hI.1.1
    refine v_iload (pc := 314) dL_build_314 rfl ?_
    refine v_bipush (pc := 316) (v := 8) dL_build_316 rfl ?_
    refine v_icmp_ge (pc := 318) (tgt := 371) dL_build_318 (by decide) (fun c318 => ?_) (fun c318 => absurd (nI_le (a := 8) (b := i) (by omega) (by omega)) c318)
    have c318 : 8 ≤ i := (nI_leI (a := 8) (b := i) (by omega) (by omega)).mp c318
    refine v_iconst (pc := 371) (v := 2) dL_build_371 rfl ?_
    refine v_aload_nR (pc := 372) dL_build_372 rfl rfl ?_
    refine v_bipush (pc := 373) (v := 7) dL_build_373 rfl ?_
    refine v_callS2 (pc := 375) (c_L_cell hL31 (k := 7) (by omega)) cm_L_cell q622 q623 [] (by rfl) (by decide) (fun _ _ h => h) (by omega) (by omega) (by decide) (Nat.le_of_ble_eq_true rfl) dL_build_375 (fun v375 M375 hQ375 => ?_)
    obtain ⟨r375, rfl, rfl⟩ := hQ375
    try dsimp only [wb, LakeM, WaysM, WorldM, SimM, List.set_cons_succ, List.set_cons_zero, List.append_nil, List.nil_append, List.cons_append, Option.toList, Nat.sub_zero]
    refine v_iconst (pc := 378) (v := 4) dL_build_378 rfl ?_
    refine v_callS2 (pc := 379) (c_L_below (n := 4) (by omega) (by omega)) cm_L_below q618 q619 [] (by rfl) (by decide) (fun _ _ h => h) (by omega) (by omega) (by decide) (Nat.le_of_ble_eq_true rfl) dL_build_379 (fun v379 M379 hQ379 => ?_)
    obtain ⟨r379, hr379, rfl, rfl⟩ := hQ379
    try dsimp only [wb, LakeM, WaysM, WorldM, SimM, List.set_cons_succ, List.set_cons_zero, List.append_nil, List.nil_append, List.cons_append, Option.toList, Nat.sub_zero]
    refine v_iadd (pc := 382) dL_build_382 ?_
    rw [show 2 + nI r379 = nI (2 + r379) from nI_add 2 r379]
    refine v_istore (pc := 383) dL_build_383 (by decide) rfl ?_
    refine v_iconst (pc := 385) (v := 0) dL_build_385 rfl ?_
    refine v_istore (pc := 386) dL_build_386 (by decide) rfl ?_
    refine v_room (ck' := 36 + 2 * (2 + r379)) (sk' := 480 + 15 * (2 + r379)) (by omega) (by omega) ?_
    have k9 := lp_b4 (G := G) (w := w) (a := a) (b := b) (f := f) (wa := wa) (lr := lr) (nd := nd) (dg := dg) (B := B) (hh := hh) (g0 := g0) (u0 := u0) (H := H) (D := D) (sz := sz) hM0 hL31 (2 + r379) 0 v xs bs T N S C O ch PC SF BF ps sc bc MX (2 + r379) (by omega) (by omega) hb0 hs0 (by omega) (fun q => absurd q (by omega)) (hI.more (by omega))
    refine v_sub ?_ k9
    exact ⟨rfl, rfl, rfl, rfl, rfl, trivial⟩
  | succ m ih =>
    intro i v xs bs T N S C O ch PC SF BF ps sc bc MX hmn hb0 hs0 hp0 hO hI
    obtain ⟨hps, hsc, hbc⟩ := hI.1.1
    refine v_iload (pc := 314) dL_build_314 rfl ?_
    refine v_bipush (pc := 316) (v := 8) dL_build_316 rfl ?_
    refine v_icmp_ge (pc := 318) (tgt := 371) dL_build_318 (by decide) (fun c318 => absurd c318 (nI_ge (a := i) (b := 8) (by omega) (by omega))) (fun c318 => ?_)
    have c318 : ¬ 8 ≤ i := fun h => c318 ((nI_leI (a := 8) (b := i) (by omega) (by omega)).mpr h)
    refine v_aload_nR (pc := 321) dL_build_321 rfl rfl ?_
    refine v_bipush (pc := 322) (v := 6) dL_build_322 rfl ?_
    refine v_callS2 (pc := 324) (c_L_cell hL31 (k := 6) (by omega)) cm_L_cell q622 q623 [] (by rfl) (by decide) (fun _ _ h => h) (by omega) (by omega) (by decide) (Nat.le_of_ble_eq_true rfl) dL_build_324 (fun v324 M324 hQ324 => ?_)
    obtain ⟨r324, rfl, rfl⟩ := hQ324
    try dsimp only [wb, LakeM, WaysM, WorldM, SimM, List.set_cons_succ, List.set_cons_zero, List.append_nil, List.nil_append, List.cons_append, Option.toList, Nat.sub_zero]
    refine v_iconst (pc := 327) (v := 2) dL_build_327 rfl ?_
    refine v_iload (pc := 328) dL_build_328 rfl ?_
    refine v_imul (pc := 330) dL_build_330 ?_
    refine v_ishr (pc := 331) dL_build_331 ?_
    refine v_bipush (pc := 332) (v := 19) dL_build_332 rfl ?_
    refine v_callS2 (pc := 334) (c_L_below (n := 19) (by omega) (by omega)) cm_L_below q618 q619 [] (by rfl) (by decide) (fun _ _ h => h) (by omega) (by omega) (by decide) (Nat.le_of_ble_eq_true rfl) dL_build_334 (fun v334 M334 hQ334 => ?_)
    obtain ⟨r334, hr334, rfl, rfl⟩ := hQ334
    try dsimp only [wb, LakeM, WaysM, WorldM, SimM, List.set_cons_succ, List.set_cons_zero, List.append_nil, List.nil_append, List.cons_append, Option.toList, Nat.sub_zero]
    refine v_bipush (pc := 337) (v := 9) dL_build_337 rfl ?_
    refine v_isub (pc := 339) dL_build_339 ?_
    refine v_istore (pc := 340) dL_build_340 (by decide) rfl ?_
    refine v_aload_nR (pc := 342) dL_build_342 rfl rfl ?_
    refine v_iload (pc := 343) dL_build_343 rfl ?_
    refine v_iload (pc := 345) dL_build_345 rfl ?_
    refine v_callV2 (pc := 347) (c7_setCold hps hsc hbc (show i < 8 by omega) (cold_rng hr334)) cm_X5_setCold q726 q727 q728 (ci := 5) rfl rfl (orcO 0 rfl) [0, 1, 2, 3, 4, 5, 6, 7, 8, 9, 10, 11, 12, 13, 14, 15, 16, 17] (by rfl) (by decide) (fun _ _ h => h) (by omega) (by omega) (by decide) (Nat.le_of_ble_eq_true rfl) dL_build_347 (fun v347 M347 hQ347 => ?_)
    obtain ⟨rfl, rfl⟩ := hQ347
    try dsimp only [wb, LakeM, WaysM, WorldM, SimM, List.set_cons_succ, List.set_cons_zero, List.append_nil, List.nil_append, List.cons_append, Option.toList, Nat.sub_zero]
    refine v_iconst (pc := 350) (v := 5) dL_build_350 rfl ?_
    refine v_icmp_eq (pc := 351) (tgt := 356) dL_build_351 (by decide) (fun c351 => ?_) (fun c351 => absurd (hO i (Nat.le_refl i) (by omega)) c351)
    refine v_aload_nR (pc := 356) dL_build_356 rfl rfl ?_
    refine v_get (pc := 357) 5 18 fg_L_43 rfl rfl dL_build_357 ?_
    refine v_iload (pc := 360) dL_build_360 rfl ?_
    refine v_iload (pc := 362) dL_build_362 rfl ?_
    refine v_iastN (pc := 364) 23 (k := i) rfl (by omega) (by omega) dL_build_364 ?_
    try dsimp only [wb, LakeM, WaysM, WorldM, SimM, List.set_cons_succ, List.set_cons_zero, List.append_nil, List.nil_append, List.cons_append, Option.toList, Nat.sub_zero]
    refine v_iinc (pc := 365) (v := nI (i + 1)) dL_build_365 rfl (nI_1 _) (by decide) rfl ?_
    refine v_goto (pc := 368) (tgt := 314) dL_build_368 (by decide) ?_
    refine v_room (ck' := 46 + m) (sk' := 555 + 6 * m) (by omega) (by omega) ?_
    have k9 := ih (i + 1) v xs bs T N S C (upd O i (nI r334 - 9)) ch PC SF BF ps sc bc MX (by omega) hb0 hs0 hp0 (fun j h1 h2 => by rw [pk_un (show ¬ j = i by omega)]; exact hO j (by omega) h2) (hI.cold (by omega) (cold_rng hr334))
    refine v_sub ?_ k9
    exact ⟨rfl, rfl, rfl, rfl, trivial⟩
set_option maxRecDepth 100000 in
set_option maxHeartbeats 4000000 in
theorem lp_b2 {G : Cx} {w : Nat → Nat} {a b f : Nat → Int32} {wa : Int32} {lr : Value} {nd dg : Int32} {B : Nat → Int32} {hh g0 u0 : Nat} {H D : Nat → Int32} {M0 : List ME} (hM0 : M0.length = 18) (hL31 : G.2.2.2.2.2.1 < 2 ^ 31) {sz : Nat} : ∀ (m : Nat), ∀ (i : Nat) (v xs bs : Nat → Nat) (T N S C O : Nat → Int32) (ch : Int32) (PC : Nat → Int32) (SF BF : Nat → Nat → Int32) (ps sc bc : Nat) (MX : Nat → Int32), m + i = 20 → bc = 0 → sc = 0 → ps = 0 → (∀ j, j < 8 → O j = 5) → LI N O PC ps sc bc T S C ch SF BF MX 1300 → V G Y_L_build (ZM G M0 sz (fun v' M' => ∃ (v xs bs : Nat → Nat) (T N S C O : Nat → Int32) (ch : Int32) (PC : Nat → Int32) (SF BF : Nat → Nat → Int32) (ps sc bc : Nat) (MX : Nat → Int32) (H D : Nat → Int32), v' = some (.ref (v 0)) ∧ (1 ≤ ps ∧ (1 ≤ sc ∧ sc ≤ 4) ∧ bc ≤ 8) ∧ LI N O PC ps sc bc T S C ch SF BF MX 2000 ∧ M' = eO 5 g0 [.ref (w 0), .ref u0] :: (WorldM w a b f wa lr nd dg T N S C B O ch PC SF BF ps sc bc hh ++ SimM v xs bs hh T N S C O PC ps sc bc SF MX BF H D)) noX) 8 (54 + m) (603 + 6 * m) 228 [some (.ref g0), some (.ref G.2.2.2.1), some (.ref (v 0)), none, some (.int (nI i)), none, none, none, none, none, none, none] [] (eO 5 g0 [.ref (w 0), .ref u0] :: (WorldM w a b f wa lr nd dg T N S C B O ch PC SF BF ps sc bc hh ++ SimM v xs bs hh T N S C O PC ps sc bc SF MX BF H D)) := by
  intro m
  induction m with
  | zero =>
    intro i v xs bs T N S C O ch PC SF BF ps sc bc MX hmn hb0 hs0 hp0 hO hI
    obtain ⟨hps, hsc, hbc⟩ := hI.1.1
    refine v_iload (pc := 228) dL_build_228 rfl ?_
    refine v_bipush (pc := 230) (v := 20) dL_build_230 rfl ?_
    refine v_icmp_ge (pc := 232) (tgt := 311) dL_build_232 (by decide) (fun c232 => ?_) (fun c232 => absurd (nI_le (a := 20) (b := i) (by omega) (by omega)) c232)
    have c232 : 20 ≤ i := (nI_leI (a := 20) (b := i) (by omega) (by omega)).mp c232
    refine v_iconst (pc := 311) (v := 0) dL_build_311 rfl ?_
    refine v_istore (pc := 312) dL_build_312 (by decide) rfl ?_
    refine v_room (ck' := 46 + 8) (sk' := 555 + 6 * 8) (by omega) (by omega) ?_
    have k9 := lp_b3 (G := G) (w := w) (a := a) (b := b) (f := f) (wa := wa) (lr := lr) (nd := nd) (dg := dg) (B := B) (hh := hh) (g0 := g0) (u0 := u0) (H := H) (D := D) (sz := sz) hM0 hL31 8 0 v xs bs T N S C O ch PC SF BF ps sc bc MX (by omega) hb0 hs0 hp0 (fun j _ h2 => hO j h2) hI
    refine v_sub ?_ k9
    exact ⟨rfl, rfl, rfl, rfl, trivial⟩
  | succ m ih =>
    intro i v xs bs T N S C O ch PC SF BF ps sc bc MX hmn hb0 hs0 hp0 hO hI
    obtain ⟨hps, hsc, hbc⟩ := hI.1.1
    refine v_iload (pc := 228) dL_build_228 rfl ?_
    refine v_bipush (pc := 230) (v := 20) dL_build_230 rfl ?_
    refine v_icmp_ge (pc := 232) (tgt := 311) dL_build_232 (by decide) (fun c232 => absurd c232 (nI_ge (a := i) (b := 20) (by omega) (by omega))) (fun c232 => ?_)
    have c232 : ¬ 20 ≤ i := fun h => c232 ((nI_leI (a := 20) (b := i) (by omega) (by omega)).mpr h)
    refine v_aload_nR (pc := 235) dL_build_235 rfl rfl ?_
    refine v_iconst (pc := 236) (v := 4) dL_build_236 rfl ?_
    refine v_callS2 (pc := 237) (c_L_cell hL31 (k := 4) (by omega)) cm_L_cell q622 q623 [] (by rfl) (by decide) (fun _ _ h => h) (by omega) (by omega) (by decide) (Nat.le_of_ble_eq_true rfl) dL_build_237 (fun v237 M237 hQ237 => ?_)
    obtain ⟨r237, rfl, rfl⟩ := hQ237
    try dsimp only [wb, LakeM, WaysM, WorldM, SimM, List.set_cons_succ, List.set_cons_zero, List.append_nil, List.nil_append, List.cons_append, Option.toList, Nat.sub_zero]
    refine v_iload (pc := 240) dL_build_240 rfl ?_
    refine v_ishr (pc := 242) dL_build_242 ?_
    refine v_sipush (pc := 243) (v := 160) dL_build_243 rfl ?_
    refine v_callS2 (pc := 246) (c_L_below (n := 160) (by omega) (by omega)) cm_L_below q618 q619 [] (by rfl) (by decide) (fun _ _ h => h) (by omega) (by omega) (by decide) (Nat.le_of_ble_eq_true rfl) dL_build_246 (fun v246 M246 hQ246 => ?_)
    obtain ⟨r246, hr246, rfl, rfl⟩ := hQ246
    try dsimp only [wb, LakeM, WaysM, WorldM, SimM, List.set_cons_succ, List.set_cons_zero, List.append_nil, List.nil_append, List.cons_append, Option.toList, Nat.sub_zero]
    refine v_istore (pc := 249) dL_build_249 (by decide) rfl ?_
    refine v_iconst (pc := 251) (v := 1) dL_build_251 rfl ?_
    refine v_aload_nR (pc := 252) dL_build_252 rfl rfl ?_
    refine v_iconst (pc := 253) (v := 5) dL_build_253 rfl ?_
    refine v_callS2 (pc := 254) (c_L_cell hL31 (k := 5) (by omega)) cm_L_cell q622 q623 [] (by rfl) (by decide) (fun _ _ h => h) (by omega) (by omega) (by decide) (Nat.le_of_ble_eq_true rfl) dL_build_254 (fun v254 M254 hQ254 => ?_)
    obtain ⟨r254, rfl, rfl⟩ := hQ254
    try dsimp only [wb, LakeM, WaysM, WorldM, SimM, List.set_cons_succ, List.set_cons_zero, List.append_nil, List.nil_append, List.cons_append, Option.toList, Nat.sub_zero]
    refine v_iload (pc := 257) dL_build_257 rfl ?_
    refine v_ishr (pc := 259) dL_build_259 ?_
    refine v_bipush (pc := 260) (v := 9) dL_build_260 rfl ?_
    refine v_callS2 (pc := 262) (c_L_below (n := 9) (by omega) (by omega)) cm_L_below q618 q619 [] (by rfl) (by decide) (fun _ _ h => h) (by omega) (by omega) (by decide) (Nat.le_of_ble_eq_true rfl) dL_build_262 (fun v262 M262 hQ262 => ?_)
    obtain ⟨r262, hr262, rfl, rfl⟩ := hQ262
    try dsimp only [wb, LakeM, WaysM, WorldM, SimM, List.set_cons_succ, List.set_cons_zero, List.append_nil, List.nil_append, List.cons_append, Option.toList, Nat.sub_zero]
    refine v_iadd (pc := 265) dL_build_265 ?_
    rw [show 1 + nI r262 = nI (1 + r262) from nI_add 1 r262]
    refine v_istore (pc := 266) dL_build_266 (by decide) rfl ?_
    refine v_aload_nR (pc := 268) dL_build_268 rfl rfl ?_
    refine v_iload (pc := 269) dL_build_269 rfl ?_
    refine v_bipush (pc := 271) (v := 16) dL_build_271 rfl ?_
    refine v_irem (pc := 273) dL_build_273 (by decide) ?_
    rw [show nI r246 - nI r246 / 16 * 16 = nI (r246 % 16) from pk_rem (d := 16) (by omega) (by decide) (by decide)]
    refine v_iload (pc := 274) dL_build_274 rfl ?_
    refine v_bipush (pc := 276) (v := 16) dL_build_276 rfl ?_
    refine v_idiv (pc := 278) dL_build_278 (by decide) ?_
    rw [show nI r246 / 16 = nI (r246 / 16) from pk_div (d := 16) (by omega) (by decide) (by decide)]
    refine v_iload (pc := 279) dL_build_279 rfl ?_
    refine v_callV3 (pc := 281) (c7_setSnow hps hsc hbc hr246 (by omega) (by omega)) cm_X5_setSnow q715 q716 q717 (ci := 5) rfl rfl (orcO 0 rfl) [0, 1, 2, 3, 4, 5, 6, 7, 8, 9, 10, 11, 12, 13, 14, 15, 16, 17] (by rfl) (by decide) (fun _ _ h => h) (by omega) (by omega) (by decide) (Nat.le_of_ble_eq_true rfl) dL_build_281 (fun v281 M281 hQ281 => ?_)
    obtain ⟨rfl, rfl⟩ := hQ281
    try dsimp only [wb, LakeM, WaysM, WorldM, SimM, List.set_cons_succ, List.set_cons_zero, List.append_nil, List.nil_append, List.cons_append, Option.toList, Nat.sub_zero]
    refine v_aload_nR (pc := 284) dL_build_284 rfl rfl ?_
    refine v_get (pc := 285) 2 18 fg_L_36 rfl rfl dL_build_285 ?_
    refine v_iload (pc := 288) dL_build_288 rfl ?_
    refine v_ialdN (pc := 290) 20 (k := r246) rfl (by omega) (by omega) dL_build_290 ?_
    refine v_icmp_eq (pc := 291) (tgt := 296) dL_build_291 (by decide) (fun c291 => ?_) (fun c291 => absurd rfl c291)
    refine v_aload_nR (pc := 296) dL_build_296 rfl rfl ?_
    refine v_get (pc := 297) 2 18 fg_L_36 rfl rfl dL_build_297 ?_
    refine v_iload (pc := 300) dL_build_300 rfl ?_
    refine v_iload (pc := 302) dL_build_302 rfl ?_
    refine v_iastN (pc := 304) 20 (k := r246) rfl (by omega) (by omega) dL_build_304 ?_
    try dsimp only [wb, LakeM, WaysM, WorldM, SimM, List.set_cons_succ, List.set_cons_zero, List.append_nil, List.nil_append, List.cons_append, Option.toList, Nat.sub_zero]
    refine v_iinc (pc := 305) (v := nI (i + 1)) dL_build_305 rfl (nI_1 _) (by decide) rfl ?_
    refine v_goto (pc := 308) (tgt := 228) dL_build_308 (by decide) ?_
    refine v_room (ck' := 54 + m) (sk' := 603 + 6 * m) (by omega) (by omega) ?_
    have k9 := ih (i + 1) v xs bs T (upd N r246 (nI (1 + r262))) S C O ch PC SF BF ps sc bc MX (by omega) hb0 hs0 hp0 hO (hI.snow hr246 (by omega) (by omega))
    refine v_sub ?_ k9
    exact ⟨rfl, rfl, rfl, rfl, trivial⟩
set_option maxRecDepth 100000 in
set_option maxHeartbeats 4000000 in
theorem lp_b0 {G : Cx} {w : Nat → Nat} {a b f : Nat → Int32} {wa : Int32} {lr : Value} {nd dg : Int32} {B : Nat → Int32} {hh g0 u0 : Nat} {H D : Nat → Int32} {Z : ZT} {ck sk : Nat} {v xs bs : Nat → Nat} {T N S C O : Nat → Int32} {ch : Int32} {PC : Nat → Int32} {SF BF : Nat → Nat → Int32} {ps sc bc : Nat} {MX : Nat → Int32} (hps : ps ≤ 8) (hsc : sc ≤ 5) (hbc : bc ≤ 40) {n3 i x y wd dp : Nat} {t : Int32} (hx : x + wd ≤ 16) (hy : y + dp ≤ 10) (hw1 : 1 ≤ wd) (hdw : dp * wd ≤ 160)
    (K : V G Y_L_build Z 8 ck sk 219 [some (.ref g0), some (.ref G.2.2.2.1), some (.ref (v 0)), some (.int (nI n3)), some (.int (nI i)), none, none, none, none, none, none, none] [] (eO 5 g0 [.ref (w 0), .ref u0] :: (WorldM w a b f wa lr nd dg (lyU T t (cel x y wd) (dp * wd)) N (lyU S 0 (cel x y wd) (dp * wd)) (lyU C 0 (cel x y wd) (dp * wd)) B O (ch + nI (dp * wd)) PC SF BF ps sc bc hh ++ SimM v xs bs hh (lyU T t (cel x y wd) (dp * wd)) N (lyU S 0 (cel x y wd) (dp * wd)) (lyU C 0 (cel x y wd) (dp * wd)) O PC ps sc bc SF MX BF H D))) : ∀ (m j : Nat), m + j = dp * wd → V G Y_L_build Z 8 ck sk 177 [some (.ref g0), some (.ref G.2.2.2.1), some (.ref (v 0)), some (.int (nI n3)), some (.int (nI i)), none, some (.int (nI x)), some (.int (nI y)), some (.int (nI wd)), some (.int (nI dp)), some (.int (t)), some (.int (nI j))] [] (eO 5 g0 [.ref (w 0), .ref u0] :: (WorldM w a b f wa lr nd dg (lyU T t (cel x y wd) (dp * wd)) N (lyU S 0 (cel x y wd) (dp * wd)) (lyU C 0 (cel x y wd) (dp * wd)) B O (ch + nI (dp * wd)) PC SF BF ps sc bc hh ++ SimM v xs bs hh (lyU T t (cel x y wd) (j)) N (lyU S 0 (cel x y wd) (j)) (lyU C 0 (cel x y wd) (j)) O PC ps sc bc SF MX BF H D)) := by
  intro m
  induction m with
  | zero =>
    intro j hj
    have hj9 : j = dp * wd := by omega
    refine v_iload (pc := 177) dL_build_177 rfl ?_
    refine v_iload (pc := 179) dL_build_179 rfl ?_
    refine v_iload (pc := 181) dL_build_181 rfl ?_
    refine v_imul (pc := 183) dL_build_183 ?_
    rw [show nI wd * nI dp = nI (dp * wd) from by rw [pk_mul, Nat.mul_comm]]
    refine v_icmp_ge (pc := 184) (tgt := 219) dL_build_184 (by decide) (fun c184 => ?_) (fun c184 => absurd (nI_le (a := dp * wd) (b := j) (by omega) (by omega)) c184)
    have c184 : (dp * wd) ≤ j := (nI_leI (a := (dp * wd)) (b := j) (by omega) (by omega)).mp c184
    rw [hj9]
    refine v_sub ?_ K
    exact ⟨rfl, rfl, rfl, rfl, rfl, trivial⟩
  | succ m ih =>
    intro j hj
    have hm9 := Nat.mod_lt j (show wd > 0 by omega)
    have hd9 : j / wd < dp := (Nat.div_lt_iff_lt_mul (by omega)).mpr (by omega)
    have hk9 : cel x y wd j < 160 := by
      unfold cel
      omega
    refine v_iload (pc := 177) dL_build_177 rfl ?_
    refine v_iload (pc := 179) dL_build_179 rfl ?_
    refine v_iload (pc := 181) dL_build_181 rfl ?_
    refine v_imul (pc := 183) dL_build_183 ?_
    rw [show nI wd * nI dp = nI (dp * wd) from by rw [pk_mul, Nat.mul_comm]]
    refine v_icmp_ge (pc := 184) (tgt := 219) dL_build_184 (by decide) (fun c184 => absurd c184 (nI_ge (a := j) (b := dp * wd) (by omega) (by omega))) (fun c184 => ?_)
    have c184 : ¬ (dp * wd) ≤ j := fun h => c184 ((nI_leI (a := (dp * wd)) (b := j) (by omega) (by omega)).mpr h)
    refine v_aload_nR (pc := 187) dL_build_187 rfl rfl ?_
    refine v_iload (pc := 188) dL_build_188 rfl ?_
    refine v_iload (pc := 190) dL_build_190 rfl ?_
    refine v_iload (pc := 192) dL_build_192 rfl ?_
    refine v_irem (pc := 194) dL_build_194 (fun q => by have := (nI_eq (a := wd) (b := 0) (by omega) (by decide)).mp q; omega) ?_
    rw [show nI j - nI j / nI wd * nI wd = nI (j % wd) from pk_rem (by omega) (by omega) (by omega)]
    refine v_iadd (pc := 195) dL_build_195 ?_
    rw [show nI x + nI (j % wd) = nI (x + j % wd) from nI_add _ _]
    refine v_bipush (pc := 196) (v := 16) dL_build_196 rfl ?_
    refine v_iload (pc := 198) dL_build_198 rfl ?_
    refine v_iload (pc := 200) dL_build_200 rfl ?_
    refine v_iload (pc := 202) dL_build_202 rfl ?_
    refine v_idiv (pc := 204) dL_build_204 (fun q => by have := (nI_eq (a := wd) (b := 0) (by omega) (by decide)).mp q; omega) ?_
    rw [show nI j / nI wd = nI (j / wd) from pk_div (by omega) (by omega) (by omega)]
    refine v_iadd (pc := 205) dL_build_205 ?_
    rw [show nI y + nI (j / wd) = nI (y + j / wd) from nI_add _ _]
    refine v_imul (pc := 206) dL_build_206 ?_
    rw [show 16 * nI (y + j / wd) = nI (16 * (y + j / wd)) from pk_mul 16 _]
    refine v_iadd (pc := 207) dL_build_207 ?_
    rw [show nI (x + j % wd) + nI (16 * (y + j / wd)) = nI (cel x y wd j) from nI_add _ _]
    refine v_iload (pc := 208) dL_build_208 rfl ?_
    refine v_callV2 (pc := 210) (c_X6_ice hps hsc hbc hk9) cm_X6_ice q711 q712 q713 (ci := 6) rfl rfl (orcO 18 rfl) [18, 19, 20, 21, 22, 23, 24, 25, 26, 27, 28, 29, 30] (by rfl) (by decide) (fun _ _ h => h) (by omega) (by omega) (by decide) (Nat.le_of_ble_eq_true rfl) dL_build_210 (fun v210 M210 hQ210 => ?_)
    obtain ⟨rfl, rfl⟩ := hQ210
    try dsimp only [wb, LakeM, WaysM, WorldM, SimM, List.set_cons_succ, List.set_cons_zero, List.append_nil, List.nil_append, List.cons_append, Option.toList, Nat.sub_zero]
    refine v_iinc (pc := 213) (v := nI (j + 1)) dL_build_213 rfl (nI_1 _) (by decide) rfl ?_
    refine v_goto (pc := 216) (tgt := 177) dL_build_216 (by decide) ?_
    have k9 := ih (j + 1) (by omega)
    refine v_sub ?_ k9
    exact ⟨rfl, rfl, rfl, rfl, rfl, rfl, rfl, rfl, rfl, rfl, rfl, trivial⟩
set_option maxRecDepth 100000 in
set_option maxHeartbeats 4000000 in
theorem lp_b1 {G : Cx} {w : Nat → Nat} {a b f : Nat → Int32} {wa : Int32} {lr : Value} {nd dg : Int32} {B : Nat → Int32} {hh g0 u0 : Nat} {H D : Nat → Int32} {M0 : List ME} (hM0 : M0.length = 18) (hL31 : G.2.2.2.2.2.1 < 2 ^ 31) {sz : Nat} : ∀ (m : Nat), ∀ (i : Nat) (v xs bs : Nat → Nat) (T N S C O : Nat → Int32) (ch : Int32) (PC : Nat → Int32) (SF BF : Nat → Nat → Int32) (ps sc bc : Nat) (MX : Nat → Int32) (n3 : Nat), m + i = n3 → n3 ≤ 8 → bc = 0 → sc = 0 → ps = 0 → (∀ j, j < 8 → O j = 5) → LI N O PC ps sc bc T S C ch SF BF MX (160 * i) → V G Y_L_build (ZM G M0 sz (fun v' M' => ∃ (v xs bs : Nat → Nat) (T N S C O : Nat → Int32) (ch : Int32) (PC : Nat → Int32) (SF BF : Nat → Nat → Int32) (ps sc bc : Nat) (MX : Nat → Int32) (H D : Nat → Int32), v' = some (.ref (v 0)) ∧ (1 ≤ ps ∧ (1 ≤ sc ∧ sc ≤ 4) ∧ bc ≤ 8) ∧ LI N O PC ps sc bc T S C ch SF BF MX 2000 ∧ M' = eO 5 g0 [.ref (w 0), .ref u0] :: (WorldM w a b f wa lr nd dg T N S C B O ch PC SF BF ps sc bc hh ++ SimM v xs bs hh T N S C O PC ps sc bc SF MX BF H D)) noX) 8 (74 + m) (723 + 6 * m) 24 [some (.ref g0), some (.ref G.2.2.2.1), some (.ref (v 0)), some (.int (nI n3)), some (.int (nI i)), none, none, none, none, none, none, none] [] (eO 5 g0 [.ref (w 0), .ref u0] :: (WorldM w a b f wa lr nd dg T N S C B O ch PC SF BF ps sc bc hh ++ SimM v xs bs hh T N S C O PC ps sc bc SF MX BF H D)) := by
  intro m
  induction m with
  | zero =>
    intro i v xs bs T N S C O ch PC SF BF ps sc bc MX n3 hmn hn8 hb0 hs0 hp0 hO hI
    obtain ⟨hps, hsc, hbc⟩ := hI.1.1
    refine v_iload (pc := 24) dL_build_24 rfl ?_
    refine v_iload_n (pc := 26) dL_build_26 rfl rfl ?_
    refine v_icmp_ge (pc := 27) (tgt := 225) dL_build_27 (by decide) (fun c27 => ?_) (fun c27 => absurd (nI_le (a := n3) (b := i) (by omega) (by omega)) c27)
    have c27 : n3 ≤ i := (nI_leI (a := n3) (b := i) (by omega) (by omega)).mp c27
    refine v_iconst (pc := 225) (v := 0) dL_build_225 rfl ?_
    refine v_istore (pc := 226) dL_build_226 (by decide) rfl ?_
    refine v_room (ck' := 54 + 20) (sk' := 603 + 6 * 20) (by omega) (by omega) ?_
    have k9 := lp_b2 (G := G) (w := w) (a := a) (b := b) (f := f) (wa := wa) (lr := lr) (nd := nd) (dg := dg) (B := B) (hh := hh) (g0 := g0) (u0 := u0) (H := H) (D := D) (sz := sz) hM0 hL31 20 0 v xs bs T N S C O ch PC SF BF ps sc bc MX (by omega) hb0 hs0 hp0 hO (hI.more (by omega))
    refine v_sub ?_ k9
    exact ⟨rfl, rfl, rfl, rfl, trivial⟩
  | succ m ih =>
    intro i v xs bs T N S C O ch PC SF BF ps sc bc MX n3 hmn hn8 hb0 hs0 hp0 hO hI
    obtain ⟨hps, hsc, hbc⟩ := hI.1.1
    refine v_iload (pc := 24) dL_build_24 rfl ?_
    refine v_iload_n (pc := 26) dL_build_26 rfl rfl ?_
    refine v_icmp_ge (pc := 27) (tgt := 225) dL_build_27 (by decide) (fun c27 => absurd c27 (nI_ge (a := i) (b := n3) (by omega) (by omega))) (fun c27 => ?_)
    have c27 : ¬ n3 ≤ i := fun h => c27 ((nI_leI (a := n3) (b := i) (by omega) (by omega)).mpr h)
    refine v_aload_nR (pc := 30) dL_build_30 rfl rfl ?_
    refine v_iconst (pc := 31) (v := 1) dL_build_31 rfl ?_
    refine v_iload (pc := 32) dL_build_32 rfl ?_
    refine v_iconst (pc := 34) (v := 3) dL_build_34 rfl ?_
    refine v_irem (pc := 35) dL_build_35 (by decide) ?_
    rw [show nI i - nI i / 3 * 3 = nI (i % 3) from pk_rem (d := 3) (by omega) (by decide) (by decide)]
    refine v_iadd (pc := 36) dL_build_36 ?_
    rw [show 1 + nI (i % 3) = nI (1 + i % 3) from nI_add 1 _]
    refine v_callS2 (pc := 37) (c_L_cell hL31 (k := (1 + i % 3)) (by omega)) cm_L_cell q622 q623 [] (by rfl) (by decide) (fun _ _ h => h) (by omega) (by omega) (by decide) (Nat.le_of_ble_eq_true rfl) dL_build_37 (fun v37 M37 hQ37 => ?_)
    obtain ⟨r37, rfl, rfl⟩ := hQ37
    try dsimp only [wb, LakeM, WaysM, WorldM, SimM, List.set_cons_succ, List.set_cons_zero, List.append_nil, List.nil_append, List.cons_append, Option.toList, Nat.sub_zero]
    refine v_iload (pc := 40) dL_build_40 rfl ?_
    refine v_ishr (pc := 42) dL_build_42 ?_
    refine v_bipush (pc := 43) (v := 11) dL_build_43 rfl ?_
    refine v_iload (pc := 45) dL_build_45 rfl ?_
    refine v_imul (pc := 47) dL_build_47 ?_
    refine v_iadd (pc := 48) dL_build_48 ?_
    refine v_istore (pc := 49) dL_build_49 (by decide) rfl ?_
    refine v_iload (pc := 51) dL_build_51 rfl ?_
    refine v_bipush (pc := 53) (v := 16) dL_build_53 rfl ?_
    refine v_callS2 (pc := 55) (c_L_below (n := 16) (by omega) (by omega)) cm_L_below q618 q619 [] (by rfl) (by decide) (fun _ _ h => h) (by omega) (by omega) (by decide) (Nat.le_of_ble_eq_true rfl) dL_build_55 (fun v55 M55 hQ55 => ?_)
    obtain ⟨r55, hr55, rfl, rfl⟩ := hQ55
    try dsimp only [wb, LakeM, WaysM, WorldM, SimM, List.set_cons_succ, List.set_cons_zero, List.append_nil, List.nil_append, List.cons_append, Option.toList, Nat.sub_zero]
    refine v_istore (pc := 58) dL_build_58 (by decide) rfl ?_
    refine v_iload (pc := 60) dL_build_60 rfl ?_
    refine v_iconst (pc := 62) (v := 2) dL_build_62 rfl ?_
    refine v_ishr (pc := 63) dL_build_63 ?_
    refine v_bipush (pc := 64) (v := 10) dL_build_64 rfl ?_
    refine v_callS2 (pc := 66) (c_L_below (n := 10) (by omega) (by omega)) cm_L_below q618 q619 [] (by rfl) (by decide) (fun _ _ h => h) (by omega) (by omega) (by decide) (Nat.le_of_ble_eq_true rfl) dL_build_66 (fun v66 M66 hQ66 => ?_)
    obtain ⟨r66, hr66, rfl, rfl⟩ := hQ66
    try dsimp only [wb, LakeM, WaysM, WorldM, SimM, List.set_cons_succ, List.set_cons_zero, List.append_nil, List.nil_append, List.cons_append, Option.toList, Nat.sub_zero]
    refine v_istore (pc := 69) dL_build_69 (by decide) rfl ?_
    refine v_iconst (pc := 71) (v := 1) dL_build_71 rfl ?_
    refine v_iload (pc := 72) dL_build_72 rfl ?_
    refine v_iconst (pc := 74) (v := 3) dL_build_74 rfl ?_
    refine v_ishr (pc := 75) dL_build_75 ?_
    refine v_bipush (pc := 76) (v := 16) dL_build_76 rfl ?_
    refine v_iload (pc := 78) dL_build_78 rfl ?_
    refine v_isub (pc := 80) dL_build_80 ?_
    rw [show 16 - nI r55 = nI (16 - r55) from pk_sub (a := 16) (by omega)]
    refine v_callS2 (pc := 81) (c_L_below (n := (16 - r55)) (by omega) (by omega)) cm_L_below q618 q619 [] (by rfl) (by decide) (fun _ _ h => h) (by omega) (by omega) (by decide) (Nat.le_of_ble_eq_true rfl) dL_build_81 (fun v81 M81 hQ81 => ?_)
    obtain ⟨r81, hr81, rfl, rfl⟩ := hQ81
    try dsimp only [wb, LakeM, WaysM, WorldM, SimM, List.set_cons_succ, List.set_cons_zero, List.append_nil, List.nil_append, List.cons_append, Option.toList, Nat.sub_zero]
    refine v_iadd (pc := 84) dL_build_84 ?_
    rw [show 1 + nI r81 = nI (1 + r81) from nI_add 1 r81]
    refine v_istore (pc := 85) dL_build_85 (by decide) rfl ?_
    refine v_iconst (pc := 87) (v := 1) dL_build_87 rfl ?_
    refine v_iload (pc := 88) dL_build_88 rfl ?_
    refine v_iconst (pc := 90) (v := 4) dL_build_90 rfl ?_
    refine v_ishr (pc := 91) dL_build_91 ?_
    refine v_bipush (pc := 92) (v := 10) dL_build_92 rfl ?_
    refine v_iload (pc := 94) dL_build_94 rfl ?_
    refine v_isub (pc := 96) dL_build_96 ?_
    rw [show 10 - nI r66 = nI (10 - r66) from pk_sub (a := 10) (by omega)]
    refine v_callS2 (pc := 97) (c_L_below (n := (10 - r66)) (by omega) (by omega)) cm_L_below q618 q619 [] (by rfl) (by decide) (fun _ _ h => h) (by omega) (by omega) (by decide) (Nat.le_of_ble_eq_true rfl) dL_build_97 (fun v97 M97 hQ97 => ?_)
    obtain ⟨r97, hr97, rfl, rfl⟩ := hQ97
    try dsimp only [wb, LakeM, WaysM, WorldM, SimM, List.set_cons_succ, List.set_cons_zero, List.append_nil, List.nil_append, List.cons_append, Option.toList, Nat.sub_zero]
    refine v_iadd (pc := 100) dL_build_100 ?_
    rw [show 1 + nI r97 = nI (1 + r97) from nI_add 1 r97]
    refine v_istore (pc := 101) dL_build_101 (by decide) rfl ?_
    have K : ∀ t : Int32, -1 ≤ t ∧ t ≤ 200 → V G Y_L_build (ZM G M0 sz (fun v' M' => ∃ (v xs bs : Nat → Nat) (T N S C O : Nat → Int32) (ch : Int32) (PC : Nat → Int32) (SF BF : Nat → Nat → Int32) (ps sc bc : Nat) (MX : Nat → Int32) (H D : Nat → Int32), v' = some (.ref (v 0)) ∧ (1 ≤ ps ∧ (1 ≤ sc ∧ sc ≤ 4) ∧ bc ≤ 8) ∧ LI N O PC ps sc bc T S C ch SF BF MX 2000 ∧ M' = eO 5 g0 [.ref (w 0), .ref u0] :: (WorldM w a b f wa lr nd dg T N S C B O ch PC SF BF ps sc bc hh ++ SimM v xs bs hh T N S C O PC ps sc bc SF MX BF H D)) noX) 8 (74 + (m + 1)) (723 + 6 * (m + 1)) 148 [some (.ref g0), some (.ref G.2.2.2.1), some (.ref (v 0)), some (.int (nI n3)), some (.int (nI i)), none, some (.int (nI r55)), some (.int (nI r66)), some (.int (nI (1 + r81))), some (.int (nI (1 + r97))), none, none] [.int t] (eO 5 g0 [.ref (w 0), .ref u0] :: (WorldM w a b f wa lr nd dg T N S C B O ch PC SF BF ps sc bc hh ++ SimM v xs bs hh T N S C O PC ps sc bc SF MX BF H D)) := by
      intro t ht
      refine v_istore (pc := 148) dL_build_148 (by decide) rfl ?_
      refine v_aload_nR (pc := 150) dL_build_150 rfl rfl ?_
      refine v_iload (pc := 151) dL_build_151 rfl ?_
      refine v_iload (pc := 153) dL_build_153 rfl ?_
      refine v_iload (pc := 155) dL_build_155 rfl ?_
      refine v_iload (pc := 157) dL_build_157 rfl ?_
      refine v_iload (pc := 159) dL_build_159 rfl ?_
      refine v_callV5 (pc := 161) (c7_setIce hps hsc hbc (x := r55) (y := r66) (wd := 1 + r81) (dp := 1 + r97) (by omega) (by omega) (by omega) (by omega) ht hp0 hs0) cm_X5_setIce q678 q679 q680 (ci := 5) rfl rfl (orcO 0 rfl) [0, 1, 2, 3, 4, 5, 6, 7, 8, 9, 10, 11, 12, 13, 14, 15, 16, 17] (by rfl) (by decide) (fun _ _ h => h) (by omega) (by omega) (by decide) (Nat.le_of_ble_eq_true rfl) dL_build_161 (fun v161 M161 hQ161 => ?_)
      obtain ⟨rfl, rfl⟩ := hQ161
      try dsimp only [wb, LakeM, WaysM, WorldM, SimM, List.set_cons_succ, List.set_cons_zero, List.append_nil, List.nil_append, List.cons_append, Option.toList, Nat.sub_zero]
      refine v_iload (pc := 164) dL_build_164 rfl ?_
      refine v_iload (pc := 166) dL_build_166 rfl ?_
      refine v_imul (pc := 168) dL_build_168 ?_
      refine v_icmp_eq (pc := 169) (tgt := 174) dL_build_169 (by decide) (fun c169 => ?_) (fun c169 => absurd rfl c169)
      refine v_iconst (pc := 174) (v := 0) dL_build_174 rfl ?_
      refine v_istore (pc := 175) dL_build_175 (by decide) rfl ?_
      have hdw : (1 + r97) * (1 + r81) ≤ 160 := Nat.le_trans (Nat.mul_le_mul (show 1 + r97 ≤ 10 by omega) (show 1 + r81 ≤ 16 by omega)) (by decide)
      refine v_sub (L' := [some (.ref g0), some (.ref G.2.2.2.1), some (.ref (v 0)), some (.int (nI n3)), some (.int (nI i)), none, some (.int (nI r55)), some (.int (nI r66)), some (.int (nI (1 + r81))), some (.int (nI (1 + r97))), some (.int (t)), some (.int (nI 0))]) ⟨rfl, rfl, rfl, rfl, rfl, rfl, rfl, rfl, rfl, rfl, rfl, trivial⟩ ?_
      refine lp_b0 hps hsc hbc (x := r55) (y := r66) (wd := 1 + r81) (dp := 1 + r97) (t := t) (by omega) (by omega) (by omega) hdw ?_ ((1 + r97) * (1 + r81)) 0 (by omega)
      refine v_iinc (pc := 219) (v := nI (i + 1)) dL_build_219 rfl (nI_1 _) (by decide) rfl ?_
      refine v_goto (pc := 222) (tgt := 24) dL_build_222 (by decide) ?_
      refine v_room (ck' := 74 + m) (sk' := 723 + 6 * m) (by omega) (by omega) ?_
      have k9 := ih (i + 1) v xs bs (lyU T t (cel r55 r66 (1 + r81)) ((1 + r97) * (1 + r81))) N (lyU S 0 (cel r55 r66 (1 + r81)) ((1 + r97) * (1 + r81))) (lyU C 0 (cel r55 r66 (1 + r81)) ((1 + r97) * (1 + r81))) O (ch + nI ((1 + r97) * (1 + r81))) PC SF BF ps sc bc MX n3 (by omega) hn8 hb0 hs0 hp0 hO ((hI.ice (by omega) (by omega) (by omega) (by omega) (by omega) ht hp0 hs0).more (by omega))
      refine v_sub ?_ k9
      exact ⟨rfl, rfl, rfl, rfl, rfl, trivial⟩
    refine v_iload (pc := 103) dL_build_103 rfl ?_
    refine v_iconst (pc := 105) (v := 5) dL_build_105 rfl ?_
    refine v_ishr (pc := 106) dL_build_106 ?_
    refine v_iconst (pc := 107) (v := 5) dL_build_107 rfl ?_
    refine v_callS2 (pc := 108) (c_L_below (n := 5) (by omega) (by omega)) cm_L_below q618 q619 [] (by rfl) (by decide) (fun _ _ h => h) (by omega) (by omega) (by decide) (Nat.le_of_ble_eq_true rfl) dL_build_108 (fun v108 M108 hQ108 => ?_)
    obtain ⟨r108, hr108, rfl, rfl⟩ := hQ108
    try dsimp only [wb, LakeM, WaysM, WorldM, SimM, List.set_cons_succ, List.set_cons_zero, List.append_nil, List.nil_append, List.cons_append, Option.toList, Nat.sub_zero]
    refine v_if_ne (pc := 111) (tgt := 118) dL_build_111 (by decide) (fun c111 => ?_) (fun c111 => ?_)
    · have c111 : ¬ r108 = 0 := fun h => c111 ((nI_eq (a := r108) (b := 0) (by omega) (by omega)).mpr h)
      refine v_bipush (pc := 118) (v := 10) dL_build_118 rfl ?_
      refine v_iload (pc := 120) dL_build_120 rfl ?_
      refine v_bipush (pc := 122) (v := 6) dL_build_122 rfl ?_
      refine v_ishr (pc := 124) dL_build_124 ?_
      refine v_iload (pc := 125) dL_build_125 rfl ?_
      refine v_bipush (pc := 127) (v := 8) dL_build_127 rfl ?_
      refine v_ishr (pc := 129) dL_build_129 ?_
      refine v_iconst (pc := 130) (v := 2) dL_build_130 rfl ?_
      refine v_callS2 (pc := 131) (c_L_below (n := 2) (by omega) (by omega)) cm_L_below q618 q619 [] (by rfl) (by decide) (fun _ _ h => h) (by omega) (by omega) (by decide) (Nat.le_of_ble_eq_true rfl) dL_build_131 (fun v131 M131 hQ131 => ?_)
      obtain ⟨r131, hr131, rfl, rfl⟩ := hQ131
      try dsimp only [wb, LakeM, WaysM, WorldM, SimM, List.set_cons_succ, List.set_cons_zero, List.append_nil, List.nil_append, List.cons_append, Option.toList, Nat.sub_zero]
      refine v_if_ne (pc := 134) (tgt := 142) dL_build_134 (by decide) (fun c134 => ?_) (fun c134 => ?_)
      · have c134 : ¬ r131 = 0 := fun h => c134 ((nI_eq (a := r131) (b := 0) (by omega) (by omega)).mpr h)
        refine v_bipush (pc := 142) (v := 20) dL_build_142 rfl ?_
        refine v_callS2 (pc := 144) (c_L_below (n := 20) (by omega) (by omega)) cm_L_below q618 q619 [] (by rfl) (by decide) (fun _ _ h => h) (by omega) (by omega) (by decide) (Nat.le_of_ble_eq_true rfl) dL_build_144 (fun v144 M144 hQ144 => ?_)
        obtain ⟨r144, hr144, rfl, rfl⟩ := hQ144
        try dsimp only [wb, LakeM, WaysM, WorldM, SimM, List.set_cons_succ, List.set_cons_zero, List.append_nil, List.nil_append, List.cons_append, Option.toList, Nat.sub_zero]
        refine v_iadd (pc := 147) dL_build_147 ?_
        refine v_sub (L' := [some (.ref g0), some (.ref G.2.2.2.1), some (.ref (v 0)), some (.int (nI n3)), some (.int (nI i)), none, some (.int (nI r55)), some (.int (nI r66)), some (.int (nI (1 + r81))), some (.int (nI (1 + r97))), none, none]) ⟨rfl, rfl, rfl, rfl, rfl, rfl, rfl, rfl, rfl, trivial⟩ ?_
        rw [show (10 : Int32) + nI r144 = nI (10 + r144) from nI_add 10 r144]
        exact K _ ⟨i_le.mpr (by rw [i_m1, nI_toInt (by omega)]; omega), i_le.mpr (by rw [i_200, nI_toInt (by omega)]; omega)⟩
      · have c134 : r131 = 0 := (nI_eq (a := r131) (b := 0) (by omega) (by omega)).mp c134
        refine v_bipush (pc := 137) (v := 90) dL_build_137 rfl ?_
        refine v_goto (pc := 139) (tgt := 144) dL_build_139 (by decide) ?_
        refine v_callS2 (pc := 144) (c_L_below (n := 90) (by omega) (by omega)) cm_L_below q618 q619 [] (by rfl) (by decide) (fun _ _ h => h) (by omega) (by omega) (by decide) (Nat.le_of_ble_eq_true rfl) dL_build_144 (fun v144 M144 hQ144 => ?_)
        obtain ⟨r144, hr144, rfl, rfl⟩ := hQ144
        try dsimp only [wb, LakeM, WaysM, WorldM, SimM, List.set_cons_succ, List.set_cons_zero, List.append_nil, List.nil_append, List.cons_append, Option.toList, Nat.sub_zero]
        refine v_iadd (pc := 147) dL_build_147 ?_
        refine v_sub (L' := [some (.ref g0), some (.ref G.2.2.2.1), some (.ref (v 0)), some (.int (nI n3)), some (.int (nI i)), none, some (.int (nI r55)), some (.int (nI r66)), some (.int (nI (1 + r81))), some (.int (nI (1 + r97))), none, none]) ⟨rfl, rfl, rfl, rfl, rfl, rfl, rfl, rfl, rfl, trivial⟩ ?_
        rw [show (10 : Int32) + nI r144 = nI (10 + r144) from nI_add 10 r144]
        exact K _ ⟨i_le.mpr (by rw [i_m1, nI_toInt (by omega)]; omega), i_le.mpr (by rw [i_200, nI_toInt (by omega)]; omega)⟩
    · have c111 : r108 = 0 := (nI_eq (a := r108) (b := 0) (by omega) (by omega)).mp c111
      refine v_iconst (pc := 114) (v := -1) dL_build_114 rfl ?_
      refine v_goto (pc := 115) (tgt := 148) dL_build_115 (by decide) ?_
      refine v_sub (L' := [some (.ref g0), some (.ref G.2.2.2.1), some (.ref (v 0)), some (.int (nI n3)), some (.int (nI i)), none, some (.int (nI r55)), some (.int (nI r66)), some (.int (nI (1 + r81))), some (.int (nI (1 + r97))), none, none]) ⟨rfl, rfl, rfl, rfl, rfl, rfl, rfl, rfl, rfl, trivial⟩ ?_
      exact K (-1) ⟨by decide, by decide⟩
set_option maxRecDepth 100000 in
set_option maxHeartbeats 4000000 in
theorem c_L_build {G : Cx} {w : Nat → Nat} {a b f : Nat → Int32} {wa : Int32} {lr : Value} {nd dg : Int32} {B : Nat → Int32} {g0 u0 : Nat} (hL31 : G.2.2.2.2.2.1 < 2 ^ 31) : Mt G Y_L_build 8 100 2300 [.ref g0, .ref G.2.2.2.1] (eO 5 g0 [.ref (w 0), .ref u0] :: WorldM w a b f wa lr nd dg (fun _ => 30) (fun _ => 1) (fun _ => 0) (fun _ => 0) B (fun _ => 5) 0 (fun _ => 0) (fun _ _ => 0) (fun _ _ => 0) 0 0 0 0) (fun v' M' => ∃ (v xs bs : Nat → Nat) (T N S C O : Nat → Int32) (ch : Int32) (PC : Nat → Int32) (SF BF : Nat → Nat → Int32) (ps sc bc : Nat) (MX : Nat → Int32) (H D : Nat → Int32), v' = some (.ref (v 0)) ∧ (1 ≤ ps ∧ (1 ≤ sc ∧ sc ≤ 4) ∧ bc ≤ 8) ∧ LI N O PC ps sc bc T S C ch SF BF MX 2000 ∧ M' = eO 5 g0 [.ref (w 0), .ref u0] :: (WorldM w a b f wa lr nd dg T N S C B O ch PC SF BF ps sc bc 0 ++ SimM v xs bs 0 T N S C O PC ps sc bc SF MX BF H D)) noX := by
  refine Mt.of (L := [some (.ref g0), some (.ref G.2.2.2.1), none, none, none, none, none, none, none, none, none, none]) rfl (by decide) (by simp [lg_sl, Value.category]) ⟨rfl, rfl, trivial⟩ (fun sz => ?_)
  refine v_new (pc := 0) (ci := 6) (fs := [.int 0, .null, .null, .null, .null, .null, .null, .null, .null, .null, .null]) rfl layX6 tyX6_ok q629 q630 q8 (fun j hj => by (have hj2 : j = 0 ∨ j = 1 ∨ j = 2 ∨ j = 3 ∨ j = 4 ∨ j = 5 ∨ j = 6 ∨ j = 7 ∨ j = 8 ∨ j = 9 ∨ j = 10 := by omega); rcases hj2 with rfl | rfl | rfl | rfl | rfl | rfl | rfl | rfl | rfl | rfl | rfl <;> rfl) (by omega) (by omega) dL_build_0 (fun z0 => ?_)
  try dsimp only [wb, LakeM, WaysM, WorldM, SimM, List.set_cons_succ, List.set_cons_zero, List.append_nil, List.nil_append, List.cons_append, Option.toList, Nat.sub_zero]
  refine v_dup (pc := 3) dL_build_3 rfl ?_
  refine v_callI0 (pc := 4) (c_X6_init ) cm_X6_init rfl rfl q631 q632 [18] (by rfl) (by decide) (fun _ _ h => h) (by omega) (by omega) (by decide) (Nat.le_of_ble_eq_true rfl) dL_build_4 (fun v4 M4 hQ4 => ?_)
  obtain ⟨rfl, v4, xs4, bs4, hv4, rfl⟩ := hQ4
  try dsimp only [wb, LakeM, WaysM, WorldM, SimM, List.set_cons_succ, List.set_cons_zero, List.append_nil, List.nil_append, List.cons_append, Option.toList, Nat.sub_zero]
  subst hv4
  refine v_astore_nR (pc := 7) dL_build_7 rfl (by decide) rfl ?_
  refine v_iconst (pc := 8) (v := 2) dL_build_8 rfl ?_
  refine v_aload_nR (pc := 9) dL_build_9 rfl rfl ?_
  refine v_iconst (pc := 10) (v := 0) dL_build_10 rfl ?_
  refine v_callS2 (pc := 11) (c_L_cell hL31 (k := 0) (by omega)) cm_L_cell q622 q623 [] (by rfl) (by decide) (fun _ _ h => h) (by omega) (by omega) (by decide) (Nat.le_of_ble_eq_true rfl) dL_build_11 (fun v11 M11 hQ11 => ?_)
  obtain ⟨r11, rfl, rfl⟩ := hQ11
  try dsimp only [wb, LakeM, WaysM, WorldM, SimM, List.set_cons_succ, List.set_cons_zero, List.append_nil, List.nil_append, List.cons_append, Option.toList, Nat.sub_zero]
  refine v_bipush (pc := 14) (v := 7) dL_build_14 rfl ?_
  refine v_callS2 (pc := 16) (c_L_below (n := 7) (by omega) (by omega)) cm_L_below q618 q619 [] (by rfl) (by decide) (fun _ _ h => h) (by omega) (by omega) (by decide) (Nat.le_of_ble_eq_true rfl) dL_build_16 (fun v16 M16 hQ16 => ?_)
  obtain ⟨r16, hr16, rfl, rfl⟩ := hQ16
  try dsimp only [wb, LakeM, WaysM, WorldM, SimM, List.set_cons_succ, List.set_cons_zero, List.append_nil, List.nil_append, List.cons_append, Option.toList, Nat.sub_zero]
  refine v_iadd (pc := 19) dL_build_19 ?_
  rw [show 2 + nI r16 = nI (2 + r16) from nI_add 2 r16]
  refine v_istore_n (pc := 20) dL_build_20 rfl (by decide) rfl ?_
  refine v_iconst (pc := 21) (v := 0) dL_build_21 rfl ?_
  refine v_istore (pc := 22) dL_build_22 (by decide) rfl ?_
  refine v_room (ck' := 74 + (2 + r16)) (sk' := 723 + 6 * (2 + r16)) (by omega) (by omega) ?_
  have k9 := lp_b1 (G := G) (w := w) (a := a) (b := b) (f := f) (wa := wa) (lr := lr) (nd := nd) (dg := dg) (B := B) (g0 := g0) (u0 := u0) (sz := sz) (hh := 0) (H := fun _ => 0) (D := fun _ => 0) (M0 := eO 5 g0 [.ref (w 0), .ref u0] :: WorldM w a b f wa lr nd dg (fun _ => 30) (fun _ => 1) (fun _ => 0) (fun _ => 0) B (fun _ => 5) 0 (fun _ => 0) (fun _ _ => 0) (fun _ _ => 0) 0 0 0 0) rfl hL31 (2 + r16) 0 v4 xs4 bs4 (fun _ => 30) (fun _ => 1) (fun _ => 0) (fun _ => 0) (fun _ => 5) 0 (fun _ => 0) (fun _ _ => 0) (fun _ _ => 0) 0 0 0 (fun _ => 0) (2 + r16) (by omega) (by omega) rfl rfl rfl (fun _ _ => rfl) (LI_0.more (Nat.zero_le _))
  refine v_sub ?_ k9
  exact ⟨rfl, rfl, rfl, rfl, rfl, trivial⟩
