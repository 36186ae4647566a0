/-! the law's own model: resting; an hour -/
theorem sTK.day {f : Int32} {T S : Nat → Int32} (h : sTK S) : sTK (dS f T S) := by
  unfold dS
  split
  · intro j hj
    rw [fillU_in hj]
    unfold fzS
    split
    · exact h j hj
    · have h1 := h j hj
      split
      · rename_i h2
        have e2 : (2 : Int32).toInt = 2 := by decide
        have e : (S j - 2).toInt = (S j).toInt - 2 := by rw [fb_subI (by rw [e2]; omega) (by rw [e2]; omega), e2]
        rw [i_lt, i_0, e] at h2
        rw [e]
        omega
      · exact ⟨by decide, by decide⟩
  · exact h
set_option maxRecDepth 100000 in
set_option maxHeartbeats 4000000 in
theorem lp_X6_p4 {G : Cx} {v xs bs : Nat → Nat} {hh : Nat} {T N S C O PC : Nat → Int32} {ps sc bc : Nat} {SF : Nat → Nat → Int32} {MX : Nat → Int32} {BF : Nat → Nat → Int32} {H D : Nat → Int32} (hps : ps ≤ 8) (hsc : sc ≤ 5) (hbc : bc ≤ 40) {sz : Nat} {n5 : Nat} (h5 : n5 = 5) {Z : ZT} {ch q : Int32} {B : Nat} {r : Nat → Nat → Int32} (K : hIV PC ps sc bc T C ch r BF MX B → jV r sc → V G Y_X6_pass Z 6 1 160 714 [some (.ref (v 0)), some (.int q), some (.ref (v 7)), some (.int (nI sc)), some (.int (nI sc)), none, none, none] [] (SimM v xs bs hh T N S C O PC ps sc bc r MX BF H D)) : ∀ (m i : Nat), m + i = sc → ∀ y : Nat → Nat → Int32, hIV PC ps sc bc T C ch y BF MX B → jV y sc → reL sc (n5 - i) i y = r → V G Y_X6_pass Z 6 1 160 663 [some (.ref (v 0)), some (.int q), some (.ref (v 7)), some (.int (nI sc)), some (.int (nI i)), none, none, none] [] (SimM v xs bs hh T N S C O PC ps sc bc y MX BF H D) := by
  intro m
  induction m with
  | zero =>
    intro i hi
    have hi2 : i = sc := by omega
    intro y hI hJ hr
    rw [reL_stop _ i y (by omega)] at hr
    subst hr
    refine v_iload (pc := 663) dX6_pass_663 rfl ?_
    refine v_iload_n (pc := 665) dX6_pass_665 rfl rfl ?_
    refine v_icmp_ge (pc := 666) (tgt := 714) dX6_pass_666 (by decide) (fun c666 => ?_) (fun c666 => absurd (nI_le (a := sc) (b := i) (by omega) (by omega)) c666)
    have c666 : sc ≤ i := (nI_leI (a := sc) (b := i) (by omega) (by omega)).mp c666
    rw [hi2]
    refine v_sub ?_ (K hI hJ)
    exact ⟨rfl, rfl, rfl, rfl, rfl, trivial⟩
  | succ m ih =>
    intro i hi
    intro y hI hJ hr
    refine v_iload (pc := 663) dX6_pass_663 rfl ?_
    refine v_iload_n (pc := 665) dX6_pass_665 rfl rfl ?_
    refine v_icmp_ge (pc := 666) (tgt := 714) dX6_pass_666 (by decide) (fun c666 => absurd c666 (nI_ge (a := i) (b := sc) (by omega) (by omega))) (fun c666 => ?_)
    have c666 : ¬ sc ≤ i := fun h => c666 ((nI_leI (a := sc) (b := i) (by omega) (by omega)).mpr h)
    refine v_aload_nR (pc := 669) dX6_pass_669 rfl rfl ?_
    refine v_iload (pc := 670) dX6_pass_670 rfl ?_
    refine v_aaldS (pc := 672) 7 (k := i) (by decide) rfl (by omega) (by omega) dX6_pass_672 ?_
    refine v_astoreR (pc := 673) dX6_pass_673 (by decide) rfl ?_
    refine v_aloadR (pc := 675) dX6_pass_675 rfl ?_
    refine v_getS (pc := 677) 2 11 fg_X6_109 rfl (by omega) (by decide) dX6_pass_677 ?_
    rw [smX_g2]
    refine v_if_ne (pc := 680) (tgt := 708) dX6_pass_680 (by decide) (fun c680 => ?_) (fun c680 => ?_)
    · refine v_iinc (pc := 708) (v := nI (i + 1)) dX6_pass_708 rfl (nI_1 _) (by decide) rfl ?_
      refine v_goto (pc := 711) (tgt := 663) dX6_pass_711 (by decide) ?_
      have hr2 : reL sc (n5 - (i + 1)) (i + 1) (reT sc i y) = r := by
        rw [show n5 - i = (n5 - (i + 1)) + 1 by omega] at hr
        exact hr
      have e : reT sc i y = y := if_neg (fun h => c680 h.2)
      rw [e] at hr2
      refine v_sub ?_ (ih (i + 1) (by omega) y hI hJ hr2)
      exact ⟨rfl, rfl, rfl, rfl, rfl, trivial⟩
    · refine v_aloadR (pc := 683) dX6_pass_683 rfl ?_
      refine v_aloadR (pc := 685) dX6_pass_685 rfl ?_
      refine v_getS (pc := 687) 1 11 fg_X6_121 rfl (by omega) (by decide) dX6_pass_687 ?_
      rw [smX_g1]
      refine v_iconst (pc := 690) (v := 2) dX6_pass_690 rfl ?_
      refine v_icmp_le (pc := 691) (tgt := 704) dX6_pass_691 (by decide) (fun c691 => ?_) (fun c691 => ?_)
      · refine v_iconst (pc := 704) (v := 0) dX6_pass_704 rfl ?_
        refine v_putS (pc := 705) 1 11 fp_X6_pass_121 rfl (by omega) (by decide) dX6_pass_705 ?_
        try dsimp only [wb, SimM, List.set_cons_succ, List.set_cons_zero, List.append_nil, List.nil_append, List.cons_append, Option.toList, Nat.sub_zero]
        rw [smX_u1]
        refine v_iinc (pc := 708) (v := nI (i + 1)) dX6_pass_708 rfl (nI_1 _) (by decide) rfl ?_
        refine v_goto (pc := 711) (tgt := 663) dX6_pass_711 (by decide) ?_
        have hr2 : reL sc (n5 - (i + 1)) (i + 1) (reT sc i y) = r := by
          rw [show n5 - i = (n5 - (i + 1)) + 1 by omega] at hr
          exact hr
        have hI9 := hI.re (n := i)
        have hJ9 := hJ.re (n := i)
        have e : reT sc i y = upS y i 2 (if 0 < y i 2 - 2 then y i 2 - 2 else 0) := if_pos ⟨by omega, c680⟩
        rw [← (t_dn (hJ.1 i (by omega))).1 c691] at e
        rw [e] at hr2 hI9 hJ9
        refine v_sub ?_ (ih (i + 1) (by omega) _ hI9 hJ9 hr2)
        exact ⟨rfl, rfl, rfl, rfl, rfl, trivial⟩
      · refine v_aloadR (pc := 694) dX6_pass_694 rfl ?_
        refine v_getS (pc := 696) 1 11 fg_X6_121 rfl (by omega) (by decide) dX6_pass_696 ?_
        rw [smX_g1]
        refine v_iconst (pc := 699) (v := 2) dX6_pass_699 rfl ?_
        refine v_isub (pc := 700) dX6_pass_700 ?_
        refine v_goto (pc := 701) (tgt := 705) dX6_pass_701 (by decide) ?_
        refine v_putS (pc := 705) 1 11 fp_X6_pass_121 rfl (by omega) (by decide) dX6_pass_705 ?_
        try dsimp only [wb, SimM, List.set_cons_succ, List.set_cons_zero, List.append_nil, List.nil_append, List.cons_append, Option.toList, Nat.sub_zero]
        rw [smX_u1]
        refine v_iinc (pc := 708) (v := nI (i + 1)) dX6_pass_708 rfl (nI_1 _) (by decide) rfl ?_
        refine v_goto (pc := 711) (tgt := 663) dX6_pass_711 (by decide) ?_
        have hr2 : reL sc (n5 - (i + 1)) (i + 1) (reT sc i y) = r := by
          rw [show n5 - i = (n5 - (i + 1)) + 1 by omega] at hr
          exact hr
        have hI9 := hI.re (n := i)
        have hJ9 := hJ.re (n := i)
        have e : reT sc i y = upS y i 2 (if 0 < y i 2 - 2 then y i 2 - 2 else 0) := if_pos ⟨by omega, c680⟩
        rw [← (t_dn (hJ.1 i (by omega))).2.1 c691] at e
        rw [e] at hr2 hI9 hJ9
        refine v_sub ?_ (ih (i + 1) (by omega) _ hI9 hJ9 hr2)
        exact ⟨rfl, rfl, rfl, rfl, rfl, trivial⟩
set_option maxRecDepth 100000 in
set_option maxHeartbeats 4000000 in
theorem lp_X6_p35 {G : Cx} {v xs bs : Nat → Nat} {hh : Nat} {N O PC : Nat → Int32} {ps sc bc : Nat} {MX : Nat → Int32} {H D : Nat → Int32} (hps : ps ≤ 8) (hsc : sc ≤ 5) (hbc : bc ≤ 40) {n5 : Nat} (h5 : n5 = 5) {sz B : Nat} {M0 : List ME} (hM0 : M0.length = 13) (hB : B < 2 ^ 30 - 10) {l5 : Value} {x : HW} (hPC : ∀ k, k < 8 → 0 ≤ PC k ∧ PC k < 160) (hN : nOK N) (hI : hIV PC ps sc bc x.2.2.1 x.2.2.2.2.2.2.2.2.2.1 x.2.2.2.2.2.2.2.2.2.2 x.1 x.2.1 MX B) (hJ : jV x.1 sc) (hS : sTK x.2.2.2.2.2.2.2.2.1) : V G Y_X6_pass (ZM G M0 sz (fun v' M' => v' = some (.int (hrV n5 PC ps sc bc hh (hrB n5 sc bc x))) ∧ ∃ MX' H' D' : Nat → Int32, M' = SimM v xs bs (hh + 1) (hrR n5 sc (hrE n5 l5 N PC ps sc (hrC n5 PC ps sc bc hh (hrB n5 sc bc x)))).2.2.1 N (hrR n5 sc (hrE n5 l5 N PC ps sc (hrC n5 PC ps sc bc hh (hrB n5 sc bc x)))).2.2.2.2.2.2.2.2.1 (hrR n5 sc (hrE n5 l5 N PC ps sc (hrC n5 PC ps sc bc hh (hrB n5 sc bc x)))).2.2.2.2.2.2.2.2.2.1 O PC ps sc bc (hrR n5 sc (hrE n5 l5 N PC ps sc (hrC n5 PC ps sc bc hh (hrB n5 sc bc x)))).1 MX' (hrR n5 sc (hrE n5 l5 N PC ps sc (hrC n5 PC ps sc bc hh (hrB n5 sc bc x)))).2.1 H' D' ∧ hIV PC ps sc bc (hrR n5 sc (hrE n5 l5 N PC ps sc (hrC n5 PC ps sc bc hh (hrB n5 sc bc x)))).2.2.1 (hrR n5 sc (hrE n5 l5 N PC ps sc (hrC n5 PC ps sc bc hh (hrB n5 sc bc x)))).2.2.2.2.2.2.2.2.2.1 (hrR n5 sc (hrE n5 l5 N PC ps sc (hrC n5 PC ps sc bc hh (hrB n5 sc bc x)))).2.2.2.2.2.2.2.2.2.2 (hrR n5 sc (hrE n5 l5 N PC ps sc (hrC n5 PC ps sc bc hh (hrB n5 sc bc x)))).1 (hrR n5 sc (hrE n5 l5 N PC ps sc (hrC n5 PC ps sc bc hh (hrB n5 sc bc x)))).2.1 MX' (B + sc) ∧ jV (hrR n5 sc (hrE n5 l5 N PC ps sc (hrC n5 PC ps sc bc hh (hrB n5 sc bc x)))).1 sc ∧ sTK (hrR n5 sc (hrE n5 l5 N PC ps sc (hrC n5 PC ps sc bc hh (hrB n5 sc bc x)))).2.2.2.2.2.2.2.2.1) noX) 6 1 160 31 [some (.ref (v 0)), some (.int 0), none, none, none, none, none, none] [] (SimM v xs bs hh x.2.2.1 N x.2.2.2.2.2.2.2.2.1 x.2.2.2.2.2.2.2.2.2.1 O PC ps sc bc x.1 MX x.2.1 H D) := by
  obtain ⟨b1, hb1⟩ : ∃ b1, skL x.2.2.1 x.2.2.2.2.2.2.2.2.2.1 sc bc (n5 - 0) 0 (x.1, x.2.1) = b1 := ⟨_, rfl⟩
  obtain ⟨c2, hc2⟩ : ∃ c2, mvL PC ps sc bc hh (n5 - 0) 0 (b1.1, b1.2, 0) = c2 := ⟨_, rfl⟩
  obtain ⟨c3, hc3⟩ : ∃ c3, soL l5 x.2.2.1 N PC ps sc (n5 - 0) 0 (c2.1, x.2.2.2.2) = c3 := ⟨_, rfl⟩
  have eb : hrB n5 sc bc x = (b1.1, b1.2, x.2.2) := by rw [← hb1]; rfl
  have ec : hrC n5 PC ps sc bc hh (b1.1, b1.2, x.2.2) = (c2.1, c2.2.1, x.2.2) := by rw [← hc2]; rfl
  have ev : hrV n5 PC ps sc bc hh (b1.1, b1.2, x.2.2) = c2.2.2 := by rw [← hc2]; rfl
  have ee : hrE n5 l5 N PC ps sc (c2.1, c2.2.1, x.2.2) = (c3.1, c2.2.1, x.2.2.1, x.2.2.2.1, c3.2) := by rw [← hc3]; rfl
  rw [eb, ec, ev, ee]
  refine v_iconst (pc := 31) (v := 0) dX6_pass_31 rfl ?_
  refine v_istore_n (pc := 32) dX6_pass_32 rfl (by decide) rfl ?_
  refine v_sub (L' := [some (.ref (v 0)), some (.int 0), some (.int (nI 0)), none, none, none, none, none]) ⟨rfl, rfl, rfl, trivial⟩ ?_
  refine lp_X6_p1 (sz := 0) (SF := x.1) (BF := x.2.1) hps hsc hbc h5 (r := b1) (fun hI1 hJ1 => ?_) sc 0 (by omega) (x.1, x.2.1) hI hJ hb1
  refine v_iconst (pc := 160) (v := 0) dX6_pass_160 rfl ?_
  refine v_istore_n (pc := 161) dX6_pass_161 rfl (by decide) rfl ?_
  refine v_sub (L' := [some (.ref (v 0)), some (.int 0), some (.int (nI 0)), none, none, none, none, none]) ⟨rfl, rfl, rfl, trivial⟩ ?_
  refine lp_X6_p2 (sz := 0) (SF := x.1) (BF := x.2.1) hps hsc hbc h5 (r := c2) (fun hI2 hJ2 => ?_) sc 0 (by omega) (b1.1, b1.2, 0) hI1 hJ1 hc2
  refine v_iconst (pc := 367) (v := 0) dX6_pass_367 rfl ?_
  refine v_istore_n (pc := 368) dX6_pass_368 rfl (by decide) rfl ?_
  refine v_sub (L' := [some (.ref (v 0)), some (.int c2.2.2), some (.int (nI 0)), none, none, none, none, none]) ⟨rfl, rfl, rfl, trivial⟩ ?_
  refine lp_X6_p3 (sz := 0) (S := x.2.2.1) (C := x.2.2.1) (SF := x.1) (MX := MX) (H := H) (D := D) hps hsc hbc h5 (l5 := l5) (B := B) hB (r := c3) hPC hN (fun MX3 H3 D3 hI3 hJ3 hS3 => ?_) sc 0 (by omega) (c2.1, x.2.2.2.2) MX H D (hI2.more (by omega)) hJ2 hS hc3
  refine v_aload_nR (pc := 652) dX6_pass_652 rfl rfl ?_
  refine v_get (pc := 653) 7 0 fg_X6_31 rfl rfl dX6_pass_653 ?_
  refine v_astore_nR (pc := 656) dX6_pass_656 rfl (by decide) rfl ?_
  refine v_aload_nR (pc := 657) dX6_pass_657 rfl rfl ?_
  refine v_alen (pc := 658) 7 (v := nI sc) rfl (fun _ => rfl) rfl dX6_pass_658 ?_
  refine v_istore_n (pc := 659) dX6_pass_659 rfl (by decide) rfl ?_
  refine v_iconst (pc := 660) (v := 0) dX6_pass_660 rfl ?_
  refine v_istore (pc := 661) dX6_pass_661 (by decide) rfl ?_
  refine v_sub (L' := [some (.ref (v 0)), some (.int c2.2.2), some (.ref (v 7)), some (.int (nI sc)), some (.int (nI 0)), none, none, none]) ⟨rfl, rfl, rfl, rfl, rfl, trivial⟩ ?_
  refine lp_X6_p4 (sz := 0) (SF := x.1) (MX := MX3) hps hsc hbc h5 (r := reL sc n5 0 c3.1) (fun hI4 hJ4 => ?_) sc 0 (by omega) c3.1 hI3 hJ3 rfl
  refine v_aload_nR (pc := 714) dX6_pass_714 rfl rfl ?_
  refine v_dup (pc := 715) dX6_pass_715 rfl ?_
  refine v_get (pc := 716) 0 0 fg_X6_46 rfl rfl dX6_pass_716 ?_
  refine v_iconst (pc := 719) (v := 1) dX6_pass_719 rfl ?_
  refine v_iadd (pc := 720) dX6_pass_720 ?_
  rw [nI_1]
  refine v_put (pc := 721) 0 0 fp_X6_pass_46 rfl rfl rfl (Nat.le_of_ble_eq_true rfl) dX6_pass_721 ?_
  try dsimp only [wb, SimM, List.set_cons_succ, List.set_cons_zero, List.append_nil, List.nil_append, List.cons_append, Option.toList, Nat.sub_zero]
  refine v_iload_n (pc := 724) dX6_pass_724 rfl rfl ?_
  refine v_iret (pc := 725) rfl rfl (by rw [hM0]; exact Nat.le_of_ble_eq_true rfl) dX6_pass_725 ?_
  exact ⟨rfl, MX3, H3, D3, rfl, hI4, hJ4, hS3⟩
set_option maxRecDepth 100000 in
set_option maxHeartbeats 4000000 in
theorem c_X6_pass {G : Cx} {v xs bs : Nat → Nat} {hh : Nat} {T N S C O PC : Nat → Int32} {ps sc bc : Nat} {SF : Nat → Nat → Int32} {MX : Nat → Int32} {BF : Nat → Nat → Int32} {H D : Nat → Int32} (hps : ps ≤ 8) (hsc : sc ≤ 5) (hbc : bc ≤ 40) {n5 : Nat} (h5 : n5 = 5) {Bk : Nat → Int32} {qs : QS} {lr l5 : Value} {nd dg ch : Int32} {B : Nat} (hB : B < 2 ^ 30 - 20) (hhh : hh < 2 ^ 31 - 1) (hPC : ∀ k, k < 8 → 0 ≤ PC k ∧ PC k < 160) (hN : nOK N) (hO : oOK O) (hI : hIV PC ps sc bc T C ch SF BF MX B) (hJ : jV SF sc) (hS : sTK S) : Mt G Y_X6_pass 6 2 320 [.ref (v 0)] (SimM v xs bs hh T N S C O PC ps sc bc SF MX BF H D) (fun v' M' => v' = some (.int (hrN n5 O PC ps sc bc hh (SF, BF, T, Bk, qs, lr, nd, dg, S, C, ch))) ∧ ∃ MX' H' D' : Nat → Int32, M' = SimM v xs bs (hh + 1) (hrW n5 l5 N O PC ps sc bc hh (SF, BF, T, Bk, qs, lr, nd, dg, S, C, ch)).2.2.1 N (hrW n5 l5 N O PC ps sc bc hh (SF, BF, T, Bk, qs, lr, nd, dg, S, C, ch)).2.2.2.2.2.2.2.2.1 (hrW n5 l5 N O PC ps sc bc hh (SF, BF, T, Bk, qs, lr, nd, dg, S, C, ch)).2.2.2.2.2.2.2.2.2.1 O PC ps sc bc (hrW n5 l5 N O PC ps sc bc hh (SF, BF, T, Bk, qs, lr, nd, dg, S, C, ch)).1 MX' (hrW n5 l5 N O PC ps sc bc hh (SF, BF, T, Bk, qs, lr, nd, dg, S, C, ch)).2.1 H' D' ∧ hIV PC ps sc bc (hrW n5 l5 N O PC ps sc bc hh (SF, BF, T, Bk, qs, lr, nd, dg, S, C, ch)).2.2.1 (hrW n5 l5 N O PC ps sc bc hh (SF, BF, T, Bk, qs, lr, nd, dg, S, C, ch)).2.2.2.2.2.2.2.2.2.1 (hrW n5 l5 N O PC ps sc bc hh (SF, BF, T, Bk, qs, lr, nd, dg, S, C, ch)).2.2.2.2.2.2.2.2.2.2 (hrW n5 l5 N O PC ps sc bc hh (SF, BF, T, Bk, qs, lr, nd, dg, S, C, ch)).1 (hrW n5 l5 N O PC ps sc bc hh (SF, BF, T, Bk, qs, lr, nd, dg, S, C, ch)).2.1 MX' (B + 1 + sc) ∧ jV (hrW n5 l5 N O PC ps sc bc hh (SF, BF, T, Bk, qs, lr, nd, dg, S, C, ch)).1 sc ∧ sTK (hrW n5 l5 N O PC ps sc bc hh (SF, BF, T, Bk, qs, lr, nd, dg, S, C, ch)).2.2.2.2.2.2.2.2.1) noX := by
  refine Mt.of (L := [some (.ref (v 0)), none, none, none, none, none, none, none]) rfl (by decide) (by simp [lg_sl, Value.category]) ⟨rfl, trivial⟩ (fun sz => ?_)
  have hT : tOK T := hI.2.2.2.2.2.1.1
  have hC : cOK C := hI.2.2.2.2.2.1.2.1
  have hhh : hh < 2 ^ 31 := by omega
  refine v_iconst (pc := 0) (v := 0) dX6_pass_0 rfl ?_
  refine v_istore_n (pc := 1) dX6_pass_1 rfl (by decide) rfl ?_
  refine v_aload_nR (pc := 2) dX6_pass_2 rfl rfl ?_
  refine v_get (pc := 3) 0 0 fg_X6_46 rfl rfl dX6_pass_3 ?_
  refine v_bipush (pc := 6) (v := 24) dX6_pass_6 rfl ?_
  refine v_irem (pc := 8) dX6_pass_8 (by decide) ?_
  rw [show nI hh - nI hh / 24 * 24 = nI (hh % 24) from pk_rem (d := 24) hhh (by decide) (by decide)]
  refine v_if_ne (pc := 9) (tgt := 31) dX6_pass_9 (by decide) (fun c9 => ?_) (fun c9 => ?_)
  · have c9 : ¬ (hh % 24) = 0 := fun h => c9 ((nI_eq (a := (hh % 24)) (b := 0) (by omega) (by omega)).mpr h)
    have eA : hrA O hh (SF, BF, T, Bk, qs, lr, nd, dg, S, C, ch) = (SF, BF, T, Bk, qs, lr, nd, dg, S, C, ch) := if_neg c9
    unfold hrW hrN
    rw [eA]
    refine v_room (ck' := 1) (sk' := 160) (by decide) (by decide) ?_
    refine v_sub ?_ (lp_X6_p35 (x := (SF, BF, T, Bk, qs, lr, nd, dg, S, C, ch)) (B := B + 1) (H := H) (D := D) hps hsc hbc h5 rfl (by omega) hPC hN (hI.more (by omega)) hJ hS)
    exact ⟨rfl, rfl, trivial⟩
  · have c9 : (hh % 24) = 0 := (nI_eq (a := (hh % 24)) (b := 0) (by omega) (by omega)).mp c9
    refine v_aload_nR (pc := 12) dX6_pass_12 rfl rfl ?_
    refine v_aload_nR (pc := 13) dX6_pass_13 rfl rfl ?_
    refine v_get (pc := 14) 5 0 fg_X6_23 rfl rfl dX6_pass_14 ?_
    refine v_aload_nR (pc := 17) dX6_pass_17 rfl rfl ?_
    refine v_get (pc := 18) 0 0 fg_X6_46 rfl rfl dX6_pass_18 ?_
    refine v_bipush (pc := 21) (v := 24) dX6_pass_21 rfl ?_
    refine v_idiv (pc := 23) dX6_pass_23 (by decide) ?_
    rw [show nI hh / 24 = nI (hh / 24) from pk_div (d := 24) hhh (by decide) (by decide)]
    refine v_bipush (pc := 24) (v := 8) dX6_pass_24 rfl ?_
    refine v_irem (pc := 26) dX6_pass_26 (by decide) ?_
    rw [show nI (hh / 24) - nI (hh / 24) / 8 * 8 = nI (hh / 24 % 8) from pk_rem (d := 8) (by omega) (by decide) (by decide)]
    refine v_ialdN (pc := 27) 5 (k := (hh / 24 % 8)) rfl (by omega) (by omega) dX6_pass_27 ?_
    refine v_callV1 (pc := 28) (c_X6_frost hps hsc hbc hT hC hS (hO _ (Nat.mod_lt _ (by decide)))) cm_X6_frost q581 q582 q583 (ci := 6) rfl rfl (orcO 0 rfl) [0, 1, 2, 3, 4, 5, 6, 7, 8, 9, 10, 11, 12] (by rfl) (by decide) (fun _ _ h => h) (by decide) (by decide) (by decide) (Nat.le_of_ble_eq_true rfl) dX6_pass_28 (fun v28 M28 hQ28 => ?_)
    obtain ⟨rfl, rfl⟩ := hQ28
    try dsimp only [wb, SimM, List.set_cons_succ, List.set_cons_zero, List.append_nil, List.nil_append, List.cons_append, Option.toList, Nat.sub_zero]
    have eA : hrA O hh (SF, BF, T, Bk, qs, lr, nd, dg, S, C, ch) = (SF, BF, dT (O (hh / 24 % 8)) T, dB (O (hh / 24 % 8)) C Bk, qs, lr, nd, dg, dS (O (hh / 24 % 8)) T S, dC (O (hh / 24 % 8)) T S C, dH (O (hh / 24 % 8)) ch) := if_pos c9
    unfold hrW hrN
    rw [eA]
    refine v_room (ck' := 1) (sk' := 160) (by decide) (by decide) ?_
    refine v_sub ?_ (lp_X6_p35 (x := (SF, BF, dT (O (hh / 24 % 8)) T, dB (O (hh / 24 % 8)) C Bk, qs, lr, nd, dg, dS (O (hh / 24 % 8)) T S, dC (O (hh / 24 % 8)) T S C, dH (O (hh / 24 % 8)) ch)) (B := B + 1) (H := H) (D := D) hps hsc hbc h5 rfl (by omega) hPC hN (hI.frost (S := S) hsc (by omega) (hO _ (Nat.mod_lt _ (by decide)))) hJ hS.day)
    exact ⟨rfl, rfl, trivial⟩
