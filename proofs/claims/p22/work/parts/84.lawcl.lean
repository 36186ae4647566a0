/-! the law: what became of each cell -/
section AC84
variable {C : Nat → Int32} {c j : Nat}
theorem acs_t (h : acB C c j = true) : acB C c (j + 1) = true := by
  obtain ⟨o, h1, h2⟩ := (acB_iff j).mp h
  exact (acB_iff (j + 1)).mpr ⟨o, by omega, h2⟩
theorem acs_y (h1 : adj c j = true) (h2 : ¬ C j = 0) : acB C c (j + 1) = true := (acB_iff (j + 1)).mpr ⟨j, Nat.lt_succ_self j, h1, h2⟩
theorem acs_n (h : ¬ acB C c j = true) (h2 : ¬ (adj c j = true ∧ ¬ C j = 0)) : ¬ acB C c (j + 1) = true := fun q => by
  obtain ⟨o, h3, h4⟩ := (acB_iff (j + 1)).mp q
  by_cases e : o = j
  · rw [e] at h4
    exact h2 h4
  · exact h ((acB_iff j).mpr ⟨o, by omega, h4⟩)
end AC84
theorem thn_1 {hh : Nat} {f : Int32} {T : Nat → Int32} {c : Nat} (h : T c < 0 ∨ ¬ hh % 24 = 0) : thn hh f T c = T c := if_pos h
theorem thn_2 {hh : Nat} {f : Int32} {T : Nat → Int32} {c : Nat} (h : ¬ (T c < 0 ∨ ¬ hh % 24 = 0)) (h2 : 0 < f) : thn hh f T c = (if T c + 12 * f / (6 + T c / 10) < 200 then T c + 12 * f / (6 + T c / 10) else 200) := (if_neg h).trans (if_pos h2)
theorem thn_3 {hh : Nat} {f : Int32} {T : Nat → Int32} {c : Nat} (h : ¬ (T c < 0 ∨ ¬ hh % 24 = 0)) (h2 : ¬ 0 < f) : thn hh f T c = (if 0 < T c + 3 * f then T c + 3 * f else 0) := (if_neg h).trans (if_neg h2)
theorem bas_1 {hh : Nat} {f : Int32} {S : Nat → Int32} {c : Nat} (h : ¬ (hh % 24 = 0 ∧ 0 < f)) : bas hh f S c = S c := if_neg h
theorem bas_2 {hh : Nat} {f : Int32} {S : Nat → Int32} {c : Nat} (h : hh % 24 = 0 ∧ 0 < f) : bas hh f S c = (if 0 < S c - 2 then S c - 2 else 0) := if_pos h
theorem bas_nn {hh : Nat} {f : Int32} {S : Nat → Int32} {c : Nat} (h : 0 ≤ (S c).toInt) : 0 ≤ (bas hh f S c).toInt := by
  unfold bas
  split
  · split
    · rename_i h1
      rw [i_lt, i_0] at h1
      omega
    · exact (by decide : 0 ≤ (0 : Int32).toInt)
  · exact h
theorem smin {s b : Int32} {n : Nat} (h6 : s.toInt ≤ b.toInt + (n : Nat)) (h7 : s.toInt ≤ 9) (hb : 0 ≤ b.toInt ∧ b.toInt ≤ 9) (hn : n ≤ 5) : s ≤ (if b + nI n < 9 then b + nI n else 9) := by
  have e : (b + nI n).toInt = b.toInt + n := by rw [fb_addI (by rw [nI_toInt (by omega)]; omega) (by rw [nI_toInt (by omega)]; omega), nI_toInt (by omega)]
  split
  · rw [i_le, e]
    exact h6
  · rw [i_le, i_9]
    exact h7
theorem sixp {t : Int32} (h : ¬ t < 0) : ¬ 6 + t / 10 = 0 := fun q => by
  obtain ⟨k, hk, rfl⟩ := nI_of h
  rw [show nI k / 10 = nI (k / 10) from pk_div (d := 10) hk (by decide) (by decide), show 6 + nI (k / 10) = nI (6 + k / 10) from nI_add 6 _] at q
  have := (nI_eq (a := 6 + k / 10) (b := 0) (by omega) (by decide)).mp q
  omega
theorem bI_mono {P Q : Prop} [Decidable P] [Decidable Q] (h : P → Q) : bI P ≤ bI Q := by
  by_cases hP : P
  · rw [bI_t hP, bI_t (h hP)]
    decide
  · rw [bI_f hP]
    by_cases hQ : Q
    · rw [bI_t hQ]; decide
    · rw [bI_f hQ]; decide
set_option maxRecDepth 100000 in
set_option maxHeartbeats 4000000 in
theorem lw_be {G : Cx} {nm : String} {hd9 : List (Nat × Nat × Nat × Nat)} {Z : ZT} {ck sk : Nat} {g0 : Nat} {w u v xs bs : Nat → Nat} {a b f : Nat → Int32} {wa : Int32} {lr : Value} {nd dg : Int32} {T N S C B O : Nat → Int32} {ch : Int32} {PC : Nat → Int32} {SF BF : Nat → Nat → Int32} {ps sc bc hh : Nat} {a2 b2 f2 : Nat → Int32} {wa2 : Int32} {lr2 : Value} {nd2 dg2 : Int32} {T2 N2 S2 C2 B2 O2 : Nat → Int32} {ch2 : Int32} {PC2 : Nat → Int32} {SF2 BF2 : Nat → Nat → Int32} {ps2 sc2 hh2 : Nat} {MX H D : Nat → Int32} (hps : ps ≤ 8) (hsc : sc ≤ 5) (hbc : bc ≤ 40) {T0 S0 C0 : Nat → Int32} {SF0 BF0 : Nat → Nat → Int32} {t0 : Nat} {r7 r8 r9 : Nat → Nat} {a7 a8 a9 a15 : Nat} {cm cd im : Int32} {LF : Nat → Int32} {nw : Int32} {c : Nat} {y17 y19 y20 y21 : Int32} (hc : c < 160) (K : V G (YL nm hd9) Z 9 (ck) (sk) 1574 [some (.ref G.2.2.2.1), some (.ref g0), some (.ref (v 0)), some (.int (nI sc)), some (.int (nI bc)), some (.int (nI t0)), none, some (.ref a7), some (.ref a8), some (.ref a9), none, none, some (.int cm), some (.int cd), some (.int im), some (.ref a15), some (.int nw), some (.int (y17)), some (.int (nI c)), some (.int (y19)), some (.int (y20)), some (.int (y21)), none, none, some (.int (bI (acB C0 c 160 = true))), none] [] (LawM g0 w u v xs bs a b f wa lr nd dg T N S C B O ch PC SF BF ps sc bc hh a2 b2 f2 wa2 lr2 nd2 dg2 T2 N2 S2 C2 B2 O2 ch2 PC2 SF2 BF2 ps2 sc2 hh2 MX H D ++ [eQ 5 a7 160 (fun j => some (r7 j)), eG r7 160 4 (tlC T0 N S0 C0 PC SF0 ps sc), eQ 5 a8 sc (fun j => some (r8 j)), eG r8 sc 9 (tlS SF0 BF0 bc), eQ 5 a9 bc (fun j => some (r9 j)), eG r9 bc 5 BF0, eI a15 160 LF])) : ∀ (m j : Nat), m + j = 160 → V G (YL nm hd9) Z 9 (ck) (sk) 1527 [some (.ref G.2.2.2.1), some (.ref g0), some (.ref (v 0)), some (.int (nI sc)), some (.int (nI bc)), some (.int (nI t0)), none, some (.ref a7), some (.ref a8), some (.ref a9), none, none, some (.int cm), some (.int cd), some (.int im), some (.ref a15), some (.int nw), some (.int (y17)), some (.int (nI c)), some (.int (y19)), some (.int (y20)), some (.int (y21)), none, none, some (.int (bI (acB C0 c j = true))), some (.int (nI j))] [] (LawM g0 w u v xs bs a b f wa lr nd dg T N S C B O ch PC SF BF ps sc bc hh a2 b2 f2 wa2 lr2 nd2 dg2 T2 N2 S2 C2 B2 O2 ch2 PC2 SF2 BF2 ps2 sc2 hh2 MX H D ++ [eQ 5 a7 160 (fun j => some (r7 j)), eG r7 160 4 (tlC T0 N S0 C0 PC SF0 ps sc), eQ 5 a8 sc (fun j => some (r8 j)), eG r8 sc 9 (tlS SF0 BF0 bc), eQ 5 a9 bc (fun j => some (r9 j)), eG r9 bc 5 BF0, eI a15 160 LF]) := by
  intro m
  induction m with
  | zero =>
    intro j hj
    refine v_iload (pc := 1527) dL_law_1527 rfl ?_
    refine v_sipush (pc := 1529) (v := 160) dL_law_1529 rfl ?_
    refine v_icmp_ge (pc := 1532) (tgt := 1574) dL_law_1532 (by decide) (fun c1532 => ?_) (fun c1532 => absurd (nI_le (a := 160) (b := j) (by omega) (by omega)) c1532)
    have c1532 : 160 ≤ j := (nI_leI (a := 160) (b := j) (by omega) (by omega)).mp c1532
    have hj9 : j = 160 := by omega
    rw [hj9]
    refine v_sub ?_ K
    exact ⟨rfl, rfl, rfl, rfl, rfl, rfl, rfl, rfl, rfl, rfl, rfl, rfl, rfl, rfl, rfl, rfl, rfl, rfl, rfl, rfl, trivial⟩
  | succ m ih =>
    intro j hj
    refine v_iload (pc := 1527) dL_law_1527 rfl ?_
    refine v_sipush (pc := 1529) (v := 160) dL_law_1529 rfl ?_
    refine v_icmp_ge (pc := 1532) (tgt := 1574) dL_law_1532 (by decide) (fun c1532 => absurd c1532 (nI_ge (a := j) (b := 160) (by omega) (by omega))) (fun c1532 => ?_)
    have c1532 : ¬ 160 ≤ j := fun h => c1532 ((nI_leI (a := 160) (b := j) (by omega) (by omega)).mpr h)
    refine v_iload (pc := 1535) dL_law_1535 rfl ?_
    refine v_if_ne (pc := 1537) (tgt := 1561) dL_law_1537 (by decide) (fun c1537 => ?_) (fun c1537 => ?_)
    · refine v_iconst (pc := 1561) (v := 1) dL_law_1561 rfl ?_
      refine v_goto (pc := 1562) (tgt := 1566) dL_law_1562 (by decide) ?_
      refine v_istore (pc := 1566) dL_law_1566 (by show _ < 26; decide) rfl ?_
      have es : bI (acB C0 c (j + 1) = true) = 1 := bI_t (acs_t (bI_n.mp c1537))
      refine v_iinc (pc := 1568) (v := nI (j + 1)) dL_law_1568 rfl (nI_1 _) (by show _ < 26; decide) rfl ?_
      refine v_goto (pc := 1571) (tgt := 1527) dL_law_1571 (by decide) ?_
      have k9 := ih (j + 1) (by omega)
      rw [es] at k9
      refine v_sub ?_ k9
      exact ⟨rfl, rfl, rfl, rfl, rfl, rfl, rfl, rfl, rfl, rfl, rfl, rfl, rfl, rfl, rfl, rfl, rfl, rfl, rfl, rfl, rfl, trivial⟩
    · refine v_aloadR (pc := 1540) dL_law_1540 rfl ?_
      refine v_iload (pc := 1542) dL_law_1542 rfl ?_
      refine v_aaldS (pc := 1544) 48 (k := j) (by decide) rfl (by omega) (by omega) dL_law_1544 ?_
      refine v_iconst (pc := 1545) (v := 3) dL_law_1545 rfl ?_
      refine v_ialdGN (pc := 1546) 49 (j := 3) rfl (by omega) (by decide) (by decide) dL_law_1546 ?_
      try dsimp only [wb, tlS_0, tlS_1, tlS_2, tlS_3, tlS_4, tlS_5, tlS_6, tlS_7, tlS_8, tlC_0, tlC_1, tlC_2, tlC_3, LawM, LakeM, WaysM, WorldM, SimM, List.set_cons_succ, List.set_cons_zero, List.append_nil, List.nil_append, List.cons_append, Option.toList, Nat.sub_zero]
      refine v_iconst (pc := 1547) (v := 1) dL_law_1547 rfl ?_
      refine v_icmp_ne (pc := 1548) (tgt := 1565) dL_law_1548 (by decide) (fun c1548 => ?_) (fun c1548 => ?_)
      · refine v_iconst (pc := 1565) (v := 0) dL_law_1565 rfl ?_
        refine v_istore (pc := 1566) dL_law_1566 (by show _ < 26; decide) rfl ?_
        have es : bI (acB C0 c (j + 1) = true) = 0 := bI_f (acs_n (bI_0.mp c1537) (fun q => c1548 (bI_t q.2)))
        refine v_iinc (pc := 1568) (v := nI (j + 1)) dL_law_1568 rfl (nI_1 _) (by show _ < 26; decide) rfl ?_
        refine v_goto (pc := 1571) (tgt := 1527) dL_law_1571 (by decide) ?_
        have k9 := ih (j + 1) (by omega)
        rw [es] at k9
        refine v_sub ?_ k9
        exact ⟨rfl, rfl, rfl, rfl, rfl, rfl, rfl, rfl, rfl, rfl, rfl, rfl, rfl, rfl, rfl, rfl, rfl, rfl, rfl, rfl, rfl, trivial⟩
      · refine v_iload (pc := 1551) dL_law_1551 rfl ?_
        refine v_iload (pc := 1553) dL_law_1553 rfl ?_
        refine v_callS2 (pc := 1555) (c_X6_areBeside hc (by omega)) cm_X6_areBeside q571 q572 [] (by rfl) (by decide) (fun _ _ h => h) (by omega) (by omega) (by decide) (Nat.le_of_ble_eq_true rfl) dL_law_1555 (fun v1555 M1555 hQ1555 => ?_)
        obtain ⟨rfl, rfl⟩ := hQ1555
        try dsimp only [wb, tlS_0, tlS_1, tlS_2, tlS_3, tlS_4, tlS_5, tlS_6, tlS_7, tlS_8, tlC_0, tlC_1, tlC_2, tlC_3, LawM, LakeM, WaysM, WorldM, SimM, List.set_cons_succ, List.set_cons_zero, List.append_nil, List.nil_append, List.cons_append, Option.toList, Nat.sub_zero]
        refine v_if_eq (pc := 1558) (tgt := 1565) dL_law_1558 (by decide) (fun c1558 => ?_) (fun c1558 => ?_)
        · have c1558 := bI_0.mp c1558
          refine v_iconst (pc := 1565) (v := 0) dL_law_1565 rfl ?_
          refine v_istore (pc := 1566) dL_law_1566 (by show _ < 26; decide) rfl ?_
          have es : bI (acB C0 c (j + 1) = true) = 0 := bI_f (acs_n (bI_0.mp c1537) (fun q => c1558 q.1))
          refine v_iinc (pc := 1568) (v := nI (j + 1)) dL_law_1568 rfl (nI_1 _) (by show _ < 26; decide) rfl ?_
          refine v_goto (pc := 1571) (tgt := 1527) dL_law_1571 (by decide) ?_
          have k9 := ih (j + 1) (by omega)
          rw [es] at k9
          refine v_sub ?_ k9
          exact ⟨rfl, rfl, rfl, rfl, rfl, rfl, rfl, rfl, rfl, rfl, rfl, rfl, rfl, rfl, rfl, rfl, rfl, rfl, rfl, rfl, rfl, trivial⟩
        · have c1558 := bI_n.mp c1558
          refine v_iconst (pc := 1561) (v := 1) dL_law_1561 rfl ?_
          refine v_goto (pc := 1562) (tgt := 1566) dL_law_1562 (by decide) ?_
          refine v_istore (pc := 1566) dL_law_1566 (by show _ < 26; decide) rfl ?_
          have es : bI (acB C0 c (j + 1) = true) = 1 := bI_t (acs_y c1558 (bI_n.mp (by rw [c1548]; decide)))
          refine v_iinc (pc := 1568) (v := nI (j + 1)) dL_law_1568 rfl (nI_1 _) (by show _ < 26; decide) rfl ?_
          refine v_goto (pc := 1571) (tgt := 1527) dL_law_1571 (by decide) ?_
          have k9 := ih (j + 1) (by omega)
          rw [es] at k9
          refine v_sub ?_ k9
          exact ⟨rfl, rfl, rfl, rfl, rfl, rfl, rfl, rfl, rfl, rfl, rfl, rfl, rfl, rfl, rfl, rfl, rfl, rfl, rfl, rfl, rfl, trivial⟩
set_option maxRecDepth 100000 in
set_option maxHeartbeats 4000000 in
theorem lw_cl {G : Cx} {nm : String} {hd9 : List (Nat × Nat × Nat × Nat)} {Z : ZT} {ck sk : Nat} {g0 : Nat} {w u v xs bs : Nat → Nat} {a b f : Nat → Int32} {wa : Int32} {lr : Value} {nd dg : Int32} {T N S C B O : Nat → Int32} {ch : Int32} {PC : Nat → Int32} {SF BF : Nat → Nat → Int32} {ps sc bc hh : Nat} {a2 b2 f2 : Nat → Int32} {wa2 : Int32} {lr2 : Value} {nd2 dg2 : Int32} {T2 N2 S2 C2 B2 O2 : Nat → Int32} {ch2 : Int32} {PC2 : Nat → Int32} {SF2 BF2 : Nat → Nat → Int32} {ps2 sc2 hh2 : Nat} {MX H D : Nat → Int32} (hps : ps ≤ 8) (hsc : sc ≤ 5) (hbc : bc ≤ 40) {T0 S0 C0 : Nat → Int32} {ch0 : Int32} {SF0 BF0 : Nat → Nat → Int32} {MX0 : Nat → Int32} {B0 B1 t0 : Nat} {r7 r8 r9 : Nat → Nat} {a7 a8 a9 a15 wo : Nat} {sn cm cd im : Int32} {LF : Nat → Int32} {nw : Int32} (hS0 : sTK S0) (fC : ∀ c, c < 160 → clF t0 cd T0 S0 C0 T S C (fb_ct (lfB SF0 SF c) sc) c) (hL : (∀ c, c < 160 → LF c = nI (fb_ct (lfB SF0 SF c) sc))) (hm1 : ¬ im = 0 → t0 % 24 = 0) (hm0 : im = 0 → ¬ t0 % 24 = 0) (K : V G (YL nm hd9) Z 9 (ck) (sk) 1640 [some (.ref G.2.2.2.1), some (.ref g0), some (.ref (v 0)), some (.int (nI sc)), some (.int (nI bc)), some (.int (nI t0)), none, some (.ref a7), some (.ref a8), some (.ref a9), none, none, some (.int cm), some (.int cd), some (.int im), some (.ref a15), some (.int nw), some (.int ((sumN (fun j => bI (¬ C j = 0)) 160))), none, none, none, none, none, none, none, none] [] (LawM g0 w u v xs bs a b f wa lr nd dg T N S C B O ch PC SF BF ps sc bc hh a2 b2 f2 wa2 lr2 nd2 dg2 T2 N2 S2 C2 B2 O2 ch2 PC2 SF2 BF2 ps2 sc2 hh2 MX H D ++ [eQ 5 a7 160 (fun j => some (r7 j)), eG r7 160 4 (tlC T0 N S0 C0 PC SF0 ps sc), eQ 5 a8 sc (fun j => some (r8 j)), eG r8 sc 9 (tlS SF0 BF0 bc), eQ 5 a9 bc (fun j => some (r9 j)), eG r9 bc 5 BF0, eI a15 160 LF])) : ∀ (m i : Nat), m + i = 160 → V G (YL nm hd9) Z 9 (ck + 4 * m) (sk + 24 * m) 1215 [some (.ref G.2.2.2.1), some (.ref g0), some (.ref (v 0)), some (.int (nI sc)), some (.int (nI bc)), some (.int (nI t0)), none, some (.ref a7), some (.ref a8), some (.ref a9), none, none, some (.int cm), some (.int cd), some (.int im), some (.ref a15), some (.int nw), some (.int ((sumN (fun j => bI (¬ C j = 0)) i))), some (.int (nI i)), none, none, none, none, none, none, none] [] (LawM g0 w u v xs bs a b f wa lr nd dg T N S C B O ch PC SF BF ps sc bc hh a2 b2 f2 wa2 lr2 nd2 dg2 T2 N2 S2 C2 B2 O2 ch2 PC2 SF2 BF2 ps2 sc2 hh2 MX H D ++ [eQ 5 a7 160 (fun j => some (r7 j)), eG r7 160 4 (tlC T0 N S0 C0 PC SF0 ps sc), eQ 5 a8 sc (fun j => some (r8 j)), eG r8 sc 9 (tlS SF0 BF0 bc), eQ 5 a9 bc (fun j => some (r9 j)), eG r9 bc 5 BF0, eI a15 160 LF]) := by
  intro m
  induction m with
  | zero =>
    intro i him
    refine v_iload (pc := 1215) dL_law_1215 rfl ?_
    refine v_sipush (pc := 1217) (v := 160) dL_law_1217 rfl ?_
    refine v_icmp_ge (pc := 1220) (tgt := 1640) dL_law_1220 (by decide) (fun c1220 => ?_) (fun c1220 => absurd (nI_le (a := 160) (b := i) (by omega) (by omega)) c1220)
    have c1220 : 160 ≤ i := (nI_leI (a := 160) (b := i) (by omega) (by omega)).mp c1220
    have hi9 : i = 160 := by omega
    rw [hi9]
    refine v_room (ck' := ck) (sk' := sk) (by omega) (by omega) ?_
    refine v_sub ?_ K
    exact ⟨rfl, rfl, rfl, rfl, rfl, rfl, rfl, rfl, rfl, rfl, rfl, rfl, rfl, rfl, rfl, trivial⟩
  | succ m ih =>
    intro i him
    have hi : i < 160 := by omega
    obtain ⟨h1, h2, h3, h4, h5, h6, h7, h8, h9⟩ := fC i hi
    have hb0 := bas_nn (hh := t0) (f := cd) (S := S0) (c := i) (hS0 i hi).1
    have hL9 := hL i hi
    have hn5 : fb_ct (lfB SF0 SF i) sc ≤ 5 := Nat.le_trans (fb_ct_le _ sc) hsc
    generalize fb_ct (lfB SF0 SF i) sc = n9 at h6 h9 hL9 hn5
    have K1574 : V G (YL nm hd9) Z 9 (ck + 4 * m) (sk + 24 * m) 1574 [some (.ref G.2.2.2.1), some (.ref g0), some (.ref (v 0)), some (.int (nI sc)), some (.int (nI bc)), some (.int (nI t0)), none, some (.ref a7), some (.ref a8), some (.ref a9), none, none, some (.int cm), some (.int cd), some (.int im), some (.ref a15), some (.int nw), some (.int ((sumN (fun j => bI (¬ C j = 0)) i))), some (.int (nI i)), some (.int (T i)), some (.int (S i)), some (.int (bI (¬ C i = 0))), none, none, some (.int (bI (acB C0 i 160 = true))), none] [] (LawM g0 w u v xs bs a b f wa lr nd dg T N S C B O ch PC SF BF ps sc bc hh a2 b2 f2 wa2 lr2 nd2 dg2 T2 N2 S2 C2 B2 O2 ch2 PC2 SF2 BF2 ps2 sc2 hh2 MX H D ++ [eQ 5 a7 160 (fun j => some (r7 j)), eG r7 160 4 (tlC T0 N S0 C0 PC SF0 ps sc), eQ 5 a8 sc (fun j => some (r8 j)), eG r8 sc 9 (tlS SF0 BF0 bc), eQ 5 a9 bc (fun j => some (r9 j)), eG r9 bc 5 BF0, eI a15 160 LF]) := by
      refine v_iload (pc := 1574) dL_law_1574 rfl ?_
      refine v_aloadR (pc := 1576) dL_law_1576 rfl ?_
      refine v_iload (pc := 1578) dL_law_1578 rfl ?_
      refine v_aaldS (pc := 1580) 48 (k := i) (by decide) rfl (by omega) (by omega) dL_law_1580 ?_
      refine v_iconst (pc := 1581) (v := 3) dL_law_1581 rfl ?_
      refine v_ialdGN (pc := 1582) 49 (j := 3) rfl (by omega) (by decide) (by decide) dL_law_1582 ?_
      try dsimp only [wb, tlS_0, tlS_1, tlS_2, tlS_3, tlS_4, tlS_5, tlS_6, tlS_7, tlS_8, tlC_0, tlC_1, tlC_2, tlC_3, LawM, LakeM, WaysM, WorldM, SimM, List.set_cons_succ, List.set_cons_zero, List.append_nil, List.nil_append, List.cons_append, Option.toList, Nat.sub_zero]
      refine v_icmp_le (pc := 1583) (tgt := 1627) dL_law_1583 (by decide) (fun c1583 => ?_) (fun c1583 => ?_)
      · refine v_iload (pc := 1627) dL_law_1627 rfl ?_
        refine v_iload (pc := 1629) dL_law_1629 rfl ?_
        refine v_iadd (pc := 1631) dL_law_1631 ?_
        refine v_istore (pc := 1632) dL_law_1632 (by show _ < 26; decide) rfl ?_
        refine v_iinc (pc := 1634) (v := nI (i + 1)) dL_law_1634 rfl (nI_1 _) (by show _ < 26; decide) rfl ?_
        refine v_goto (pc := 1637) (tgt := 1215) dL_law_1637 (by decide) ?_
        have k9 := ih (i + 1) (by omega)
        refine v_sub ?_ k9
        exact ⟨rfl, rfl, rfl, rfl, rfl, rfl, rfl, rfl, rfl, rfl, rfl, rfl, rfl, rfl, rfl, rfl, trivial⟩
      · refine v_iload (pc := 1586) dL_law_1586 rfl ?_
        refine v_iconst (pc := 1588) (v := 3) dL_law_1588 rfl ?_
        refine v_icmp_lt (pc := 1589) (tgt := 1600) dL_law_1589 (by decide) (fun c1589 => ?_) (fun c1589 => ?_)
        · have hC1 : ¬ C i = 0 := fun q => c1583 (by rw [bI_f (fun q9 => q9 q)]; exact bI_mono (P := False) (fun q9 => q9.elim))
          have hC0 : C0 i = 0 := Classical.byContradiction (fun q => c1583 (by rw [bI_t q, bI_t hC1]; decide))
          obtain ⟨k1, k2, ⟨o9, k3, k4, k5⟩, k6⟩ := (h9 hC0 hC1).resolve_left (fun q => absurd c1589 (Int32.not_lt.mpr (i_le.mpr (by rw [show (3 : Int32).toInt = 3 by decide]; exact q.1))))
          refine v_iload (pc := 1600) dL_law_1600 rfl ?_
          refine v_if_eq (pc := 1602) (tgt := 1625) dL_law_1602 (by decide) (fun c1602 => absurd k1 (hm0 c1602)) (fun c1602 => ?_)
          refine v_iload (pc := 1605) dL_law_1605 rfl ?_
          refine v_if_ge (pc := 1607) (tgt := 1625) dL_law_1607 (by decide) (fun c1607 => absurd k2 (Int32.not_lt.mpr c1607)) (fun c1607 => ?_)
          refine v_iload (pc := 1610) dL_law_1610 rfl ?_
          refine v_if_eq (pc := 1612) (tgt := 1625) dL_law_1612 (by decide) (fun c1612 => absurd ((acB_iff 160).mpr ⟨o9, k3, k5, k4⟩) (bI_0.mp c1612)) (fun c1612 => ?_)
          refine v_aloadR (pc := 1615) dL_law_1615 rfl ?_
          refine v_iload (pc := 1617) dL_law_1617 rfl ?_
          refine v_aaldS (pc := 1619) 48 (k := i) (by decide) rfl (by omega) (by omega) dL_law_1619 ?_
          refine v_iconst (pc := 1620) (v := 2) dL_law_1620 rfl ?_
          refine v_ialdGN (pc := 1621) 49 (j := 2) rfl (by omega) (by decide) (by decide) dL_law_1621 ?_
          try dsimp only [wb, tlS_0, tlS_1, tlS_2, tlS_3, tlS_4, tlS_5, tlS_6, tlS_7, tlS_8, tlC_0, tlC_1, tlC_2, tlC_3, LawM, LakeM, WaysM, WorldM, SimM, List.set_cons_succ, List.set_cons_zero, List.append_nil, List.nil_append, List.cons_append, Option.toList, Nat.sub_zero]
          refine v_if_gt (pc := 1622) (tgt := 1627) dL_law_1622 (by decide) (fun c1622 => ?_) (fun c1622 => absurd (i_lt.mpr (by rw [i_le, i_1] at k6; rw [i_0]; omega)) c1622)
          refine v_iload (pc := 1627) dL_law_1627 rfl ?_
          refine v_iload (pc := 1629) dL_law_1629 rfl ?_
          refine v_iadd (pc := 1631) dL_law_1631 ?_
          refine v_istore (pc := 1632) dL_law_1632 (by show _ < 26; decide) rfl ?_
          refine v_iinc (pc := 1634) (v := nI (i + 1)) dL_law_1634 rfl (nI_1 _) (by show _ < 26; decide) rfl ?_
          refine v_goto (pc := 1637) (tgt := 1215) dL_law_1637 (by decide) ?_
          have k9 := ih (i + 1) (by omega)
          refine v_sub ?_ k9
          exact ⟨rfl, rfl, rfl, rfl, rfl, rfl, rfl, rfl, rfl, rfl, rfl, rfl, rfl, rfl, rfl, rfl, trivial⟩
        · refine v_aloadR (pc := 1592) dL_law_1592 rfl ?_
          refine v_iload (pc := 1594) dL_law_1594 rfl ?_
          refine v_ialdN (pc := 1596) 54 (k := i) rfl (by omega) (by omega) dL_law_1596 ?_
          rw [hL9]
          refine v_if_gt (pc := 1597) (tgt := 1627) dL_law_1597 (by decide) (fun c1597 => ?_) (fun c1597 => ?_)
          · have c1597 : 0 < n9 := (nI_ltI (a := 0) (b := n9) (by omega) (by omega)).mp c1597
            refine v_iload (pc := 1627) dL_law_1627 rfl ?_
            refine v_iload (pc := 1629) dL_law_1629 rfl ?_
            refine v_iadd (pc := 1631) dL_law_1631 ?_
            refine v_istore (pc := 1632) dL_law_1632 (by show _ < 26; decide) rfl ?_
            refine v_iinc (pc := 1634) (v := nI (i + 1)) dL_law_1634 rfl (nI_1 _) (by show _ < 26; decide) rfl ?_
            refine v_goto (pc := 1637) (tgt := 1215) dL_law_1637 (by decide) ?_
            have k9 := ih (i + 1) (by omega)
            refine v_sub ?_ k9
            exact ⟨rfl, rfl, rfl, rfl, rfl, rfl, rfl, rfl, rfl, rfl, rfl, rfl, rfl, rfl, rfl, rfl, trivial⟩
          · have c1597 : ¬ 0 < n9 := fun h => c1597 ((nI_ltI (a := 0) (b := n9) (by omega) (by omega)).mpr h)
            have hC1 : ¬ C i = 0 := fun q => c1583 (by rw [bI_f (fun q9 => q9 q)]; exact bI_mono (P := False) (fun q9 => q9.elim))
            have hC0 : C0 i = 0 := Classical.byContradiction (fun q => c1583 (by rw [bI_t q, bI_t hC1]; decide))
            obtain ⟨k1, k2, ⟨o9, k3, k4, k5⟩, k6⟩ := (h9 hC0 hC1).resolve_left (fun q => c1597 q.2)
            refine v_iload (pc := 1600) dL_law_1600 rfl ?_
            refine v_if_eq (pc := 1602) (tgt := 1625) dL_law_1602 (by decide) (fun c1602 => absurd k1 (hm0 c1602)) (fun c1602 => ?_)
            refine v_iload (pc := 1605) dL_law_1605 rfl ?_
            refine v_if_ge (pc := 1607) (tgt := 1625) dL_law_1607 (by decide) (fun c1607 => absurd k2 (Int32.not_lt.mpr c1607)) (fun c1607 => ?_)
            refine v_iload (pc := 1610) dL_law_1610 rfl ?_
            refine v_if_eq (pc := 1612) (tgt := 1625) dL_law_1612 (by decide) (fun c1612 => absurd ((acB_iff 160).mpr ⟨o9, k3, k5, k4⟩) (bI_0.mp c1612)) (fun c1612 => ?_)
            refine v_aloadR (pc := 1615) dL_law_1615 rfl ?_
            refine v_iload (pc := 1617) dL_law_1617 rfl ?_
            refine v_aaldS (pc := 1619) 48 (k := i) (by decide) rfl (by omega) (by omega) dL_law_1619 ?_
            refine v_iconst (pc := 1620) (v := 2) dL_law_1620 rfl ?_
            refine v_ialdGN (pc := 1621) 49 (j := 2) rfl (by omega) (by decide) (by decide) dL_law_1621 ?_
            try dsimp only [wb, tlS_0, tlS_1, tlS_2, tlS_3, tlS_4, tlS_5, tlS_6, tlS_7, tlS_8, tlC_0, tlC_1, tlC_2, tlC_3, LawM, LakeM, WaysM, WorldM, SimM, List.set_cons_succ, List.set_cons_zero, List.append_nil, List.nil_append, List.cons_append, Option.toList, Nat.sub_zero]
            refine v_if_gt (pc := 1622) (tgt := 1627) dL_law_1622 (by decide) (fun c1622 => ?_) (fun c1622 => absurd (i_lt.mpr (by rw [i_le, i_1] at k6; rw [i_0]; omega)) c1622)
            refine v_iload (pc := 1627) dL_law_1627 rfl ?_
            refine v_iload (pc := 1629) dL_law_1629 rfl ?_
            refine v_iadd (pc := 1631) dL_law_1631 ?_
            refine v_istore (pc := 1632) dL_law_1632 (by show _ < 26; decide) rfl ?_
            refine v_iinc (pc := 1634) (v := nI (i + 1)) dL_law_1634 rfl (nI_1 _) (by show _ < 26; decide) rfl ?_
            refine v_goto (pc := 1637) (tgt := 1215) dL_law_1637 (by decide) ?_
            have k9 := ih (i + 1) (by omega)
            refine v_sub ?_ k9
            exact ⟨rfl, rfl, rfl, rfl, rfl, rfl, rfl, rfl, rfl, rfl, rfl, rfl, rfl, rfl, rfl, rfl, trivial⟩
    refine v_iload (pc := 1215) dL_law_1215 rfl ?_
    refine v_sipush (pc := 1217) (v := 160) dL_law_1217 rfl ?_
    refine v_icmp_ge (pc := 1220) (tgt := 1640) dL_law_1220 (by decide) (fun c1220 => absurd c1220 (nI_ge (a := i) (b := 160) (by omega) (by omega))) (fun c1220 => ?_)
    have c1220 : ¬ 160 ≤ i := fun h => c1220 ((nI_leI (a := 160) (b := i) (by omega) (by omega)).mpr h)
    refine v_aload_nR (pc := 1223) dL_law_1223 rfl rfl ?_
    refine v_iload (pc := 1224) dL_law_1224 rfl ?_
    refine v_bipush (pc := 1226) (v := 16) dL_law_1226 rfl ?_
    refine v_irem (pc := 1228) dL_law_1228 (by decide) ?_
    rw [show nI i - nI i / 16 * 16 = nI (i % 16) from pk_rem (d := 16) (by omega) (by decide) (by decide)]
    refine v_iload (pc := 1229) dL_law_1229 rfl ?_
    refine v_bipush (pc := 1231) (v := 16) dL_law_1231 rfl ?_
    refine v_idiv (pc := 1233) dL_law_1233 (by decide) ?_
    rw [show nI i / 16 = nI (i / 16) from pk_div (d := 16) (by omega) (by decide) (by decide)]
    refine v_iconst (pc := 1234) (v := 0) dL_law_1234 rfl ?_
    refine v_callV3 (pc := 1235) (c7_cell hps hsc hbc (c := i) (e9 := 0) hi (by decide)) cm_X5_cell q207 q208 q209 (ci := 5) rfl rfl (orcO 0 rfl) [0, 1, 2, 3, 4, 5, 6, 7, 8, 9, 10, 11, 12, 13, 14, 15, 16, 17] (by rfl) (by decide) (fun _ _ h => h) (by omega) (by omega) (by decide) (Nat.le_of_ble_eq_true rfl) dL_law_1235 (fun v1235 M1235 hQ1235 => ?_)
    obtain ⟨rfl, rfl⟩ := hQ1235
    try dsimp only [wb, tlS_0, tlS_1, tlS_2, tlS_3, tlS_4, tlS_5, tlS_6, tlS_7, tlS_8, tlC_0, tlC_1, tlC_2, tlC_3, LawM, LakeM, WaysM, WorldM, SimM, List.set_cons_succ, List.set_cons_zero, List.append_nil, List.nil_append, List.cons_append, Option.toList, Nat.sub_zero]
    refine v_istore (pc := 1238) dL_law_1238 (by show _ < 26; decide) rfl ?_
    refine v_aload_nR (pc := 1240) dL_law_1240 rfl rfl ?_
    refine v_iload (pc := 1241) dL_law_1241 rfl ?_
    refine v_bipush (pc := 1243) (v := 16) dL_law_1243 rfl ?_
    refine v_irem (pc := 1245) dL_law_1245 (by decide) ?_
    rw [show nI i - nI i / 16 * 16 = nI (i % 16) from pk_rem (d := 16) (by omega) (by decide) (by decide)]
    refine v_iload (pc := 1246) dL_law_1246 rfl ?_
    refine v_bipush (pc := 1248) (v := 16) dL_law_1248 rfl ?_
    refine v_idiv (pc := 1250) dL_law_1250 (by decide) ?_
    rw [show nI i / 16 = nI (i / 16) from pk_div (d := 16) (by omega) (by decide) (by decide)]
    refine v_iconst (pc := 1251) (v := 2) dL_law_1251 rfl ?_
    refine v_callV3 (pc := 1252) (c7_cell hps hsc hbc (c := i) (e9 := 2) hi (by decide)) cm_X5_cell q207 q208 q209 (ci := 5) rfl rfl (orcO 0 rfl) [0, 1, 2, 3, 4, 5, 6, 7, 8, 9, 10, 11, 12, 13, 14, 15, 16, 17] (by rfl) (by decide) (fun _ _ h => h) (by omega) (by omega) (by decide) (Nat.le_of_ble_eq_true rfl) dL_law_1252 (fun v1252 M1252 hQ1252 => ?_)
    obtain ⟨rfl, rfl⟩ := hQ1252
    try dsimp only [wb, tlS_0, tlS_1, tlS_2, tlS_3, tlS_4, tlS_5, tlS_6, tlS_7, tlS_8, tlC_0, tlC_1, tlC_2, tlC_3, LawM, LakeM, WaysM, WorldM, SimM, List.set_cons_succ, List.set_cons_zero, List.append_nil, List.nil_append, List.cons_append, Option.toList, Nat.sub_zero]
    refine v_istore (pc := 1255) dL_law_1255 (by show _ < 26; decide) rfl ?_
    refine v_aload_nR (pc := 1257) dL_law_1257 rfl rfl ?_
    refine v_iload (pc := 1258) dL_law_1258 rfl ?_
    refine v_bipush (pc := 1260) (v := 16) dL_law_1260 rfl ?_
    refine v_irem (pc := 1262) dL_law_1262 (by decide) ?_
    rw [show nI i - nI i / 16 * 16 = nI (i % 16) from pk_rem (d := 16) (by omega) (by decide) (by decide)]
    refine v_iload (pc := 1263) dL_law_1263 rfl ?_
    refine v_bipush (pc := 1265) (v := 16) dL_law_1265 rfl ?_
    refine v_idiv (pc := 1267) dL_law_1267 (by decide) ?_
    rw [show nI i / 16 = nI (i / 16) from pk_div (d := 16) (by omega) (by decide) (by decide)]
    refine v_iconst (pc := 1268) (v := 3) dL_law_1268 rfl ?_
    refine v_callV3 (pc := 1269) (c7_cell hps hsc hbc (c := i) (e9 := 3) hi (by decide)) cm_X5_cell q207 q208 q209 (ci := 5) rfl rfl (orcO 0 rfl) [0, 1, 2, 3, 4, 5, 6, 7, 8, 9, 10, 11, 12, 13, 14, 15, 16, 17] (by rfl) (by decide) (fun _ _ h => h) (by omega) (by omega) (by decide) (Nat.le_of_ble_eq_true rfl) dL_law_1269 (fun v1269 M1269 hQ1269 => ?_)
    obtain ⟨rfl, rfl⟩ := hQ1269
    try dsimp only [wb, tlS_0, tlS_1, tlS_2, tlS_3, tlS_4, tlS_5, tlS_6, tlS_7, tlS_8, tlC_0, tlC_1, tlC_2, tlC_3, LawM, LakeM, WaysM, WorldM, SimM, List.set_cons_succ, List.set_cons_zero, List.append_nil, List.nil_append, List.cons_append, Option.toList, Nat.sub_zero]
    refine v_istore (pc := 1272) dL_law_1272 (by show _ < 26; decide) rfl ?_
    refine v_aload_nR (pc := 1274) dL_law_1274 rfl rfl ?_
    refine v_iload (pc := 1275) dL_law_1275 rfl ?_
    refine v_bipush (pc := 1277) (v := 16) dL_law_1277 rfl ?_
    refine v_irem (pc := 1279) dL_law_1279 (by decide) ?_
    rw [show nI i - nI i / 16 * 16 = nI (i % 16) from pk_rem (d := 16) (by omega) (by decide) (by decide)]
    refine v_iload (pc := 1280) dL_law_1280 rfl ?_
    refine v_bipush (pc := 1282) (v := 16) dL_law_1282 rfl ?_
    refine v_idiv (pc := 1284) dL_law_1284 (by decide) ?_
    rw [show nI i / 16 = nI (i / 16) from pk_div (d := 16) (by omega) (by decide) (by decide)]
    refine v_iconst (pc := 1285) (v := 1) dL_law_1285 rfl ?_
    refine v_callV3 (pc := 1286) (c7_cell hps hsc hbc (c := i) (e9 := 1) hi (by decide)) cm_X5_cell q207 q208 q209 (ci := 5) rfl rfl (orcO 0 rfl) [0, 1, 2, 3, 4, 5, 6, 7, 8, 9, 10, 11, 12, 13, 14, 15, 16, 17] (by rfl) (by decide) (fun _ _ h => h) (by omega) (by omega) (by decide) (Nat.le_of_ble_eq_true rfl) dL_law_1286 (fun v1286 M1286 hQ1286 => ?_)
    obtain ⟨rfl, rfl⟩ := hQ1286
    try dsimp only [wb, tlS_0, tlS_1, tlS_2, tlS_3, tlS_4, tlS_5, tlS_6, tlS_7, tlS_8, tlC_0, tlC_1, tlC_2, tlC_3, LawM, LakeM, WaysM, WorldM, SimM, List.set_cons_succ, List.set_cons_zero, List.append_nil, List.nil_append, List.cons_append, Option.toList, Nat.sub_zero]
    refine v_aloadR (pc := 1289) dL_law_1289 rfl ?_
    refine v_iload (pc := 1291) dL_law_1291 rfl ?_
    refine v_aaldS (pc := 1293) 48 (k := i) (by decide) rfl (by omega) (by omega) dL_law_1293 ?_
    refine v_iconst (pc := 1294) (v := 1) dL_law_1294 rfl ?_
    refine v_ialdGN (pc := 1295) 49 (j := 1) rfl (by omega) (by decide) (by decide) dL_law_1295 ?_
    try dsimp only [wb, tlS_0, tlS_1, tlS_2, tlS_3, tlS_4, tlS_5, tlS_6, tlS_7, tlS_8, tlC_0, tlC_1, tlC_2, tlC_3, LawM, LakeM, WaysM, WorldM, SimM, List.set_cons_succ, List.set_cons_zero, List.append_nil, List.nil_append, List.cons_append, Option.toList, Nat.sub_zero]
    refine v_icmp_ne (pc := 1296) (tgt := 1354) dL_law_1296 (by decide) (fun c1296 => absurd rfl c1296) (fun c1296 => ?_)
    refine v_iload (pc := 1299) dL_law_1299 rfl ?_
    refine v_sipush (pc := 1301) (v := 200) dL_law_1301 rfl ?_
    refine v_icmp_gt (pc := 1304) (tgt := 1354) dL_law_1304 (by decide) (fun c1304 => absurd c1304 (Int32.not_lt.mpr h1.2)) (fun c1304 => ?_)
    refine v_iload (pc := 1307) dL_law_1307 rfl ?_
    refine v_iconst (pc := 1309) (v := -1) dL_law_1309 rfl ?_
    refine v_icmp_lt (pc := 1310) (tgt := 1354) dL_law_1310 (by decide) (fun c1310 => absurd c1310 (Int32.not_lt.mpr h1.1)) (fun c1310 => ?_)
    refine v_iload (pc := 1313) dL_law_1313 rfl ?_
    refine v_if_ge (pc := 1315) (tgt := 1322) dL_law_1315 (by decide) (fun c1315 => ?_) (fun c1315 => ?_)
    · refine v_iconst (pc := 1322) (v := 0) dL_law_1322 rfl ?_
      refine v_aloadR (pc := 1323) dL_law_1323 rfl ?_
      refine v_iload (pc := 1325) dL_law_1325 rfl ?_
      refine v_aaldS (pc := 1327) 48 (k := i) (by decide) rfl (by omega) (by omega) dL_law_1327 ?_
      refine v_iconst (pc := 1328) (v := 0) dL_law_1328 rfl ?_
      refine v_ialdGN (pc := 1329) 49 (j := 0) rfl (by omega) (by decide) (by decide) dL_law_1329 ?_
      try dsimp only [wb, tlS_0, tlS_1, tlS_2, tlS_3, tlS_4, tlS_5, tlS_6, tlS_7, tlS_8, tlC_0, tlC_1, tlC_2, tlC_3, LawM, LakeM, WaysM, WorldM, SimM, List.set_cons_succ, List.set_cons_zero, List.append_nil, List.nil_append, List.cons_append, Option.toList, Nat.sub_zero]
      refine v_if_ge (pc := 1330) (tgt := 1337) dL_law_1330 (by decide) (fun c1330 => ?_) (fun c1330 => absurd (h2.mpr (Int32.not_le.mp c1330)) (Int32.not_lt.mpr c1315))
      refine v_iconst (pc := 1337) (v := 0) dL_law_1337 rfl ?_
      refine v_icmp_ne (pc := 1338) (tgt := 1354) dL_law_1338 (by decide) (fun c1338 => absurd c1338 (by decide)) (fun c1338 => ?_)
      refine v_iload (pc := 1341) dL_law_1341 rfl ?_
      refine v_if_ge (pc := 1343) (tgt := 1356) dL_law_1343 (by decide) (fun c1343 => ?_) (fun c1343 => absurd c1315 c1343)
      refine v_aloadR (pc := 1356) dL_law_1356 rfl ?_
      refine v_iload (pc := 1358) dL_law_1358 rfl ?_
      refine v_aaldS (pc := 1360) 48 (k := i) (by decide) rfl (by omega) (by omega) dL_law_1360 ?_
      refine v_iconst (pc := 1361) (v := 0) dL_law_1361 rfl ?_
      refine v_ialdGN (pc := 1362) 49 (j := 0) rfl (by omega) (by decide) (by decide) dL_law_1362 ?_
      try dsimp only [wb, tlS_0, tlS_1, tlS_2, tlS_3, tlS_4, tlS_5, tlS_6, tlS_7, tlS_8, tlC_0, tlC_1, tlC_2, tlC_3, LawM, LakeM, WaysM, WorldM, SimM, List.set_cons_succ, List.set_cons_zero, List.append_nil, List.nil_append, List.cons_append, Option.toList, Nat.sub_zero]
      refine v_if_lt (pc := 1363) (tgt := 1371) dL_law_1363 (by decide) (fun c1363 => ?_) (fun c1363 => ?_)
      · refine v_aloadR (pc := 1371) dL_law_1371 rfl ?_
        refine v_iload (pc := 1373) dL_law_1373 rfl ?_
        refine v_aaldS (pc := 1375) 48 (k := i) (by decide) rfl (by omega) (by omega) dL_law_1375 ?_
        refine v_iconst (pc := 1376) (v := 0) dL_law_1376 rfl ?_
        refine v_ialdGN (pc := 1377) 49 (j := 0) rfl (by omega) (by decide) (by decide) dL_law_1377 ?_
        try dsimp only [wb, tlS_0, tlS_1, tlS_2, tlS_3, tlS_4, tlS_5, tlS_6, tlS_7, tlS_8, tlC_0, tlC_1, tlC_2, tlC_3, LawM, LakeM, WaysM, WorldM, SimM, List.set_cons_succ, List.set_cons_zero, List.append_nil, List.nil_append, List.cons_append, Option.toList, Nat.sub_zero]
        refine v_goto (pc := 1378) (tgt := 1438) dL_law_1378 (by decide) ?_
        refine v_istore (pc := 1438) dL_law_1438 (by show _ < 26; decide) rfl ?_
        refine v_iload (pc := 1440) dL_law_1440 rfl ?_
        refine v_if_eq (pc := 1442) (tgt := 1466) dL_law_1442 (by decide) (fun c1442 => ?_) (fun c1442 => ?_)
        · refine v_aloadR (pc := 1466) dL_law_1466 rfl ?_
          refine v_iload (pc := 1468) dL_law_1468 rfl ?_
          refine v_aaldS (pc := 1470) 48 (k := i) (by decide) rfl (by omega) (by omega) dL_law_1470 ?_
          refine v_iconst (pc := 1471) (v := 2) dL_law_1471 rfl ?_
          refine v_ialdGN (pc := 1472) 49 (j := 2) rfl (by omega) (by decide) (by decide) dL_law_1472 ?_
          try dsimp only [wb, tlS_0, tlS_1, tlS_2, tlS_3, tlS_4, tlS_5, tlS_6, tlS_7, tlS_8, tlC_0, tlC_1, tlC_2, tlC_3, LawM, LakeM, WaysM, WorldM, SimM, List.set_cons_succ, List.set_cons_zero, List.append_nil, List.nil_append, List.cons_append, Option.toList, Nat.sub_zero]
          refine v_istore (pc := 1473) dL_law_1473 (by show _ < 26; decide) rfl ?_
          have hbx := bas_1 (hh := t0) (f := cd) (S := S0) (c := i) (fun q => hm0 c1442 q.1)
          rw [hbx] at h5 h6 hb0
          refine v_iload (pc := 1475) dL_law_1475 rfl ?_
          refine v_iload (pc := 1477) dL_law_1477 rfl ?_
          refine v_icmp_ne (pc := 1479) (tgt := 1519) dL_law_1479 (by decide) (fun c1479 => absurd (h4.trans (thn_1 (Or.inl c1363))) c1479) (fun c1479 => ?_)
          refine v_iload (pc := 1482) dL_law_1482 rfl ?_
          refine v_iload (pc := 1484) dL_law_1484 rfl ?_
          refine v_icmp_lt (pc := 1486) (tgt := 1519) dL_law_1486 (by decide) (fun c1486 => absurd c1486 (Int32.not_lt.mpr (i_le.mpr h5))) (fun c1486 => ?_)
          refine v_iload (pc := 1489) dL_law_1489 rfl ?_
          refine v_bipush (pc := 1491) (v := 9) dL_law_1491 rfl ?_
          refine v_iload (pc := 1493) dL_law_1493 rfl ?_
          refine v_aloadR (pc := 1495) dL_law_1495 rfl ?_
          refine v_iload (pc := 1497) dL_law_1497 rfl ?_
          refine v_ialdN (pc := 1499) 54 (k := i) rfl (by omega) (by omega) dL_law_1499 ?_
          rw [hL9]
          refine v_iadd (pc := 1500) dL_law_1500 ?_
          refine v_mmin (pc := 1501) q732 q403 q15 q404 (by decide) (Nat.le_of_ble_eq_true rfl) dL_law_1501 ?_
          refine v_icmp_gt (pc := 1504) (tgt := 1519) dL_law_1504 (by decide) (fun c1504 => absurd (smin h6 h7.2 ⟨hb0, by omega⟩ hn5) (Int32.not_le.mpr c1504)) (fun c1504 => ?_)
          refine v_iload (pc := 1507) dL_law_1507 rfl ?_
          refine v_aloadR (pc := 1509) dL_law_1509 rfl ?_
          refine v_iload (pc := 1511) dL_law_1511 rfl ?_
          refine v_aaldS (pc := 1513) 48 (k := i) (by decide) rfl (by omega) (by omega) dL_law_1513 ?_
          refine v_iconst (pc := 1514) (v := 3) dL_law_1514 rfl ?_
          refine v_ialdGN (pc := 1515) 49 (j := 3) rfl (by omega) (by decide) (by decide) dL_law_1515 ?_
          try dsimp only [wb, tlS_0, tlS_1, tlS_2, tlS_3, tlS_4, tlS_5, tlS_6, tlS_7, tlS_8, tlC_0, tlC_1, tlC_2, tlC_3, LawM, LakeM, WaysM, WorldM, SimM, List.set_cons_succ, List.set_cons_zero, List.append_nil, List.nil_append, List.cons_append, Option.toList, Nat.sub_zero]
          refine v_icmp_ge (pc := 1516) (tgt := 1521) dL_law_1516 (by decide) (fun c1516 => ?_) (fun c1516 => absurd (bI_mono h8) c1516)
          refine v_iconst (pc := 1521) (v := 0) dL_law_1521 rfl ?_
          refine v_istore (pc := 1522) dL_law_1522 (by show _ < 26; decide) rfl ?_
          refine v_iconst (pc := 1524) (v := 0) dL_law_1524 rfl ?_
          refine v_istore (pc := 1525) dL_law_1525 (by show _ < 26; decide) rfl ?_
          refine v_room (ck' := ck + 4 * m) (sk' := sk + 24 * m) (by omega) (by omega) ?_
          have k9 := lw_be (G := G) (nm := nm) (hd9 := hd9) (Z := Z) (ck := ck + 4 * m) (sk := sk + 24 * m) (g0 := g0) (w := w) (u := u) (v := v) (xs := xs) (bs := bs) (a := a) (b := b) (f := f) (wa := wa) (lr := lr) (nd := nd) (dg := dg) (T := T) (N := N) (S := S) (C := C) (B := B) (O := O) (ch := ch) (PC := PC) (SF := SF) (BF := BF) (ps := ps) (sc := sc) (bc := bc) (hh := hh) (a2 := a2) (b2 := b2) (f2 := f2) (wa2 := wa2) (lr2 := lr2) (nd2 := nd2) (dg2 := dg2) (T2 := T2) (N2 := N2) (S2 := S2) (C2 := C2) (B2 := B2) (O2 := O2) (ch2 := ch2) (PC2 := PC2) (SF2 := SF2) (BF2 := BF2) (ps2 := ps2) (sc2 := sc2) (hh2 := hh2) (MX := MX) (H := H) (D := D) (t0 := t0) (T0 := T0) (S0 := S0) (C0 := C0) (SF0 := SF0) (BF0 := BF0) (r7 := r7) (r8 := r8) (r9 := r9) (a7 := a7) (a8 := a8) (a9 := a9) (a15 := a15) (cm := cm) (cd := cd) (im := im) (LF := LF) (nw := nw) hps hsc hbc hi K1574 160 0 rfl
          refine v_sub ?_ k9
          exact ⟨rfl, rfl, rfl, rfl, rfl, rfl, rfl, rfl, rfl, rfl, rfl, rfl, rfl, rfl, rfl, rfl, rfl, rfl, rfl, rfl, rfl, trivial⟩
        · refine v_iload (pc := 1445) dL_law_1445 rfl ?_
          refine v_if_le (pc := 1447) (tgt := 1466) dL_law_1447 (by decide) (fun c1447 => ?_) (fun c1447 => ?_)
          · refine v_aloadR (pc := 1466) dL_law_1466 rfl ?_
            refine v_iload (pc := 1468) dL_law_1468 rfl ?_
            refine v_aaldS (pc := 1470) 48 (k := i) (by decide) rfl (by omega) (by omega) dL_law_1470 ?_
            refine v_iconst (pc := 1471) (v := 2) dL_law_1471 rfl ?_
            refine v_ialdGN (pc := 1472) 49 (j := 2) rfl (by omega) (by decide) (by decide) dL_law_1472 ?_
            try dsimp only [wb, tlS_0, tlS_1, tlS_2, tlS_3, tlS_4, tlS_5, tlS_6, tlS_7, tlS_8, tlC_0, tlC_1, tlC_2, tlC_3, LawM, LakeM, WaysM, WorldM, SimM, List.set_cons_succ, List.set_cons_zero, List.append_nil, List.nil_append, List.cons_append, Option.toList, Nat.sub_zero]
            refine v_istore (pc := 1473) dL_law_1473 (by show _ < 26; decide) rfl ?_
            have hbx := bas_1 (hh := t0) (f := cd) (S := S0) (c := i) (fun q => Int32.not_lt.mpr c1447 q.2)
            rw [hbx] at h5 h6 hb0
            refine v_iload (pc := 1475) dL_law_1475 rfl ?_
            refine v_iload (pc := 1477) dL_law_1477 rfl ?_
            refine v_icmp_ne (pc := 1479) (tgt := 1519) dL_law_1479 (by decide) (fun c1479 => absurd (h4.trans (thn_1 (Or.inl c1363))) c1479) (fun c1479 => ?_)
            refine v_iload (pc := 1482) dL_law_1482 rfl ?_
            refine v_iload (pc := 1484) dL_law_1484 rfl ?_
            refine v_icmp_lt (pc := 1486) (tgt := 1519) dL_law_1486 (by decide) (fun c1486 => absurd c1486 (Int32.not_lt.mpr (i_le.mpr h5))) (fun c1486 => ?_)
            refine v_iload (pc := 1489) dL_law_1489 rfl ?_
            refine v_bipush (pc := 1491) (v := 9) dL_law_1491 rfl ?_
            refine v_iload (pc := 1493) dL_law_1493 rfl ?_
            refine v_aloadR (pc := 1495) dL_law_1495 rfl ?_
            refine v_iload (pc := 1497) dL_law_1497 rfl ?_
            refine v_ialdN (pc := 1499) 54 (k := i) rfl (by omega) (by omega) dL_law_1499 ?_
            rw [hL9]
            refine v_iadd (pc := 1500) dL_law_1500 ?_
            refine v_mmin (pc := 1501) q732 q403 q15 q404 (by decide) (Nat.le_of_ble_eq_true rfl) dL_law_1501 ?_
            refine v_icmp_gt (pc := 1504) (tgt := 1519) dL_law_1504 (by decide) (fun c1504 => absurd (smin h6 h7.2 ⟨hb0, by omega⟩ hn5) (Int32.not_le.mpr c1504)) (fun c1504 => ?_)
            refine v_iload (pc := 1507) dL_law_1507 rfl ?_
            refine v_aloadR (pc := 1509) dL_law_1509 rfl ?_
            refine v_iload (pc := 1511) dL_law_1511 rfl ?_
            refine v_aaldS (pc := 1513) 48 (k := i) (by decide) rfl (by omega) (by omega) dL_law_1513 ?_
            refine v_iconst (pc := 1514) (v := 3) dL_law_1514 rfl ?_
            refine v_ialdGN (pc := 1515) 49 (j := 3) rfl (by omega) (by decide) (by decide) dL_law_1515 ?_
            try dsimp only [wb, tlS_0, tlS_1, tlS_2, tlS_3, tlS_4, tlS_5, tlS_6, tlS_7, tlS_8, tlC_0, tlC_1, tlC_2, tlC_3, LawM, LakeM, WaysM, WorldM, SimM, List.set_cons_succ, List.set_cons_zero, List.append_nil, List.nil_append, List.cons_append, Option.toList, Nat.sub_zero]
            refine v_icmp_ge (pc := 1516) (tgt := 1521) dL_law_1516 (by decide) (fun c1516 => ?_) (fun c1516 => absurd (bI_mono h8) c1516)
            refine v_iconst (pc := 1521) (v := 0) dL_law_1521 rfl ?_
            refine v_istore (pc := 1522) dL_law_1522 (by show _ < 26; decide) rfl ?_
            refine v_iconst (pc := 1524) (v := 0) dL_law_1524 rfl ?_
            refine v_istore (pc := 1525) dL_law_1525 (by show _ < 26; decide) rfl ?_
            refine v_room (ck' := ck + 4 * m) (sk' := sk + 24 * m) (by omega) (by omega) ?_
            have k9 := lw_be (G := G) (nm := nm) (hd9 := hd9) (Z := Z) (ck := ck + 4 * m) (sk := sk + 24 * m) (g0 := g0) (w := w) (u := u) (v := v) (xs := xs) (bs := bs) (a := a) (b := b) (f := f) (wa := wa) (lr := lr) (nd := nd) (dg := dg) (T := T) (N := N) (S := S) (C := C) (B := B) (O := O) (ch := ch) (PC := PC) (SF := SF) (BF := BF) (ps := ps) (sc := sc) (bc := bc) (hh := hh) (a2 := a2) (b2 := b2) (f2 := f2) (wa2 := wa2) (lr2 := lr2) (nd2 := nd2) (dg2 := dg2) (T2 := T2) (N2 := N2) (S2 := S2) (C2 := C2) (B2 := B2) (O2 := O2) (ch2 := ch2) (PC2 := PC2) (SF2 := SF2) (BF2 := BF2) (ps2 := ps2) (sc2 := sc2) (hh2 := hh2) (MX := MX) (H := H) (D := D) (t0 := t0) (T0 := T0) (S0 := S0) (C0 := C0) (SF0 := SF0) (BF0 := BF0) (r7 := r7) (r8 := r8) (r9 := r9) (a7 := a7) (a8 := a8) (a9 := a9) (a15 := a15) (cm := cm) (cd := cd) (im := im) (LF := LF) (nw := nw) hps hsc hbc hi K1574 160 0 rfl
            refine v_sub ?_ k9
            exact ⟨rfl, rfl, rfl, rfl, rfl, rfl, rfl, rfl, rfl, rfl, rfl, rfl, rfl, rfl, rfl, rfl, rfl, rfl, rfl, rfl, rfl, trivial⟩
          · refine v_iconst (pc := 1450) (v := 0) dL_law_1450 rfl ?_
            refine v_aloadR (pc := 1451) dL_law_1451 rfl ?_
            refine v_iload (pc := 1453) dL_law_1453 rfl ?_
            refine v_aaldS (pc := 1455) 48 (k := i) (by decide) rfl (by omega) (by omega) dL_law_1455 ?_
            refine v_iconst (pc := 1456) (v := 2) dL_law_1456 rfl ?_
            refine v_ialdGN (pc := 1457) 49 (j := 2) rfl (by omega) (by decide) (by decide) dL_law_1457 ?_
            try dsimp only [wb, tlS_0, tlS_1, tlS_2, tlS_3, tlS_4, tlS_5, tlS_6, tlS_7, tlS_8, tlC_0, tlC_1, tlC_2, tlC_3, LawM, LakeM, WaysM, WorldM, SimM, List.set_cons_succ, List.set_cons_zero, List.append_nil, List.nil_append, List.cons_append, Option.toList, Nat.sub_zero]
            refine v_iconst (pc := 1458) (v := 2) dL_law_1458 rfl ?_
            refine v_isub (pc := 1459) dL_law_1459 ?_
            refine v_mmax (pc := 1460) q851 q406 q15 q407 (by decide) (Nat.le_of_ble_eq_true rfl) dL_law_1460 ?_
            refine v_goto (pc := 1463) (tgt := 1473) dL_law_1463 (by decide) ?_
            refine v_istore (pc := 1473) dL_law_1473 (by show _ < 26; decide) rfl ?_
            have hbx := bas_2 (hh := t0) (f := cd) (S := S0) (c := i) ⟨hm1 c1442, Int32.not_le.mp c1447⟩
            rw [hbx] at h5 h6 hb0
            refine v_iload (pc := 1475) dL_law_1475 rfl ?_
            refine v_iload (pc := 1477) dL_law_1477 rfl ?_
            refine v_icmp_ne (pc := 1479) (tgt := 1519) dL_law_1479 (by decide) (fun c1479 => absurd (h4.trans (thn_1 (Or.inl c1363))) c1479) (fun c1479 => ?_)
            refine v_iload (pc := 1482) dL_law_1482 rfl ?_
            refine v_iload (pc := 1484) dL_law_1484 rfl ?_
            refine v_icmp_lt (pc := 1486) (tgt := 1519) dL_law_1486 (by decide) (fun c1486 => absurd c1486 (Int32.not_lt.mpr (i_le.mpr h5))) (fun c1486 => ?_)
            refine v_iload (pc := 1489) dL_law_1489 rfl ?_
            refine v_bipush (pc := 1491) (v := 9) dL_law_1491 rfl ?_
            refine v_iload (pc := 1493) dL_law_1493 rfl ?_
            refine v_aloadR (pc := 1495) dL_law_1495 rfl ?_
            refine v_iload (pc := 1497) dL_law_1497 rfl ?_
            refine v_ialdN (pc := 1499) 54 (k := i) rfl (by omega) (by omega) dL_law_1499 ?_
            rw [hL9]
            refine v_iadd (pc := 1500) dL_law_1500 ?_
            refine v_mmin (pc := 1501) q732 q403 q15 q404 (by decide) (Nat.le_of_ble_eq_true rfl) dL_law_1501 ?_
            refine v_icmp_gt (pc := 1504) (tgt := 1519) dL_law_1504 (by decide) (fun c1504 => absurd (smin h6 h7.2 ⟨hb0, by omega⟩ hn5) (Int32.not_le.mpr c1504)) (fun c1504 => ?_)
            refine v_iload (pc := 1507) dL_law_1507 rfl ?_
            refine v_aloadR (pc := 1509) dL_law_1509 rfl ?_
            refine v_iload (pc := 1511) dL_law_1511 rfl ?_
            refine v_aaldS (pc := 1513) 48 (k := i) (by decide) rfl (by omega) (by omega) dL_law_1513 ?_
            refine v_iconst (pc := 1514) (v := 3) dL_law_1514 rfl ?_
            refine v_ialdGN (pc := 1515) 49 (j := 3) rfl (by omega) (by decide) (by decide) dL_law_1515 ?_
            try dsimp only [wb, tlS_0, tlS_1, tlS_2, tlS_3, tlS_4, tlS_5, tlS_6, tlS_7, tlS_8, tlC_0, tlC_1, tlC_2, tlC_3, LawM, LakeM, WaysM, WorldM, SimM, List.set_cons_succ, List.set_cons_zero, List.append_nil, List.nil_append, List.cons_append, Option.toList, Nat.sub_zero]
            refine v_icmp_ge (pc := 1516) (tgt := 1521) dL_law_1516 (by decide) (fun c1516 => ?_) (fun c1516 => absurd (bI_mono h8) c1516)
            refine v_iconst (pc := 1521) (v := 0) dL_law_1521 rfl ?_
            refine v_istore (pc := 1522) dL_law_1522 (by show _ < 26; decide) rfl ?_
            refine v_iconst (pc := 1524) (v := 0) dL_law_1524 rfl ?_
            refine v_istore (pc := 1525) dL_law_1525 (by show _ < 26; decide) rfl ?_
            refine v_room (ck' := ck + 4 * m) (sk' := sk + 24 * m) (by omega) (by omega) ?_
            have k9 := lw_be (G := G) (nm := nm) (hd9 := hd9) (Z := Z) (ck := ck + 4 * m) (sk := sk + 24 * m) (g0 := g0) (w := w) (u := u) (v := v) (xs := xs) (bs := bs) (a := a) (b := b) (f := f) (wa := wa) (lr := lr) (nd := nd) (dg := dg) (T := T) (N := N) (S := S) (C := C) (B := B) (O := O) (ch := ch) (PC := PC) (SF := SF) (BF := BF) (ps := ps) (sc := sc) (bc := bc) (hh := hh) (a2 := a2) (b2 := b2) (f2 := f2) (wa2 := wa2) (lr2 := lr2) (nd2 := nd2) (dg2 := dg2) (T2 := T2) (N2 := N2) (S2 := S2) (C2 := C2) (B2 := B2) (O2 := O2) (ch2 := ch2) (PC2 := PC2) (SF2 := SF2) (BF2 := BF2) (ps2 := ps2) (sc2 := sc2) (hh2 := hh2) (MX := MX) (H := H) (D := D) (t0 := t0) (T0 := T0) (S0 := S0) (C0 := C0) (SF0 := SF0) (BF0 := BF0) (r7 := r7) (r8 := r8) (r9 := r9) (a7 := a7) (a8 := a8) (a9 := a9) (a15 := a15) (cm := cm) (cd := cd) (im := im) (LF := LF) (nw := nw) hps hsc hbc hi K1574 160 0 rfl
            refine v_sub ?_ k9
            exact ⟨rfl, rfl, rfl, rfl, rfl, rfl, rfl, rfl, rfl, rfl, rfl, rfl, rfl, rfl, rfl, rfl, rfl, rfl, rfl, rfl, rfl, trivial⟩
      · refine v_iload (pc := 1366) dL_law_1366 rfl ?_
        refine v_if_ne (pc := 1368) (tgt := 1381) dL_law_1368 (by decide) (fun c1368 => ?_) (fun c1368 => ?_)
        · refine v_iload (pc := 1381) dL_law_1381 rfl ?_
          refine v_if_le (pc := 1383) (tgt := 1422) dL_law_1383 (by decide) (fun c1383 => ?_) (fun c1383 => ?_)
          · refine v_iconst (pc := 1422) (v := 0) dL_law_1422 rfl ?_
            refine v_aloadR (pc := 1423) dL_law_1423 rfl ?_
            refine v_iload (pc := 1425) dL_law_1425 rfl ?_
            refine v_aaldS (pc := 1427) 48 (k := i) (by decide) rfl (by omega) (by omega) dL_law_1427 ?_
            refine v_iconst (pc := 1428) (v := 0) dL_law_1428 rfl ?_
            refine v_ialdGN (pc := 1429) 49 (j := 0) rfl (by omega) (by decide) (by decide) dL_law_1429 ?_
            try dsimp only [wb, tlS_0, tlS_1, tlS_2, tlS_3, tlS_4, tlS_5, tlS_6, tlS_7, tlS_8, tlC_0, tlC_1, tlC_2, tlC_3, LawM, LakeM, WaysM, WorldM, SimM, List.set_cons_succ, List.set_cons_zero, List.append_nil, List.nil_append, List.cons_append, Option.toList, Nat.sub_zero]
            refine v_iconst (pc := 1430) (v := 3) dL_law_1430 rfl ?_
            refine v_iload (pc := 1431) dL_law_1431 rfl ?_
            refine v_imul (pc := 1433) dL_law_1433 ?_
            refine v_iadd (pc := 1434) dL_law_1434 ?_
            refine v_mmax (pc := 1435) q851 q406 q15 q407 (by decide) (Nat.le_of_ble_eq_true rfl) dL_law_1435 ?_
            refine v_istore (pc := 1438) dL_law_1438 (by show _ < 26; decide) rfl ?_
            refine v_iload (pc := 1440) dL_law_1440 rfl ?_
            refine v_if_eq (pc := 1442) (tgt := 1466) dL_law_1442 (by decide) (fun c1442 => ?_) (fun c1442 => ?_)
            · refine v_aloadR (pc := 1466) dL_law_1466 rfl ?_
              refine v_iload (pc := 1468) dL_law_1468 rfl ?_
              refine v_aaldS (pc := 1470) 48 (k := i) (by decide) rfl (by omega) (by omega) dL_law_1470 ?_
              refine v_iconst (pc := 1471) (v := 2) dL_law_1471 rfl ?_
              refine v_ialdGN (pc := 1472) 49 (j := 2) rfl (by omega) (by decide) (by decide) dL_law_1472 ?_
              try dsimp only [wb, tlS_0, tlS_1, tlS_2, tlS_3, tlS_4, tlS_5, tlS_6, tlS_7, tlS_8, tlC_0, tlC_1, tlC_2, tlC_3, LawM, LakeM, WaysM, WorldM, SimM, List.set_cons_succ, List.set_cons_zero, List.append_nil, List.nil_append, List.cons_append, Option.toList, Nat.sub_zero]
              refine v_istore (pc := 1473) dL_law_1473 (by show _ < 26; decide) rfl ?_
              have hbx := bas_1 (hh := t0) (f := cd) (S := S0) (c := i) (fun q => hm0 c1442 q.1)
              rw [hbx] at h5 h6 hb0
              refine v_iload (pc := 1475) dL_law_1475 rfl ?_
              refine v_iload (pc := 1477) dL_law_1477 rfl ?_
              refine v_icmp_ne (pc := 1479) (tgt := 1519) dL_law_1479 (by decide) (fun c1479 => absurd (h4.trans (thn_3 (fun q => q.elim c1363 (fun q => q (hm1 c1368))) (Int32.not_lt.mpr c1383))) c1479) (fun c1479 => ?_)
              refine v_iload (pc := 1482) dL_law_1482 rfl ?_
              refine v_iload (pc := 1484) dL_law_1484 rfl ?_
              refine v_icmp_lt (pc := 1486) (tgt := 1519) dL_law_1486 (by decide) (fun c1486 => absurd c1486 (Int32.not_lt.mpr (i_le.mpr h5))) (fun c1486 => ?_)
              refine v_iload (pc := 1489) dL_law_1489 rfl ?_
              refine v_bipush (pc := 1491) (v := 9) dL_law_1491 rfl ?_
              refine v_iload (pc := 1493) dL_law_1493 rfl ?_
              refine v_aloadR (pc := 1495) dL_law_1495 rfl ?_
              refine v_iload (pc := 1497) dL_law_1497 rfl ?_
              refine v_ialdN (pc := 1499) 54 (k := i) rfl (by omega) (by omega) dL_law_1499 ?_
              rw [hL9]
              refine v_iadd (pc := 1500) dL_law_1500 ?_
              refine v_mmin (pc := 1501) q732 q403 q15 q404 (by decide) (Nat.le_of_ble_eq_true rfl) dL_law_1501 ?_
              refine v_icmp_gt (pc := 1504) (tgt := 1519) dL_law_1504 (by decide) (fun c1504 => absurd (smin h6 h7.2 ⟨hb0, by omega⟩ hn5) (Int32.not_le.mpr c1504)) (fun c1504 => ?_)
              refine v_iload (pc := 1507) dL_law_1507 rfl ?_
              refine v_aloadR (pc := 1509) dL_law_1509 rfl ?_
              refine v_iload (pc := 1511) dL_law_1511 rfl ?_
              refine v_aaldS (pc := 1513) 48 (k := i) (by decide) rfl (by omega) (by omega) dL_law_1513 ?_
              refine v_iconst (pc := 1514) (v := 3) dL_law_1514 rfl ?_
              refine v_ialdGN (pc := 1515) 49 (j := 3) rfl (by omega) (by decide) (by decide) dL_law_1515 ?_
              try dsimp only [wb, tlS_0, tlS_1, tlS_2, tlS_3, tlS_4, tlS_5, tlS_6, tlS_7, tlS_8, tlC_0, tlC_1, tlC_2, tlC_3, LawM, LakeM, WaysM, WorldM, SimM, List.set_cons_succ, List.set_cons_zero, List.append_nil, List.nil_append, List.cons_append, Option.toList, Nat.sub_zero]
              refine v_icmp_ge (pc := 1516) (tgt := 1521) dL_law_1516 (by decide) (fun c1516 => ?_) (fun c1516 => absurd (bI_mono h8) c1516)
              refine v_iconst (pc := 1521) (v := 0) dL_law_1521 rfl ?_
              refine v_istore (pc := 1522) dL_law_1522 (by show _ < 26; decide) rfl ?_
              refine v_iconst (pc := 1524) (v := 0) dL_law_1524 rfl ?_
              refine v_istore (pc := 1525) dL_law_1525 (by show _ < 26; decide) rfl ?_
              refine v_room (ck' := ck + 4 * m) (sk' := sk + 24 * m) (by omega) (by omega) ?_
              have k9 := lw_be (G := G) (nm := nm) (hd9 := hd9) (Z := Z) (ck := ck + 4 * m) (sk := sk + 24 * m) (g0 := g0) (w := w) (u := u) (v := v) (xs := xs) (bs := bs) (a := a) (b := b) (f := f) (wa := wa) (lr := lr) (nd := nd) (dg := dg) (T := T) (N := N) (S := S) (C := C) (B := B) (O := O) (ch := ch) (PC := PC) (SF := SF) (BF := BF) (ps := ps) (sc := sc) (bc := bc) (hh := hh) (a2 := a2) (b2 := b2) (f2 := f2) (wa2 := wa2) (lr2 := lr2) (nd2 := nd2) (dg2 := dg2) (T2 := T2) (N2 := N2) (S2 := S2) (C2 := C2) (B2 := B2) (O2 := O2) (ch2 := ch2) (PC2 := PC2) (SF2 := SF2) (BF2 := BF2) (ps2 := ps2) (sc2 := sc2) (hh2 := hh2) (MX := MX) (H := H) (D := D) (t0 := t0) (T0 := T0) (S0 := S0) (C0 := C0) (SF0 := SF0) (BF0 := BF0) (r7 := r7) (r8 := r8) (r9 := r9) (a7 := a7) (a8 := a8) (a9 := a9) (a15 := a15) (cm := cm) (cd := cd) (im := im) (LF := LF) (nw := nw) hps hsc hbc hi K1574 160 0 rfl
              refine v_sub ?_ k9
              exact ⟨rfl, rfl, rfl, rfl, rfl, rfl, rfl, rfl, rfl, rfl, rfl, rfl, rfl, rfl, rfl, rfl, rfl, rfl, rfl, rfl, rfl, trivial⟩
            · refine v_iload (pc := 1445) dL_law_1445 rfl ?_
              refine v_if_le (pc := 1447) (tgt := 1466) dL_law_1447 (by decide) (fun c1447 => ?_) (fun c1447 => ?_)
              · refine v_aloadR (pc := 1466) dL_law_1466 rfl ?_
                refine v_iload (pc := 1468) dL_law_1468 rfl ?_
                refine v_aaldS (pc := 1470) 48 (k := i) (by decide) rfl (by omega) (by omega) dL_law_1470 ?_
                refine v_iconst (pc := 1471) (v := 2) dL_law_1471 rfl ?_
                refine v_ialdGN (pc := 1472) 49 (j := 2) rfl (by omega) (by decide) (by decide) dL_law_1472 ?_
                try dsimp only [wb, tlS_0, tlS_1, tlS_2, tlS_3, tlS_4, tlS_5, tlS_6, tlS_7, tlS_8, tlC_0, tlC_1, tlC_2, tlC_3, LawM, LakeM, WaysM, WorldM, SimM, List.set_cons_succ, List.set_cons_zero, List.append_nil, List.nil_append, List.cons_append, Option.toList, Nat.sub_zero]
                refine v_istore (pc := 1473) dL_law_1473 (by show _ < 26; decide) rfl ?_
                have hbx := bas_1 (hh := t0) (f := cd) (S := S0) (c := i) (fun q => Int32.not_lt.mpr c1447 q.2)
                rw [hbx] at h5 h6 hb0
                refine v_iload (pc := 1475) dL_law_1475 rfl ?_
                refine v_iload (pc := 1477) dL_law_1477 rfl ?_
                refine v_icmp_ne (pc := 1479) (tgt := 1519) dL_law_1479 (by decide) (fun c1479 => absurd (h4.trans (thn_3 (fun q => q.elim c1363 (fun q => q (hm1 c1368))) (Int32.not_lt.mpr c1383))) c1479) (fun c1479 => ?_)
                refine v_iload (pc := 1482) dL_law_1482 rfl ?_
                refine v_iload (pc := 1484) dL_law_1484 rfl ?_
                refine v_icmp_lt (pc := 1486) (tgt := 1519) dL_law_1486 (by decide) (fun c1486 => absurd c1486 (Int32.not_lt.mpr (i_le.mpr h5))) (fun c1486 => ?_)
                refine v_iload (pc := 1489) dL_law_1489 rfl ?_
                refine v_bipush (pc := 1491) (v := 9) dL_law_1491 rfl ?_
                refine v_iload (pc := 1493) dL_law_1493 rfl ?_
                refine v_aloadR (pc := 1495) dL_law_1495 rfl ?_
                refine v_iload (pc := 1497) dL_law_1497 rfl ?_
                refine v_ialdN (pc := 1499) 54 (k := i) rfl (by omega) (by omega) dL_law_1499 ?_
                rw [hL9]
                refine v_iadd (pc := 1500) dL_law_1500 ?_
                refine v_mmin (pc := 1501) q732 q403 q15 q404 (by decide) (Nat.le_of_ble_eq_true rfl) dL_law_1501 ?_
                refine v_icmp_gt (pc := 1504) (tgt := 1519) dL_law_1504 (by decide) (fun c1504 => absurd (smin h6 h7.2 ⟨hb0, by omega⟩ hn5) (Int32.not_le.mpr c1504)) (fun c1504 => ?_)
                refine v_iload (pc := 1507) dL_law_1507 rfl ?_
                refine v_aloadR (pc := 1509) dL_law_1509 rfl ?_
                refine v_iload (pc := 1511) dL_law_1511 rfl ?_
                refine v_aaldS (pc := 1513) 48 (k := i) (by decide) rfl (by omega) (by omega) dL_law_1513 ?_
                refine v_iconst (pc := 1514) (v := 3) dL_law_1514 rfl ?_
                refine v_ialdGN (pc := 1515) 49 (j := 3) rfl (by omega) (by decide) (by decide) dL_law_1515 ?_
                try dsimp only [wb, tlS_0, tlS_1, tlS_2, tlS_3, tlS_4, tlS_5, tlS_6, tlS_7, tlS_8, tlC_0, tlC_1, tlC_2, tlC_3, LawM, LakeM, WaysM, WorldM, SimM, List.set_cons_succ, List.set_cons_zero, List.append_nil, List.nil_append, List.cons_append, Option.toList, Nat.sub_zero]
                refine v_icmp_ge (pc := 1516) (tgt := 1521) dL_law_1516 (by decide) (fun c1516 => ?_) (fun c1516 => absurd (bI_mono h8) c1516)
                refine v_iconst (pc := 1521) (v := 0) dL_law_1521 rfl ?_
                refine v_istore (pc := 1522) dL_law_1522 (by show _ < 26; decide) rfl ?_
                refine v_iconst (pc := 1524) (v := 0) dL_law_1524 rfl ?_
                refine v_istore (pc := 1525) dL_law_1525 (by show _ < 26; decide) rfl ?_
                refine v_room (ck' := ck + 4 * m) (sk' := sk + 24 * m) (by omega) (by omega) ?_
                have k9 := lw_be (G := G) (nm := nm) (hd9 := hd9) (Z := Z) (ck := ck + 4 * m) (sk := sk + 24 * m) (g0 := g0) (w := w) (u := u) (v := v) (xs := xs) (bs := bs) (a := a) (b := b) (f := f) (wa := wa) (lr := lr) (nd := nd) (dg := dg) (T := T) (N := N) (S := S) (C := C) (B := B) (O := O) (ch := ch) (PC := PC) (SF := SF) (BF := BF) (ps := ps) (sc := sc) (bc := bc) (hh := hh) (a2 := a2) (b2 := b2) (f2 := f2) (wa2 := wa2) (lr2 := lr2) (nd2 := nd2) (dg2 := dg2) (T2 := T2) (N2 := N2) (S2 := S2) (C2 := C2) (B2 := B2) (O2 := O2) (ch2 := ch2) (PC2 := PC2) (SF2 := SF2) (BF2 := BF2) (ps2 := ps2) (sc2 := sc2) (hh2 := hh2) (MX := MX) (H := H) (D := D) (t0 := t0) (T0 := T0) (S0 := S0) (C0 := C0) (SF0 := SF0) (BF0 := BF0) (r7 := r7) (r8 := r8) (r9 := r9) (a7 := a7) (a8 := a8) (a9 := a9) (a15 := a15) (cm := cm) (cd := cd) (im := im) (LF := LF) (nw := nw) hps hsc hbc hi K1574 160 0 rfl
                refine v_sub ?_ k9
                exact ⟨rfl, rfl, rfl, rfl, rfl, rfl, rfl, rfl, rfl, rfl, rfl, rfl, rfl, rfl, rfl, rfl, rfl, rfl, rfl, rfl, rfl, trivial⟩
              · refine v_iconst (pc := 1450) (v := 0) dL_law_1450 rfl ?_
                refine v_aloadR (pc := 1451) dL_law_1451 rfl ?_
                refine v_iload (pc := 1453) dL_law_1453 rfl ?_
                refine v_aaldS (pc := 1455) 48 (k := i) (by decide) rfl (by omega) (by omega) dL_law_1455 ?_
                refine v_iconst (pc := 1456) (v := 2) dL_law_1456 rfl ?_
                refine v_ialdGN (pc := 1457) 49 (j := 2) rfl (by omega) (by decide) (by decide) dL_law_1457 ?_
                try dsimp only [wb, tlS_0, tlS_1, tlS_2, tlS_3, tlS_4, tlS_5, tlS_6, tlS_7, tlS_8, tlC_0, tlC_1, tlC_2, tlC_3, LawM, LakeM, WaysM, WorldM, SimM, List.set_cons_succ, List.set_cons_zero, List.append_nil, List.nil_append, List.cons_append, Option.toList, Nat.sub_zero]
                refine v_iconst (pc := 1458) (v := 2) dL_law_1458 rfl ?_
                refine v_isub (pc := 1459) dL_law_1459 ?_
                refine v_mmax (pc := 1460) q851 q406 q15 q407 (by decide) (Nat.le_of_ble_eq_true rfl) dL_law_1460 ?_
                refine v_goto (pc := 1463) (tgt := 1473) dL_law_1463 (by decide) ?_
                refine v_istore (pc := 1473) dL_law_1473 (by show _ < 26; decide) rfl ?_
                have hbx := bas_2 (hh := t0) (f := cd) (S := S0) (c := i) ⟨hm1 c1442, Int32.not_le.mp c1447⟩
                rw [hbx] at h5 h6 hb0
                refine v_iload (pc := 1475) dL_law_1475 rfl ?_
                refine v_iload (pc := 1477) dL_law_1477 rfl ?_
                refine v_icmp_ne (pc := 1479) (tgt := 1519) dL_law_1479 (by decide) (fun c1479 => absurd (h4.trans (thn_3 (fun q => q.elim c1363 (fun q => q (hm1 c1368))) (Int32.not_lt.mpr c1383))) c1479) (fun c1479 => ?_)
                refine v_iload (pc := 1482) dL_law_1482 rfl ?_
                refine v_iload (pc := 1484) dL_law_1484 rfl ?_
                refine v_icmp_lt (pc := 1486) (tgt := 1519) dL_law_1486 (by decide) (fun c1486 => absurd c1486 (Int32.not_lt.mpr (i_le.mpr h5))) (fun c1486 => ?_)
                refine v_iload (pc := 1489) dL_law_1489 rfl ?_
                refine v_bipush (pc := 1491) (v := 9) dL_law_1491 rfl ?_
                refine v_iload (pc := 1493) dL_law_1493 rfl ?_
                refine v_aloadR (pc := 1495) dL_law_1495 rfl ?_
                refine v_iload (pc := 1497) dL_law_1497 rfl ?_
                refine v_ialdN (pc := 1499) 54 (k := i) rfl (by omega) (by omega) dL_law_1499 ?_
                rw [hL9]
                refine v_iadd (pc := 1500) dL_law_1500 ?_
                refine v_mmin (pc := 1501) q732 q403 q15 q404 (by decide) (Nat.le_of_ble_eq_true rfl) dL_law_1501 ?_
                refine v_icmp_gt (pc := 1504) (tgt := 1519) dL_law_1504 (by decide) (fun c1504 => absurd (smin h6 h7.2 ⟨hb0, by omega⟩ hn5) (Int32.not_le.mpr c1504)) (fun c1504 => ?_)
                refine v_iload (pc := 1507) dL_law_1507 rfl ?_
                refine v_aloadR (pc := 1509) dL_law_1509 rfl ?_
                refine v_iload (pc := 1511) dL_law_1511 rfl ?_
                refine v_aaldS (pc := 1513) 48 (k := i) (by decide) rfl (by omega) (by omega) dL_law_1513 ?_
                refine v_iconst (pc := 1514) (v := 3) dL_law_1514 rfl ?_
                refine v_ialdGN (pc := 1515) 49 (j := 3) rfl (by omega) (by decide) (by decide) dL_law_1515 ?_
                try dsimp only [wb, tlS_0, tlS_1, tlS_2, tlS_3, tlS_4, tlS_5, tlS_6, tlS_7, tlS_8, tlC_0, tlC_1, tlC_2, tlC_3, LawM, LakeM, WaysM, WorldM, SimM, List.set_cons_succ, List.set_cons_zero, List.append_nil, List.nil_append, List.cons_append, Option.toList, Nat.sub_zero]
                refine v_icmp_ge (pc := 1516) (tgt := 1521) dL_law_1516 (by decide) (fun c1516 => ?_) (fun c1516 => absurd (bI_mono h8) c1516)
                refine v_iconst (pc := 1521) (v := 0) dL_law_1521 rfl ?_
                refine v_istore (pc := 1522) dL_law_1522 (by show _ < 26; decide) rfl ?_
                refine v_iconst (pc := 1524) (v := 0) dL_law_1524 rfl ?_
                refine v_istore (pc := 1525) dL_law_1525 (by show _ < 26; decide) rfl ?_
                refine v_room (ck' := ck + 4 * m) (sk' := sk + 24 * m) (by omega) (by omega) ?_
                have k9 := lw_be (G := G) (nm := nm) (hd9 := hd9) (Z := Z) (ck := ck + 4 * m) (sk := sk + 24 * m) (g0 := g0) (w := w) (u := u) (v := v) (xs := xs) (bs := bs) (a := a) (b := b) (f := f) (wa := wa) (lr := lr) (nd := nd) (dg := dg) (T := T) (N := N) (S := S) (C := C) (B := B) (O := O) (ch := ch) (PC := PC) (SF := SF) (BF := BF) (ps := ps) (sc := sc) (bc := bc) (hh := hh) (a2 := a2) (b2 := b2) (f2 := f2) (wa2 := wa2) (lr2 := lr2) (nd2 := nd2) (dg2 := dg2) (T2 := T2) (N2 := N2) (S2 := S2) (C2 := C2) (B2 := B2) (O2 := O2) (ch2 := ch2) (PC2 := PC2) (SF2 := SF2) (BF2 := BF2) (ps2 := ps2) (sc2 := sc2) (hh2 := hh2) (MX := MX) (H := H) (D := D) (t0 := t0) (T0 := T0) (S0 := S0) (C0 := C0) (SF0 := SF0) (BF0 := BF0) (r7 := r7) (r8 := r8) (r9 := r9) (a7 := a7) (a8 := a8) (a9 := a9) (a15 := a15) (cm := cm) (cd := cd) (im := im) (LF := LF) (nw := nw) hps hsc hbc hi K1574 160 0 rfl
                refine v_sub ?_ k9
                exact ⟨rfl, rfl, rfl, rfl, rfl, rfl, rfl, rfl, rfl, rfl, rfl, rfl, rfl, rfl, rfl, rfl, rfl, rfl, rfl, rfl, rfl, trivial⟩
          · refine v_sipush (pc := 1386) (v := 200) dL_law_1386 rfl ?_
            refine v_aloadR (pc := 1389) dL_law_1389 rfl ?_
            refine v_iload (pc := 1391) dL_law_1391 rfl ?_
            refine v_aaldS (pc := 1393) 48 (k := i) (by decide) rfl (by omega) (by omega) dL_law_1393 ?_
            refine v_iconst (pc := 1394) (v := 0) dL_law_1394 rfl ?_
            refine v_ialdGN (pc := 1395) 49 (j := 0) rfl (by omega) (by decide) (by decide) dL_law_1395 ?_
            try dsimp only [wb, tlS_0, tlS_1, tlS_2, tlS_3, tlS_4, tlS_5, tlS_6, tlS_7, tlS_8, tlC_0, tlC_1, tlC_2, tlC_3, LawM, LakeM, WaysM, WorldM, SimM, List.set_cons_succ, List.set_cons_zero, List.append_nil, List.nil_append, List.cons_append, Option.toList, Nat.sub_zero]
            refine v_bipush (pc := 1396) (v := 12) dL_law_1396 rfl ?_
            refine v_iload (pc := 1398) dL_law_1398 rfl ?_
            refine v_imul (pc := 1400) dL_law_1400 ?_
            refine v_bipush (pc := 1401) (v := 6) dL_law_1401 rfl ?_
            refine v_aloadR (pc := 1403) dL_law_1403 rfl ?_
            refine v_iload (pc := 1405) dL_law_1405 rfl ?_
            refine v_aaldS (pc := 1407) 48 (k := i) (by decide) rfl (by omega) (by omega) dL_law_1407 ?_
            refine v_iconst (pc := 1408) (v := 0) dL_law_1408 rfl ?_
            refine v_ialdGN (pc := 1409) 49 (j := 0) rfl (by omega) (by decide) (by decide) dL_law_1409 ?_
            try dsimp only [wb, tlS_0, tlS_1, tlS_2, tlS_3, tlS_4, tlS_5, tlS_6, tlS_7, tlS_8, tlC_0, tlC_1, tlC_2, tlC_3, LawM, LakeM, WaysM, WorldM, SimM, List.set_cons_succ, List.set_cons_zero, List.append_nil, List.nil_append, List.cons_append, Option.toList, Nat.sub_zero]
            refine v_bipush (pc := 1410) (v := 10) dL_law_1410 rfl ?_
            refine v_idiv (pc := 1412) dL_law_1412 (by decide) ?_
            refine v_iadd (pc := 1413) dL_law_1413 ?_
            refine v_idiv (pc := 1414) dL_law_1414 (sixp c1363) ?_
            refine v_iadd (pc := 1415) dL_law_1415 ?_
            refine v_mmin (pc := 1416) q732 q403 q15 q404 (by decide) (Nat.le_of_ble_eq_true rfl) dL_law_1416 ?_
            refine v_goto (pc := 1419) (tgt := 1438) dL_law_1419 (by decide) ?_
            refine v_istore (pc := 1438) dL_law_1438 (by show _ < 26; decide) rfl ?_
            refine v_iload (pc := 1440) dL_law_1440 rfl ?_
            refine v_if_eq (pc := 1442) (tgt := 1466) dL_law_1442 (by decide) (fun c1442 => ?_) (fun c1442 => ?_)
            · refine v_aloadR (pc := 1466) dL_law_1466 rfl ?_
              refine v_iload (pc := 1468) dL_law_1468 rfl ?_
              refine v_aaldS (pc := 1470) 48 (k := i) (by decide) rfl (by omega) (by omega) dL_law_1470 ?_
              refine v_iconst (pc := 1471) (v := 2) dL_law_1471 rfl ?_
              refine v_ialdGN (pc := 1472) 49 (j := 2) rfl (by omega) (by decide) (by decide) dL_law_1472 ?_
              try dsimp only [wb, tlS_0, tlS_1, tlS_2, tlS_3, tlS_4, tlS_5, tlS_6, tlS_7, tlS_8, tlC_0, tlC_1, tlC_2, tlC_3, LawM, LakeM, WaysM, WorldM, SimM, List.set_cons_succ, List.set_cons_zero, List.append_nil, List.nil_append, List.cons_append, Option.toList, Nat.sub_zero]
              refine v_istore (pc := 1473) dL_law_1473 (by show _ < 26; decide) rfl ?_
              have hbx := bas_1 (hh := t0) (f := cd) (S := S0) (c := i) (fun q => hm0 c1442 q.1)
              rw [hbx] at h5 h6 hb0
              refine v_iload (pc := 1475) dL_law_1475 rfl ?_
              refine v_iload (pc := 1477) dL_law_1477 rfl ?_
              refine v_icmp_ne (pc := 1479) (tgt := 1519) dL_law_1479 (by decide) (fun c1479 => absurd (h4.trans (thn_2 (fun q => q.elim c1363 (fun q => q (hm1 c1368))) (Int32.not_le.mp c1383))) c1479) (fun c1479 => ?_)
              refine v_iload (pc := 1482) dL_law_1482 rfl ?_
              refine v_iload (pc := 1484) dL_law_1484 rfl ?_
              refine v_icmp_lt (pc := 1486) (tgt := 1519) dL_law_1486 (by decide) (fun c1486 => absurd c1486 (Int32.not_lt.mpr (i_le.mpr h5))) (fun c1486 => ?_)
              refine v_iload (pc := 1489) dL_law_1489 rfl ?_
              refine v_bipush (pc := 1491) (v := 9) dL_law_1491 rfl ?_
              refine v_iload (pc := 1493) dL_law_1493 rfl ?_
              refine v_aloadR (pc := 1495) dL_law_1495 rfl ?_
              refine v_iload (pc := 1497) dL_law_1497 rfl ?_
              refine v_ialdN (pc := 1499) 54 (k := i) rfl (by omega) (by omega) dL_law_1499 ?_
              rw [hL9]
              refine v_iadd (pc := 1500) dL_law_1500 ?_
              refine v_mmin (pc := 1501) q732 q403 q15 q404 (by decide) (Nat.le_of_ble_eq_true rfl) dL_law_1501 ?_
              refine v_icmp_gt (pc := 1504) (tgt := 1519) dL_law_1504 (by decide) (fun c1504 => absurd (smin h6 h7.2 ⟨hb0, by omega⟩ hn5) (Int32.not_le.mpr c1504)) (fun c1504 => ?_)
              refine v_iload (pc := 1507) dL_law_1507 rfl ?_
              refine v_aloadR (pc := 1509) dL_law_1509 rfl ?_
              refine v_iload (pc := 1511) dL_law_1511 rfl ?_
              refine v_aaldS (pc := 1513) 48 (k := i) (by decide) rfl (by omega) (by omega) dL_law_1513 ?_
              refine v_iconst (pc := 1514) (v := 3) dL_law_1514 rfl ?_
              refine v_ialdGN (pc := 1515) 49 (j := 3) rfl (by omega) (by decide) (by decide) dL_law_1515 ?_
              try dsimp only [wb, tlS_0, tlS_1, tlS_2, tlS_3, tlS_4, tlS_5, tlS_6, tlS_7, tlS_8, tlC_0, tlC_1, tlC_2, tlC_3, LawM, LakeM, WaysM, WorldM, SimM, List.set_cons_succ, List.set_cons_zero, List.append_nil, List.nil_append, List.cons_append, Option.toList, Nat.sub_zero]
              refine v_icmp_ge (pc := 1516) (tgt := 1521) dL_law_1516 (by decide) (fun c1516 => ?_) (fun c1516 => absurd (bI_mono h8) c1516)
              refine v_iconst (pc := 1521) (v := 0) dL_law_1521 rfl ?_
              refine v_istore (pc := 1522) dL_law_1522 (by show _ < 26; decide) rfl ?_
              refine v_iconst (pc := 1524) (v := 0) dL_law_1524 rfl ?_
              refine v_istore (pc := 1525) dL_law_1525 (by show _ < 26; decide) rfl ?_
              refine v_room (ck' := ck + 4 * m) (sk' := sk + 24 * m) (by omega) (by omega) ?_
              have k9 := lw_be (G := G) (nm := nm) (hd9 := hd9) (Z := Z) (ck := ck + 4 * m) (sk := sk + 24 * m) (g0 := g0) (w := w) (u := u) (v := v) (xs := xs) (bs := bs) (a := a) (b := b) (f := f) (wa := wa) (lr := lr) (nd := nd) (dg := dg) (T := T) (N := N) (S := S) (C := C) (B := B) (O := O) (ch := ch) (PC := PC) (SF := SF) (BF := BF) (ps := ps) (sc := sc) (bc := bc) (hh := hh) (a2 := a2) (b2 := b2) (f2 := f2) (wa2 := wa2) (lr2 := lr2) (nd2 := nd2) (dg2 := dg2) (T2 := T2) (N2 := N2) (S2 := S2) (C2 := C2) (B2 := B2) (O2 := O2) (ch2 := ch2) (PC2 := PC2) (SF2 := SF2) (BF2 := BF2) (ps2 := ps2) (sc2 := sc2) (hh2 := hh2) (MX := MX) (H := H) (D := D) (t0 := t0) (T0 := T0) (S0 := S0) (C0 := C0) (SF0 := SF0) (BF0 := BF0) (r7 := r7) (r8 := r8) (r9 := r9) (a7 := a7) (a8 := a8) (a9 := a9) (a15 := a15) (cm := cm) (cd := cd) (im := im) (LF := LF) (nw := nw) hps hsc hbc hi K1574 160 0 rfl
              refine v_sub ?_ k9
              exact ⟨rfl, rfl, rfl, rfl, rfl, rfl, rfl, rfl, rfl, rfl, rfl, rfl, rfl, rfl, rfl, rfl, rfl, rfl, rfl, rfl, rfl, trivial⟩
            · refine v_iload (pc := 1445) dL_law_1445 rfl ?_
              refine v_if_le (pc := 1447) (tgt := 1466) dL_law_1447 (by decide) (fun c1447 => ?_) (fun c1447 => ?_)
              · refine v_aloadR (pc := 1466) dL_law_1466 rfl ?_
                refine v_iload (pc := 1468) dL_law_1468 rfl ?_
                refine v_aaldS (pc := 1470) 48 (k := i) (by decide) rfl (by omega) (by omega) dL_law_1470 ?_
                refine v_iconst (pc := 1471) (v := 2) dL_law_1471 rfl ?_
                refine v_ialdGN (pc := 1472) 49 (j := 2) rfl (by omega) (by decide) (by decide) dL_law_1472 ?_
                try dsimp only [wb, tlS_0, tlS_1, tlS_2, tlS_3, tlS_4, tlS_5, tlS_6, tlS_7, tlS_8, tlC_0, tlC_1, tlC_2, tlC_3, LawM, LakeM, WaysM, WorldM, SimM, List.set_cons_succ, List.set_cons_zero, List.append_nil, List.nil_append, List.cons_append, Option.toList, Nat.sub_zero]
                refine v_istore (pc := 1473) dL_law_1473 (by show _ < 26; decide) rfl ?_
                have hbx := bas_1 (hh := t0) (f := cd) (S := S0) (c := i) (fun q => Int32.not_lt.mpr c1447 q.2)
                rw [hbx] at h5 h6 hb0
                refine v_iload (pc := 1475) dL_law_1475 rfl ?_
                refine v_iload (pc := 1477) dL_law_1477 rfl ?_
                refine v_icmp_ne (pc := 1479) (tgt := 1519) dL_law_1479 (by decide) (fun c1479 => absurd (h4.trans (thn_2 (fun q => q.elim c1363 (fun q => q (hm1 c1368))) (Int32.not_le.mp c1383))) c1479) (fun c1479 => ?_)
                refine v_iload (pc := 1482) dL_law_1482 rfl ?_
                refine v_iload (pc := 1484) dL_law_1484 rfl ?_
                refine v_icmp_lt (pc := 1486) (tgt := 1519) dL_law_1486 (by decide) (fun c1486 => absurd c1486 (Int32.not_lt.mpr (i_le.mpr h5))) (fun c1486 => ?_)
                refine v_iload (pc := 1489) dL_law_1489 rfl ?_
                refine v_bipush (pc := 1491) (v := 9) dL_law_1491 rfl ?_
                refine v_iload (pc := 1493) dL_law_1493 rfl ?_
                refine v_aloadR (pc := 1495) dL_law_1495 rfl ?_
                refine v_iload (pc := 1497) dL_law_1497 rfl ?_
                refine v_ialdN (pc := 1499) 54 (k := i) rfl (by omega) (by omega) dL_law_1499 ?_
                rw [hL9]
                refine v_iadd (pc := 1500) dL_law_1500 ?_
                refine v_mmin (pc := 1501) q732 q403 q15 q404 (by decide) (Nat.le_of_ble_eq_true rfl) dL_law_1501 ?_
                refine v_icmp_gt (pc := 1504) (tgt := 1519) dL_law_1504 (by decide) (fun c1504 => absurd (smin h6 h7.2 ⟨hb0, by omega⟩ hn5) (Int32.not_le.mpr c1504)) (fun c1504 => ?_)
                refine v_iload (pc := 1507) dL_law_1507 rfl ?_
                refine v_aloadR (pc := 1509) dL_law_1509 rfl ?_
                refine v_iload (pc := 1511) dL_law_1511 rfl ?_
                refine v_aaldS (pc := 1513) 48 (k := i) (by decide) rfl (by omega) (by omega) dL_law_1513 ?_
                refine v_iconst (pc := 1514) (v := 3) dL_law_1514 rfl ?_
                refine v_ialdGN (pc := 1515) 49 (j := 3) rfl (by omega) (by decide) (by decide) dL_law_1515 ?_
                try dsimp only [wb, tlS_0, tlS_1, tlS_2, tlS_3, tlS_4, tlS_5, tlS_6, tlS_7, tlS_8, tlC_0, tlC_1, tlC_2, tlC_3, LawM, LakeM, WaysM, WorldM, SimM, List.set_cons_succ, List.set_cons_zero, List.append_nil, List.nil_append, List.cons_append, Option.toList, Nat.sub_zero]
                refine v_icmp_ge (pc := 1516) (tgt := 1521) dL_law_1516 (by decide) (fun c1516 => ?_) (fun c1516 => absurd (bI_mono h8) c1516)
                refine v_iconst (pc := 1521) (v := 0) dL_law_1521 rfl ?_
                refine v_istore (pc := 1522) dL_law_1522 (by show _ < 26; decide) rfl ?_
                refine v_iconst (pc := 1524) (v := 0) dL_law_1524 rfl ?_
                refine v_istore (pc := 1525) dL_law_1525 (by show _ < 26; decide) rfl ?_
                refine v_room (ck' := ck + 4 * m) (sk' := sk + 24 * m) (by omega) (by omega) ?_
                have k9 := lw_be (G := G) (nm := nm) (hd9 := hd9) (Z := Z) (ck := ck + 4 * m) (sk := sk + 24 * m) (g0 := g0) (w := w) (u := u) (v := v) (xs := xs) (bs := bs) (a := a) (b := b) (f := f) (wa := wa) (lr := lr) (nd := nd) (dg := dg) (T := T) (N := N) (S := S) (C := C) (B := B) (O := O) (ch := ch) (PC := PC) (SF := SF) (BF := BF) (ps := ps) (sc := sc) (bc := bc) (hh := hh) (a2 := a2) (b2 := b2) (f2 := f2) (wa2 := wa2) (lr2 := lr2) (nd2 := nd2) (dg2 := dg2) (T2 := T2) (N2 := N2) (S2 := S2) (C2 := C2) (B2 := B2) (O2 := O2) (ch2 := ch2) (PC2 := PC2) (SF2 := SF2) (BF2 := BF2) (ps2 := ps2) (sc2 := sc2) (hh2 := hh2) (MX := MX) (H := H) (D := D) (t0 := t0) (T0 := T0) (S0 := S0) (C0 := C0) (SF0 := SF0) (BF0 := BF0) (r7 := r7) (r8 := r8) (r9 := r9) (a7 := a7) (a8 := a8) (a9 := a9) (a15 := a15) (cm := cm) (cd := cd) (im := im) (LF := LF) (nw := nw) hps hsc hbc hi K1574 160 0 rfl
                refine v_sub ?_ k9
                exact ⟨rfl, rfl, rfl, rfl, rfl, rfl, rfl, rfl, rfl, rfl, rfl, rfl, rfl, rfl, rfl, rfl, rfl, rfl, rfl, rfl, rfl, trivial⟩
              · refine v_iconst (pc := 1450) (v := 0) dL_law_1450 rfl ?_
                refine v_aloadR (pc := 1451) dL_law_1451 rfl ?_
                refine v_iload (pc := 1453) dL_law_1453 rfl ?_
                refine v_aaldS (pc := 1455) 48 (k := i) (by decide) rfl (by omega) (by omega) dL_law_1455 ?_
                refine v_iconst (pc := 1456) (v := 2) dL_law_1456 rfl ?_
                refine v_ialdGN (pc := 1457) 49 (j := 2) rfl (by omega) (by decide) (by decide) dL_law_1457 ?_
                try dsimp only [wb, tlS_0, tlS_1, tlS_2, tlS_3, tlS_4, tlS_5, tlS_6, tlS_7, tlS_8, tlC_0, tlC_1, tlC_2, tlC_3, LawM, LakeM, WaysM, WorldM, SimM, List.set_cons_succ, List.set_cons_zero, List.append_nil, List.nil_append, List.cons_append, Option.toList, Nat.sub_zero]
                refine v_iconst (pc := 1458) (v := 2) dL_law_1458 rfl ?_
                refine v_isub (pc := 1459) dL_law_1459 ?_
                refine v_mmax (pc := 1460) q851 q406 q15 q407 (by decide) (Nat.le_of_ble_eq_true rfl) dL_law_1460 ?_
                refine v_goto (pc := 1463) (tgt := 1473) dL_law_1463 (by decide) ?_
                refine v_istore (pc := 1473) dL_law_1473 (by show _ < 26; decide) rfl ?_
                have hbx := bas_2 (hh := t0) (f := cd) (S := S0) (c := i) ⟨hm1 c1442, Int32.not_le.mp c1447⟩
                rw [hbx] at h5 h6 hb0
                refine v_iload (pc := 1475) dL_law_1475 rfl ?_
                refine v_iload (pc := 1477) dL_law_1477 rfl ?_
                refine v_icmp_ne (pc := 1479) (tgt := 1519) dL_law_1479 (by decide) (fun c1479 => absurd (h4.trans (thn_2 (fun q => q.elim c1363 (fun q => q (hm1 c1368))) (Int32.not_le.mp c1383))) c1479) (fun c1479 => ?_)
                refine v_iload (pc := 1482) dL_law_1482 rfl ?_
                refine v_iload (pc := 1484) dL_law_1484 rfl ?_
                refine v_icmp_lt (pc := 1486) (tgt := 1519) dL_law_1486 (by decide) (fun c1486 => absurd c1486 (Int32.not_lt.mpr (i_le.mpr h5))) (fun c1486 => ?_)
                refine v_iload (pc := 1489) dL_law_1489 rfl ?_
                refine v_bipush (pc := 1491) (v := 9) dL_law_1491 rfl ?_
                refine v_iload (pc := 1493) dL_law_1493 rfl ?_
                refine v_aloadR (pc := 1495) dL_law_1495 rfl ?_
                refine v_iload (pc := 1497) dL_law_1497 rfl ?_
                refine v_ialdN (pc := 1499) 54 (k := i) rfl (by omega) (by omega) dL_law_1499 ?_
                rw [hL9]
                refine v_iadd (pc := 1500) dL_law_1500 ?_
                refine v_mmin (pc := 1501) q732 q403 q15 q404 (by decide) (Nat.le_of_ble_eq_true rfl) dL_law_1501 ?_
                refine v_icmp_gt (pc := 1504) (tgt := 1519) dL_law_1504 (by decide) (fun c1504 => absurd (smin h6 h7.2 ⟨hb0, by omega⟩ hn5) (Int32.not_le.mpr c1504)) (fun c1504 => ?_)
                refine v_iload (pc := 1507) dL_law_1507 rfl ?_
                refine v_aloadR (pc := 1509) dL_law_1509 rfl ?_
                refine v_iload (pc := 1511) dL_law_1511 rfl ?_
                refine v_aaldS (pc := 1513) 48 (k := i) (by decide) rfl (by omega) (by omega) dL_law_1513 ?_
                refine v_iconst (pc := 1514) (v := 3) dL_law_1514 rfl ?_
                refine v_ialdGN (pc := 1515) 49 (j := 3) rfl (by omega) (by decide) (by decide) dL_law_1515 ?_
                try dsimp only [wb, tlS_0, tlS_1, tlS_2, tlS_3, tlS_4, tlS_5, tlS_6, tlS_7, tlS_8, tlC_0, tlC_1, tlC_2, tlC_3, LawM, LakeM, WaysM, WorldM, SimM, List.set_cons_succ, List.set_cons_zero, List.append_nil, List.nil_append, List.cons_append, Option.toList, Nat.sub_zero]
                refine v_icmp_ge (pc := 1516) (tgt := 1521) dL_law_1516 (by decide) (fun c1516 => ?_) (fun c1516 => absurd (bI_mono h8) c1516)
                refine v_iconst (pc := 1521) (v := 0) dL_law_1521 rfl ?_
                refine v_istore (pc := 1522) dL_law_1522 (by show _ < 26; decide) rfl ?_
                refine v_iconst (pc := 1524) (v := 0) dL_law_1524 rfl ?_
                refine v_istore (pc := 1525) dL_law_1525 (by show _ < 26; decide) rfl ?_
                refine v_room (ck' := ck + 4 * m) (sk' := sk + 24 * m) (by omega) (by omega) ?_
                have k9 := lw_be (G := G) (nm := nm) (hd9 := hd9) (Z := Z) (ck := ck + 4 * m) (sk := sk + 24 * m) (g0 := g0) (w := w) (u := u) (v := v) (xs := xs) (bs := bs) (a := a) (b := b) (f := f) (wa := wa) (lr := lr) (nd := nd) (dg := dg) (T := T) (N := N) (S := S) (C := C) (B := B) (O := O) (ch := ch) (PC := PC) (SF := SF) (BF := BF) (ps := ps) (sc := sc) (bc := bc) (hh := hh) (a2 := a2) (b2 := b2) (f2 := f2) (wa2 := wa2) (lr2 := lr2) (nd2 := nd2) (dg2 := dg2) (T2 := T2) (N2 := N2) (S2 := S2) (C2 := C2) (B2 := B2) (O2 := O2) (ch2 := ch2) (PC2 := PC2) (SF2 := SF2) (BF2 := BF2) (ps2 := ps2) (sc2 := sc2) (hh2 := hh2) (MX := MX) (H := H) (D := D) (t0 := t0) (T0 := T0) (S0 := S0) (C0 := C0) (SF0 := SF0) (BF0 := BF0) (r7 := r7) (r8 := r8) (r9 := r9) (a7 := a7) (a8 := a8) (a9 := a9) (a15 := a15) (cm := cm) (cd := cd) (im := im) (LF := LF) (nw := nw) hps hsc hbc hi K1574 160 0 rfl
                refine v_sub ?_ k9
                exact ⟨rfl, rfl, rfl, rfl, rfl, rfl, rfl, rfl, rfl, rfl, rfl, rfl, rfl, rfl, rfl, rfl, rfl, rfl, rfl, rfl, rfl, trivial⟩
        · refine v_aloadR (pc := 1371) dL_law_1371 rfl ?_
          refine v_iload (pc := 1373) dL_law_1373 rfl ?_
          refine v_aaldS (pc := 1375) 48 (k := i) (by decide) rfl (by omega) (by omega) dL_law_1375 ?_
          refine v_iconst (pc := 1376) (v := 0) dL_law_1376 rfl ?_
          refine v_ialdGN (pc := 1377) 49 (j := 0) rfl (by omega) (by decide) (by decide) dL_law_1377 ?_
          try dsimp only [wb, tlS_0, tlS_1, tlS_2, tlS_3, tlS_4, tlS_5, tlS_6, tlS_7, tlS_8, tlC_0, tlC_1, tlC_2, tlC_3, LawM, LakeM, WaysM, WorldM, SimM, List.set_cons_succ, List.set_cons_zero, List.append_nil, List.nil_append, List.cons_append, Option.toList, Nat.sub_zero]
          refine v_goto (pc := 1378) (tgt := 1438) dL_law_1378 (by decide) ?_
          refine v_istore (pc := 1438) dL_law_1438 (by show _ < 26; decide) rfl ?_
          refine v_iload (pc := 1440) dL_law_1440 rfl ?_
          refine v_if_eq (pc := 1442) (tgt := 1466) dL_law_1442 (by decide) (fun c1442 => ?_) (fun c1442 => ?_)
          · refine v_aloadR (pc := 1466) dL_law_1466 rfl ?_
            refine v_iload (pc := 1468) dL_law_1468 rfl ?_
            refine v_aaldS (pc := 1470) 48 (k := i) (by decide) rfl (by omega) (by omega) dL_law_1470 ?_
            refine v_iconst (pc := 1471) (v := 2) dL_law_1471 rfl ?_
            refine v_ialdGN (pc := 1472) 49 (j := 2) rfl (by omega) (by decide) (by decide) dL_law_1472 ?_
            try dsimp only [wb, tlS_0, tlS_1, tlS_2, tlS_3, tlS_4, tlS_5, tlS_6, tlS_7, tlS_8, tlC_0, tlC_1, tlC_2, tlC_3, LawM, LakeM, WaysM, WorldM, SimM, List.set_cons_succ, List.set_cons_zero, List.append_nil, List.nil_append, List.cons_append, Option.toList, Nat.sub_zero]
            refine v_istore (pc := 1473) dL_law_1473 (by show _ < 26; decide) rfl ?_
            have hbx := bas_1 (hh := t0) (f := cd) (S := S0) (c := i) (fun q => hm0 c1442 q.1)
            rw [hbx] at h5 h6 hb0
            refine v_iload (pc := 1475) dL_law_1475 rfl ?_
            refine v_iload (pc := 1477) dL_law_1477 rfl ?_
            refine v_icmp_ne (pc := 1479) (tgt := 1519) dL_law_1479 (by decide) (fun c1479 => absurd (h4.trans (thn_1 (Or.inr (hm0 c1368)))) c1479) (fun c1479 => ?_)
            refine v_iload (pc := 1482) dL_law_1482 rfl ?_
            refine v_iload (pc := 1484) dL_law_1484 rfl ?_
            refine v_icmp_lt (pc := 1486) (tgt := 1519) dL_law_1486 (by decide) (fun c1486 => absurd c1486 (Int32.not_lt.mpr (i_le.mpr h5))) (fun c1486 => ?_)
            refine v_iload (pc := 1489) dL_law_1489 rfl ?_
            refine v_bipush (pc := 1491) (v := 9) dL_law_1491 rfl ?_
            refine v_iload (pc := 1493) dL_law_1493 rfl ?_
            refine v_aloadR (pc := 1495) dL_law_1495 rfl ?_
            refine v_iload (pc := 1497) dL_law_1497 rfl ?_
            refine v_ialdN (pc := 1499) 54 (k := i) rfl (by omega) (by omega) dL_law_1499 ?_
            rw [hL9]
            refine v_iadd (pc := 1500) dL_law_1500 ?_
            refine v_mmin (pc := 1501) q732 q403 q15 q404 (by decide) (Nat.le_of_ble_eq_true rfl) dL_law_1501 ?_
            refine v_icmp_gt (pc := 1504) (tgt := 1519) dL_law_1504 (by decide) (fun c1504 => absurd (smin h6 h7.2 ⟨hb0, by omega⟩ hn5) (Int32.not_le.mpr c1504)) (fun c1504 => ?_)
            refine v_iload (pc := 1507) dL_law_1507 rfl ?_
            refine v_aloadR (pc := 1509) dL_law_1509 rfl ?_
            refine v_iload (pc := 1511) dL_law_1511 rfl ?_
            refine v_aaldS (pc := 1513) 48 (k := i) (by decide) rfl (by omega) (by omega) dL_law_1513 ?_
            refine v_iconst (pc := 1514) (v := 3) dL_law_1514 rfl ?_
            refine v_ialdGN (pc := 1515) 49 (j := 3) rfl (by omega) (by decide) (by decide) dL_law_1515 ?_
            try dsimp only [wb, tlS_0, tlS_1, tlS_2, tlS_3, tlS_4, tlS_5, tlS_6, tlS_7, tlS_8, tlC_0, tlC_1, tlC_2, tlC_3, LawM, LakeM, WaysM, WorldM, SimM, List.set_cons_succ, List.set_cons_zero, List.append_nil, List.nil_append, List.cons_append, Option.toList, Nat.sub_zero]
            refine v_icmp_ge (pc := 1516) (tgt := 1521) dL_law_1516 (by decide) (fun c1516 => ?_) (fun c1516 => absurd (bI_mono h8) c1516)
            refine v_iconst (pc := 1521) (v := 0) dL_law_1521 rfl ?_
            refine v_istore (pc := 1522) dL_law_1522 (by show _ < 26; decide) rfl ?_
            refine v_iconst (pc := 1524) (v := 0) dL_law_1524 rfl ?_
            refine v_istore (pc := 1525) dL_law_1525 (by show _ < 26; decide) rfl ?_
            refine v_room (ck' := ck + 4 * m) (sk' := sk + 24 * m) (by omega) (by omega) ?_
            have k9 := lw_be (G := G) (nm := nm) (hd9 := hd9) (Z := Z) (ck := ck + 4 * m) (sk := sk + 24 * m) (g0 := g0) (w := w) (u := u) (v := v) (xs := xs) (bs := bs) (a := a) (b := b) (f := f) (wa := wa) (lr := lr) (nd := nd) (dg := dg) (T := T) (N := N) (S := S) (C := C) (B := B) (O := O) (ch := ch) (PC := PC) (SF := SF) (BF := BF) (ps := ps) (sc := sc) (bc := bc) (hh := hh) (a2 := a2) (b2 := b2) (f2 := f2) (wa2 := wa2) (lr2 := lr2) (nd2 := nd2) (dg2 := dg2) (T2 := T2) (N2 := N2) (S2 := S2) (C2 := C2) (B2 := B2) (O2 := O2) (ch2 := ch2) (PC2 := PC2) (SF2 := SF2) (BF2 := BF2) (ps2 := ps2) (sc2 := sc2) (hh2 := hh2) (MX := MX) (H := H) (D := D) (t0 := t0) (T0 := T0) (S0 := S0) (C0 := C0) (SF0 := SF0) (BF0 := BF0) (r7 := r7) (r8 := r8) (r9 := r9) (a7 := a7) (a8 := a8) (a9 := a9) (a15 := a15) (cm := cm) (cd := cd) (im := im) (LF := LF) (nw := nw) hps hsc hbc hi K1574 160 0 rfl
            refine v_sub ?_ k9
            exact ⟨rfl, rfl, rfl, rfl, rfl, rfl, rfl, rfl, rfl, rfl, rfl, rfl, rfl, rfl, rfl, rfl, rfl, rfl, rfl, rfl, rfl, trivial⟩
          · refine v_iload (pc := 1445) dL_law_1445 rfl ?_
            refine v_if_le (pc := 1447) (tgt := 1466) dL_law_1447 (by decide) (fun c1447 => ?_) (fun c1447 => ?_)
            · refine v_aloadR (pc := 1466) dL_law_1466 rfl ?_
              refine v_iload (pc := 1468) dL_law_1468 rfl ?_
              refine v_aaldS (pc := 1470) 48 (k := i) (by decide) rfl (by omega) (by omega) dL_law_1470 ?_
              refine v_iconst (pc := 1471) (v := 2) dL_law_1471 rfl ?_
              refine v_ialdGN (pc := 1472) 49 (j := 2) rfl (by omega) (by decide) (by decide) dL_law_1472 ?_
              try dsimp only [wb, tlS_0, tlS_1, tlS_2, tlS_3, tlS_4, tlS_5, tlS_6, tlS_7, tlS_8, tlC_0, tlC_1, tlC_2, tlC_3, LawM, LakeM, WaysM, WorldM, SimM, List.set_cons_succ, List.set_cons_zero, List.append_nil, List.nil_append, List.cons_append, Option.toList, Nat.sub_zero]
              refine v_istore (pc := 1473) dL_law_1473 (by show _ < 26; decide) rfl ?_
              have hbx := bas_1 (hh := t0) (f := cd) (S := S0) (c := i) (fun q => Int32.not_lt.mpr c1447 q.2)
              rw [hbx] at h5 h6 hb0
              refine v_iload (pc := 1475) dL_law_1475 rfl ?_
              refine v_iload (pc := 1477) dL_law_1477 rfl ?_
              refine v_icmp_ne (pc := 1479) (tgt := 1519) dL_law_1479 (by decide) (fun c1479 => absurd (h4.trans (thn_1 (Or.inr (hm0 c1368)))) c1479) (fun c1479 => ?_)
              refine v_iload (pc := 1482) dL_law_1482 rfl ?_
              refine v_iload (pc := 1484) dL_law_1484 rfl ?_
              refine v_icmp_lt (pc := 1486) (tgt := 1519) dL_law_1486 (by decide) (fun c1486 => absurd c1486 (Int32.not_lt.mpr (i_le.mpr h5))) (fun c1486 => ?_)
              refine v_iload (pc := 1489) dL_law_1489 rfl ?_
              refine v_bipush (pc := 1491) (v := 9) dL_law_1491 rfl ?_
              refine v_iload (pc := 1493) dL_law_1493 rfl ?_
              refine v_aloadR (pc := 1495) dL_law_1495 rfl ?_
              refine v_iload (pc := 1497) dL_law_1497 rfl ?_
              refine v_ialdN (pc := 1499) 54 (k := i) rfl (by omega) (by omega) dL_law_1499 ?_
              rw [hL9]
              refine v_iadd (pc := 1500) dL_law_1500 ?_
              refine v_mmin (pc := 1501) q732 q403 q15 q404 (by decide) (Nat.le_of_ble_eq_true rfl) dL_law_1501 ?_
              refine v_icmp_gt (pc := 1504) (tgt := 1519) dL_law_1504 (by decide) (fun c1504 => absurd (smin h6 h7.2 ⟨hb0, by omega⟩ hn5) (Int32.not_le.mpr c1504)) (fun c1504 => ?_)
              refine v_iload (pc := 1507) dL_law_1507 rfl ?_
              refine v_aloadR (pc := 1509) dL_law_1509 rfl ?_
              refine v_iload (pc := 1511) dL_law_1511 rfl ?_
              refine v_aaldS (pc := 1513) 48 (k := i) (by decide) rfl (by omega) (by omega) dL_law_1513 ?_
              refine v_iconst (pc := 1514) (v := 3) dL_law_1514 rfl ?_
              refine v_ialdGN (pc := 1515) 49 (j := 3) rfl (by omega) (by decide) (by decide) dL_law_1515 ?_
              try dsimp only [wb, tlS_0, tlS_1, tlS_2, tlS_3, tlS_4, tlS_5, tlS_6, tlS_7, tlS_8, tlC_0, tlC_1, tlC_2, tlC_3, LawM, LakeM, WaysM, WorldM, SimM, List.set_cons_succ, List.set_cons_zero, List.append_nil, List.nil_append, List.cons_append, Option.toList, Nat.sub_zero]
              refine v_icmp_ge (pc := 1516) (tgt := 1521) dL_law_1516 (by decide) (fun c1516 => ?_) (fun c1516 => absurd (bI_mono h8) c1516)
              refine v_iconst (pc := 1521) (v := 0) dL_law_1521 rfl ?_
              refine v_istore (pc := 1522) dL_law_1522 (by show _ < 26; decide) rfl ?_
              refine v_iconst (pc := 1524) (v := 0) dL_law_1524 rfl ?_
              refine v_istore (pc := 1525) dL_law_1525 (by show _ < 26; decide) rfl ?_
              refine v_room (ck' := ck + 4 * m) (sk' := sk + 24 * m) (by omega) (by omega) ?_
              have k9 := lw_be (G := G) (nm := nm) (hd9 := hd9) (Z := Z) (ck := ck + 4 * m) (sk := sk + 24 * m) (g0 := g0) (w := w) (u := u) (v := v) (xs := xs) (bs := bs) (a := a) (b := b) (f := f) (wa := wa) (lr := lr) (nd := nd) (dg := dg) (T := T) (N := N) (S := S) (C := C) (B := B) (O := O) (ch := ch) (PC := PC) (SF := SF) (BF := BF) (ps := ps) (sc := sc) (bc := bc) (hh := hh) (a2 := a2) (b2 := b2) (f2 := f2) (wa2 := wa2) (lr2 := lr2) (nd2 := nd2) (dg2 := dg2) (T2 := T2) (N2 := N2) (S2 := S2) (C2 := C2) (B2 := B2) (O2 := O2) (ch2 := ch2) (PC2 := PC2) (SF2 := SF2) (BF2 := BF2) (ps2 := ps2) (sc2 := sc2) (hh2 := hh2) (MX := MX) (H := H) (D := D) (t0 := t0) (T0 := T0) (S0 := S0) (C0 := C0) (SF0 := SF0) (BF0 := BF0) (r7 := r7) (r8 := r8) (r9 := r9) (a7 := a7) (a8 := a8) (a9 := a9) (a15 := a15) (cm := cm) (cd := cd) (im := im) (LF := LF) (nw := nw) hps hsc hbc hi K1574 160 0 rfl
              refine v_sub ?_ k9
              exact ⟨rfl, rfl, rfl, rfl, rfl, rfl, rfl, rfl, rfl, rfl, rfl, rfl, rfl, rfl, rfl, rfl, rfl, rfl, rfl, rfl, rfl, trivial⟩
            · refine v_iconst (pc := 1450) (v := 0) dL_law_1450 rfl ?_
              refine v_aloadR (pc := 1451) dL_law_1451 rfl ?_
              refine v_iload (pc := 1453) dL_law_1453 rfl ?_
              refine v_aaldS (pc := 1455) 48 (k := i) (by decide) rfl (by omega) (by omega) dL_law_1455 ?_
              refine v_iconst (pc := 1456) (v := 2) dL_law_1456 rfl ?_
              refine v_ialdGN (pc := 1457) 49 (j := 2) rfl (by omega) (by decide) (by decide) dL_law_1457 ?_
              try dsimp only [wb, tlS_0, tlS_1, tlS_2, tlS_3, tlS_4, tlS_5, tlS_6, tlS_7, tlS_8, tlC_0, tlC_1, tlC_2, tlC_3, LawM, LakeM, WaysM, WorldM, SimM, List.set_cons_succ, List.set_cons_zero, List.append_nil, List.nil_append, List.cons_append, Option.toList, Nat.sub_zero]
              refine v_iconst (pc := 1458) (v := 2) dL_law_1458 rfl ?_
              refine v_isub (pc := 1459) dL_law_1459 ?_
              refine v_mmax (pc := 1460) q851 q406 q15 q407 (by decide) (Nat.le_of_ble_eq_true rfl) dL_law_1460 ?_
              refine v_goto (pc := 1463) (tgt := 1473) dL_law_1463 (by decide) ?_
              refine v_istore (pc := 1473) dL_law_1473 (by show _ < 26; decide) rfl ?_
              have hbx := bas_2 (hh := t0) (f := cd) (S := S0) (c := i) ⟨hm1 c1442, Int32.not_le.mp c1447⟩
              rw [hbx] at h5 h6 hb0
              refine v_iload (pc := 1475) dL_law_1475 rfl ?_
              refine v_iload (pc := 1477) dL_law_1477 rfl ?_
              refine v_icmp_ne (pc := 1479) (tgt := 1519) dL_law_1479 (by decide) (fun c1479 => absurd (h4.trans (thn_1 (Or.inr (hm0 c1368)))) c1479) (fun c1479 => ?_)
              refine v_iload (pc := 1482) dL_law_1482 rfl ?_
              refine v_iload (pc := 1484) dL_law_1484 rfl ?_
              refine v_icmp_lt (pc := 1486) (tgt := 1519) dL_law_1486 (by decide) (fun c1486 => absurd c1486 (Int32.not_lt.mpr (i_le.mpr h5))) (fun c1486 => ?_)
              refine v_iload (pc := 1489) dL_law_1489 rfl ?_
              refine v_bipush (pc := 1491) (v := 9) dL_law_1491 rfl ?_
              refine v_iload (pc := 1493) dL_law_1493 rfl ?_
              refine v_aloadR (pc := 1495) dL_law_1495 rfl ?_
              refine v_iload (pc := 1497) dL_law_1497 rfl ?_
              refine v_ialdN (pc := 1499) 54 (k := i) rfl (by omega) (by omega) dL_law_1499 ?_
              rw [hL9]
              refine v_iadd (pc := 1500) dL_law_1500 ?_
              refine v_mmin (pc := 1501) q732 q403 q15 q404 (by decide) (Nat.le_of_ble_eq_true rfl) dL_law_1501 ?_
              refine v_icmp_gt (pc := 1504) (tgt := 1519) dL_law_1504 (by decide) (fun c1504 => absurd (smin h6 h7.2 ⟨hb0, by omega⟩ hn5) (Int32.not_le.mpr c1504)) (fun c1504 => ?_)
              refine v_iload (pc := 1507) dL_law_1507 rfl ?_
              refine v_aloadR (pc := 1509) dL_law_1509 rfl ?_
              refine v_iload (pc := 1511) dL_law_1511 rfl ?_
              refine v_aaldS (pc := 1513) 48 (k := i) (by decide) rfl (by omega) (by omega) dL_law_1513 ?_
              refine v_iconst (pc := 1514) (v := 3) dL_law_1514 rfl ?_
              refine v_ialdGN (pc := 1515) 49 (j := 3) rfl (by omega) (by decide) (by decide) dL_law_1515 ?_
              try dsimp only [wb, tlS_0, tlS_1, tlS_2, tlS_3, tlS_4, tlS_5, tlS_6, tlS_7, tlS_8, tlC_0, tlC_1, tlC_2, tlC_3, LawM, LakeM, WaysM, WorldM, SimM, List.set_cons_succ, List.set_cons_zero, List.append_nil, List.nil_append, List.cons_append, Option.toList, Nat.sub_zero]
              refine v_icmp_ge (pc := 1516) (tgt := 1521) dL_law_1516 (by decide) (fun c1516 => ?_) (fun c1516 => absurd (bI_mono h8) c1516)
              refine v_iconst (pc := 1521) (v := 0) dL_law_1521 rfl ?_
              refine v_istore (pc := 1522) dL_law_1522 (by show _ < 26; decide) rfl ?_
              refine v_iconst (pc := 1524) (v := 0) dL_law_1524 rfl ?_
              refine v_istore (pc := 1525) dL_law_1525 (by show _ < 26; decide) rfl ?_
              refine v_room (ck' := ck + 4 * m) (sk' := sk + 24 * m) (by omega) (by omega) ?_
              have k9 := lw_be (G := G) (nm := nm) (hd9 := hd9) (Z := Z) (ck := ck + 4 * m) (sk := sk + 24 * m) (g0 := g0) (w := w) (u := u) (v := v) (xs := xs) (bs := bs) (a := a) (b := b) (f := f) (wa := wa) (lr := lr) (nd := nd) (dg := dg) (T := T) (N := N) (S := S) (C := C) (B := B) (O := O) (ch := ch) (PC := PC) (SF := SF) (BF := BF) (ps := ps) (sc := sc) (bc := bc) (hh := hh) (a2 := a2) (b2 := b2) (f2 := f2) (wa2 := wa2) (lr2 := lr2) (nd2 := nd2) (dg2 := dg2) (T2 := T2) (N2 := N2) (S2 := S2) (C2 := C2) (B2 := B2) (O2 := O2) (ch2 := ch2) (PC2 := PC2) (SF2 := SF2) (BF2 := BF2) (ps2 := ps2) (sc2 := sc2) (hh2 := hh2) (MX := MX) (H := H) (D := D) (t0 := t0) (T0 := T0) (S0 := S0) (C0 := C0) (SF0 := SF0) (BF0 := BF0) (r7 := r7) (r8 := r8) (r9 := r9) (a7 := a7) (a8 := a8) (a9 := a9) (a15 := a15) (cm := cm) (cd := cd) (im := im) (LF := LF) (nw := nw) hps hsc hbc hi K1574 160 0 rfl
              refine v_sub ?_ k9
              exact ⟨rfl, rfl, rfl, rfl, rfl, rfl, rfl, rfl, rfl, rfl, rfl, rfl, rfl, rfl, rfl, rfl, rfl, rfl, rfl, rfl, rfl, trivial⟩
    · refine v_iconst (pc := 1318) (v := 1) dL_law_1318 rfl ?_
      refine v_goto (pc := 1319) (tgt := 1323) dL_law_1319 (by decide) ?_
      refine v_aloadR (pc := 1323) dL_law_1323 rfl ?_
      refine v_iload (pc := 1325) dL_law_1325 rfl ?_
      refine v_aaldS (pc := 1327) 48 (k := i) (by decide) rfl (by omega) (by omega) dL_law_1327 ?_
      refine v_iconst (pc := 1328) (v := 0) dL_law_1328 rfl ?_
      refine v_ialdGN (pc := 1329) 49 (j := 0) rfl (by omega) (by decide) (by decide) dL_law_1329 ?_
      try dsimp only [wb, tlS_0, tlS_1, tlS_2, tlS_3, tlS_4, tlS_5, tlS_6, tlS_7, tlS_8, tlC_0, tlC_1, tlC_2, tlC_3, LawM, LakeM, WaysM, WorldM, SimM, List.set_cons_succ, List.set_cons_zero, List.append_nil, List.nil_append, List.cons_append, Option.toList, Nat.sub_zero]
      refine v_if_ge (pc := 1330) (tgt := 1337) dL_law_1330 (by decide) (fun c1330 => absurd (h2.mp (Int32.not_le.mp c1315)) (Int32.not_lt.mpr c1330)) (fun c1330 => ?_)
      refine v_iconst (pc := 1333) (v := 1) dL_law_1333 rfl ?_
      refine v_goto (pc := 1334) (tgt := 1338) dL_law_1334 (by decide) ?_
      refine v_icmp_ne (pc := 1338) (tgt := 1354) dL_law_1338 (by decide) (fun c1338 => absurd c1338 (by decide)) (fun c1338 => ?_)
      refine v_iload (pc := 1341) dL_law_1341 rfl ?_
      refine v_if_ge (pc := 1343) (tgt := 1356) dL_law_1343 (by decide) (fun c1343 => absurd c1343 c1315) (fun c1343 => ?_)
      refine v_iload (pc := 1346) dL_law_1346 rfl ?_
      refine v_iload (pc := 1348) dL_law_1348 rfl ?_
      refine v_iadd (pc := 1350) dL_law_1350 ?_
      refine v_if_le (pc := 1351) (tgt := 1356) dL_law_1351 (by decide) (fun c1351 => ?_) (fun c1351 => absurd (by rw [(h3 (Int32.not_le.mp c1343)).1, bI_f (fun q => q (h3 (Int32.not_le.mp c1343)).2)]; decide) c1351)
      refine v_aloadR (pc := 1356) dL_law_1356 rfl ?_
      refine v_iload (pc := 1358) dL_law_1358 rfl ?_
      refine v_aaldS (pc := 1360) 48 (k := i) (by decide) rfl (by omega) (by omega) dL_law_1360 ?_
      refine v_iconst (pc := 1361) (v := 0) dL_law_1361 rfl ?_
      refine v_ialdGN (pc := 1362) 49 (j := 0) rfl (by omega) (by decide) (by decide) dL_law_1362 ?_
      try dsimp only [wb, tlS_0, tlS_1, tlS_2, tlS_3, tlS_4, tlS_5, tlS_6, tlS_7, tlS_8, tlC_0, tlC_1, tlC_2, tlC_3, LawM, LakeM, WaysM, WorldM, SimM, List.set_cons_succ, List.set_cons_zero, List.append_nil, List.nil_append, List.cons_append, Option.toList, Nat.sub_zero]
      refine v_if_lt (pc := 1363) (tgt := 1371) dL_law_1363 (by decide) (fun c1363 => ?_) (fun c1363 => ?_)
      · refine v_aloadR (pc := 1371) dL_law_1371 rfl ?_
        refine v_iload (pc := 1373) dL_law_1373 rfl ?_
        refine v_aaldS (pc := 1375) 48 (k := i) (by decide) rfl (by omega) (by omega) dL_law_1375 ?_
        refine v_iconst (pc := 1376) (v := 0) dL_law_1376 rfl ?_
        refine v_ialdGN (pc := 1377) 49 (j := 0) rfl (by omega) (by decide) (by decide) dL_law_1377 ?_
        try dsimp only [wb, tlS_0, tlS_1, tlS_2, tlS_3, tlS_4, tlS_5, tlS_6, tlS_7, tlS_8, tlC_0, tlC_1, tlC_2, tlC_3, LawM, LakeM, WaysM, WorldM, SimM, List.set_cons_succ, List.set_cons_zero, List.append_nil, List.nil_append, List.cons_append, Option.toList, Nat.sub_zero]
        refine v_goto (pc := 1378) (tgt := 1438) dL_law_1378 (by decide) ?_
        refine v_istore (pc := 1438) dL_law_1438 (by show _ < 26; decide) rfl ?_
        refine v_iload (pc := 1440) dL_law_1440 rfl ?_
        refine v_if_eq (pc := 1442) (tgt := 1466) dL_law_1442 (by decide) (fun c1442 => ?_) (fun c1442 => ?_)
        · refine v_aloadR (pc := 1466) dL_law_1466 rfl ?_
          refine v_iload (pc := 1468) dL_law_1468 rfl ?_
          refine v_aaldS (pc := 1470) 48 (k := i) (by decide) rfl (by omega) (by omega) dL_law_1470 ?_
          refine v_iconst (pc := 1471) (v := 2) dL_law_1471 rfl ?_
          refine v_ialdGN (pc := 1472) 49 (j := 2) rfl (by omega) (by decide) (by decide) dL_law_1472 ?_
          try dsimp only [wb, tlS_0, tlS_1, tlS_2, tlS_3, tlS_4, tlS_5, tlS_6, tlS_7, tlS_8, tlC_0, tlC_1, tlC_2, tlC_3, LawM, LakeM, WaysM, WorldM, SimM, List.set_cons_succ, List.set_cons_zero, List.append_nil, List.nil_append, List.cons_append, Option.toList, Nat.sub_zero]
          refine v_istore (pc := 1473) dL_law_1473 (by show _ < 26; decide) rfl ?_
          have hbx := bas_1 (hh := t0) (f := cd) (S := S0) (c := i) (fun q => hm0 c1442 q.1)
          rw [hbx] at h5 h6 hb0
          refine v_iload (pc := 1475) dL_law_1475 rfl ?_
          refine v_iload (pc := 1477) dL_law_1477 rfl ?_
          refine v_icmp_ne (pc := 1479) (tgt := 1519) dL_law_1479 (by decide) (fun c1479 => absurd (h4.trans (thn_1 (Or.inl c1363))) c1479) (fun c1479 => ?_)
          refine v_iload (pc := 1482) dL_law_1482 rfl ?_
          refine v_iload (pc := 1484) dL_law_1484 rfl ?_
          refine v_icmp_lt (pc := 1486) (tgt := 1519) dL_law_1486 (by decide) (fun c1486 => absurd c1486 (Int32.not_lt.mpr (i_le.mpr h5))) (fun c1486 => ?_)
          refine v_iload (pc := 1489) dL_law_1489 rfl ?_
          refine v_bipush (pc := 1491) (v := 9) dL_law_1491 rfl ?_
          refine v_iload (pc := 1493) dL_law_1493 rfl ?_
          refine v_aloadR (pc := 1495) dL_law_1495 rfl ?_
          refine v_iload (pc := 1497) dL_law_1497 rfl ?_
          refine v_ialdN (pc := 1499) 54 (k := i) rfl (by omega) (by omega) dL_law_1499 ?_
          rw [hL9]
          refine v_iadd (pc := 1500) dL_law_1500 ?_
          refine v_mmin (pc := 1501) q732 q403 q15 q404 (by decide) (Nat.le_of_ble_eq_true rfl) dL_law_1501 ?_
          refine v_icmp_gt (pc := 1504) (tgt := 1519) dL_law_1504 (by decide) (fun c1504 => absurd (smin h6 h7.2 ⟨hb0, by omega⟩ hn5) (Int32.not_le.mpr c1504)) (fun c1504 => ?_)
          refine v_iload (pc := 1507) dL_law_1507 rfl ?_
          refine v_aloadR (pc := 1509) dL_law_1509 rfl ?_
          refine v_iload (pc := 1511) dL_law_1511 rfl ?_
          refine v_aaldS (pc := 1513) 48 (k := i) (by decide) rfl (by omega) (by omega) dL_law_1513 ?_
          refine v_iconst (pc := 1514) (v := 3) dL_law_1514 rfl ?_
          refine v_ialdGN (pc := 1515) 49 (j := 3) rfl (by omega) (by decide) (by decide) dL_law_1515 ?_
          try dsimp only [wb, tlS_0, tlS_1, tlS_2, tlS_3, tlS_4, tlS_5, tlS_6, tlS_7, tlS_8, tlC_0, tlC_1, tlC_2, tlC_3, LawM, LakeM, WaysM, WorldM, SimM, List.set_cons_succ, List.set_cons_zero, List.append_nil, List.nil_append, List.cons_append, Option.toList, Nat.sub_zero]
          refine v_icmp_ge (pc := 1516) (tgt := 1521) dL_law_1516 (by decide) (fun c1516 => ?_) (fun c1516 => absurd (bI_mono h8) c1516)
          refine v_iconst (pc := 1521) (v := 0) dL_law_1521 rfl ?_
          refine v_istore (pc := 1522) dL_law_1522 (by show _ < 26; decide) rfl ?_
          refine v_iconst (pc := 1524) (v := 0) dL_law_1524 rfl ?_
          refine v_istore (pc := 1525) dL_law_1525 (by show _ < 26; decide) rfl ?_
          refine v_room (ck' := ck + 4 * m) (sk' := sk + 24 * m) (by omega) (by omega) ?_
          have k9 := lw_be (G := G) (nm := nm) (hd9 := hd9) (Z := Z) (ck := ck + 4 * m) (sk := sk + 24 * m) (g0 := g0) (w := w) (u := u) (v := v) (xs := xs) (bs := bs) (a := a) (b := b) (f := f) (wa := wa) (lr := lr) (nd := nd) (dg := dg) (T := T) (N := N) (S := S) (C := C) (B := B) (O := O) (ch := ch) (PC := PC) (SF := SF) (BF := BF) (ps := ps) (sc := sc) (bc := bc) (hh := hh) (a2 := a2) (b2 := b2) (f2 := f2) (wa2 := wa2) (lr2 := lr2) (nd2 := nd2) (dg2 := dg2) (T2 := T2) (N2 := N2) (S2 := S2) (C2 := C2) (B2 := B2) (O2 := O2) (ch2 := ch2) (PC2 := PC2) (SF2 := SF2) (BF2 := BF2) (ps2 := ps2) (sc2 := sc2) (hh2 := hh2) (MX := MX) (H := H) (D := D) (t0 := t0) (T0 := T0) (S0 := S0) (C0 := C0) (SF0 := SF0) (BF0 := BF0) (r7 := r7) (r8 := r8) (r9 := r9) (a7 := a7) (a8 := a8) (a9 := a9) (a15 := a15) (cm := cm) (cd := cd) (im := im) (LF := LF) (nw := nw) hps hsc hbc hi K1574 160 0 rfl
          refine v_sub ?_ k9
          exact ⟨rfl, rfl, rfl, rfl, rfl, rfl, rfl, rfl, rfl, rfl, rfl, rfl, rfl, rfl, rfl, rfl, rfl, rfl, rfl, rfl, rfl, trivial⟩
        · refine v_iload (pc := 1445) dL_law_1445 rfl ?_
          refine v_if_le (pc := 1447) (tgt := 1466) dL_law_1447 (by decide) (fun c1447 => ?_) (fun c1447 => ?_)
          · refine v_aloadR (pc := 1466) dL_law_1466 rfl ?_
            refine v_iload (pc := 1468) dL_law_1468 rfl ?_
            refine v_aaldS (pc := 1470) 48 (k := i) (by decide) rfl (by omega) (by omega) dL_law_1470 ?_
            refine v_iconst (pc := 1471) (v := 2) dL_law_1471 rfl ?_
            refine v_ialdGN (pc := 1472) 49 (j := 2) rfl (by omega) (by decide) (by decide) dL_law_1472 ?_
            try dsimp only [wb, tlS_0, tlS_1, tlS_2, tlS_3, tlS_4, tlS_5, tlS_6, tlS_7, tlS_8, tlC_0, tlC_1, tlC_2, tlC_3, LawM, LakeM, WaysM, WorldM, SimM, List.set_cons_succ, List.set_cons_zero, List.append_nil, List.nil_append, List.cons_append, Option.toList, Nat.sub_zero]
            refine v_istore (pc := 1473) dL_law_1473 (by show _ < 26; decide) rfl ?_
            have hbx := bas_1 (hh := t0) (f := cd) (S := S0) (c := i) (fun q => Int32.not_lt.mpr c1447 q.2)
            rw [hbx] at h5 h6 hb0
            refine v_iload (pc := 1475) dL_law_1475 rfl ?_
            refine v_iload (pc := 1477) dL_law_1477 rfl ?_
            refine v_icmp_ne (pc := 1479) (tgt := 1519) dL_law_1479 (by decide) (fun c1479 => absurd (h4.trans (thn_1 (Or.inl c1363))) c1479) (fun c1479 => ?_)
            refine v_iload (pc := 1482) dL_law_1482 rfl ?_
            refine v_iload (pc := 1484) dL_law_1484 rfl ?_
            refine v_icmp_lt (pc := 1486) (tgt := 1519) dL_law_1486 (by decide) (fun c1486 => absurd c1486 (Int32.not_lt.mpr (i_le.mpr h5))) (fun c1486 => ?_)
            refine v_iload (pc := 1489) dL_law_1489 rfl ?_
            refine v_bipush (pc := 1491) (v := 9) dL_law_1491 rfl ?_
            refine v_iload (pc := 1493) dL_law_1493 rfl ?_
            refine v_aloadR (pc := 1495) dL_law_1495 rfl ?_
            refine v_iload (pc := 1497) dL_law_1497 rfl ?_
            refine v_ialdN (pc := 1499) 54 (k := i) rfl (by omega) (by omega) dL_law_1499 ?_
            rw [hL9]
            refine v_iadd (pc := 1500) dL_law_1500 ?_
            refine v_mmin (pc := 1501) q732 q403 q15 q404 (by decide) (Nat.le_of_ble_eq_true rfl) dL_law_1501 ?_
            refine v_icmp_gt (pc := 1504) (tgt := 1519) dL_law_1504 (by decide) (fun c1504 => absurd (smin h6 h7.2 ⟨hb0, by omega⟩ hn5) (Int32.not_le.mpr c1504)) (fun c1504 => ?_)
            refine v_iload (pc := 1507) dL_law_1507 rfl ?_
            refine v_aloadR (pc := 1509) dL_law_1509 rfl ?_
            refine v_iload (pc := 1511) dL_law_1511 rfl ?_
            refine v_aaldS (pc := 1513) 48 (k := i) (by decide) rfl (by omega) (by omega) dL_law_1513 ?_
            refine v_iconst (pc := 1514) (v := 3) dL_law_1514 rfl ?_
            refine v_ialdGN (pc := 1515) 49 (j := 3) rfl (by omega) (by decide) (by decide) dL_law_1515 ?_
            try dsimp only [wb, tlS_0, tlS_1, tlS_2, tlS_3, tlS_4, tlS_5, tlS_6, tlS_7, tlS_8, tlC_0, tlC_1, tlC_2, tlC_3, LawM, LakeM, WaysM, WorldM, SimM, List.set_cons_succ, List.set_cons_zero, List.append_nil, List.nil_append, List.cons_append, Option.toList, Nat.sub_zero]
            refine v_icmp_ge (pc := 1516) (tgt := 1521) dL_law_1516 (by decide) (fun c1516 => ?_) (fun c1516 => absurd (bI_mono h8) c1516)
            refine v_iconst (pc := 1521) (v := 0) dL_law_1521 rfl ?_
            refine v_istore (pc := 1522) dL_law_1522 (by show _ < 26; decide) rfl ?_
            refine v_iconst (pc := 1524) (v := 0) dL_law_1524 rfl ?_
            refine v_istore (pc := 1525) dL_law_1525 (by show _ < 26; decide) rfl ?_
            refine v_room (ck' := ck + 4 * m) (sk' := sk + 24 * m) (by omega) (by omega) ?_
            have k9 := lw_be (G := G) (nm := nm) (hd9 := hd9) (Z := Z) (ck := ck + 4 * m) (sk := sk + 24 * m) (g0 := g0) (w := w) (u := u) (v := v) (xs := xs) (bs := bs) (a := a) (b := b) (f := f) (wa := wa) (lr := lr) (nd := nd) (dg := dg) (T := T) (N := N) (S := S) (C := C) (B := B) (O := O) (ch := ch) (PC := PC) (SF := SF) (BF := BF) (ps := ps) (sc := sc) (bc := bc) (hh := hh) (a2 := a2) (b2 := b2) (f2 := f2) (wa2 := wa2) (lr2 := lr2) (nd2 := nd2) (dg2 := dg2) (T2 := T2) (N2 := N2) (S2 := S2) (C2 := C2) (B2 := B2) (O2 := O2) (ch2 := ch2) (PC2 := PC2) (SF2 := SF2) (BF2 := BF2) (ps2 := ps2) (sc2 := sc2) (hh2 := hh2) (MX := MX) (H := H) (D := D) (t0 := t0) (T0 := T0) (S0 := S0) (C0 := C0) (SF0 := SF0) (BF0 := BF0) (r7 := r7) (r8 := r8) (r9 := r9) (a7 := a7) (a8 := a8) (a9 := a9) (a15 := a15) (cm := cm) (cd := cd) (im := im) (LF := LF) (nw := nw) hps hsc hbc hi K1574 160 0 rfl
            refine v_sub ?_ k9
            exact ⟨rfl, rfl, rfl, rfl, rfl, rfl, rfl, rfl, rfl, rfl, rfl, rfl, rfl, rfl, rfl, rfl, rfl, rfl, rfl, rfl, rfl, trivial⟩
          · refine v_iconst (pc := 1450) (v := 0) dL_law_1450 rfl ?_
            refine v_aloadR (pc := 1451) dL_law_1451 rfl ?_
            refine v_iload (pc := 1453) dL_law_1453 rfl ?_
            refine v_aaldS (pc := 1455) 48 (k := i) (by decide) rfl (by omega) (by omega) dL_law_1455 ?_
            refine v_iconst (pc := 1456) (v := 2) dL_law_1456 rfl ?_
            refine v_ialdGN (pc := 1457) 49 (j := 2) rfl (by omega) (by decide) (by decide) dL_law_1457 ?_
            try dsimp only [wb, tlS_0, tlS_1, tlS_2, tlS_3, tlS_4, tlS_5, tlS_6, tlS_7, tlS_8, tlC_0, tlC_1, tlC_2, tlC_3, LawM, LakeM, WaysM, WorldM, SimM, List.set_cons_succ, List.set_cons_zero, List.append_nil, List.nil_append, List.cons_append, Option.toList, Nat.sub_zero]
            refine v_iconst (pc := 1458) (v := 2) dL_law_1458 rfl ?_
            refine v_isub (pc := 1459) dL_law_1459 ?_
            refine v_mmax (pc := 1460) q851 q406 q15 q407 (by decide) (Nat.le_of_ble_eq_true rfl) dL_law_1460 ?_
            refine v_goto (pc := 1463) (tgt := 1473) dL_law_1463 (by decide) ?_
            refine v_istore (pc := 1473) dL_law_1473 (by show _ < 26; decide) rfl ?_
            have hbx := bas_2 (hh := t0) (f := cd) (S := S0) (c := i) ⟨hm1 c1442, Int32.not_le.mp c1447⟩
            rw [hbx] at h5 h6 hb0
            refine v_iload (pc := 1475) dL_law_1475 rfl ?_
            refine v_iload (pc := 1477) dL_law_1477 rfl ?_
            refine v_icmp_ne (pc := 1479) (tgt := 1519) dL_law_1479 (by decide) (fun c1479 => absurd (h4.trans (thn_1 (Or.inl c1363))) c1479) (fun c1479 => ?_)
            refine v_iload (pc := 1482) dL_law_1482 rfl ?_
            refine v_iload (pc := 1484) dL_law_1484 rfl ?_
            refine v_icmp_lt (pc := 1486) (tgt := 1519) dL_law_1486 (by decide) (fun c1486 => absurd c1486 (Int32.not_lt.mpr (i_le.mpr h5))) (fun c1486 => ?_)
            refine v_iload (pc := 1489) dL_law_1489 rfl ?_
            refine v_bipush (pc := 1491) (v := 9) dL_law_1491 rfl ?_
            refine v_iload (pc := 1493) dL_law_1493 rfl ?_
            refine v_aloadR (pc := 1495) dL_law_1495 rfl ?_
            refine v_iload (pc := 1497) dL_law_1497 rfl ?_
            refine v_ialdN (pc := 1499) 54 (k := i) rfl (by omega) (by omega) dL_law_1499 ?_
            rw [hL9]
            refine v_iadd (pc := 1500) dL_law_1500 ?_
            refine v_mmin (pc := 1501) q732 q403 q15 q404 (by decide) (Nat.le_of_ble_eq_true rfl) dL_law_1501 ?_
            refine v_icmp_gt (pc := 1504) (tgt := 1519) dL_law_1504 (by decide) (fun c1504 => absurd (smin h6 h7.2 ⟨hb0, by omega⟩ hn5) (Int32.not_le.mpr c1504)) (fun c1504 => ?_)
            refine v_iload (pc := 1507) dL_law_1507 rfl ?_
            refine v_aloadR (pc := 1509) dL_law_1509 rfl ?_
            refine v_iload (pc := 1511) dL_law_1511 rfl ?_
            refine v_aaldS (pc := 1513) 48 (k := i) (by decide) rfl (by omega) (by omega) dL_law_1513 ?_
            refine v_iconst (pc := 1514) (v := 3) dL_law_1514 rfl ?_
            refine v_ialdGN (pc := 1515) 49 (j := 3) rfl (by omega) (by decide) (by decide) dL_law_1515 ?_
            try dsimp only [wb, tlS_0, tlS_1, tlS_2, tlS_3, tlS_4, tlS_5, tlS_6, tlS_7, tlS_8, tlC_0, tlC_1, tlC_2, tlC_3, LawM, LakeM, WaysM, WorldM, SimM, List.set_cons_succ, List.set_cons_zero, List.append_nil, List.nil_append, List.cons_append, Option.toList, Nat.sub_zero]
            refine v_icmp_ge (pc := 1516) (tgt := 1521) dL_law_1516 (by decide) (fun c1516 => ?_) (fun c1516 => absurd (bI_mono h8) c1516)
            refine v_iconst (pc := 1521) (v := 0) dL_law_1521 rfl ?_
            refine v_istore (pc := 1522) dL_law_1522 (by show _ < 26; decide) rfl ?_
            refine v_iconst (pc := 1524) (v := 0) dL_law_1524 rfl ?_
            refine v_istore (pc := 1525) dL_law_1525 (by show _ < 26; decide) rfl ?_
            refine v_room (ck' := ck + 4 * m) (sk' := sk + 24 * m) (by omega) (by omega) ?_
            have k9 := lw_be (G := G) (nm := nm) (hd9 := hd9) (Z := Z) (ck := ck + 4 * m) (sk := sk + 24 * m) (g0 := g0) (w := w) (u := u) (v := v) (xs := xs) (bs := bs) (a := a) (b := b) (f := f) (wa := wa) (lr := lr) (nd := nd) (dg := dg) (T := T) (N := N) (S := S) (C := C) (B := B) (O := O) (ch := ch) (PC := PC) (SF := SF) (BF := BF) (ps := ps) (sc := sc) (bc := bc) (hh := hh) (a2 := a2) (b2 := b2) (f2 := f2) (wa2 := wa2) (lr2 := lr2) (nd2 := nd2) (dg2 := dg2) (T2 := T2) (N2 := N2) (S2 := S2) (C2 := C2) (B2 := B2) (O2 := O2) (ch2 := ch2) (PC2 := PC2) (SF2 := SF2) (BF2 := BF2) (ps2 := ps2) (sc2 := sc2) (hh2 := hh2) (MX := MX) (H := H) (D := D) (t0 := t0) (T0 := T0) (S0 := S0) (C0 := C0) (SF0 := SF0) (BF0 := BF0) (r7 := r7) (r8 := r8) (r9 := r9) (a7 := a7) (a8 := a8) (a9 := a9) (a15 := a15) (cm := cm) (cd := cd) (im := im) (LF := LF) (nw := nw) hps hsc hbc hi K1574 160 0 rfl
            refine v_sub ?_ k9
            exact ⟨rfl, rfl, rfl, rfl, rfl, rfl, rfl, rfl, rfl, rfl, rfl, rfl, rfl, rfl, rfl, rfl, rfl, rfl, rfl, rfl, rfl, trivial⟩
      · refine v_iload (pc := 1366) dL_law_1366 rfl ?_
        refine v_if_ne (pc := 1368) (tgt := 1381) dL_law_1368 (by decide) (fun c1368 => ?_) (fun c1368 => ?_)
        · refine v_iload (pc := 1381) dL_law_1381 rfl ?_
          refine v_if_le (pc := 1383) (tgt := 1422) dL_law_1383 (by decide) (fun c1383 => ?_) (fun c1383 => ?_)
          · refine v_iconst (pc := 1422) (v := 0) dL_law_1422 rfl ?_
            refine v_aloadR (pc := 1423) dL_law_1423 rfl ?_
            refine v_iload (pc := 1425) dL_law_1425 rfl ?_
            refine v_aaldS (pc := 1427) 48 (k := i) (by decide) rfl (by omega) (by omega) dL_law_1427 ?_
            refine v_iconst (pc := 1428) (v := 0) dL_law_1428 rfl ?_
            refine v_ialdGN (pc := 1429) 49 (j := 0) rfl (by omega) (by decide) (by decide) dL_law_1429 ?_
            try dsimp only [wb, tlS_0, tlS_1, tlS_2, tlS_3, tlS_4, tlS_5, tlS_6, tlS_7, tlS_8, tlC_0, tlC_1, tlC_2, tlC_3, LawM, LakeM, WaysM, WorldM, SimM, List.set_cons_succ, List.set_cons_zero, List.append_nil, List.nil_append, List.cons_append, Option.toList, Nat.sub_zero]
            refine v_iconst (pc := 1430) (v := 3) dL_law_1430 rfl ?_
            refine v_iload (pc := 1431) dL_law_1431 rfl ?_
            refine v_imul (pc := 1433) dL_law_1433 ?_
            refine v_iadd (pc := 1434) dL_law_1434 ?_
            refine v_mmax (pc := 1435) q851 q406 q15 q407 (by decide) (Nat.le_of_ble_eq_true rfl) dL_law_1435 ?_
            refine v_istore (pc := 1438) dL_law_1438 (by show _ < 26; decide) rfl ?_
            refine v_iload (pc := 1440) dL_law_1440 rfl ?_
            refine v_if_eq (pc := 1442) (tgt := 1466) dL_law_1442 (by decide) (fun c1442 => ?_) (fun c1442 => ?_)
            · refine v_aloadR (pc := 1466) dL_law_1466 rfl ?_
              refine v_iload (pc := 1468) dL_law_1468 rfl ?_
              refine v_aaldS (pc := 1470) 48 (k := i) (by decide) rfl (by omega) (by omega) dL_law_1470 ?_
              refine v_iconst (pc := 1471) (v := 2) dL_law_1471 rfl ?_
              refine v_ialdGN (pc := 1472) 49 (j := 2) rfl (by omega) (by decide) (by decide) dL_law_1472 ?_
              try dsimp only [wb, tlS_0, tlS_1, tlS_2, tlS_3, tlS_4, tlS_5, tlS_6, tlS_7, tlS_8, tlC_0, tlC_1, tlC_2, tlC_3, LawM, LakeM, WaysM, WorldM, SimM, List.set_cons_succ, List.set_cons_zero, List.append_nil, List.nil_append, List.cons_append, Option.toList, Nat.sub_zero]
              refine v_istore (pc := 1473) dL_law_1473 (by show _ < 26; decide) rfl ?_
              have hbx := bas_1 (hh := t0) (f := cd) (S := S0) (c := i) (fun q => hm0 c1442 q.1)
              rw [hbx] at h5 h6 hb0
              refine v_iload (pc := 1475) dL_law_1475 rfl ?_
              refine v_iload (pc := 1477) dL_law_1477 rfl ?_
              refine v_icmp_ne (pc := 1479) (tgt := 1519) dL_law_1479 (by decide) (fun c1479 => absurd (h4.trans (thn_3 (fun q => q.elim c1363 (fun q => q (hm1 c1368))) (Int32.not_lt.mpr c1383))) c1479) (fun c1479 => ?_)
              refine v_iload (pc := 1482) dL_law_1482 rfl ?_
              refine v_iload (pc := 1484) dL_law_1484 rfl ?_
              refine v_icmp_lt (pc := 1486) (tgt := 1519) dL_law_1486 (by decide) (fun c1486 => absurd c1486 (Int32.not_lt.mpr (i_le.mpr h5))) (fun c1486 => ?_)
              refine v_iload (pc := 1489) dL_law_1489 rfl ?_
              refine v_bipush (pc := 1491) (v := 9) dL_law_1491 rfl ?_
              refine v_iload (pc := 1493) dL_law_1493 rfl ?_
              refine v_aloadR (pc := 1495) dL_law_1495 rfl ?_
              refine v_iload (pc := 1497) dL_law_1497 rfl ?_
              refine v_ialdN (pc := 1499) 54 (k := i) rfl (by omega) (by omega) dL_law_1499 ?_
              rw [hL9]
              refine v_iadd (pc := 1500) dL_law_1500 ?_
              refine v_mmin (pc := 1501) q732 q403 q15 q404 (by decide) (Nat.le_of_ble_eq_true rfl) dL_law_1501 ?_
              refine v_icmp_gt (pc := 1504) (tgt := 1519) dL_law_1504 (by decide) (fun c1504 => absurd (smin h6 h7.2 ⟨hb0, by omega⟩ hn5) (Int32.not_le.mpr c1504)) (fun c1504 => ?_)
              refine v_iload (pc := 1507) dL_law_1507 rfl ?_
              refine v_aloadR (pc := 1509) dL_law_1509 rfl ?_
              refine v_iload (pc := 1511) dL_law_1511 rfl ?_
              refine v_aaldS (pc := 1513) 48 (k := i) (by decide) rfl (by omega) (by omega) dL_law_1513 ?_
              refine v_iconst (pc := 1514) (v := 3) dL_law_1514 rfl ?_
              refine v_ialdGN (pc := 1515) 49 (j := 3) rfl (by omega) (by decide) (by decide) dL_law_1515 ?_
              try dsimp only [wb, tlS_0, tlS_1, tlS_2, tlS_3, tlS_4, tlS_5, tlS_6, tlS_7, tlS_8, tlC_0, tlC_1, tlC_2, tlC_3, LawM, LakeM, WaysM, WorldM, SimM, List.set_cons_succ, List.set_cons_zero, List.append_nil, List.nil_append, List.cons_append, Option.toList, Nat.sub_zero]
              refine v_icmp_ge (pc := 1516) (tgt := 1521) dL_law_1516 (by decide) (fun c1516 => ?_) (fun c1516 => absurd (bI_mono h8) c1516)
              refine v_iconst (pc := 1521) (v := 0) dL_law_1521 rfl ?_
              refine v_istore (pc := 1522) dL_law_1522 (by show _ < 26; decide) rfl ?_
              refine v_iconst (pc := 1524) (v := 0) dL_law_1524 rfl ?_
              refine v_istore (pc := 1525) dL_law_1525 (by show _ < 26; decide) rfl ?_
              refine v_room (ck' := ck + 4 * m) (sk' := sk + 24 * m) (by omega) (by omega) ?_
              have k9 := lw_be (G := G) (nm := nm) (hd9 := hd9) (Z := Z) (ck := ck + 4 * m) (sk := sk + 24 * m) (g0 := g0) (w := w) (u := u) (v := v) (xs := xs) (bs := bs) (a := a) (b := b) (f := f) (wa := wa) (lr := lr) (nd := nd) (dg := dg) (T := T) (N := N) (S := S) (C := C) (B := B) (O := O) (ch := ch) (PC := PC) (SF := SF) (BF := BF) (ps := ps) (sc := sc) (bc := bc) (hh := hh) (a2 := a2) (b2 := b2) (f2 := f2) (wa2 := wa2) (lr2 := lr2) (nd2 := nd2) (dg2 := dg2) (T2 := T2) (N2 := N2) (S2 := S2) (C2 := C2) (B2 := B2) (O2 := O2) (ch2 := ch2) (PC2 := PC2) (SF2 := SF2) (BF2 := BF2) (ps2 := ps2) (sc2 := sc2) (hh2 := hh2) (MX := MX) (H := H) (D := D) (t0 := t0) (T0 := T0) (S0 := S0) (C0 := C0) (SF0 := SF0) (BF0 := BF0) (r7 := r7) (r8 := r8) (r9 := r9) (a7 := a7) (a8 := a8) (a9 := a9) (a15 := a15) (cm := cm) (cd := cd) (im := im) (LF := LF) (nw := nw) hps hsc hbc hi K1574 160 0 rfl
              refine v_sub ?_ k9
              exact ⟨rfl, rfl, rfl, rfl, rfl, rfl, rfl, rfl, rfl, rfl, rfl, rfl, rfl, rfl, rfl, rfl, rfl, rfl, rfl, rfl, rfl, trivial⟩
            · refine v_iload (pc := 1445) dL_law_1445 rfl ?_
              refine v_if_le (pc := 1447) (tgt := 1466) dL_law_1447 (by decide) (fun c1447 => ?_) (fun c1447 => ?_)
              · refine v_aloadR (pc := 1466) dL_law_1466 rfl ?_
                refine v_iload (pc := 1468) dL_law_1468 rfl ?_
                refine v_aaldS (pc := 1470) 48 (k := i) (by decide) rfl (by omega) (by omega) dL_law_1470 ?_
                refine v_iconst (pc := 1471) (v := 2) dL_law_1471 rfl ?_
                refine v_ialdGN (pc := 1472) 49 (j := 2) rfl (by omega) (by decide) (by decide) dL_law_1472 ?_
                try dsimp only [wb, tlS_0, tlS_1, tlS_2, tlS_3, tlS_4, tlS_5, tlS_6, tlS_7, tlS_8, tlC_0, tlC_1, tlC_2, tlC_3, LawM, LakeM, WaysM, WorldM, SimM, List.set_cons_succ, List.set_cons_zero, List.append_nil, List.nil_append, List.cons_append, Option.toList, Nat.sub_zero]
                refine v_istore (pc := 1473) dL_law_1473 (by show _ < 26; decide) rfl ?_
                have hbx := bas_1 (hh := t0) (f := cd) (S := S0) (c := i) (fun q => Int32.not_lt.mpr c1447 q.2)
                rw [hbx] at h5 h6 hb0
                refine v_iload (pc := 1475) dL_law_1475 rfl ?_
                refine v_iload (pc := 1477) dL_law_1477 rfl ?_
                refine v_icmp_ne (pc := 1479) (tgt := 1519) dL_law_1479 (by decide) (fun c1479 => absurd (h4.trans (thn_3 (fun q => q.elim c1363 (fun q => q (hm1 c1368))) (Int32.not_lt.mpr c1383))) c1479) (fun c1479 => ?_)
                refine v_iload (pc := 1482) dL_law_1482 rfl ?_
                refine v_iload (pc := 1484) dL_law_1484 rfl ?_
                refine v_icmp_lt (pc := 1486) (tgt := 1519) dL_law_1486 (by decide) (fun c1486 => absurd c1486 (Int32.not_lt.mpr (i_le.mpr h5))) (fun c1486 => ?_)
                refine v_iload (pc := 1489) dL_law_1489 rfl ?_
                refine v_bipush (pc := 1491) (v := 9) dL_law_1491 rfl ?_
                refine v_iload (pc := 1493) dL_law_1493 rfl ?_
                refine v_aloadR (pc := 1495) dL_law_1495 rfl ?_
                refine v_iload (pc := 1497) dL_law_1497 rfl ?_
                refine v_ialdN (pc := 1499) 54 (k := i) rfl (by omega) (by omega) dL_law_1499 ?_
                rw [hL9]
                refine v_iadd (pc := 1500) dL_law_1500 ?_
                refine v_mmin (pc := 1501) q732 q403 q15 q404 (by decide) (Nat.le_of_ble_eq_true rfl) dL_law_1501 ?_
                refine v_icmp_gt (pc := 1504) (tgt := 1519) dL_law_1504 (by decide) (fun c1504 => absurd (smin h6 h7.2 ⟨hb0, by omega⟩ hn5) (Int32.not_le.mpr c1504)) (fun c1504 => ?_)
                refine v_iload (pc := 1507) dL_law_1507 rfl ?_
                refine v_aloadR (pc := 1509) dL_law_1509 rfl ?_
                refine v_iload (pc := 1511) dL_law_1511 rfl ?_
                refine v_aaldS (pc := 1513) 48 (k := i) (by decide) rfl (by omega) (by omega) dL_law_1513 ?_
                refine v_iconst (pc := 1514) (v := 3) dL_law_1514 rfl ?_
                refine v_ialdGN (pc := 1515) 49 (j := 3) rfl (by omega) (by decide) (by decide) dL_law_1515 ?_
                try dsimp only [wb, tlS_0, tlS_1, tlS_2, tlS_3, tlS_4, tlS_5, tlS_6, tlS_7, tlS_8, tlC_0, tlC_1, tlC_2, tlC_3, LawM, LakeM, WaysM, WorldM, SimM, List.set_cons_succ, List.set_cons_zero, List.append_nil, List.nil_append, List.cons_append, Option.toList, Nat.sub_zero]
                refine v_icmp_ge (pc := 1516) (tgt := 1521) dL_law_1516 (by decide) (fun c1516 => ?_) (fun c1516 => absurd (bI_mono h8) c1516)
                refine v_iconst (pc := 1521) (v := 0) dL_law_1521 rfl ?_
                refine v_istore (pc := 1522) dL_law_1522 (by show _ < 26; decide) rfl ?_
                refine v_iconst (pc := 1524) (v := 0) dL_law_1524 rfl ?_
                refine v_istore (pc := 1525) dL_law_1525 (by show _ < 26; decide) rfl ?_
                refine v_room (ck' := ck + 4 * m) (sk' := sk + 24 * m) (by omega) (by omega) ?_
                have k9 := lw_be (G := G) (nm := nm) (hd9 := hd9) (Z := Z) (ck := ck + 4 * m) (sk := sk + 24 * m) (g0 := g0) (w := w) (u := u) (v := v) (xs := xs) (bs := bs) (a := a) (b := b) (f := f) (wa := wa) (lr := lr) (nd := nd) (dg := dg) (T := T) (N := N) (S := S) (C := C) (B := B) (O := O) (ch := ch) (PC := PC) (SF := SF) (BF := BF) (ps := ps) (sc := sc) (bc := bc) (hh := hh) (a2 := a2) (b2 := b2) (f2 := f2) (wa2 := wa2) (lr2 := lr2) (nd2 := nd2) (dg2 := dg2) (T2 := T2) (N2 := N2) (S2 := S2) (C2 := C2) (B2 := B2) (O2 := O2) (ch2 := ch2) (PC2 := PC2) (SF2 := SF2) (BF2 := BF2) (ps2 := ps2) (sc2 := sc2) (hh2 := hh2) (MX := MX) (H := H) (D := D) (t0 := t0) (T0 := T0) (S0 := S0) (C0 := C0) (SF0 := SF0) (BF0 := BF0) (r7 := r7) (r8 := r8) (r9 := r9) (a7 := a7) (a8 := a8) (a9 := a9) (a15 := a15) (cm := cm) (cd := cd) (im := im) (LF := LF) (nw := nw) hps hsc hbc hi K1574 160 0 rfl
                refine v_sub ?_ k9
                exact ⟨rfl, rfl, rfl, rfl, rfl, rfl, rfl, rfl, rfl, rfl, rfl, rfl, rfl, rfl, rfl, rfl, rfl, rfl, rfl, rfl, rfl, trivial⟩
              · refine v_iconst (pc := 1450) (v := 0) dL_law_1450 rfl ?_
                refine v_aloadR (pc := 1451) dL_law_1451 rfl ?_
                refine v_iload (pc := 1453) dL_law_1453 rfl ?_
                refine v_aaldS (pc := 1455) 48 (k := i) (by decide) rfl (by omega) (by omega) dL_law_1455 ?_
                refine v_iconst (pc := 1456) (v := 2) dL_law_1456 rfl ?_
                refine v_ialdGN (pc := 1457) 49 (j := 2) rfl (by omega) (by decide) (by decide) dL_law_1457 ?_
                try dsimp only [wb, tlS_0, tlS_1, tlS_2, tlS_3, tlS_4, tlS_5, tlS_6, tlS_7, tlS_8, tlC_0, tlC_1, tlC_2, tlC_3, LawM, LakeM, WaysM, WorldM, SimM, List.set_cons_succ, List.set_cons_zero, List.append_nil, List.nil_append, List.cons_append, Option.toList, Nat.sub_zero]
                refine v_iconst (pc := 1458) (v := 2) dL_law_1458 rfl ?_
                refine v_isub (pc := 1459) dL_law_1459 ?_
                refine v_mmax (pc := 1460) q851 q406 q15 q407 (by decide) (Nat.le_of_ble_eq_true rfl) dL_law_1460 ?_
                refine v_goto (pc := 1463) (tgt := 1473) dL_law_1463 (by decide) ?_
                refine v_istore (pc := 1473) dL_law_1473 (by show _ < 26; decide) rfl ?_
                have hbx := bas_2 (hh := t0) (f := cd) (S := S0) (c := i) ⟨hm1 c1442, Int32.not_le.mp c1447⟩
                rw [hbx] at h5 h6 hb0
                refine v_iload (pc := 1475) dL_law_1475 rfl ?_
                refine v_iload (pc := 1477) dL_law_1477 rfl ?_
                refine v_icmp_ne (pc := 1479) (tgt := 1519) dL_law_1479 (by decide) (fun c1479 => absurd (h4.trans (thn_3 (fun q => q.elim c1363 (fun q => q (hm1 c1368))) (Int32.not_lt.mpr c1383))) c1479) (fun c1479 => ?_)
                refine v_iload (pc := 1482) dL_law_1482 rfl ?_
                refine v_iload (pc := 1484) dL_law_1484 rfl ?_
                refine v_icmp_lt (pc := 1486) (tgt := 1519) dL_law_1486 (by decide) (fun c1486 => absurd c1486 (Int32.not_lt.mpr (i_le.mpr h5))) (fun c1486 => ?_)
                refine v_iload (pc := 1489) dL_law_1489 rfl ?_
                refine v_bipush (pc := 1491) (v := 9) dL_law_1491 rfl ?_
                refine v_iload (pc := 1493) dL_law_1493 rfl ?_
                refine v_aloadR (pc := 1495) dL_law_1495 rfl ?_
                refine v_iload (pc := 1497) dL_law_1497 rfl ?_
                refine v_ialdN (pc := 1499) 54 (k := i) rfl (by omega) (by omega) dL_law_1499 ?_
                rw [hL9]
                refine v_iadd (pc := 1500) dL_law_1500 ?_
                refine v_mmin (pc := 1501) q732 q403 q15 q404 (by decide) (Nat.le_of_ble_eq_true rfl) dL_law_1501 ?_
                refine v_icmp_gt (pc := 1504) (tgt := 1519) dL_law_1504 (by decide) (fun c1504 => absurd (smin h6 h7.2 ⟨hb0, by omega⟩ hn5) (Int32.not_le.mpr c1504)) (fun c1504 => ?_)
                refine v_iload (pc := 1507) dL_law_1507 rfl ?_
                refine v_aloadR (pc := 1509) dL_law_1509 rfl ?_
                refine v_iload (pc := 1511) dL_law_1511 rfl ?_
                refine v_aaldS (pc := 1513) 48 (k := i) (by decide) rfl (by omega) (by omega) dL_law_1513 ?_
                refine v_iconst (pc := 1514) (v := 3) dL_law_1514 rfl ?_
                refine v_ialdGN (pc := 1515) 49 (j := 3) rfl (by omega) (by decide) (by decide) dL_law_1515 ?_
                try dsimp only [wb, tlS_0, tlS_1, tlS_2, tlS_3, tlS_4, tlS_5, tlS_6, tlS_7, tlS_8, tlC_0, tlC_1, tlC_2, tlC_3, LawM, LakeM, WaysM, WorldM, SimM, List.set_cons_succ, List.set_cons_zero, List.append_nil, List.nil_append, List.cons_append, Option.toList, Nat.sub_zero]
                refine v_icmp_ge (pc := 1516) (tgt := 1521) dL_law_1516 (by decide) (fun c1516 => ?_) (fun c1516 => absurd (bI_mono h8) c1516)
                refine v_iconst (pc := 1521) (v := 0) dL_law_1521 rfl ?_
                refine v_istore (pc := 1522) dL_law_1522 (by show _ < 26; decide) rfl ?_
                refine v_iconst (pc := 1524) (v := 0) dL_law_1524 rfl ?_
                refine v_istore (pc := 1525) dL_law_1525 (by show _ < 26; decide) rfl ?_
                refine v_room (ck' := ck + 4 * m) (sk' := sk + 24 * m) (by omega) (by omega) ?_
                have k9 := lw_be (G := G) (nm := nm) (hd9 := hd9) (Z := Z) (ck := ck + 4 * m) (sk := sk + 24 * m) (g0 := g0) (w := w) (u := u) (v := v) (xs := xs) (bs := bs) (a := a) (b := b) (f := f) (wa := wa) (lr := lr) (nd := nd) (dg := dg) (T := T) (N := N) (S := S) (C := C) (B := B) (O := O) (ch := ch) (PC := PC) (SF := SF) (BF := BF) (ps := ps) (sc := sc) (bc := bc) (hh := hh) (a2 := a2) (b2 := b2) (f2 := f2) (wa2 := wa2) (lr2 := lr2) (nd2 := nd2) (dg2 := dg2) (T2 := T2) (N2 := N2) (S2 := S2) (C2 := C2) (B2 := B2) (O2 := O2) (ch2 := ch2) (PC2 := PC2) (SF2 := SF2) (BF2 := BF2) (ps2 := ps2) (sc2 := sc2) (hh2 := hh2) (MX := MX) (H := H) (D := D) (t0 := t0) (T0 := T0) (S0 := S0) (C0 := C0) (SF0 := SF0) (BF0 := BF0) (r7 := r7) (r8 := r8) (r9 := r9) (a7 := a7) (a8 := a8) (a9 := a9) (a15 := a15) (cm := cm) (cd := cd) (im := im) (LF := LF) (nw := nw) hps hsc hbc hi K1574 160 0 rfl
                refine v_sub ?_ k9
                exact ⟨rfl, rfl, rfl, rfl, rfl, rfl, rfl, rfl, rfl, rfl, rfl, rfl, rfl, rfl, rfl, rfl, rfl, rfl, rfl, rfl, rfl, trivial⟩
          · refine v_sipush (pc := 1386) (v := 200) dL_law_1386 rfl ?_
            refine v_aloadR (pc := 1389) dL_law_1389 rfl ?_
            refine v_iload (pc := 1391) dL_law_1391 rfl ?_
            refine v_aaldS (pc := 1393) 48 (k := i) (by decide) rfl (by omega) (by omega) dL_law_1393 ?_
            refine v_iconst (pc := 1394) (v := 0) dL_law_1394 rfl ?_
            refine v_ialdGN (pc := 1395) 49 (j := 0) rfl (by omega) (by decide) (by decide) dL_law_1395 ?_
            try dsimp only [wb, tlS_0, tlS_1, tlS_2, tlS_3, tlS_4, tlS_5, tlS_6, tlS_7, tlS_8, tlC_0, tlC_1, tlC_2, tlC_3, LawM, LakeM, WaysM, WorldM, SimM, List.set_cons_succ, List.set_cons_zero, List.append_nil, List.nil_append, List.cons_append, Option.toList, Nat.sub_zero]
            refine v_bipush (pc := 1396) (v := 12) dL_law_1396 rfl ?_
            refine v_iload (pc := 1398) dL_law_1398 rfl ?_
            refine v_imul (pc := 1400) dL_law_1400 ?_
            refine v_bipush (pc := 1401) (v := 6) dL_law_1401 rfl ?_
            refine v_aloadR (pc := 1403) dL_law_1403 rfl ?_
            refine v_iload (pc := 1405) dL_law_1405 rfl ?_
            refine v_aaldS (pc := 1407) 48 (k := i) (by decide) rfl (by omega) (by omega) dL_law_1407 ?_
            refine v_iconst (pc := 1408) (v := 0) dL_law_1408 rfl ?_
            refine v_ialdGN (pc := 1409) 49 (j := 0) rfl (by omega) (by decide) (by decide) dL_law_1409 ?_
            try dsimp only [wb, tlS_0, tlS_1, tlS_2, tlS_3, tlS_4, tlS_5, tlS_6, tlS_7, tlS_8, tlC_0, tlC_1, tlC_2, tlC_3, LawM, LakeM, WaysM, WorldM, SimM, List.set_cons_succ, List.set_cons_zero, List.append_nil, List.nil_append, List.cons_append, Option.toList, Nat.sub_zero]
            refine v_bipush (pc := 1410) (v := 10) dL_law_1410 rfl ?_
            refine v_idiv (pc := 1412) dL_law_1412 (by decide) ?_
            refine v_iadd (pc := 1413) dL_law_1413 ?_
            refine v_idiv (pc := 1414) dL_law_1414 (sixp c1363) ?_
            refine v_iadd (pc := 1415) dL_law_1415 ?_
            refine v_mmin (pc := 1416) q732 q403 q15 q404 (by decide) (Nat.le_of_ble_eq_true rfl) dL_law_1416 ?_
            refine v_goto (pc := 1419) (tgt := 1438) dL_law_1419 (by decide) ?_
            refine v_istore (pc := 1438) dL_law_1438 (by show _ < 26; decide) rfl ?_
            refine v_iload (pc := 1440) dL_law_1440 rfl ?_
            refine v_if_eq (pc := 1442) (tgt := 1466) dL_law_1442 (by decide) (fun c1442 => ?_) (fun c1442 => ?_)
            · refine v_aloadR (pc := 1466) dL_law_1466 rfl ?_
              refine v_iload (pc := 1468) dL_law_1468 rfl ?_
              refine v_aaldS (pc := 1470) 48 (k := i) (by decide) rfl (by omega) (by omega) dL_law_1470 ?_
              refine v_iconst (pc := 1471) (v := 2) dL_law_1471 rfl ?_
              refine v_ialdGN (pc := 1472) 49 (j := 2) rfl (by omega) (by decide) (by decide) dL_law_1472 ?_
              try dsimp only [wb, tlS_0, tlS_1, tlS_2, tlS_3, tlS_4, tlS_5, tlS_6, tlS_7, tlS_8, tlC_0, tlC_1, tlC_2, tlC_3, LawM, LakeM, WaysM, WorldM, SimM, List.set_cons_succ, List.set_cons_zero, List.append_nil, List.nil_append, List.cons_append, Option.toList, Nat.sub_zero]
              refine v_istore (pc := 1473) dL_law_1473 (by show _ < 26; decide) rfl ?_
              have hbx := bas_1 (hh := t0) (f := cd) (S := S0) (c := i) (fun q => hm0 c1442 q.1)
              rw [hbx] at h5 h6 hb0
              refine v_iload (pc := 1475) dL_law_1475 rfl ?_
              refine v_iload (pc := 1477) dL_law_1477 rfl ?_
              refine v_icmp_ne (pc := 1479) (tgt := 1519) dL_law_1479 (by decide) (fun c1479 => absurd (h4.trans (thn_2 (fun q => q.elim c1363 (fun q => q (hm1 c1368))) (Int32.not_le.mp c1383))) c1479) (fun c1479 => ?_)
              refine v_iload (pc := 1482) dL_law_1482 rfl ?_
              refine v_iload (pc := 1484) dL_law_1484 rfl ?_
              refine v_icmp_lt (pc := 1486) (tgt := 1519) dL_law_1486 (by decide) (fun c1486 => absurd c1486 (Int32.not_lt.mpr (i_le.mpr h5))) (fun c1486 => ?_)
              refine v_iload (pc := 1489) dL_law_1489 rfl ?_
              refine v_bipush (pc := 1491) (v := 9) dL_law_1491 rfl ?_
              refine v_iload (pc := 1493) dL_law_1493 rfl ?_
              refine v_aloadR (pc := 1495) dL_law_1495 rfl ?_
              refine v_iload (pc := 1497) dL_law_1497 rfl ?_
              refine v_ialdN (pc := 1499) 54 (k := i) rfl (by omega) (by omega) dL_law_1499 ?_
              rw [hL9]
              refine v_iadd (pc := 1500) dL_law_1500 ?_
              refine v_mmin (pc := 1501) q732 q403 q15 q404 (by decide) (Nat.le_of_ble_eq_true rfl) dL_law_1501 ?_
              refine v_icmp_gt (pc := 1504) (tgt := 1519) dL_law_1504 (by decide) (fun c1504 => absurd (smin h6 h7.2 ⟨hb0, by omega⟩ hn5) (Int32.not_le.mpr c1504)) (fun c1504 => ?_)
              refine v_iload (pc := 1507) dL_law_1507 rfl ?_
              refine v_aloadR (pc := 1509) dL_law_1509 rfl ?_
              refine v_iload (pc := 1511) dL_law_1511 rfl ?_
              refine v_aaldS (pc := 1513) 48 (k := i) (by decide) rfl (by omega) (by omega) dL_law_1513 ?_
              refine v_iconst (pc := 1514) (v := 3) dL_law_1514 rfl ?_
              refine v_ialdGN (pc := 1515) 49 (j := 3) rfl (by omega) (by decide) (by decide) dL_law_1515 ?_
              try dsimp only [wb, tlS_0, tlS_1, tlS_2, tlS_3, tlS_4, tlS_5, tlS_6, tlS_7, tlS_8, tlC_0, tlC_1, tlC_2, tlC_3, LawM, LakeM, WaysM, WorldM, SimM, List.set_cons_succ, List.set_cons_zero, List.append_nil, List.nil_append, List.cons_append, Option.toList, Nat.sub_zero]
              refine v_icmp_ge (pc := 1516) (tgt := 1521) dL_law_1516 (by decide) (fun c1516 => ?_) (fun c1516 => absurd (bI_mono h8) c1516)
              refine v_iconst (pc := 1521) (v := 0) dL_law_1521 rfl ?_
              refine v_istore (pc := 1522) dL_law_1522 (by show _ < 26; decide) rfl ?_
              refine v_iconst (pc := 1524) (v := 0) dL_law_1524 rfl ?_
              refine v_istore (pc := 1525) dL_law_1525 (by show _ < 26; decide) rfl ?_
              refine v_room (ck' := ck + 4 * m) (sk' := sk + 24 * m) (by omega) (by omega) ?_
              have k9 := lw_be (G := G) (nm := nm) (hd9 := hd9) (Z := Z) (ck := ck + 4 * m) (sk := sk + 24 * m) (g0 := g0) (w := w) (u := u) (v := v) (xs := xs) (bs := bs) (a := a) (b := b) (f := f) (wa := wa) (lr := lr) (nd := nd) (dg := dg) (T := T) (N := N) (S := S) (C := C) (B := B) (O := O) (ch := ch) (PC := PC) (SF := SF) (BF := BF) (ps := ps) (sc := sc) (bc := bc) (hh := hh) (a2 := a2) (b2 := b2) (f2 := f2) (wa2 := wa2) (lr2 := lr2) (nd2 := nd2) (dg2 := dg2) (T2 := T2) (N2 := N2) (S2 := S2) (C2 := C2) (B2 := B2) (O2 := O2) (ch2 := ch2) (PC2 := PC2) (SF2 := SF2) (BF2 := BF2) (ps2 := ps2) (sc2 := sc2) (hh2 := hh2) (MX := MX) (H := H) (D := D) (t0 := t0) (T0 := T0) (S0 := S0) (C0 := C0) (SF0 := SF0) (BF0 := BF0) (r7 := r7) (r8 := r8) (r9 := r9) (a7 := a7) (a8 := a8) (a9 := a9) (a15 := a15) (cm := cm) (cd := cd) (im := im) (LF := LF) (nw := nw) hps hsc hbc hi K1574 160 0 rfl
              refine v_sub ?_ k9
              exact ⟨rfl, rfl, rfl, rfl, rfl, rfl, rfl, rfl, rfl, rfl, rfl, rfl, rfl, rfl, rfl, rfl, rfl, rfl, rfl, rfl, rfl, trivial⟩
            · refine v_iload (pc := 1445) dL_law_1445 rfl ?_
              refine v_if_le (pc := 1447) (tgt := 1466) dL_law_1447 (by decide) (fun c1447 => ?_) (fun c1447 => ?_)
              · refine v_aloadR (pc := 1466) dL_law_1466 rfl ?_
                refine v_iload (pc := 1468) dL_law_1468 rfl ?_
                refine v_aaldS (pc := 1470) 48 (k := i) (by decide) rfl (by omega) (by omega) dL_law_1470 ?_
                refine v_iconst (pc := 1471) (v := 2) dL_law_1471 rfl ?_
                refine v_ialdGN (pc := 1472) 49 (j := 2) rfl (by omega) (by decide) (by decide) dL_law_1472 ?_
                try dsimp only [wb, tlS_0, tlS_1, tlS_2, tlS_3, tlS_4, tlS_5, tlS_6, tlS_7, tlS_8, tlC_0, tlC_1, tlC_2, tlC_3, LawM, LakeM, WaysM, WorldM, SimM, List.set_cons_succ, List.set_cons_zero, List.append_nil, List.nil_append, List.cons_append, Option.toList, Nat.sub_zero]
                refine v_istore (pc := 1473) dL_law_1473 (by show _ < 26; decide) rfl ?_
                have hbx := bas_1 (hh := t0) (f := cd) (S := S0) (c := i) (fun q => Int32.not_lt.mpr c1447 q.2)
                rw [hbx] at h5 h6 hb0
                refine v_iload (pc := 1475) dL_law_1475 rfl ?_
                refine v_iload (pc := 1477) dL_law_1477 rfl ?_
                refine v_icmp_ne (pc := 1479) (tgt := 1519) dL_law_1479 (by decide) (fun c1479 => absurd (h4.trans (thn_2 (fun q => q.elim c1363 (fun q => q (hm1 c1368))) (Int32.not_le.mp c1383))) c1479) (fun c1479 => ?_)
                refine v_iload (pc := 1482) dL_law_1482 rfl ?_
                refine v_iload (pc := 1484) dL_law_1484 rfl ?_
                refine v_icmp_lt (pc := 1486) (tgt := 1519) dL_law_1486 (by decide) (fun c1486 => absurd c1486 (Int32.not_lt.mpr (i_le.mpr h5))) (fun c1486 => ?_)
                refine v_iload (pc := 1489) dL_law_1489 rfl ?_
                refine v_bipush (pc := 1491) (v := 9) dL_law_1491 rfl ?_
                refine v_iload (pc := 1493) dL_law_1493 rfl ?_
                refine v_aloadR (pc := 1495) dL_law_1495 rfl ?_
                refine v_iload (pc := 1497) dL_law_1497 rfl ?_
                refine v_ialdN (pc := 1499) 54 (k := i) rfl (by omega) (by omega) dL_law_1499 ?_
                rw [hL9]
                refine v_iadd (pc := 1500) dL_law_1500 ?_
                refine v_mmin (pc := 1501) q732 q403 q15 q404 (by decide) (Nat.le_of_ble_eq_true rfl) dL_law_1501 ?_
                refine v_icmp_gt (pc := 1504) (tgt := 1519) dL_law_1504 (by decide) (fun c1504 => absurd (smin h6 h7.2 ⟨hb0, by omega⟩ hn5) (Int32.not_le.mpr c1504)) (fun c1504 => ?_)
                refine v_iload (pc := 1507) dL_law_1507 rfl ?_
                refine v_aloadR (pc := 1509) dL_law_1509 rfl ?_
                refine v_iload (pc := 1511) dL_law_1511 rfl ?_
                refine v_aaldS (pc := 1513) 48 (k := i) (by decide) rfl (by omega) (by omega) dL_law_1513 ?_
                refine v_iconst (pc := 1514) (v := 3) dL_law_1514 rfl ?_
                refine v_ialdGN (pc := 1515) 49 (j := 3) rfl (by omega) (by decide) (by decide) dL_law_1515 ?_
                try dsimp only [wb, tlS_0, tlS_1, tlS_2, tlS_3, tlS_4, tlS_5, tlS_6, tlS_7, tlS_8, tlC_0, tlC_1, tlC_2, tlC_3, LawM, LakeM, WaysM, WorldM, SimM, List.set_cons_succ, List.set_cons_zero, List.append_nil, List.nil_append, List.cons_append, Option.toList, Nat.sub_zero]
                refine v_icmp_ge (pc := 1516) (tgt := 1521) dL_law_1516 (by decide) (fun c1516 => ?_) (fun c1516 => absurd (bI_mono h8) c1516)
                refine v_iconst (pc := 1521) (v := 0) dL_law_1521 rfl ?_
                refine v_istore (pc := 1522) dL_law_1522 (by show _ < 26; decide) rfl ?_
                refine v_iconst (pc := 1524) (v := 0) dL_law_1524 rfl ?_
                refine v_istore (pc := 1525) dL_law_1525 (by show _ < 26; decide) rfl ?_
                refine v_room (ck' := ck + 4 * m) (sk' := sk + 24 * m) (by omega) (by omega) ?_
                have k9 := lw_be (G := G) (nm := nm) (hd9 := hd9) (Z := Z) (ck := ck + 4 * m) (sk := sk + 24 * m) (g0 := g0) (w := w) (u := u) (v := v) (xs := xs) (bs := bs) (a := a) (b := b) (f := f) (wa := wa) (lr := lr) (nd := nd) (dg := dg) (T := T) (N := N) (S := S) (C := C) (B := B) (O := O) (ch := ch) (PC := PC) (SF := SF) (BF := BF) (ps := ps) (sc := sc) (bc := bc) (hh := hh) (a2 := a2) (b2 := b2) (f2 := f2) (wa2 := wa2) (lr2 := lr2) (nd2 := nd2) (dg2 := dg2) (T2 := T2) (N2 := N2) (S2 := S2) (C2 := C2) (B2 := B2) (O2 := O2) (ch2 := ch2) (PC2 := PC2) (SF2 := SF2) (BF2 := BF2) (ps2 := ps2) (sc2 := sc2) (hh2 := hh2) (MX := MX) (H := H) (D := D) (t0 := t0) (T0 := T0) (S0 := S0) (C0 := C0) (SF0 := SF0) (BF0 := BF0) (r7 := r7) (r8 := r8) (r9 := r9) (a7 := a7) (a8 := a8) (a9 := a9) (a15 := a15) (cm := cm) (cd := cd) (im := im) (LF := LF) (nw := nw) hps hsc hbc hi K1574 160 0 rfl
                refine v_sub ?_ k9
                exact ⟨rfl, rfl, rfl, rfl, rfl, rfl, rfl, rfl, rfl, rfl, rfl, rfl, rfl, rfl, rfl, rfl, rfl, rfl, rfl, rfl, rfl, trivial⟩
              · refine v_iconst (pc := 1450) (v := 0) dL_law_1450 rfl ?_
                refine v_aloadR (pc := 1451) dL_law_1451 rfl ?_
                refine v_iload (pc := 1453) dL_law_1453 rfl ?_
                refine v_aaldS (pc := 1455) 48 (k := i) (by decide) rfl (by omega) (by omega) dL_law_1455 ?_
                refine v_iconst (pc := 1456) (v := 2) dL_law_1456 rfl ?_
                refine v_ialdGN (pc := 1457) 49 (j := 2) rfl (by omega) (by decide) (by decide) dL_law_1457 ?_
                try dsimp only [wb, tlS_0, tlS_1, tlS_2, tlS_3, tlS_4, tlS_5, tlS_6, tlS_7, tlS_8, tlC_0, tlC_1, tlC_2, tlC_3, LawM, LakeM, WaysM, WorldM, SimM, List.set_cons_succ, List.set_cons_zero, List.append_nil, List.nil_append, List.cons_append, Option.toList, Nat.sub_zero]
                refine v_iconst (pc := 1458) (v := 2) dL_law_1458 rfl ?_
                refine v_isub (pc := 1459) dL_law_1459 ?_
                refine v_mmax (pc := 1460) q851 q406 q15 q407 (by decide) (Nat.le_of_ble_eq_true rfl) dL_law_1460 ?_
                refine v_goto (pc := 1463) (tgt := 1473) dL_law_1463 (by decide) ?_
                refine v_istore (pc := 1473) dL_law_1473 (by show _ < 26; decide) rfl ?_
                have hbx := bas_2 (hh := t0) (f := cd) (S := S0) (c := i) ⟨hm1 c1442, Int32.not_le.mp c1447⟩
                rw [hbx] at h5 h6 hb0
                refine v_iload (pc := 1475) dL_law_1475 rfl ?_
                refine v_iload (pc := 1477) dL_law_1477 rfl ?_
                refine v_icmp_ne (pc := 1479) (tgt := 1519) dL_law_1479 (by decide) (fun c1479 => absurd (h4.trans (thn_2 (fun q => q.elim c1363 (fun q => q (hm1 c1368))) (Int32.not_le.mp c1383))) c1479) (fun c1479 => ?_)
                refine v_iload (pc := 1482) dL_law_1482 rfl ?_
                refine v_iload (pc := 1484) dL_law_1484 rfl ?_
                refine v_icmp_lt (pc := 1486) (tgt := 1519) dL_law_1486 (by decide) (fun c1486 => absurd c1486 (Int32.not_lt.mpr (i_le.mpr h5))) (fun c1486 => ?_)
                refine v_iload (pc := 1489) dL_law_1489 rfl ?_
                refine v_bipush (pc := 1491) (v := 9) dL_law_1491 rfl ?_
                refine v_iload (pc := 1493) dL_law_1493 rfl ?_
                refine v_aloadR (pc := 1495) dL_law_1495 rfl ?_
                refine v_iload (pc := 1497) dL_law_1497 rfl ?_
                refine v_ialdN (pc := 1499) 54 (k := i) rfl (by omega) (by omega) dL_law_1499 ?_
                rw [hL9]
                refine v_iadd (pc := 1500) dL_law_1500 ?_
                refine v_mmin (pc := 1501) q732 q403 q15 q404 (by decide) (Nat.le_of_ble_eq_true rfl) dL_law_1501 ?_
                refine v_icmp_gt (pc := 1504) (tgt := 1519) dL_law_1504 (by decide) (fun c1504 => absurd (smin h6 h7.2 ⟨hb0, by omega⟩ hn5) (Int32.not_le.mpr c1504)) (fun c1504 => ?_)
                refine v_iload (pc := 1507) dL_law_1507 rfl ?_
                refine v_aloadR (pc := 1509) dL_law_1509 rfl ?_
                refine v_iload (pc := 1511) dL_law_1511 rfl ?_
                refine v_aaldS (pc := 1513) 48 (k := i) (by decide) rfl (by omega) (by omega) dL_law_1513 ?_
                refine v_iconst (pc := 1514) (v := 3) dL_law_1514 rfl ?_
                refine v_ialdGN (pc := 1515) 49 (j := 3) rfl (by omega) (by decide) (by decide) dL_law_1515 ?_
                try dsimp only [wb, tlS_0, tlS_1, tlS_2, tlS_3, tlS_4, tlS_5, tlS_6, tlS_7, tlS_8, tlC_0, tlC_1, tlC_2, tlC_3, LawM, LakeM, WaysM, WorldM, SimM, List.set_cons_succ, List.set_cons_zero, List.append_nil, List.nil_append, List.cons_append, Option.toList, Nat.sub_zero]
                refine v_icmp_ge (pc := 1516) (tgt := 1521) dL_law_1516 (by decide) (fun c1516 => ?_) (fun c1516 => absurd (bI_mono h8) c1516)
                refine v_iconst (pc := 1521) (v := 0) dL_law_1521 rfl ?_
                refine v_istore (pc := 1522) dL_law_1522 (by show _ < 26; decide) rfl ?_
                refine v_iconst (pc := 1524) (v := 0) dL_law_1524 rfl ?_
                refine v_istore (pc := 1525) dL_law_1525 (by show _ < 26; decide) rfl ?_
                refine v_room (ck' := ck + 4 * m) (sk' := sk + 24 * m) (by omega) (by omega) ?_
                have k9 := lw_be (G := G) (nm := nm) (hd9 := hd9) (Z := Z) (ck := ck + 4 * m) (sk := sk + 24 * m) (g0 := g0) (w := w) (u := u) (v := v) (xs := xs) (bs := bs) (a := a) (b := b) (f := f) (wa := wa) (lr := lr) (nd := nd) (dg := dg) (T := T) (N := N) (S := S) (C := C) (B := B) (O := O) (ch := ch) (PC := PC) (SF := SF) (BF := BF) (ps := ps) (sc := sc) (bc := bc) (hh := hh) (a2 := a2) (b2 := b2) (f2 := f2) (wa2 := wa2) (lr2 := lr2) (nd2 := nd2) (dg2 := dg2) (T2 := T2) (N2 := N2) (S2 := S2) (C2 := C2) (B2 := B2) (O2 := O2) (ch2 := ch2) (PC2 := PC2) (SF2 := SF2) (BF2 := BF2) (ps2 := ps2) (sc2 := sc2) (hh2 := hh2) (MX := MX) (H := H) (D := D) (t0 := t0) (T0 := T0) (S0 := S0) (C0 := C0) (SF0 := SF0) (BF0 := BF0) (r7 := r7) (r8 := r8) (r9 := r9) (a7 := a7) (a8 := a8) (a9 := a9) (a15 := a15) (cm := cm) (cd := cd) (im := im) (LF := LF) (nw := nw) hps hsc hbc hi K1574 160 0 rfl
                refine v_sub ?_ k9
                exact ⟨rfl, rfl, rfl, rfl, rfl, rfl, rfl, rfl, rfl, rfl, rfl, rfl, rfl, rfl, rfl, rfl, rfl, rfl, rfl, rfl, rfl, trivial⟩
        · refine v_aloadR (pc := 1371) dL_law_1371 rfl ?_
          refine v_iload (pc := 1373) dL_law_1373 rfl ?_
          refine v_aaldS (pc := 1375) 48 (k := i) (by decide) rfl (by omega) (by omega) dL_law_1375 ?_
          refine v_iconst (pc := 1376) (v := 0) dL_law_1376 rfl ?_
          refine v_ialdGN (pc := 1377) 49 (j := 0) rfl (by omega) (by decide) (by decide) dL_law_1377 ?_
          try dsimp only [wb, tlS_0, tlS_1, tlS_2, tlS_3, tlS_4, tlS_5, tlS_6, tlS_7, tlS_8, tlC_0, tlC_1, tlC_2, tlC_3, LawM, LakeM, WaysM, WorldM, SimM, List.set_cons_succ, List.set_cons_zero, List.append_nil, List.nil_append, List.cons_append, Option.toList, Nat.sub_zero]
          refine v_goto (pc := 1378) (tgt := 1438) dL_law_1378 (by decide) ?_
          refine v_istore (pc := 1438) dL_law_1438 (by show _ < 26; decide) rfl ?_
          refine v_iload (pc := 1440) dL_law_1440 rfl ?_
          refine v_if_eq (pc := 1442) (tgt := 1466) dL_law_1442 (by decide) (fun c1442 => ?_) (fun c1442 => ?_)
          · refine v_aloadR (pc := 1466) dL_law_1466 rfl ?_
            refine v_iload (pc := 1468) dL_law_1468 rfl ?_
            refine v_aaldS (pc := 1470) 48 (k := i) (by decide) rfl (by omega) (by omega) dL_law_1470 ?_
            refine v_iconst (pc := 1471) (v := 2) dL_law_1471 rfl ?_
            refine v_ialdGN (pc := 1472) 49 (j := 2) rfl (by omega) (by decide) (by decide) dL_law_1472 ?_
            try dsimp only [wb, tlS_0, tlS_1, tlS_2, tlS_3, tlS_4, tlS_5, tlS_6, tlS_7, tlS_8, tlC_0, tlC_1, tlC_2, tlC_3, LawM, LakeM, WaysM, WorldM, SimM, List.set_cons_succ, List.set_cons_zero, List.append_nil, List.nil_append, List.cons_append, Option.toList, Nat.sub_zero]
            refine v_istore (pc := 1473) dL_law_1473 (by show _ < 26; decide) rfl ?_
            have hbx := bas_1 (hh := t0) (f := cd) (S := S0) (c := i) (fun q => hm0 c1442 q.1)
            rw [hbx] at h5 h6 hb0
            refine v_iload (pc := 1475) dL_law_1475 rfl ?_
            refine v_iload (pc := 1477) dL_law_1477 rfl ?_
            refine v_icmp_ne (pc := 1479) (tgt := 1519) dL_law_1479 (by decide) (fun c1479 => absurd (h4.trans (thn_1 (Or.inr (hm0 c1368)))) c1479) (fun c1479 => ?_)
            refine v_iload (pc := 1482) dL_law_1482 rfl ?_
            refine v_iload (pc := 1484) dL_law_1484 rfl ?_
            refine v_icmp_lt (pc := 1486) (tgt := 1519) dL_law_1486 (by decide) (fun c1486 => absurd c1486 (Int32.not_lt.mpr (i_le.mpr h5))) (fun c1486 => ?_)
            refine v_iload (pc := 1489) dL_law_1489 rfl ?_
            refine v_bipush (pc := 1491) (v := 9) dL_law_1491 rfl ?_
            refine v_iload (pc := 1493) dL_law_1493 rfl ?_
            refine v_aloadR (pc := 1495) dL_law_1495 rfl ?_
            refine v_iload (pc := 1497) dL_law_1497 rfl ?_
            refine v_ialdN (pc := 1499) 54 (k := i) rfl (by omega) (by omega) dL_law_1499 ?_
            rw [hL9]
            refine v_iadd (pc := 1500) dL_law_1500 ?_
            refine v_mmin (pc := 1501) q732 q403 q15 q404 (by decide) (Nat.le_of_ble_eq_true rfl) dL_law_1501 ?_
            refine v_icmp_gt (pc := 1504) (tgt := 1519) dL_law_1504 (by decide) (fun c1504 => absurd (smin h6 h7.2 ⟨hb0, by omega⟩ hn5) (Int32.not_le.mpr c1504)) (fun c1504 => ?_)
            refine v_iload (pc := 1507) dL_law_1507 rfl ?_
            refine v_aloadR (pc := 1509) dL_law_1509 rfl ?_
            refine v_iload (pc := 1511) dL_law_1511 rfl ?_
            refine v_aaldS (pc := 1513) 48 (k := i) (by decide) rfl (by omega) (by omega) dL_law_1513 ?_
            refine v_iconst (pc := 1514) (v := 3) dL_law_1514 rfl ?_
            refine v_ialdGN (pc := 1515) 49 (j := 3) rfl (by omega) (by decide) (by decide) dL_law_1515 ?_
            try dsimp only [wb, tlS_0, tlS_1, tlS_2, tlS_3, tlS_4, tlS_5, tlS_6, tlS_7, tlS_8, tlC_0, tlC_1, tlC_2, tlC_3, LawM, LakeM, WaysM, WorldM, SimM, List.set_cons_succ, List.set_cons_zero, List.append_nil, List.nil_append, List.cons_append, Option.toList, Nat.sub_zero]
            refine v_icmp_ge (pc := 1516) (tgt := 1521) dL_law_1516 (by decide) (fun c1516 => ?_) (fun c1516 => absurd (bI_mono h8) c1516)
            refine v_iconst (pc := 1521) (v := 0) dL_law_1521 rfl ?_
            refine v_istore (pc := 1522) dL_law_1522 (by show _ < 26; decide) rfl ?_
            refine v_iconst (pc := 1524) (v := 0) dL_law_1524 rfl ?_
            refine v_istore (pc := 1525) dL_law_1525 (by show _ < 26; decide) rfl ?_
            refine v_room (ck' := ck + 4 * m) (sk' := sk + 24 * m) (by omega) (by omega) ?_
            have k9 := lw_be (G := G) (nm := nm) (hd9 := hd9) (Z := Z) (ck := ck + 4 * m) (sk := sk + 24 * m) (g0 := g0) (w := w) (u := u) (v := v) (xs := xs) (bs := bs) (a := a) (b := b) (f := f) (wa := wa) (lr := lr) (nd := nd) (dg := dg) (T := T) (N := N) (S := S) (C := C) (B := B) (O := O) (ch := ch) (PC := PC) (SF := SF) (BF := BF) (ps := ps) (sc := sc) (bc := bc) (hh := hh) (a2 := a2) (b2 := b2) (f2 := f2) (wa2 := wa2) (lr2 := lr2) (nd2 := nd2) (dg2 := dg2) (T2 := T2) (N2 := N2) (S2 := S2) (C2 := C2) (B2 := B2) (O2 := O2) (ch2 := ch2) (PC2 := PC2) (SF2 := SF2) (BF2 := BF2) (ps2 := ps2) (sc2 := sc2) (hh2 := hh2) (MX := MX) (H := H) (D := D) (t0 := t0) (T0 := T0) (S0 := S0) (C0 := C0) (SF0 := SF0) (BF0 := BF0) (r7 := r7) (r8 := r8) (r9 := r9) (a7 := a7) (a8 := a8) (a9 := a9) (a15 := a15) (cm := cm) (cd := cd) (im := im) (LF := LF) (nw := nw) hps hsc hbc hi K1574 160 0 rfl
            refine v_sub ?_ k9
            exact ⟨rfl, rfl, rfl, rfl, rfl, rfl, rfl, rfl, rfl, rfl, rfl, rfl, rfl, rfl, rfl, rfl, rfl, rfl, rfl, rfl, rfl, trivial⟩
          · refine v_iload (pc := 1445) dL_law_1445 rfl ?_
            refine v_if_le (pc := 1447) (tgt := 1466) dL_law_1447 (by decide) (fun c1447 => ?_) (fun c1447 => ?_)
            · refine v_aloadR (pc := 1466) dL_law_1466 rfl ?_
              refine v_iload (pc := 1468) dL_law_1468 rfl ?_
              refine v_aaldS (pc := 1470) 48 (k := i) (by decide) rfl (by omega) (by omega) dL_law_1470 ?_
              refine v_iconst (pc := 1471) (v := 2) dL_law_1471 rfl ?_
              refine v_ialdGN (pc := 1472) 49 (j := 2) rfl (by omega) (by decide) (by decide) dL_law_1472 ?_
              try dsimp only [wb, tlS_0, tlS_1, tlS_2, tlS_3, tlS_4, tlS_5, tlS_6, tlS_7, tlS_8, tlC_0, tlC_1, tlC_2, tlC_3, LawM, LakeM, WaysM, WorldM, SimM, List.set_cons_succ, List.set_cons_zero, List.append_nil, List.nil_append, List.cons_append, Option.toList, Nat.sub_zero]
              refine v_istore (pc := 1473) dL_law_1473 (by show _ < 26; decide) rfl ?_
              have hbx := bas_1 (hh := t0) (f := cd) (S := S0) (c := i) (fun q => Int32.not_lt.mpr c1447 q.2)
              rw [hbx] at h5 h6 hb0
              refine v_iload (pc := 1475) dL_law_1475 rfl ?_
              refine v_iload (pc := 1477) dL_law_1477 rfl ?_
              refine v_icmp_ne (pc := 1479) (tgt := 1519) dL_law_1479 (by decide) (fun c1479 => absurd (h4.trans (thn_1 (Or.inr (hm0 c1368)))) c1479) (fun c1479 => ?_)
              refine v_iload (pc := 1482) dL_law_1482 rfl ?_
              refine v_iload (pc := 1484) dL_law_1484 rfl ?_
              refine v_icmp_lt (pc := 1486) (tgt := 1519) dL_law_1486 (by decide) (fun c1486 => absurd c1486 (Int32.not_lt.mpr (i_le.mpr h5))) (fun c1486 => ?_)
              refine v_iload (pc := 1489) dL_law_1489 rfl ?_
              refine v_bipush (pc := 1491) (v := 9) dL_law_1491 rfl ?_
              refine v_iload (pc := 1493) dL_law_1493 rfl ?_
              refine v_aloadR (pc := 1495) dL_law_1495 rfl ?_
              refine v_iload (pc := 1497) dL_law_1497 rfl ?_
              refine v_ialdN (pc := 1499) 54 (k := i) rfl (by omega) (by omega) dL_law_1499 ?_
              rw [hL9]
              refine v_iadd (pc := 1500) dL_law_1500 ?_
              refine v_mmin (pc := 1501) q732 q403 q15 q404 (by decide) (Nat.le_of_ble_eq_true rfl) dL_law_1501 ?_
              refine v_icmp_gt (pc := 1504) (tgt := 1519) dL_law_1504 (by decide) (fun c1504 => absurd (smin h6 h7.2 ⟨hb0, by omega⟩ hn5) (Int32.not_le.mpr c1504)) (fun c1504 => ?_)
              refine v_iload (pc := 1507) dL_law_1507 rfl ?_
              refine v_aloadR (pc := 1509) dL_law_1509 rfl ?_
              refine v_iload (pc := 1511) dL_law_1511 rfl ?_
              refine v_aaldS (pc := 1513) 48 (k := i) (by decide) rfl (by omega) (by omega) dL_law_1513 ?_
              refine v_iconst (pc := 1514) (v := 3) dL_law_1514 rfl ?_
              refine v_ialdGN (pc := 1515) 49 (j := 3) rfl (by omega) (by decide) (by decide) dL_law_1515 ?_
              try dsimp only [wb, tlS_0, tlS_1, tlS_2, tlS_3, tlS_4, tlS_5, tlS_6, tlS_7, tlS_8, tlC_0, tlC_1, tlC_2, tlC_3, LawM, LakeM, WaysM, WorldM, SimM, List.set_cons_succ, List.set_cons_zero, List.append_nil, List.nil_append, List.cons_append, Option.toList, Nat.sub_zero]
              refine v_icmp_ge (pc := 1516) (tgt := 1521) dL_law_1516 (by decide) (fun c1516 => ?_) (fun c1516 => absurd (bI_mono h8) c1516)
              refine v_iconst (pc := 1521) (v := 0) dL_law_1521 rfl ?_
              refine v_istore (pc := 1522) dL_law_1522 (by show _ < 26; decide) rfl ?_
              refine v_iconst (pc := 1524) (v := 0) dL_law_1524 rfl ?_
              refine v_istore (pc := 1525) dL_law_1525 (by show _ < 26; decide) rfl ?_
              refine v_room (ck' := ck + 4 * m) (sk' := sk + 24 * m) (by omega) (by omega) ?_
              have k9 := lw_be (G := G) (nm := nm) (hd9 := hd9) (Z := Z) (ck := ck + 4 * m) (sk := sk + 24 * m) (g0 := g0) (w := w) (u := u) (v := v) (xs := xs) (bs := bs) (a := a) (b := b) (f := f) (wa := wa) (lr := lr) (nd := nd) (dg := dg) (T := T) (N := N) (S := S) (C := C) (B := B) (O := O) (ch := ch) (PC := PC) (SF := SF) (BF := BF) (ps := ps) (sc := sc) (bc := bc) (hh := hh) (a2 := a2) (b2 := b2) (f2 := f2) (wa2 := wa2) (lr2 := lr2) (nd2 := nd2) (dg2 := dg2) (T2 := T2) (N2 := N2) (S2 := S2) (C2 := C2) (B2 := B2) (O2 := O2) (ch2 := ch2) (PC2 := PC2) (SF2 := SF2) (BF2 := BF2) (ps2 := ps2) (sc2 := sc2) (hh2 := hh2) (MX := MX) (H := H) (D := D) (t0 := t0) (T0 := T0) (S0 := S0) (C0 := C0) (SF0 := SF0) (BF0 := BF0) (r7 := r7) (r8 := r8) (r9 := r9) (a7 := a7) (a8 := a8) (a9 := a9) (a15 := a15) (cm := cm) (cd := cd) (im := im) (LF := LF) (nw := nw) hps hsc hbc hi K1574 160 0 rfl
              refine v_sub ?_ k9
              exact ⟨rfl, rfl, rfl, rfl, rfl, rfl, rfl, rfl, rfl, rfl, rfl, rfl, rfl, rfl, rfl, rfl, rfl, rfl, rfl, rfl, rfl, trivial⟩
            · refine v_iconst (pc := 1450) (v := 0) dL_law_1450 rfl ?_
              refine v_aloadR (pc := 1451) dL_law_1451 rfl ?_
              refine v_iload (pc := 1453) dL_law_1453 rfl ?_
              refine v_aaldS (pc := 1455) 48 (k := i) (by decide) rfl (by omega) (by omega) dL_law_1455 ?_
              refine v_iconst (pc := 1456) (v := 2) dL_law_1456 rfl ?_
              refine v_ialdGN (pc := 1457) 49 (j := 2) rfl (by omega) (by decide) (by decide) dL_law_1457 ?_
              try dsimp only [wb, tlS_0, tlS_1, tlS_2, tlS_3, tlS_4, tlS_5, tlS_6, tlS_7, tlS_8, tlC_0, tlC_1, tlC_2, tlC_3, LawM, LakeM, WaysM, WorldM, SimM, List.set_cons_succ, List.set_cons_zero, List.append_nil, List.nil_append, List.cons_append, Option.toList, Nat.sub_zero]
              refine v_iconst (pc := 1458) (v := 2) dL_law_1458 rfl ?_
              refine v_isub (pc := 1459) dL_law_1459 ?_
              refine v_mmax (pc := 1460) q851 q406 q15 q407 (by decide) (Nat.le_of_ble_eq_true rfl) dL_law_1460 ?_
              refine v_goto (pc := 1463) (tgt := 1473) dL_law_1463 (by decide) ?_
              refine v_istore (pc := 1473) dL_law_1473 (by show _ < 26; decide) rfl ?_
              have hbx := bas_2 (hh := t0) (f := cd) (S := S0) (c := i) ⟨hm1 c1442, Int32.not_le.mp c1447⟩
              rw [hbx] at h5 h6 hb0
              refine v_iload (pc := 1475) dL_law_1475 rfl ?_
              refine v_iload (pc := 1477) dL_law_1477 rfl ?_
              refine v_icmp_ne (pc := 1479) (tgt := 1519) dL_law_1479 (by decide) (fun c1479 => absurd (h4.trans (thn_1 (Or.inr (hm0 c1368)))) c1479) (fun c1479 => ?_)
              refine v_iload (pc := 1482) dL_law_1482 rfl ?_
              refine v_iload (pc := 1484) dL_law_1484 rfl ?_
              refine v_icmp_lt (pc := 1486) (tgt := 1519) dL_law_1486 (by decide) (fun c1486 => absurd c1486 (Int32.not_lt.mpr (i_le.mpr h5))) (fun c1486 => ?_)
              refine v_iload (pc := 1489) dL_law_1489 rfl ?_
              refine v_bipush (pc := 1491) (v := 9) dL_law_1491 rfl ?_
              refine v_iload (pc := 1493) dL_law_1493 rfl ?_
              refine v_aloadR (pc := 1495) dL_law_1495 rfl ?_
              refine v_iload (pc := 1497) dL_law_1497 rfl ?_
              refine v_ialdN (pc := 1499) 54 (k := i) rfl (by omega) (by omega) dL_law_1499 ?_
              rw [hL9]
              refine v_iadd (pc := 1500) dL_law_1500 ?_
              refine v_mmin (pc := 1501) q732 q403 q15 q404 (by decide) (Nat.le_of_ble_eq_true rfl) dL_law_1501 ?_
              refine v_icmp_gt (pc := 1504) (tgt := 1519) dL_law_1504 (by decide) (fun c1504 => absurd (smin h6 h7.2 ⟨hb0, by omega⟩ hn5) (Int32.not_le.mpr c1504)) (fun c1504 => ?_)
              refine v_iload (pc := 1507) dL_law_1507 rfl ?_
              refine v_aloadR (pc := 1509) dL_law_1509 rfl ?_
              refine v_iload (pc := 1511) dL_law_1511 rfl ?_
              refine v_aaldS (pc := 1513) 48 (k := i) (by decide) rfl (by omega) (by omega) dL_law_1513 ?_
              refine v_iconst (pc := 1514) (v := 3) dL_law_1514 rfl ?_
              refine v_ialdGN (pc := 1515) 49 (j := 3) rfl (by omega) (by decide) (by decide) dL_law_1515 ?_
              try dsimp only [wb, tlS_0, tlS_1, tlS_2, tlS_3, tlS_4, tlS_5, tlS_6, tlS_7, tlS_8, tlC_0, tlC_1, tlC_2, tlC_3, LawM, LakeM, WaysM, WorldM, SimM, List.set_cons_succ, List.set_cons_zero, List.append_nil, List.nil_append, List.cons_append, Option.toList, Nat.sub_zero]
              refine v_icmp_ge (pc := 1516) (tgt := 1521) dL_law_1516 (by decide) (fun c1516 => ?_) (fun c1516 => absurd (bI_mono h8) c1516)
              refine v_iconst (pc := 1521) (v := 0) dL_law_1521 rfl ?_
              refine v_istore (pc := 1522) dL_law_1522 (by show _ < 26; decide) rfl ?_
              refine v_iconst (pc := 1524) (v := 0) dL_law_1524 rfl ?_
              refine v_istore (pc := 1525) dL_law_1525 (by show _ < 26; decide) rfl ?_
              refine v_room (ck' := ck + 4 * m) (sk' := sk + 24 * m) (by omega) (by omega) ?_
              have k9 := lw_be (G := G) (nm := nm) (hd9 := hd9) (Z := Z) (ck := ck + 4 * m) (sk := sk + 24 * m) (g0 := g0) (w := w) (u := u) (v := v) (xs := xs) (bs := bs) (a := a) (b := b) (f := f) (wa := wa) (lr := lr) (nd := nd) (dg := dg) (T := T) (N := N) (S := S) (C := C) (B := B) (O := O) (ch := ch) (PC := PC) (SF := SF) (BF := BF) (ps := ps) (sc := sc) (bc := bc) (hh := hh) (a2 := a2) (b2 := b2) (f2 := f2) (wa2 := wa2) (lr2 := lr2) (nd2 := nd2) (dg2 := dg2) (T2 := T2) (N2 := N2) (S2 := S2) (C2 := C2) (B2 := B2) (O2 := O2) (ch2 := ch2) (PC2 := PC2) (SF2 := SF2) (BF2 := BF2) (ps2 := ps2) (sc2 := sc2) (hh2 := hh2) (MX := MX) (H := H) (D := D) (t0 := t0) (T0 := T0) (S0 := S0) (C0 := C0) (SF0 := SF0) (BF0 := BF0) (r7 := r7) (r8 := r8) (r9 := r9) (a7 := a7) (a8 := a8) (a9 := a9) (a15 := a15) (cm := cm) (cd := cd) (im := im) (LF := LF) (nw := nw) hps hsc hbc hi K1574 160 0 rfl
              refine v_sub ?_ k9
              exact ⟨rfl, rfl, rfl, rfl, rfl, rfl, rfl, rfl, rfl, rfl, rfl, rfl, rfl, rfl, rfl, rfl, rfl, rfl, rfl, rfl, rfl, trivial⟩
