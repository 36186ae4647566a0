/-! the law's own model: sinking, going; what holds of sleighs beside -/
def tiK (SF : Nat → Nat → Int32) (sc : Nat) : Prop := ∀ i, i < sc → 0 ≤ (SF i 2).toInt ∧ (SF i 2).toInt ≤ 100
def zJ (SF : Nat → Nat → Int32) (sc : Nat) : Prop := ∀ i, i < sc → ¬ SF i 3 = 1 → SF i 7 = 0
def jV (SF : Nat → Nat → Int32) (sc : Nat) : Prop := tiK SF sc ∧ zJ SF sc
theorem e100 : (100 : Int32).toInt = 100 := by decide
theorem e2i : (2 : Int32).toInt = 2 := by decide
theorem t_up {t : Int32} (h : 0 ≤ t.toInt ∧ t.toInt ≤ 100) : (t < 100 → t + 1 = (if t + 1 < 100 then t + 1 else 100)) ∧ (¬ t < 100 → t = (if t + 1 < 100 then t + 1 else 100)) ∧ 0 ≤ (if t + 1 < 100 then t + 1 else 100 : Int32).toInt ∧ (if t + 1 < 100 then t + 1 else 100 : Int32).toInt ≤ 100 := by
  have e : (t + 1).toInt = t.toInt + 1 := by rw [fb_addI (by rw [i_1]; omega) (by rw [i_1]; omega), i_1]
  by_cases h1 : t + 1 < 100
  · rw [if_pos h1]
    rw [i_lt, e, e100] at h1
    refine ⟨fun _ => rfl, fun q => absurd (i_lt.mpr (by rw [e100]; omega)) q, by rw [e]; omega, by rw [e]; omega⟩
  · rw [if_neg h1]
    rw [i_lt, e, e100] at h1
    refine ⟨fun q => ?_, fun q => ?_, by decide, by decide⟩
    · rw [i_lt, e100] at q
      exact Int32.toInt_inj.mp (by rw [e, e100]; omega)
    · rw [i_lt, e100] at q
      exact Int32.toInt_inj.mp (by rw [e100]; omega)
theorem t_dn {t : Int32} (h : 0 ≤ t.toInt ∧ t.toInt ≤ 100) : (t ≤ 2 → (0 : Int32) = (if 0 < t - 2 then t - 2 else 0)) ∧ (¬ t ≤ 2 → t - 2 = (if 0 < t - 2 then t - 2 else 0)) ∧ 0 ≤ (if 0 < t - 2 then t - 2 else 0 : Int32).toInt ∧ (if 0 < t - 2 then t - 2 else 0 : Int32).toInt ≤ 100 := by
  have e : (t - 2).toInt = t.toInt - 2 := by rw [fb_subI (by rw [e2i]; omega) (by rw [e2i]; omega), e2i]
  by_cases h1 : 0 < t - 2
  · rw [if_pos h1]
    rw [i_lt, e, i_0] at h1
    refine ⟨fun q => absurd q (fun q => ?_), fun _ => rfl, by rw [e]; omega, by rw [e]; omega⟩
    rw [i_le, e2i] at q
    omega
  · rw [if_neg h1]
    rw [i_lt, e, i_0] at h1
    refine ⟨fun _ => rfl, fun q => absurd (i_le.mpr (by rw [e2i]; omega)) q, by decide, by decide⟩
theorem jV.sk {SF : Nat → Nat → Int32} {sc n : Nat} (h : jV SF sc) : jV (skS SF n) sc := by
  have e2 : ∀ i, skS SF n i 2 = SF i 2 := fun i => by
    unfold skS
    rw [upS_n _ _ (by omega), upS_n _ _ (by omega), upS_n _ _ (by omega), upS_n _ _ (by omega), upS_n _ _ (by omega)]
  refine ⟨fun i hi => by rw [e2]; exact h.1 i hi, fun i hi h3 => ?_⟩
  by_cases e : i = n
  · subst e
    exact upS_s _ _ _ _
  · rw [skS_same i 3 e] at h3
    rw [skS_same i 7 e]
    exact h.2 i hi h3
theorem coS_2 {SF : Nat → Nat → Int32} {n : Nat} (h : 0 ≤ (SF n 2).toInt ∧ (SF n 2).toInt ≤ 100) : 0 ≤ (coS SF n n 2).toInt ∧ (coS SF n n 2).toInt ≤ 100 := by
  unfold coS
  split
  · rw [upS_n _ _ (by omega)]
    exact h
  · rw [upS_s]
    exact (t_up h).2.2
theorem coS_3 {SF : Nat → Nat → Int32} {n : Nat} : coS SF n n 3 = SF n 3 := coS_k (by decide) (by decide) (by decide) (by decide)
theorem jV.mv {SF BF : Nat → Nat → Int32} {PC : Nat → Int32} {ps sc bc hh n : Nat} {c : Int32} (h : jV SF sc) : jV (mvT PC ps sc bc hh n (SF, BF, c)).1 sc := by
  unfold mvT
  split
  · rename_i h1
    have h1 : n < sc ∧ (SF n 3 = 1 ∧ 0 < SF n 7) := h1
    split
    · rename_i h2
      have h2 : ¬ 0 < SF n 7 - 1 ∧ coS SF n n 4 = cop PC ps (coS SF n n 5) := h2
      show jV (rsS (coS SF n) n) sc
      have e2 : ∀ i, rsS (coS SF n) n i 2 = coS SF n i 2 := fun i => by
        unfold rsS
        rw [upS_n _ _ (by omega), upS_n _ _ (by omega)]
      refine ⟨fun i hi => ?_, fun i hi h3 => ?_⟩
      · rw [e2]
        by_cases e : i = n
        · subst e
          exact coS_2 (h.1 i hi)
        · rw [coS_same i 2 e]
          exact h.1 i hi
      · by_cases e : i = n
        · subst e
          rw [rsS_k (by decide) (by decide), coS_7]
          exact dec_z h1.2.2 h2.1
        · rw [rsS_same i 3 e, coS_same i 3 e] at h3
          rw [rsS_same i 7 e, coS_same i 7 e]
          exact h.2 i hi h3
    · show jV (coS SF n) sc
      refine ⟨fun i hi => ?_, fun i hi h3 => ?_⟩
      · by_cases e : i = n
        · subst e
          exact coS_2 (h.1 i hi)
        · rw [coS_same i 2 e]
          exact h.1 i hi
      · by_cases e : i = n
        · subst e
          rw [coS_3, h1.2.1] at h3
          exact absurd rfl h3
        · rw [coS_same i 3 e] at h3
          rw [coS_same i 7 e]
          exact h.2 i hi h3
  · exact h
theorem jV.so {l5 : Value} {T N PC : Nat → Int32} {ps sc n : Nat} {x : SO} (h : jV x.1 sc) : jV (soT l5 T N PC ps sc n x).1 sc := by
  by_cases h1 : n < sc ∧ x.1 n 3 = 1 ∧ ¬ 0 < x.1 n 7 ∧ ¬ x.1 n 8 = x.2.2.2.2.2.2.2
  · have e2 : ∀ i, (soT l5 T N PC ps sc n x).1 i 2 = x.1 i 2 := fun i => by
      unfold soT
      rw [if_pos h1]
      split
      · exact upS_n _ _ (by omega)
      · show upS (upS x.1 n 6 _) n 7 _ i 2 = _
        rw [upS_n _ _ (by omega), upS_n _ _ (by omega)]
    refine ⟨fun i hi => by rw [e2]; exact h.1 i hi, fun i hi h3 => ?_⟩
    rw [soT_3] at h3
    by_cases e : i = n
    · subst e
      exact absurd h1.2.1 h3
    · rw [soT_n e]
      exact h.2 i hi h3
  · have e : soT l5 T N PC ps sc n x = x := if_neg h1
    rw [e]
    exact h
theorem jV.re {SF : Nat → Nat → Int32} {sc n : Nat} (h : jV SF sc) : jV (reT sc n SF) sc := by
  refine ⟨fun i hi => ?_, fun i hi h3 => ?_⟩
  · unfold reT
    split
    · by_cases e : i = n
      · subst e
        rw [upS_s]
        exact (t_dn (h.1 i hi)).2.2
      · rw [upS_n _ _ (fun q => e q.1)]
        exact h.1 i hi
    · exact h.1 i hi
  · rw [reT_k (by decide)] at h3 ⊢
    exact h.2 i hi h3
/-! the model's columns -/
theorem smX_cong {SF SG : Nat → Nat → Int32} {MX : Nat → Int32} {n : Nat} (h : ∀ i k, i < n → k = 0 ∨ k = 2 ∨ k = 3 ∨ k = 4 ∨ k = 5 ∨ k = 7 → SF i k = SG i k) : ∀ i k, i < n → k < 7 → smX SF MX i k = smX SG MX i k := by
  intro i k hi hk
  rcases (show k = 0 ∨ k = 1 ∨ k = 2 ∨ k = 3 ∨ k = 4 ∨ k = 5 ∨ k = 6 by omega) with rfl | rfl | rfl | rfl | rfl | rfl | rfl
  · exact h i 0 hi (by decide)
  · exact h i 2 hi (by decide)
  · exact h i 3 hi (by decide)
  · exact h i 4 hi (by decide)
  · exact h i 5 hi (by decide)
  · rfl
  · exact h i 7 hi (by decide)
theorem sx_sk {SF : Nat → Nat → Int32} {MX : Nat → Int32} {s n : Nat} : ∀ i k, i < n → k < 7 → smX (upS (upS (upS SF s 3 2) s 5 (-1)) s 7 0) MX i k = smX (skS SF s) MX i k := smX_cong (fun i k _ hk => by
  unfold skS upS
  rcases hk with rfl | rfl | rfl | rfl | rfl | rfl <;> simp)
theorem sx_co {SF : Nat → Nat → Int32} {MX : Nat → Int32} {s n : Nat} (h : ¬ 0 < SF s 7 - 1) (hX : MX s = SF s 6) (ht : SF s 2 < 100 → SF s 2 + 1 = (if SF s 2 + 1 < 100 then SF s 2 + 1 else 100)) (h1 : SF s 2 < 100) : ∀ i k, i < n → k < 7 → smX (upS (upS (upS SF s 7 (SF s 7 - 1)) s 4 (MX s)) s 2 (SF s 2 + 1)) MX i k = smX (coS SF s) MX i k := smX_cong (fun i k _ hk => by
  unfold coS
  rw [if_neg h, hX, ← ht h1]
  unfold upS
  rcases hk with rfl | rfl | rfl | rfl | rfl | rfl <;> simp)
theorem sx_co2 {SF : Nat → Nat → Int32} {MX : Nat → Int32} {s n : Nat} (h : ¬ 0 < SF s 7 - 1) (hX : MX s = SF s 6) (ht : ¬ SF s 2 < 100 → SF s 2 = (if SF s 2 + 1 < 100 then SF s 2 + 1 else 100)) (h1 : ¬ SF s 2 < 100) : ∀ i k, i < n → k < 7 → smX (upS (upS SF s 7 (SF s 7 - 1)) s 4 (MX s)) MX i k = smX (coS SF s) MX i k := smX_cong (fun i k _ hk => by
  have e2 : (if SF s 2 + 1 < 100 then SF s 2 + 1 else 100) = SF s 2 := (ht h1).symm
  unfold coS
  rw [if_neg h, hX, e2]
  unfold upS
  rcases hk with rfl | rfl | rfl | rfl | rfl | rfl
  · simp
  · by_cases e : i = s
    · subst e; simp
    · simp [e]
  · simp
  · simp
  · simp
  · simp)
theorem sx_rs {SF : Nat → Nat → Int32} {MX : Nat → Int32} {s n : Nat} : ∀ i k, i < n → k < 7 → smX (upS SF s 3 0) MX i k = smX (rsS SF s) MX i k := smX_cong (fun i k _ hk => by
  unfold rsS upS
  rcases hk with rfl | rfl | rfl | rfl | rfl | rfl <;> simp)
set_option maxRecDepth 100000 in
set_option maxHeartbeats 4000000 in
theorem lp_X6_lose {G : Cx} {v xs bs : Nat → Nat} {hh : Nat} {T N S C O PC : Nat → Int32} {ps sc bc : Nat} {SF : Nat → Nat → Int32} {MX : Nat → Int32} {BF : Nat → Nat → Int32} {H D : Nat → Int32} (hps : ps ≤ 8) (hsc : sc ≤ 5) (hbc : bc ≤ 40) {sz : Nat} {Z : ZT} {c : Int32} {s : Nat} (hs : s < sc) (K : V G Y_X6_pass Z 6 1 160 139 [some (.ref (v 0)), some (.int c), some (.int (nI s)), some (.ref (xs s)), none, none, none, none] [] (SimM v xs bs hh T N S C O PC ps sc bc SF MX (lsB BF bc (nI s) 40) H D)) : ∀ (m i : Nat), m + i = bc → V G Y_X6_pass Z 6 1 160 90 [some (.ref (v 0)), some (.int c), some (.int (nI s)), some (.ref (xs s)), some (.ref (v 8)), some (.int (nI bc)), some (.int (nI i)), none] [] (SimM v xs bs hh T N S C O PC ps sc bc SF MX (lsB BF bc (nI s) i) H D) := by
  intro m
  induction m with
  | zero =>
    intro i hi
    have hi2 : i = bc := by omega
    refine v_iload (pc := 90) dX6_pass_90 rfl ?_
    refine v_iload (pc := 92) dX6_pass_92 rfl ?_
    refine v_icmp_ge (pc := 94) (tgt := 139) dX6_pass_94 (by decide) (fun c94 => ?_) (fun c94 => absurd (nI_le (a := bc) (b := i) (by omega) (by omega)) c94)
    have c94 : bc ≤ i := (nI_leI (a := bc) (b := i) (by omega) (by omega)).mp c94
    rw [lsB_to (m := 40) (n := i) (by omega) (by omega)] at K
    refine v_sub ?_ K
    exact ⟨rfl, rfl, rfl, rfl, trivial⟩
  | succ m ih =>
    intro i hi
    refine v_iload (pc := 90) dX6_pass_90 rfl ?_
    refine v_iload (pc := 92) dX6_pass_92 rfl ?_
    refine v_icmp_ge (pc := 94) (tgt := 139) dX6_pass_94 (by decide) (fun c94 => absurd c94 (nI_ge (a := i) (b := bc) (by omega) (by omega))) (fun c94 => ?_)
    have c94 : ¬ bc ≤ i := fun h => c94 ((nI_leI (a := bc) (b := i) (by omega) (by omega)).mpr h)
    refine v_aloadR (pc := 97) dX6_pass_97 rfl ?_
    refine v_iload (pc := 99) dX6_pass_99 rfl ?_
    refine v_aaldS (pc := 101) 8 (k := i) (by decide) rfl (by omega) (by omega) dX6_pass_101 ?_
    refine v_astoreR (pc := 102) dX6_pass_102 (by decide) rfl ?_
    refine v_aloadR (pc := 104) dX6_pass_104 rfl ?_
    refine v_iconst (pc := 106) (v := 2) dX6_pass_106 rfl ?_
    refine v_ialdGN (pc := 107) 12 (j := 2) rfl (by omega) (by decide) (by decide) dX6_pass_107 ?_
    refine v_iconst (pc := 108) (v := 1) dX6_pass_108 rfl ?_
    refine v_icmp_ne (pc := 109) (tgt := 133) dX6_pass_109 (by decide) (fun c109 => ?_) (fun c109 => ?_)
    · refine v_iinc (pc := 133) (v := nI (i + 1)) dX6_pass_133 rfl (nI_1 _) (by decide) rfl ?_
      refine v_goto (pc := 136) (tgt := 90) dX6_pass_136 (by decide) ?_
      have e : (lsB BF bc (nI s) i) = (lsB BF bc (nI s) (i + 1)) := (if_neg (fun h => c109 h.2.1)).symm
      rw [e]
      refine v_sub ?_ (ih (i + 1) (by omega))
      exact ⟨rfl, rfl, rfl, rfl, rfl, rfl, rfl, trivial⟩
    · refine v_aloadR (pc := 112) dX6_pass_112 rfl ?_
      refine v_iconst (pc := 114) (v := 3) dX6_pass_114 rfl ?_
      refine v_ialdGN (pc := 115) 12 (j := 3) rfl (by omega) (by decide) (by decide) dX6_pass_115 ?_
      refine v_iload_n (pc := 116) dX6_pass_116 rfl rfl ?_
      refine v_icmp_eq (pc := 117) (tgt := 123) dX6_pass_117 (by decide) (fun c117 => ?_) (fun c117 => ?_)
      · refine v_aloadR (pc := 123) dX6_pass_123 rfl ?_
        refine v_iconst (pc := 125) (v := 2) dX6_pass_125 rfl ?_
        refine v_iconst (pc := 126) (v := 3) dX6_pass_126 rfl ?_
        refine v_iastGN (pc := 127) 12 (j := 2) rfl (by omega) (by decide) (by decide) dX6_pass_127 ?_
        try dsimp only [wb, SimM, List.set_cons_succ, List.set_cons_zero, List.append_nil, List.nil_append, List.cons_append, Option.toList, Nat.sub_zero]
        refine v_aloadR (pc := 128) dX6_pass_128 rfl ?_
        refine v_iconst (pc := 130) (v := 3) dX6_pass_130 rfl ?_
        refine v_iconst (pc := 131) (v := -1) dX6_pass_131 rfl ?_
        refine v_iastGN (pc := 132) 12 (j := 3) rfl (by omega) (by decide) (by decide) dX6_pass_132 ?_
        try dsimp only [wb, SimM, List.set_cons_succ, List.set_cons_zero, List.append_nil, List.nil_append, List.cons_append, Option.toList, Nat.sub_zero]
        refine v_iinc (pc := 133) (v := nI (i + 1)) dX6_pass_133 rfl (nI_1 _) (by decide) rfl ?_
        refine v_goto (pc := 136) (tgt := 90) dX6_pass_136 (by decide) ?_
        have e : (lsB BF bc (nI s) (i + 1)) = _ := if_pos ⟨by omega, c109, c117⟩
        have k9 := ih (i + 1) (by omega)
        rw [e] at k9
        refine v_sub ?_ k9
        exact ⟨rfl, rfl, rfl, rfl, rfl, rfl, rfl, trivial⟩
      · refine v_goto (pc := 120) (tgt := 133) dX6_pass_120 (by decide) ?_
        refine v_iinc (pc := 133) (v := nI (i + 1)) dX6_pass_133 rfl (nI_1 _) (by decide) rfl ?_
        refine v_goto (pc := 136) (tgt := 90) dX6_pass_136 (by decide) ?_
        have e : (lsB BF bc (nI s) i) = (lsB BF bc (nI s) (i + 1)) := (if_neg (fun h => c117 h.2.2)).symm
        rw [e]
        refine v_sub ?_ (ih (i + 1) (by omega))
        exact ⟨rfl, rfl, rfl, rfl, rfl, rfl, rfl, trivial⟩
set_option maxRecDepth 100000 in
set_option maxHeartbeats 4000000 in
theorem lp_X6_p1 {G : Cx} {v xs bs : Nat → Nat} {hh : Nat} {T N S C O PC : Nat → Int32} {ps sc bc : Nat} {SF : Nat → Nat → Int32} {MX : Nat → Int32} {BF : Nat → Nat → Int32} {H D : Nat → Int32} (hps : ps ≤ 8) (hsc : sc ≤ 5) (hbc : bc ≤ 40) {sz : Nat} {n5 : Nat} (h5 : n5 = 5) {Z : ZT} {ch q : Int32} {B : Nat} {r : SB} (K : hIV PC ps sc bc T C ch r.1 r.2 MX B → jV r.1 sc → V G Y_X6_pass Z 6 1 160 160 [some (.ref (v 0)), some (.int q), some (.int (nI sc)), none, none, none, none, none] [] (SimM v xs bs hh T N S C O PC ps sc bc r.1 MX r.2 H D)) : ∀ (m i : Nat), m + i = sc → ∀ y : SB, hIV PC ps sc bc T C ch y.1 y.2 MX B → jV y.1 sc → skL T C sc bc (n5 - i) i y = r → V G Y_X6_pass Z 6 1 160 33 [some (.ref (v 0)), some (.int q), some (.int (nI i)), none, none, none, none, none] [] (SimM v xs bs hh T N S C O PC ps sc bc y.1 MX y.2 H D) := by
  intro m
  induction m with
  | zero =>
    intro i hi
    have hi2 : i = sc := by omega
    intro y hI hJ hr
    rw [skL_stop _ i y (by omega)] at hr
    subst hr
    refine v_iload_n (pc := 33) dX6_pass_33 rfl rfl ?_
    refine v_aload_nR (pc := 34) dX6_pass_34 rfl rfl ?_
    refine v_get (pc := 35) 7 0 fg_X6_31 rfl rfl dX6_pass_35 ?_
    refine v_alen (pc := 38) 7 (v := nI sc) rfl (fun _ => rfl) rfl dX6_pass_38 ?_
    refine v_icmp_ge (pc := 39) (tgt := 160) dX6_pass_39 (by decide) (fun c39 => ?_) (fun c39 => absurd (nI_le (a := sc) (b := i) (by omega) (by omega)) c39)
    have c39 : sc ≤ i := (nI_leI (a := sc) (b := i) (by omega) (by omega)).mp c39
    rw [hi2]
    refine v_sub ?_ (K hI hJ)
    exact ⟨rfl, rfl, rfl, trivial⟩
  | succ m ih =>
    intro i hi
    intro y hI hJ hr
    obtain ⟨hI1, hI2, hI3, hI4, hI5, ⟨hT, hC, hL⟩, hI7, hI8⟩ := id hI
    have hc4 := cN_of (hI1 i (by omega)).2.1
    refine v_iload_n (pc := 33) dX6_pass_33 rfl rfl ?_
    refine v_aload_nR (pc := 34) dX6_pass_34 rfl rfl ?_
    refine v_get (pc := 35) 7 0 fg_X6_31 rfl rfl dX6_pass_35 ?_
    refine v_alen (pc := 38) 7 (v := nI sc) rfl (fun _ => rfl) rfl dX6_pass_38 ?_
    refine v_icmp_ge (pc := 39) (tgt := 160) dX6_pass_39 (by decide) (fun c39 => absurd c39 (nI_ge (a := i) (b := sc) (by omega) (by omega))) (fun c39 => ?_)
    have c39 : ¬ sc ≤ i := fun h => c39 ((nI_leI (a := sc) (b := i) (by omega) (by omega)).mpr h)
    refine v_aload_nR (pc := 42) dX6_pass_42 rfl rfl ?_
    refine v_get (pc := 43) 7 0 fg_X6_31 rfl rfl dX6_pass_43 ?_
    refine v_iload_n (pc := 46) dX6_pass_46 rfl rfl ?_
    refine v_aaldS (pc := 47) 7 (k := i) (by decide) rfl (by omega) (by omega) dX6_pass_47 ?_
    refine v_astore_nR (pc := 48) dX6_pass_48 rfl (by decide) rfl ?_
    refine v_aload_nR (pc := 49) dX6_pass_49 rfl rfl ?_
    refine v_getS (pc := 50) 2 11 fg_X6_109 rfl (by omega) (by decide) dX6_pass_50 ?_
    rw [smX_g2]
    refine v_iconst (pc := 53) (v := 2) dX6_pass_53 rfl ?_
    refine v_icmp_eq (pc := 54) (tgt := 154) dX6_pass_54 (by decide) (fun c54 => ?_) (fun c54 => ?_)
    · refine v_iinc (pc := 154) (v := nI (i + 1)) dX6_pass_154 rfl (nI_1 _) (by decide) rfl ?_
      refine v_goto (pc := 157) (tgt := 33) dX6_pass_157 (by decide) ?_
      have hr2 : skL T C sc bc (n5 - (i + 1)) (i + 1) (skT T C sc bc i y) = r := by
        rw [show n5 - i = (n5 - (i + 1)) + 1 by omega] at hr
        exact hr
      have e : skT T C sc bc i y = y := if_neg (fun h => h.2.1 c54)
      rw [e] at hr2
      refine v_sub ?_ (ih (i + 1) (by omega) y hI hJ hr2)
      exact ⟨rfl, rfl, rfl, trivial⟩
    · refine v_aload_nR (pc := 57) dX6_pass_57 rfl rfl ?_
      refine v_aload_nR (pc := 58) dX6_pass_58 rfl rfl ?_
      refine v_getS (pc := 59) 3 11 fg_X6_71 rfl (by omega) (by decide) dX6_pass_59 ?_
      rw [smX_g3]
      rw [hc4.1]
      refine v_aload_nR (pc := 62) dX6_pass_62 rfl rfl ?_
      refine v_iload_n (pc := 63) dX6_pass_63 rfl rfl ?_
      refine v_callV1 (pc := 64) (c_X6_weight hps hsc hbc (by omega) (hI4 i (by omega))) cm_X6_weight q594 q595 q596 (ci := 6) rfl rfl (orcO 0 rfl) [0, 1, 2, 3, 4, 5, 6, 7, 8, 9, 10, 11, 12] (by rfl) (by decide) (fun _ _ h => h) (by decide) (by decide) (by decide) (Nat.le_of_ble_eq_true rfl) dX6_pass_64 (fun v64 M64 hQ64 => ?_)
      obtain ⟨rfl, rfl⟩ := hQ64
      try dsimp only [wb, SimM, List.set_cons_succ, List.set_cons_zero, List.append_nil, List.nil_append, List.cons_append, Option.toList, Nat.sub_zero]
      refine v_callV2 (pc := 67) (c_X6_bears hps hsc hbc hc4.2) cm_X6_bears q598 q599 q600 (ci := 6) rfl rfl (orcO 0 rfl) [0, 1, 2, 3, 4, 5, 6, 7, 8, 9, 10, 11, 12] (by rfl) (by decide) (fun _ _ h => h) (by decide) (by decide) (by decide) (Nat.le_of_ble_eq_true rfl) dX6_pass_67 (fun v67 M67 hQ67 => ?_)
      obtain ⟨rfl, rfl⟩ := hQ67
      try dsimp only [wb, SimM, List.set_cons_succ, List.set_cons_zero, List.append_nil, List.nil_append, List.cons_append, Option.toList, Nat.sub_zero]
      refine v_if_eq (pc := 70) (tgt := 76) dX6_pass_70 (by decide) (fun c70 => ?_) (fun c70 => ?_)
      · have c70 := bI_0.mp c70
        refine v_aload_nR (pc := 76) dX6_pass_76 rfl rfl ?_
        refine v_get (pc := 77) 8 0 fg_X6_36 rfl rfl dX6_pass_77 ?_
        refine v_astoreR (pc := 80) dX6_pass_80 (by decide) rfl ?_
        refine v_aloadR (pc := 82) dX6_pass_82 rfl ?_
        refine v_alen (pc := 84) 8 (v := nI bc) rfl (fun _ => rfl) rfl dX6_pass_84 ?_
        refine v_istore (pc := 85) dX6_pass_85 (by decide) rfl ?_
        refine v_iconst (pc := 87) (v := 0) dX6_pass_87 rfl ?_
        refine v_istore (pc := 88) dX6_pass_88 (by decide) rfl ?_
        refine v_sub (L' := [some (.ref (v 0)), some (.int q), some (.int (nI i)), some (.ref (xs i)), some (.ref (v 8)), some (.int (nI bc)), some (.int (nI 0)), none]) ⟨rfl, rfl, rfl, rfl, rfl, rfl, rfl, trivial⟩ ?_
        refine lp_X6_lose (sz := 0) (SF := y.1) (BF := y.2) hps hsc hbc (c := q) (s := i) (by omega) ?_ bc 0 (by omega)
        refine v_aload_nR (pc := 139) dX6_pass_139 rfl rfl ?_
        refine v_iconst (pc := 140) (v := 2) dX6_pass_140 rfl ?_
        refine v_putS (pc := 141) 2 11 fp_X6_pass_109 rfl (by omega) (by decide) dX6_pass_141 ?_
        try dsimp only [wb, SimM, List.set_cons_succ, List.set_cons_zero, List.append_nil, List.nil_append, List.cons_append, Option.toList, Nat.sub_zero]
        rw [smX_u2]
        refine v_aload_nR (pc := 144) dX6_pass_144 rfl rfl ?_
        refine v_iconst (pc := 145) (v := -1) dX6_pass_145 rfl ?_
        refine v_putS (pc := 146) 4 11 fp_X6_pass_74 rfl (by omega) (by decide) dX6_pass_146 ?_
        try dsimp only [wb, SimM, List.set_cons_succ, List.set_cons_zero, List.append_nil, List.nil_append, List.cons_append, Option.toList, Nat.sub_zero]
        rw [smX_u4]
        refine v_aload_nR (pc := 149) dX6_pass_149 rfl rfl ?_
        refine v_iconst (pc := 150) (v := 0) dX6_pass_150 rfl ?_
        refine v_putS (pc := 151) 6 11 fp_X6_pass_115 rfl (by omega) (by decide) dX6_pass_151 ?_
        try dsimp only [wb, SimM, List.set_cons_succ, List.set_cons_zero, List.append_nil, List.nil_append, List.cons_append, Option.toList, Nat.sub_zero]
        rw [smX_u6]
        refine v_cgS 11 (t := smX (skS y.1 i) MX) rfl sx_sk ?_
        try dsimp only [wb, SimM, List.set_cons_succ, List.set_cons_zero, List.append_nil, List.nil_append, List.cons_append, Option.toList, Nat.sub_zero]
        refine v_iinc (pc := 154) (v := nI (i + 1)) dX6_pass_154 rfl (nI_1 _) (by decide) rfl ?_
        refine v_goto (pc := 157) (tgt := 33) dX6_pass_157 (by decide) ?_
        have hr2 : skL T C sc bc (n5 - (i + 1)) (i + 1) (skT T C sc bc i y) = r := by
          rw [show n5 - i = (n5 - (i + 1)) + 1 by omega] at hr
          exact hr
        have e : skT T C sc bc i y = (skS y.1 i, lsB y.2 bc (nI i) 40) := if_pos ⟨by omega, c54, c70⟩
        rw [e] at hr2
        refine v_sub ?_ (ih (i + 1) (by omega) _ (hI.sk hsc hbc (by omega)) hJ.sk hr2)
        exact ⟨rfl, rfl, rfl, trivial⟩
      · have c70 := bI_n.mp c70
        refine v_goto (pc := 73) (tgt := 154) dX6_pass_73 (by decide) ?_
        refine v_iinc (pc := 154) (v := nI (i + 1)) dX6_pass_154 rfl (nI_1 _) (by decide) rfl ?_
        refine v_goto (pc := 157) (tgt := 33) dX6_pass_157 (by decide) ?_
        have hr2 : skL T C sc bc (n5 - (i + 1)) (i + 1) (skT T C sc bc i y) = r := by
          rw [show n5 - i = (n5 - (i + 1)) + 1 by omega] at hr
          exact hr
        have e : skT T C sc bc i y = y := if_neg (fun h => h.2.2 c70)
        rw [e] at hr2
        refine v_sub ?_ (ih (i + 1) (by omega) y hI hJ hr2)
        exact ⟨rfl, rfl, rfl, trivial⟩
set_option maxRecDepth 100000 in
set_option maxHeartbeats 4000000 in
theorem lp_X6_unl {G : Cx} {v xs bs : Nat → Nat} {hh : Nat} {T N S C O PC : Nat → Int32} {ps sc bc : Nat} {SF : Nat → Nat → Int32} {MX : Nat → Int32} {BF : Nat → Nat → Int32} {H D : Nat → Int32} (hps : ps ≤ 8) (hsc : sc ≤ 5) (hbc : bc ≤ 40) {sz : Nat} {Z : ZT} {c : Int32} {s q : Nat} (hs : s < sc) (h5 : SF s 5 = nI q) (K : V G Y_X6_pass Z 6 1 160 361 [some (.ref (v 0)), some (.int (c + (ulB BF bc (nI s) (nI q) (nI hh) 40).2)), some (.int (nI s)), none, none, none, none, none] [] (SimM v xs bs hh T N S C O PC ps sc bc SF MX (ulB BF bc (nI s) (nI q) (nI hh) 40).1 H D)) : ∀ (m i : Nat), m + i = bc → V G Y_X6_pass Z 6 1 160 273 [some (.ref (v 0)), some (.int (c + (ulB BF bc (nI s) (nI q) (nI hh) i).2)), some (.int (nI s)), some (.ref (xs s)), some (.ref (v 8)), some (.int (nI bc)), some (.int (nI i)), none] [] (SimM v xs bs hh T N S C O PC ps sc bc SF MX (ulB BF bc (nI s) (nI q) (nI hh) i).1 H D) := by
  intro m
  induction m with
  | zero =>
    intro i hi
    have hi2 : i = bc := by omega
    refine v_iload (pc := 273) dX6_pass_273 rfl ?_
    refine v_iload (pc := 275) dX6_pass_275 rfl ?_
    refine v_icmp_ge (pc := 277) (tgt := 361) dX6_pass_277 (by decide) (fun c277 => ?_) (fun c277 => absurd (nI_le (a := bc) (b := i) (by omega) (by omega)) c277)
    have c277 : bc ≤ i := (nI_leI (a := bc) (b := i) (by omega) (by omega)).mp c277
    have e : (ulB BF bc (nI s) (nI q) (nI hh) 40) = (ulB BF bc (nI s) (nI q) (nI hh) i) := by rw [show 40 = i + (40 - i) by omega, ulB_to (by omega)]
    rw [e] at K
    refine v_sub ?_ K
    exact ⟨rfl, rfl, rfl, trivial⟩
  | succ m ih =>
    intro i hi
    refine v_iload (pc := 273) dX6_pass_273 rfl ?_
    refine v_iload (pc := 275) dX6_pass_275 rfl ?_
    refine v_icmp_ge (pc := 277) (tgt := 361) dX6_pass_277 (by decide) (fun c277 => absurd c277 (nI_ge (a := i) (b := bc) (by omega) (by omega))) (fun c277 => ?_)
    have c277 : ¬ bc ≤ i := fun h => c277 ((nI_leI (a := bc) (b := i) (by omega) (by omega)).mpr h)
    refine v_aloadR (pc := 280) dX6_pass_280 rfl ?_
    refine v_iload (pc := 282) dX6_pass_282 rfl ?_
    refine v_aaldS (pc := 284) 8 (k := i) (by decide) rfl (by omega) (by omega) dX6_pass_284 ?_
    refine v_astoreR (pc := 285) dX6_pass_285 (by decide) rfl ?_
    refine v_aloadR (pc := 287) dX6_pass_287 rfl ?_
    refine v_iconst (pc := 289) (v := 2) dX6_pass_289 rfl ?_
    refine v_ialdGN (pc := 290) 12 (j := 2) rfl (by omega) (by decide) (by decide) dX6_pass_290 ?_
    refine v_iconst (pc := 291) (v := 1) dX6_pass_291 rfl ?_
    refine v_icmp_ne (pc := 292) (tgt := 355) dX6_pass_292 (by decide) (fun c292 => ?_) (fun c292 => ?_)
    · refine v_iinc (pc := 355) (v := nI (i + 1)) dX6_pass_355 rfl (nI_1 _) (by decide) rfl ?_
      refine v_goto (pc := 358) (tgt := 273) dX6_pass_358 (by decide) ?_
      have e : (ulB BF bc (nI s) (nI q) (nI hh) i) = (ulB BF bc (nI s) (nI q) (nI hh) (i + 1)) := (if_neg (fun h => c292 h.2.1)).symm
      have k9 := ih (i + 1) (by omega)
      rw [← e] at k9
      refine v_sub ?_ k9
      exact ⟨rfl, rfl, rfl, rfl, rfl, rfl, rfl, trivial⟩
    · refine v_aloadR (pc := 295) dX6_pass_295 rfl ?_
      refine v_iconst (pc := 297) (v := 3) dX6_pass_297 rfl ?_
      refine v_ialdGN (pc := 298) 12 (j := 3) rfl (by omega) (by decide) (by decide) dX6_pass_298 ?_
      refine v_iload_n (pc := 299) dX6_pass_299 rfl rfl ?_
      refine v_icmp_eq (pc := 300) (tgt := 306) dX6_pass_300 (by decide) (fun c300 => ?_) (fun c300 => ?_)
      · refine v_aloadR (pc := 306) dX6_pass_306 rfl ?_
        refine v_iconst (pc := 308) (v := 3) dX6_pass_308 rfl ?_
        refine v_aload_nR (pc := 309) dX6_pass_309 rfl rfl ?_
        refine v_getS (pc := 310) 4 11 fg_X6_74 rfl hs (by decide) dX6_pass_310 ?_
        rw [smX_g4]
        rw [h5]
        refine v_iastGN (pc := 313) 12 (j := 3) rfl (by omega) (by decide) (by decide) dX6_pass_313 ?_
        try dsimp only [wb, SimM, List.set_cons_succ, List.set_cons_zero, List.append_nil, List.nil_append, List.cons_append, Option.toList, Nat.sub_zero]
        refine v_aloadR (pc := 314) dX6_pass_314 rfl ?_
        refine v_iconst (pc := 316) (v := 2) dX6_pass_316 rfl ?_
        refine v_aloadR (pc := 317) dX6_pass_317 rfl ?_
        refine v_iconst (pc := 319) (v := 1) dX6_pass_319 rfl ?_
        refine v_ialdGN (pc := 320) 12 (j := 1) rfl (by omega) (by decide) (by decide) dX6_pass_320 ?_
        rw [upS_n _ _ (by omega : ¬ (i = i ∧ 1 = 3))]
        refine v_aload_nR (pc := 321) dX6_pass_321 rfl rfl ?_
        refine v_getS (pc := 322) 4 11 fg_X6_74 rfl hs (by decide) dX6_pass_322 ?_
        rw [smX_g4]
        rw [h5]
        refine v_icmp_ne (pc := 325) (tgt := 332) dX6_pass_325 (by decide) (fun c325 => ?_) (fun c325 => ?_)
        · refine v_iconst (pc := 332) (v := 0) dX6_pass_332 rfl ?_
          have hh1 := c325
          refine v_iastGN (pc := 333) 12 (j := 2) rfl (by omega) (by decide) (by decide) dX6_pass_333 ?_
          try dsimp only [wb, SimM, List.set_cons_succ, List.set_cons_zero, List.append_nil, List.nil_append, List.cons_append, Option.toList, Nat.sub_zero]
          refine v_aloadR (pc := 334) dX6_pass_334 rfl ?_
          refine v_iconst (pc := 336) (v := 2) dX6_pass_336 rfl ?_
          refine v_ialdGN (pc := 337) 12 (j := 2) rfl (by omega) (by decide) (by decide) dX6_pass_337 ?_
          rw [upS_s]
          refine v_if_ne (pc := 338) (tgt := 344) dX6_pass_338 (by decide) (fun c338 => absurd c338 (by decide)) (fun c338 => ?_)
          refine v_goto (pc := 341) (tgt := 355) dX6_pass_341 (by decide) ?_
          refine v_iinc (pc := 355) (v := nI (i + 1)) dX6_pass_355 rfl (nI_1 _) (by decide) rfl ?_
          refine v_goto (pc := 358) (tgt := 273) dX6_pass_358 (by decide) ?_
          have e : (ulB BF bc (nI s) (nI q) (nI hh) (i + 1)) = (pdB (ulB BF bc (nI s) (nI q) (nI hh) i).1 i (nI q) (nI hh), (ulB BF bc (nI s) (nI q) (nI hh) i).2 + 0) := by
            show (if _ then _ else _) = _
            rw [if_pos ⟨by omega, c292, c300⟩, if_neg (fun h => hh1 h.symm)]
          have e2 : pdB (ulB BF bc (nI s) (nI q) (nI hh) i).1 i (nI q) (nI hh) = _ := if_neg (fun h => hh1 h.symm)
          have k9 := ih (i + 1) (by omega)
          rw [e, e2] at k9
          rw [Int32.add_zero] at k9
          refine v_sub ?_ k9
          exact ⟨rfl, rfl, rfl, rfl, rfl, rfl, rfl, trivial⟩
        · refine v_iconst (pc := 328) (v := 2) dX6_pass_328 rfl ?_
          refine v_goto (pc := 329) (tgt := 333) dX6_pass_329 (by decide) ?_
          have hh1 := c325
          refine v_iastGN (pc := 333) 12 (j := 2) rfl (by omega) (by decide) (by decide) dX6_pass_333 ?_
          try dsimp only [wb, SimM, List.set_cons_succ, List.set_cons_zero, List.append_nil, List.nil_append, List.cons_append, Option.toList, Nat.sub_zero]
          refine v_aloadR (pc := 334) dX6_pass_334 rfl ?_
          refine v_iconst (pc := 336) (v := 2) dX6_pass_336 rfl ?_
          refine v_ialdGN (pc := 337) 12 (j := 2) rfl (by omega) (by decide) (by decide) dX6_pass_337 ?_
          rw [upS_s]
          refine v_if_ne (pc := 338) (tgt := 344) dX6_pass_338 (by decide) (fun c338 => ?_) (fun c338 => absurd c338 (by decide))
          refine v_aloadR (pc := 344) dX6_pass_344 rfl ?_
          refine v_iconst (pc := 346) (v := 4) dX6_pass_346 rfl ?_
          refine v_aload_nR (pc := 347) dX6_pass_347 rfl rfl ?_
          refine v_get (pc := 348) 0 0 fg_X6_46 rfl rfl dX6_pass_348 ?_
          refine v_iastGN (pc := 351) 12 (j := 4) rfl (by omega) (by decide) (by decide) dX6_pass_351 ?_
          try dsimp only [wb, SimM, List.set_cons_succ, List.set_cons_zero, List.append_nil, List.nil_append, List.cons_append, Option.toList, Nat.sub_zero]
          refine v_iinc (pc := 352) dX6_pass_352 rfl rfl (by decide) rfl ?_
          refine v_iinc (pc := 355) (v := nI (i + 1)) dX6_pass_355 rfl (nI_1 _) (by decide) rfl ?_
          refine v_goto (pc := 358) (tgt := 273) dX6_pass_358 (by decide) ?_
          have e : (ulB BF bc (nI s) (nI q) (nI hh) (i + 1)) = (pdB (ulB BF bc (nI s) (nI q) (nI hh) i).1 i (nI q) (nI hh), (ulB BF bc (nI s) (nI q) (nI hh) i).2 + 1) := by
            show (if _ then _ else _) = _
            rw [if_pos ⟨by omega, c292, c300⟩, if_pos hh1.symm]
          have e2 : pdB (ulB BF bc (nI s) (nI q) (nI hh) i).1 i (nI q) (nI hh) = _ := if_pos hh1.symm
          have k9 := ih (i + 1) (by omega)
          rw [e, e2] at k9
          rw [Int32.add_assoc]
          refine v_sub ?_ k9
          exact ⟨rfl, rfl, rfl, rfl, rfl, rfl, rfl, trivial⟩
      · refine v_goto (pc := 303) (tgt := 355) dX6_pass_303 (by decide) ?_
        refine v_iinc (pc := 355) (v := nI (i + 1)) dX6_pass_355 rfl (nI_1 _) (by decide) rfl ?_
        refine v_goto (pc := 358) (tgt := 273) dX6_pass_358 (by decide) ?_
        have e : (ulB BF bc (nI s) (nI q) (nI hh) i) = (ulB BF bc (nI s) (nI q) (nI hh) (i + 1)) := (if_neg (fun h => c300 h.2.2)).symm
        have k9 := ih (i + 1) (by omega)
        rw [← e] at k9
        refine v_sub ?_ k9
        exact ⟨rfl, rfl, rfl, rfl, rfl, rfl, rfl, trivial⟩
set_option maxRecDepth 100000 in
set_option maxHeartbeats 4000000 in
theorem lp_X6_g235 {G : Cx} {v xs bs : Nat → Nat} {hh : Nat} {T N S C O PC : Nat → Int32} {ps sc bc : Nat} {SF : Nat → Nat → Int32} {MX : Nat → Int32} {BF : Nat → Nat → Int32} {H D : Nat → Int32} (hps : ps ≤ 8) (hsc : sc ≤ 5) (hbc : bc ≤ 40) {Z : ZT} {c : Int32} {s q : Nat} (hs : s < sc) (hq : q < ps) (hq5 : SF s 5 = nI q) (K0 : ¬ coS SF s s 4 = PC q → V G Y_X6_pass Z 6 1 160 361 [some (.ref (v 0)), some (.int c), some (.int (nI s)), none, none, none, none, none] [] (SimM v xs bs hh T N S C O PC ps sc bc (coS SF s) MX BF H D)) (K1 : coS SF s s 4 = PC q → V G Y_X6_pass Z 6 1 160 361 [some (.ref (v 0)), some (.int (c + (ulB BF bc (nI s) (nI q) (nI hh) 40).2)), some (.int (nI s)), none, none, none, none, none] [] (SimM v xs bs hh T N S C O PC ps sc bc (rsS (coS SF s) s) MX (ulB BF bc (nI s) (nI q) (nI hh) 40).1 H D)) : V G Y_X6_pass Z 6 1 160 235 [some (.ref (v 0)), some (.int c), some (.int (nI s)), some (.ref (xs s)), none, none, none, none] [] (SimM v xs bs hh T N S C O PC ps sc bc (coS SF s) MX BF H D) := by
  refine v_aload_nR (pc := 235) dX6_pass_235 rfl rfl ?_
  refine v_getS (pc := 236) 3 11 fg_X6_71 rfl hs (by decide) dX6_pass_236 ?_
  rw [smX_g3]
  refine v_aload_nR (pc := 239) dX6_pass_239 rfl rfl ?_
  refine v_get (pc := 240) 6 0 fg_X6_26 rfl rfl dX6_pass_240 ?_
  refine v_aload_nR (pc := 243) dX6_pass_243 rfl rfl ?_
  refine v_getS (pc := 244) 4 11 fg_X6_74 rfl hs (by decide) dX6_pass_244 ?_
  rw [smX_g4]
  rw [cw_5, hq5]
  refine v_ialdN (pc := 247) 6 (k := q) rfl (by omega) (by omega) dX6_pass_247 ?_
  refine v_icmp_eq (pc := 248) (tgt := 254) dX6_pass_248 (by decide) (fun c248 => ?_) (fun c248 => ?_)
  · refine v_aload_nR (pc := 254) dX6_pass_254 rfl rfl ?_
    refine v_iconst (pc := 255) (v := 0) dX6_pass_255 rfl ?_
    refine v_putS (pc := 256) 2 11 fp_X6_pass_109 rfl hs (by decide) dX6_pass_256 ?_
    try dsimp only [wb, SimM, List.set_cons_succ, List.set_cons_zero, List.append_nil, List.nil_append, List.cons_append, Option.toList, Nat.sub_zero]
    rw [smX_u2]
    refine v_cgS 11 (t := smX (rsS (coS SF s) s) MX) rfl sx_rs ?_
    try dsimp only [wb, SimM, List.set_cons_succ, List.set_cons_zero, List.append_nil, List.nil_append, List.cons_append, Option.toList, Nat.sub_zero]
    refine v_aload_nR (pc := 259) dX6_pass_259 rfl rfl ?_
    refine v_get (pc := 260) 8 0 fg_X6_36 rfl rfl dX6_pass_260 ?_
    refine v_astoreR (pc := 263) dX6_pass_263 (by decide) rfl ?_
    refine v_aloadR (pc := 265) dX6_pass_265 rfl ?_
    refine v_alen (pc := 267) 8 (v := nI bc) rfl (fun _ => rfl) rfl dX6_pass_267 ?_
    refine v_istore (pc := 268) dX6_pass_268 (by decide) rfl ?_
    refine v_iconst (pc := 270) (v := 0) dX6_pass_270 rfl ?_
    refine v_istore (pc := 271) dX6_pass_271 (by decide) rfl ?_
    have e0 : c = c + (ulB BF bc (nI s) (nI q) (nI hh) 0).2 := (Int32.add_zero c).symm
    refine v_sub (L' := [some (.ref (v 0)), some (.int (c + (ulB BF bc (nI s) (nI q) (nI hh) 0).2)), some (.int (nI s)), some (.ref (xs s)), some (.ref (v 8)), some (.int (nI bc)), some (.int (nI 0)), none]) ⟨rfl, congrArg (fun z => some (Value.int z)) e0, rfl, rfl, rfl, rfl, rfl, trivial⟩ ?_
    exact lp_X6_unl (sz := 0) (SF := rsS (coS SF s) s) hps hsc hbc (c := c) (s := s) (q := q) hs (rs_5.trans hq5) (K1 c248) bc 0 (by omega)
  · refine v_goto (pc := 251) (tgt := 361) dX6_pass_251 (by decide) ?_
    refine v_sub ?_ (K0 c248)
    exact ⟨rfl, rfl, rfl, trivial⟩
set_option maxRecDepth 100000 in
set_option maxHeartbeats 4000000 in
theorem lp_X6_p2 {G : Cx} {v xs bs : Nat → Nat} {hh : Nat} {T N S C O PC : Nat → Int32} {ps sc bc : Nat} {SF : Nat → Nat → Int32} {MX : Nat → Int32} {BF : Nat → Nat → Int32} {H D : Nat → Int32} (hps : ps ≤ 8) (hsc : sc ≤ 5) (hbc : bc ≤ 40) {sz : Nat} {n5 : Nat} (h5 : n5 = 5) {Z : ZT} {ch : Int32} {B : Nat} {r : SBC} (K : hIV PC ps sc bc T C ch r.1 r.2.1 MX B → jV r.1 sc → V G Y_X6_pass Z 6 1 160 367 [some (.ref (v 0)), some (.int r.2.2), some (.int (nI sc)), none, none, none, none, none] [] (SimM v xs bs hh T N S C O PC ps sc bc r.1 MX r.2.1 H D)) : ∀ (m i : Nat), m + i = sc → ∀ y : SBC, hIV PC ps sc bc T C ch y.1 y.2.1 MX B → jV y.1 sc → mvL PC ps sc bc hh (n5 - i) i y = r → V G Y_X6_pass Z 6 1 160 162 [some (.ref (v 0)), some (.int y.2.2), some (.int (nI i)), none, none, none, none, none] [] (SimM v xs bs hh T N S C O PC ps sc bc y.1 MX y.2.1 H D) := by
  intro m
  induction m with
  | zero =>
    intro i hi
    have hi2 : i = sc := by omega
    intro y hI hJ hr
    rw [mvL_stop _ i y (by omega)] at hr
    subst hr
    refine v_iload_n (pc := 162) dX6_pass_162 rfl rfl ?_
    refine v_aload_nR (pc := 163) dX6_pass_163 rfl rfl ?_
    refine v_get (pc := 164) 7 0 fg_X6_31 rfl rfl dX6_pass_164 ?_
    refine v_alen (pc := 167) 7 (v := nI sc) rfl (fun _ => rfl) rfl dX6_pass_167 ?_
    refine v_icmp_ge (pc := 168) (tgt := 367) dX6_pass_168 (by decide) (fun c168 => ?_) (fun c168 => absurd (nI_le (a := sc) (b := i) (by omega) (by omega)) c168)
    have c168 : sc ≤ i := (nI_leI (a := sc) (b := i) (by omega) (by omega)).mp c168
    rw [hi2]
    refine v_sub ?_ (K hI hJ)
    exact ⟨rfl, rfl, rfl, trivial⟩
  | succ m ih =>
    intro i hi
    intro y hI hJ hr
    obtain ⟨hI1, hI2, hI3, hI4, hI5, ⟨hT, hC, hL⟩, hI7, hI8⟩ := id hI
    refine v_iload_n (pc := 162) dX6_pass_162 rfl rfl ?_
    refine v_aload_nR (pc := 163) dX6_pass_163 rfl rfl ?_
    refine v_get (pc := 164) 7 0 fg_X6_31 rfl rfl dX6_pass_164 ?_
    refine v_alen (pc := 167) 7 (v := nI sc) rfl (fun _ => rfl) rfl dX6_pass_167 ?_
    refine v_icmp_ge (pc := 168) (tgt := 367) dX6_pass_168 (by decide) (fun c168 => absurd c168 (nI_ge (a := i) (b := sc) (by omega) (by omega))) (fun c168 => ?_)
    have c168 : ¬ sc ≤ i := fun h => c168 ((nI_leI (a := sc) (b := i) (by omega) (by omega)).mpr h)
    refine v_aload_nR (pc := 171) dX6_pass_171 rfl rfl ?_
    refine v_get (pc := 172) 7 0 fg_X6_31 rfl rfl dX6_pass_172 ?_
    refine v_iload_n (pc := 175) dX6_pass_175 rfl rfl ?_
    refine v_aaldS (pc := 176) 7 (k := i) (by decide) rfl (by omega) (by omega) dX6_pass_176 ?_
    refine v_astore_nR (pc := 177) dX6_pass_177 rfl (by decide) rfl ?_
    refine v_aload_nR (pc := 178) dX6_pass_178 rfl rfl ?_
    refine v_getS (pc := 179) 6 11 fg_X6_115 rfl (by omega) (by decide) dX6_pass_179 ?_
    rw [smX_g6]
    refine v_if_ne (pc := 182) (tgt := 188) dX6_pass_182 (by decide) (fun c182 => ?_) (fun c182 => ?_)
    · have h1 : y.1 i 3 = 1 := Classical.byContradiction fun q9 => c182 (hJ.2 i (by omega) q9)
      have hp : 0 < y.1 i 7 := by
        have h0 := ((hI2 i (by omega)).2.2 h1).2.1
        rw [i_le, i_0] at h0
        rw [i_lt, i_0]
        rw [i_eq, i_0] at c182
        omega
      have hx := hI7 i (by omega) h1 hp
      obtain ⟨q, hq, hq5⟩ := kOf ((hI2 i (by omega)).2.2 h1).1 (by omega)
      refine v_aload_nR (pc := 188) dX6_pass_188 rfl rfl ?_
      refine v_dup (pc := 189) dX6_pass_189 rfl ?_
      refine v_getS (pc := 190) 6 11 fg_X6_115 rfl (by omega) (by decide) dX6_pass_190 ?_
      rw [smX_g6]
      refine v_iconst (pc := 193) (v := 1) dX6_pass_193 rfl ?_
      refine v_isub (pc := 194) dX6_pass_194 ?_
      refine v_putS (pc := 195) 6 11 fp_X6_pass_115 rfl (by omega) (by decide) dX6_pass_195 ?_
      try dsimp only [wb, SimM, List.set_cons_succ, List.set_cons_zero, List.append_nil, List.nil_append, List.cons_append, Option.toList, Nat.sub_zero]
      rw [smX_u6]
      refine v_aload_nR (pc := 198) dX6_pass_198 rfl rfl ?_
      refine v_getS (pc := 199) 6 11 fg_X6_115 rfl (by omega) (by decide) dX6_pass_199 ?_
      rw [smX_g6]
      rw [upS_s]
      refine v_if_le (pc := 202) (tgt := 208) dX6_pass_202 (by decide) (fun c202 => ?_) (fun c202 => ?_)
      · have hn := Int32.not_lt.mpr c202
        refine v_aload_nR (pc := 208) dX6_pass_208 rfl rfl ?_
        refine v_aload_nR (pc := 209) dX6_pass_209 rfl rfl ?_
        refine v_getS (pc := 210) 5 11 fg_X6_118 rfl (by omega) (by decide) dX6_pass_210 ?_
        rw [smX_g5]
        refine v_putS (pc := 213) 3 11 fp_X6_pass_71 rfl (by omega) (by decide) dX6_pass_213 ?_
        try dsimp only [wb, SimM, List.set_cons_succ, List.set_cons_zero, List.append_nil, List.nil_append, List.cons_append, Option.toList, Nat.sub_zero]
        rw [smX_u3]
        refine v_aload_nR (pc := 216) dX6_pass_216 rfl rfl ?_
        refine v_getS (pc := 217) 1 11 fg_X6_121 rfl (by omega) (by decide) dX6_pass_217 ?_
        rw [smX_g1]
        rw [upS_n _ _ (by omega : ¬ (i = i ∧ 2 = 4)), upS_n _ _ (by omega : ¬ (i = i ∧ 2 = 7))]
        refine v_bipush (pc := 220) (v := 100) dX6_pass_220 rfl ?_
        refine v_icmp_ge (pc := 222) (tgt := 235) dX6_pass_222 (by decide) (fun c222 => ?_) (fun c222 => ?_)
        · refine v_cgS 11 (t := smX (coS y.1 i) MX) rfl (sx_co2 hn hx (t_up (hJ.1 i (by omega))).2.1 (Int32.not_lt.mpr c222)) ?_
          try dsimp only [wb, SimM, List.set_cons_succ, List.set_cons_zero, List.append_nil, List.nil_append, List.cons_append, Option.toList, Nat.sub_zero]
          refine v_sub (L' := [some (.ref (v 0)), some (.int y.2.2), some (.int (nI i)), some (.ref (xs i)), none, none, none, none]) ⟨rfl, rfl, rfl, rfl, trivial⟩ ?_
          refine lp_X6_g235 (SF := y.1) (BF := y.2.1) hps hsc hbc (c := y.2.2) (s := i) (q := q) (by omega) hq hq5 (fun hc => ?_) (fun hc => ?_)
          · refine v_iinc (pc := 361) (v := nI (i + 1)) dX6_pass_361 rfl (nI_1 _) (by decide) rfl ?_
            refine v_goto (pc := 364) (tgt := 162) dX6_pass_364 (by decide) ?_
            have hr2 : mvL PC ps sc bc hh (n5 - (i + 1)) (i + 1) (mvT PC ps sc bc hh i y) = r := by
              rw [show n5 - i = (n5 - (i + 1)) + 1 by omega] at hr
              exact hr
            have e9 : mvT PC ps sc bc hh i y = ((mvT PC ps sc bc hh i (y.1, y.2.1, 0)).1, (mvT PC ps sc bc hh i (y.1, y.2.1, 0)).2.1, y.2.2 + (mvT PC ps sc bc hh i (y.1, y.2.1, 0)).2.2) := mvT_c (c := y.2.2)
            rw [e9] at hr2
            have k9 := ih (i + 1) (by omega) ((mvT PC ps sc bc hh i (y.1, y.2.1, 0)).1, (mvT PC ps sc bc hh i (y.1, y.2.1, 0)).2.1, y.2.2 + (mvT PC ps sc bc hh i (y.1, y.2.1, 0)).2.2) (hI.mv (hh := hh) (n := i) (c := 0) hsc hbc) (hJ.mv (c := 0)) hr2
            have e : mvT PC ps sc bc hh i (y.1, y.2.1, 0) = (coS y.1 i, y.2.1, 0) := by
              unfold mvT
              rw [if_pos (show i < sc ∧ (y.1 i 3 = 1 ∧ 0 < y.1 i 7) from ⟨by omega, h1, hp⟩)]
              dsimp only
              rw [if_neg (fun h => hc (by rw [h.2, cw_5, hq5, cop_k hq hps]))]
            rw [e] at k9
            rw [show y.2.2 + (coS y.1 i, y.2.1, (0 : Int32)).2.2 = y.2.2 from Int32.add_zero _] at k9
            refine v_sub ?_ k9
            exact ⟨rfl, rfl, rfl, trivial⟩
          · refine v_iinc (pc := 361) (v := nI (i + 1)) dX6_pass_361 rfl (nI_1 _) (by decide) rfl ?_
            refine v_goto (pc := 364) (tgt := 162) dX6_pass_364 (by decide) ?_
            have hr2 : mvL PC ps sc bc hh (n5 - (i + 1)) (i + 1) (mvT PC ps sc bc hh i y) = r := by
              rw [show n5 - i = (n5 - (i + 1)) + 1 by omega] at hr
              exact hr
            have e9 : mvT PC ps sc bc hh i y = ((mvT PC ps sc bc hh i (y.1, y.2.1, 0)).1, (mvT PC ps sc bc hh i (y.1, y.2.1, 0)).2.1, y.2.2 + (mvT PC ps sc bc hh i (y.1, y.2.1, 0)).2.2) := mvT_c (c := y.2.2)
            rw [e9] at hr2
            have k9 := ih (i + 1) (by omega) ((mvT PC ps sc bc hh i (y.1, y.2.1, 0)).1, (mvT PC ps sc bc hh i (y.1, y.2.1, 0)).2.1, y.2.2 + (mvT PC ps sc bc hh i (y.1, y.2.1, 0)).2.2) (hI.mv (hh := hh) (n := i) (c := 0) hsc hbc) (hJ.mv (c := 0)) hr2
            have e : mvT PC ps sc bc hh i (y.1, y.2.1, 0) = (rsS (coS y.1 i) i, (ulB y.2.1 bc (nI i) (nI q) (nI hh) 40).1, 0 + (ulB y.2.1 bc (nI i) (nI q) (nI hh) 40).2) := by
              unfold mvT
              rw [if_pos (show i < sc ∧ (y.1 i 3 = 1 ∧ 0 < y.1 i 7) from ⟨by omega, h1, hp⟩)]
              dsimp only
              rw [if_pos ⟨hn, by rw [hc, cw_5, hq5, cop_k hq hps]⟩, rs_5, hq5]
            rw [e] at k9
            rw [show y.2.2 + (rsS (coS y.1 i) i, (ulB y.2.1 bc (nI i) (nI q) (nI hh) 40).1, (0 : Int32) + (ulB y.2.1 bc (nI i) (nI q) (nI hh) 40).2).2.2 = y.2.2 + (ulB y.2.1 bc (nI i) (nI q) (nI hh) 40).2 from by show y.2.2 + (0 + (ulB y.2.1 bc (nI i) (nI q) (nI hh) 40).2) = _; rw [Int32.zero_add]] at k9
            refine v_sub ?_ k9
            exact ⟨rfl, rfl, rfl, trivial⟩
        · refine v_aload_nR (pc := 225) dX6_pass_225 rfl rfl ?_
          refine v_dup (pc := 226) dX6_pass_226 rfl ?_
          refine v_getS (pc := 227) 1 11 fg_X6_121 rfl (by omega) (by decide) dX6_pass_227 ?_
          rw [smX_g1]
          rw [upS_n _ _ (by omega : ¬ (i = i ∧ 2 = 4)), upS_n _ _ (by omega : ¬ (i = i ∧ 2 = 7))]
          refine v_iconst (pc := 230) (v := 1) dX6_pass_230 rfl ?_
          refine v_iadd (pc := 231) dX6_pass_231 ?_
          refine v_putS (pc := 232) 1 11 fp_X6_pass_121 rfl (by omega) (by decide) dX6_pass_232 ?_
          try dsimp only [wb, SimM, List.set_cons_succ, List.set_cons_zero, List.append_nil, List.nil_append, List.cons_append, Option.toList, Nat.sub_zero]
          rw [smX_u1]
          refine v_cgS 11 (t := smX (coS y.1 i) MX) rfl (sx_co hn hx (t_up (hJ.1 i (by omega))).1 (Int32.not_le.mp c222)) ?_
          try dsimp only [wb, SimM, List.set_cons_succ, List.set_cons_zero, List.append_nil, List.nil_append, List.cons_append, Option.toList, Nat.sub_zero]
          refine v_sub (L' := [some (.ref (v 0)), some (.int y.2.2), some (.int (nI i)), some (.ref (xs i)), none, none, none, none]) ⟨rfl, rfl, rfl, rfl, trivial⟩ ?_
          refine lp_X6_g235 (SF := y.1) (BF := y.2.1) hps hsc hbc (c := y.2.2) (s := i) (q := q) (by omega) hq hq5 (fun hc => ?_) (fun hc => ?_)
          · refine v_iinc (pc := 361) (v := nI (i + 1)) dX6_pass_361 rfl (nI_1 _) (by decide) rfl ?_
            refine v_goto (pc := 364) (tgt := 162) dX6_pass_364 (by decide) ?_
            have hr2 : mvL PC ps sc bc hh (n5 - (i + 1)) (i + 1) (mvT PC ps sc bc hh i y) = r := by
              rw [show n5 - i = (n5 - (i + 1)) + 1 by omega] at hr
              exact hr
            have e9 : mvT PC ps sc bc hh i y = ((mvT PC ps sc bc hh i (y.1, y.2.1, 0)).1, (mvT PC ps sc bc hh i (y.1, y.2.1, 0)).2.1, y.2.2 + (mvT PC ps sc bc hh i (y.1, y.2.1, 0)).2.2) := mvT_c (c := y.2.2)
            rw [e9] at hr2
            have k9 := ih (i + 1) (by omega) ((mvT PC ps sc bc hh i (y.1, y.2.1, 0)).1, (mvT PC ps sc bc hh i (y.1, y.2.1, 0)).2.1, y.2.2 + (mvT PC ps sc bc hh i (y.1, y.2.1, 0)).2.2) (hI.mv (hh := hh) (n := i) (c := 0) hsc hbc) (hJ.mv (c := 0)) hr2
            have e : mvT PC ps sc bc hh i (y.1, y.2.1, 0) = (coS y.1 i, y.2.1, 0) := by
              unfold mvT
              rw [if_pos (show i < sc ∧ (y.1 i 3 = 1 ∧ 0 < y.1 i 7) from ⟨by omega, h1, hp⟩)]
              dsimp only
              rw [if_neg (fun h => hc (by rw [h.2, cw_5, hq5, cop_k hq hps]))]
            rw [e] at k9
            rw [show y.2.2 + (coS y.1 i, y.2.1, (0 : Int32)).2.2 = y.2.2 from Int32.add_zero _] at k9
            refine v_sub ?_ k9
            exact ⟨rfl, rfl, rfl, trivial⟩
          · refine v_iinc (pc := 361) (v := nI (i + 1)) dX6_pass_361 rfl (nI_1 _) (by decide) rfl ?_
            refine v_goto (pc := 364) (tgt := 162) dX6_pass_364 (by decide) ?_
            have hr2 : mvL PC ps sc bc hh (n5 - (i + 1)) (i + 1) (mvT PC ps sc bc hh i y) = r := by
              rw [show n5 - i = (n5 - (i + 1)) + 1 by omega] at hr
              exact hr
            have e9 : mvT PC ps sc bc hh i y = ((mvT PC ps sc bc hh i (y.1, y.2.1, 0)).1, (mvT PC ps sc bc hh i (y.1, y.2.1, 0)).2.1, y.2.2 + (mvT PC ps sc bc hh i (y.1, y.2.1, 0)).2.2) := mvT_c (c := y.2.2)
            rw [e9] at hr2
            have k9 := ih (i + 1) (by omega) ((mvT PC ps sc bc hh i (y.1, y.2.1, 0)).1, (mvT PC ps sc bc hh i (y.1, y.2.1, 0)).2.1, y.2.2 + (mvT PC ps sc bc hh i (y.1, y.2.1, 0)).2.2) (hI.mv (hh := hh) (n := i) (c := 0) hsc hbc) (hJ.mv (c := 0)) hr2
            have e : mvT PC ps sc bc hh i (y.1, y.2.1, 0) = (rsS (coS y.1 i) i, (ulB y.2.1 bc (nI i) (nI q) (nI hh) 40).1, 0 + (ulB y.2.1 bc (nI i) (nI q) (nI hh) 40).2) := by
              unfold mvT
              rw [if_pos (show i < sc ∧ (y.1 i 3 = 1 ∧ 0 < y.1 i 7) from ⟨by omega, h1, hp⟩)]
              dsimp only
              rw [if_pos ⟨hn, by rw [hc, cw_5, hq5, cop_k hq hps]⟩, rs_5, hq5]
            rw [e] at k9
            rw [show y.2.2 + (rsS (coS y.1 i) i, (ulB y.2.1 bc (nI i) (nI q) (nI hh) 40).1, (0 : Int32) + (ulB y.2.1 bc (nI i) (nI q) (nI hh) 40).2).2.2 = y.2.2 + (ulB y.2.1 bc (nI i) (nI q) (nI hh) 40).2 from by show y.2.2 + (0 + (ulB y.2.1 bc (nI i) (nI q) (nI hh) 40).2) = _; rw [Int32.zero_add]] at k9
            refine v_sub ?_ k9
            exact ⟨rfl, rfl, rfl, trivial⟩
      · refine v_goto (pc := 205) (tgt := 361) dX6_pass_205 (by decide) ?_
        refine v_iinc (pc := 361) (v := nI (i + 1)) dX6_pass_361 rfl (nI_1 _) (by decide) rfl ?_
        refine v_goto (pc := 364) (tgt := 162) dX6_pass_364 (by decide) ?_
        have hr2 : mvL PC ps sc bc hh (n5 - (i + 1)) (i + 1) (mvT PC ps sc bc hh i y) = r := by
          rw [show n5 - i = (n5 - (i + 1)) + 1 by omega] at hr
          exact hr
        have e9 : mvT PC ps sc bc hh i y = ((mvT PC ps sc bc hh i (y.1, y.2.1, 0)).1, (mvT PC ps sc bc hh i (y.1, y.2.1, 0)).2.1, y.2.2 + (mvT PC ps sc bc hh i (y.1, y.2.1, 0)).2.2) := mvT_c (c := y.2.2)
        rw [e9] at hr2
        have k9 := ih (i + 1) (by omega) ((mvT PC ps sc bc hh i (y.1, y.2.1, 0)).1, (mvT PC ps sc bc hh i (y.1, y.2.1, 0)).2.1, y.2.2 + (mvT PC ps sc bc hh i (y.1, y.2.1, 0)).2.2) (hI.mv (hh := hh) (n := i) (c := 0) hsc hbc) (hJ.mv (c := 0)) hr2
        have e : mvT PC ps sc bc hh i (y.1, y.2.1, 0) = (coS y.1 i, y.2.1, 0) := by
          unfold mvT
          rw [if_pos (show i < sc ∧ (y.1 i 3 = 1 ∧ 0 < y.1 i 7) from ⟨by omega, h1, hp⟩)]
          dsimp only
          rw [if_neg (fun h => h.1 (Int32.not_le.mp c202))]
        rw [e] at k9
        rw [show y.2.2 + (coS y.1 i, y.2.1, (0 : Int32)).2.2 = y.2.2 from Int32.add_zero _, ← tbl_co1 (MX := MX) (Int32.not_le.mp c202)] at k9
        refine v_sub ?_ k9
        exact ⟨rfl, rfl, rfl, trivial⟩
    · refine v_goto (pc := 185) (tgt := 361) dX6_pass_185 (by decide) ?_
      refine v_iinc (pc := 361) (v := nI (i + 1)) dX6_pass_361 rfl (nI_1 _) (by decide) rfl ?_
      refine v_goto (pc := 364) (tgt := 162) dX6_pass_364 (by decide) ?_
      have hr2 : mvL PC ps sc bc hh (n5 - (i + 1)) (i + 1) (mvT PC ps sc bc hh i y) = r := by
        rw [show n5 - i = (n5 - (i + 1)) + 1 by omega] at hr
        exact hr
      have e9 : mvT PC ps sc bc hh i y = ((mvT PC ps sc bc hh i (y.1, y.2.1, 0)).1, (mvT PC ps sc bc hh i (y.1, y.2.1, 0)).2.1, y.2.2 + (mvT PC ps sc bc hh i (y.1, y.2.1, 0)).2.2) := mvT_c (c := y.2.2)
      rw [e9] at hr2
      have k9 := ih (i + 1) (by omega) ((mvT PC ps sc bc hh i (y.1, y.2.1, 0)).1, (mvT PC ps sc bc hh i (y.1, y.2.1, 0)).2.1, y.2.2 + (mvT PC ps sc bc hh i (y.1, y.2.1, 0)).2.2) (hI.mv (hh := hh) (n := i) (c := 0) hsc hbc) (hJ.mv (c := 0)) hr2
      have e : mvT PC ps sc bc hh i (y.1, y.2.1, 0) = (y.1, y.2.1, 0) := if_neg (fun h => absurd h.2.2 (show ¬ 0 < y.1 i 7 by rw [c182]; decide))
      rw [e] at k9
      rw [show y.2.2 + (y.1, y.2.1, (0 : Int32)).2.2 = y.2.2 from Int32.add_zero _] at k9
      refine v_sub ?_ k9
      exact ⟨rfl, rfl, rfl, trivial⟩
