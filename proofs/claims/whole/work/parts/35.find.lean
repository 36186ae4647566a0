/-! the reference's search: hours are handed on till nothing changes -/
abbrev RS := (Nat → Int32) × Int32
def rl1 (P : Nat → Int32) (c : Nat) : Option Nat → RS → RS
  | none, s => s
  | some j, s => if s.1 j ≤ s.1 c + P c then s else (upd s.1 j (s.1 c + P c), 1)
def rl4 (P : Nat → Int32) (c : Nat) : Nat → RS → RS
  | 0, s => s
  | n + 1, s => rl1 P c (nbr c n) (rl4 P c n s)
def rlc (Hb : Nat → Bool) (P : Nat → Int32) (c : Nat) (s : RS) : RS := if s.1 c = 1000000 ∨ ¬ Hb c = true then s else rl4 P c 4 s
def ckk (n : Nat) : Nat := if n < 160 then n else 319 - n
def swp (Hb : Nat → Bool) (P : Nat → Int32) : Nat → RS → RS
  | 0, s => s
  | n + 1, s => rlc Hb P (ckk n) (swp Hb P n s)
/-- what a search of the reference has found -/
def FDs (Hb : Nat → Bool) (cst : Nat → Nat) (g : Nat) (h : Nat → Int32) : Prop :=
  (∀ c, c < 160 → h c = nI 1000000 ∨ ∃ m n, h c = nI m ∧ m < 1000000 ∧ Way Hb cst g n c m) ∧
  (∀ n c m, Way Hb cst g n c m → m < 1000000 → ∃ m2, m2 ≤ m ∧ h c = nI m2)
def Jh (Hb : Nat → Bool) (cst : Nat → Nat) (g : Nat) (h : Nat → Int32) : Prop :=
  (∀ c, c < 160 → ∃ m, h c = nI m ∧ m ≤ 1000000 ∧ (m < 1000000 → ∃ n, Way Hb cst g n c m)) ∧ h g = nI 0
def clo (Hb : Nat → Bool) (cst : Nat → Nat) (h : Nat → Int32) (c : Nat) : Prop := ∀ m, h c = nI m → m < 1000000 → Hb c = true → ∀ i o, i < 4 → nbr c i = some o → ∃ m2, h o = nI m2 ∧ m2 ≤ m + cst c
def meas (h : Nat → Int32) : Nat := fb_sm (fun c => cN (h c)) 160
theorem nbr_ne {k s j : Nat} (h : nbr k s = some j) : ¬ j = k := by
  unfold nbr at h
  split at h <;> split at h <;> cases h <;> omega
theorem nI_inj {a b : Nat} (ha : a < 2 ^ 31) (hb : b < 2 ^ 31) (h : nI a = nI b) : a = b := (nI_eq ha hb).mp h
theorem meas_upd {h : Nat → Int32} {j a b : Nat} (hj : j < 160) (h1 : h j = nI b) (hb : b < 2 ^ 31) (hab : a < b) : meas (upd h j (nI a)) < meas h := by
  unfold meas
  have e := fb_sm_upd (fun c => cN (h c)) a (i := j) (n := 160) hj
  have e2 : fb_sm (fun k => if k = j then a else (fun c => cN (h c)) k) 160 = fb_sm (fun c => cN (upd h j (nI a) c)) 160 := by
    refine fb_sm_cong (fun k _ => ?_)
    by_cases hk : k = j
    · subst hk
      rw [if_pos rfl, pk_us, cN_nI (by omega)]
    · rw [if_neg hk, pk_un hk]
  rw [e2] at e
  have e3 : fb_sm (fun c => cN (upd h j (nI a) c)) 160 + cN (h j) = fb_sm (fun c => cN (h c)) 160 + a := e
  rw [h1, cN_nI hb] at e3
  omega
section FIND
variable {Hb : Nat → Bool} {cst : Nat → Nat} {g : Nat} {P : Nat → Int32}
theorem FDs.of {h : Nat → Int32} (hg : g < 160) (hC : ∀ j, j < 160 → P j = nI (cst j) ∧ 1 ≤ cst j ∧ cst j ≤ 43) (J : Jh Hb cst g h) (hc : ∀ c, c < 160 → clo Hb cst h c) : FDs Hb cst g h := by
  refine ⟨fun c hcc => ?_, fun n => ?_⟩
  · obtain ⟨m, a1, a2, a3⟩ := J.1 c hcc
    rcases Nat.lt_or_ge m 1000000 with h1 | h1
    · obtain ⟨n, a4⟩ := a3 h1
      exact Or.inr ⟨m, n, a1, h1, a4⟩
    · exact Or.inl (by rw [a1, show m = 1000000 by omega])
  · induction n with
    | zero =>
      intro c m hw _
      obtain ⟨rfl, rfl⟩ := hw
      exact ⟨0, Nat.le_refl 0, J.2⟩
    | succ n ih =>
      intro c m hw hm
      obtain ⟨c', i, k', h1, h2, h3, h4, h5, rfl⟩ := hw
      obtain ⟨m2, b1, b2⟩ := ih c' k' h4 (by omega)
      obtain ⟨m3, b3, b4⟩ := hc c' h2 m2 b2 (by omega) h5 i c h1 h3
      exact ⟨m3, by omega, b3⟩
theorem rl4_ps (hC : ∀ j, j < 160 → P j = nI (cst j) ∧ 1 ≤ cst j ∧ cst j ≤ 43) {c m : Nat} {h : Nat → Int32} {q : Int32} (hc : c < 160) (J : Jh Hb cst g h) (h1 : h c = nI m) (h2 : m < 1000000) (h3 : Hb c = true) : ∀ n, n ≤ 4 →
    Jh Hb cst g (rl4 P c n (h, q)).1 ∧ (rl4 P c n (h, q)).1 c = nI m ∧
      ((rl4 P c n (h, q) = (h, q) ∧ ∀ i o, i < n → nbr c i = some o → ∃ m2, h o = nI m2 ∧ m2 ≤ m + cst c) ∨ ((rl4 P c n (h, q)).2 = 1 ∧ meas (rl4 P c n (h, q)).1 < meas h))
  | 0, _ => ⟨J, h1, Or.inl ⟨rfl, fun i o hi => absurd hi (Nat.not_lt_zero _)⟩⟩
  | n + 1, hn => by
    obtain ⟨a1, a2, a3⟩ := rl4_ps hC hc J h1 h2 h3 n (by omega)
    have e : rl4 P c (n + 1) (h, q) = rl1 P c (nbr c n) (rl4 P c n (h, q)) := rfl
    cases hj : nbr c n with
    | none =>
      rw [e, hj]
      refine ⟨a1, a2, ?_⟩
      rcases a3 with ⟨b1, b2⟩ | b
      · refine Or.inl ⟨b1, fun i o hi ho => ?_⟩
        by_cases hin : i = n
        · subst hin
          rw [hj] at ho
          cases ho
        · exact b2 i o (by omega) ho
      · exact Or.inr b
    | some j =>
      rw [e, hj]
      generalize rl4 P c n (h, q) = r at a1 a2 a3 ⊢
      have hjl := nbr_lt hc hj
      have hCc := hC c hc
      obtain ⟨mj, c1, c2, c3⟩ := a1.1 j hjl
      have er : rl1 P c (some j) r = if r.1 j ≤ r.1 c + P c then r else (upd r.1 j (r.1 c + P c), 1) := rfl
      rw [er, a2, hCc.1, nI_add, c1]
      by_cases hle : nI mj ≤ nI (m + cst c)
      · rw [if_pos hle]
        refine ⟨a1, a2, ?_⟩
        rcases a3 with ⟨b1, b2⟩ | b
        · refine Or.inl ⟨b1, fun i o hi ho => ?_⟩
          by_cases hin : i = n
          · subst hin
            rw [hj] at ho
            cases ho
            refine ⟨mj, ?_, (nI_leI (by omega) (by omega)).mp hle⟩
            rw [b1] at c1
            exact c1
          · exact b2 i o (by omega) ho
        · exact Or.inr b
      · rw [if_neg hle]
        have hlt : m + cst c < mj := by
          rcases Nat.lt_or_ge (m + cst c) mj with h9 | h9
          · exact h9
          · exact absurd ((nI_leI (by omega) (by omega)).mpr h9) hle
        have hne := nbr_ne hj
        have hM := meas_upd hjl c1 (by omega) hlt
        refine ⟨⟨fun d hd => ?_, ?_⟩, ?_, Or.inr ⟨rfl, ?_⟩⟩
        · by_cases hdj : d = j
          · subst hdj
            refine ⟨m + cst c, pk_us, by omega, fun _ => ?_⟩
            obtain ⟨m', f1, f2, f3⟩ := a1.1 c hc
            have hmm : m = m' := nI_inj (by omega) (by omega) (a2.symm.trans f1)
            obtain ⟨nw, hw⟩ := f3 (by omega)
            exact ⟨nw + 1, c, n, m, by omega, hc, hj, by rw [hmm]; exact hw, h3, rfl⟩
          · show ∃ m0, upd r.1 j (nI (m + cst c)) d = nI m0 ∧ _
            rw [pk_un hdj]
            exact a1.1 d hd
        · show upd r.1 j (nI (m + cst c)) g = nI 0
          by_cases hgj : g = j
          · subst hgj
            have := nI_inj (by omega) (by omega) (a1.2.symm.trans c1)
            omega
          · rw [pk_un hgj]; exact a1.2
        · show upd r.1 j (nI (m + cst c)) c = nI m
          rw [pk_un (fun x => hne x.symm)]
          exact a2
        · show meas (upd r.1 j (nI (m + cst c))) < meas h
          rcases a3 with ⟨b1, -⟩ | ⟨-, b2⟩
          · rw [b1] at hM ⊢
            exact hM
          · omega
theorem rlc_ps (hC : ∀ j, j < 160 → P j = nI (cst j) ∧ 1 ≤ cst j ∧ cst j ≤ 43) {c : Nat} {h : Nat → Int32} {q : Int32} (hc : c < 160) (J : Jh Hb cst g h) :
    Jh Hb cst g (rlc Hb P c (h, q)).1 ∧ ((rlc Hb P c (h, q) = (h, q) ∧ clo Hb cst h c) ∨ ((rlc Hb P c (h, q)).2 = 1 ∧ meas (rlc Hb P c (h, q)).1 < meas h)) := by
  unfold rlc
  by_cases h0 : h c = 1000000 ∨ ¬ Hb c = true
  · rw [if_pos h0]
    refine ⟨J, Or.inl ⟨rfl, fun m h1 h2 h3 => ?_⟩⟩
    rcases h0 with h0 | h0
    · have : (1000000 : Int32) = nI 1000000 := rfl
      rw [this] at h0
      have := nI_inj (by omega) (by omega) (h1.symm.trans h0)
      omega
    · exact absurd h3 h0
  · rw [if_neg h0]
    obtain ⟨m, a1, a2, -⟩ := J.1 c hc
    have hm : m < 1000000 := by
      rcases Nat.lt_or_ge m 1000000 with h9 | h9
      · exact h9
      · exfalso
        apply h0
        left
        rw [a1, show m = 1000000 by omega]
        rfl
    have hH : Hb c = true := Classical.byContradiction fun h9 => h0 (Or.inr h9)
    obtain ⟨b1, -, b3⟩ := rl4_ps hC (q := q) hc J a1 hm hH 4 (Nat.le_refl _)
    refine ⟨b1, ?_⟩
    rcases b3 with ⟨b4, b5⟩ | b4
    · refine Or.inl ⟨b4, fun m' h1 h2 h3 i o hi ho => ?_⟩
      have := nI_inj (by omega) (by omega) (a1.symm.trans h1)
      subst this
      exact b5 i o hi ho
    · exact Or.inr b4
theorem ckk_lt {n : Nat} (h : n < 320) : ckk n < 160 := by
  unfold ckk
  split <;> omega
theorem swp_ps (hC : ∀ j, j < 160 → P j = nI (cst j) ∧ 1 ≤ cst j ∧ cst j ≤ 43) {h : Nat → Int32} (J : Jh Hb cst g h) : ∀ n, n ≤ 320 →
    Jh Hb cst g (swp Hb P n (h, 0)).1 ∧ ((swp Hb P n (h, 0) = (h, 0) ∧ ∀ i, i < n → clo Hb cst h (ckk i)) ∨ ((swp Hb P n (h, 0)).2 = 1 ∧ meas (swp Hb P n (h, 0)).1 < meas h))
  | 0, _ => ⟨J, Or.inl ⟨rfl, fun i hi => absurd hi (Nat.not_lt_zero _)⟩⟩
  | n + 1, hn => by
    obtain ⟨a1, a2⟩ := swp_ps hC J n (by omega)
    have e : swp Hb P (n + 1) (h, 0) = rlc Hb P (ckk n) ((swp Hb P n (h, 0)).1, (swp Hb P n (h, 0)).2) := rfl
    obtain ⟨b1, b2⟩ := rlc_ps hC (q := (swp Hb P n (h, 0)).2) (ckk_lt (n := n) (by omega)) a1
    rw [e]
    refine ⟨b1, ?_⟩
    rcases a2 with ⟨a3, a4⟩ | ⟨a3, a4⟩
    · rw [a3] at b2 ⊢
      rcases b2 with ⟨b3, b4⟩ | b3
      · refine Or.inl ⟨b3, fun i hi => ?_⟩
        by_cases hin : i = n
        · subst hin; exact b4
        · exact a4 i (by omega)
      · exact Or.inr b3
    · refine Or.inr ?_
      rcases b2 with ⟨b3, b4⟩ | ⟨b3, b4⟩
      · rw [b3]; exact ⟨a3, a4⟩
      · exact ⟨b3, by omega⟩
end FIND
def mpc (N : Nat → Int32) (x r t : Int32) : Nat → Int32 := fun c => N c + x / (60 * r) + (if 50 ≤ t then 1 else 0)
set_option maxRecDepth 100000 in
set_option maxHeartbeats 4000000 in
theorem lp_X6_side {G : Cx} {z : Nat → Nat} {th : Int32} {N O PC T S C : Nat → Int32} {ps sc bc hh : Nat} {SF BF : Nat → Nat → Int32} {MX H W : Nat → Int32} (hps : ps ≤ 8) (hsc : sc ≤ 5) (hbc : bc ≤ 40) {sz : Nat} {Z : ZT} {k0 c : Nat} {s : RS} {x r t : Int32} {g : Nat} (hr : 1 ≤ r.toInt ∧ r.toInt ≤ 6) (hT : tOK T) (hC : cOK C) (hc : c < 160) (K : V G Y_X6_find Z 3 0 0 193 [some (.ref (z 0)), some (.int (nI g)), some (.int x), some (.int r), some (.int t), some (.int (rl4 (mpc N x r t) c 4 s).2), some (.int (nI k0)), none, none, none] [] (ModelM z th N O PC ps sc bc T S C SF MX BF hh (rl4 (mpc N x r t) c 4 s).1 W)) : ∀ (m i : Nat), m + i = 4 → V G Y_X6_find Z 3 0 0 107 [some (.ref (z 0)), some (.int (nI g)), some (.int x), some (.int r), some (.int t), some (.int (rl4 (mpc N x r t) c i s).2), some (.int (nI k0)), some (.int (nI c)), some (.int (nI i)), none] [] (ModelM z th N O PC ps sc bc T S C SF MX BF hh (rl4 (mpc N x r t) c i s).1 W) := by
  intro m
  induction m with
  | zero =>
    intro i hi
    obtain rfl : i = 4 := by omega
    refine v_iload (pc := 107) dX6_find_107 rfl ?_
    refine v_iconst (pc := 109) (v := 4) dX6_find_109 rfl ?_
    refine v_icmp_ge (pc := 110) (tgt := 193) dX6_find_110 (by decide) (fun c110 => ?_) (fun c110 => absurd (nI_le (a := 4) (b := 4) (Nat.le_refl _) (by decide)) c110)
    have c110 : 4 ≤ 4 := (nI_leI (a := 4) (b := 4) (by omega) (by omega)).mp c110
    refine v_sub ?_ K
    exact ⟨rfl, rfl, rfl, rfl, rfl, rfl, rfl, trivial⟩
  | succ m ih =>
    intro i hi
    refine v_iload (pc := 107) dX6_find_107 rfl ?_
    refine v_iconst (pc := 109) (v := 4) dX6_find_109 rfl ?_
    refine v_icmp_ge (pc := 110) (tgt := 193) dX6_find_110 (by decide) (fun c110 => absurd c110 (nI_ge (a := i) (b := 4) (by omega) (by decide))) (fun c110 => ?_)
    have c110 : ¬ 4 ≤ i := fun h => c110 ((nI_leI (a := 4) (b := i) (by omega) (by omega)).mpr h)
    refine v_iload (pc := 113) dX6_find_113 rfl ?_
    refine v_iload (pc := 115) dX6_find_115 rfl ?_
    refine v_callS2 (pc := 117) (c_X6_beside hc (by omega)) cm_X6_beside q960 q961 [] (by rfl) (by decide) (fun _ _ h => h) (by decide) (by decide) (by decide) (Nat.le_of_ble_eq_true rfl) dX6_find_117 (fun v117 M117 hQ117 => ?_)
    obtain ⟨rfl, rfl⟩ := hQ117
    try dsimp only [wb, ModelM, List.set_cons_succ, List.set_cons_zero, List.append_nil, List.nil_append, List.cons_append, Option.toList, Nat.sub_zero]
    refine v_istore (pc := 120) dX6_find_120 (by decide) rfl ?_
    refine v_iload (pc := 122) dX6_find_122 rfl ?_
    refine v_iconst (pc := 124) (v := -1) dX6_find_124 rfl ?_
    refine v_icmp_eq (pc := 125) (tgt := 187) dX6_find_125 (by decide) (fun c125 => ?_) (fun c125 => ?_)
    · refine v_iinc (pc := 187) (v := nI (i + 1)) dX6_find_187 rfl (nI_1 _) (by decide) rfl ?_
      refine v_goto (pc := 190) (tgt := 107) dX6_find_190 (by decide) ?_
      have hn : nbr c i = none := by
        cases hn : nbr c i with
        | none => rfl
        | some j => exact absurd c125 (by rw [oI_some hn]; exact nI_nm1 (nbr_lt hc hn))
      have e : (rl4 (mpc N x r t) c (i + 1) s) = (rl4 (mpc N x r t) c i s) := by
        show rl1 (mpc N x r t) c (nbr c i) _ = _
        rw [hn]; rfl
      have k9 := ih (i + 1) (by omega)
      rw [e] at k9
      refine v_sub ?_ k9
      exact ⟨rfl, rfl, rfl, rfl, rfl, rfl, rfl, rfl, rfl, trivial⟩
    · obtain ⟨j, hj⟩ : ∃ j, nbr c i = some j := by
        cases hn : nbr c i with
        | none => exact absurd (oI_none hn) c125
        | some j => exact ⟨j, rfl⟩
      have hj2 := nbr_lt hc hj
      rw [oI_some hj]
      refine v_aload_nR (pc := 128) dX6_find_128 rfl rfl ?_
      refine v_get (pc := 129) 13 0 fg_X6_37 rfl rfl dX6_find_129 ?_
      refine v_iload (pc := 132) dX6_find_132 rfl ?_
      refine v_ialdN (pc := 134) 10 (k := c) rfl (by omega) (by decide) dX6_find_134 ?_
      refine v_aload_nR (pc := 135) dX6_find_135 rfl rfl ?_
      refine v_iload (pc := 136) dX6_find_136 rfl ?_
      refine v_iload_n (pc := 138) dX6_find_138 rfl rfl ?_
      refine v_iload_n (pc := 139) dX6_find_139 rfl rfl ?_
      refine v_iload (pc := 140) dX6_find_140 rfl ?_
      refine v_callV4 (pc := 142) (c_X6_pace hps hsc hbc hc hr) cm_X6_pace q963 q965 qs32 (ci := 6) rfl rfl (orcO 0 rfl) [0, 1, 2, 3, 4, 5, 6, 7, 8, 9, 10, 11] (by rfl) (by decide) (fun _ _ h => h) (by decide) (by decide) (by decide) (Nat.le_of_ble_eq_true rfl) dX6_find_142 (fun v142 M142 hQ142 => ?_)
      obtain ⟨rfl, rfl⟩ := hQ142
      try dsimp only [wb, ModelM, List.set_cons_succ, List.set_cons_zero, List.append_nil, List.nil_append, List.cons_append, Option.toList, Nat.sub_zero]
      refine v_iadd (pc := 145) dX6_find_145 ?_
      refine v_aload_nR (pc := 146) dX6_find_146 rfl rfl ?_
      refine v_get (pc := 147) 13 0 fg_X6_37 rfl rfl dX6_find_147 ?_
      refine v_iload (pc := 150) dX6_find_150 rfl ?_
      refine v_ialdN (pc := 152) 10 (k := j) rfl (by omega) (by decide) dX6_find_152 ?_
      refine v_icmp_lt (pc := 153) (tgt := 159) dX6_find_153 (by decide) (fun c153 => ?_) (fun c153 => ?_)
      · refine v_aload_nR (pc := 159) dX6_find_159 rfl rfl ?_
        refine v_get (pc := 160) 13 0 fg_X6_37 rfl rfl dX6_find_160 ?_
        refine v_iload (pc := 163) dX6_find_163 rfl ?_
        refine v_aload_nR (pc := 165) dX6_find_165 rfl rfl ?_
        refine v_get (pc := 166) 13 0 fg_X6_37 rfl rfl dX6_find_166 ?_
        refine v_iload (pc := 169) dX6_find_169 rfl ?_
        refine v_ialdN (pc := 171) 10 (k := c) rfl (by omega) (by decide) dX6_find_171 ?_
        refine v_aload_nR (pc := 172) dX6_find_172 rfl rfl ?_
        refine v_iload (pc := 173) dX6_find_173 rfl ?_
        refine v_iload_n (pc := 175) dX6_find_175 rfl rfl ?_
        refine v_iload_n (pc := 176) dX6_find_176 rfl rfl ?_
        refine v_iload (pc := 177) dX6_find_177 rfl ?_
        refine v_callV4 (pc := 179) (c_X6_pace hps hsc hbc hc hr) cm_X6_pace q963 q965 qs32 (ci := 6) rfl rfl (orcO 0 rfl) [0, 1, 2, 3, 4, 5, 6, 7, 8, 9, 10, 11] (by rfl) (by decide) (fun _ _ h => h) (by decide) (by decide) (by decide) (Nat.le_of_ble_eq_true rfl) dX6_find_179 (fun v179 M179 hQ179 => ?_)
        obtain ⟨rfl, rfl⟩ := hQ179
        try dsimp only [wb, ModelM, List.set_cons_succ, List.set_cons_zero, List.append_nil, List.nil_append, List.cons_append, Option.toList, Nat.sub_zero]
        refine v_iadd (pc := 182) dX6_find_182 ?_
        refine v_iastN (pc := 183) 10 (k := j) rfl (by omega) (by decide) dX6_find_183 ?_
        try dsimp only [wb, ModelM, List.set_cons_succ, List.set_cons_zero, List.append_nil, List.nil_append, List.cons_append, Option.toList, Nat.sub_zero]
        refine v_iconst (pc := 184) (v := 1) dX6_find_184 rfl ?_
        refine v_istore (pc := 185) dX6_find_185 (by decide) rfl ?_
        refine v_iinc (pc := 187) (v := nI (i + 1)) dX6_find_187 rfl (nI_1 _) (by decide) rfl ?_
        refine v_goto (pc := 190) (tgt := 107) dX6_find_190 (by decide) ?_
        have e : (rl4 (mpc N x r t) c (i + 1) s) = (upd (rl4 (mpc N x r t) c i s).1 j ((rl4 (mpc N x r t) c i s).1 c + (mpc N x r t) c), 1) := by
          show rl1 (mpc N x r t) c (nbr c i) _ = _
          rw [hj]
          exact if_neg (Int32.not_le.mpr c153)
        have k9 := ih (i + 1) (by omega)
        rw [e] at k9
        refine v_sub ?_ k9
        exact ⟨rfl, rfl, rfl, rfl, rfl, rfl, rfl, rfl, rfl, trivial⟩
      · refine v_goto (pc := 156) (tgt := 187) dX6_find_156 (by decide) ?_
        refine v_iinc (pc := 187) (v := nI (i + 1)) dX6_find_187 rfl (nI_1 _) (by decide) rfl ?_
        refine v_goto (pc := 190) (tgt := 107) dX6_find_190 (by decide) ?_
        have e : (rl4 (mpc N x r t) c (i + 1) s) = (rl4 (mpc N x r t) c i s) := by
          show rl1 (mpc N x r t) c (nbr c i) _ = _
          rw [hj]
          exact if_pos (Int32.not_lt.mp c153)
        have k9 := ih (i + 1) (by omega)
        rw [e] at k9
        refine v_sub ?_ k9
        exact ⟨rfl, rfl, rfl, rfl, rfl, rfl, rfl, rfl, rfl, trivial⟩
set_option maxRecDepth 100000 in
set_option maxHeartbeats 4000000 in
theorem lp_X6_sweep {G : Cx} {z : Nat → Nat} {th : Int32} {N O PC T S C : Nat → Int32} {ps sc bc hh : Nat} {SF BF : Nat → Nat → Int32} {MX H W : Nat → Int32} (hps : ps ≤ 8) (hsc : sc ≤ 5) (hbc : bc ≤ 40) {sz : Nat} {Z : ZT} {s : RS} {x r t : Int32} {g : Nat} (hr : 1 ≤ r.toInt ∧ r.toInt ≤ 6) (hT : tOK T) (hC : cOK C) (K : V G Y_X6_find Z 3 0 0 39 [some (.ref (z 0)), some (.int (nI g)), some (.int x), some (.int r), some (.int t), some (.int (swp (fun k => hoB T C k (8 + x / 12)) (mpc N x r t) 320 s).2), none, none, none, none] [] (ModelM z th N O PC ps sc bc T S C SF MX BF hh (swp (fun k => hoB T C k (8 + x / 12)) (mpc N x r t) 320 s).1 W)) : ∀ (m i : Nat), m + i = 320 → V G Y_X6_find Z 3 0 0 50 [some (.ref (z 0)), some (.int (nI g)), some (.int x), some (.int r), some (.int t), some (.int (swp (fun k => hoB T C k (8 + x / 12)) (mpc N x r t) i s).2), some (.int (nI i)), none, none, none] [] (ModelM z th N O PC ps sc bc T S C SF MX BF hh (swp (fun k => hoB T C k (8 + x / 12)) (mpc N x r t) i s).1 W) := by
  intro m
  induction m with
  | zero =>
    intro i hi
    obtain rfl : i = 320 := by omega
    refine v_iload (pc := 50) dX6_find_50 rfl ?_
    refine v_sipush (pc := 52) (v := 320) dX6_find_52 rfl ?_
    refine v_icmp_ge (pc := 55) (tgt := 199) dX6_find_55 (by decide) (fun c55 => ?_) (fun c55 => absurd (nI_le (a := 320) (b := 320) (Nat.le_refl _) (by decide)) c55)
    have c55 : 320 ≤ 320 := (nI_leI (a := 320) (b := 320) (by omega) (by omega)).mp c55
    refine v_goto (pc := 199) (tgt := 39) dX6_find_199 (by decide) ?_
    refine v_sub ?_ K
    exact ⟨rfl, rfl, rfl, rfl, rfl, rfl, trivial⟩
  | succ m ih =>
    intro i hi
    refine v_iload (pc := 50) dX6_find_50 rfl ?_
    refine v_sipush (pc := 52) (v := 320) dX6_find_52 rfl ?_
    refine v_icmp_ge (pc := 55) (tgt := 199) dX6_find_55 (by decide) (fun c55 => absurd c55 (nI_ge (a := i) (b := 320) (by omega) (by decide))) (fun c55 => ?_)
    have c55 : ¬ 320 ≤ i := fun h => c55 ((nI_leI (a := 320) (b := i) (by omega) (by omega)).mpr h)
    refine v_iload (pc := 58) dX6_find_58 rfl ?_
    refine v_sipush (pc := 60) (v := 160) dX6_find_60 rfl ?_
    refine v_icmp_ge (pc := 63) (tgt := 71) dX6_find_63 (by decide) (fun c63 => ?_) (fun c63 => ?_)
    · have c63 : 160 ≤ i := (nI_leI (a := 160) (b := i) (by omega) (by omega)).mp c63
      refine v_sipush (pc := 71) (v := 319) dX6_find_71 rfl ?_
      refine v_iload (pc := 74) dX6_find_74 rfl ?_
      refine v_isub (pc := 76) dX6_find_76 ?_
      rw [show (319 : Int32) - nI i = nI (319 - i) from pk_sub (a := 319) (by omega)]
      refine v_istore (pc := 77) dX6_find_77 (by decide) rfl ?_
      refine v_aload_nR (pc := 79) dX6_find_79 rfl rfl ?_
      refine v_get (pc := 80) 13 0 fg_X6_37 rfl rfl dX6_find_80 ?_
      refine v_iload (pc := 83) dX6_find_83 rfl ?_
      refine v_ialdN (pc := 85) 10 (k := (319-i)) rfl (by omega) (by decide) dX6_find_85 ?_
      refine v_ldc (pc := 86) q951 dX6_find_86 ?_
      refine v_icmp_eq (pc := 88) (tgt := 193) dX6_find_88 (by decide) (fun c88 => ?_) (fun c88 => ?_)
      · have hck : ckk i = (319 - i) := by
          unfold ckk
          rw [if_neg (by omega)]
        have e0 : (swp (fun k => hoB T C k (8 + x / 12)) (mpc N x r t) (i + 1) s) = rlc (fun k => hoB T C k (8 + x / 12)) (mpc N x r t) (319 - i) (swp (fun k => hoB T C k (8 + x / 12)) (mpc N x r t) i s) := by
          show rlc _ _ (ckk i) _ = _
          rw [hck]
        have e : (swp (fun k => hoB T C k (8 + x / 12)) (mpc N x r t) (i + 1) s) = (swp (fun k => hoB T C k (8 + x / 12)) (mpc N x r t) i s) := e0.trans (if_pos (Or.inl c88))
        have k9 := ih (i + 1) (by omega)
        rw [e] at k9
        refine v_iinc (pc := 193) (v := nI (i + 1)) dX6_find_193 rfl (nI_1 _) (by decide) rfl ?_
        refine v_goto (pc := 196) (tgt := 50) dX6_find_196 (by decide) ?_
        refine v_sub ?_ k9
        exact ⟨rfl, rfl, rfl, rfl, rfl, rfl, rfl, trivial⟩
      · refine v_aload_nR (pc := 91) dX6_find_91 rfl rfl ?_
        refine v_iload (pc := 92) dX6_find_92 rfl ?_
        refine v_iload_n (pc := 94) dX6_find_94 rfl rfl ?_
        refine v_callV2 (pc := 95) (c_X6_bearsIt hps hsc hbc (by omega) (tOK_l hT (by omega)) (cOK01 hC _)) cm_X6_bearsIt q952 q954 qs30 (ci := 6) rfl rfl (orcO 0 rfl) [0, 1, 2, 3, 4, 5, 6, 7, 8, 9, 10, 11] (by rfl) (by decide) (fun _ _ h => h) (by decide) (by decide) (by decide) (Nat.le_of_ble_eq_true rfl) dX6_find_95 (fun v95 M95 hQ95 => ?_)
        obtain ⟨rfl, rfl⟩ := hQ95
        try dsimp only [wb, ModelM, List.set_cons_succ, List.set_cons_zero, List.append_nil, List.nil_append, List.cons_append, Option.toList, Nat.sub_zero]
        refine v_if_ne (pc := 98) (tgt := 104) dX6_find_98 (by decide) (fun c98 => ?_) (fun c98 => ?_)
        · have c98 := bI_n.mp c98
          refine v_iconst (pc := 104) (v := 0) dX6_find_104 rfl ?_
          refine v_istore (pc := 105) dX6_find_105 (by decide) rfl ?_
          have hck : ckk i = (319 - i) := by
            unfold ckk
            rw [if_neg (by omega)]
          have e0 : (swp (fun k => hoB T C k (8 + x / 12)) (mpc N x r t) (i + 1) s) = rlc (fun k => hoB T C k (8 + x / 12)) (mpc N x r t) (319 - i) (swp (fun k => hoB T C k (8 + x / 12)) (mpc N x r t) i s) := by
            show rlc _ _ (ckk i) _ = _
            rw [hck]
          have e : (swp (fun k => hoB T C k (8 + x / 12)) (mpc N x r t) (i + 1) s) = rl4 (mpc N x r t) (319 - i) 4 (swp (fun k => hoB T C k (8 + x / 12)) (mpc N x r t) i s) := e0.trans (if_neg (fun h => h.elim c88 (fun h2 => h2 c98)))
          refine v_sub (L' := [some (.ref (z 0)), some (.int (nI g)), some (.int x), some (.int r), some (.int t), some (.int (swp (fun k => hoB T C k (8 + x / 12)) (mpc N x r t) i s).2), some (.int (nI i)), some (.int (nI (319 - i))), some (.int (nI 0)), none]) ⟨rfl, rfl, rfl, rfl, rfl, rfl, rfl, rfl, rfl, trivial⟩ ?_
          refine lp_X6_side (H := H) hps hsc hbc (sz := sz) (k0 := i) (c := (319 - i)) (s := (swp (fun k => hoB T C k (8 + x / 12)) (mpc N x r t) i s)) hr hT hC (by omega) ?_ 4 0 (by omega)
          have k9 := ih (i + 1) (by omega)
          rw [e] at k9
          refine v_iinc (pc := 193) (v := nI (i + 1)) dX6_find_193 rfl (nI_1 _) (by decide) rfl ?_
          refine v_goto (pc := 196) (tgt := 50) dX6_find_196 (by decide) ?_
          refine v_sub ?_ k9
          exact ⟨rfl, rfl, rfl, rfl, rfl, rfl, rfl, trivial⟩
        · have c98 := bI_0.mp c98
          refine v_goto (pc := 101) (tgt := 193) dX6_find_101 (by decide) ?_
          have hck : ckk i = (319 - i) := by
            unfold ckk
            rw [if_neg (by omega)]
          have e0 : (swp (fun k => hoB T C k (8 + x / 12)) (mpc N x r t) (i + 1) s) = rlc (fun k => hoB T C k (8 + x / 12)) (mpc N x r t) (319 - i) (swp (fun k => hoB T C k (8 + x / 12)) (mpc N x r t) i s) := by
            show rlc _ _ (ckk i) _ = _
            rw [hck]
          have e : (swp (fun k => hoB T C k (8 + x / 12)) (mpc N x r t) (i + 1) s) = (swp (fun k => hoB T C k (8 + x / 12)) (mpc N x r t) i s) := e0.trans (if_pos (Or.inr c98))
          have k9 := ih (i + 1) (by omega)
          rw [e] at k9
          refine v_iinc (pc := 193) (v := nI (i + 1)) dX6_find_193 rfl (nI_1 _) (by decide) rfl ?_
          refine v_goto (pc := 196) (tgt := 50) dX6_find_196 (by decide) ?_
          refine v_sub ?_ k9
          exact ⟨rfl, rfl, rfl, rfl, rfl, rfl, rfl, trivial⟩
    · have c63 : ¬ 160 ≤ i := fun h => c63 ((nI_leI (a := 160) (b := i) (by omega) (by omega)).mpr h)
      refine v_iload (pc := 66) dX6_find_66 rfl ?_
      refine v_goto (pc := 68) (tgt := 77) dX6_find_68 (by decide) ?_
      refine v_istore (pc := 77) dX6_find_77 (by decide) rfl ?_
      refine v_aload_nR (pc := 79) dX6_find_79 rfl rfl ?_
      refine v_get (pc := 80) 13 0 fg_X6_37 rfl rfl dX6_find_80 ?_
      refine v_iload (pc := 83) dX6_find_83 rfl ?_
      refine v_ialdN (pc := 85) 10 (k := i) rfl (by omega) (by decide) dX6_find_85 ?_
      refine v_ldc (pc := 86) q951 dX6_find_86 ?_
      refine v_icmp_eq (pc := 88) (tgt := 193) dX6_find_88 (by decide) (fun c88 => ?_) (fun c88 => ?_)
      · have hck : ckk i = i := by
          unfold ckk
          rw [if_pos (by omega)]
        have e0 : (swp (fun k => hoB T C k (8 + x / 12)) (mpc N x r t) (i + 1) s) = rlc (fun k => hoB T C k (8 + x / 12)) (mpc N x r t) i (swp (fun k => hoB T C k (8 + x / 12)) (mpc N x r t) i s) := by
          show rlc _ _ (ckk i) _ = _
          rw [hck]
        have e : (swp (fun k => hoB T C k (8 + x / 12)) (mpc N x r t) (i + 1) s) = (swp (fun k => hoB T C k (8 + x / 12)) (mpc N x r t) i s) := e0.trans (if_pos (Or.inl c88))
        have k9 := ih (i + 1) (by omega)
        rw [e] at k9
        refine v_iinc (pc := 193) (v := nI (i + 1)) dX6_find_193 rfl (nI_1 _) (by decide) rfl ?_
        refine v_goto (pc := 196) (tgt := 50) dX6_find_196 (by decide) ?_
        refine v_sub ?_ k9
        exact ⟨rfl, rfl, rfl, rfl, rfl, rfl, rfl, trivial⟩
      · refine v_aload_nR (pc := 91) dX6_find_91 rfl rfl ?_
        refine v_iload (pc := 92) dX6_find_92 rfl ?_
        refine v_iload_n (pc := 94) dX6_find_94 rfl rfl ?_
        refine v_callV2 (pc := 95) (c_X6_bearsIt hps hsc hbc (by omega) (tOK_l hT (by omega)) (cOK01 hC _)) cm_X6_bearsIt q952 q954 qs30 (ci := 6) rfl rfl (orcO 0 rfl) [0, 1, 2, 3, 4, 5, 6, 7, 8, 9, 10, 11] (by rfl) (by decide) (fun _ _ h => h) (by decide) (by decide) (by decide) (Nat.le_of_ble_eq_true rfl) dX6_find_95 (fun v95 M95 hQ95 => ?_)
        obtain ⟨rfl, rfl⟩ := hQ95
        try dsimp only [wb, ModelM, List.set_cons_succ, List.set_cons_zero, List.append_nil, List.nil_append, List.cons_append, Option.toList, Nat.sub_zero]
        refine v_if_ne (pc := 98) (tgt := 104) dX6_find_98 (by decide) (fun c98 => ?_) (fun c98 => ?_)
        · have c98 := bI_n.mp c98
          refine v_iconst (pc := 104) (v := 0) dX6_find_104 rfl ?_
          refine v_istore (pc := 105) dX6_find_105 (by decide) rfl ?_
          have hck : ckk i = i := by
            unfold ckk
            rw [if_pos (by omega)]
          have e0 : (swp (fun k => hoB T C k (8 + x / 12)) (mpc N x r t) (i + 1) s) = rlc (fun k => hoB T C k (8 + x / 12)) (mpc N x r t) i (swp (fun k => hoB T C k (8 + x / 12)) (mpc N x r t) i s) := by
            show rlc _ _ (ckk i) _ = _
            rw [hck]
          have e : (swp (fun k => hoB T C k (8 + x / 12)) (mpc N x r t) (i + 1) s) = rl4 (mpc N x r t) i 4 (swp (fun k => hoB T C k (8 + x / 12)) (mpc N x r t) i s) := e0.trans (if_neg (fun h => h.elim c88 (fun h2 => h2 c98)))
          refine v_sub (L' := [some (.ref (z 0)), some (.int (nI g)), some (.int x), some (.int r), some (.int t), some (.int (swp (fun k => hoB T C k (8 + x / 12)) (mpc N x r t) i s).2), some (.int (nI i)), some (.int (nI i)), some (.int (nI 0)), none]) ⟨rfl, rfl, rfl, rfl, rfl, rfl, rfl, rfl, rfl, trivial⟩ ?_
          refine lp_X6_side (H := H) hps hsc hbc (sz := sz) (k0 := i) (c := i) (s := (swp (fun k => hoB T C k (8 + x / 12)) (mpc N x r t) i s)) hr hT hC (by omega) ?_ 4 0 (by omega)
          have k9 := ih (i + 1) (by omega)
          rw [e] at k9
          refine v_iinc (pc := 193) (v := nI (i + 1)) dX6_find_193 rfl (nI_1 _) (by decide) rfl ?_
          refine v_goto (pc := 196) (tgt := 50) dX6_find_196 (by decide) ?_
          refine v_sub ?_ k9
          exact ⟨rfl, rfl, rfl, rfl, rfl, rfl, rfl, trivial⟩
        · have c98 := bI_0.mp c98
          refine v_goto (pc := 101) (tgt := 193) dX6_find_101 (by decide) ?_
          have hck : ckk i = i := by
            unfold ckk
            rw [if_pos (by omega)]
          have e0 : (swp (fun k => hoB T C k (8 + x / 12)) (mpc N x r t) (i + 1) s) = rlc (fun k => hoB T C k (8 + x / 12)) (mpc N x r t) i (swp (fun k => hoB T C k (8 + x / 12)) (mpc N x r t) i s) := by
            show rlc _ _ (ckk i) _ = _
            rw [hck]
          have e : (swp (fun k => hoB T C k (8 + x / 12)) (mpc N x r t) (i + 1) s) = (swp (fun k => hoB T C k (8 + x / 12)) (mpc N x r t) i s) := e0.trans (if_pos (Or.inr c98))
          have k9 := ih (i + 1) (by omega)
          rw [e] at k9
          refine v_iinc (pc := 193) (v := nI (i + 1)) dX6_find_193 rfl (nI_1 _) (by decide) rfl ?_
          refine v_goto (pc := 196) (tgt := 50) dX6_find_196 (by decide) ?_
          refine v_sub ?_ k9
          exact ⟨rfl, rfl, rfl, rfl, rfl, rfl, rfl, trivial⟩
theorem sw_all {Q : Nat → Prop} (h : ∀ i, i < 320 → Q (ckk i)) : ∀ c, c < 160 → Q c := fun c hc => by
  have h1 := h c (by omega)
  have e : ckk c = c := if_pos hc
  rwa [e] at h1
set_option maxRecDepth 100000 in
set_option maxHeartbeats 4000000 in
theorem lp_X6_exit {G : Cx} {z : Nat → Nat} {th : Int32} {N O PC T S C : Nat → Int32} {ps sc bc hh : Nat} {SF BF : Nat → Nat → Int32} {MX H W : Nat → Int32} (hps : ps ≤ 8) (hsc : sc ≤ 5) (hbc : bc ≤ 40) {sz : Nat} {M0 : List ME} (hM0 : M0.length = 12) {x r t : Int32} {g : Nat} {cst : Nat → Nat} (hg : g < 160) (hr : 1 ≤ r.toInt ∧ r.toInt ≤ 6) (hT : tOK T) (hC : cOK C) (hP : ∀ j, j < 160 → (mpc N x r t) j = nI (cst j) ∧ 1 ≤ cst j ∧ cst j ≤ 43) {h : Nat → Int32} (J : Jh (fun k => hoB T C k (8 + x / 12)) cst g h) (hcl : ∀ c, c < 160 → clo (fun k => hoB T C k (8 + x / 12)) cst h c) : V G Y_X6_find (ZM G M0 sz (fun v M' => v = none ∧ ∃ h : Nat → Int32, FDs (fun k => hoB T C k (8 + x / 12)) cst g h ∧ M' = ModelM z th N O PC ps sc bc T S C SF MX BF hh h W) noX) 3 0 0 39 [some (.ref (z 0)), some (.int (nI g)), some (.int x), some (.int r), some (.int t), some (.int 0), none, none, none, none] [] (ModelM z th N O PC ps sc bc T S C SF MX BF hh h W) := by

  refine v_iload (pc := 39) dX6_find_39 rfl ?_
  refine v_if_eq (pc := 41) (tgt := 202) dX6_find_41 (by decide) (fun c41 => ?_) (fun c41 => absurd c41 (by decide))
  refine v_vret (pc := 202) rfl (by rw [hM0]; exact Nat.le_of_ble_eq_true rfl) dX6_find_202 ?_
  exact ⟨rfl, h, FDs.of hg hP J hcl, rfl⟩
set_option maxRecDepth 100000 in
set_option maxHeartbeats 4000000 in
theorem lp_X6_while {G : Cx} {z : Nat → Nat} {th : Int32} {N O PC T S C : Nat → Int32} {ps sc bc hh : Nat} {SF BF : Nat → Nat → Int32} {MX H W : Nat → Int32} (hps : ps ≤ 8) (hsc : sc ≤ 5) (hbc : bc ≤ 40) {sz : Nat} {M0 : List ME} (hM0 : M0.length = 12) {x r t : Int32} {g : Nat} {cst : Nat → Nat} (hg : g < 160) (hr : 1 ≤ r.toInt ∧ r.toInt ≤ 6) (hT : tOK T) (hC : cOK C) (hP : ∀ j, j < 160 → (mpc N x r t) j = nI (cst j) ∧ 1 ≤ cst j ∧ cst j ≤ 43) : ∀ (n : Nat) (h : Nat → Int32), meas h ≤ n → Jh (fun k => hoB T C k (8 + x / 12)) cst g h → V G Y_X6_find (ZM G M0 sz (fun v M' => v = none ∧ ∃ h : Nat → Int32, FDs (fun k => hoB T C k (8 + x / 12)) cst g h ∧ M' = ModelM z th N O PC ps sc bc T S C SF MX BF hh h W) noX) 3 0 0 39 [some (.ref (z 0)), some (.int (nI g)), some (.int x), some (.int r), some (.int t), some (.int 1), none, none, none, none] [] (ModelM z th N O PC ps sc bc T S C SF MX BF hh h W) := by
  intro n
  induction n with
  | zero =>
    intro h hm J
    refine v_iload (pc := 39) dX6_find_39 rfl ?_
    refine v_if_eq (pc := 41) (tgt := 202) dX6_find_41 (by decide) (fun c41 => absurd c41 (by decide)) (fun c41 => ?_)
    refine v_iconst (pc := 44) (v := 0) dX6_find_44 rfl ?_
    refine v_istore (pc := 45) dX6_find_45 (by decide) rfl ?_
    refine v_iconst (pc := 47) (v := 0) dX6_find_47 rfl ?_
    refine v_istore (pc := 48) dX6_find_48 (by decide) rfl ?_
    refine v_sub (L' := [some (.ref (z 0)), some (.int (nI g)), some (.int x), some (.int r), some (.int t), some (.int 0), some (.int (nI 0)), none, none, none]) ⟨rfl, rfl, rfl, rfl, rfl, rfl, rfl, trivial⟩ ?_
    refine lp_X6_sweep (H := H) hps hsc hbc (sz := sz) (s := (h, 0)) hr hT hC ?_ 320 0 (by omega)
    obtain ⟨a1, a2⟩ := swp_ps hP J 320 (Nat.le_refl _)
    rcases a2 with ⟨a3, a4⟩ | ⟨a3, a4⟩
    · rw [a3]
      exact lp_X6_exit (H := H) hps hsc hbc hM0 hg hr hT hC hP J (sw_all a4)
    · omega
  | succ n ih =>
    intro h hm J
    refine v_iload (pc := 39) dX6_find_39 rfl ?_
    refine v_if_eq (pc := 41) (tgt := 202) dX6_find_41 (by decide) (fun c41 => absurd c41 (by decide)) (fun c41 => ?_)
    refine v_iconst (pc := 44) (v := 0) dX6_find_44 rfl ?_
    refine v_istore (pc := 45) dX6_find_45 (by decide) rfl ?_
    refine v_iconst (pc := 47) (v := 0) dX6_find_47 rfl ?_
    refine v_istore (pc := 48) dX6_find_48 (by decide) rfl ?_
    refine v_sub (L' := [some (.ref (z 0)), some (.int (nI g)), some (.int x), some (.int r), some (.int t), some (.int 0), some (.int (nI 0)), none, none, none]) ⟨rfl, rfl, rfl, rfl, rfl, rfl, rfl, trivial⟩ ?_
    refine lp_X6_sweep (H := H) hps hsc hbc (sz := sz) (s := (h, 0)) hr hT hC ?_ 320 0 (by omega)
    obtain ⟨a1, a2⟩ := swp_ps hP J 320 (Nat.le_refl _)
    rcases a2 with ⟨a3, a4⟩ | ⟨a3, a4⟩
    · rw [a3]
      exact lp_X6_exit (H := H) hps hsc hbc hM0 hg hr hT hC hP J (sw_all a4)
    · rw [a3]
      exact ih _ (by omega) a1
set_option maxRecDepth 100000 in
set_option maxHeartbeats 4000000 in
theorem lp_X6_find0 {G : Cx} {z : Nat → Nat} {th : Int32} {N O PC T S C : Nat → Int32} {ps sc bc hh : Nat} {SF BF : Nat → Nat → Int32} {MX H W : Nat → Int32} (hps : ps ≤ 8) (hsc : sc ≤ 5) (hbc : bc ≤ 40) {sz : Nat} {M0 : List ME} (hM0 : M0.length = 12) {x r t : Int32} {g : Nat} {cst : Nat → Nat} (hg : g < 160) (hr : 1 ≤ r.toInt ∧ r.toInt ≤ 6) (hT : tOK T) (hC : cOK C) (hP : ∀ j, j < 160 → (mpc N x r t) j = nI (cst j) ∧ 1 ≤ cst j ∧ cst j ≤ 43) : ∀ (m i : Nat), m + i = 160 → V G Y_X6_find (ZM G M0 sz (fun v M' => v = none ∧ ∃ h : Nat → Int32, FDs (fun k => hoB T C k (8 + x / 12)) cst g h ∧ M' = ModelM z th N O PC ps sc bc T S C SF MX BF hh h W) noX) 3 0 0 3 [some (.ref (z 0)), some (.int (nI g)), some (.int x), some (.int r), some (.int t), some (.int (nI i)), none, none, none, none] [] (ModelM z th N O PC ps sc bc T S C SF MX BF hh (fillU (fun c => if c = g then 0 else 1000000) H i) W) := by
  intro m
  induction m with
  | zero =>
    intro i hi
    obtain rfl : i = 160 := by omega
    refine v_iload (pc := 3) dX6_find_3 rfl ?_
    refine v_sipush (pc := 5) (v := 160) dX6_find_5 rfl ?_
    refine v_icmp_ge (pc := 8) (tgt := 36) dX6_find_8 (by decide) (fun c8 => ?_) (fun c8 => absurd (nI_le (a := 160) (b := 160) (Nat.le_refl _) (by decide)) c8)
    have c8 : 160 ≤ 160 := (nI_leI (a := 160) (b := 160) (by omega) (by omega)).mp c8
    refine v_iconst (pc := 36) (v := 1) dX6_find_36 rfl ?_
    refine v_istore (pc := 37) dX6_find_37 (by decide) rfl ?_
    refine v_sub (L' := [some (.ref (z 0)), some (.int (nI g)), some (.int x), some (.int r), some (.int t), some (.int 1), none, none, none, none]) ⟨rfl, rfl, rfl, rfl, rfl, rfl, trivial⟩ ?_
    refine lp_X6_while (H := H) hps hsc hbc hM0 hg hr hT hC hP _ _ (Nat.le_refl _) ⟨fun c hc => ?_, ?_⟩
    · rw [fillU_in hc]
      by_cases hcg : c = g
      · subst hcg
        exact ⟨0, if_pos rfl, by omega, fun _ => ⟨0, rfl, rfl⟩⟩
      · exact ⟨1000000, if_neg hcg, Nat.le_refl _, fun h => absurd h (Nat.lt_irrefl _)⟩
    · rw [fillU_in hg]
      exact if_pos rfl
  | succ m ih =>
    intro i hi
    refine v_iload (pc := 3) dX6_find_3 rfl ?_
    refine v_sipush (pc := 5) (v := 160) dX6_find_5 rfl ?_
    refine v_icmp_ge (pc := 8) (tgt := 36) dX6_find_8 (by decide) (fun c8 => absurd c8 (nI_ge (a := i) (b := 160) (by omega) (by decide))) (fun c8 => ?_)
    have c8 : ¬ 160 ≤ i := fun h => c8 ((nI_leI (a := 160) (b := i) (by omega) (by omega)).mpr h)
    refine v_aload_nR (pc := 11) dX6_find_11 rfl rfl ?_
    refine v_get (pc := 12) 13 0 fg_X6_37 rfl rfl dX6_find_12 ?_
    refine v_iload (pc := 15) dX6_find_15 rfl ?_
    refine v_iload (pc := 17) dX6_find_17 rfl ?_
    refine v_iload_n (pc := 19) dX6_find_19 rfl rfl ?_
    refine v_icmp_ne (pc := 20) (tgt := 27) dX6_find_20 (by decide) (fun c20 => ?_) (fun c20 => ?_)
    · have c20 : ¬ i = g := fun h => c20 ((nI_eq (a := i) (b := g) (by omega) (by omega)).mpr h)
      refine v_ldc (pc := 27) q951 dX6_find_27 ?_
      refine v_iastN (pc := 29) 10 (k := i) rfl (by omega) (by decide) dX6_find_29 ?_
      try dsimp only [wb, ModelM, List.set_cons_succ, List.set_cons_zero, List.append_nil, List.nil_append, List.cons_append, Option.toList, Nat.sub_zero]
      refine v_iinc (pc := 30) (v := nI (i + 1)) dX6_find_30 rfl (nI_1 _) (by decide) rfl ?_
      refine v_goto (pc := 33) (tgt := 3) dX6_find_33 (by decide) ?_
      refine v_cgI 10 (g := fillU (fun c => if c = g then 0 else 1000000) H (i + 1)) rfl (fill_step ((if_neg c20).symm)) ?_
      exact ih (i + 1) (by omega)
    · have c20 : i = g := (nI_eq (a := i) (b := g) (by omega) (by omega)).mp c20
      refine v_iconst (pc := 23) (v := 0) dX6_find_23 rfl ?_
      refine v_goto (pc := 24) (tgt := 29) dX6_find_24 (by decide) ?_
      refine v_iastN (pc := 29) 10 (k := i) rfl (by omega) (by decide) dX6_find_29 ?_
      try dsimp only [wb, ModelM, List.set_cons_succ, List.set_cons_zero, List.append_nil, List.nil_append, List.cons_append, Option.toList, Nat.sub_zero]
      refine v_iinc (pc := 30) (v := nI (i + 1)) dX6_find_30 rfl (nI_1 _) (by decide) rfl ?_
      refine v_goto (pc := 33) (tgt := 3) dX6_find_33 (by decide) ?_
      refine v_cgI 10 (g := fillU (fun c => if c = g then 0 else 1000000) H (i + 1)) rfl (fill_step ((if_pos c20).symm)) ?_
      exact ih (i + 1) (by omega)
set_option maxRecDepth 100000 in
set_option maxHeartbeats 4000000 in
theorem c_X6_find {G : Cx} {z : Nat → Nat} {th : Int32} {N O PC T S C : Nat → Int32} {ps sc bc hh : Nat} {SF BF : Nat → Nat → Int32} {MX H W : Nat → Int32} (hps : ps ≤ 8) (hsc : sc ≤ 5) (hbc : bc ≤ 40) {x r t : Int32} {g : Nat} {cst : Nat → Nat} (hg : g < 160) (hr : 1 ≤ r.toInt ∧ r.toInt ≤ 6) (hT : tOK T) (hC : cOK C) (hP : ∀ j, j < 160 → (mpc N x r t) j = nI (cst j) ∧ 1 ≤ cst j ∧ cst j ≤ 43) : Mt G Y_X6_find 3 0 0 [.ref (z 0), .int (nI g), .int x, .int r, .int t] (ModelM z th N O PC ps sc bc T S C SF MX BF hh H W) (fun v M' => v = none ∧ ∃ h : Nat → Int32, FDs (fun k => hoB T C k (8 + x / 12)) cst g h ∧ M' = ModelM z th N O PC ps sc bc T S C SF MX BF hh h W) noX := by
  refine Mt.of (L := [some (.ref (z 0)), some (.int (nI g)), some (.int x), some (.int r), some (.int t), none, none, none, none, none]) rfl (by decide) (by simp [lg_sl, Value.category]) ⟨rfl, rfl, rfl, rfl, rfl, trivial⟩ (fun sz => ?_)
  refine v_iconst (pc := 0) (v := 0) dX6_find_0 rfl ?_
  refine v_istore (pc := 1) dX6_find_1 (by decide) rfl ?_
  refine v_sub (L' := [some (.ref (z 0)), some (.int (nI g)), some (.int x), some (.int r), some (.int t), some (.int (nI 0)), none, none, none, none]) ⟨rfl, rfl, rfl, rfl, rfl, rfl, trivial⟩ ?_
  exact lp_X6_find0 hps hsc hbc rfl hg hr hT hC hP 160 0 (by omega)
