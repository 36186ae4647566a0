/-! the law's own model: frost -/
def sTK (S : Nat → Int32) : Prop := ∀ k, k < 160 → 0 ≤ (S k).toInt ∧ (S k).toInt ≤ 9
theorem s2_iff {s : Int32} (h : 0 ≤ s.toInt ∧ s.toInt ≤ 9) : s ≤ 2 ↔ ¬ 0 < s - 2 := by
  have e2 : (2 : Int32).toInt = 2 := by decide
  have e : (s - 2).toInt = s.toInt - 2 := by
    rw [fb_subI (by rw [e2]; omega) (by rw [e2]; omega), e2]
  rw [i_le, i_lt, e, e2, i_0]
  omega
theorem t3_val {f : Int32} (hf : -9 ≤ f.toInt ∧ f.toInt ≤ 9) : (3 * f).toInt = 3 * f.toInt ∧ (-3 * f).toInt = -3 * f.toInt := by
  have e3 : (3 : Int32).toInt = 3 := by decide
  have em : (-3 : Int32).toInt = -3 := by decide
  constructor
  · rw [fb_mulI (by rw [e3]; omega) (by rw [e3]; omega), e3]
  · rw [fb_mulI (by rw [em]; omega) (by rw [em]; omega), em]
theorem t3_iff {t f : Int32} (ht : 0 ≤ t.toInt ∧ t.toInt ≤ 200) (hf : -9 ≤ f.toInt ∧ f.toInt ≤ 9) : t ≤ -3 * f ↔ ¬ 0 < t + 3 * f := by
  obtain ⟨e1, e2⟩ := t3_val hf
  have e : (t + 3 * f).toInt = t.toInt + 3 * f.toInt := by
    rw [fb_addI (by rw [e1]; omega) (by rw [e1]; omega), e1]
  rw [i_le, i_lt, e, e2, i_0]
  omega
/-- a crack beside, among the first n cells -/
def acB (C : Nat → Int32) (c : Nat) : Nat → Bool
  | 0 => false
  | n + 1 => acB C c n || (adj c n && !decide (C n = 0))
def crK (C : Nat → Int32) (c n : Nat) : Int32 := if acB C c n = true then 1 else C c
theorem acB_iff {C : Nat → Int32} {c : Nat} : ∀ n, acB C c n = true ↔ ∃ o, o < n ∧ adj c o = true ∧ ¬ C o = 0
  | 0 => ⟨fun h => Bool.noConfusion h, fun ⟨o, h, _⟩ => absurd h (Nat.not_lt_zero o)⟩
  | n + 1 => by
    unfold acB
    rw [Bool.or_eq_true, Bool.and_eq_true, acB_iff n]
    constructor
    · rintro (⟨o, h1, h2⟩ | ⟨h1, h2⟩)
      · exact ⟨o, by omega, h2⟩
      · exact ⟨n, Nat.lt_succ_self n, h1, by simpa using h2⟩
    · rintro ⟨o, h1, h2, h3⟩
      by_cases e : o = n
      · subst e
        exact Or.inr ⟨h2, by simpa using h3⟩
      · exact Or.inl ⟨o, by omega, h2, h3⟩
theorem adj_nbr {a b : Nat} : adj a b = true ↔ ∃ i, i < 4 ∧ nbr a i = some b := by
  unfold adj
  simp only [Bool.or_eq_true, decide_eq_true_eq, or_assoc]
  constructor
  · rintro (h | h | h | h)
    · exact ⟨0, by decide, h⟩
    · exact ⟨1, by decide, h⟩
    · exact ⟨2, by decide, h⟩
    · exact ⟨3, by decide, h⟩
  · rintro ⟨i, hi, h⟩
    rcases (show i = 0 ∨ i = 1 ∨ i = 2 ∨ i = 3 by omega) with rfl | rfl | rfl | rfl
    · exact Or.inl h
    · exact Or.inr (Or.inl h)
    · exact Or.inr (Or.inr (Or.inl h))
    · exact Or.inr (Or.inr (Or.inr h))
theorem wcb_iff {C : Nat → Int32} {c : Nat} : ∀ n, wcb C c n = true ↔ ∃ i o, i < n ∧ nbr c i = some o ∧ ¬ C o = 0
  | 0 => ⟨fun h => Bool.noConfusion h, fun ⟨i, _, h, _⟩ => absurd h (Nat.not_lt_zero i)⟩
  | n + 1 => by
    have e : wcb C c (n + 1) = (wcb C c n || (match nbr c n with | some j => !(decide (C j = 0)) | none => false)) := rfl
    rw [e, Bool.or_eq_true, wcb_iff n]
    constructor
    · rintro (⟨i, o, h1, h2⟩ | h)
      · exact ⟨i, o, by omega, h2⟩
      · cases hn : nbr c n with
        | none => rw [hn] at h; exact Bool.noConfusion h
        | some j =>
          rw [hn] at h
          exact ⟨n, j, Nat.lt_succ_self n, hn, by simpa using h⟩
    · rintro ⟨i, o, h1, h2, h3⟩
      by_cases e : i = n
      · subst e
        right
        rw [h2]
        simpa using h3
      · exact Or.inl ⟨i, o, by omega, h2, h3⟩
theorem ac_wcb {C : Nat → Int32} {c : Nat} (hc : c < 160) : acB C c 160 = true ↔ wcb C c 4 = true := by
  rw [acB_iff, wcb_iff]
  constructor
  · rintro ⟨o, -, h2, h3⟩
    obtain ⟨i, h4, h5⟩ := adj_nbr.mp h2
    exact ⟨i, o, h4, h5, h3⟩
  · rintro ⟨i, o, h1, h2, h3⟩
    exact ⟨o, nbr_lt hc h2, adj_nbr.mpr ⟨i, h1, h2⟩, h3⟩
theorem crK_spC {T S C : Nat → Int32} {c : Nat} (hc : c < 160) (hT : ¬ T c < 0) (hS : ¬ S c ≤ 0) : crK C c 160 = spC T S C c := by
  have h1 : 1 ≤ S c := by
    rw [i_le] at hS ⊢
    rw [i_0] at hS
    rw [i_1]
    omega
  unfold crK spC
  by_cases h : wcb C c 4 = true
  · rw [if_pos ((ac_wcb hc).mpr h), if_pos ⟨hT, h1, h⟩]
  · rw [if_neg (fun q => h ((ac_wcb hc).mp q)), if_neg (fun q => h q.2.2)]
theorem spC_0 {T S C : Nat → Int32} {c : Nat} (hS : S c ≤ 0) : spC T S C c = C c := by
  unfold spC
  rw [if_neg]
  intro q
  have h2 := q.2.1
  rw [i_le] at h2 hS
  rw [i_1] at h2
  rw [i_0] at hS
  omega
theorem spC_n {T S C : Nat → Int32} {c : Nat} (hT : T c < 0) : spC T S C c = C c := if_neg (fun q => q.1 hT)
set_option maxRecDepth 100000 in
set_option maxHeartbeats 4000000 in
theorem lp_X6_fro {G : Cx} {v xs bs : Nat → Nat} {hh : Nat} {T N S C O PC : Nat → Int32} {ps sc bc : Nat} {SF : Nat → Nat → Int32} {MX : Nat → Int32} {BF : Nat → Nat → Int32} {H D : Nat → Int32} (hps : ps ≤ 8) (hsc : sc ≤ 5) (hbc : bc ≤ 40) {sz : Nat} {Z : ZT} {z9 : Nat} {f : Int32} {CC : Nat → Int32} {c : Nat} (hc : c < 160) (hS : ¬ S c ≤ 0) (K : V G Y_X6_frost Z 4 0 0 189 [some (.ref (v 0)), some (.int f), some (.ref z9), some (.int (nI c)), none] [] ((SimM v xs bs hh T N S (upd CC c (crK C c 160)) O PC ps sc bc SF MX BF H D ++ [eZ z9 160 C]))) : ∀ (m i : Nat), m + i = 160 → V G Y_X6_frost Z 4 0 0 143 [some (.ref (v 0)), some (.int f), some (.ref z9), some (.int (nI c)), some (.int (nI i))] [] ((SimM v xs bs hh T N S (upd CC c (crK C c i)) O PC ps sc bc SF MX BF H D ++ [eZ z9 160 C])) := by
  intro m
  induction m with
  | zero =>
    intro i hi
    obtain rfl : i = 160 := by omega
    refine v_iload (pc := 143) dX6_frost_143 rfl ?_
    refine v_sipush (pc := 145) (v := 160) dX6_frost_145 rfl ?_
    refine v_icmp_ge (pc := 148) (tgt := 189) dX6_frost_148 (by decide) (fun c148 => ?_) (fun c148 => absurd (nI_le (a := 160) (b := 160) (Nat.le_refl _) (by decide)) c148)
    have c148 : 160 ≤ 160 := (nI_leI (a := 160) (b := 160) (by omega) (by omega)).mp c148
    refine v_sub ?_ K
    exact ⟨rfl, rfl, rfl, rfl, trivial⟩
  | succ m ih =>
    intro i hi
    refine v_iload (pc := 143) dX6_frost_143 rfl ?_
    refine v_sipush (pc := 145) (v := 160) dX6_frost_145 rfl ?_
    refine v_icmp_ge (pc := 148) (tgt := 189) dX6_frost_148 (by decide) (fun c148 => absurd c148 (nI_ge (a := i) (b := 160) (by omega) (by decide))) (fun c148 => ?_)
    have c148 : ¬ 160 ≤ i := fun h => c148 ((nI_leI (a := 160) (b := i) (by omega) (by omega)).mpr h)
    refine v_aload_nR (pc := 151) dX6_frost_151 rfl rfl ?_
    refine v_get (pc := 152) 3 0 fg_X6_16 rfl rfl dX6_frost_152 ?_
    refine v_iload_n (pc := 155) dX6_frost_155 rfl rfl ?_
    refine v_ialdN (pc := 156) 3 (k := c) rfl (by omega) (by omega) dX6_frost_156 ?_
    refine v_if_le (pc := 157) (tgt := 189) dX6_frost_157 (by decide) (fun c157 => absurd c157 hS) (fun c157 => ?_)
    refine v_aload_nR (pc := 160) dX6_frost_160 rfl rfl ?_
    refine v_iload (pc := 161) dX6_frost_161 rfl ?_
    refine v_zaldN (pc := 163) 13 (k := i) rfl (by omega) (by omega) dX6_frost_163 ?_
    refine v_if_eq (pc := 164) (tgt := 183) dX6_frost_164 (by decide) (fun c164 => ?_) (fun c164 => ?_)
    · refine v_iinc (pc := 183) (v := nI (i + 1)) dX6_frost_183 rfl (nI_1 _) (by decide) rfl ?_
      refine v_goto (pc := 186) (tgt := 143) dX6_frost_186 (by decide) ?_
      have e : crK C c (i + 1) = crK C c i := by
        unfold crK
        refine ifc ⟨fun h => ?_, fun h => ?_⟩
        · obtain ⟨o, h1, h2, h3⟩ := (acB_iff _).mp h
          refine (acB_iff _).mpr ⟨o, Nat.lt_of_le_of_ne (Nat.le_of_lt_succ h1) (fun e9 => ?_), h2, h3⟩
          subst e9
          exact h3 c164
        · obtain ⟨o, h1, h2⟩ := (acB_iff _).mp h
          exact (acB_iff _).mpr ⟨o, by omega, h2⟩
      have k9 := ih (i + 1) (by omega)
      rw [e] at k9
      exact k9
    · refine v_iload_n (pc := 167) dX6_frost_167 rfl rfl ?_
      refine v_iload (pc := 168) dX6_frost_168 rfl ?_
      refine v_callS2 (pc := 170) (c_X6_areBeside hc (by omega)) cm_X6_areBeside q593 q572 [] (by rfl) (by decide) (fun _ _ h => h) (by decide) (by decide) (by decide) (Nat.le_of_ble_eq_true rfl) dX6_frost_170 (fun v170 M170 hQ170 => ?_)
      obtain ⟨rfl, rfl⟩ := hQ170
      try dsimp only [wb, SimM, List.set_cons_succ, List.set_cons_zero, List.append_nil, List.nil_append, List.cons_append, Option.toList, Nat.sub_zero]
      refine v_if_eq (pc := 173) (tgt := 183) dX6_frost_173 (by decide) (fun c173 => ?_) (fun c173 => ?_)
      · have c173 := bI_0.mp c173
        refine v_iinc (pc := 183) (v := nI (i + 1)) dX6_frost_183 rfl (nI_1 _) (by decide) rfl ?_
        refine v_goto (pc := 186) (tgt := 143) dX6_frost_186 (by decide) ?_
        have e : crK C c (i + 1) = crK C c i := by
          unfold crK
          refine ifc ⟨fun h => ?_, fun h => ?_⟩
          · obtain ⟨o, h1, h2, h3⟩ := (acB_iff _).mp h
            refine (acB_iff _).mpr ⟨o, Nat.lt_of_le_of_ne (Nat.le_of_lt_succ h1) (fun e9 => ?_), h2, h3⟩
            subst e9
            exact c173 h2
          · obtain ⟨o, h1, h2⟩ := (acB_iff _).mp h
            exact (acB_iff _).mpr ⟨o, by omega, h2⟩
        have k9 := ih (i + 1) (by omega)
        rw [e] at k9
        exact k9
      · have c173 := bI_n.mp c173
        refine v_aload_nR (pc := 176) dX6_frost_176 rfl rfl ?_
        refine v_get (pc := 177) 4 0 fg_X6_19 rfl rfl dX6_frost_177 ?_
        refine v_iload_n (pc := 180) dX6_frost_180 rfl rfl ?_
        refine v_iconst (pc := 181) (v := 1) dX6_frost_181 rfl ?_
        refine v_zastN (pc := 182) 4 (k := c) rfl (by omega) (by omega) rfl dX6_frost_182 ?_
        try dsimp only [wb, SimM, List.set_cons_succ, List.set_cons_zero, List.append_nil, List.nil_append, List.cons_append, Option.toList, Nat.sub_zero]
        refine v_iinc (pc := 183) (v := nI (i + 1)) dX6_frost_183 rfl (nI_1 _) (by decide) rfl ?_
        refine v_goto (pc := 186) (tgt := 143) dX6_frost_186 (by decide) ?_
        have e : crK C c (i + 1) = 1 := if_pos ((acB_iff _).mpr ⟨i, Nat.lt_succ_self i, c173, c164⟩)
        have k9 := ih (i + 1) (by omega)
        rw [e] at k9
        rw [fa_upd_twice]
        exact k9
set_option maxRecDepth 100000 in
set_option maxHeartbeats 4000000 in
theorem lp_X6_frostP {G : Cx} {v xs bs : Nat → Nat} {hh : Nat} {T N S C O PC : Nat → Int32} {ps sc bc : Nat} {SF : Nat → Nat → Int32} {MX : Nat → Int32} {BF : Nat → Nat → Int32} {H D : Nat → Int32} (hps : ps ≤ 8) (hsc : sc ≤ 5) (hbc : bc ≤ 40) {sz : Nat} {Z : ZT} {z9 : Nat} {f : Int32} (ht : ∀ {k : Nat}, k < 160 → ¬ T k < 0 → 0 ≤ (T k).toInt ∧ (T k).toInt ≤ 200) (hS : sTK S) (hf : 0 < f) (K : V G Y_X6_frost Z 4 0 0 195 [some (.ref (v 0)), some (.int f), some (.ref z9), some (.int (nI 160)), none] [] ((SimM v xs bs hh (fillU (fzT f T) T 160) N (fillU (fzS T S) S 160) C O PC ps sc bc SF MX BF H D ++ [eZ z9 160 C]))) : ∀ (m i : Nat), m + i = 160 → V G Y_X6_frost Z 4 0 0 13 [some (.ref (v 0)), some (.int f), some (.ref z9), some (.int (nI i)), none] [] ((SimM v xs bs hh (fillU (fzT f T) T i) N (fillU (fzS T S) S i) C O PC ps sc bc SF MX BF H D ++ [eZ z9 160 C])) := by
  intro m
  induction m with
  | zero =>
    intro i hi
    obtain rfl : i = 160 := by omega
    refine v_iload_n (pc := 13) dX6_frost_13 rfl rfl ?_
    refine v_sipush (pc := 14) (v := 160) dX6_frost_14 rfl ?_
    refine v_icmp_ge (pc := 17) (tgt := 195) dX6_frost_17 (by decide) (fun c17 => ?_) (fun c17 => absurd (nI_le (a := 160) (b := 160) (Nat.le_refl _) (by decide)) c17)
    have c17 : 160 ≤ 160 := (nI_leI (a := 160) (b := 160) (by omega) (by omega)).mp c17
    exact K
  | succ m ih =>
    intro i hi
    have eT : fillU (fzT f T) T i i = T i := fillU_out (Nat.lt_irrefl i)
    have eS : fillU (fzS T S) S i i = S i := fillU_out (Nat.lt_irrefl i)
    refine v_iload_n (pc := 13) dX6_frost_13 rfl rfl ?_
    refine v_sipush (pc := 14) (v := 160) dX6_frost_14 rfl ?_
    refine v_icmp_ge (pc := 17) (tgt := 195) dX6_frost_17 (by decide) (fun c17 => absurd c17 (nI_ge (a := i) (b := 160) (by omega) (by decide))) (fun c17 => ?_)
    have c17 : ¬ 160 ≤ i := fun h => c17 ((nI_leI (a := 160) (b := i) (by omega) (by omega)).mpr h)
    refine v_aload_nR (pc := 20) dX6_frost_20 rfl rfl ?_
    refine v_get (pc := 21) 1 0 fg_X6_7 rfl rfl dX6_frost_21 ?_
    refine v_iload_n (pc := 24) dX6_frost_24 rfl rfl ?_
    refine v_ialdN (pc := 25) 1 (k := i) rfl (by omega) (by omega) dX6_frost_25 ?_
    rw [eT]
    refine v_if_ge (pc := 26) (tgt := 32) dX6_frost_26 (by decide) (fun c26 => ?_) (fun c26 => ?_)
    · have hneg : ¬ T i < 0 := Int32.not_lt.mpr c26
      refine v_iload_n (pc := 32) dX6_frost_32 rfl rfl ?_
      refine v_if_le (pc := 33) (tgt := 100) dX6_frost_33 (by decide) (fun c33 => absurd hf (Int32.not_lt.mpr c33)) (fun c33 => ?_)
      refine v_aload_nR (pc := 36) dX6_frost_36 rfl rfl ?_
      refine v_get (pc := 37) 1 0 fg_X6_7 rfl rfl dX6_frost_37 ?_
      refine v_iload_n (pc := 40) dX6_frost_40 rfl rfl ?_
      refine v_sipush (pc := 41) (v := 200) dX6_frost_41 rfl ?_
      refine v_aload_nR (pc := 44) dX6_frost_44 rfl rfl ?_
      refine v_get (pc := 45) 1 0 fg_X6_7 rfl rfl dX6_frost_45 ?_
      refine v_iload_n (pc := 48) dX6_frost_48 rfl rfl ?_
      refine v_ialdN (pc := 49) 1 (k := i) rfl (by omega) (by omega) dX6_frost_49 ?_
      rw [eT]
      refine v_bipush (pc := 50) (v := 12) dX6_frost_50 rfl ?_
      refine v_iload_n (pc := 52) dX6_frost_52 rfl rfl ?_
      refine v_imul (pc := 53) dX6_frost_53 ?_
      rw [Int32.mul_comm 12 f]
      refine v_bipush (pc := 54) (v := 6) dX6_frost_54 rfl ?_
      refine v_aload_nR (pc := 56) dX6_frost_56 rfl rfl ?_
      refine v_get (pc := 57) 1 0 fg_X6_7 rfl rfl dX6_frost_57 ?_
      refine v_iload_n (pc := 60) dX6_frost_60 rfl rfl ?_
      refine v_ialdN (pc := 61) 1 (k := i) rfl (by omega) (by omega) dX6_frost_61 ?_
      rw [eT]
      refine v_bipush (pc := 62) (v := 10) dX6_frost_62 rfl ?_
      refine v_idiv (pc := 64) dX6_frost_64 (by decide) ?_
      refine v_iadd (pc := 65) dX6_frost_65 ?_
      refine v_idiv (pc := 66) dX6_frost_66 (div10_ne hneg) ?_
      refine v_iadd (pc := 67) dX6_frost_67 ?_
      refine v_mmin (pc := 68) q592 q403 q15 q404 (by decide) (Nat.le_of_ble_eq_true rfl) dX6_frost_68 ?_
      refine v_iastN (pc := 71) 1 (k := i) rfl (by omega) (by omega) dX6_frost_71 ?_
      try dsimp only [wb, SimM, List.set_cons_succ, List.set_cons_zero, List.append_nil, List.nil_append, List.cons_append, Option.toList, Nat.sub_zero]
      refine v_aload_nR (pc := 72) dX6_frost_72 rfl rfl ?_
      refine v_get (pc := 73) 3 0 fg_X6_16 rfl rfl dX6_frost_73 ?_
      refine v_iload_n (pc := 76) dX6_frost_76 rfl rfl ?_
      refine v_aload_nR (pc := 77) dX6_frost_77 rfl rfl ?_
      refine v_get (pc := 78) 3 0 fg_X6_16 rfl rfl dX6_frost_78 ?_
      refine v_iload_n (pc := 81) dX6_frost_81 rfl rfl ?_
      refine v_ialdN (pc := 82) 3 (k := i) rfl (by omega) (by omega) dX6_frost_82 ?_
      rw [eS]
      refine v_iconst (pc := 83) (v := 2) dX6_frost_83 rfl ?_
      refine v_icmp_le (pc := 84) (tgt := 98) dX6_frost_84 (by decide) (fun c84 => ?_) (fun c84 => ?_)
      · refine v_iconst (pc := 98) (v := 0) dX6_frost_98 rfl ?_
        refine v_iastN (pc := 99) 3 (k := i) rfl (by omega) (by omega) dX6_frost_99 ?_
        try dsimp only [wb, SimM, List.set_cons_succ, List.set_cons_zero, List.append_nil, List.nil_append, List.cons_append, Option.toList, Nat.sub_zero]
        refine v_iload_n (pc := 100) dX6_frost_100 rfl rfl ?_
        refine v_if_lt (pc := 101) (tgt := 107) dX6_frost_101 (by decide) (fun c101 => absurd c101 (fa_of_lt hf).2.2.1) (fun c101 => ?_)
        refine v_goto (pc := 104) (tgt := 189) dX6_frost_104 (by decide) ?_
        refine v_iinc (pc := 189) (v := nI (i + 1)) dX6_frost_189 rfl (nI_1 _) (by decide) rfl ?_
        refine v_goto (pc := 192) (tgt := 13) dX6_frost_192 (by decide) ?_
        refine v_cgI 1 (g := fillU (fzT f T) T (i + 1)) rfl (fill_step (by unfold fzT; rw [if_neg hneg])) ?_
        refine v_cgI 3 (g := fillU (fzS T S) S (i + 1)) rfl (fill_step (by unfold fzS; rw [if_neg hneg, if_neg ((s2_iff (hS i (by omega))).mp c84)])) ?_
        try dsimp only [wb, SimM, List.set_cons_succ, List.set_cons_zero, List.append_nil, List.nil_append, List.cons_append, Option.toList, Nat.sub_zero]
        exact ih (i + 1) (by omega)
      · refine v_aload_nR (pc := 87) dX6_frost_87 rfl rfl ?_
        refine v_get (pc := 88) 3 0 fg_X6_16 rfl rfl dX6_frost_88 ?_
        refine v_iload_n (pc := 91) dX6_frost_91 rfl rfl ?_
        refine v_ialdN (pc := 92) 3 (k := i) rfl (by omega) (by omega) dX6_frost_92 ?_
        rw [eS]
        refine v_iconst (pc := 93) (v := 2) dX6_frost_93 rfl ?_
        refine v_isub (pc := 94) dX6_frost_94 ?_
        refine v_goto (pc := 95) (tgt := 99) dX6_frost_95 (by decide) ?_
        refine v_iastN (pc := 99) 3 (k := i) rfl (by omega) (by omega) dX6_frost_99 ?_
        try dsimp only [wb, SimM, List.set_cons_succ, List.set_cons_zero, List.append_nil, List.nil_append, List.cons_append, Option.toList, Nat.sub_zero]
        refine v_iload_n (pc := 100) dX6_frost_100 rfl rfl ?_
        refine v_if_lt (pc := 101) (tgt := 107) dX6_frost_101 (by decide) (fun c101 => absurd c101 (fa_of_lt hf).2.2.1) (fun c101 => ?_)
        refine v_goto (pc := 104) (tgt := 189) dX6_frost_104 (by decide) ?_
        refine v_iinc (pc := 189) (v := nI (i + 1)) dX6_frost_189 rfl (nI_1 _) (by decide) rfl ?_
        refine v_goto (pc := 192) (tgt := 13) dX6_frost_192 (by decide) ?_
        refine v_cgI 1 (g := fillU (fzT f T) T (i + 1)) rfl (fill_step (by unfold fzT; rw [if_neg hneg])) ?_
        refine v_cgI 3 (g := fillU (fzS T S) S (i + 1)) rfl (fill_step (by unfold fzS; rw [if_neg hneg, if_pos (Classical.byContradiction fun q => c84 ((s2_iff (hS i (by omega))).mpr q))])) ?_
        try dsimp only [wb, SimM, List.set_cons_succ, List.set_cons_zero, List.append_nil, List.nil_append, List.cons_append, Option.toList, Nat.sub_zero]
        exact ih (i + 1) (by omega)
    · refine v_goto (pc := 29) (tgt := 189) dX6_frost_29 (by decide) ?_
      refine v_iinc (pc := 189) (v := nI (i + 1)) dX6_frost_189 rfl (nI_1 _) (by decide) rfl ?_
      refine v_goto (pc := 192) (tgt := 13) dX6_frost_192 (by decide) ?_
      have hneg : T i < 0 := Int32.not_le.mp c26
      have e1 : fillU (fzT f T) T i = fillU (fzT f T) T (i + 1) := fillU_k _ _ _ (by unfold fzT; rw [if_pos hneg])
      have e2 : fillU (fzS T S) S i = fillU (fzS T S) S (i + 1) := fillU_k _ _ _ (by unfold fzS; rw [if_pos hneg])
      rw [e1, e2]
      exact ih (i + 1) (by omega)
set_option maxRecDepth 100000 in
set_option maxHeartbeats 4000000 in
theorem lp_X6_frostN {G : Cx} {v xs bs : Nat → Nat} {hh : Nat} {T N S C O PC : Nat → Int32} {ps sc bc : Nat} {SF : Nat → Nat → Int32} {MX : Nat → Int32} {BF : Nat → Nat → Int32} {H D : Nat → Int32} (hps : ps ≤ 8) (hsc : sc ≤ 5) (hbc : bc ≤ 40) {sz : Nat} {Z : ZT} {z9 : Nat} {f : Int32} (ht : ∀ {k : Nat}, k < 160 → ¬ T k < 0 → 0 ≤ (T k).toInt ∧ (T k).toInt ≤ 200) (hf : f < 0) (hfb : -9 ≤ f.toInt ∧ f.toInt ≤ 9) (hd : ∀ j, j < 160 → (dT f T j < 0 ↔ T j < 0)) (K : V G Y_X6_frost Z 4 0 0 195 [some (.ref (v 0)), some (.int f), some (.ref z9), some (.int (nI 160)), none] [] ((SimM v xs bs hh (fillU (thT (-f) T) T 160) N S (fillU (spC (dT f T) S C) C 160) O PC ps sc bc SF MX BF H D ++ [eZ z9 160 C]))) : ∀ (m i : Nat), m + i = 160 → V G Y_X6_frost Z 4 0 0 13 [some (.ref (v 0)), some (.int f), some (.ref z9), some (.int (nI i)), none] [] ((SimM v xs bs hh (fillU (thT (-f) T) T i) N S (fillU (spC (dT f T) S C) C i) O PC ps sc bc SF MX BF H D ++ [eZ z9 160 C])) := by
  intro m
  induction m with
  | zero =>
    intro i hi
    obtain rfl : i = 160 := by omega
    refine v_iload_n (pc := 13) dX6_frost_13 rfl rfl ?_
    refine v_sipush (pc := 14) (v := 160) dX6_frost_14 rfl ?_
    refine v_icmp_ge (pc := 17) (tgt := 195) dX6_frost_17 (by decide) (fun c17 => ?_) (fun c17 => absurd (nI_le (a := 160) (b := 160) (Nat.le_refl _) (by decide)) c17)
    have c17 : 160 ≤ 160 := (nI_leI (a := 160) (b := 160) (by omega) (by omega)).mp c17
    exact K
  | succ m ih =>
    intro i hi
    have eT : fillU (thT (-f) T) T i i = T i := fillU_out (Nat.lt_irrefl i)
    refine v_iload_n (pc := 13) dX6_frost_13 rfl rfl ?_
    refine v_sipush (pc := 14) (v := 160) dX6_frost_14 rfl ?_
    refine v_icmp_ge (pc := 17) (tgt := 195) dX6_frost_17 (by decide) (fun c17 => absurd c17 (nI_ge (a := i) (b := 160) (by omega) (by decide))) (fun c17 => ?_)
    have c17 : ¬ 160 ≤ i := fun h => c17 ((nI_leI (a := 160) (b := i) (by omega) (by omega)).mpr h)
    refine v_aload_nR (pc := 20) dX6_frost_20 rfl rfl ?_
    refine v_get (pc := 21) 1 0 fg_X6_7 rfl rfl dX6_frost_21 ?_
    refine v_iload_n (pc := 24) dX6_frost_24 rfl rfl ?_
    refine v_ialdN (pc := 25) 1 (k := i) rfl (by omega) (by omega) dX6_frost_25 ?_
    rw [eT]
    refine v_if_ge (pc := 26) (tgt := 32) dX6_frost_26 (by decide) (fun c26 => ?_) (fun c26 => ?_)
    · have hneg : ¬ T i < 0 := Int32.not_lt.mpr c26
      refine v_iload_n (pc := 32) dX6_frost_32 rfl rfl ?_
      refine v_if_le (pc := 33) (tgt := 100) dX6_frost_33 (by decide) (fun c33 => ?_) (fun c33 => absurd (fa_of_lt hf).1 c33)
      refine v_iload_n (pc := 100) dX6_frost_100 rfl rfl ?_
      refine v_if_lt (pc := 101) (tgt := 107) dX6_frost_101 (by decide) (fun c101 => ?_) (fun c101 => absurd hf c101)
      refine v_aload_nR (pc := 107) dX6_frost_107 rfl rfl ?_
      refine v_get (pc := 108) 1 0 fg_X6_7 rfl rfl dX6_frost_108 ?_
      refine v_iload_n (pc := 111) dX6_frost_111 rfl rfl ?_
      refine v_aload_nR (pc := 112) dX6_frost_112 rfl rfl ?_
      refine v_get (pc := 113) 1 0 fg_X6_7 rfl rfl dX6_frost_113 ?_
      refine v_iload_n (pc := 116) dX6_frost_116 rfl rfl ?_
      refine v_ialdN (pc := 117) 1 (k := i) rfl (by omega) (by omega) dX6_frost_117 ?_
      rw [eT]
      refine v_bipush (pc := 118) (v := -3) dX6_frost_118 rfl ?_
      refine v_iload_n (pc := 120) dX6_frost_120 rfl rfl ?_
      refine v_imul (pc := 121) dX6_frost_121 ?_
      refine v_icmp_le (pc := 122) (tgt := 138) dX6_frost_122 (by decide) (fun c122 => ?_) (fun c122 => ?_)
      · refine v_iconst (pc := 138) (v := 0) dX6_frost_138 rfl ?_
        refine v_iastN (pc := 139) 1 (k := i) rfl (by omega) (by omega) dX6_frost_139 ?_
        try dsimp only [wb, SimM, List.set_cons_succ, List.set_cons_zero, List.append_nil, List.nil_append, List.cons_append, Option.toList, Nat.sub_zero]
        refine v_iconst (pc := 140) (v := 0) dX6_frost_140 rfl ?_
        refine v_istore (pc := 141) dX6_frost_141 (by decide) rfl ?_
        refine v_cgI 1 (g := fillU (thT (-f) T) T (i + 1)) rfl (fill_step (by rw [← thT_m hneg, if_neg ((t3_iff (ht (by omega) hneg) hfb).mp c122)])) ?_
        try dsimp only [wb, SimM, List.set_cons_succ, List.set_cons_zero, List.append_nil, List.nil_append, List.cons_append, Option.toList, Nat.sub_zero]
        by_cases hS0 : S i ≤ 0
        · refine v_iload (pc := 143) dX6_frost_143 rfl ?_
          refine v_sipush (pc := 145) (v := 160) dX6_frost_145 rfl ?_
          refine v_icmp_ge (pc := 148) (tgt := 189) dX6_frost_148 (by decide) (fun c148 => absurd c148 (by decide)) (fun c148 => ?_)
          refine v_aload_nR (pc := 151) dX6_frost_151 rfl rfl ?_
          refine v_get (pc := 152) 3 0 fg_X6_16 rfl rfl dX6_frost_152 ?_
          refine v_iload_n (pc := 155) dX6_frost_155 rfl rfl ?_
          refine v_ialdN (pc := 156) 3 (k := i) rfl (by omega) (by omega) dX6_frost_156 ?_
          refine v_if_le (pc := 157) (tgt := 189) dX6_frost_157 (by decide) (fun c157 => ?_) (fun c157 => absurd hS0 c157)
          refine v_sub (L' := [some (.ref (v 0)), some (.int f), some (.ref z9), some (.int (nI i)), none]) ⟨rfl, rfl, rfl, rfl, trivial⟩ ?_
          have e2 : fillU (spC (dT f T) S C) C i = fillU (spC (dT f T) S C) C (i + 1) := fillU_k _ _ _ (spC_0 hS0).symm
          rw [e2]
          refine v_iinc (pc := 189) (v := nI (i + 1)) dX6_frost_189 rfl (nI_1 _) (by decide) rfl ?_
          refine v_goto (pc := 192) (tgt := 13) dX6_frost_192 (by decide) ?_
          exact ih (i + 1) (by omega)
        · refine v_cgZ 4 (g := upd (fillU (spC (dT f T) S C) C i) i (crK C i 0)) rfl (fun j _ => by rw [fa_upd_same]; exact fillU_out (Nat.lt_irrefl i)) ?_
          try dsimp only [wb, SimM, List.set_cons_succ, List.set_cons_zero, List.append_nil, List.nil_append, List.cons_append, Option.toList, Nat.sub_zero]
          refine v_sub (L' := [some (.ref (v 0)), some (.int f), some (.ref z9), some (.int (nI i)), some (.int (nI 0))]) ⟨rfl, rfl, rfl, rfl, rfl, trivial⟩ ?_
          refine lp_X6_fro (sz := 0) hps hsc hbc (by omega) hS0 ?_ 160 0 (by omega)
          refine v_cgZ 4 (g := fillU (spC (dT f T) S C) C (i + 1)) rfl (fill_step (crK_spC (by omega) (fun q => hneg ((hd i (by omega)).mp q)) hS0)) ?_
          try dsimp only [wb, SimM, List.set_cons_succ, List.set_cons_zero, List.append_nil, List.nil_append, List.cons_append, Option.toList, Nat.sub_zero]
          refine v_iinc (pc := 189) (v := nI (i + 1)) dX6_frost_189 rfl (nI_1 _) (by decide) rfl ?_
          refine v_goto (pc := 192) (tgt := 13) dX6_frost_192 (by decide) ?_
          exact ih (i + 1) (by omega)
      · refine v_aload_nR (pc := 125) dX6_frost_125 rfl rfl ?_
        refine v_get (pc := 126) 1 0 fg_X6_7 rfl rfl dX6_frost_126 ?_
        refine v_iload_n (pc := 129) dX6_frost_129 rfl rfl ?_
        refine v_ialdN (pc := 130) 1 (k := i) rfl (by omega) (by omega) dX6_frost_130 ?_
        rw [eT]
        refine v_iconst (pc := 131) (v := 3) dX6_frost_131 rfl ?_
        refine v_iload_n (pc := 132) dX6_frost_132 rfl rfl ?_
        refine v_imul (pc := 133) dX6_frost_133 ?_
        refine v_iadd (pc := 134) dX6_frost_134 ?_
        refine v_goto (pc := 135) (tgt := 139) dX6_frost_135 (by decide) ?_
        refine v_iastN (pc := 139) 1 (k := i) rfl (by omega) (by omega) dX6_frost_139 ?_
        try dsimp only [wb, SimM, List.set_cons_succ, List.set_cons_zero, List.append_nil, List.nil_append, List.cons_append, Option.toList, Nat.sub_zero]
        refine v_iconst (pc := 140) (v := 0) dX6_frost_140 rfl ?_
        refine v_istore (pc := 141) dX6_frost_141 (by decide) rfl ?_
        refine v_cgI 1 (g := fillU (thT (-f) T) T (i + 1)) rfl (fill_step (by rw [← thT_m hneg, if_pos (Classical.byContradiction fun q => c122 ((t3_iff (ht (by omega) hneg) hfb).mpr q))])) ?_
        try dsimp only [wb, SimM, List.set_cons_succ, List.set_cons_zero, List.append_nil, List.nil_append, List.cons_append, Option.toList, Nat.sub_zero]
        by_cases hS0 : S i ≤ 0
        · refine v_iload (pc := 143) dX6_frost_143 rfl ?_
          refine v_sipush (pc := 145) (v := 160) dX6_frost_145 rfl ?_
          refine v_icmp_ge (pc := 148) (tgt := 189) dX6_frost_148 (by decide) (fun c148 => absurd c148 (by decide)) (fun c148 => ?_)
          refine v_aload_nR (pc := 151) dX6_frost_151 rfl rfl ?_
          refine v_get (pc := 152) 3 0 fg_X6_16 rfl rfl dX6_frost_152 ?_
          refine v_iload_n (pc := 155) dX6_frost_155 rfl rfl ?_
          refine v_ialdN (pc := 156) 3 (k := i) rfl (by omega) (by omega) dX6_frost_156 ?_
          refine v_if_le (pc := 157) (tgt := 189) dX6_frost_157 (by decide) (fun c157 => ?_) (fun c157 => absurd hS0 c157)
          refine v_sub (L' := [some (.ref (v 0)), some (.int f), some (.ref z9), some (.int (nI i)), none]) ⟨rfl, rfl, rfl, rfl, trivial⟩ ?_
          have e2 : fillU (spC (dT f T) S C) C i = fillU (spC (dT f T) S C) C (i + 1) := fillU_k _ _ _ (spC_0 hS0).symm
          rw [e2]
          refine v_iinc (pc := 189) (v := nI (i + 1)) dX6_frost_189 rfl (nI_1 _) (by decide) rfl ?_
          refine v_goto (pc := 192) (tgt := 13) dX6_frost_192 (by decide) ?_
          exact ih (i + 1) (by omega)
        · refine v_cgZ 4 (g := upd (fillU (spC (dT f T) S C) C i) i (crK C i 0)) rfl (fun j _ => by rw [fa_upd_same]; exact fillU_out (Nat.lt_irrefl i)) ?_
          try dsimp only [wb, SimM, List.set_cons_succ, List.set_cons_zero, List.append_nil, List.nil_append, List.cons_append, Option.toList, Nat.sub_zero]
          refine v_sub (L' := [some (.ref (v 0)), some (.int f), some (.ref z9), some (.int (nI i)), some (.int (nI 0))]) ⟨rfl, rfl, rfl, rfl, rfl, trivial⟩ ?_
          refine lp_X6_fro (sz := 0) hps hsc hbc (by omega) hS0 ?_ 160 0 (by omega)
          refine v_cgZ 4 (g := fillU (spC (dT f T) S C) C (i + 1)) rfl (fill_step (crK_spC (by omega) (fun q => hneg ((hd i (by omega)).mp q)) hS0)) ?_
          try dsimp only [wb, SimM, List.set_cons_succ, List.set_cons_zero, List.append_nil, List.nil_append, List.cons_append, Option.toList, Nat.sub_zero]
          refine v_iinc (pc := 189) (v := nI (i + 1)) dX6_frost_189 rfl (nI_1 _) (by decide) rfl ?_
          refine v_goto (pc := 192) (tgt := 13) dX6_frost_192 (by decide) ?_
          exact ih (i + 1) (by omega)
    · refine v_goto (pc := 29) (tgt := 189) dX6_frost_29 (by decide) ?_
      refine v_iinc (pc := 189) (v := nI (i + 1)) dX6_frost_189 rfl (nI_1 _) (by decide) rfl ?_
      refine v_goto (pc := 192) (tgt := 13) dX6_frost_192 (by decide) ?_
      have hneg : T i < 0 := Int32.not_le.mp c26
      have e1 : fillU (thT (-f) T) T i = fillU (thT (-f) T) T (i + 1) := fillU_k _ _ _ (by unfold thT; rw [if_pos hneg])
      have e2 : fillU (spC (dT f T) S C) C i = fillU (spC (dT f T) S C) C (i + 1) := fillU_k _ _ _ ((spC_n ((hd i (by omega)).mpr hneg)).symm)
      rw [e1, e2]
      exact ih (i + 1) (by omega)
set_option maxRecDepth 100000 in
set_option maxHeartbeats 4000000 in
theorem lp_X6_frost0 {G : Cx} {v xs bs : Nat → Nat} {hh : Nat} {T N S C O PC : Nat → Int32} {ps sc bc : Nat} {SF : Nat → Nat → Int32} {MX : Nat → Int32} {BF : Nat → Nat → Int32} {H D : Nat → Int32} (hps : ps ≤ 8) (hsc : sc ≤ 5) (hbc : bc ≤ 40) {sz : Nat} {Z : ZT} {z9 : Nat} {f : Int32} (hf : f = 0) (K : V G Y_X6_frost Z 4 0 0 195 [some (.ref (v 0)), some (.int f), some (.ref z9), some (.int (nI 160)), none] [] ((SimM v xs bs hh T N S C O PC ps sc bc SF MX BF H D ++ [eZ z9 160 C]))) : ∀ (m i : Nat), m + i = 160 → V G Y_X6_frost Z 4 0 0 13 [some (.ref (v 0)), some (.int f), some (.ref z9), some (.int (nI i)), none] [] ((SimM v xs bs hh T N S C O PC ps sc bc SF MX BF H D ++ [eZ z9 160 C])) := by
  intro m
  induction m with
  | zero =>
    intro i hi
    obtain rfl : i = 160 := by omega
    refine v_iload_n (pc := 13) dX6_frost_13 rfl rfl ?_
    refine v_sipush (pc := 14) (v := 160) dX6_frost_14 rfl ?_
    refine v_icmp_ge (pc := 17) (tgt := 195) dX6_frost_17 (by decide) (fun c17 => ?_) (fun c17 => absurd (nI_le (a := 160) (b := 160) (Nat.le_refl _) (by decide)) c17)
    have c17 : 160 ≤ 160 := (nI_leI (a := 160) (b := 160) (by omega) (by omega)).mp c17
    exact K
  | succ m ih =>
    intro i hi
    refine v_iload_n (pc := 13) dX6_frost_13 rfl rfl ?_
    refine v_sipush (pc := 14) (v := 160) dX6_frost_14 rfl ?_
    refine v_icmp_ge (pc := 17) (tgt := 195) dX6_frost_17 (by decide) (fun c17 => absurd c17 (nI_ge (a := i) (b := 160) (by omega) (by decide))) (fun c17 => ?_)
    have c17 : ¬ 160 ≤ i := fun h => c17 ((nI_leI (a := 160) (b := i) (by omega) (by omega)).mpr h)
    refine v_aload_nR (pc := 20) dX6_frost_20 rfl rfl ?_
    refine v_get (pc := 21) 1 0 fg_X6_7 rfl rfl dX6_frost_21 ?_
    refine v_iload_n (pc := 24) dX6_frost_24 rfl rfl ?_
    refine v_ialdN (pc := 25) 1 (k := i) rfl (by omega) (by omega) dX6_frost_25 ?_
    refine v_if_ge (pc := 26) (tgt := 32) dX6_frost_26 (by decide) (fun c26 => ?_) (fun c26 => ?_)
    · refine v_iload_n (pc := 32) dX6_frost_32 rfl rfl ?_
      refine v_if_le (pc := 33) (tgt := 100) dX6_frost_33 (by decide) (fun c33 => ?_) (fun c33 => absurd (show f ≤ 0 by rw [hf]; decide) c33)
      refine v_iload_n (pc := 100) dX6_frost_100 rfl rfl ?_
      refine v_if_lt (pc := 101) (tgt := 107) dX6_frost_101 (by decide) (fun c101 => absurd c101 (by rw [hf]; decide)) (fun c101 => ?_)
      refine v_goto (pc := 104) (tgt := 189) dX6_frost_104 (by decide) ?_
      refine v_iinc (pc := 189) (v := nI (i + 1)) dX6_frost_189 rfl (nI_1 _) (by decide) rfl ?_
      refine v_goto (pc := 192) (tgt := 13) dX6_frost_192 (by decide) ?_
      exact ih (i + 1) (by omega)
    · refine v_goto (pc := 29) (tgt := 189) dX6_frost_29 (by decide) ?_
      refine v_iinc (pc := 189) (v := nI (i + 1)) dX6_frost_189 rfl (nI_1 _) (by decide) rfl ?_
      refine v_goto (pc := 192) (tgt := 13) dX6_frost_192 (by decide) ?_
      exact ih (i + 1) (by omega)
set_option maxRecDepth 100000 in
set_option maxHeartbeats 4000000 in
theorem c_X6_frost {G : Cx} {v xs bs : Nat → Nat} {hh : Nat} {T N S C O PC : Nat → Int32} {ps sc bc : Nat} {SF : Nat → Nat → Int32} {MX : Nat → Int32} {BF : Nat → Nat → Int32} {H D : Nat → Int32} (hps : ps ≤ 8) (hsc : sc ≤ 5) (hbc : bc ≤ 40) {f : Int32} (hT : tOK T) (hC : cOK C) (hS : sTK S) (hf9 : -9 ≤ f ∧ f ≤ 9) : Mt G Y_X6_frost 4 1 160 [.ref (v 0), .int f] (SimM v xs bs hh T N S C O PC ps sc bc SF MX BF H D) (fun v' M' => v' = none ∧ M' = SimM v xs bs hh (dT f T) N (dS f T S) (dC f T S C) O PC ps sc bc SF MX BF H D) noX := by
  refine Mt.of (L := [some (.ref (v 0)), some (.int f), none, none, none]) rfl (by decide) (by simp [lg_sl, Value.category]) ⟨rfl, rfl, trivial⟩ (fun sz => ?_)
  refine v_aload_nR (pc := 0) dX6_frost_0 rfl rfl ?_
  refine v_get (pc := 1) 4 0 fg_X6_19 rfl rfl dX6_frost_1 ?_
  refine v_cloneZ (pc := 4) 4 rfl (cOK01 hC) q585 q586 q587 q588 q589 q590 (by decide) (Nat.le_of_ble_eq_true rfl) (by decide) (by decide) dX6_frost_4 (fun z4 => ?_)
  try dsimp only [wb, SimM, List.set_cons_succ, List.set_cons_zero, List.append_nil, List.nil_append, List.cons_append, Option.toList, Nat.sub_zero]
  refine v_castZ (pc := 7) 13 rfl q591 dX6_frost_7 ?_
  refine v_astore_nR (pc := 10) dX6_frost_10 rfl (by decide) rfl ?_
  refine v_iconst (pc := 11) (v := 0) dX6_frost_11 rfl ?_
  refine v_istore_n (pc := 12) dX6_frost_12 rfl (by decide) rfl ?_
  have hfb : -9 ≤ f.toInt ∧ f.toInt ≤ 9 := by
    have h1 := hf9.1
    have h2 := hf9.2
    rw [i_le, show (-9 : Int32).toInt = -9 by decide] at h1
    rw [i_le, show (9 : Int32).toInt = 9 by decide] at h2
    exact ⟨h1, h2⟩
  rcases fa_three f 0 with hf | hf | hf
  · rw [dT_n hf, dS_n hf, dC_n hf]
    refine v_room (ck' := 0) (sk' := 0) (Nat.zero_le _) (Nat.zero_le _) ?_
    refine v_sub (L' := [some (.ref (v 0)), some (.int f), some (.ref z4), some (.int (nI 0)), none]) ⟨rfl, rfl, rfl, rfl, trivial⟩ ?_
    refine lp_X6_frostN (sz := 0) hps hsc hbc (fun {k} hk hn => by have h1 := hT k hk; have h2 := h1.1; have h3 := h1.2; rw [i_le] at h2 h3; rw [i_lt, i_0] at hn; rw [show (200 : Int32).toInt = 200 by decide] at h3; omega) hf hfb (fun j hj => dT_neg hf hj) ?_ 160 0 (by omega)
    refine v_take 13 ?_
    try dsimp only [List.take_succ_cons, List.take_zero, List.append_nil, List.nil_append, List.cons_append]
    refine v_vret (pc := 195) rfl (Nat.le_of_ble_eq_true rfl) dX6_frost_195 ?_
    exact ⟨rfl, rfl⟩
  · subst hf
    rw [dT_z, dS_z, dC_z]
    refine v_room (ck' := 0) (sk' := 0) (Nat.zero_le _) (Nat.zero_le _) ?_
    refine v_sub (L' := [some (.ref (v 0)), some (.int 0), some (.ref z4), some (.int (nI 0)), none]) ⟨rfl, rfl, rfl, rfl, trivial⟩ ?_
    refine lp_X6_frost0 (sz := 0) hps hsc hbc rfl ?_ 160 0 (by omega)
    refine v_take 13 ?_
    try dsimp only [List.take_succ_cons, List.take_zero, List.append_nil, List.nil_append, List.cons_append]
    refine v_vret (pc := 195) rfl (Nat.le_of_ble_eq_true rfl) dX6_frost_195 ?_
    exact ⟨rfl, rfl⟩
  · rw [dT_p hf, dS_p hf, dC_p hf]
    refine v_room (ck' := 0) (sk' := 0) (Nat.zero_le _) (Nat.zero_le _) ?_
    refine v_sub (L' := [some (.ref (v 0)), some (.int f), some (.ref z4), some (.int (nI 0)), none]) ⟨rfl, rfl, rfl, rfl, trivial⟩ ?_
    refine lp_X6_frostP (sz := 0) hps hsc hbc (fun {k} hk hn => by have h1 := hT k hk; have h2 := h1.1; have h3 := h1.2; rw [i_le] at h2 h3; rw [i_lt, i_0] at hn; rw [show (200 : Int32).toInt = 200 by decide] at h3; omega) hS hf ?_ 160 0 (by omega)
    refine v_take 13 ?_
    try dsimp only [List.take_succ_cons, List.take_zero, List.append_nil, List.nil_append, List.cons_append]
    refine v_vret (pc := 195) rfl (Nat.le_of_ble_eq_true rfl) dX6_frost_195 ?_
    exact ⟨rfl, rfl⟩
