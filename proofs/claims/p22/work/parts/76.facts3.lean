/-! what an hour does to the ice; what was foreseen -/
section FC76
variable {n5 sc bc ps hh B : Nat} {l5 : Value} {N O PC T C MX : Nat → Int32} {ch : Int32}
def laS (T S : Nat → Int32) : Prop := ∀ c, c < 160 → T c < 0 → S c = 0
/-- strain ahead of those that set out -/
def bas (hh : Nat) (f : Int32) (S : Nat → Int32) (c : Nat) : Int32 := if hh % 24 = 0 ∧ 0 < f then (if 0 < S c - 2 then S c - 2 else 0) else S c
def thn (hh : Nat) (f : Int32) (T : Nat → Int32) (c : Nat) : Int32 := if T c < 0 ∨ ¬ hh % 24 = 0 then T c else if 0 < f then (if T c + 12 * f / (6 + T c / 10) < 200 then T c + 12 * f / (6 + T c / 10) else 200) else (if 0 < T c + 3 * f then T c + 3 * f else 0)
def clF (hh : Nat) (f : Int32) (T S C T1 S1 C1 : Nat → Int32) (lf c : Nat) : Prop :=
  (-1 ≤ T1 c ∧ T1 c ≤ 200) ∧ (T1 c < 0 ↔ T c < 0) ∧ (T1 c < 0 → S1 c = 0 ∧ C1 c = 0) ∧ T1 c = thn hh f T c ∧
  (bas hh f S c).toInt ≤ (S1 c).toInt ∧ (S1 c).toInt ≤ (bas hh f S c).toInt + (lf : Nat) ∧ (0 ≤ (S1 c).toInt ∧ (S1 c).toInt ≤ 9) ∧
  (¬ C c = 0 → ¬ C1 c = 0) ∧
  (C c = 0 → ¬ C1 c = 0 → (3 ≤ (S1 c).toInt ∧ 0 < lf) ∨ (hh % 24 = 0 ∧ f < 0 ∧ (∃ o, o < 160 ∧ ¬ C o = 0 ∧ adj c o = true) ∧ 1 ≤ S c))
theorem fb_ct_to {p : Nat → Bool} {n m : Nat} (h : n ≤ m) (hp : ∀ i, n ≤ i → i < m → p i = false) : fb_ct p m = fb_ct p n := by
  induction m with
  | zero =>
    rw [show n = 0 by omega]
  | succ m ih =>
    by_cases e : n = m + 1
    · rw [e]
    · rw [fb_ct_succ, hp m (by omega) (Nat.lt_succ_self m), ih (by omega) (fun i a b => hp i a (by omega))]
      rfl
theorem ct76_pos {p : Nat → Bool} {n i : Nat} (hi : i < n) (h : p i = true) : 0 < fb_ct p n := by
  have h1 := fb_ct_mono p (m := i + 1) (n := n) hi
  rw [fb_ct_succ, h, if_pos rfl] at h1
  omega
theorem hrA_p {x : HW} : (hrA O hh x).1 = x.1 ∧ (hrA O hh x).2.1 = x.2.1 ∧ (hrA O hh x).2.2.1 = (if hh % 24 = 0 then dT (O (hh / 24 % 8)) x.2.2.1 else x.2.2.1) ∧ (hrA O hh x).2.2.2.2.2.2.2.2.1 = (if hh % 24 = 0 then dS (O (hh / 24 % 8)) x.2.2.1 x.2.2.2.2.2.2.2.2.1 else x.2.2.2.2.2.2.2.2.1) ∧ (hrA O hh x).2.2.2.2.2.2.2.2.2.1 = (if hh % 24 = 0 then dC (O (hh / 24 % 8)) x.2.2.1 x.2.2.2.2.2.2.2.2.1 x.2.2.2.2.2.2.2.2.2.1 else x.2.2.2.2.2.2.2.2.2.1) := by
  unfold hrA
  split <;> exact ⟨rfl, rfl, rfl, rfl, rfl⟩
theorem hrA_iv {x : HW} (hI : hIV PC ps sc bc x.2.2.1 x.2.2.2.2.2.2.2.2.2.1 x.2.2.2.2.2.2.2.2.2.2 x.1 x.2.1 MX B) (hsc : sc ≤ 5) (hB : B < 2 ^ 30) (hO : oOK O) : hIV PC ps sc bc (hrA O hh x).2.2.1 (hrA O hh x).2.2.2.2.2.2.2.2.2.1 (hrA O hh x).2.2.2.2.2.2.2.2.2.2 (hrA O hh x).1 (hrA O hh x).2.1 MX (B + 1) := by
  unfold hrA
  split
  · exact hI.frost hsc hB (hO _ (Nat.mod_lt _ (by decide)))
  · exact hI.more (Nat.le_succ B)
theorem dS_bas {f : Int32} {T S : Nat → Int32} {c : Nat} (hc : c < 160) (hL : laS T S) : dS f T S c = if 0 < f then (if 0 < S c - 2 then S c - 2 else 0) else S c := by
  by_cases h : 0 < f
  · rw [dS_p h, if_pos h, fillU_in hc]
    unfold fzS
    by_cases ht : T c < 0
    · rw [if_pos ht, hL c hc ht]
      decide
    · rw [if_neg ht]
  · rw [if_neg h]
    unfold dS
    rw [if_neg h]
theorem dT_thn {f : Int32} {T : Nat → Int32} {c : Nat} (hc : c < 160) : dT f T c = if T c < 0 then T c else if 0 < f then (if T c + 12 * f / (6 + T c / 10) < 200 then T c + 12 * f / (6 + T c / 10) else 200) else (if 0 < T c + 3 * f then T c + 3 * f else 0) := by
  by_cases h : 0 < f
  · rw [dT_p h, fillU_in hc]
    unfold fzT
    rw [if_pos h, Int32.mul_comm f 12]
  · rw [if_neg h]
    by_cases h2 : f < 0
    · rw [dT_n h2, fillU_in hc]
      unfold thT
      rw [show T c - 3 * (-f) = T c + 3 * f by rw [Int32.mul_neg, Int32.sub_eq_add_neg, Int32.neg_neg]]
    · have hz : f = 0 := by
        refine Int32.toInt_inj.mp ?_
        rw [i_lt, i_0] at h h2
        rw [i_0]
        omega
      rw [hz, dT_z]
      split
      · rfl
      · rename_i h9
        rw [show T c + 3 * (0 : Int32) = T c by rw [Int32.mul_zero, Int32.add_zero]]
        split
        · rfl
        · rename_i h8
          refine Int32.toInt_inj.mp ?_
          rw [i_lt, i_0] at h8 h9
          rw [i_0]
          omega
theorem cl_f {x : HW} {c : Nat} (h5 : n5 = 5) (hc : c < 160) (hsc : sc ≤ 5) (hbc : bc ≤ 40) (hB : B < 2 ^ 30) (hO : oOK O) (hN : nOK N) (hS : sTK x.2.2.2.2.2.2.2.2.1) (hL : laS x.2.2.1 x.2.2.2.2.2.2.2.2.1) (hI : hIV PC ps sc bc x.2.2.1 x.2.2.2.2.2.2.2.2.2.1 x.2.2.2.2.2.2.2.2.2.2 x.1 x.2.1 MX B) (hJ : jV x.1 sc) (hE : tOK (hrA O hh x).2.2.1 ∧ lOK (hrA O hh x).2.2.1 (hZ n5 l5 N PC ps sc bc hh (hrA O hh x)).2.2.2.2.2.2.1) :
    clF hh (O (hh / 24 % 8)) x.2.2.1 x.2.2.2.2.2.2.2.2.1 x.2.2.2.2.2.2.2.2.2.1 (hrA O hh x).2.2.1 (hZ n5 l5 N PC ps sc bc hh (hrA O hh x)).2.2.2.2.2.1 (hZ n5 l5 N PC ps sc bc hh (hrA O hh x)).2.2.2.2.2.2.1 (fb_ct (lfB x.1 (reI sc (hZ n5 l5 N PC ps sc bc hh (hrA O hh x)).1 n5) c) sc) c := by
  have hI1 := hrA_iv (hh := hh) hI hsc hB hO
  have hf := hO (hh / 24 % 8) (Nat.mod_lt _ (by decide))
  obtain ⟨a1, a2, a3, a4, a5⟩ := hrA_p (O := O) (hh := hh) (x := x)
  have hS1 : sTK (hrA O hh x).2.2.2.2.2.2.2.2.1 := by
    rw [a4]
    split
    · exact hS.day
    · exact hS
  have hJ1 : jV (hrA O hh x).1 sc := by rw [a1]; exact hJ
  have hZ0 := hZ_f (n5 := n5) (l5 := l5) (hh := hh) hI1 hsc hbc hN hS1
  have hout : ∀ i, i < sc → sos sc (hM n5 PC ps sc bc hh (hrA O hh x)).1 (hZ n5 l5 N PC ps sc bc hh (hrA O hh x)).1 i c = lfB x.1 (reI sc (hZ n5 l5 N PC ps sc bc hh (hrA O hh x)).1 n5) c i := fun i hi => by
    have h := out_f (n5 := n5) (l5 := l5) (hh := hh) (c := c) h5 hi hsc hbc hN hS1 hI1 hJ1
    rw [a1] at h
    exact h
  have hct : fb_ct (fun i => sos sc (hM n5 PC ps sc bc hh (hrA O hh x)).1 (hZ n5 l5 N PC ps sc bc hh (hrA O hh x)).1 i c) n5 = fb_ct (lfB x.1 (reI sc (hZ n5 l5 N PC ps sc bc hh (hrA O hh x)).1 n5) c) sc := by
    rw [fb_ct_to (n := sc) (m := n5) (by omega) (fun i hi _ => by
      unfold sos
      exact decide_eq_false (fun q => by have := q.1; omega))]
    exact fb_ct_cong (fun i hi => hout i hi)
  have h4 := hZ0.2.2.2.1 c hc
  have h44 : ((hrA O hh x).2.2.2.2.2.2.2.2.1 c).toInt ≤ ((hZ n5 l5 N PC ps sc bc hh (hrA O hh x)).2.2.2.2.2.1 c).toInt ∧ ((hZ n5 l5 N PC ps sc bc hh (hrA O hh x)).2.2.2.2.2.1 c).toInt ≤ ((hrA O hh x).2.2.2.2.2.2.2.2.1 c).toInt + (fb_ct (fun i => sos sc (hM n5 PC ps sc bc hh (hrA O hh x)).1 (hZ n5 l5 N PC ps sc bc hh (hrA O hh x)).1 i c) n5 : Nat) ∧ ((hrA O hh x).2.2.1 c < 0 → (hZ n5 l5 N PC ps sc bc hh (hrA O hh x)).2.2.2.2.2.1 c = (hrA O hh x).2.2.2.2.2.2.2.2.1 c) := h4
  have h55 : (¬ (hrA O hh x).2.2.2.2.2.2.2.2.2.1 c = 0 → ¬ (hZ n5 l5 N PC ps sc bc hh (hrA O hh x)).2.2.2.2.2.2.1 c = 0) ∧ ((hrA O hh x).2.2.2.2.2.2.2.2.2.1 c = 0 → ¬ (hZ n5 l5 N PC ps sc bc hh (hrA O hh x)).2.2.2.2.2.2.1 c = 0 → 3 ≤ ((hZ n5 l5 N PC ps sc bc hh (hrA O hh x)).2.2.2.2.2.1 c).toInt ∧ ∃ i, i < n5 ∧ sos sc (hM n5 PC ps sc bc hh (hrA O hh x)).1 (hZ n5 l5 N PC ps sc bc hh (hrA O hh x)).1 i c = true) := hZ0.2.2.2.2.1 c hc
  have h66 : 0 ≤ ((hZ n5 l5 N PC ps sc bc hh (hrA O hh x)).2.2.2.2.2.1 c).toInt ∧ ((hZ n5 l5 N PC ps sc bc hh (hrA O hh x)).2.2.2.2.2.1 c).toInt ≤ 9 := hZ0.2.2.2.2.2 c hc
  rw [hct] at h44
  have hsg : (hrA O hh x).2.2.1 c < 0 ↔ x.2.2.1 c < 0 := by
    rw [a3]
    by_cases h24 : hh % 24 = 0
    · rw [if_pos h24]
      refine ⟨dT_sg hf hI.2.2.2.2.2.1.1 c hc, fun q => ?_⟩
      rw [dT_thn hc, if_pos q]
      exact q
    · rw [if_neg h24]
  have hbs : (hrA O hh x).2.2.2.2.2.2.2.2.1 c = bas hh (O (hh / 24 % 8)) x.2.2.2.2.2.2.2.2.1 c := by
    rw [a4]
    unfold bas
    by_cases h24 : hh % 24 = 0
    · rw [if_pos h24, dS_bas hc hL]
      by_cases hp : 0 < O (hh / 24 % 8)
      · exact (if_pos hp).trans (if_pos ⟨h24, hp⟩).symm
      · exact (if_neg hp).trans (if_neg (fun q => hp q.2)).symm
    · exact (congrFun (if_neg h24) c).trans (if_neg (show ¬ (hh % 24 = 0 ∧ 0 < O (hh / 24 % 8)) from fun q => h24 q.1)).symm
  rw [hbs] at h44
  have hmono : ¬ x.2.2.2.2.2.2.2.2.2.1 c = 0 → ¬ (hrA O hh x).2.2.2.2.2.2.2.2.2.1 c = 0 := fun h => by
    rw [a5]
    split
    · unfold dC
      split
      · exact h
      · split
        · rw [fillU_in hc]
          unfold spC
          split
          · decide
          · exact h
        · exact h
    · exact h
  refine ⟨hE.1 c hc, hsg, fun h => ⟨?_, hE.2 c hc h⟩, ?_, h44.1, h44.2.1, h66, fun h => h55.1 (hmono h), fun h0 h1 => ?_⟩
  · rw [h44.2.2 h]
    have hx := hsg.mp h
    unfold bas
    split
    · rw [hL c hc hx]
      decide
    · exact hL c hc hx
  · rw [a3]
    unfold thn
    by_cases h24 : hh % 24 = 0
    · rw [if_pos h24, dT_thn hc]
      by_cases ht : x.2.2.1 c < 0
      · exact (if_pos ht).trans (if_pos (Or.inl ht)).symm
      · exact (if_neg ht).trans (if_neg (fun q => q.elim ht (fun q => q h24))).symm
    · exact (congrFun (if_neg h24) c).trans (if_pos (Or.inr h24)).symm
  · by_cases hc1 : (hrA O hh x).2.2.2.2.2.2.2.2.2.1 c = 0
    · left
      obtain ⟨p1, i, p2, p3⟩ := h55.2 hc1 h1
      refine ⟨p1, ?_⟩
      rw [← hct]
      exact ct76_pos p2 p3
    · right
      rw [a5] at hc1
      by_cases h24 : hh % 24 = 0
      · rw [if_pos h24] at hc1
        by_cases hp : O (hh / 24 % 8) < 0
        · rw [dC_n hp, fillU_in hc] at hc1
          unfold spC at hc1
          by_cases hw : ¬ dT (O (hh / 24 % 8)) x.2.2.1 c < 0 ∧ 1 ≤ x.2.2.2.2.2.2.2.2.1 c ∧ wcb x.2.2.2.2.2.2.2.2.2.1 c 4 = true
          · obtain ⟨i, o, g1, g2, g3⟩ := (wcb_iff 4).mp hw.2.2
            exact ⟨h24, hp, ⟨o, nbr_lt hc g2, g3, adj_nbr.mpr ⟨i, g1, g2⟩⟩, hw.2.1⟩
          · rw [if_neg hw] at hc1
            exact absurd h0 hc1
        · unfold dC at hc1
          rw [if_neg hp] at hc1
          split at hc1
          · exact absurd h0 hc1
          · exact absurd h0 hc1
      · rw [if_neg h24] at hc1
        exact absurd h0 hc1
/-- foreseen -/
theorem soI_k {x : SO} {i k : Nat} (h6 : ¬ k = 6) (h7 : ¬ k = 7) (h8 : ¬ k = 8) : ∀ n, (soI l5 T N PC ps sc x n).1 i k = x.1 i k
  | 0 => rfl
  | n + 1 => by
    have ih := soI_k (x := x) (i := i) h6 h7 h8 n
    show (soT l5 T N PC ps sc n (soI l5 T N PC ps sc x n)).1 i k = _
    unfold soT
    split
    · split
      · exact (upS_n _ _ (fun q => h8 q.2)).trans ih
      · show upS (upS (soI l5 T N PC ps sc x n).1 n 6 _) n 7 _ i k = _
        rw [upS_n _ _ (fun q => h7 q.2), upS_n _ _ (fun q => h6 q.2)]
        exact ih
    · exact ih
theorem hr_34 {x : HW} {i k : Nat} (hk : k = 3 ∨ k = 4) : (hrW n5 l5 N O PC ps sc bc hh x).1 i k = (hM n5 PC ps sc bc hh (hrA O hh x)).1 i k := by
  rw [hr_eq.1]
  show reI sc (hZ n5 l5 N PC ps sc bc hh (hrA O hh x)).1 n5 i k = _
  rw [reI_at, if_neg (fun q => by have := q.2.2.2; omega)]
  exact soI_k (x := ((hM n5 PC ps sc bc hh (hrA O hh x)).1, (hrA O hh x).2.2.2.2)) (by omega) (by omega) (by omega) n5
theorem row8 {a b : Nat → Nat → Int32} {i : Nat} (h : ∀ k, ¬ k = 8 → a i k = b i k) : (skc T C sc a i ↔ skc T C sc b i) ∧ (mvc sc a i ↔ mvc sc b i) ∧ (arr PC ps a i ↔ arr PC ps b i) ∧ (∀ k, ¬ k = 8 → coS a i i k = coS b i i k) := by
  have e : slN a i = slN b i := by unfold slN slW; rw [h 0 (by decide), h 1 (by decide)]
  have g : ∀ k, ¬ k = 8 → coS a i i k = coS b i i k := fun k hk => by
    rw [coS_at, coS_at, h 7 (by decide), h 2 (by decide), h 6 (by decide), h k hk]
  unfold skc mvc arr
  rw [h 3 (by decide), h 4 (by decide), h 7 (by decide), e, g 4 (by decide), g 5 (by decide)]
  exact ⟨Iff.rfl, Iff.rfl, Iff.rfl, g⟩
theorem hM_8 {x y : HW} {i k bc' : Nat} (h5 : n5 = 5) (hi : i < sc) (hsc : sc ≤ 5) (hk : k = 3 ∨ k = 4) (h : ∀ k, ¬ k = 8 → x.1 i k = y.1 i k) (hT : x.2.2.1 = y.2.2.1) (hC : x.2.2.2.2.2.2.2.2.2.1 = y.2.2.2.2.2.2.2.2.2.1) : (hM n5 PC ps sc bc hh x).1 i k = (hM n5 PC ps sc bc' hh y).1 i k := by
  obtain ⟨a, b, c, d⟩ := hM_row (n5 := n5) (bc := bc) (PC := PC) (ps := ps) (hh := hh) (x := x) h5 hi hsc
  obtain ⟨a', b', c', d'⟩ := hM_row (n5 := n5) (bc := bc') (PC := PC) (ps := ps) (hh := hh) (x := y) h5 hi hsc
  obtain ⟨r1, r2, r3, r4⟩ := row8 (T := y.2.2.1) (C := y.2.2.2.2.2.2.2.2.2.1) (sc := sc) (PC := PC) (ps := ps) h
  rw [hT, hC] at a b c d
  have hk8 : ¬ k = 8 := by omega
  by_cases q1 : skc y.2.2.1 y.2.2.2.2.2.2.2.2.2.1 sc y.1 i
  · rw [a (r1.mpr q1), a' q1, skS_at, skS_at, h k hk8]
  · by_cases q2 : mvc sc y.1 i
    · by_cases q3 : arr PC ps y.1 i
      · rw [b (fun q => q1 (r1.mp q)) (r2.mpr q2) (r3.mpr q3), b' q1 q2 q3, rsS_at, rsS_at, r4 k hk8]
      · rw [c (fun q => q1 (r1.mp q)) (r2.mpr q2) (fun q => q3 (r3.mp q)), c' q1 q2 q3, r4 k hk8]
    · rw [d (fun q => q1 (r1.mp q)) (fun q => q2 (r2.mp q)), d' q1 q2, h k hk8]
theorem fo_f {x y : HW} {i : Nat} {l9 : Value} (h5 : n5 = 5) (hi : i < sc) (hsc : sc ≤ 5) (h : ∀ k, ¬ k = 8 → x.1 i k = y.1 i k) (hT : x.2.2.1 = y.2.2.1) (hS : x.2.2.2.2.2.2.2.2.1 = y.2.2.2.2.2.2.2.2.1) (hC : x.2.2.2.2.2.2.2.2.2.1 = y.2.2.2.2.2.2.2.2.2.1) :
    foV i (foL n5 l9 N O PC ps sc i 1 hh x) = foV i (hrW n5 l5 N O PC ps sc bc hh y) := by
  obtain ⟨a1, a2, a3, a4, a5⟩ := hrA_p (O := O) (hh := hh) (x := x)
  obtain ⟨b1, b2, b3, b4, b5⟩ := hrA_p (O := O) (hh := hh) (x := y)
  have e : ∀ k, (k = 3 ∨ k = 4) → (hrW n5 l9 N O PC ps sc 0 hh x).1 i k = (hrW n5 l5 N O PC ps sc bc hh y).1 i k := fun k hk => by
    rw [hr_34 hk, hr_34 hk]
    refine hM_8 h5 hi hsc hk (fun k hk => ?_) ?_ ?_
    · rw [a1, b1]
      exact h k hk
    · rw [a3, b3, hT]
    · rw [a5, b5, hT, hS, hC]
  show foV i (if x.1 i 3 = 2 then x else hrW n5 l9 N O PC ps sc 0 hh x) = _
  by_cases h2 : x.1 i 3 = 2
  · rw [if_pos h2]
    have h22 : (hrW n5 l5 N O PC ps sc bc hh y).1 i 3 = 2 := hrW_2 (by rw [← h 3 (by decide)]; exact h2)
    unfold foV
    rw [if_pos h2, if_pos h22]
  · rw [if_neg h2]
    unfold foV
    rw [e 3 (Or.inl rfl), e 4 (Or.inr rfl)]
end FC76
