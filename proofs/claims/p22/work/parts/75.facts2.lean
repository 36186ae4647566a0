/-! what an hour does to bags; who set out; what was foreseen -/
section FB75
variable {n5 sc bc ps hh B : Nat} {l5 : Value} {N O PC T C MX : Nat → Int32} {ch : Int32}
def bJ (SF BF : Nat → Nat → Int32) (sc bc : Nat) : Prop := ∀ b, b < bc → (BF b 2 = 0 ∨ BF b 2 = 1 ∨ BF b 2 = 2 ∨ BF b 2 = 3) ∧ (BF b 2 = 1 → ∃ n, n < sc ∧ BF b 3 = nI n ∧ ¬ SF n 3 = 2) ∧ (BF b 2 = 2 ↔ 0 ≤ BF b 4) ∧ (BF b 2 = 3 ↔ BF b 3 < 0)
def rest? (SF SE : Nat → Nat → Int32) (n : Nat) : Prop := SE n 3 = 0 ∧ SF n 3 = 1
def bgR (SF SE BF BE : Nat → Nat → Int32) (hh sc b : Nat) : Prop :=
  BE b 0 = BF b 0 ∧ BE b 1 = BF b 1 ∧ (BE b 2 = 2 ↔ 0 ≤ BE b 4) ∧ (BE b 2 = 3 ↔ BE b 3 < 0) ∧
  (¬ BF b 2 = 1 → BE b 2 = BF b 2 ∧ BE b 3 = BF b 3) ∧
  (BF b 2 = 1 → ∃ n, n < sc ∧ BF b 3 = nI n ∧ (SE n 3 = 2 → BE b 2 = 3) ∧ (¬ SE n 3 = 2 → rest? SF SE n → BE b 2 = (if SE n 5 = BF b 1 then 2 else 0) ∧ BE b 3 = SE n 5) ∧ (¬ SE n 3 = 2 → ¬ rest? SF SE n → BE b 2 = 1) ∧ (BE b 2 = 2 → BE b 4 = nI hh))
/-- states by row -/
theorem sl_3 {x : HW} {y : SO} {i : Nat} (h5 : n5 = 5) (hi : i < sc) (hsc : sc ≤ 5) (hy : soF T sc ((hM n5 PC ps sc bc hh x).1, x.2.2.2.2) y n5) :
    (skc x.2.2.1 x.2.2.2.2.2.2.2.2.2.1 sc x.1 i → reI sc y.1 n5 i 3 = 2) ∧
    (¬ skc x.2.2.1 x.2.2.2.2.2.2.2.2.2.1 sc x.1 i → (mvc sc x.1 i ∧ arr PC ps x.1 i) → reI sc y.1 n5 i 3 = 0 ∧ reI sc y.1 n5 i 5 = x.1 i 5) ∧
    (¬ skc x.2.2.1 x.2.2.2.2.2.2.2.2.2.1 sc x.1 i → ¬ (mvc sc x.1 i ∧ arr PC ps x.1 i) → reI sc y.1 n5 i 3 = x.1 i 3) := by
  obtain ⟨a, b, c, d⟩ := hM_row (n5 := n5) (bc := bc) (PC := PC) (ps := ps) (hh := hh) (x := x) h5 hi hsc
  obtain ⟨e0, e1, e3, e4, e5, e2, e6, e7⟩ := hE_row hy i
  rw [e3, e5]
  refine ⟨fun h => ?_, fun h hm => ⟨?_, ?_⟩, fun h hm => ?_⟩
  · exact (a h 3).trans (by rw [skS_at]; rfl)
  · exact (b h hm.1 hm.2 3).trans (by rw [rsS_at]; rfl)
  · exact (b h hm.1 hm.2 5).trans rs_5
  · by_cases q : mvc sc x.1 i
    · exact (c h q (fun q9 => hm ⟨q, q9⟩) 3).trans coS_3
    · exact d h q 3
theorem bg_f {x : HW} {b : Nat} (h5 : n5 = 5) (hb : b < bc) (hsc : sc ≤ 5) (hbc : bc ≤ 40) (hps : ps ≤ 8) (hhh : hh < 2 ^ 31) (hN : nOK N) (hS : sTK x.2.2.2.2.2.2.2.2.1) (hI : hIV PC ps sc bc x.2.2.1 x.2.2.2.2.2.2.2.2.2.1 ch x.1 x.2.1 MX B) (hJ : bJ x.1 x.2.1 sc bc) :
    bgR x.1 (reI sc (hZ n5 l5 N PC ps sc bc hh x).1 n5) x.2.1 (hM n5 PC ps sc bc hh x).2.1 hh sc b ∧
    (((hM n5 PC ps sc bc hh x).2.1 b 2 = 0 ∨ (hM n5 PC ps sc bc hh x).2.1 b 2 = 1 ∨ (hM n5 PC ps sc bc hh x).2.1 b 2 = 2 ∨ (hM n5 PC ps sc bc hh x).2.1 b 2 = 3) ∧ ((hM n5 PC ps sc bc hh x).2.1 b 2 = 1 → x.2.1 b 2 = 1 ∧ ∃ n, n < sc ∧ x.2.1 b 3 = nI n ∧ (hM n5 PC ps sc bc hh x).2.1 b 3 = nI n ∧ ¬ (reI sc (hZ n5 l5 N PC ps sc bc hh x).1 n5) n 3 = 2)) := by
  have hZ0 := hZ_f (n5 := n5) (l5 := l5) (hh := hh) hI hsc hbc hN hS
  obtain ⟨j1, j2, j3, j4⟩ := hJ b hb
  by_cases h2 : x.2.1 b 2 = 1
  · obtain ⟨n, hn, h3, hn2⟩ := j2 h2
    obtain ⟨a1, a2, a3⟩ := hM_b1 (n5 := n5) (PC := PC) (ps := ps) (hh := hh) (x := x) h5 hsc hb hbc h2 h3 hn
    obtain ⟨s1, s2, s3⟩ := sl_3 (x := x) h5 hn hsc hZ0
    have h4 : ¬ 0 ≤ x.2.1 b 4 := fun q => absurd ((j3.mpr q).symm.trans h2) (by decide)
    have h6 : ¬ x.2.1 b 3 < 0 := fun q => absurd ((j4.mpr q).symm.trans h2) (by decide)
    unfold bgR
    by_cases q1 : skc x.2.2.1 x.2.2.2.2.2.2.2.2.2.1 sc x.1 n
    · obtain ⟨b2, b3, bk⟩ := a1 q1
      have t3 := s1 q1
      rw [b2, b3, bk 0 (by decide) (by decide), bk 1 (by decide) (by decide), bk 4 (by decide) (by decide)]
      refine ⟨⟨rfl, rfl, ⟨fun q => absurd q (by decide), fun q => absurd q h4⟩, ⟨fun _ => by decide, fun _ => rfl⟩, fun q => absurd h2 q, fun _ => ⟨n, hn, h3, fun _ => rfl, fun q => absurd t3 q, fun q => absurd t3 q, fun q => absurd q (by decide)⟩⟩, Or.inr (Or.inr (Or.inr rfl)), fun q => absurd q (by decide)⟩
    · by_cases q2 : mvc sc x.1 n ∧ arr PC ps x.1 n
      · have r := a2 q1 q2
        obtain ⟨t3, t5⟩ := s2 q1 q2
        have hr : rest? x.1 (reI sc (hZ n5 l5 N PC ps sc bc hh x).1 n5) n := ⟨t3, q2.1.2.1⟩
        have ht2 : ¬ reI sc (hZ n5 l5 N PC ps sc bc hh x).1 n5 n 3 = 2 := fun q => absurd (t3.symm.trans q) (by decide)
        have h05 : 0 ≤ x.1 n 5 := ((hI.2.1 n hn).2.2 q2.1.2.1).1.1
        have v0 : (hM n5 PC ps sc bc hh x).2.1 b 0 = x.2.1 b 0 := by
          rw [r, pdB_at, if_pos rfl, if_neg (by decide), if_neg (by decide), if_neg (fun q => absurd q.1 (by decide))]
        have v1 : (hM n5 PC ps sc bc hh x).2.1 b 1 = x.2.1 b 1 := by
          rw [r, pdB_at, if_pos rfl, if_neg (by decide), if_neg (by decide), if_neg (fun q => absurd q.1 (by decide))]
        have v2 : (hM n5 PC ps sc bc hh x).2.1 b 2 = if x.1 n 5 = x.2.1 b 1 then 2 else 0 := by
          rw [r, pdB_at, if_pos rfl, if_neg (by decide), if_pos rfl]
        have v3 : (hM n5 PC ps sc bc hh x).2.1 b 3 = x.1 n 5 := by
          rw [r, pdB_at, if_pos rfl, if_pos rfl]
        have v4 : (hM n5 PC ps sc bc hh x).2.1 b 4 = if x.1 n 5 = x.2.1 b 1 then nI hh else x.2.1 b 4 := by
          rw [r, pdB_at, if_pos rfl, if_neg (by decide), if_neg (by decide)]
          exact ifc ⟨fun q => q.2, fun q => ⟨rfl, q⟩⟩
        rw [v0, v1, v2, v3, v4]
        refine ⟨⟨rfl, rfl, ?_, ⟨fun q => ?_, fun q => absurd q (Int32.not_lt.mpr h05)⟩, fun q => absurd h2 q, fun _ => ⟨n, hn, h3, fun q => absurd q ht2, fun _ _ => ⟨by rw [t5], t5.symm⟩, fun _ q => absurd hr q, fun q => ?_⟩⟩, ?_, fun q => ?_⟩
        · by_cases c : x.1 n 5 = x.2.1 b 1
          · rw [if_pos c, if_pos c]
            exact ⟨fun _ => nI_pos' (by omega), fun _ => rfl⟩
          · rw [if_neg c, if_neg c]
            exact ⟨fun q => absurd q (by decide), fun q => absurd q h4⟩
        · split at q
          · exact absurd q (by decide)
          · exact absurd q (by decide)
        · split at q
          · rename_i c
            rw [if_pos c]
          · exact absurd q (by decide)
        · split
          · exact Or.inr (Or.inr (Or.inl rfl))
          · exact Or.inl rfl
        · split at q
          · exact absurd q (by decide)
          · exact absurd q (by decide)
      · have r := a3 q1 q2
        have t3 := s3 q1 q2
        have ht2 : ¬ reI sc (hZ n5 l5 N PC ps sc bc hh x).1 n5 n 3 = 2 := fun q => hn2 (t3.symm.trans q)
        have hr : ¬ rest? x.1 (reI sc (hZ n5 l5 N PC ps sc bc hh x).1 n5) n := fun q => absurd ((t3.symm.trans q.1).symm.trans q.2) (by decide)
        rw [r 0, r 1, r 2, r 3, r 4]
        refine ⟨⟨rfl, rfl, j3, j4, fun q => absurd h2 q, fun _ => ⟨n, hn, h3, fun q => absurd q ht2, fun _ q => absurd q hr, fun _ _ => h2, fun q => absurd (h2.symm.trans q) (by decide)⟩⟩, j1, fun _ => ⟨h2, n, hn, h3, h3, ht2⟩⟩
  · have r := hM_b0 (n5 := n5) (PC := PC) (ps := ps) (sc := sc) (bc := bc) (hh := hh) (x := x) h2
    unfold bgR
    rw [r 0, r 1, r 2, r 3, r 4]
    exact ⟨⟨rfl, rfl, j3, j4, fun _ => ⟨rfl, rfl⟩, fun q => absurd q h2⟩, j1, fun q => absurd q h2⟩
/-- how many come -/
theorem come_f {x : HW} (h5 : n5 = 5) (hsc : sc ≤ 5) (hbc : bc ≤ 40) (hJ : bJ x.1 x.2.1 sc bc) : (hM n5 PC ps sc bc hh x).2.2 = sumN (cmF x.2.1 (hM n5 PC ps sc bc hh x).2.1 bc) bc := by
  have h := (mvI_cnt (PC := PC) (ps := ps) (sc := sc) (bc := bc) (hh := hh) (x := ((hK n5 sc bc x).1, (hK n5 sc bc x).2, 0)) rfl n5).1
  have h : (hM n5 PC ps sc bc hh x).2.2 = sumN (cmF (hK n5 sc bc x).2 (hM n5 PC ps sc bc hh x).2.1 bc) 40 := h
  refine h.trans ((sum_to hbc (fun i h1 _ => ?_)).trans ?_)
  · unfold cmF
    exact if_neg (fun q => by have := q.1; omega)
  refine sum_cong bc (fun b hb => ?_)
  unfold cmF
  refine ifc ⟨fun q => ⟨q.1, ?_, q.2.2⟩, fun q => ⟨q.1, ?_, q.2.2⟩⟩
  · by_cases c : x.2.1 b 2 = 1
    · exact c
    · have e : (hK n5 sc bc x).2 b 2 = x.2.1 b 2 := skI_b0 (x := (x.1, x.2.1)) c n5 2
      exact e.symm.trans q.2.1
  · by_cases c : (hK n5 sc bc x).2 b 2 = 1
    · exact c
    · have e : (hM n5 PC ps sc bc hh x).2.1 b 2 = (hK n5 sc bc x).2 b 2 := mvI_b0 (x := ((hK n5 sc bc x).1, (hK n5 sc bc x).2, 0)) c n5 2
      obtain ⟨n, hn, h3, -⟩ := (hJ b hb).2.1 q.2.1
      obtain ⟨k1, k2⟩ := skI_b1 (T := x.2.2.1) (C := x.2.2.2.2.2.2.2.2.2.1) (sc := sc) (bc := bc) (x := (x.1, x.2.1)) hb (by omega) q.2.1 h3 (by omega) n5 (by omega)
      by_cases d : n < n5 ∧ skc x.2.2.1 x.2.2.2.2.2.2.2.2.2.1 sc x.1 n
      · exact absurd ((e.symm.trans q.2.2).symm.trans (k1 d).1) (by decide)
      · exact absurd ((k2 d 2).trans q.2.1) c
/-- who set out, in the law's words -/
def lfB (SF SE : Nat → Nat → Int32) (c i : Nat) : Bool := decide (¬ SF i 3 = 2 ∧ ¬ SE i 3 = 2 ∧ ¬ 1 < SF i 7 ∧ 0 < SE i 7 ∧ cN (SE i 4) = c)
theorem out_f {x : HW} {i c : Nat} (h5 : n5 = 5) (hi : i < sc) (hsc : sc ≤ 5) (hbc : bc ≤ 40) (hN : nOK N) (hS : sTK x.2.2.2.2.2.2.2.2.1) (hI : hIV PC ps sc bc x.2.2.1 x.2.2.2.2.2.2.2.2.2.1 ch x.1 x.2.1 MX B) (hJ : jV x.1 sc) :
    sos sc (hM n5 PC ps sc bc hh x).1 (hZ n5 l5 N PC ps sc bc hh x).1 i c = lfB x.1 (reI sc (hZ n5 l5 N PC ps sc bc hh x).1 n5) c i := by
  have hZ0 := hZ_f (n5 := n5) (l5 := l5) (hh := hh) hI hsc hbc hN hS
  obtain ⟨a, b, c3, d⟩ := hM_row (n5 := n5) (bc := bc) (PC := PC) (ps := ps) (hh := hh) (x := x) h5 hi hsc
  obtain ⟨e0, e1, e3, e4, e5, e2, e6, e7⟩ := hE_row hZ0 i
  have f7 : ((hZ n5 l5 N PC ps sc bc hh x).1 i 6 = (hM n5 PC ps sc bc hh x).1 i 6 ∧ (hZ n5 l5 N PC ps sc bc hh x).1 i 7 = (hM n5 PC ps sc bc hh x).1 i 7) ∨ (i < sc ∧ (hM n5 PC ps sc bc hh x).1 i 3 = 1 ∧ ¬ 0 < (hM n5 PC ps sc bc hh x).1 i 7 ∧ 0 < (hZ n5 l5 N PC ps sc bc hh x).1 i 7 ∧ adj (cN ((hM n5 PC ps sc bc hh x).1 i 4)) (cN ((hZ n5 l5 N PC ps sc bc hh x).1 i 6)) = true) := hZ0.2.2.1 i
  have hz := hJ.2 i hi
  unfold sos lfB
  rw [e3, e7, e4]
  refine decide_eq_decide.mpr ?_
  show (i < sc ∧ (hM n5 PC ps sc bc hh x).1 i 3 = 1 ∧ ¬ 0 < (hM n5 PC ps sc bc hh x).1 i 7 ∧ 0 < (hZ n5 l5 N PC ps sc bc hh x).1 i 7 ∧ cN ((hM n5 PC ps sc bc hh x).1 i 4) = c) ↔ (¬ x.1 i 3 = 2 ∧ ¬ (hM n5 PC ps sc bc hh x).1 i 3 = 2 ∧ ¬ 1 < x.1 i 7 ∧ 0 < (hZ n5 l5 N PC ps sc bc hh x).1 i 7 ∧ cN ((hM n5 PC ps sc bc hh x).1 i 4) = c)
  have hnext : ¬ skc x.2.2.1 x.2.2.2.2.2.2.2.2.2.1 sc x.1 i → 0 < x.1 i 7 - 1 → 0 < x.1 i 7 → (hM n5 PC ps sc bc hh x).1 i 7 = x.1 i 7 - 1 := fun q1 q4 q5 => by
    have h3 : x.1 i 3 = 1 := by
      by_cases q : x.1 i 3 = 1
      · exact q
      · rw [hz q] at q5
        exact absurd q5 (by decide)
    exact (c3 q1 ⟨hi, h3, q5⟩ (fun q => q.1 q4) 7).trans (by rw [coS_at, if_pos q4, if_pos rfl])
  constructor
  · rintro ⟨-, h3, h7, h8, h9⟩
    have q1 : ¬ skc x.2.2.1 x.2.2.2.2.2.2.2.2.2.1 sc x.1 i := fun q => absurd (h3.symm.trans ((a q 3).trans (by rw [skS_at]; rfl : skS x.1 i i 3 = 2))) (by decide)
    refine ⟨fun q => ?_, fun q => absurd (h3.symm.trans q) (by decide), fun q => ?_, h8, h9⟩
    · have hm : ¬ mvc sc x.1 i := fun q9 => absurd (q9.2.1.symm.trans q) (by decide)
      exact absurd (h3.symm.trans ((d q1 hm 3).trans q)) (by decide)
    · have q5 : 0 < x.1 i 7 := by
        rw [i_lt, i_1] at q
        rw [i_lt, i_0]
        omega
      have q4 := (one_lt q5).1.mpr q
      exact h7 (by rw [hnext q1 q4 q5]; exact q4)
  · rintro ⟨h1, h2, h3, h8, h9⟩
    have q1 : ¬ skc x.2.2.1 x.2.2.2.2.2.2.2.2.2.1 sc x.1 i := fun q => h2 ((a q 3).trans (by rw [skS_at]; rfl))
    rcases f7 with f | f
    · exfalso
      rw [f.2] at h8
      by_cases q2 : mvc sc x.1 i
      · have q4 : ¬ 0 < x.1 i 7 - 1 := fun q => h3 ((one_lt q2.2.2).1.mp q)
        have e : (hM n5 PC ps sc bc hh x).1 i 7 = x.1 i 7 - 1 := by
          by_cases q3 : arr PC ps x.1 i
          · exact (b q1 q2 q3 7).trans (by rw [rsS_at, if_neg (by decide), if_neg (by decide), coS_at, if_neg q4]; rfl)
          · exact (c3 q1 q2 q3 7).trans (by rw [coS_at, if_neg q4]; rfl)
        rw [e] at h8
        exact q4 h8
      · rw [d q1 q2 7] at h8
        by_cases q : x.1 i 3 = 1
        · exact q2 ⟨hi, q, h8⟩
        · rw [hz q] at h8
          exact absurd h8 (by decide)
    · exact ⟨f.1, f.2.1, f.2.2.1, f.2.2.2.1, h9⟩
/-- the way's next cell stays beside -/
theorem aJ_f {x : HW} (h5 : n5 = 5) (hsc : sc ≤ 5) (hbc : bc ≤ 40) (hN : nOK N) (hS : sTK x.2.2.2.2.2.2.2.2.1) (hI : hIV PC ps sc bc x.2.2.1 x.2.2.2.2.2.2.2.2.2.1 ch x.1 x.2.1 MX B) (hA : aJ x.1 sc) :
    aJ (reI sc (hZ n5 l5 N PC ps sc bc hh x).1 n5) sc := by
  intro i hi h3 h7
  have hZ0 := hZ_f (n5 := n5) (l5 := l5) (hh := hh) hI hsc hbc hN hS
  obtain ⟨a, b, c3, d⟩ := hM_row (n5 := n5) (bc := bc) (PC := PC) (ps := ps) (hh := hh) (x := x) h5 hi hsc
  obtain ⟨e0, e1, e3, e4, e5, e2, e6, e7⟩ := hE_row hZ0 i
  have f7 : ((hZ n5 l5 N PC ps sc bc hh x).1 i 6 = (hM n5 PC ps sc bc hh x).1 i 6 ∧ (hZ n5 l5 N PC ps sc bc hh x).1 i 7 = (hM n5 PC ps sc bc hh x).1 i 7) ∨ (i < sc ∧ (hM n5 PC ps sc bc hh x).1 i 3 = 1 ∧ ¬ 0 < (hM n5 PC ps sc bc hh x).1 i 7 ∧ 0 < (hZ n5 l5 N PC ps sc bc hh x).1 i 7 ∧ adj (cN ((hM n5 PC ps sc bc hh x).1 i 4)) (cN ((hZ n5 l5 N PC ps sc bc hh x).1 i 6)) = true) := hZ0.2.2.1 i
  rw [e3] at h3
  have h3 : (hM n5 PC ps sc bc hh x).1 i 3 = 1 := h3
  rw [e7] at h7
  rw [e4, e6]
  show adj (cN ((hM n5 PC ps sc bc hh x).1 i 4)) _ = true
  rcases f7 with f | f
  · rw [f.1]
    rw [f.2] at h7
    have q1 : ¬ skc x.2.2.1 x.2.2.2.2.2.2.2.2.2.1 sc x.1 i := fun q => absurd (h3.symm.trans ((a q 3).trans (by rw [skS_at]; rfl : skS x.1 i i 3 = 2))) (by decide)
    by_cases q2 : mvc sc x.1 i
    · by_cases q3 : arr PC ps x.1 i
      · exact absurd (h3.symm.trans ((b q1 q2 q3 3).trans (by rw [rsS_at]; rfl : rsS (coS x.1 i) i i 3 = 0))) (by decide)
      · have r := c3 q1 q2 q3
        by_cases q4 : 0 < x.1 i 7 - 1
        · rw [r 4, r 6, coS_at, coS_at, if_pos q4, if_pos q4]
          exact hA i hi q2.2.1 q2.2.2
        · rw [r 7, coS_at, if_neg q4] at h7
          exact absurd h7 q4
    · have r := d q1 q2
      rw [r 3] at h3
      rw [r 7] at h7
      exact absurd ⟨hi, h3, h7⟩ q2
  · exact f.2.2.2.2
end FB75
