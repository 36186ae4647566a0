/-! what an hour does to a sleigh -/
section FS74
variable {n5 sc bc ps hh B : Nat} {l5 : Value} {N O PC T C MX : Nat → Int32} {ch : Int32}
def aJ (SF : Nat → Nat → Int32) (sc : Nat) : Prop := ∀ i, i < sc → SF i 3 = 1 → 0 < SF i 7 → adj (cN (SF i 4)) (cN (SF i 6)) = true
def tUp (t : Int32) : Int32 := if t + 1 < 100 then t + 1 else 100
def tDn (t : Int32) : Int32 := if 0 < t - 2 then t - 2 else 0
/-- the thickness that a load needs, by what the cracks are afterwards -/
def ndM (C : Nat → Int32) (k : Nat) (nd : Int32) : Int32 := nd * (if ¬ C k = 0 then 2 else 1)
def slF (T Cn : Nat → Int32) (SF SE : Nat → Nat → Int32) (i : Nat) : Prop :=
  SE i 0 = SF i 0 ∧ (0 ≤ (SE i 2).toInt ∧ (SE i 2).toInt ≤ 100) ∧
  (SF i 3 = 2 → SE i 3 = 2 ∧ SE i 4 = SF i 4) ∧
  (¬ SF i 3 = 2 → SE i 3 = 2 → SE i 4 = SF i 4 ∧ ¬ T (cN (SF i 4)) < 0 ∧ T (cN (SF i 4)) < ndM Cn (cN (SF i 4)) (slN SF i) ∧ SE i 5 = -1 ∧ SE i 7 = 0) ∧
  (¬ SF i 3 = 2 → ¬ SE i 3 = 2 → (SF i 7 = 1 → adj (cN (SF i 4)) (cN (SE i 4)) = true ∧ SE i 2 = (if SE i 3 = 0 then tDn (tUp (SF i 2)) else tUp (SF i 2))) ∧ (¬ SF i 7 = 1 → SE i 4 = SF i 4) ∧ (1 < SF i 7 → SE i 7 = SF i 7 - 1 ∧ SE i 3 = 1) ∧ (SF i 3 = 0 → SE i 3 = 0) ∧ (SE i 3 = 0 → SF i 3 = 1 → SF i 7 = 1))
theorem tUp_ok {t : Int32} (h : 0 ≤ t.toInt ∧ t.toInt ≤ 100) : 0 ≤ (tUp t).toInt ∧ (tUp t).toInt ≤ 100 := (t_up h).2.2
theorem tDn_ok {t : Int32} (h : 0 ≤ t.toInt ∧ t.toInt ≤ 100) : 0 ≤ (tDn t).toInt ∧ (tDn t).toInt ≤ 100 := (t_dn h).2.2
/-- the last rows out of those that sank or went -/
theorem hE_row {T : Nat → Int32} {sc n5 : Nat} {x y : SO} (h : soF T sc x y n5) (i : Nat) :
    reI sc y.1 n5 i 0 = x.1 i 0 ∧ reI sc y.1 n5 i 1 = x.1 i 1 ∧ reI sc y.1 n5 i 3 = x.1 i 3 ∧ reI sc y.1 n5 i 4 = x.1 i 4 ∧ reI sc y.1 n5 i 5 = x.1 i 5 ∧
    reI sc y.1 n5 i 2 = (if i < n5 ∧ i < sc ∧ x.1 i 3 = 0 then tDn (x.1 i 2) else x.1 i 2) ∧ reI sc y.1 n5 i 6 = y.1 i 6 ∧ reI sc y.1 n5 i 7 = y.1 i 7 := by
  have e : ∀ k, ¬ k = 2 → reI sc y.1 n5 i k = y.1 i k := fun k hk => (reI_at n5).trans (if_neg (fun q => hk q.2.2.2))
  have f : ∀ k, ¬ k = 6 → ¬ k = 7 → ¬ k = 8 → y.1 i k = x.1 i k := fun k a b c => h.1 i k a b c
  refine ⟨(e 0 (by decide)).trans (f 0 (by decide) (by decide) (by decide)), (e 1 (by decide)).trans (f 1 (by decide) (by decide) (by decide)), (e 3 (by decide)).trans (f 3 (by decide) (by decide) (by decide)), (e 4 (by decide)).trans (f 4 (by decide) (by decide) (by decide)), (e 5 (by decide)).trans (f 5 (by decide) (by decide) (by decide)), ?_, e 6 (by decide), e 7 (by decide)⟩
  refine (reI_at n5).trans ?_
  rw [f 3 (by decide) (by decide) (by decide), f 2 (by decide) (by decide) (by decide)]
  unfold tDn
  exact ifc ⟨fun q => ⟨q.1, q.2.1, q.2.2.1⟩, fun q => ⟨q.1, q.2.1, q.2.2, rfl⟩⟩
theorem one_lt {v : Int32} (h : 0 < v) : (0 < v - 1 ↔ 1 < v) ∧ (¬ 0 < v - 1 ↔ v = 1) := by
  obtain ⟨k, hk, rfl⟩ := nI_of (Int32.not_lt.mpr (fa_of_lt h).1)
  have h1 := (nI_ltI (a := 0) (b := k) (by omega) hk).mp h
  have e : nI k - 1 = nI (k - 1) := pk_sub (a := k) (b := 1) (by omega)
  have a : 0 < nI k - 1 ↔ 1 < k := by
    rw [e]
    exact (nI_ltI (a := 0) (b := k - 1) (by omega) (by omega)).trans ⟨fun q => by omega, fun q => by omega⟩
  refine ⟨a.trans (nI_ltI (a := 1) (b := k) (by omega) hk).symm, (not_congr a).trans ⟨fun q => ?_, fun q => ?_⟩⟩
  · rw [show k = 1 by omega]
    rfl
  · have := (nI_eq (a := k) (b := 1) hk (by omega)).mp q
    omega
theorem hoB_no {T C Cn : Nat → Int32} {k : Nat} {nd : Int32} (h : ¬ hoB T C k nd = true) (hm : ¬ C k = 0 → ¬ Cn k = 0) (hn : ∃ m, m ≤ 177 ∧ nd = nI m) : ¬ T k < 0 ∧ T k < ndM Cn k nd := by
  obtain ⟨m, hm7, rfl⟩ := hn
  have h : ¬ (T k < 0 ∨ (if C k = 0 then nI m else 2 * nI m) ≤ T k) := fun q => h (by
    unfold hoB
    rw [Bool.or_eq_true, decide_eq_true_eq, decide_eq_true_eq]
    exact q)
  have h1 : ¬ T k < 0 := fun q => h (Or.inl q)
  have h2 : ¬ (if C k = 0 then nI m else 2 * nI m) ≤ T k := fun q => h (Or.inr q)
  refine ⟨h1, ?_⟩
  obtain ⟨t, ht, e⟩ := nI_of h1
  have e2 : nI m * 2 = nI (2 * m) := by rw [Int32.mul_comm]; exact (pk_mul 2 m)
  have e2' : 2 * nI m = nI (2 * m) := pk_mul 2 m
  unfold ndM
  rw [e] at h2 ⊢
  by_cases hc : C k = 0
  · rw [if_pos hc] at h2
    have h3 : t < m := (nI_ltI ht (by omega)).mp (Int32.not_le.mp h2)
    split
    · rw [e2]
      exact nI_lt (by omega) (by omega)
    · rw [Int32.mul_one]
      exact nI_lt h3 (by omega)
  · rw [if_neg hc, e2'] at h2
    rw [if_pos (hm hc), e2]
    exact Int32.not_le.mp h2
theorem sl_f {x : HW} {i : Nat} (h5 : n5 = 5) (hi : i < sc) (hsc : sc ≤ 5) (hbc : bc ≤ 40) (hN : nOK N) (hS : sTK x.2.2.2.2.2.2.2.2.1) (hI : hIV PC ps sc bc x.2.2.1 x.2.2.2.2.2.2.2.2.2.1 ch x.1 x.2.1 MX B) (hJ : jV x.1 sc) (hA : aJ x.1 sc) :
    slF x.2.2.1 (hZ n5 l5 N PC ps sc bc hh x).2.2.2.2.2.2.1 x.1 (reI sc (hZ n5 l5 N PC ps sc bc hh x).1 n5) i := by
  have hZ0 := hZ_f (n5 := n5) (l5 := l5) (hh := hh) hI hsc hbc hN hS
  obtain ⟨a, b, c, d⟩ := hM_row (n5 := n5) (bc := bc) (PC := PC) (ps := ps) (hh := hh) (x := x) h5 hi hsc
  have hiM := hM_iv (n5 := n5) (hh := hh) hI hsc hbc
  have h45 := (hI.1 i hi).2.1
  have ht := hJ.1 i hi
  have hz := hJ.2 i hi
  obtain ⟨p1, p2, p3⟩ := hI.2.1 i hi
  have hw := slN_nI (wt_bd hI.2.2.2.1 hI.2.2.2.2.1 hI.1 hsc hi)
  have haj := hA i hi
  have hcr : ∀ c, c < 160 → ¬ x.2.2.2.2.2.2.2.2.2.1 c = 0 → ¬ (hZ n5 l5 N PC ps sc bc hh x).2.2.2.2.2.2.1 c = 0 := fun c hc => (hZ0.2.2.2.2.1 c hc).1
  obtain ⟨e0, e1, e3, e4, e5, e2, e6, e7⟩ := hE_row hZ0 i
  have f7 := hZ0.2.2.1 i
  have hin : i < n5 := by omega
  unfold slF
  rw [e0, e3, e4, e5, e2, e7]
  show (hM n5 PC ps sc bc hh x).1 i 0 = _ ∧ _
  have f7 : ((hZ n5 l5 N PC ps sc bc hh x).1 i 6 = (hM n5 PC ps sc bc hh x).1 i 6 ∧ (hZ n5 l5 N PC ps sc bc hh x).1 i 7 = (hM n5 PC ps sc bc hh x).1 i 7) ∨ (i < sc ∧ (hM n5 PC ps sc bc hh x).1 i 3 = 1 ∧ ¬ 0 < (hM n5 PC ps sc bc hh x).1 i 7 ∧ 0 < (hZ n5 l5 N PC ps sc bc hh x).1 i 7 ∧ adj (cN ((hM n5 PC ps sc bc hh x).1 i 4)) (cN ((hZ n5 l5 N PC ps sc bc hh x).1 i 6)) = true) := f7
  simp only [hin, hi, true_and]
  generalize (hZ n5 l5 N PC ps sc bc hh x).1 i 7 = z7 at f7 ⊢
  generalize (hZ n5 l5 N PC ps sc bc hh x).1 i 6 = z6 at f7
  by_cases q1 : skc x.2.2.1 x.2.2.2.2.2.2.2.2.2.1 sc x.1 i
  · have r := a q1
    have v0 : (hM n5 PC ps sc bc hh x).1 i 0 = x.1 i 0 := by rw [r, skS_at]; rfl
    have v2 : (hM n5 PC ps sc bc hh x).1 i 2 = x.1 i 2 := by rw [r, skS_at]; rfl
    have v3 : (hM n5 PC ps sc bc hh x).1 i 3 = 2 := by rw [r, skS_at]; rfl
    have v4 : (hM n5 PC ps sc bc hh x).1 i 4 = x.1 i 4 := by rw [r, skS_at]; rfl
    have v5 : (hM n5 PC ps sc bc hh x).1 i 5 = -1 := by rw [r, skS_at]; rfl
    have v7 : (hM n5 PC ps sc bc hh x).1 i 7 = 0 := by rw [r, skS_at]; rfl
    rw [v3, v7] at f7
    rw [v0, v2, v3, v4, v5, if_neg (show ¬ (2 : Int32) = 0 by decide)]
    have f7 : z7 = 0 := by
      rcases f7 with f | f
      · exact f.2
      · exact absurd f.2.1 (by decide)
    have hb := hoB_no (Cn := (hZ n5 l5 N PC ps sc bc hh x).2.2.2.2.2.2.1) q1.2.2 (hcr _ (cN_of h45).2) hw
    refine ⟨rfl, ht, fun q => absurd q q1.2.1, fun _ _ => ⟨rfl, hb.1, hb.2, rfl, f7⟩, fun _ q => absurd rfl q⟩
  · by_cases q2 : mvc sc x.1 i
    · have h1 : ¬ x.1 i 3 = 2 := fun q => absurd (q2.2.1.symm.trans q) (by decide)
      have h0 : ¬ x.1 i 3 = 0 := fun q => absurd (q2.2.1.symm.trans q) (by decide)
      obtain ⟨l1, l2⟩ := one_lt q2.2.2
      have ha := haj q2.2.1 q2.2.2
      by_cases q3 : arr PC ps x.1 i
      · have r := b q1 q2 q3
        have hs1 := l2.mp q3.1
        have v0 : (hM n5 PC ps sc bc hh x).1 i 0 = x.1 i 0 := by rw [r, rsS_at, if_neg (by decide), if_neg (by decide), coS_at, if_neg q3.1]; rfl
        have v2 : (hM n5 PC ps sc bc hh x).1 i 2 = tUp (x.1 i 2) := by rw [r, rsS_at, if_neg (by decide), if_neg (by decide), coS_at, if_neg q3.1, if_pos rfl]; rfl
        have v3 : (hM n5 PC ps sc bc hh x).1 i 3 = 0 := by rw [r, rsS_at, if_neg (by decide), if_pos rfl]
        have v4 : (hM n5 PC ps sc bc hh x).1 i 4 = x.1 i 6 := by rw [r, rsS_at, if_neg (by decide), if_neg (by decide), coS_at, if_neg q3.1]; rfl
        rw [v0, v2, v3, v4, if_pos rfl]
        refine ⟨rfl, tDn_ok (tUp_ok ht), fun q => absurd q h1, fun _ q => absurd q (by decide), fun _ _ => ⟨fun _ => ⟨ha, rfl⟩, fun q => absurd hs1 q, fun q => absurd q (by rw [hs1]; decide), fun q => absurd q h0, fun _ _ => hs1⟩⟩
      · have r := c q1 q2 q3
        by_cases q4 : 0 < x.1 i 7 - 1
        · have v0 : (hM n5 PC ps sc bc hh x).1 i 0 = x.1 i 0 := by rw [r, coS_at, if_pos q4]; rfl
          have v2 : (hM n5 PC ps sc bc hh x).1 i 2 = x.1 i 2 := by rw [r, coS_at, if_pos q4]; rfl
          have v3 : (hM n5 PC ps sc bc hh x).1 i 3 = x.1 i 3 := by rw [r, coS_at, if_pos q4]; rfl
          have v4 : (hM n5 PC ps sc bc hh x).1 i 4 = x.1 i 4 := by rw [r, coS_at, if_pos q4]; rfl
          have v7 : (hM n5 PC ps sc bc hh x).1 i 7 = x.1 i 7 - 1 := by rw [r, coS_at, if_pos q4]; rfl
          rw [v3, v7] at f7
          have f7 : z7 = x.1 i 7 - 1 := by
            rcases f7 with f | f
            · exact f.2
            · exact absurd q4 f.2.2.1
          have hs1 := l1.mp q4
          have hne : ¬ x.1 i 7 = 1 := fun q => absurd hs1 (by rw [q]; decide)
          rw [v0, v2, v3, v4, f7]
          refine ⟨rfl, ?_, fun q => absurd q h1, fun q q9 => absurd q9 q, fun _ _ => ⟨fun q => absurd q hne, fun _ => rfl, fun _ => ⟨rfl, q2.2.1⟩, fun q => q, fun q => absurd q h0⟩⟩
          rw [if_neg h0]
          exact ht
        · have hs1 := l2.mp q4
          have v0 : (hM n5 PC ps sc bc hh x).1 i 0 = x.1 i 0 := by rw [r, coS_at, if_neg q4]; rfl
          have v2 : (hM n5 PC ps sc bc hh x).1 i 2 = tUp (x.1 i 2) := by rw [r, coS_at, if_neg q4, if_pos rfl]; rfl
          have v3 : (hM n5 PC ps sc bc hh x).1 i 3 = x.1 i 3 := by rw [r, coS_at, if_neg q4]; rfl
          have v4 : (hM n5 PC ps sc bc hh x).1 i 4 = x.1 i 6 := by rw [r, coS_at, if_neg q4]; rfl
          rw [v0, v2, v3, v4, if_neg h0]
          refine ⟨rfl, tUp_ok ht, fun q => absurd q h1, fun q q9 => absurd q9 q, fun _ _ => ⟨fun _ => ⟨ha, rfl⟩, fun q => absurd hs1 q, fun q => absurd q (by rw [hs1]; decide), fun q => q, fun q => absurd q h0⟩⟩
    · have r := d q1 q2
      rw [r 0, r 2, r 3, r 4]
      have hl : x.1 i 3 = 1 → ¬ 0 < x.1 i 7 := fun q q9 => q2 ⟨hi, q, q9⟩
      have hl2 : ¬ 0 < x.1 i 7 := fun q9 => by
        by_cases q : x.1 i 3 = 1
        · exact hl q q9
        · rw [hz q] at q9
          exact absurd q9 (by decide)
      have hl3 : ¬ x.1 i 7 = 1 := fun q => hl2 (by rw [q]; decide)
      have hl4 : ¬ 1 < x.1 i 7 := fun q => hl2 (by
        rw [i_lt, i_1] at q
        rw [i_lt, i_0]
        omega)
      refine ⟨rfl, ?_, fun q => ⟨q, rfl⟩, fun q q9 => absurd q9 q, fun _ _ => ⟨fun q => absurd q hl3, fun _ => rfl, fun q => absurd q hl4, fun q => q, fun q q9 => absurd (q9.symm.trans q) (by decide)⟩⟩
      split
      · exact tDn_ok ht
      · exact ht
end FS74
