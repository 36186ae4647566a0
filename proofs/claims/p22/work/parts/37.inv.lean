/-! what holds of a world between calls and between hours, and that an hour keeps it -/
def iPS (PC : Nat → Int32) (ps : Nat) (SF : Nat → Nat → Int32) (sc : Nat) : Prop := ∀ i, i < sc → (SF i 3 = 0 ∨ SF i 3 = 1 ∨ SF i 3 = 2) ∧ (SF i 3 = 0 → (0 ≤ SF i 5 ∧ SF i 5 < nI ps) ∧ SF i 4 = cop PC ps (SF i 5)) ∧ (SF i 3 = 1 → (0 ≤ SF i 5 ∧ SF i 5 < nI ps) ∧ 0 ≤ SF i 7 ∧ (¬ 0 < SF i 7 → ¬ SF i 4 = cop PC ps (SF i 5)))
def nWI (T C PC : Nat → Int32) (ps : Nat) (SF : Nat → Nat → Int32) (sc : Nat) (ch : Int32) : Prop := ∀ i, i < sc → SF i 3 = 1 → SF i 8 < ch ∨ (SF i 8 = ch ∧ ¬ 0 < SF i 7 ∧ ∀ n, ¬ Rch (HbS T C SF i) (cN (cop PC ps (SF i 5))) n (cN (SF i 4)))
def mXI (SF : Nat → Nat → Int32) (MX : Nat → Int32) (sc : Nat) : Prop := ∀ i, i < sc → SF i 3 = 1 → 0 < SF i 7 → MX i = SF i 6
def bWI (BF : Nat → Nat → Int32) (bc : Nat) : Prop := ∀ b, b < bc → 0 ≤ (BF b 0).toInt ∧ (BF b 0).toInt ≤ 30
def chB (ch : Int32) (B : Nat) : Prop := 0 ≤ ch.toInt ∧ ch.toInt ≤ B
/-- sleighs, bags, lake -/
def hIV (PC : Nat → Int32) (ps sc bc : Nat) (T C : Nat → Int32) (ch : Int32) (SF BF : Nat → Nat → Int32) (MX : Nat → Int32) (B : Nat) : Prop :=
  sOK SF sc ∧ iPS PC ps SF sc ∧ nWI T C PC ps SF sc ch ∧ hWI SF BF bc ∧ bWI BF bc ∧ (tOK T ∧ cOK C ∧ lOK T C) ∧ mXI SF MX sc ∧ chB ch B
theorem chB.next {ch : Int32} {B : Nat} (h : chB ch B) (hB : B < 2 ^ 30) : chB (ch + 1) (B + 1) ∧ ch < ch + 1 := by
  have e : (ch + 1).toInt = ch.toInt + 1 := by
    have := h.1
    have := h.2
    have h1 : (1 : Int32).toInt = 1 := by decide
    rw [fb_addI (by rw [h1]; omega) (by rw [h1]; omega), h1]
  unfold chB at h ⊢
  rw [i_lt, e]
  omega
theorem chB.up {ch : Int32} {B B' : Nat} (h : chB ch B) (hB : B ≤ B') : chB ch B' := ⟨h.1, by have := h.2; omega⟩
theorem sum_bd {BF : Nat → Nat → Int32} {bc : Nat} {s : Int32} (h : bWI BF bc) : ∀ n, n ≤ 40 → ∃ m, m ≤ 30 * n ∧ sumN (wgF BF bc s) n = nI m
  | 0, _ => ⟨0, Nat.le_refl _, rfl⟩
  | n + 1, hn => by
    obtain ⟨m, h1, h2⟩ := sum_bd h n (by omega)
    have e : sumN (wgF BF bc s) (n + 1) = nI m + wgF BF bc s n := by rw [← h2]; rfl
    rw [e]
    unfold wgF
    by_cases hc : n < bc ∧ BF n 2 = 1 ∧ BF n 3 = s
    · rw [if_pos hc]
      have hb := h n hc.1
      obtain ⟨j, hj, ej⟩ := nI_mk (x := BF n 0) (n := 31) hb.1 (by omega) (by decide)
      exact ⟨m + j, by omega, by rw [ej, nI_add]⟩
    · rw [if_neg hc]
      exact ⟨m, by omega, Int32.add_zero _⟩
theorem wt_bd {SF BF : Nat → Nat → Int32} {bc sc i : Nat} (hw : hWI SF BF bc) (hb : bWI BF bc) (hs : sOK SF sc) (hsc : sc ≤ 5) (hi : i < sc) : 0 ≤ (slW SF i).toInt ∧ (slW SF i).toInt ≤ 2039 := by
  obtain ⟨m, h1, h2⟩ := sum_bd (s := nI i) hb 40 (Nat.le_refl _)
  have hr := (hs i hi).1
  obtain ⟨r, hr2, er⟩ := nI_mk (x := SF i 0) (n := 7) (by omega) (by omega) (by decide)
  have e : slW SF i = nI (40 + 30 * r + m) := by
    unfold slW
    rw [hw i (by omega), h2, er]
    show nI 40 + nI 30 * nI r + nI m = _
    rw [pk_mul, nI_add, nI_add]
  rw [e, nI_toInt (by omega)]
  omega
section ONE
variable {PC T C : Nat → Int32} {ps sc n : Nat} {SF SG : Nat → Nat → Int32} {MX MY : Nat → Int32} {ch : Int32}
theorem iPS.one (h : iPS PC ps SF sc) (hs : ∀ i k, ¬ i = n → SG i k = SF i k) (hn : (SG n 3 = 0 ∨ SG n 3 = 1 ∨ SG n 3 = 2) ∧ (SG n 3 = 0 → (0 ≤ SG n 5 ∧ SG n 5 < nI ps) ∧ SG n 4 = cop PC ps (SG n 5)) ∧ (SG n 3 = 1 → (0 ≤ SG n 5 ∧ SG n 5 < nI ps) ∧ 0 ≤ SG n 7 ∧ (¬ 0 < SG n 7 → ¬ SG n 4 = cop PC ps (SG n 5)))) : iPS PC ps SG sc := by
  intro i hi
  by_cases e : i = n
  · subst e; exact hn
  · rw [hs i 3 e, hs i 4 e, hs i 5 e, hs i 7 e]
    exact h i hi
theorem nWI.one (h : nWI T C PC ps SF sc ch) (hs : ∀ i k, ¬ i = n → SG i k = SF i k) (hn : SG n 3 = 1 → SG n 8 < ch ∨ (SG n 8 = ch ∧ ¬ 0 < SG n 7 ∧ ∀ m, ¬ Rch (HbS T C SG n) (cN (cop PC ps (SG n 5))) m (cN (SG n 4)))) : nWI T C PC ps SG sc ch := by
  intro i hi
  by_cases e : i = n
  · subst e; exact hn
  · have e9 : HbS T C SG i = HbS T C SF i := by
      unfold HbS slN slW
      rw [hs i 0 e, hs i 1 e]
    rw [hs i 3 e, hs i 4 e, hs i 5 e, hs i 7 e, hs i 8 e, e9]
    exact h i hi
theorem mXI.one (h : mXI SF MX sc) (hs : ∀ i k, ¬ i = n → SG i k = SF i k) (hm : ∀ i, ¬ i = n → MY i = MX i) (hn : SG n 3 = 1 → 0 < SG n 7 → MY n = SG n 6) : mXI SG MY sc := by
  intro i hi
  by_cases e : i = n
  · subst e; exact hn
  · rw [hs i 3 e, hs i 6 e, hs i 7 e, hm i e]
    exact h i hi
theorem nWI.later {T' C' : Nat → Int32} {ch' : Int32} (h : nWI T C PC ps SF sc ch) (hc : ch < ch') : nWI T' C' PC ps SF sc ch' := by
  intro i hi h1
  left
  rcases h i hi h1 with h2 | ⟨h2, -⟩
  · exact (fa_trans h2 (fa_of_lt hc).1)
  · rw [h2]; exact hc
theorem Rch.on {Hb Hb' : Nat → Bool} {g : Nat} (h : ∀ c, c < 160 → Hb' c = true → Hb c = true) : ∀ {n c : Nat}, Rch Hb' g n c → Rch Hb g n c
  | 0, _, q => q
  | n + 1, c, q => by
    obtain ⟨c', i, h1, h2, h3, h4, h5⟩ := q
    exact ⟨c', i, h1, h2, h3, Rch.on h h4, h c' h2 h5⟩
/-- what bears no more than before opens no way -/
theorem nWI.less {T' C' : Nat → Int32} (h : nWI T C PC ps SF sc ch) (hs : ∀ i, i < sc → ∀ k, k < 160 → HbS T' C' SF i k = true → HbS T C SF i k = true) : nWI T' C' PC ps SF sc ch := by
  intro i hi h1
  rcases h i hi h1 with h2 | ⟨h2, h3, h4⟩
  · exact Or.inl h2
  · exact Or.inr ⟨h2, h3, fun n hr => h4 n (Rch.on (hs i hi) hr)⟩
end ONE
theorem slN_nI {SF : Nat → Nat → Int32} {i : Nat} (h : 0 ≤ (slW SF i).toInt ∧ (slW SF i).toInt ≤ 2039) : ∃ m, m ≤ 177 ∧ slN SF i = nI m := by
  obtain ⟨w, hw, e⟩ := nI_mk (x := slW SF i) (n := 2040) h.1 (by omega) (by decide)
  refine ⟨8 + w / 12, by omega, ?_⟩
  unfold slN
  rw [e, show nI w / (12 : Int32) = nI (w / 12) from pk_div (d := 12) (by omega) (by decide) (by decide)]
  exact nI_add 8 _
theorem hoB_less {T C T' C' : Nat → Int32} {k m : Nat} (hm : m < 2 ^ 29) (hT : T' k < 0 → T k < 0) (hT2 : T' k ≤ T k) (hC : C' k = 0 → C k = 0) (h : hoB T' C' k (nI m) = true) : hoB T C k (nI m) = true := by
  rw [hoB_iff] at h ⊢
  rw [i_le] at hT2
  rcases h with h | h
  · exact Or.inl (hT h)
  · right
    by_cases h0 : C' k = 0
    · rw [if_pos h0, i_le] at h
      rw [if_pos (hC h0), i_le]
      omega
    · rw [if_neg h0, show (2 : Int32) * nI m = nI (2 * m) from pk_mul 2 m, i_le, nI_toInt (by omega)] at h
      by_cases h1 : C k = 0
      · rw [if_pos h1, i_le, nI_toInt (by omega)]
        omega
      · rw [if_neg h1, show (2 : Int32) * nI m = nI (2 * m) from pk_mul 2 m, i_le, nI_toInt (by omega)]
        omega
theorem skS_same {S : Nat → Nat → Int32} {n : Nat} : ∀ i k, ¬ i = n → skS S n i k = S i k := fun i k h => by
  unfold skS
  rw [upS_n _ _ (fun q => h q.1), upS_n _ _ (fun q => h q.1), upS_n _ _ (fun q => h q.1), upS_n _ _ (fun q => h q.1), upS_n _ _ (fun q => h q.1)]
theorem skS_3 {S : Nat → Nat → Int32} {n : Nat} : skS S n n 3 = 2 := by
  unfold skS
  rw [upS_n _ _ (by omega), upS_n _ _ (by omega), upS_n _ _ (by omega), upS_n _ _ (by omega), upS_s]
theorem coS_same {S : Nat → Nat → Int32} {n : Nat} : ∀ i k, ¬ i = n → coS S n i k = S i k := fun i k h => by
  unfold coS
  split
  · rw [upS_n _ _ (fun q => h q.1)]
  · rw [upS_n _ _ (fun q => h q.1), upS_n _ _ (fun q => h q.1), upS_n _ _ (fun q => h q.1), upS_n _ _ (fun q => h q.1)]
theorem coS_k {S : Nat → Nat → Int32} {n k : Nat} (h2 : ¬ k = 2) (h4 : ¬ k = 4) (h6 : ¬ k = 6) (h7 : ¬ k = 7) : coS S n n k = S n k := by
  unfold coS
  split
  · rw [upS_n _ _ (fun q => h7 q.2)]
  · rw [upS_n _ _ (fun q => h2 q.2), upS_n _ _ (fun q => h6 q.2), upS_n _ _ (fun q => h4 q.2), upS_n _ _ (fun q => h7 q.2)]
theorem coS_7 {S : Nat → Nat → Int32} {n : Nat} : coS S n n 7 = S n 7 - 1 := by
  unfold coS
  split
  · rw [upS_s]
  · rw [upS_n _ _ (by omega), upS_n _ _ (by omega), upS_n _ _ (by omega), upS_s]
theorem coS_6 {S : Nat → Nat → Int32} {n : Nat} (h : 0 < S n 7 - 1) : coS S n n 6 = S n 6 := by
  unfold coS
  rw [if_pos h, upS_n _ _ (by omega)]
theorem rsS_same {S : Nat → Nat → Int32} {n : Nat} : ∀ i k, ¬ i = n → rsS S n i k = S i k := fun i k h => by
  unfold rsS
  rw [upS_n _ _ (fun q => h q.1), upS_n _ _ (fun q => h q.1)]
theorem rsS_k {S : Nat → Nat → Int32} {n k : Nat} (h1 : ¬ k = 1) (h3 : ¬ k = 3) : rsS S n n k = S n k := by
  unfold rsS
  rw [upS_n _ _ (fun q => h1 q.2), upS_n _ _ (fun q => h3 q.2)]
theorem rsS_3 {S : Nat → Nat → Int32} {n : Nat} : rsS S n n 3 = 0 := by
  unfold rsS
  rw [upS_n _ _ (by omega), upS_s]
theorem bWI.sk {BF : Nat → Nat → Int32} {bc m : Nat} {s : Int32} (h : bWI BF bc) : bWI (lsB BF bc s m) bc := by
  intro b hb
  rw [lsB_at]
  split
  · exact h b hb
  · exact h b hb
theorem bWI.ul {BF : Nat → Nat → Int32} {bc m : Nat} {s q x : Int32} (h : bWI BF bc) : bWI (ulB BF bc s q x m).1 bc := by
  intro b hb
  rw [ulB_at]
  split
  · rw [pdB_at, if_pos rfl]
    exact h b hb
  · exact h b hb
section STEPS
variable {PC T C : Nat → Int32} {ps sc bc n B : Nat} {SF BF : Nat → Nat → Int32} {MX : Nat → Int32} {ch : Int32}
theorem hIV.sk (h : hIV PC ps sc bc T C ch SF BF MX B) (hsc : sc ≤ 5) (hbc : bc ≤ 40) (hn : n < sc) : hIV PC ps sc bc T C ch (skS SF n) (lsB BF bc (nI n) 40) MX B := by
  obtain ⟨a1, a2, a3, a4, a5, a6, a7, a8⟩ := h
  refine ⟨skS_ok a1, a2.one skS_same ?_, a3.one skS_same ?_, a4.sk (by omega) hbc, a5.sk, a6, a7.one skS_same (fun _ _ => rfl) ?_, a8⟩
  · rw [skS_3]
    exact ⟨Or.inr (Or.inr rfl), fun q => absurd q (by decide), fun q => absurd q (by decide)⟩
  · rw [skS_3]
    exact fun q => absurd q (by decide)
  · rw [skS_3]
    exact fun q => absurd q (by decide)
theorem pos_m1 {x : Int32} (h : 0 < x) : (x - 1).toInt = x.toInt - 1 := by
  have hr := fb_rng x
  rw [i_lt, i_0] at h
  have h1 : (1 : Int32).toInt = 1 := by decide
  rw [fb_subI (by rw [h1]; omega) (by rw [h1]; omega), h1]
theorem hIV.co (h : hIV PC ps sc bc T C ch SF BF MX B) (hn : n < sc) (h3 : SF n 3 = 1) (h7 : 0 < SF n 7) (hg : 0 < SF n 7 - 1 ∨ ¬ SF n 6 = cop PC ps (SF n 5)) : hIV PC ps sc bc T C ch (coS SF n) BF MX B := by
  obtain ⟨a1, a2, a3, a4, a5, a6, a7, a8⟩ := h
  have hp := a2 n hn
  have e7 := pos_m1 h7
  have hz : 0 ≤ SF n 7 - 1 := by
    rw [i_le, i_0, e7]
    rw [i_lt, i_0] at h7
    omega
  have k3 : coS SF n n 3 = SF n 3 := coS_k (by decide) (by decide) (by decide) (by decide)
  have k5 : coS SF n n 5 = SF n 5 := coS_k (by decide) (by decide) (by decide) (by decide)
  have k8 : coS SF n n 8 = SF n 8 := coS_k (by decide) (by decide) (by decide) (by decide)
  refine ⟨coS_ok hn h7 a1, a2.one coS_same ?_, a3.one coS_same ?_, a4.co, a5, a6, a7.one coS_same (fun _ _ => rfl) ?_, a8⟩
  · rw [k3, k5, coS_7, h3]
    refine ⟨Or.inr (Or.inl rfl), fun q => absurd q (by decide), fun _ => ⟨(hp.2.2 h3).1, hz, fun q => ?_⟩⟩
    rw [cw_4 q]
    exact hg.resolve_left q
  · rw [k8]
    intro _
    left
    rcases a3 n hn h3 with h2 | ⟨-, h2, -⟩
    · exact h2
    · exact absurd h7 h2
  · rw [k3, coS_7]
    intro _ q
    rw [coS_6 q]
    exact a7 n hn h3 h7
theorem hIV.rs {x : Int32} (h : hIV PC ps sc bc T C ch SF BF MX B) (hsc : sc ≤ 5) (hbc : bc ≤ 40) (hn : n < sc) (h3 : SF n 3 = 1) (h7 : 0 < SF n 7) (hg : ¬ 0 < SF n 7 - 1) (hg2 : SF n 6 = cop PC ps (SF n 5)) : hIV PC ps sc bc T C ch (rsS (coS SF n) n) (ulB BF bc (nI n) (rsS (coS SF n) n n 5) x 40).1 MX B := by
  obtain ⟨a1, a2, a3, a4, a5, a6, a7, a8⟩ := h
  have hp := a2 n hn
  have hsame : ∀ i k, ¬ i = n → rsS (coS SF n) n i k = SF i k := fun i k hi => by rw [rsS_same i k hi, coS_same i k hi]
  have k5 : rsS (coS SF n) n n 5 = SF n 5 := by rw [rsS_k (by decide) (by decide), coS_k (by decide) (by decide) (by decide) (by decide)]
  have k4 : rsS (coS SF n) n n 4 = SF n 6 := by rw [rsS_k (by decide) (by decide), cw_4 hg]
  refine ⟨((coS_ok hn h7 a1).up (by omega)).up (by omega), a2.one hsame ?_, a3.one hsame ?_, ?_, a5.ul, a6, a7.one hsame (fun _ _ => rfl) ?_, a8⟩
  · rw [rsS_3, k5, k4]
    exact ⟨Or.inl rfl, fun _ => ⟨(hp.2.2 h3).1, hg2⟩, fun q => absurd q (by decide)⟩
  · rw [rsS_3]
    exact fun q => absurd q (by decide)
  · rw [k5]
    have h9 : hWI (upS (coS SF n) n 3 0) BF bc := (a4.co).up (by decide)
    exact h9.ul (by omega) hbc
  · rw [rsS_3]
    exact fun q => absurd q (by decide)
theorem mvT_no {hh : Nat} {c : Int32} (h : ¬ (n < sc ∧ (SF n 3 = 1 ∧ 0 < SF n 7))) : mvT PC ps sc bc hh n (SF, BF, c) = (SF, BF, c) := if_neg h
theorem mvT_c {hh : Nat} {c : Int32} : mvT PC ps sc bc hh n (SF, BF, c) = ((mvT PC ps sc bc hh n (SF, BF, 0)).1, (mvT PC ps sc bc hh n (SF, BF, 0)).2.1, c + (mvT PC ps sc bc hh n (SF, BF, 0)).2.2) := by
  unfold mvT
  dsimp only
  split
  · split
    · rw [Int32.zero_add]
    · rw [Int32.add_zero]
  · rw [Int32.add_zero]
theorem hIV.mv {hh : Nat} {c : Int32} (h : hIV PC ps sc bc T C ch SF BF MX B) (hsc : sc ≤ 5) (hbc : bc ≤ 40) : hIV PC ps sc bc T C ch (mvT PC ps sc bc hh n (SF, BF, c)).1 (mvT PC ps sc bc hh n (SF, BF, c)).2.1 MX B := by
  by_cases h1 : n < sc ∧ (SF n 3 = 1 ∧ 0 < SF n 7)
  · have k5 : coS SF n n 5 = SF n 5 := coS_k (by decide) (by decide) (by decide) (by decide)
    by_cases h2 : ¬ 0 < SF n 7 - 1 ∧ coS SF n n 4 = cop PC ps (coS SF n n 5)
    · have e : mvT PC ps sc bc hh n (SF, BF, c) = (rsS (coS SF n) n, (ulB BF bc (nI n) (rsS (coS SF n) n n 5) (nI hh) 40).1, c + (ulB BF bc (nI n) (rsS (coS SF n) n n 5) (nI hh) 40).2) := by
        unfold mvT
        rw [if_pos h1]
        exact if_pos h2
      rw [e]
      refine hIV.rs h hsc hbc h1.1 h1.2.1 h1.2.2 h2.1 ?_
      rw [← cw_4 h2.1, h2.2, k5]
    · have e : mvT PC ps sc bc hh n (SF, BF, c) = (coS SF n, BF, c) := by
        unfold mvT
        rw [if_pos h1]
        exact if_neg h2
      rw [e]
      refine hIV.co h h1.1 h1.2.1 h1.2.2 ?_
      by_cases h3 : 0 < SF n 7 - 1
      · exact Or.inl h3
      · refine Or.inr (fun q => h2 ⟨h3, ?_⟩)
        rw [cw_4 h3, k5]
        exact q
  · rw [mvT_no h1]
    exact h
end STEPS
theorem stU_lk {T S C : Nat → Int32} {k : Nat} {nd ch : Int32} (h : tOK T ∧ cOK C ∧ lOK T C) : tOK T ∧ cOK (stU T S C k nd ch).2.1 ∧ lOK T (stU T S C k nd ch).2.1 := by
  refine ⟨h.1, stU_ok h.2.1, fun j hj hT => ?_⟩
  unfold stU
  split
  · rename_i ht
    show upd C k (suC S C k) j = 0
    rw [pk_un]
    · exact h.2.2 j hj hT
    · intro e
      subst e
      exact (thin_iff.mp ht).1 hT
  · exact h.2.2 j hj hT
theorem stU_ch {T S C : Nat → Int32} {k : Nat} {nd ch : Int32} : (stU T S C k nd ch).2.2 = ch := by
  unfold stU
  split <;> rfl
theorem stU_c0 {T S C : Nat → Int32} {k j : Nat} {nd ch : Int32} : (stU T S C k nd ch).2.1 j = 0 → C j = 0 := by
  unfold stU
  split
  · intro h
    have h : upd C k (suC S C k) j = 0 := h
    by_cases e : j = k
    · subst e
      rw [pk_us] at h
      exact Classical.byContradiction fun h9 => absurd ((suC_1 (S := S) (Or.inl h9)).symm.trans h) (by decide)
    · rw [pk_un e] at h
      exact h
  · exact id
theorem ffr_ne {Hb : Nat → Bool} {N : Nat → Int32} {dg : Int32} {a : Nat → Int32} {k j : Nat} : ∀ m i s, i ≤ s → s < i + m → nbr k s = some j → (¬ a j = -1 ∧ Hb j = true ∧ a j + N j + dg = a k) → ¬ ffr Hb N dg a k m i = none
  | 0, i, s, h1, h2, _, _ => by omega
  | m + 1, i, s, h1, h2, h3, h4 => by
    unfold ffr
    by_cases e : s = i
    · subst e
      rw [h3]
      dsimp only
      rw [if_pos h4]
      exact fun q => by cases q
    · have h5 := ffr_ne m (i + 1) s (by omega) (by omega) h3 h4
      cases hn : nbr k i with
      | none => exact h5
      | some j2 =>
        dsimp only
        split
        · exact fun q => by cases q
        · exact h5
section SO
variable {PC T N : Nat → Int32} {ps sc bc n B : Nat} {BF : Nat → Nat → Int32} {MX MY : Nat → Int32} {l5 : Value} {x : SO}
theorem hIV.so (h : hIV PC ps sc bc T x.2.2.2.2.2.2.1 x.2.2.2.2.2.2.2 x.1 BF MX B) (hB : B < 2 ^ 30) (hsc : sc ≤ 5) (hps : ps ≤ 8) (hPC : ∀ k, k < 8 → 0 ≤ PC k ∧ PC k < 160) (hN : nOK N) (hm : ∀ i, ¬ i = n → MY i = MX i) (hmn : (soT l5 T N PC ps sc n x).1 n 3 = 1 → 0 < (soT l5 T N PC ps sc n x).1 n 7 → MY n = (soT l5 T N PC ps sc n x).1 n 6) :
    hIV PC ps sc bc T (soT l5 T N PC ps sc n x).2.2.2.2.2.2.1 (soT l5 T N PC ps sc n x).2.2.2.2.2.2.2 (soT l5 T N PC ps sc n x).1 BF MY (B + 1) := by
  obtain ⟨a1, a2, a3, a4, a5, a6, a7, a8⟩ := h
  by_cases h1 : n < sc ∧ x.1 n 3 = 1 ∧ ¬ 0 < x.1 n 7 ∧ ¬ x.1 n 8 = x.2.2.2.2.2.2.2
  · obtain ⟨hn, h3, h7, h8⟩ := h1
    have hp := a2 n hn
    obtain ⟨q, hq, eq⟩ := kOf (hp.2.2 h3).1 (by omega)
    have hc4 := cN_of (a1 n hn).2.1
    have hw := wt_bd a4 a5 a1 hsc hn
    have hcop : cop PC ps (x.1 n 5) = PC q := by rw [eq]; exact cop_k hq hps
    have hPq := cN_of (hPC q (by omega))
    have hL := lkq_spec (Hb := HbS T x.2.2.2.2.2.2.1 x.1 n) (csS_ok hN hw (a1 n hn).1) hPq.2 hc4.2 x.2.1.2.2.1
    have hcpo : cpo PC ps (x.1 n 5) = some (cN (PC q)) := by rw [eq]; exact cpo_q hps hq hPq.1 hPq.2
    have hQ : soQ T N PC ps n x = lkq (HbS T x.2.2.2.2.2.2.1 x.1 n) N (slD x.1 n) (cN (x.1 n 4)) (some (cN (PC q))) x.2.1.2.2.1 := by
      show lkq _ _ _ _ (cpo PC ps (x.1 n 5)) _ = _
      rw [hcpo]
    cases hX : soX T N PC ps n x with
    | none =>
      have e : soT l5 T N PC ps sc n x = (upS x.1 n 8 x.2.2.2.2.2.2.2, soQ T N PC ps n x, l5, slN x.1 n, slD x.1 n, x.2.2.2.2.2) := by
        unfold soT
        rw [if_pos ⟨hn, h3, h7, h8⟩, hX]
      rw [e] at hmn ⊢
      dsimp only at hmn ⊢
      have hs : ∀ i k, ¬ i = n → upS x.1 n 8 x.2.2.2.2.2.2.2 i k = x.1 i k := fun i k hi => upS_n _ _ (fun z => hi z.1)
      have hk : ∀ k, ¬ k = 8 → upS x.1 n 8 x.2.2.2.2.2.2.2 n k = x.1 n k := fun k hk => upS_n _ _ (fun z => hk z.2)
      refine ⟨a1.up (by omega), a2.one hs ?_, a3.one hs ?_, a4.up (by decide), a5, a6, a7.one hs hm hmn, a8.up (by omega)⟩
      · rw [hk 3 (by decide), hk 4 (by decide), hk 5 (by decide), hk 7 (by decide)]
        exact hp
      · intro _
        refine Or.inr ⟨upS_s _ _ _ _, by rw [hk 7 (by decide)]; exact h7, fun m hr => ?_⟩
        have e9 : HbS T x.2.2.2.2.2.2.1 (upS x.1 n 8 x.2.2.2.2.2.2.2) n = HbS T x.2.2.2.2.2.2.1 x.1 n := by
          unfold HbS slN slW
          rw [hk 0 (by decide), hk 1 (by decide)]
        have hr : Rch (HbS T x.2.2.2.2.2.2.1 (upS x.1 n 8 x.2.2.2.2.2.2.2) n) (cN (cop PC ps (upS x.1 n 8 x.2.2.2.2.2.2.2 n 5))) m (cN (upS x.1 n 8 x.2.2.2.2.2.2.2 n 4)) := hr
        rw [e9, hk 4 (by decide), hk 5 (by decide), hcop] at hr
        obtain ⟨mw, hway⟩ := Rch.way (cst := csS N x.1 n) hr
        have hX2 : ffq (HbS T x.2.2.2.2.2.2.1 x.1 n) N (slD x.1 n) (soQ T N PC ps n x).1 (cN (x.1 n 4)) = none := hX
        rw [hQ] at hX2
        by_cases ha : (lkq (HbS T x.2.2.2.2.2.2.1 x.1 n) N (slD x.1 n) (cN (x.1 n 4)) (some (cN (PC q))) x.2.1.2.2.1).1 (cN (x.1 n 4)) = -1
        · exact hL.2.1 ha m mw hway
        · unfold ffq at hX2
          rw [if_neg ha] at hX2
          have hkg : ¬ cN (x.1 n 4) = cN (PC q) := by
            intro e5
            apply (hp.2.2 h3).2.2 h7
            rw [hcop, hc4.1, hPq.1, e5]
          obtain ⟨m2, n2, b1, b2, b3⟩ := hL.1 _ hc4.2 |>.resolve_left ha
          cases n2 with
          | zero => exact hkg b3.1
          | succ n2 =>
            obtain ⟨c', i, k', w1, w2, w3, w4, w5, w6⟩ := b3
            have hCc := csS_ok hN hw (a1 n hn).1 c' w2
            obtain ⟨s', s1, s2⟩ := nbr_sym w2 w3
            obtain ⟨m3, d1, d2⟩ := hL.2.2 m2 b1 (by omega) n2 c' k' w2 w4 (by omega)
            obtain ⟨m4, n4, f1, f2, f3⟩ := hL.1 c' w2 |>.resolve_left (by rw [d2]; exact nI_nem1 (by omega))
            have e34 := nI_inj (by omega) (by omega) (d2.symm.trans f1)
            subst e34
            have hw2 : Way (HbS T x.2.2.2.2.2.2.1 x.1 n) (csS N x.1 n) (cN (PC q)) (n4 + 1) (cN (x.1 n 4)) (m3 + csS N x.1 n c') := ⟨c', i, m3, w1, w2, w3, f3, w5, rfl⟩
            have hm23 : m2 = m3 + csS N x.1 n c' := by
              obtain ⟨m5, g1, g2⟩ := hL.2.2 m2 b1 (by omega) (n4 + 1) _ (m3 + csS N x.1 n c') hc4.2 hw2 (by omega)
              have := nI_inj (by omega) (by omega) (b1.symm.trans g2)
              omega
            exact ffr_ne (j := c') 4 0 s' (Nat.zero_le _) (by omega) s2 ⟨by rw [d2]; exact nI_nem1 (by omega), w5, by rw [d2, b1, Int32.add_assoc, hCc.1, nI_add, hm23]⟩ hX2
    | some j =>
      have hjl : j < 160 := ffq_lt hc4.2 hX
      have e : soT l5 T N PC ps sc n x = (upS (upS x.1 n 6 (nI j)) n 7 (N j + slD x.1 n), soQ T N PC ps n x, l5, slN x.1 n, slD x.1 n, stU T x.2.2.2.2.2.1 x.2.2.2.2.2.2.1 (cN (x.1 n 4)) (slN x.1 n) x.2.2.2.2.2.2.2) := by
        unfold soT
        rw [if_pos ⟨hn, h3, h7, h8⟩, hX]
      rw [e] at hmn ⊢
      dsimp only at hmn ⊢
      have hs : ∀ i k, ¬ i = n → upS (upS x.1 n 6 (nI j)) n 7 (N j + slD x.1 n) i k = x.1 i k := fun i k hi => by rw [upS_n _ _ (fun z => hi z.1), upS_n _ _ (fun z => hi z.1)]
      have hk : ∀ k, ¬ k = 6 → ¬ k = 7 → upS (upS x.1 n 6 (nI j)) n 7 (N j + slD x.1 n) n k = x.1 n k := fun k h6 h7 => by rw [upS_n _ _ (fun z => h7 z.2), upS_n _ _ (fun z => h6 z.2)]
      have hCj := csS_ok hN hw (a1 n hn).1 j hjl
      have hpos : 0 < N j + slD x.1 n := by
        rw [hCj.1]
        exact nI_lt (a := 0) (by omega) (by omega)
      have hlt : x.1 n 8 < x.2.2.2.2.2.2.2 := by
        rcases a3 n hn h3 with z | ⟨z, -⟩
        · exact z
        · exact absurd z h8
      have b1 : sOK (upS (upS x.1 n 6 (nI j)) n 7 (N j + slD x.1 n)) sc := a1.next (fun _ => ⟨nI_pos' (by omega), nI_lt (b := 160) hjl (by decide)⟩)
      have b4 : hWI (upS (upS x.1 n 6 (nI j)) n 7 (N j + slD x.1 n)) BF bc := (a4.up (by decide)).up (by decide)
      refine ⟨b1, a2.one hs ?_, ?_, b4, a5, stU_lk a6, a7.one hs hm hmn, ?_⟩
      · rw [hk 3 (by decide) (by decide), hk 4 (by decide) (by decide), hk 5 (by decide) (by decide), upS_s]
        refine ⟨hp.1, fun z => absurd (h3.symm.trans z) (by decide), fun _ => ⟨(hp.2.2 h3).1, ?_, fun z => absurd hpos z⟩⟩
        exact (fa_of_lt hpos).1
      · show nWI T (stU T x.2.2.2.2.2.1 x.2.2.2.2.2.2.1 (cN (x.1 n 4)) (slN x.1 n) x.2.2.2.2.2.2.2).2.1 PC ps _ sc (stU T x.2.2.2.2.2.1 x.2.2.2.2.2.2.1 (cN (x.1 n 4)) (slN x.1 n) x.2.2.2.2.2.2.2).2.2
        have h9 : nWI T x.2.2.2.2.2.2.1 PC ps (upS (upS x.1 n 6 (nI j)) n 7 (N j + slD x.1 n)) sc x.2.2.2.2.2.2.2 := a3.one hs (fun _ => Or.inl (by rw [hk 8 (by decide) (by decide)]; exact hlt))
        rw [stU_ch]
        refine h9.less (fun i hi k hk9 h => ?_)
        obtain ⟨m, hm9, em⟩ := slN_nI (wt_bd b4 a5 b1 hsc hi)
        have h : hoB T (stU T x.2.2.2.2.2.1 x.2.2.2.2.2.2.1 (cN (x.1 n 4)) (slN x.1 n) x.2.2.2.2.2.2.2).2.1 k (slN (upS (upS x.1 n 6 (nI j)) n 7 (N j + slD x.1 n)) i) = true := h
        show hoB T x.2.2.2.2.2.2.1 k (slN (upS (upS x.1 n 6 (nI j)) n 7 (N j + slD x.1 n)) i) = true
        rw [em] at h ⊢
        exact hoB_less (by omega) id ((fa_le _ _).mpr (Int.le_refl _)) stU_c0 h
      · show chB (stU T x.2.2.2.2.2.1 x.2.2.2.2.2.2.1 (cN (x.1 n 4)) (slN x.1 n) x.2.2.2.2.2.2.2).2.2 (B + 1)
        rw [stU_ch]
        exact a8.up (by omega)
  · have e : soT l5 T N PC ps sc n x = x := if_neg h1
    rw [e] at hmn ⊢
    exact ⟨a1, a2, a3, a4, a5, a6, a7.one (fun _ _ _ => rfl) hm hmn, a8.up (by omega)⟩
end SO
theorem hIV.re {PC T C : Nat → Int32} {ps sc bc n B : Nat} {SF BF : Nat → Nat → Int32} {MX : Nat → Int32} {ch : Int32} (h : hIV PC ps sc bc T C ch SF BF MX B) : hIV PC ps sc bc T C ch (reT sc n SF) BF MX B := by
  unfold reT
  split
  · rename_i h1
    obtain ⟨a1, a2, a3, a4, a5, a6, a7, a8⟩ := h
    generalize (if 0 < SF n 2 - 2 then SF n 2 - 2 else 0) = v
    have hs : ∀ i k, ¬ i = n → upS SF n 2 v i k = SF i k := fun i k hi => upS_n _ _ (fun z => hi z.1)
    have hk : ∀ k, ¬ k = 2 → upS SF n 2 v n k = SF n k := fun k hk => upS_n _ _ (fun z => hk z.2)
    refine ⟨a1.up (by omega), a2.one hs ?_, a3.one hs ?_, a4.up (by decide), a5, a6, a7.one hs (fun _ _ => rfl) ?_, a8⟩
    · rw [hk 3 (by decide), hk 4 (by decide), hk 5 (by decide), hk 7 (by decide)]
      exact a2 n h1.1
    · rw [hk 3 (by decide), h1.2]
      exact fun q => absurd q (by decide)
    · rw [hk 3 (by decide), h1.2]
      exact fun q => absurd q (by decide)
  · exact h
def oOK (O : Nat → Int32) : Prop := ∀ k, k < 8 → -9 ≤ O k ∧ O k ≤ 9
theorem dT_ok {fr : Int32} {T : Nat → Int32} (hf : -9 ≤ fr ∧ fr ≤ 9) (h : tOK T) : tOK (dT fr T) := by
  intro k hk
  have hT := h k hk
  unfold dT
  split
  · rename_i h0
    rw [fillU_in hk]
    unfold fzT
    split
    · exact hT
    · rename_i hneg
      obtain ⟨f, hf2, ef⟩ := nI_mk (x := fr) (n := 10) (by rw [i_lt, i_0] at h0; omega) (by have := hf.2; rw [i_le, i_9] at this; omega) (by decide)
      obtain ⟨t, ht2, et⟩ := nI_mk (x := T k) (n := 201) (by rw [i_lt, i_0] at hneg; omega) (by have := hT.2; rw [i_le, i_200] at this; omega) (by decide)
      have e : T k + fr * 12 / (6 + T k / 10) = nI (t + f * 12 / (6 + t / 10)) := by
        rw [ef, et]
        show nI t + nI f * nI 12 / (nI 6 + nI t / nI 10) = _
        rw [pk_mul, pk_div (by omega) (by decide) (by decide), nI_add, pk_div (by omega) (by omega) (by omega), nI_add]
      have hb : f * 12 / (6 + t / 10) ≤ f * 12 := Nat.div_le_self _ _
      generalize f * 12 / (6 + t / 10) = u at e hb
      rw [e]
      split
      · rename_i h2
        refine ⟨?_, (fa_of_lt h2).1⟩
        rw [i_le, i_m1, nI_toInt (by omega)]
        omega
      · exact ⟨by decide, by decide⟩
  · split
    · rename_i h0 h1
      rw [fillU_in hk]
      unfold thT
      split
      · exact hT
      · rename_i hneg
        obtain ⟨f, hf2, ef⟩ := nI_mk (x := -fr) (n := 10) (by rw [i_lt, i_0] at h1; have := fb_rng fr; rw [fb_negI (by have := hf.1; rw [i_le, i_m9] at this; omega)]; omega) (by rw [fb_negI (by have := hf.1; rw [i_le, i_m9] at this; omega)]; have := hf.1; rw [i_le, i_m9] at this; omega) (by decide)
        obtain ⟨t, ht2, et⟩ := nI_mk (x := T k) (n := 201) (by rw [i_lt, i_0] at hneg; omega) (by have := hT.2; rw [i_le, i_200] at this; omega) (by decide)
        split
        · rename_i h2
          have e : T k - 3 * -fr = nI t - nI (3 * f) := by
            rw [ef, et]
            show nI t - nI 3 * nI f = _
            rw [pk_mul]
          have e2 := pk_sub_toInt (a := t) (b := 3 * f) (by omega) (by omega)
          rw [e] at h2 ⊢
          rw [i_le, i_le, e2, i_m1, i_200]
          rw [i_lt, e2, i_0] at h2
          omega
        · exact ⟨by decide, by decide⟩
    · exact hT
theorem dC_l {fr : Int32} {T S C : Nat → Int32} (h : lOK T C) (hd : ∀ k, k < 160 → dT fr T k < 0 → T k < 0) : lOK (dT fr T) (dC fr T S C) := by
  intro k hk h1
  have h2 := hd k hk h1
  have h3 := h k hk h2
  unfold dC
  split
  · exact h3
  · split
    · rw [fillU_in hk]
      unfold spC
      rw [if_neg (fun z => z.1 h1)]
      exact h3
    · exact h3
theorem dT_sg {fr : Int32} {T : Nat → Int32} (hf : -9 ≤ fr ∧ fr ≤ 9) (h : tOK T) : ∀ k, k < 160 → dT fr T k < 0 → T k < 0 := by
  intro k hk h1
  rcases fa_three fr 0 with hf2 | hf2 | hf2
  · exact (dT_neg hf2 hk).mp h1
  · subst hf2
    rw [dT_z] at h1
    exact h1
  · have hT := h k hk
    refine Classical.byContradiction fun hneg => ?_
    rw [dT_p hf2, fillU_in hk] at h1
    unfold fzT at h1
    rw [if_neg hneg] at h1
    obtain ⟨f, hf3, ef⟩ := nI_mk (x := fr) (n := 10) (by rw [i_lt, i_0] at hf2; omega) (by have := hf.2; rw [i_le, i_9] at this; omega) (by decide)
    obtain ⟨t, ht2, et⟩ := nI_mk (x := T k) (n := 201) (by rw [i_lt, i_0] at hneg; omega) (by have := hT.2; rw [i_le, i_200] at this; omega) (by decide)
    have e : T k + fr * 12 / (6 + T k / 10) = nI (t + f * 12 / (6 + t / 10)) := by
      rw [ef, et]
      show nI t + nI f * nI 12 / (nI 6 + nI t / nI 10) = _
      rw [pk_mul, pk_div (by omega) (by decide) (by decide), nI_add, pk_div (by omega) (by omega) (by omega), nI_add]
    have hb : f * 12 / (6 + t / 10) ≤ f * 12 := Nat.div_le_self _ _
    rw [e] at h1
    split at h1
    · exact nI_pos (by omega) h1
    · exact absurd h1 (by decide)
theorem dT_le {fr : Int32} {T : Nat → Int32} (hf : -9 ≤ fr ∧ fr ≤ 9) (h0 : ¬ 0 < fr) (h : tOK T) {k : Nat} (hk : k < 160) : dT fr T k ≤ T k := by
  have hT := h k hk
  unfold dT
  rw [if_neg h0]
  split
  · rename_i h1
    rw [fillU_in hk]
    unfold thT
    split
    · exact (fa_le _ _).mpr (Int.le_refl _)
    · rename_i hneg
      obtain ⟨f, hf2, ef⟩ := nI_mk (x := -fr) (n := 10) (by rw [i_lt, i_0] at h1; have := fb_rng fr; rw [fb_negI (by have := hf.1; rw [i_le, i_m9] at this; omega)]; omega) (by rw [fb_negI (by have := hf.1; rw [i_le, i_m9] at this; omega)]; have := hf.1; rw [i_le, i_m9] at this; omega) (by decide)
      obtain ⟨t, ht2, et⟩ := nI_mk (x := T k) (n := 201) (by rw [i_lt, i_0] at hneg; omega) (by have := hT.2; rw [i_le, i_200] at this; omega) (by decide)
      split
      · rename_i h2
        have e : T k - 3 * -fr = nI t - nI (3 * f) := by
          rw [ef, et]
          show nI t - nI 3 * nI f = _
          rw [pk_mul]
        have e2 := pk_sub_toInt (a := t) (b := 3 * f) (by omega) (by omega)
        rw [e, et, i_le, e2, nI_toInt (by omega)]
        omega
      · rw [i_le, i_0]
        rw [i_lt, i_0] at hneg
        omega
  · exact (fa_le _ _).mpr (Int.le_refl _)
theorem dC_c0 {fr : Int32} {T S C : Nat → Int32} (h0 : ¬ 0 < fr) {k : Nat} (hk : k < 160) : dC fr T S C k = 0 → C k = 0 := by
  unfold dC
  rw [if_neg h0]
  split
  · rw [fillU_in hk]
    unfold spC
    split
    · intro h
      exact absurd h (by decide)
    · exact id
  · exact id
theorem hIV.frost {PC T S C : Nat → Int32} {ps sc bc B : Nat} {SF BF : Nat → Nat → Int32} {MX : Nat → Int32} {ch fr : Int32} (h : hIV PC ps sc bc T C ch SF BF MX B) (hsc : sc ≤ 5) (hB : B < 2 ^ 30) (hf : -9 ≤ fr ∧ fr ≤ 9) : hIV PC ps sc bc (dT fr T) (dC fr T S C) (dH fr ch) SF BF MX (B + 1) := by
  obtain ⟨a1, a2, a3, a4, a5, a6, a7, a8⟩ := h
  have hx := a8.next hB
  have h6 : tOK (dT fr T) ∧ cOK (dC fr T S C) ∧ lOK (dT fr T) (dC fr T S C) := ⟨dT_ok hf a6.1, dC_ok a6.2.1, dC_l a6.2.2 (dT_sg hf a6.1)⟩
  by_cases h0 : 0 < fr
  · rw [show dH fr ch = ch + 1 from if_pos h0]
    exact ⟨a1, a2, a3.later hx.2, a4, a5, h6, a7, hx.1⟩
  · rw [show dH fr ch = ch from if_neg h0]
    refine ⟨a1, a2, a3.less (fun i hi k hk h => ?_), a4, a5, h6, a7, a8.up (by omega)⟩
    obtain ⟨m, hm, em⟩ := slN_nI (wt_bd a4 a5 a1 hsc hi)
    have h : hoB (dT fr T) (dC fr T S C) k (slN SF i) = true := h
    show hoB T C k (slN SF i) = true
    rw [em] at h ⊢
    exact hoB_less (by omega) (dT_sg hf a6.1 k hk) (dT_le hf h0 a6.1 hk) (dC_c0 h0 hk) h

