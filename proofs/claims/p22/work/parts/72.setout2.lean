/-! setting out: what it does to sleighs, strain and cracks -/
theorem ffr_nbr {H : Nat → Bool} {N : Nat → Int32} {dg : Int32} {a : Nat → Int32} {k j : Nat} : ∀ m i, ffr H N dg a k m i = some j → ∃ s, s < i + m ∧ nbr k s = some j
  | 0, i, e => by cases e
  | m + 1, i, e => by
    have e1 : ffr H N dg a k (m + 1) i = (match nbr k i with | some j => if ¬ a j = -1 ∧ H j = true ∧ a j + N j + dg = a k then some j else ffr H N dg a k m (i + 1) | none => ffr H N dg a k m (i + 1)) := rfl
    rw [e1] at e
    cases hn : nbr k i with
    | none =>
      rw [hn] at e
      obtain ⟨s, h1, h2⟩ := ffr_nbr m (i + 1) e
      exact ⟨s, by omega, h2⟩
    | some x =>
      rw [hn] at e
      have e : (if ¬ a x = -1 ∧ H x = true ∧ a x + N x + dg = a k then some x else ffr H N dg a k m (i + 1)) = some j := e
      split at e
      · cases e
        exact ⟨i, by omega, hn⟩
      · obtain ⟨s, h1, h2⟩ := ffr_nbr m (i + 1) e
        exact ⟨s, by omega, h2⟩
theorem ffq_adj {H : Nat → Bool} {N : Nat → Int32} {dg : Int32} {a : Nat → Int32} {k j : Nat} (h : ffq H N dg a k = some j) : adj k j = true := by
  unfold ffq at h
  split at h
  · cases h
  · obtain ⟨s, h1, h2⟩ := ffr_nbr 4 0 h
    exact adj_nbr.mpr ⟨s, by omega, h2⟩
/-- who set out from a cell -/
def sos (sc : Nat) (x y : Nat → Nat → Int32) (i c : Nat) : Bool := decide (i < sc ∧ x i 3 = 1 ∧ ¬ 0 < x i 7 ∧ 0 < y i 7 ∧ cN (x i 4) = c)
theorem sos_iff {sc i c : Nat} {x y : Nat → Nat → Int32} : sos sc x y i c = true ↔ (i < sc ∧ x i 3 = 1 ∧ ¬ 0 < x i 7 ∧ 0 < y i 7 ∧ cN (x i 4) = c) := decide_eq_true_iff
theorem su_bd {x : Int32} (h : 0 ≤ x.toInt ∧ x.toInt ≤ 9) : x.toInt ≤ (if x + 1 < 9 then x + 1 else 9 : Int32).toInt ∧ (if x + 1 < 9 then x + 1 else 9 : Int32).toInt ≤ x.toInt + 1 := by
  have e9 : (9 : Int32).toInt = 9 := by decide
  have e : (x + 1).toInt = x.toInt + 1 := by rw [fb_addI (by rw [i_1]; omega) (by rw [i_1]; omega), i_1]
  by_cases h1 : x + 1 < 9
  · rw [if_pos h1, e]
    omega
  · rw [if_neg h1, e9]
    rw [i_lt, e, e9] at h1
    omega
def wOK (SF : Nat → Nat → Int32) (sc : Nat) : Prop := ∀ i, i < sc → (0 ≤ (slW SF i).toInt ∧ (slW SF i).toInt ≤ 2039) ∧ (1 ≤ (SF i 0).toInt ∧ (SF i 0).toInt ≤ 6) ∧ (0 ≤ SF i 4 ∧ SF i 4 < 160)
def soF (T : Nat → Int32) (sc : Nat) (x y : SO) (n : Nat) : Prop :=
  (∀ i k, ¬ k = 6 → ¬ k = 7 → ¬ k = 8 → y.1 i k = x.1 i k) ∧ (∀ i, n ≤ i → ∀ k, y.1 i k = x.1 i k) ∧
  (∀ i, (y.1 i 6 = x.1 i 6 ∧ y.1 i 7 = x.1 i 7) ∨ (i < sc ∧ x.1 i 3 = 1 ∧ ¬ 0 < x.1 i 7 ∧ 0 < y.1 i 7 ∧ adj (cN (x.1 i 4)) (cN (y.1 i 6)) = true)) ∧
  (∀ c, c < 160 → (x.2.2.2.2.2.1 c).toInt ≤ (y.2.2.2.2.2.1 c).toInt ∧ (y.2.2.2.2.2.1 c).toInt ≤ (x.2.2.2.2.2.1 c).toInt + (fb_ct (fun i => sos sc x.1 y.1 i c) n : Nat) ∧ (T c < 0 → y.2.2.2.2.2.1 c = x.2.2.2.2.2.1 c)) ∧
  (∀ c, c < 160 → (¬ x.2.2.2.2.2.2.1 c = 0 → ¬ y.2.2.2.2.2.2.1 c = 0) ∧ (x.2.2.2.2.2.2.1 c = 0 → ¬ y.2.2.2.2.2.2.1 c = 0 → 3 ≤ (y.2.2.2.2.2.1 c).toInt ∧ ∃ i, i < n ∧ sos sc x.1 y.1 i c = true)) ∧
  sTK y.2.2.2.2.2.1
theorem soF.skip {T : Nat → Int32} {sc n : Nat} {x y z : SO} (h : soF T sc x y n) (h8 : ∀ i k, ¬ k = 8 → z.1 i k = y.1 i k) (ho : ∀ i k, ¬ i = n → z.1 i k = y.1 i k) (hS : z.2.2.2.2.2.1 = y.2.2.2.2.2.1) (hC : z.2.2.2.2.2.2.1 = y.2.2.2.2.2.2.1) : soF T sc x z (n + 1) := by
  obtain ⟨f1, f2, f3, f4, f5, f6⟩ := h
  have es : ∀ i c, sos sc x.1 z.1 i c = sos sc x.1 y.1 i c := fun i c => by unfold sos; rw [h8 i 7 (by decide)]
  refine ⟨fun i k a b c => (h8 i k c).trans (f1 i k a b c), fun i hi k => (ho i k (by omega)).trans (f2 i (by omega) k), fun i => ?_, fun c hc => ?_, fun c hc => ?_, ?_⟩
  · rw [h8 i 6 (by decide), h8 i 7 (by decide)]
    exact f3 i
  · rw [hS]
    obtain ⟨g1, g2, g3⟩ := f4 c hc
    refine ⟨g1, ?_, g3⟩
    have e : fb_ct (fun i => sos sc x.1 z.1 i c) (n + 1) = fb_ct (fun i => sos sc x.1 y.1 i c) (n + 1) := fb_ct_cong (fun i _ => es i c)
    rw [e, fb_ct_succ]
    omega
  · rw [hS, hC]
    refine ⟨(f5 c hc).1, fun a b => ?_⟩
    obtain ⟨g1, i, g2, g3⟩ := (f5 c hc).2 a b
    exact ⟨g1, i, by omega, by rw [es]; exact g3⟩
  · rw [hS]
    exact f6
theorem soI_f {l5 : Value} {T N PC : Nat → Int32} {ps sc : Nat} {x : SO} (hN : nOK N) (hw : wOK x.1 sc) (hS : sTK x.2.2.2.2.2.1) : ∀ n, soF T sc x (soI l5 T N PC ps sc x n) n
  | 0 => by
    show soF T sc x x 0
    refine ⟨fun _ _ _ _ _ => rfl, fun _ _ _ => rfl, fun _ => Or.inl ⟨rfl, rfl⟩, fun c _ => ⟨Int.le_refl _, ?_, fun _ => rfl⟩, fun c _ => ⟨fun h => h, fun a b => absurd a b⟩, hS⟩
    show (x.2.2.2.2.2.1 c).toInt ≤ (x.2.2.2.2.2.1 c).toInt + ((0 : Nat) : Int)
    omega
  | n + 1 => by
    have ih := soI_f (l5 := l5) (T := T) (PC := PC) (ps := ps) hN hw hS n
    show soF T sc x (soT l5 T N PC ps sc n (soI l5 T N PC ps sc x n)) (n + 1)
    generalize soI l5 T N PC ps sc x n = y at ih ⊢
    by_cases h1 : n < sc ∧ y.1 n 3 = 1 ∧ ¬ 0 < y.1 n 7 ∧ ¬ y.1 n 8 = y.2.2.2.2.2.2.2
    · cases hX : soX T N PC ps n y with
      | none =>
        have e : soT l5 T N PC ps sc n y = (upS y.1 n 8 y.2.2.2.2.2.2.2, soQ T N PC ps n y, l5, slN y.1 n, slD y.1 n, y.2.2.2.2.2) := by
          unfold soT
          rw [if_pos h1, hX]
        rw [e]
        exact ih.skip (fun i k hk => upS_n _ _ (fun q => hk q.2)) (fun i k hi => upS_n _ _ (fun q => hi q.1)) rfl rfl
      | some j =>
        have e : soT l5 T N PC ps sc n y = (upS (upS y.1 n 6 (nI j)) n 7 (N j + slD y.1 n), soQ T N PC ps n y, l5, slN y.1 n, slD y.1 n, stU T y.2.2.2.2.2.1 y.2.2.2.2.2.2.1 (cN (y.1 n 4)) (slN y.1 n) y.2.2.2.2.2.2.2) := by
          unfold soT
          rw [if_pos h1, hX]
        obtain ⟨f1, f2, f3, f4, f5, f6⟩ := ih
        have hr : ∀ k, y.1 n k = x.1 n k := fun k => f2 n (Nat.le_refl n) k
        obtain ⟨w1, w2, w3⟩ := hw n h1.1
        have hc4 := cN_of w3
        have hadj : adj (cN (y.1 n 4)) j = true := ffq_adj hX
        have hjl : j < 160 := by
          obtain ⟨s, -, h3⟩ := adj_nbr.mp hadj
          exact nbr_lt (by rw [hr 4]; exact hc4.2) h3
        have hpos : 0 < N j + slD y.1 n := by
          have hsl : slW y.1 n = slW x.1 n := by unfold slW; rw [hr 0, hr 1]
          have hCj := csS_ok (SF := y.1) (s := n) hN (by rw [hsl]; exact w1) (by rw [hr 0]; exact w2) j hjl
          rw [hCj.1]
          exact nI_lt (a := 0) (by omega) (by omega)
        rw [e]
        have hs : ∀ i k, ¬ i = n → upS (upS y.1 n 6 (nI j)) n 7 (N j + slD y.1 n) i k = y.1 i k := fun i k hi => by rw [upS_n _ _ (fun q => hi q.1), upS_n _ _ (fun q => hi q.1)]
        have hk : ∀ i k, ¬ k = 6 → ¬ k = 7 → upS (upS y.1 n 6 (nI j)) n 7 (N j + slD y.1 n) i k = y.1 i k := fun i k h6 h7 => by rw [upS_n _ _ (fun q => h7 q.2), upS_n _ _ (fun q => h6 q.2)]
        have v6 : upS (upS y.1 n 6 (nI j)) n 7 (N j + slD y.1 n) n 6 = nI j := by rw [upS_n _ _ (by omega), upS_s]
        have v7 : upS (upS y.1 n 6 (nI j)) n 7 (N j + slD y.1 n) n 7 = N j + slD y.1 n := upS_s _ _ _ _
        have hn3 : n < sc ∧ x.1 n 3 = 1 ∧ ¬ 0 < x.1 n 7 ∧ 0 < upS (upS y.1 n 6 (nI j)) n 7 (N j + slD y.1 n) n 7 := ⟨h1.1, by rw [← hr 3]; exact h1.2.1, by rw [← hr 7]; exact h1.2.2.1, by rw [v7]; exact hpos⟩
        have es : ∀ i c, ¬ i = n → sos sc x.1 (upS (upS y.1 n 6 (nI j)) n 7 (N j + slD y.1 n)) i c = sos sc x.1 y.1 i c := fun i c hi => by unfold sos; rw [hs i 7 hi]
        have ec : ∀ c, fb_ct (fun i => sos sc x.1 (upS (upS y.1 n 6 (nI j)) n 7 (N j + slD y.1 n)) i c) n = fb_ct (fun i => sos sc x.1 y.1 i c) n := fun c => fb_ct_cong (fun i hi => es i c (by omega))
        have hown : sos sc x.1 (upS (upS y.1 n 6 (nI j)) n 7 (N j + slD y.1 n)) n (cN (y.1 n 4)) = true := sos_iff.mpr ⟨hn3.1, hn3.2.1, hn3.2.2.1, hn3.2.2.2, by rw [hr 4]⟩
        refine ⟨fun i k a b c => (hk i k a b).trans (f1 i k a b c), fun i hi k => (hs i k (by omega)).trans (f2 i (by omega) k), fun i => ?_, fun c hc => ?_, fun c hc => ?_, ?_⟩
        · show (upS (upS y.1 n 6 (nI j)) n 7 (N j + slD y.1 n) i 6 = x.1 i 6 ∧ upS (upS y.1 n 6 (nI j)) n 7 (N j + slD y.1 n) i 7 = x.1 i 7) ∨ (i < sc ∧ x.1 i 3 = 1 ∧ ¬ 0 < x.1 i 7 ∧ 0 < upS (upS y.1 n 6 (nI j)) n 7 (N j + slD y.1 n) i 7 ∧ adj (cN (x.1 i 4)) (cN (upS (upS y.1 n 6 (nI j)) n 7 (N j + slD y.1 n) i 6)) = true)
          by_cases hi : i = n
          · subst hi
            refine Or.inr ⟨hn3.1, hn3.2.1, hn3.2.2.1, hn3.2.2.2, ?_⟩
            rw [v6, cN_nI (by omega), ← hr 4]
            exact hadj
          · rw [hs i 6 hi, hs i 7 hi]
            exact f3 i
        · obtain ⟨g1, g2, g3⟩ := f4 c hc
          show (x.2.2.2.2.2.1 c).toInt ≤ ((stU T y.2.2.2.2.2.1 y.2.2.2.2.2.2.1 (cN (y.1 n 4)) (slN y.1 n) y.2.2.2.2.2.2.2).1 c).toInt ∧ ((stU T y.2.2.2.2.2.1 y.2.2.2.2.2.2.1 (cN (y.1 n 4)) (slN y.1 n) y.2.2.2.2.2.2.2).1 c).toInt ≤ (x.2.2.2.2.2.1 c).toInt + (fb_ct (fun i => sos sc x.1 (upS (upS y.1 n 6 (nI j)) n 7 (N j + slD y.1 n)) i c) (n + 1) : Nat) ∧ (T c < 0 → (stU T y.2.2.2.2.2.1 y.2.2.2.2.2.2.1 (cN (y.1 n 4)) (slN y.1 n) y.2.2.2.2.2.2.2).1 c = x.2.2.2.2.2.1 c)
          rw [fb_ct_succ, ec c]
          unfold stU
          by_cases ht : thin? T y.2.2.2.2.2.2.1 (cN (y.1 n 4)) (slN y.1 n) = true
          · rw [if_pos ht]
            show (x.2.2.2.2.2.1 c).toInt ≤ (upd y.2.2.2.2.2.1 (cN (y.1 n 4)) (suS y.2.2.2.2.2.1 (cN (y.1 n 4))) c).toInt ∧ (upd y.2.2.2.2.2.1 (cN (y.1 n 4)) (suS y.2.2.2.2.2.1 (cN (y.1 n 4))) c).toInt ≤ _ ∧ (T c < 0 → upd y.2.2.2.2.2.1 (cN (y.1 n 4)) (suS y.2.2.2.2.2.1 (cN (y.1 n 4))) c = x.2.2.2.2.2.1 c)
            by_cases hck : c = cN (y.1 n 4)
            · have hb := su_bd (f6 c hc)
              rw [← hck, pk_us]
              rw [← hck] at hown ht
              rw [hown, if_pos rfl]
              have hb : (y.2.2.2.2.2.1 c).toInt ≤ (suS y.2.2.2.2.2.1 c).toInt ∧ (suS y.2.2.2.2.2.1 c).toInt ≤ (y.2.2.2.2.2.1 c).toInt + 1 := hb
              exact ⟨by omega, by omega, fun q => absurd q (thin_iff.mp ht).1⟩
            · rw [pk_un hck]
              exact ⟨g1, by omega, g3⟩
          · rw [if_neg ht]
            exact ⟨g1, by show (y.2.2.2.2.2.1 c).toInt ≤ _; omega, g3⟩
        · obtain ⟨g1, g2⟩ := f5 c hc
          show (¬ x.2.2.2.2.2.2.1 c = 0 → ¬ (stU T y.2.2.2.2.2.1 y.2.2.2.2.2.2.1 (cN (y.1 n 4)) (slN y.1 n) y.2.2.2.2.2.2.2).2.1 c = 0) ∧ (x.2.2.2.2.2.2.1 c = 0 → ¬ (stU T y.2.2.2.2.2.1 y.2.2.2.2.2.2.1 (cN (y.1 n 4)) (slN y.1 n) y.2.2.2.2.2.2.2).2.1 c = 0 → 3 ≤ ((stU T y.2.2.2.2.2.1 y.2.2.2.2.2.2.1 (cN (y.1 n 4)) (slN y.1 n) y.2.2.2.2.2.2.2).1 c).toInt ∧ ∃ i, i < n + 1 ∧ sos sc x.1 (upS (upS y.1 n 6 (nI j)) n 7 (N j + slD y.1 n)) i c = true)
          have old : x.2.2.2.2.2.2.1 c = 0 → ¬ y.2.2.2.2.2.2.1 c = 0 → 3 ≤ (y.2.2.2.2.2.1 c).toInt ∧ ∃ i, i < n + 1 ∧ sos sc x.1 (upS (upS y.1 n 6 (nI j)) n 7 (N j + slD y.1 n)) i c = true := fun a b => by
            obtain ⟨p1, i, p2, p3⟩ := g2 a b
            exact ⟨p1, i, by omega, by rw [es i c (by omega)]; exact p3⟩
          unfold stU
          by_cases ht : thin? T y.2.2.2.2.2.2.1 (cN (y.1 n 4)) (slN y.1 n) = true
          · rw [if_pos ht]
            show (¬ x.2.2.2.2.2.2.1 c = 0 → ¬ upd y.2.2.2.2.2.2.1 (cN (y.1 n 4)) (suC y.2.2.2.2.2.1 y.2.2.2.2.2.2.1 (cN (y.1 n 4))) c = 0) ∧ (x.2.2.2.2.2.2.1 c = 0 → ¬ upd y.2.2.2.2.2.2.1 (cN (y.1 n 4)) (suC y.2.2.2.2.2.1 y.2.2.2.2.2.2.1 (cN (y.1 n 4))) c = 0 → 3 ≤ (upd y.2.2.2.2.2.1 (cN (y.1 n 4)) (suS y.2.2.2.2.2.1 (cN (y.1 n 4))) c).toInt ∧ _)
            by_cases hck : c = cN (y.1 n 4)
            · have hb : (y.2.2.2.2.2.1 c).toInt ≤ (suS y.2.2.2.2.2.1 c).toInt := (su_bd (f6 c hc)).1
              rw [← hck, pk_us, pk_us]
              rw [← hck] at hown
              have e9 : suC y.2.2.2.2.2.1 y.2.2.2.2.2.2.1 c = bI (¬ y.2.2.2.2.2.2.1 c = 0 ∨ 3 ≤ suS y.2.2.2.2.2.1 c) := rfl
              rw [e9]
              refine ⟨fun a => ?_, fun a b => ?_⟩
              · rw [bI_t (Or.inl (g1 a))]
                decide
              · by_cases hy : y.2.2.2.2.2.2.1 c = 0
                · by_cases h3 : 3 ≤ suS y.2.2.2.2.2.1 c
                  · refine ⟨?_, n, Nat.lt_succ_self n, hown⟩
                    rw [i_le, show (3 : Int32).toInt = 3 by decide] at h3
                    exact h3
                  · rw [bI_f (fun q => q.elim (fun q => q hy) h3)] at b
                    exact absurd rfl b
                · obtain ⟨p1, p2⟩ := old a hy
                  exact ⟨by omega, p2⟩
            · rw [pk_un hck, pk_un hck]
              exact ⟨g1, old⟩
          · rw [if_neg ht]
            exact ⟨g1, old⟩
        · exact sTK.st f6
    · have e : soT l5 T N PC ps sc n y = y := if_neg h1
      rw [e]
      exact ih.skip (fun _ _ _ => rfl) (fun _ _ _ => rfl) rfl rfl
