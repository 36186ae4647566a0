/-! an hour of the class, row by row -/
section ROWS71
variable {T C PC N : Nat → Int32} {sc bc ps hh : Nat}
def skI (T C : Nat → Int32) (sc bc : Nat) (x : SB) : Nat → SB
  | 0 => x
  | n + 1 => skT T C sc bc n (skI T C sc bc x n)
def mvI (PC : Nat → Int32) (ps sc bc hh : Nat) (x : SBC) : Nat → SBC
  | 0 => x
  | n + 1 => mvT PC ps sc bc hh n (mvI PC ps sc bc hh x n)
def soI (l5 : Value) (T N PC : Nat → Int32) (ps sc : Nat) (x : SO) : Nat → SO
  | 0 => x
  | n + 1 => soT l5 T N PC ps sc n (soI l5 T N PC ps sc x n)
def reI (sc : Nat) (x : Nat → Nat → Int32) : Nat → Nat → Nat → Int32
  | 0 => x
  | n + 1 => reT sc n (reI sc x n)
theorem skL_I (x : SB) : ∀ m j, skL T C sc bc m j (skI T C sc bc x j) = skI T C sc bc x (j + m)
  | 0, _ => rfl
  | m + 1, j => (skL_I x m (j + 1)).trans (by rw [show j + 1 + m = j + (m + 1) by omega])
theorem mvL_I (x : SBC) : ∀ m j, mvL PC ps sc bc hh m j (mvI PC ps sc bc hh x j) = mvI PC ps sc bc hh x (j + m)
  | 0, _ => rfl
  | m + 1, j => (mvL_I x m (j + 1)).trans (by rw [show j + 1 + m = j + (m + 1) by omega])
theorem soL_I {l5 : Value} (x : SO) : ∀ m j, soL l5 T N PC ps sc m j (soI l5 T N PC ps sc x j) = soI l5 T N PC ps sc x (j + m)
  | 0, _ => rfl
  | m + 1, j => (soL_I x m (j + 1)).trans (by rw [show j + 1 + m = j + (m + 1) by omega])
theorem reL_I (x : Nat → Nat → Int32) : ∀ m j, reL sc m j (reI sc x j) = reI sc x (j + m)
  | 0, _ => rfl
  | m + 1, j => (reL_I x m (j + 1)).trans (by rw [show j + 1 + m = j + (m + 1) by omega])
/-! sinking -/
def skc (T C : Nat → Int32) (sc : Nat) (SF : Nat → Nat → Int32) (i : Nat) : Prop := i < sc ∧ ¬ SF i 3 = 2 ∧ ¬ hoB T C (cN (SF i 4)) (slN SF i) = true
theorem skc_cong {a b : Nat → Nat → Int32} {i : Nat} (h : ∀ k, a i k = b i k) : skc T C sc a i ↔ skc T C sc b i := by
  have e : slN a i = slN b i := by unfold slN slW; rw [h 0, h 1]
  unfold skc
  rw [h 3, h 4, e]
theorem skS_at {S : Nat → Nat → Int32} {i k : Nat} : skS S i i k = if k = 7 then 0 else if k = 6 then -1 else if k = 5 then -1 else if k = 1 then 0 else if k = 3 then 2 else S i k := by
  unfold skS upS
  by_cases h7 : k = 7
  · subst h7; simp
  · by_cases h6 : k = 6
    · subst h6; simp
    · by_cases h5 : k = 5
      · subst h5; simp
      · by_cases h1 : k = 1
        · subst h1; simp
        · by_cases h3 : k = 3
          · subst h3; simp
          · simp [h7, h6, h5, h1, h3]
theorem skI_o {x : SB} {i k : Nat} : ∀ n, n ≤ i → (skI T C sc bc x n).1 i k = x.1 i k
  | 0, _ => rfl
  | n + 1, h => by
    have ih := skI_o (x := x) (i := i) (k := k) n (by omega)
    show (skT T C sc bc n (skI T C sc bc x n)).1 i k = _
    unfold skT
    split
    · show skS (skI T C sc bc x n).1 n i k = _
      rw [skS_same (n := n) i k (by omega)]
      exact ih
    · exact ih
theorem skI_in {x : SB} {i : Nat} : ∀ n, i < n → (skc T C sc x.1 i → ∀ k, (skI T C sc bc x n).1 i k = skS x.1 i i k) ∧ (¬ skc T C sc x.1 i → ∀ k, (skI T C sc bc x n).1 i k = x.1 i k)
  | 0, h => absurd h (Nat.not_lt_zero i)
  | n + 1, h => by
    by_cases e : i = n
    · subst e
      have ho : ∀ k, (skI T C sc bc x i).1 i k = x.1 i k := fun k => skI_o i (Nat.le_refl i)
      have hc := skc_cong (T := T) (C := C) (sc := sc) ho
      refine ⟨fun hy k => ?_, fun hn k => ?_⟩
      · show (skT T C sc bc i (skI T C sc bc x i)).1 i k = _
        unfold skT
        rw [if_pos (show i < sc ∧ ¬ (skI T C sc bc x i).1 i 3 = 2 ∧ ¬ hoB T C (cN ((skI T C sc bc x i).1 i 4)) (slN (skI T C sc bc x i).1 i) = true from hc.mpr hy)]
        show skS (skI T C sc bc x i).1 i i k = _
        rw [skS_at, skS_at, ho k]
      · show (skT T C sc bc i (skI T C sc bc x i)).1 i k = _
        unfold skT
        rw [if_neg (show ¬ (i < sc ∧ ¬ (skI T C sc bc x i).1 i 3 = 2 ∧ ¬ hoB T C (cN ((skI T C sc bc x i).1 i 4)) (slN (skI T C sc bc x i).1 i) = true) from fun q => hn (hc.mp q))]
        exact ho k
    · have ih := skI_in (x := x) (i := i) n (by omega)
      have step : ∀ k, (skI T C sc bc x (n + 1)).1 i k = (skI T C sc bc x n).1 i k := fun k => by
        show (skT T C sc bc n (skI T C sc bc x n)).1 i k = _
        unfold skT
        split
        · exact skS_same i k e
        · rfl
      exact ⟨fun hy k => (step k).trans (ih.1 hy k), fun hn k => (step k).trans (ih.2 hn k)⟩
/-- the bags -/
theorem skI_b0 {x : SB} {b : Nat} (h : ¬ x.2 b 2 = 1) : ∀ n k, (skI T C sc bc x n).2 b k = x.2 b k
  | 0, _ => rfl
  | n + 1, k => by
    have ih := skI_b0 (x := x) h n
    show (skT T C sc bc n (skI T C sc bc x n)).2 b k = _
    unfold skT
    split
    · show lsB (skI T C sc bc x n).2 bc (nI n) 40 b k = _
      rw [lsB_at, if_neg (fun q => h (by rw [← ih 2]; exact q.2.2.1))]
      exact ih k
    · exact ih k
theorem skI_b1 {x : SB} {b s : Nat} (hb : b < bc) (hb4 : b < 40) (h2 : x.2 b 2 = 1) (h3 : x.2 b 3 = nI s) (hs : s < 2 ^ 31) : ∀ n, n ≤ 2 ^ 31 → ((s < n ∧ skc T C sc x.1 s) → (skI T C sc bc x n).2 b 2 = 3 ∧ (skI T C sc bc x n).2 b 3 = -1 ∧ ∀ k, ¬ k = 2 → ¬ k = 3 → (skI T C sc bc x n).2 b k = x.2 b k) ∧ (¬ (s < n ∧ skc T C sc x.1 s) → ∀ k, (skI T C sc bc x n).2 b k = x.2 b k)
  | 0, _ => ⟨fun q => absurd q.1 (Nat.not_lt_zero s), fun _ _ => rfl⟩
  | n + 1, hn => by
    obtain ⟨ih1, ih2⟩ := skI_b1 (x := x) hb hb4 h2 h3 hs n (by omega)
    have e : (skI T C sc bc x (n + 1)).2 = (skT T C sc bc n (skI T C sc bc x n)).2 := rfl
    have hr : ∀ k, (skI T C sc bc x n).1 n k = x.1 n k := fun k => skI_o n (Nat.le_refl n)
    have hc := skc_cong (T := T) (C := C) (sc := sc) hr
    by_cases hd : s < n ∧ skc T C sc x.1 s
    · obtain ⟨j1, j2, j3⟩ := ih1 hd
      have same : ∀ k, (skI T C sc bc x (n + 1)).2 b k = (skI T C sc bc x n).2 b k := fun k => by
        rw [e]
        unfold skT
        split
        · show lsB (skI T C sc bc x n).2 bc (nI n) 40 b k = _
          rw [lsB_at, if_neg (fun q => absurd (j1.symm.trans q.2.2.1) (by decide))]
        · rfl
      exact ⟨fun _ => ⟨by rw [same, j1], by rw [same, j2], fun k k2 k3 => by rw [same, j3 k k2 k3]⟩, fun q => absurd ⟨Nat.lt_succ_of_lt hd.1, hd.2⟩ q⟩
    · have ih := ih2 hd
      by_cases hsn : s = n
      · subst hsn
        by_cases hk : skc T C sc x.1 s
        · have v : ∀ k, (skI T C sc bc x (s + 1)).2 b k = if k = 3 then -1 else if k = 2 then 3 else x.2 b k := fun k => by
            rw [e]
            unfold skT
            rw [if_pos (show s < sc ∧ ¬ (skI T C sc bc x s).1 s 3 = 2 ∧ ¬ hoB T C (cN ((skI T C sc bc x s).1 s 4)) (slN (skI T C sc bc x s).1 s) = true from hc.mpr hk)]
            show lsB (skI T C sc bc x s).2 bc (nI s) 40 b k = _
            rw [lsB_at, if_pos ⟨hb4, hb, by rw [ih, h2], by rw [ih, h3]⟩, ih k]
          exact ⟨fun _ => ⟨by rw [v]; rfl, by rw [v]; rfl, fun k k2 k3 => by rw [v, if_neg k3, if_neg k2]⟩, fun q => absurd ⟨Nat.lt_succ_self s, hk⟩ q⟩
        · refine ⟨fun q => absurd q.2 hk, fun _ k => ?_⟩
          rw [e]
          unfold skT
          rw [if_neg (show ¬ (s < sc ∧ ¬ (skI T C sc bc x s).1 s 3 = 2 ∧ ¬ hoB T C (cN ((skI T C sc bc x s).1 s 4)) (slN (skI T C sc bc x s).1 s) = true) from fun q => hk (hc.mp q))]
          exact ih k
      · have same : ∀ k, (skI T C sc bc x (n + 1)).2 b k = x.2 b k := fun k => by
          rw [e]
          unfold skT
          split
          · show lsB (skI T C sc bc x n).2 bc (nI n) 40 b k = _
            rw [lsB_at, if_neg (fun q => hsn ((nI_eq (a := s) (b := n) hs (by omega)).mp (by rw [← h3, ← ih 3]; exact q.2.2.2)))]
            exact ih k
          · exact ih k
        exact ⟨fun q => absurd ⟨by have := q.1; omega, q.2⟩ hd, fun _ => same⟩
/-! going -/
def mvc (sc : Nat) (SF : Nat → Nat → Int32) (i : Nat) : Prop := i < sc ∧ (SF i 3 = 1 ∧ 0 < SF i 7)
def arr (PC : Nat → Int32) (ps : Nat) (SF : Nat → Nat → Int32) (i : Nat) : Prop := ¬ 0 < SF i 7 - 1 ∧ coS SF i i 4 = cop PC ps (coS SF i i 5)
theorem coS_at {S : Nat → Nat → Int32} {i k : Nat} : coS S i i k = if 0 < S i 7 - 1 then (if k = 7 then S i 7 - 1 else S i k) else (if k = 2 then (if S i 2 + 1 < 100 then S i 2 + 1 else 100) else if k = 6 then -1 else if k = 4 then S i 6 else if k = 7 then S i 7 - 1 else S i k) := by
  unfold coS
  by_cases h : 0 < S i 7 - 1
  · rw [if_pos h, if_pos h]
    unfold upS
    by_cases h7 : k = 7 <;> simp [h7]
  · rw [if_neg h, if_neg h]
    unfold upS
    by_cases h2 : k = 2
    · subst h2; simp
    · by_cases h6 : k = 6
      · subst h6; simp
      · by_cases h4 : k = 4
        · subst h4; simp
        · by_cases h7 : k = 7
          · subst h7; simp
          · simp [h2, h6, h4, h7]
theorem rsS_at {S : Nat → Nat → Int32} {i k : Nat} : rsS S i i k = if k = 1 then 0 else if k = 3 then 0 else S i k := by
  unfold rsS upS
  by_cases h1 : k = 1
  · subst h1; simp
  · by_cases h3 : k = 3
    · subst h3; simp
    · simp [h1, h3]
theorem coS_row {a b : Nat → Nat → Int32} {i : Nat} (h : ∀ k, a i k = b i k) (k : Nat) : coS a i i k = coS b i i k := by
  rw [coS_at, coS_at, h 7, h 2, h 6, h k]
theorem mvI_o {x : SBC} {i k : Nat} : ∀ n, n ≤ i → (mvI PC ps sc bc hh x n).1 i k = x.1 i k
  | 0, _ => rfl
  | n + 1, h => by
    have ih := mvI_o (x := x) (i := i) (k := k) n (by omega)
    show (mvT PC ps sc bc hh n (mvI PC ps sc bc hh x n)).1 i k = _
    unfold mvT
    split
    · split
      · show rsS (coS (mvI PC ps sc bc hh x n).1 n) n i k = _
        rw [rsS_same i k (by omega), coS_same i k (by omega)]
        exact ih
      · show coS (mvI PC ps sc bc hh x n).1 n i k = _
        rw [coS_same i k (by omega)]
        exact ih
    · exact ih
theorem mvc_cong {a b : Nat → Nat → Int32} {i : Nat} (h : ∀ k, a i k = b i k) : (mvc sc a i ↔ mvc sc b i) ∧ (arr PC ps a i ↔ arr PC ps b i) := by
  unfold mvc arr
  rw [h 3, h 7, coS_row h 4, coS_row h 5]
  exact ⟨Iff.rfl, Iff.rfl⟩
theorem mvT_y {x : SBC} {n : Nat} (h : mvc sc x.1 n) (ha : arr PC ps x.1 n) : mvT PC ps sc bc hh n x = (rsS (coS x.1 n) n, (ulB x.2.1 bc (nI n) (rsS (coS x.1 n) n n 5) (nI hh) 40).1, x.2.2 + (ulB x.2.1 bc (nI n) (rsS (coS x.1 n) n n 5) (nI hh) 40).2) := (if_pos h).trans (if_pos ha)
theorem mvT_m {x : SBC} {n : Nat} (h : mvc sc x.1 n) (ha : ¬ arr PC ps x.1 n) : mvT PC ps sc bc hh n x = (coS x.1 n, x.2) := (if_pos h).trans (if_neg ha)
theorem mvT_n {x : SBC} {n : Nat} (h : ¬ mvc sc x.1 n) : mvT PC ps sc bc hh n x = x := if_neg h
theorem mvI_in {x : SBC} {i : Nat} : ∀ n, i < n → (mvc sc x.1 i → arr PC ps x.1 i → ∀ k, (mvI PC ps sc bc hh x n).1 i k = rsS (coS x.1 i) i i k) ∧ (mvc sc x.1 i → ¬ arr PC ps x.1 i → ∀ k, (mvI PC ps sc bc hh x n).1 i k = coS x.1 i i k) ∧ (¬ mvc sc x.1 i → ∀ k, (mvI PC ps sc bc hh x n).1 i k = x.1 i k)
  | 0, h => absurd h (Nat.not_lt_zero i)
  | n + 1, h => by
    have e0 : (mvI PC ps sc bc hh x (n + 1)) = mvT PC ps sc bc hh n (mvI PC ps sc bc hh x n) := rfl
    by_cases e : i = n
    · subst e
      have ho : ∀ k, (mvI PC ps sc bc hh x i).1 i k = x.1 i k := fun k => mvI_o i (Nat.le_refl i)
      obtain ⟨hc, ha⟩ := mvc_cong (PC := PC) (ps := ps) (sc := sc) ho
      refine ⟨fun hy hz k => ?_, fun hy hz k => ?_, fun hn k => ?_⟩
      · rw [e0, mvT_y (hc.mpr hy) (ha.mpr hz)]
        show rsS (coS (mvI PC ps sc bc hh x i).1 i) i i k = _
        rw [rsS_at, rsS_at, coS_row ho k]
      · rw [e0, mvT_m (hc.mpr hy) (fun q => hz (ha.mp q))]
        exact coS_row ho k
      · rw [e0, mvT_n (fun q => hn (hc.mp q))]
        exact ho k
    · obtain ⟨i1, i2, i3⟩ := mvI_in (x := x) (i := i) n (by omega)
      have step : ∀ k, (mvI PC ps sc bc hh x (n + 1)).1 i k = (mvI PC ps sc bc hh x n).1 i k := fun k => by
        rw [e0]
        by_cases h1 : mvc sc (mvI PC ps sc bc hh x n).1 n
        · by_cases h2 : arr PC ps (mvI PC ps sc bc hh x n).1 n
          · rw [mvT_y h1 h2]
            show rsS (coS (mvI PC ps sc bc hh x n).1 n) n i k = _
            rw [rsS_same i k e, coS_same i k e]
          · rw [mvT_m h1 h2]
            exact coS_same i k e
        · rw [mvT_n h1]
      exact ⟨fun a b k => (step k).trans (i1 a b k), fun a b k => (step k).trans (i2 a b k), fun a k => (step k).trans (i3 a k)⟩
/-- the bags -/
theorem mvI_b0 {x : SBC} {b : Nat} (h : ¬ x.2.1 b 2 = 1) : ∀ n k, (mvI PC ps sc bc hh x n).2.1 b k = x.2.1 b k
  | 0, _ => rfl
  | n + 1, k => by
    have ih := mvI_b0 (x := x) h n
    have e0 : (mvI PC ps sc bc hh x (n + 1)) = mvT PC ps sc bc hh n (mvI PC ps sc bc hh x n) := rfl
    rw [e0]
    by_cases h1 : mvc sc (mvI PC ps sc bc hh x n).1 n
    · by_cases h2 : arr PC ps (mvI PC ps sc bc hh x n).1 n
      · rw [mvT_y h1 h2]
        show (ulB (mvI PC ps sc bc hh x n).2.1 bc (nI n) _ (nI hh) 40).1 b k = _
        rw [ulB_at, if_neg (fun q => h (by rw [← ih 2]; exact q.2.2.1))]
        exact ih k
      · rw [mvT_m h1 h2]
        exact ih k
    · rw [mvT_n h1]
      exact ih k
theorem mvI_b1 {x : SBC} {b s : Nat} (hb : b < bc) (hb4 : b < 40) (h2 : x.2.1 b 2 = 1) (h3 : x.2.1 b 3 = nI s) (hs : s < 2 ^ 31) : ∀ n, n ≤ 2 ^ 31 → ((s < n ∧ mvc sc x.1 s ∧ arr PC ps x.1 s) → ∀ k, (mvI PC ps sc bc hh x n).2.1 b k = pdB x.2.1 b (x.1 s 5) (nI hh) b k) ∧ (¬ (s < n ∧ mvc sc x.1 s ∧ arr PC ps x.1 s) → ∀ k, (mvI PC ps sc bc hh x n).2.1 b k = x.2.1 b k)
  | 0, _ => ⟨fun q => absurd q.1 (Nat.not_lt_zero s), fun _ _ => rfl⟩
  | n + 1, hn => by
    obtain ⟨ih1, ih2⟩ := mvI_b1 (x := x) hb hb4 h2 h3 hs n (by omega)
    have e0 : (mvI PC ps sc bc hh x (n + 1)) = mvT PC ps sc bc hh n (mvI PC ps sc bc hh x n) := rfl
    have hr : ∀ k, (mvI PC ps sc bc hh x n).1 n k = x.1 n k := fun k => mvI_o n (Nat.le_refl n)
    obtain ⟨hc, ha⟩ := mvc_cong (PC := PC) (ps := ps) (sc := sc) hr
    have hgen : ∀ (k : Nat), ((mvI PC ps sc bc hh x n).2.1 b 2 = 1 → (mvI PC ps sc bc hh x n).2.1 b 3 = nI n → ¬ (mvc sc (mvI PC ps sc bc hh x n).1 n ∧ arr PC ps (mvI PC ps sc bc hh x n).1 n)) → (mvI PC ps sc bc hh x (n + 1)).2.1 b k = (mvI PC ps sc bc hh x n).2.1 b k := fun k hno => by
      rw [e0]
      by_cases h1 : mvc sc (mvI PC ps sc bc hh x n).1 n
      · by_cases h4 : arr PC ps (mvI PC ps sc bc hh x n).1 n
        · rw [mvT_y h1 h4]
          show (ulB (mvI PC ps sc bc hh x n).2.1 bc (nI n) _ (nI hh) 40).1 b k = _
          rw [ulB_at, if_neg (fun q => hno q.2.2.1 q.2.2.2 ⟨h1, h4⟩)]
        · rw [mvT_m h1 h4]
      · rw [mvT_n h1]
    by_cases hd : s < n ∧ mvc sc x.1 s ∧ arr PC ps x.1 s
    · have j := ih1 hd
      refine ⟨fun _ k => (hgen k (fun q _ => ?_)).trans (j k), fun q => absurd ⟨Nat.lt_succ_of_lt hd.1, hd.2⟩ q⟩
      rw [j 2] at q
      exact absurd q pdB_2
    · have ih := ih2 hd
      by_cases hsn : s = n
      · subst hsn
        by_cases hk : mvc sc x.1 s ∧ arr PC ps x.1 s
        · refine ⟨fun _ k => ?_, fun q => absurd ⟨Nat.lt_succ_self s, hk⟩ q⟩
          have h5 : rsS (coS (mvI PC ps sc bc hh x s).1 s) s s 5 = x.1 s 5 := by rw [rs_5, hr 5]
          rw [e0, mvT_y (hc.mpr hk.1) (ha.mpr hk.2)]
          show (ulB (mvI PC ps sc bc hh x s).2.1 bc (nI s) (rsS (coS (mvI PC ps sc bc hh x s).1 s) s s 5) (nI hh) 40).1 b k = _
          rw [h5, ulB_at, if_pos ⟨hb4, hb, by rw [ih, h2], by rw [ih, h3]⟩, pdB_at, pdB_at, ih 1, ih k]
        · exact ⟨fun q => absurd q.2 hk, fun _ k => (hgen k (fun _ _ q => hk ⟨hc.mp q.1, ha.mp q.2⟩)).trans (ih k)⟩
      · refine ⟨fun q => absurd ⟨by have := q.1; omega, q.2⟩ hd, fun _ k => (hgen k (fun _ q => ?_)).trans (ih k)⟩
        rw [ih 3, h3] at q
        exact absurd ((nI_eq (a := s) (b := n) hs (by omega)).mp q) hsn
/-- how many come -/
def cmF (BF0 BF : Nat → Nat → Int32) (bc b : Nat) : Int32 := if b < bc ∧ BF0 b 2 = 1 ∧ BF b 2 = 2 then 1 else 0
theorem ulB_n {BF : Nat → Nat → Int32} {s q h : Int32} {n : Nat} : ∀ k, (ulB BF bc s q h n).1 n k = BF n k := fun k => by
  rw [ulB_at, if_neg (fun h => absurd h.1 (Nat.lt_irrefl n))]
theorem ulB_sum {BF : Nat → Nat → Int32} {s q h : Int32} : ∀ n, (ulB BF bc s q h n).2 = sumN (fun b => if b < bc ∧ BF b 2 = 1 ∧ BF b 3 = s ∧ q = BF b 1 then 1 else 0) n
  | 0 => rfl
  | n + 1 => by
    have ih := ulB_sum (BF := BF) (s := s) (q := q) (h := h) n
    show _ = sumN _ n + (if n < bc ∧ BF n 2 = 1 ∧ BF n 3 = s ∧ q = BF n 1 then 1 else 0)
    unfold ulB
    rw [ulB_n 2, ulB_n 3, ulB_n 1, ih]
    by_cases h1 : n < bc ∧ BF n 2 = 1 ∧ BF n 3 = s
    · rw [if_pos h1]
      show sumN _ n + (if q = BF n 1 then 1 else 0) = sumN _ n + (if n < bc ∧ BF n 2 = 1 ∧ BF n 3 = s ∧ q = BF n 1 then 1 else 0)
      rw [ifc (show q = BF n 1 ↔ (n < bc ∧ BF n 2 = 1 ∧ BF n 3 = s ∧ q = BF n 1) from ⟨fun h2 => ⟨h1.1, h1.2.1, h1.2.2, h2⟩, fun h => h.2.2.2⟩)]
    · rw [if_neg h1, if_neg (fun q => h1 ⟨q.1, q.2.1, q.2.2.1⟩)]
      exact ih.trans (Int32.add_zero _).symm
theorem sum_split {F G H : Nat → Int32} : ∀ n, (∀ i, i < n → F i = G i + H i) → sumN F n = sumN G n + sumN H n
  | 0, _ => rfl
  | n + 1, h => by
    show sumN F n + F n = (sumN G n + G n) + (sumN H n + H n)
    rw [sum_split n (fun i hi => h i (by omega)), h n (Nat.lt_succ_self n)]
    rw [Int32.add_assoc, Int32.add_assoc, ← Int32.add_assoc (sumN H n) (G n) (H n), Int32.add_comm (sumN H n) (G n), Int32.add_assoc]
theorem mvI_cnt {x : SBC} (hx : x.2.2 = 0) : ∀ n, (mvI PC ps sc bc hh x n).2.2 = sumN (cmF x.2.1 (mvI PC ps sc bc hh x n).2.1 bc) 40 ∧ ∀ b, (mvI PC ps sc bc hh x n).2.1 b 2 = 1 → x.2.1 b 2 = 1
  | 0 => ⟨hx.trans (sum_zero 40 (fun b _ => if_neg (fun q => absurd (q.2.1.symm.trans q.2.2) (by decide)))).symm, fun b h => h⟩
  | n + 1 => by
    obtain ⟨ih, ih2⟩ := mvI_cnt (x := x) hx n
    have e0 : (mvI PC ps sc bc hh x (n + 1)) = mvT PC ps sc bc hh n (mvI PC ps sc bc hh x n) := rfl
    rw [e0]
    generalize mvI PC ps sc bc hh x n = y at ih ih2 ⊢
    by_cases h1 : mvc sc y.1 n
    · by_cases h2 : arr PC ps y.1 n
      · rw [mvT_y h1 h2]
        refine ⟨?_, fun b hb => ?_⟩
        · show y.2.2 + (ulB y.2.1 bc (nI n) (rsS (coS y.1 n) n n 5) (nI hh) 40).2 = sumN (cmF x.2.1 (ulB y.2.1 bc (nI n) (rsS (coS y.1 n) n n 5) (nI hh) 40).1 bc) 40
          rw [ih, ulB_sum]
          refine (sum_split 40 (fun b hb => ?_)).symm
          unfold cmF
          rw [ulB_at]
          by_cases h4 : b < 40 ∧ b < bc ∧ y.2.1 b 2 = 1 ∧ y.2.1 b 3 = nI n
          · rw [if_pos h4, pdB_at, if_pos rfl, if_neg (show ¬ (2 : Nat) = 3 by decide), if_pos (show (2 : Nat) = 2 from rfl)]
            rw [if_neg (show ¬ (b < bc ∧ x.2.1 b 2 = 1 ∧ y.2.1 b 2 = 2) from fun q => absurd (h4.2.2.1.symm.trans q.2.2) (by decide))]
            by_cases h5 : rsS (coS y.1 n) n n 5 = y.2.1 b 1
            · rw [if_pos h5, if_pos ⟨h4.2.1, ih2 b h4.2.2.1, rfl⟩, if_pos ⟨h4.2.1, h4.2.2.1, h4.2.2.2, h5⟩]; rfl
            · rw [if_neg h5, if_neg (fun q => absurd q.2.2 (by decide)), if_neg (fun q => h5 q.2.2.2)]; rfl
          · rw [if_neg h4, if_neg (show ¬ (b < bc ∧ y.2.1 b 2 = 1 ∧ y.2.1 b 3 = nI n ∧ rsS (coS y.1 n) n n 5 = y.2.1 b 1) from fun q => h4 ⟨hb, q.1, q.2.1, q.2.2.1⟩), Int32.add_zero]
        · have hb : (ulB y.2.1 bc (nI n) (rsS (coS y.1 n) n n 5) (nI hh) 40).1 b 2 = 1 := hb
          rw [ulB_at] at hb
          split at hb
          · exact absurd hb pdB_2
          · exact ih2 b hb
      · rw [mvT_m h1 h2]
        exact ⟨ih, ih2⟩
    · rw [mvT_n h1]
      exact ⟨ih, ih2⟩
/-! resting -/
theorem reI_at {x : Nat → Nat → Int32} {i k : Nat} : ∀ n, reI sc x n i k = if i < n ∧ i < sc ∧ x i 3 = 0 ∧ k = 2 then (if 0 < x i 2 - 2 then x i 2 - 2 else 0) else x i k
  | 0 => (if_neg (fun q => absurd q.1 (Nat.not_lt_zero i))).symm
  | n + 1 => by
    have ih : ∀ k, reI sc x n i k = _ := fun k => reI_at (x := x) (i := i) (k := k) n
    show reT sc n (reI sc x n) i k = _
    unfold reT
    by_cases e : i = n
    · subst e
      have h3 : reI sc x i i 3 = x i 3 := (ih 3).trans (if_neg (fun q => absurd q.1 (Nat.lt_irrefl i)))
      have h2 : reI sc x i i 2 = x i 2 := (ih 2).trans (if_neg (fun q => absurd q.1 (Nat.lt_irrefl i)))
      have hk : reI sc x i i k = x i k := (ih k).trans (if_neg (fun q => absurd q.1 (Nat.lt_irrefl i)))
      rw [h3, h2]
      by_cases h : i < sc ∧ x i 3 = 0
      · rw [if_pos h]
        by_cases hk2 : k = 2
        · subst hk2
          rw [upS_s]
          exact (if_pos (show i < i + 1 ∧ i < sc ∧ x i 3 = 0 ∧ 2 = 2 from ⟨Nat.lt_succ_self i, h.1, h.2, rfl⟩)).symm
        · rw [upS_n _ _ (fun q => hk2 q.2), hk, if_neg (fun q => hk2 q.2.2.2)]
      · rw [if_neg h, hk, if_neg (fun q => h ⟨q.2.1, q.2.2.1⟩)]
    · have same : ∀ v, upS (reI sc x n) n 2 v i k = reI sc x n i k := fun v => upS_n _ _ (fun q => e q.1)
      have hh9 : (if n < sc ∧ reI sc x n n 3 = 0 then upS (reI sc x n) n 2 (if 0 < reI sc x n n 2 - 2 then reI sc x n n 2 - 2 else 0) else reI sc x n) i k = reI sc x n i k := by
        split
        · exact same _
        · rfl
      rw [hh9, ih k]
      exact ifc ⟨fun q => ⟨by omega, q.2⟩, fun q => ⟨by omega, q.2⟩⟩
end ROWS71
