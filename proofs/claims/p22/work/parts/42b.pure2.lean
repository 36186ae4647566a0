/-! the calls of the reference, by the same answers -/
theorem sum_onn {SF : Nat → Nat → Int32} {sc : Nat} {c : Int32} : ∀ n, n ≤ 5 → ∃ m, m ≤ n ∧ sumN (onF SF sc c) n = nI m
  | 0, _ => ⟨0, Nat.le_refl _, rfl⟩
  | n + 1, hn => by
    obtain ⟨m, h1, h2⟩ := sum_onn (SF := SF) (sc := sc) (c := c) n (by omega)
    have e : sumN (onF SF sc c) (n + 1) = nI m + onF SF sc c n := by rw [← h2]; rfl
    rw [e]
    unfold onF
    split
    · exact ⟨m + 1, by omega, nI_1 m⟩
    · exact ⟨m, by omega, Int32.add_zero _⟩
theorem sum_on0 {SF : Nat → Nat → Int32} {sc : Nat} {c : Int32} : sumN (onF SF sc c) 5 = 0 ↔ sumN (onF SF sc c) 5 ≤ 0 := by
  obtain ⟨m, h1, h2⟩ := sum_onn (SF := SF) (sc := sc) (c := c) 5 (Nat.le_refl _)
  rw [h2, i_eq, i_le, nI_toInt (by omega), i_0]
  omega
def frB (PC : Nat → Int32) (SF : Nat → Nat → Int32) (ps sc x y wd : Nat) : Nat → Bool
  | 0 => true
  | n + 1 => frB PC SF ps sc x y wd n && !tkP PC SF ps sc (cel x y wd n)
theorem frB_all {PC : Nat → Int32} {SF : Nat → Nat → Int32} {ps sc x y wd : Nat} : ∀ n, frB PC SF ps sc x y wd n = true ↔ ∀ m, m < n → tkP PC SF ps sc (cel x y wd m) = false
  | 0 => ⟨fun _ m h => absurd h (Nat.not_lt_zero _), fun _ => rfl⟩
  | n + 1 => by
    have ih := frB_all (PC := PC) (SF := SF) (ps := ps) (sc := sc) (x := x) (y := y) (wd := wd) n
    unfold frB
    constructor
    · intro h m hm
      have h2 : frB PC SF ps sc x y wd n = true ∧ tkP PC SF ps sc (cel x y wd n) = false := by simpa using h
      by_cases e : m = n
      · subst e; exact h2.2
      · exact ih.mp h2.1 m (by omega)
    · intro h
      have h1 := ih.mpr (fun m hm => h m (by omega))
      have h2 := h n (by omega)
      rw [h1, h2]; rfl
theorem tkC_all {PC : Nat → Int32} {SF : Nat → Nat → Int32} {ps sc x y : Nat} : ∀ n, tkC PC SF ps sc x y n = false ↔ ∀ m, m < n → tkP PC SF ps sc (x + m + 16 * y) = false
  | 0 => ⟨fun _ m h => absurd h (Nat.not_lt_zero _), fun _ => rfl⟩
  | n + 1 => by
    have ih := tkC_all (PC := PC) (SF := SF) (ps := ps) (sc := sc) (x := x) (y := y) n
    unfold tkC
    constructor
    · intro h m hm
      have h2 : tkC PC SF ps sc x y n = false ∧ tkP PC SF ps sc (x + n + 16 * y) = false := by simpa using h
      by_cases e : m = n
      · subst e; exact h2.2
      · exact ih.mp h2.1 m (by omega)
    · intro h
      rw [ih.mpr (fun m hm => h m (by omega)), h n (by omega)]; rfl
theorem tkL_all {PC : Nat → Int32} {SF : Nat → Nat → Int32} {ps sc x y wd : Nat} : ∀ n, tkL PC SF ps sc x y wd n = false ↔ ∀ m, m < n → tkC PC SF ps sc x (y + m) wd = false
  | 0 => ⟨fun _ m h => absurd h (Nat.not_lt_zero _), fun _ => rfl⟩
  | n + 1 => by
    have ih := tkL_all (PC := PC) (SF := SF) (ps := ps) (sc := sc) (x := x) (y := y) (wd := wd) n
    unfold tkL
    constructor
    · intro h m hm
      have h2 : tkL PC SF ps sc x y wd n = false ∧ tkC PC SF ps sc x (y + n) wd = false := by simpa using h
      by_cases e : m = n
      · subst e; exact h2.2
      · exact ih.mp h2.1 m (by omega)
    · intro h
      rw [ih.mpr (fun m hm => h m (by omega)), h n (by omega)]; rfl
theorem fr_tk {PC : Nat → Int32} {SF : Nat → Nat → Int32} {ps sc x y wd dp : Nat} : frB PC SF ps sc x y wd (wd * dp) = true ↔ ¬ tkL PC SF ps sc x y wd dp = true := by
  have e : (¬ tkL PC SF ps sc x y wd dp = true) ↔ tkL PC SF ps sc x y wd dp = false := by
    cases tkL PC SF ps sc x y wd dp <;> simp
  rw [e, frB_all, tkL_all]
  constructor
  · intro h i hi
    rw [tkC_all]
    intro j hj
    have h2 := h (i * wd + j) (by
      have h3 : i * wd + j < (i + 1) * wd := by rw [Nat.succ_mul]; omega
      have h4 : (i + 1) * wd ≤ dp * wd := Nat.mul_le_mul_right wd hi
      rw [Nat.mul_comm wd dp]
      omega)
    rw [cel_at hj] at h2
    exact h2
  · intro h m hm
    have hw : 0 < wd := by
      rcases Nat.eq_zero_or_pos wd with h0 | h0
      · rw [h0, Nat.zero_mul] at hm
        omega
      · exact h0
    have h1 : m / wd < dp := by
      rw [Nat.div_lt_iff_lt_mul hw, Nat.mul_comm]
      exact hm
    have h2 := (tkC_all wd).mp (h (m / wd) h1) (m % wd) (Nat.mod_lt _ hw)
    have e2 : cel x y wd m = x + m % wd + 16 * (y + m / wd) := rfl
    rw [e2]
    exact h2
theorem kcel {x y wd i : Nat} (hi : i < 2 ^ 31) (hw : 0 < wd) (hw2 : wd < 2 ^ 31) : nI x + (nI i - nI i / nI wd * nI wd) + 16 * (nI y + nI i / nI wd) = nI (cel x y wd i) := by
  rw [pk_rem hi hw hw2, pk_div hi hw hw2, nI_add, nI_add]
  exact kf_cell
theorem cel_lt {x y wd dp i : Nat} (hx : x + wd ≤ 16) (hy : y + dp ≤ 10) (hi : i < wd * dp) : cel x y wd i < 160 := by
  have hw : 0 < wd := by
    rcases Nat.eq_zero_or_pos wd with h0 | h0
    · rw [h0, Nat.zero_mul] at hi
      omega
    · exact h0
  have h1 : i / wd < dp := by
    rw [Nat.div_lt_iff_lt_mul hw, Nat.mul_comm]
    exact hi
  have h2 := Nat.mod_lt i hw
  unfold cel
  omega
theorem told_at {T N S C PC : Nat → Int32} {SF : Nat → Nat → Int32} {ps sc a b e : Nat} (hC : cOK C) (he : e ≤ 5) : (upd (upd (upd (upd (upd (upd (fun _ => 0) 0 (T (a + 16 * b))) 1 (N (a + 16 * b))) 2 (S (a + 16 * b))) 3 (C (a + 16 * b))) 4 (oI (pOn PC ps (nI (a + 16 * b)) 8 0))) 5 (sumN (onF SF sc (nI (a + 16 * b))) 5)) e = tlC T N S C PC SF ps sc (a + 16 * b) e := by
  rcases (show e = 0 ∨ e = 1 ∨ e = 2 ∨ e = 3 ∨ e = 4 ∨ e = 5 by omega) with rfl | rfl | rfl | rfl | rfl | rfl
  · rfl
  · rfl
  · rfl
  · show C (a + 16 * b) = bI (¬ C (a + 16 * b) = 0)
    rcases cOK01 hC (a + 16 * b) with h | h
    · rw [h]; rfl
    · rw [h]; rfl
  · rfl
  · rfl
theorem clamp7 : (7 : Int32).toNatClampNeg = 7 := by decide
theorem clamp5 : (5 : Int32).toNatClampNeg = 5 := by decide
theorem k7 (n : Nat) : (7 : Int32) * nI n = nI (7 * n) := pk_mul 7 n
theorem k5 (n : Nat) : (5 : Int32) * nI n = nI (5 * n) := pk_mul 5 n
/-! the calls of the reference, second half -/
theorem sum_ch {F G : Nat → Int32} {j : Nat} {v : Int32} (h0 : F j = 0) (hv : G j = v) (hs : ∀ i, ¬ i = j → G i = F i) : ∀ n, sumN G n = sumN F n + (if j < n then v else 0)
  | 0 => by rw [if_neg (Nat.not_lt_zero j)]; exact (Int32.add_zero _).symm
  | n + 1 => by
    show sumN G n + G n = sumN F n + F n + _
    rw [sum_ch h0 hv hs n]
    by_cases e : n = j
    · subst e
      rw [if_neg (Nat.lt_irrefl n), if_pos (Nat.lt_succ_self n), hv, h0, Int32.add_zero]
    · have e2 : (if j < n + 1 then v else 0) = if j < n then v else 0 := by
        by_cases q : j < n
        · rw [if_pos q, if_pos (by omega)]
        · rw [if_neg q, if_neg (by omega)]
      rw [hs n e, e2]
      generalize (if j < n then v else 0) = u
      rw [Int32.add_assoc, Int32.add_comm u, ← Int32.add_assoc]
theorem ld_sum {BF : Nat → Nat → Int32} {bc i j : Nat} (hj : j < bc) (hbc : bc ≤ 40) (h2 : BF j 2 = 0) : sumN (wgF (upS (upS BF j 2 1) j 3 (nI i)) bc (nI i)) 40 = sumN (wgF BF bc (nI i)) 40 + BF j 0 := by
  have h := sum_ch (F := wgF BF bc (nI i)) (G := wgF (upS (upS BF j 2 1) j 3 (nI i)) bc (nI i)) (j := j) (v := BF j 0) ?_ ?_ ?_ 40
  · rw [h, if_pos (by omega)]
  · unfold wgF
    rw [if_neg (fun q => by rw [h2] at q; exact absurd q.2.1 (by decide))]
  · unfold wgF
    rw [upS_s, upS_n _ _ (by omega), upS_s, upS_n _ _ (by omega), upS_n _ _ (by omega), if_pos ⟨hj, rfl, rfl⟩]
  · intro a ha
    unfold wgF
    rw [upS_n _ _ (by omega), upS_n _ _ (by omega), upS_n _ _ (by omega), upS_n _ _ (by omega), upS_n _ _ (by omega), upS_n _ _ (by omega)]
theorem ld_w {SF BF : Nat → Nat → Int32} {bc i j : Nat} (hw : hWI SF BF bc) (hi : i < 5) (hj : j < bc) (hbc : bc ≤ 40) (h2 : BF j 2 = 0) : 40 + 30 * SF i 0 + sumN (wgF (upS (upS BF j 2 1) j 3 (nI i)) bc (nI i)) 40 = slW (upS SF i 1 (SF i 1 + BF j 0)) i := by
  unfold slW
  rw [upS_n _ _ (by omega), upS_s, ld_sum hj hbc h2, hw i hi]
theorem hg_eq {T N C PC : Nat → Int32} {SF : Nat → Nat → Int32} {ps i j g : Nat} {h : Nat → Int32} (hN : nOK N) (hx : 0 ≤ (slW SF i).toInt ∧ (slW SF i).toInt ≤ 2039) (hr : 1 ≤ (SF i 0).toInt ∧ (SF i 0).toInt ≤ 6) (hk : cN (SF i 4) < 160) (h5 : SF i 5 = nI j) (hps : ps ≤ 8) (hj : j < ps) (hPg : PC j = nI g) (hg : g < 160) (hF : FDs (HbS T C SF i) (csS N SF i) g h) (f : Nat → Int32) : (if h (cN (SF i 4)) = 1000000 then -1 else h (cN (SF i 4))) = (hgQ T N C PC SF ps i f).1 (cN (SF i 4)) := by
  unfold hgQ
  rw [h5, cpo_q hps hj hPg hg]
  exact both_hours (lkq_spec (csS_ok hN hx hr) hg hk f) hF hk
theorem fd_rch {Hb : Nat → Bool} {cst : Nat → Nat} {g k : Nat} {h : Nat → Int32} (hC : ∀ j, j < 160 → cst j ≤ 43) (hF : FDs Hb cst g h) (hL : ∃ a, LSp Hb cst g a k) (hk : k < 160) : h k = 1000000 ↔ ¬ ∃ n, Rch Hb g n k := by
  obtain ⟨a, hL⟩ := hL
  constructor
  · rintro e ⟨n, hr⟩
    obtain ⟨m, hm⟩ := Rch.way (cst := cst) hr
    by_cases ea : a k = -1
    · exact hL.2.1 ea n m hm
    · obtain ⟨m2, n2, -, h2, h3, -⟩ := both_some hL hF hk ea
      have := nI_inj (a := 1000000) (b := m2) (by omega) (by omega) (e.symm.trans h2)
      omega
  · intro q
    rcases hF.1 k hk with e | ⟨m, n, -, -, h3⟩
    · exact e
    · exact absurd ⟨n, h3.rch⟩ q
theorem bears_0 {T C : Nat → Int32} {g k : Nat} (h : ¬ RchB T C g k 1) : bsB T C g k (-1) := Or.inl ⟨rfl, h⟩
theorem sum_0s {F : Nat → Int32} {i : Nat} {x : Int32} (h : F i = x) : sumN F i + x = sumN F (i + 1) := by rw [← h]; rfl
theorem cbI {C : Nat → Int32} (hC : cOK C) (k : Nat) : C k = bI (¬ C k = 0) := by
  rcases cOK01 hC k with h | h
  · rw [h]; rfl
  · rw [h]; rfl
theorem nI_nz {n : Nat} (h : 0 < n) (h2 : n < 2 ^ 31) : ¬ nI n = 0 := fun q => by
  have := (nI_eq (a := n) (b := 0) h2 (by omega)).mp q
  omega
theorem tkP_t {PC : Nat → Int32} {SF : Nat → Nat → Int32} {ps sc k : Nat} (h : ¬ oI (pOn PC ps (nI k) 8 0) = -1 ∨ ¬ sumN (onF SF sc (nI k)) 5 = 0) : tkP PC SF ps sc k = true := by
  unfold tkP
  rcases h with h | h
  · rw [show decide (pOn PC ps (nI k) 8 0 ≠ none) = true from decide_eq_true (fun q => h (pOn_none.mpr q))]; rfl
  · have h2 : 0 < sumN (onF SF sc (nI k)) 5 := Int32.not_le.mp (fun q => h (sum_on0.mpr q))
    rw [decide_eq_true h2, Bool.or_true]
theorem tkP_f {PC : Nat → Int32} {SF : Nat → Nat → Int32} {ps sc k : Nat} (h1 : oI (pOn PC ps (nI k) 8 0) = -1) (h2 : sumN (onF SF sc (nI k)) 5 = 0) : tkP PC SF ps sc k = false := by
  unfold tkP
  rw [show decide (pOn PC ps (nI k) 8 0 ≠ none) = false from decide_eq_false (fun q => q (pOn_none.mp h1)), decide_eq_false (Int32.not_lt.mpr (sum_on0.mp h2))]; rfl
theorem fr_s {PC : Nat → Int32} {SF : Nat → Nat → Int32} {ps sc x y wd i : Nat} {b : Bool} (h : frB PC SF ps sc x y wd i = b) (h2 : tkP PC SF ps sc (cel x y wd i) = (!b) ∨ b = false) : frB PC SF ps sc x y wd (i + 1) = b := by
  show (frB PC SF ps sc x y wd i && !tkP PC SF ps sc (cel x y wd i)) = b
  rw [h]
  cases b
  · rfl
  · rcases h2 with h2 | h2
    · rw [h2]; rfl
    · cases h2
theorem fr_f {PC : Nat → Int32} {SF : Nat → Nat → Int32} {ps sc x y wd i : Nat} (h2 : tkP PC SF ps sc (cel x y wd i) = true) : frB PC SF ps sc x y wd (i + 1) = false := by
  show (frB PC SF ps sc x y wd i && !tkP PC SF ps sc (cel x y wd i)) = false
  rw [h2]
  cases frB PC SF ps sc x y wd i <;> rfl
