/-! worlds that are equal but for bags -/
def rwE (sc : Nat) (a b : Nat → Nat → Int32) : Prop := ∀ i, i < sc → ∀ k, a i k = b i k
/-- two worlds that are the same but for their bags, and for sleighs that there are not -/
def eqB (sc : Nat) (x y : HW) : Prop := rwE sc x.1 y.1 ∧ x.2.2 = y.2.2
theorem upS_rw {sc i k : Nat} {v : Int32} {a b : Nat → Nat → Int32} (h : rwE sc a b) : rwE sc (upS a i k v) (upS b i k v) := fun j hj c => by
  unfold upS
  rw [h j hj c]
theorem slN_rw {sc n : Nat} {a b : Nat → Nat → Int32} (h : rwE sc a b) (hn : n < sc) : slN a n = slN b n := by
  unfold slN slW
  rw [h n hn 0, h n hn 1]
theorem slD_rw {sc n : Nat} {a b : Nat → Nat → Int32} (h : rwE sc a b) (hn : n < sc) : slD a n = slD b n := by
  unfold slD slW
  rw [h n hn 0, h n hn 1, h n hn 2]
theorem skT_bc {T C : Nat → Int32} {sc bc bc' n : Nat} {x y : SB} (h : rwE sc x.1 y.1) : rwE sc (skT T C sc bc n x).1 (skT T C sc bc' n y).1 := by
  unfold skT
  by_cases hn : n < sc
  · rw [slN_rw h hn, h n hn 3, h n hn 4]
    by_cases hc : n < sc ∧ ¬ y.1 n 3 = 2 ∧ ¬ hoB T C (cN (y.1 n 4)) (slN y.1 n) = true
    · rw [if_pos hc, if_pos hc]
      exact upS_rw (upS_rw (upS_rw (upS_rw (upS_rw h))))
    · rw [if_neg hc, if_neg hc]
      exact h
  · rw [if_neg (fun q => hn q.1), if_neg (fun q => hn q.1)]
    exact h
theorem skL_bc {T C : Nat → Int32} {sc bc bc' : Nat} : ∀ (m i : Nat) {x y : SB}, rwE sc x.1 y.1 → rwE sc (skL T C sc bc m i x).1 (skL T C sc bc' m i y).1
  | 0, _, _, _, h => h
  | m + 1, i, _, _, h => skL_bc m (i + 1) (skT_bc h)
theorem coS_rw {sc n : Nat} {a b : Nat → Nat → Int32} (h : rwE sc a b) (hn : n < sc) : rwE sc (coS a n) (coS b n) := by
  unfold coS
  rw [h n hn 7, h n hn 6, h n hn 2]
  by_cases hc : 0 < b n 7 - 1
  · rw [if_pos hc, if_pos hc]
    exact upS_rw h
  · rw [if_neg hc, if_neg hc]
    exact upS_rw (upS_rw (upS_rw (upS_rw h)))
theorem mvT_bc {PC : Nat → Int32} {ps sc bc bc' hh n : Nat} {x y : SBC} (h : rwE sc x.1 y.1) : rwE sc (mvT PC ps sc bc hh n x).1 (mvT PC ps sc bc' hh n y).1 := by
  unfold mvT
  by_cases hn : n < sc
  · have hk := coS_rw h hn
    rw [h n hn 3, h n hn 7, hk n hn 4, hk n hn 5]
    by_cases hc : n < sc ∧ (y.1 n 3 = 1 ∧ 0 < y.1 n 7)
    · rw [if_pos hc, if_pos hc]
      by_cases h2 : ¬ 0 < y.1 n 7 - 1 ∧ coS y.1 n n 4 = cop PC ps (coS y.1 n n 5)
      · rw [if_pos h2, if_pos h2]
        exact upS_rw (upS_rw hk)
      · rw [if_neg h2, if_neg h2]
        exact hk
    · rw [if_neg hc, if_neg hc]
      exact h
  · rw [if_neg (fun q => hn q.1), if_neg (fun q => hn q.1)]
    exact h
theorem mvL_bc {PC : Nat → Int32} {ps sc bc bc' hh : Nat} : ∀ (m i : Nat) {x y : SBC}, rwE sc x.1 y.1 → rwE sc (mvL PC ps sc bc hh m i x).1 (mvL PC ps sc bc' hh m i y).1
  | 0, _, _, _, h => h
  | m + 1, i, _, _, h => mvL_bc m (i + 1) (mvT_bc h)
theorem soT_bc {l5 : Value} {T N PC : Nat → Int32} {ps sc n : Nat} {x y : SO} (h : rwE sc x.1 y.1) (h2 : x.2 = y.2) : rwE sc (soT l5 T N PC ps sc n x).1 (soT l5 T N PC ps sc n y).1 ∧ (soT l5 T N PC ps sc n x).2 = (soT l5 T N PC ps sc n y).2 := by
  obtain ⟨xs, r⟩ := x
  obtain ⟨ys, r'⟩ := y
  have h2 : r = r' := h2
  subst h2
  have h : rwE sc xs ys := h
  by_cases hn : n < sc
  · have eN := slN_rw h hn
    have eD := slD_rw h hn
    have eQ : soQ T N PC ps n (xs, r) = soQ T N PC ps n (ys, r) := by
      show lkq (fun k => hoB T r.2.2.2.2.2.1 k (slN xs n)) N (slD xs n) (cN (xs n 4)) (cpo PC ps (xs n 5)) r.1.2.2.1 = lkq (fun k => hoB T r.2.2.2.2.2.1 k (slN ys n)) N (slD ys n) (cN (ys n 4)) (cpo PC ps (ys n 5)) r.1.2.2.1
      rw [eN, eD, h n hn 4, h n hn 5]
    have eX : soX T N PC ps n (xs, r) = soX T N PC ps n (ys, r) := by
      show ffq (fun k => hoB T r.2.2.2.2.2.1 k (slN xs n)) N (slD xs n) (soQ T N PC ps n (xs, r)).1 (cN (xs n 4)) = ffq (fun k => hoB T r.2.2.2.2.2.1 k (slN ys n)) N (slD ys n) (soQ T N PC ps n (ys, r)).1 (cN (ys n 4))
      rw [eQ, eN, eD, h n hn 4]
    by_cases hc : n < sc ∧ ys n 3 = 1 ∧ ¬ 0 < ys n 7 ∧ ¬ ys n 8 = r.2.2.2.2.2.2
    · have hcx : n < sc ∧ xs n 3 = 1 ∧ ¬ 0 < xs n 7 ∧ ¬ xs n 8 = r.2.2.2.2.2.2 := by
        rw [h n hn 3, h n hn 7, h n hn 8]
        exact hc
      cases hX : soX T N PC ps n (ys, r) with
      | none =>
        have ex : soT l5 T N PC ps sc n (xs, r) = (upS xs n 8 r.2.2.2.2.2.2, soQ T N PC ps n (xs, r), l5, slN xs n, slD xs n, r.2.2.2.2) := by
          unfold soT
          rw [if_pos hcx, eX, hX]
        have ey : soT l5 T N PC ps sc n (ys, r) = (upS ys n 8 r.2.2.2.2.2.2, soQ T N PC ps n (ys, r), l5, slN ys n, slD ys n, r.2.2.2.2) := by
          unfold soT
          rw [if_pos hc, hX]
        rw [ex, ey]
        refine ⟨upS_rw h, ?_⟩
        show (soQ T N PC ps n (xs, r), l5, slN xs n, slD xs n, r.2.2.2.2) = (soQ T N PC ps n (ys, r), l5, slN ys n, slD ys n, r.2.2.2.2)
        rw [eQ, eN, eD]
      | some j =>
        have ex : soT l5 T N PC ps sc n (xs, r) = (upS (upS xs n 6 (nI j)) n 7 (N j + slD xs n), soQ T N PC ps n (xs, r), l5, slN xs n, slD xs n, stU T r.2.2.2.2.1 r.2.2.2.2.2.1 (cN (xs n 4)) (slN xs n) r.2.2.2.2.2.2) := by
          unfold soT
          rw [if_pos hcx, eX, hX]
        have ey : soT l5 T N PC ps sc n (ys, r) = (upS (upS ys n 6 (nI j)) n 7 (N j + slD ys n), soQ T N PC ps n (ys, r), l5, slN ys n, slD ys n, stU T r.2.2.2.2.1 r.2.2.2.2.2.1 (cN (ys n 4)) (slN ys n) r.2.2.2.2.2.2) := by
          unfold soT
          rw [if_pos hc, hX]
        rw [ex, ey, eD]
        refine ⟨upS_rw (upS_rw h), ?_⟩
        show (soQ T N PC ps n (xs, r), l5, slN xs n, slD ys n, stU T r.2.2.2.2.1 r.2.2.2.2.2.1 (cN (xs n 4)) (slN xs n) r.2.2.2.2.2.2) = (soQ T N PC ps n (ys, r), l5, slN ys n, slD ys n, stU T r.2.2.2.2.1 r.2.2.2.2.2.1 (cN (ys n 4)) (slN ys n) r.2.2.2.2.2.2)
        rw [eQ, eN, h n hn 4]
    · have hcx : ¬ (n < sc ∧ xs n 3 = 1 ∧ ¬ 0 < xs n 7 ∧ ¬ xs n 8 = r.2.2.2.2.2.2) := by
        rw [h n hn 3, h n hn 7, h n hn 8]
        exact hc
      rw [show soT l5 T N PC ps sc n (xs, r) = (xs, r) from if_neg hcx, show soT l5 T N PC ps sc n (ys, r) = (ys, r) from if_neg hc]
      exact ⟨h, rfl⟩
  · unfold soT
    rw [if_neg (fun q => hn q.1), if_neg (fun q => hn q.1)]
    exact ⟨h, rfl⟩
theorem soL_bc {l5 : Value} {T N PC : Nat → Int32} {ps sc : Nat} : ∀ (m i : Nat) {x y : SO}, rwE sc x.1 y.1 → x.2 = y.2 → rwE sc (soL l5 T N PC ps sc m i x).1 (soL l5 T N PC ps sc m i y).1 ∧ (soL l5 T N PC ps sc m i x).2 = (soL l5 T N PC ps sc m i y).2
  | 0, _, _, _, h, h2 => ⟨h, h2⟩
  | m + 1, i, _, _, h, h2 => soL_bc m (i + 1) (soT_bc h h2).1 (soT_bc h h2).2
theorem reT_bc {sc n : Nat} {a b : Nat → Nat → Int32} (h : rwE sc a b) : rwE sc (reT sc n a) (reT sc n b) := by
  unfold reT
  by_cases hn : n < sc
  · rw [h n hn 3, h n hn 2]
    by_cases hc : n < sc ∧ b n 3 = 0
    · rw [if_pos hc, if_pos hc]
      exact upS_rw h
    · rw [if_neg hc, if_neg hc]
      exact h
  · rw [if_neg (fun q => hn q.1), if_neg (fun q => hn q.1)]
    exact h
theorem reL_bc {sc : Nat} : ∀ (m i : Nat) {a b : Nat → Nat → Int32}, rwE sc a b → rwE sc (reL sc m i a) (reL sc m i b)
  | 0, _, _, _, h => h
  | m + 1, i, _, _, h => reL_bc m (i + 1) (reT_bc h)
theorem hrA_bc {O : Nat → Int32} {hh sc : Nat} {x y : HW} (h : eqB sc x y) : eqB sc (hrA O hh x) (hrA O hh y) := by
  obtain ⟨xs, xb, xr⟩ := x
  obtain ⟨ys, yb, yr⟩ := y
  obtain ⟨h1, h2⟩ := h
  have h2 : xr = yr := h2
  subst h2
  unfold hrA
  by_cases hc : hh % 24 = 0
  · rw [if_pos hc, if_pos hc]
    exact ⟨h1, rfl⟩
  · rw [if_neg hc, if_neg hc]
    exact ⟨h1, rfl⟩
theorem hrW_bc {n5 : Nat} {l5 : Value} {N O PC : Nat → Int32} {ps sc bc bc' hh : Nat} {x y : HW} (h : eqB sc x y) : eqB sc (hrW n5 l5 N O PC ps sc bc hh x) (hrW n5 l5 N O PC ps sc bc' hh y) := by
  have hB : ∀ {x y : HW}, eqB sc x y → eqB sc (hrB n5 sc bc x) (hrB n5 sc bc' y) := by
    intro x y h
    obtain ⟨xs, xb, xr⟩ := x
    obtain ⟨ys, yb, yr⟩ := y
    obtain ⟨h1, h2⟩ := h
    have h2 : xr = yr := h2
    subst h2
    exact ⟨skL_bc n5 0 h1, rfl⟩
  have hC : ∀ {x y : HW}, eqB sc x y → eqB sc (hrC n5 PC ps sc bc hh x) (hrC n5 PC ps sc bc' hh y) := by
    intro x y h
    obtain ⟨xs, xb, xr⟩ := x
    obtain ⟨ys, yb, yr⟩ := y
    obtain ⟨h1, h2⟩ := h
    have h2 : xr = yr := h2
    subst h2
    exact ⟨mvL_bc n5 0 h1, rfl⟩
  have hE : ∀ {x y : HW}, eqB sc x y → eqB sc (hrR n5 sc (hrE n5 l5 N PC ps sc x)) (hrR n5 sc (hrE n5 l5 N PC ps sc y)) := by
    intro x y h
    obtain ⟨xs, xb, xt, xk, xr⟩ := x
    obtain ⟨ys, yb, yr⟩ := y
    obtain ⟨h1, h2⟩ := h
    have h2 : (xt, xk, xr) = yr := h2
    subst h2
    have h9 := soL_bc (l5 := l5) (T := xt) (N := N) (PC := PC) (ps := ps) (x := (xs, xr)) (y := (ys, xr)) n5 0 h1 rfl
    refine ⟨reL_bc n5 0 h9.1, ?_⟩
    show (xt, xk, (soL l5 xt N PC ps sc n5 0 (xs, xr)).2) = (xt, xk, (soL l5 xt N PC ps sc n5 0 (ys, xr)).2)
    rw [h9.2]
  exact hE (hC (hB (hrA_bc h)))
/-- a sleigh that is under stays under -/
theorem skT_2 {T C : Nat → Int32} {sc bc n i : Nat} {x : SB} (h : x.1 i 3 = 2) : (skT T C sc bc n x).1 i 3 = 2 := by
  unfold skT
  split
  · rename_i h1
    show skS x.1 n i 3 = 2
    rw [skS_same i 3 (fun e => h1.2.1 (by rw [← e]; exact h))]
    exact h
  · exact h
theorem skL_2 {T C : Nat → Int32} {sc bc i : Nat} : ∀ (m j : Nat) {x : SB}, x.1 i 3 = 2 → (skL T C sc bc m j x).1 i 3 = 2
  | 0, _, _, h => h
  | m + 1, j, _, h => skL_2 m (j + 1) (skT_2 h)
theorem mvT_2 {PC : Nat → Int32} {ps sc bc hh n i : Nat} {x : SBC} (h : x.1 i 3 = 2) : (mvT PC ps sc bc hh n x).1 i 3 = 2 := by
  unfold mvT
  split
  · rename_i h1
    have hne : ¬ i = n := fun e => absurd (h1.2.1.symm.trans (by rw [← e]; exact h)) (by decide : ¬ (1 : Int32) = 2)
    split
    · show rsS (coS x.1 n) n i 3 = 2
      rw [rsS_same i 3 hne, coS_same i 3 hne]
      exact h
    · show coS x.1 n i 3 = 2
      rw [coS_same i 3 hne]
      exact h
  · exact h
theorem mvL_2 {PC : Nat → Int32} {ps sc bc hh i : Nat} : ∀ (m j : Nat) {x : SBC}, x.1 i 3 = 2 → (mvL PC ps sc bc hh m j x).1 i 3 = 2
  | 0, _, _, h => h
  | m + 1, j, _, h => mvL_2 m (j + 1) (mvT_2 h)
theorem soT_3 {l5 : Value} {T N PC : Nat → Int32} {ps sc n i : Nat} {x : SO} : (soT l5 T N PC ps sc n x).1 i 3 = x.1 i 3 := by
  unfold soT
  split
  · split
    · exact upS_n _ _ (by omega)
    · show upS (upS x.1 n 6 _) n 7 _ i 3 = _
      rw [upS_n _ _ (by omega), upS_n _ _ (by omega)]
  · rfl
theorem soL_3 {l5 : Value} {T N PC : Nat → Int32} {ps sc i : Nat} : ∀ (m j : Nat) {x : SO}, (soL l5 T N PC ps sc m j x).1 i 3 = x.1 i 3
  | 0, _, _ => rfl
  | m + 1, j, _ => (soL_3 m (j + 1)).trans soT_3
theorem reT_3 {sc n i : Nat} {x : Nat → Nat → Int32} : reT sc n x i 3 = x i 3 := by
  unfold reT
  split
  · exact upS_n _ _ (by omega)
  · rfl
theorem reL_3 {sc i : Nat} : ∀ (m j : Nat) {x : Nat → Nat → Int32}, reL sc m j x i 3 = x i 3
  | 0, _, _ => rfl
  | m + 1, j, _ => (reL_3 m (j + 1)).trans reT_3
theorem hrW_2 {n5 : Nat} {l5 : Value} {N O PC : Nat → Int32} {ps sc bc hh i : Nat} {x : HW} (h : x.1 i 3 = 2) : (hrW n5 l5 N O PC ps sc bc hh x).1 i 3 = 2 := by
  have hA : (hrA O hh x).1 i 3 = 2 := by
    unfold hrA
    split
    · exact h
    · exact h
  have h1 : (hrC n5 PC ps sc bc hh (hrB n5 sc bc (hrA O hh x))).1 i 3 = 2 := mvL_2 n5 0 (skL_2 n5 0 hA)
  show reL sc n5 0 (soL l5 _ N PC ps sc n5 0 ((hrC n5 PC ps sc bc hh (hrB n5 sc bc (hrA O hh x))).1, _)).1 i 3 = 2
  rw [reL_3, soL_3]
  exact h1
theorem psL_2 {n5 : Nat} {l5 : Value} {N O PC : Nat → Int32} {ps sc bc i : Nat} : ∀ (n hh : Nat) {x : HW} {c : Int32}, x.1 i 3 = 2 → (psL n5 l5 N O PC ps sc bc n hh x c).1.1 i 3 = 2
  | 0, _, _, _, h => h
  | n + 1, hh, _, _, h => psL_2 n (hh + 1) (hrW_2 h)
theorem fo_ps {n5 : Nat} {l5 : Value} {N O PC : Nat → Int32} {ps sc bc i : Nat} (hi : i < sc) : ∀ (n hh : Nat) {x y : HW} {c : Int32}, eqB sc x y → foV i (foL n5 l5 N O PC ps sc i n hh y) = (if (psL n5 l5 N O PC ps sc bc n hh x c).1.1 i 3 = 2 then -1 else (psL n5 l5 N O PC ps sc bc n hh x c).1.1 i 4)
  | 0, _, x, y, _, h => by
    show foV i y = if x.1 i 3 = 2 then -1 else x.1 i 4
    unfold foV
    rw [h.1 i hi 3, h.1 i hi 4]
  | n + 1, hh, x, y, c, h => by
    have e : foL n5 l5 N O PC ps sc i (n + 1) hh y = if y.1 i 3 = 2 then y else foL n5 l5 N O PC ps sc i n (hh + 1) (hrW n5 l5 N O PC ps sc 0 hh y) := rfl
    rw [e]
    by_cases h2 : y.1 i 3 = 2
    · rw [if_pos h2, if_pos (psL_2 (n + 1) hh (by rw [h.1 i hi 3]; exact h2))]
      exact if_pos h2
    · rw [if_neg h2]
      exact fo_ps hi n (hh + 1) (hrW_bc h)
def rFo (n5 : Nat) (l5 : Value) (N O PC : Nat → Int32) (ps sc hh : Nat) (x : HW) (s q : Int32) : Int32 × Int32 := if isP sc s then (if 1 ≤ q ∧ q ≤ 200 then (0, foV (cN s) (foL n5 l5 N O PC ps sc (cN s) (cN q) hh x)) else (2, 0)) else (1, 0)
def rAr (n5 : Nat) (l5 : Value) (N O PC : Nat → Int32) (ps sc hh : Nat) (x : HW) (s : Int32) : Int32 × Int32 := if isP sc s then (if x.1 (cN s) 3 = 1 then (0, arV (cN s) (arL n5 l5 N O PC ps sc (cN s) 300 hh x)) else (2, 0)) else (1, 0)
theorem nI_sub1 {n : Nat} : nI (n + 1) - 1 = nI n := pk_sub (a := n + 1) (b := 1) (by omega)
def nwS (SF : Nat → Nat → Int32) : Nat → Nat → Int32 := fun j k => if k = 8 then -1 else SF j k
theorem hIV.nw {PC T C : Nat → Int32} {ps sc bc B B2 : Nat} {SF BF : Nat → Nat → Int32} {MX : Nat → Int32} {ch ch2 : Int32} (h : hIV PC ps sc bc T C ch SF BF MX B) (h2 : chB ch2 B2) : hIV PC ps sc bc T C ch2 (nwS SF) BF MX B2 := by
  obtain ⟨a1, a2, a3, a4, a5, a6, a7, a8⟩ := h
  have e : ∀ i k, ¬ k = 8 → nwS SF i k = SF i k := fun i k hk => if_neg hk
  refine ⟨fun i hi => ?_, fun i hi => ?_, fun i hi h1 => ?_, fun i hi => ?_, a5, a6, fun i hi h1 h3 => ?_, h2⟩
  · rw [e i 0 (by decide), e i 4 (by decide), e i 6 (by decide), e i 7 (by decide)]
    exact a1 i hi
  · rw [e i 3 (by decide), e i 4 (by decide), e i 5 (by decide), e i 7 (by decide)]
    exact a2 i hi
  · left
    rw [show nwS SF i 8 = -1 from if_pos rfl, i_lt, i_m1]
    have := h2.1
    omega
  · rw [e i 1 (by decide)]
    exact a4 i hi
  · rw [e i 3 (by decide)] at h1
    rw [e i 7 (by decide)] at h3
    rw [e i 6 (by decide)]
    exact a7 i hi h1 h3
theorem nw_y {sc : Nat} {S U BF BF2 : Nat → Nat → Int32} {z : (Nat → Int32) × (Nat → Int32) × QS × Value × Int32 × Int32 × (Nat → Int32) × (Nat → Int32) × Int32} : eqB sc (nwS U, BF, z) (cpN S U sc, BF2, z) := ⟨fun i hi k => by
  show nwS U i k = cpN S U sc i k
  unfold nwS cpN
  rw [if_pos hi], rfl⟩
theorem nw_t {SF : Nat → Nat → Int32} {MX : Nat → Int32} : tblM (nwS SF) MX = tblM SF MX := tblM_cong (fun i k hk => by
  rcases hk with rfl | rfl | rfl | rfl | rfl | rfl <;> exact if_neg (by decide))
