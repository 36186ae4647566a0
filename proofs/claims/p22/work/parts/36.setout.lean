/-! both searches find the same; the reference sets out -/
def ffm (Hb : Nat → Bool) (P : Nat → Int32) (h : Nat → Int32) (k : Nat) : Nat → Nat → Option Nat
  | 0, _ => none
  | m + 1, i => match nbr k i with
    | some j => if Hb j = true ∧ h j + P j = h k then some j else ffm Hb P h k m (i + 1)
    | none => ffm Hb P h k m (i + 1)
theorem nbr_sym {k s j : Nat} (hk : k < 160) (h : nbr k s = some j) : ∃ s', s' < 4 ∧ nbr j s' = some k := by
  unfold nbr at h
  split at h
  · split at h
    · cases h
    · cases h
      exact ⟨3, by omega, by show (if k - 16 + 16 < 160 then some (k - 16 + 16) else none) = some k; rw [if_pos (by omega)]; exact congrArg some (by omega)⟩
  · split at h
    · cases h
    · cases h
      exact ⟨2, by omega, by show (if (k - 1) % 16 = 15 then none else some (k - 1 + 1)) = some k; rw [if_neg (by omega)]; exact congrArg some (by omega)⟩
  · split at h
    · cases h
    · cases h
      exact ⟨1, by omega, by show (if (k + 1) % 16 = 0 then none else some (k + 1 - 1)) = some k; rw [if_neg (by omega)]; rfl⟩
  · split at h
    · cases h
      exact ⟨0, by omega, by show (if k + 16 < 16 then none else some (k + 16 - 16)) = some k; rw [if_neg (by omega)]; exact congrArg some (by omega)⟩
    · cases h
/-- reached by any way at all -/
def Rch (Hb : Nat → Bool) (g : Nat) : Nat → Nat → Prop
  | 0, c => c = g
  | n + 1, c => ∃ c' i, i < 4 ∧ c' < 160 ∧ nbr c' i = some c ∧ Rch Hb g n c' ∧ Hb c' = true
theorem Way.rch {Hb : Nat → Bool} {cst : Nat → Nat} {g : Nat} : ∀ {n c m : Nat}, Way Hb cst g n c m → Rch Hb g n c
  | 0, _, _, h => h.1
  | n + 1, c, m, h => by
    obtain ⟨c', i, k', h1, h2, h3, h4, h5, -⟩ := h
    exact ⟨c', i, h1, h2, h3, Way.rch h4, h5⟩
theorem Rch.way {Hb : Nat → Bool} {cst : Nat → Nat} {g : Nat} : ∀ {n c : Nat}, Rch Hb g n c → ∃ m, Way Hb cst g n c m
  | 0, _, h => ⟨0, h, rfl⟩
  | n + 1, c, h => by
    obtain ⟨c', i, h1, h2, h3, h4, h5⟩ := h
    obtain ⟨m, h6⟩ := Rch.way (cst := cst) h4
    exact ⟨m + cst c', c', i, m, h1, h2, h3, h6, h5, rfl⟩
section BOTH
variable {Hb : Nat → Bool} {cst : Nat → Nat} {g k : Nat} {a h : Nat → Int32}
theorem both_none (hL : LSp Hb cst g a k) (hF : FDs Hb cst g h) (hk : k < 160) (e : a k = -1) : h k = nI 1000000 := by
  rcases hF.1 k hk with h1 | ⟨m, n, h1, h2, h3⟩
  · exact h1
  · exact absurd h3 (hL.2.1 e n m)
theorem both_some (hL : LSp Hb cst g a k) (hF : FDs Hb cst g h) (hk : k < 160) (e : ¬ a k = -1) : ∃ m n, a k = nI m ∧ h k = nI m ∧ m ≤ 6837 ∧ Way Hb cst g n k m := by
  rcases hL.1 k hk with h1 | ⟨m, n, h1, h2, h3⟩
  · exact absurd h1 e
  · obtain ⟨m2, b1, b2⟩ := hF.2 n k m h3 (by omega)
    rcases hF.1 k hk with c1 | ⟨m3, n3, c1, c2, c3⟩
    · have := nI_inj (by omega) (by omega) (b2.symm.trans c1)
      omega
    · have e3 := nI_inj (by omega) (by omega) (b2.symm.trans c1)
      subst e3
      obtain ⟨m4, d1, d2⟩ := hL.2.2 m h1 (by omega) n3 k m2 hk c3 b1
      have e4 := nI_inj (by omega) (by omega) (h1.symm.trans d2)
      have e5 : m = m2 := by omega
      subst e5
      exact ⟨m, n, h1, b2, h2, h3⟩
theorem both_hours (hL : LSp Hb cst g a k) (hF : FDs Hb cst g h) (hk : k < 160) : (if h k = 1000000 then -1 else h k) = a k := by
  by_cases e : a k = -1
  · rw [if_pos (show h k = 1000000 from both_none hL hF hk e), e]
  · obtain ⟨m, n, h1, h2, h3, -⟩ := both_some hL hF hk e
    rw [if_neg, h2, h1]
    intro q
    have := nI_inj (a := m) (b := 1000000) (by omega) (by omega) (h2.symm.trans q)
    omega
/-- a cell ahead -/
theorem both_next {N : Nat → Int32} {dg : Int32} {P : Nat → Int32} (hC : ∀ j, j < 160 → N j + dg = nI (cst j) ∧ 1 ≤ cst j ∧ cst j ≤ 43) (hP : ∀ j, j < 160 → P j = nI (cst j) ∧ 1 ≤ cst j ∧ cst j ≤ 43) (hL : LSp Hb cst g a k) (hF : FDs Hb cst g h) (hk : k < 160) (e : ¬ a k = -1) {j : Nat} (hj : j < 160) : (¬ a j = -1 ∧ Hb j = true ∧ a j + N j + dg = a k) ↔ (Hb j = true ∧ h j + P j = h k) := by
  obtain ⟨m, n, h1, h2, h3, hw⟩ := both_some hL hF hk e
  have hCj := hC j hj
  have hPj := hP j hj
  rw [Int32.add_assoc, hCj.1, hPj.1, h1, h2]
  constructor
  · rintro ⟨b1, b2, b3⟩
    refine ⟨b2, ?_⟩
    rcases hL.1 j hj with c | ⟨mj, nj, c1, c2, c3⟩
    · exact absurd c b1
    · rw [c1, nI_add] at b3
      have e1 := nI_inj (by omega) (by omega) b3
      obtain ⟨m2, d1, d2⟩ := hF.2 nj j mj c3 (by omega)
      rcases hF.1 j hj with f | ⟨m3, n3, f1, f2, f3⟩
      · have := nI_inj (by omega) (by omega) (d2.symm.trans f)
        omega
      · have e3 := nI_inj (by omega) (by omega) (d2.symm.trans f1)
        subst e3
        obtain ⟨m4, g1, g2⟩ := hL.2.2 m h1 (by omega) n3 j m2 hj f3 (by omega)
        have e4 := nI_inj (by omega) (by omega) (c1.symm.trans g2)
        have e5 : m2 = mj := by omega
        rw [d2, e5, nI_add, e1]
  · rintro ⟨b2, b3⟩
    rcases hF.1 j hj with c | ⟨mj, nj, c1, c2, c3⟩
    · rw [c, nI_add] at b3
      have := nI_inj (by omega) (by omega) b3
      omega
    · rw [c1, nI_add] at b3
      have e1 := nI_inj (by omega) (by omega) b3
      obtain ⟨m3, g1, g2⟩ := hL.2.2 m h1 (by omega) nj j mj hj c3 (by omega)
      rcases hL.1 j hj with f | ⟨m4, n4, f1, f2, f3⟩
      · rw [f] at g2
        exact absurd g2.symm (nI_nem1 (by omega))
      · have e3 := nI_inj (by omega) (by omega) (g2.symm.trans f1)
        subst e3
        obtain ⟨m5, d1, d2⟩ := hF.2 n4 j m3 f3 (by omega)
        have e4 := nI_inj (by omega) (by omega) (c1.symm.trans d2)
        have e5 : m3 = mj := by omega
        subst e5
        exact ⟨by rw [g2]; exact nI_nem1 (by omega), b2, by rw [g2, nI_add, e1]⟩
theorem both_ffr {N : Nat → Int32} {dg : Int32} {P : Nat → Int32} (hC : ∀ j, j < 160 → N j + dg = nI (cst j) ∧ 1 ≤ cst j ∧ cst j ≤ 43) (hP : ∀ j, j < 160 → P j = nI (cst j) ∧ 1 ≤ cst j ∧ cst j ≤ 43) (hL : LSp Hb cst g a k) (hF : FDs Hb cst g h) (hk : k < 160) (e : ¬ a k = -1) : ∀ m i, ffr Hb N dg a k m i = ffm Hb P h k m i
  | 0, _ => rfl
  | m + 1, i => by
    unfold ffr ffm
    cases hn : nbr k i with
    | none => exact both_ffr hC hP hL hF hk e m (i + 1)
    | some j =>
      have h1 := both_next hC hP hL hF hk e (nbr_lt hk hn)
      dsimp only
      rw [both_ffr hC hP hL hF hk e m (i + 1)]
      exact ifc h1
theorem ffm_no0 {P : Nat → Int32} {m i : Nat} (hn : nbr k i = none) : ffm Hb P h k (m + 1) i = ffm Hb P h k m (i + 1) := by
  show (match nbr k i with | some j => _ | none => ffm Hb P h k m (i + 1)) = _
  rw [hn]
theorem ffm_no {P : Nat → Int32} {m i j : Nat} (hn : nbr k i = some j) (hc : ¬ (Hb j = true ∧ h j + P j = h k)) : ffm Hb P h k (m + 1) i = ffm Hb P h k m (i + 1) := by
  show (match nbr k i with | some j => if Hb j = true ∧ h j + P j = h k then some j else ffm Hb P h k m (i + 1) | none => ffm Hb P h k m (i + 1)) = _
  rw [hn]
  exact if_neg hc
theorem ffm_yes {P : Nat → Int32} {m i j : Nat} (hn : nbr k i = some j) (hc : Hb j = true ∧ h j + P j = h k) : ffm Hb P h k (m + 1) i = some j := by
  show (match nbr k i with | some j => if Hb j = true ∧ h j + P j = h k then some j else ffm Hb P h k m (i + 1) | none => ffm Hb P h k m (i + 1)) = _
  rw [hn]
  exact if_pos hc
theorem ffm_some {P : Nat → Int32} {j : Nat} : ∀ m i s, i ≤ s → s < i + m → nbr k s = some j → Hb j = true → h j + P j = h k → ∃ j', ffm Hb P h k m i = some j'
  | 0, i, s, h1, h2, _, _, _ => by omega
  | m + 1, i, s, h1, h2, h3, h4, h5 => by
    unfold ffm
    by_cases e : s = i
    · subst e
      rw [h3]
      dsimp only
      rw [if_pos ⟨h4, h5⟩]
      exact ⟨j, rfl⟩
    · obtain ⟨j', hj'⟩ := ffm_some (P := P) m (i + 1) s (by omega) (by omega) h3 h4 h5
      cases hn : nbr k i with
      | none => exact ⟨j', hj'⟩
      | some j2 =>
        dsimp only
        split
        · exact ⟨j2, rfl⟩
        · exact ⟨j', hj'⟩
theorem both_ahead {P : Nat → Int32} (hP : ∀ j, j < 160 → P j = nI (cst j) ∧ 1 ≤ cst j ∧ cst j ≤ 43) (hL : LSp Hb cst g a k) (hF : FDs Hb cst g h) (hk : k < 160) (hkg : ¬ k = g) (e : ¬ a k = -1) : ∃ j, ffm Hb P h k 4 0 = some j := by
  obtain ⟨m, n, h1, h2, h3, hw⟩ := both_some hL hF hk e
  cases n with
  | zero => exact absurd hw.1 hkg
  | succ n =>
    obtain ⟨c', i, k', w1, w2, w3, w4, w5, rfl⟩ := hw
    obtain ⟨s', s1, s2⟩ := nbr_sym w2 w3
    have hPc := hP c' w2
    obtain ⟨m2, b1, b2⟩ := hF.2 n c' k' w4 (by omega)
    rcases hF.1 c' w2 with f | ⟨m3, n3, f1, f2, f3⟩
    · have := nI_inj (by omega) (by omega) (b2.symm.trans f)
      omega
    · have e3 := nI_inj (by omega) (by omega) (b2.symm.trans f1)
      subst e3
      have hw2 : Way Hb cst g (n3 + 1) k (m2 + cst c') := ⟨c', i, m2, w1, w2, w3, f3, w5, rfl⟩
      obtain ⟨m4, d1, d2⟩ := hF.2 (n3 + 1) k (m2 + cst c') hw2 (by omega)
      have e4 := nI_inj (by omega) (by omega) (h2.symm.trans d2)
      refine ffm_some 4 0 s' (Nat.zero_le _) (by omega) s2 w5 ?_
      rw [b2, hPc.1, nI_add, h2]
      exact congrArg nI (by omega)
end BOTH
/-! what the walks need of weights, snow -/
def nOK (N : Nat → Int32) : Prop := ∀ k, k < 160 → 1 ≤ (N k).toInt ∧ (N k).toInt ≤ 9
theorem drag_nI {x r t : Int32} (hx : 0 ≤ x.toInt ∧ x.toInt ≤ 2039) (hr : 1 ≤ r.toInt ∧ r.toInt ≤ 6) : ∃ d, d ≤ 34 ∧ x / (60 * r) + (if 50 ≤ t then 1 else 0) = nI d := by
  obtain ⟨a, ha, rfl⟩ := nI_mk (x := x) (n := 2040) hx.1 (by omega) (by decide)
  obtain ⟨b, hb, rfl⟩ := nI_mk (x := r) (n := 7) (by omega) (by omega) (by decide)
  rw [nI_toInt (by omega)] at hr
  have hb1 : 1 ≤ b := by omega
  have e : nI a / (60 * nI b) = nI (a / (60 * b)) := by
    rw [show (60 : Int32) * nI b = nI (60 * b) from pk_mul 60 b]
    exact pk_div (by omega) (by omega) (by omega)
  have hd : a / (60 * b) ≤ 33 := by
    have h1 : a / (60 * b) ≤ a / 60 := Nat.div_le_div_left (by omega) (by decide)
    omega
  rw [e]
  by_cases h : 50 ≤ t
  · rw [if_pos h, nI_1]
    exact ⟨a / (60 * b) + 1, by omega, rfl⟩
  · rw [if_neg h, Int32.add_zero]
    exact ⟨a / (60 * b), by omega, rfl⟩
theorem cst_ok {N : Nat → Int32} {x r t : Int32} (hN : nOK N) (hx : 0 ≤ x.toInt ∧ x.toInt ≤ 2039) (hr : 1 ≤ r.toInt ∧ r.toInt ≤ 6) : ∀ j, j < 160 → N j + (x / (60 * r) + (if 50 ≤ t then 1 else 0)) = nI (cN (N j + (x / (60 * r) + (if 50 ≤ t then 1 else 0)))) ∧ 1 ≤ cN (N j + (x / (60 * r) + (if 50 ≤ t then 1 else 0))) ∧ cN (N j + (x / (60 * r) + (if 50 ≤ t then 1 else 0))) ≤ 43 := by
  intro j hj
  obtain ⟨d, hd, e⟩ := drag_nI (t := t) hx hr
  have hNj := hN j hj
  obtain ⟨a, ha, ea⟩ := nI_mk (x := N j) (n := 10) (by omega) (by omega) (by decide)
  rw [e, ea, nI_add, cN_nI (by omega)]
  rw [ea, nI_toInt (by omega)] at hNj
  exact ⟨rfl, by omega, by omega⟩
theorem mpc_eq {N : Nat → Int32} {x r t : Int32} {j : Nat} : mpc N x r t j = N j + (x / (60 * r) + (if 50 ≤ t then 1 else 0)) := Int32.add_assoc _ _ _
def dI : Nat → Int32
  | 0 => -1
  | m + 1 => nI m
theorem dI_s (m : Nat) : nI m + Int32.ofInt (-1) = dI m := by
  cases m with
  | zero => decide
  | succ m => exact pk_m1 m
def oM (o : Option Nat) (w : Int32) : Int32 := match o with
  | some j => nI j
  | none => w
theorem thin_iff {T C : Nat → Int32} {k : Nat} {nd : Int32} : thin? T C k nd = true ↔ (¬ T k < 0 ∧ T k < ndC C k nd + 10) := by
  unfold thin? ndC; simp
theorem cpo_q {PC : Nat → Int32} {ps q g : Nat} (hp : ps ≤ 8) (hq : q < ps) (h : PC q = nI g) (hg : g < 160) : cpo PC ps (nI q) = some g := by
  unfold cpo
  rw [if_pos ⟨nI_pos' (by omega), nI_lt (b := ps) hq (by omega)⟩, cN_nI (by omega), h, cN_nI (by omega)]
abbrev HbS (T C : Nat → Int32) (SF : Nat → Nat → Int32) (s : Nat) : Nat → Bool := fun k => hoB T C k (slN SF s)
abbrev csS (N : Nat → Int32) (SF : Nat → Nat → Int32) (s : Nat) : Nat → Nat := fun j => cN (N j + slD SF s)
abbrev mpS (N : Nat → Int32) (SF : Nat → Nat → Int32) (s : Nat) : Nat → Int32 := mpc N (slW SF s) (SF s 0) (SF s 2)
theorem csS_ok {N : Nat → Int32} {SF : Nat → Nat → Int32} {s : Nat} (hN : nOK N) (hx : 0 ≤ (slW SF s).toInt ∧ (slW SF s).toInt ≤ 2039) (hr : 1 ≤ (SF s 0).toInt ∧ (SF s 0).toInt ≤ 6) : ∀ j, j < 160 → N j + slD SF s = nI (csS N SF s j) ∧ 1 ≤ csS N SF s j ∧ csS N SF s j ≤ 43 := cst_ok hN hx hr
theorem mpS_ok {N : Nat → Int32} {SF : Nat → Nat → Int32} {s : Nat} (hN : nOK N) (hx : 0 ≤ (slW SF s).toInt ∧ (slW SF s).toInt ≤ 2039) (hr : 1 ≤ (SF s 0).toInt ∧ (SF s 0).toInt ≤ 6) : ∀ j, j < 160 → mpS N SF s j = nI (csS N SF s j) ∧ 1 ≤ csS N SF s j ∧ csS N SF s j ≤ 43 := fun j hj => ⟨mpc_eq.trans (csS_ok hN hx hr j hj).1, (csS_ok hN hx hr j hj).2⟩
