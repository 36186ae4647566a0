/-! both searches find the same; the reference sets out -/
def ffm (Hb : Nat → Bool) (P : Nat → Int32) (h : Nat → Int32) (k : Nat) : Nat → Nat → Option Nat
  | 0, _ => none
  | m + 1, i => match nbr k i with
    | some j => if Hb j = true ∧ h j + P j = h k then some j else ffm Hb P h k m (i + 1)
    | none => ffm Hb P h k m (i + 1)
theorem nbr_sym {k s j : Nat} (hk : k < 160) (h : nbr k s = some j) : ∃ s', s' < 4 ∧ nbr j s' = some k := by
  unfold nbr at h
  split at h
  · split at h
    · cases h
    · cases h
      exact ⟨3, by omega, by show (if k - 16 + 16 < 160 then some (k - 16 + 16) else none) = some k; rw [if_pos (by omega)]; exact congrArg some (by omega)⟩
  · split at h
    · cases h
    · cases h
      exact ⟨2, by omega, by show (if (k - 1) % 16 = 15 then none else some (k - 1 + 1)) = some k; rw [if_neg (by omega)]; exact congrArg some (by omega)⟩
  · split at h
    · cases h
    · cases h
      exact ⟨1, by omega, by show (if (k + 1) % 16 = 0 then none else some (k + 1 - 1)) = some k; rw [if_neg (by omega)]; rfl⟩
  · split at h
    · cases h
      exact ⟨0, by omega, by show (if k + 16 < 16 then none else some (k + 16 - 16)) = some k; rw [if_neg (by omega)]; exact congrArg some (by omega)⟩
    · cases h
/-- reached by any way at all -/
def Rch (Hb : Nat → Bool) (g : Nat) : Nat → Nat → Prop
  | 0, c => c = g
  | n + 1, c => ∃ c' i, i < 4 ∧ c' < 160 ∧ nbr c' i = some c ∧ Rch Hb g n c' ∧ Hb c' = true
theorem Way.rch {Hb : Nat → Bool} {cst : Nat → Nat} {g : Nat} : ∀ {n c m : Nat}, Way Hb cst g n c m → Rch Hb g n c
  | 0, _, _, h => h.1
  | n + 1, c, m, h => by
    obtain ⟨c', i, k', h1, h2, h3, h4, h5, -⟩ := h
    exact ⟨c', i, h1, h2, h3, Way.rch h4, h5⟩
theorem Rch.way {Hb : Nat → Bool} {cst : Nat → Nat} {g : Nat} : ∀ {n c : Nat}, Rch Hb g n c → ∃ m, Way Hb cst g n c m
  | 0, _, h => ⟨0, h, rfl⟩
  | n + 1, c, h => by
    obtain ⟨c', i, h1, h2, h3, h4, h5⟩ := h
    obtain ⟨m, h6⟩ := Rch.way (cst := cst) h4
    exact ⟨m + cst c', c', i, m, h1, h2, h3, h6, h5, rfl⟩
section BOTH
variable {Hb : Nat → Bool} {cst : Nat → Nat} {g k : Nat} {a h : Nat → Int32}
theorem both_none (hL : LSp Hb cst g a k) (hF : FDs Hb cst g h) (hk : k < 160) (e : a k = -1) : h k = nI 1000000 := by
  rcases hF.1 k hk with h1 | ⟨m, n, h1, h2, h3⟩
  · exact h1
  · exact absurd h3 (hL.2.1 e n m)
theorem both_some (hL : LSp Hb cst g a k) (hF : FDs Hb cst g h) (hk : k < 160) (e : ¬ a k = -1) : ∃ m n, a k = nI m ∧ h k = nI m ∧ m ≤ 6837 ∧ Way Hb cst g n k m := by
  rcases hL.1 k hk with h1 | ⟨m, n, h1, h2, h3⟩
  · exact absurd h1 e
  · obtain ⟨m2, b1, b2⟩ := hF.2 n k m h3 (by omega)
    rcases hF.1 k hk with c1 | ⟨m3, n3, c1, c2, c3⟩
    · have := nI_inj (by omega) (by omega) (b2.symm.trans c1)
      omega
    · have e3 := nI_inj (by omega) (by omega) (b2.symm.trans c1)
      subst e3
      obtain ⟨m4, d1, d2⟩ := hL.2.2 m h1 (by omega) n3 k m2 hk c3 b1
      have e4 := nI_inj (by omega) (by omega) (h1.symm.trans d2)
      have e5 : m = m2 := by omega
      subst e5
      exact ⟨m, n, h1, b2, h2, h3⟩
theorem both_hours (hL : LSp Hb cst g a k) (hF : FDs Hb cst g h) (hk : k < 160) : (if h k = 1000000 then -1 else h k) = a k := by
  by_cases e : a k = -1
  · rw [if_pos (show h k = 1000000 from both_none hL hF hk e), e]
  · obtain ⟨m, n, h1, h2, h3, -⟩ := both_some hL hF hk e
    rw [if_neg, h2, h1]
    intro q
    have := nI_inj (a := m) (b := 1000000) (by omega) (by omega) (h2.symm.trans q)
    omega
/-- a cell ahead -/
theorem both_next {N : Nat → Int32} {dg : Int32} {P : Nat → Int32} (hC : ∀ j, j < 160 → N j + dg = nI (cst j) ∧ 1 ≤ cst j ∧ cst j ≤ 43) (hP : ∀ j, j < 160 → P j = nI (cst j) ∧ 1 ≤ cst j ∧ cst j ≤ 43) (hL : LSp Hb cst g a k) (hF : FDs Hb cst g h) (hk : k < 160) (e : ¬ a k = -1) {j : Nat} (hj : j < 160) : (¬ a j = -1 ∧ Hb j = true ∧ a j + N j + dg = a k) ↔ (Hb j = true ∧ h j + P j = h k) := by
  obtain ⟨m, n, h1, h2, h3, hw⟩ := both_some hL hF hk e
  have hCj := hC j hj
  have hPj := hP j hj
  rw [Int32.add_assoc, hCj.1, hPj.1, h1, h2]
  constructor
  · rintro ⟨b1, b2, b3⟩
    refine ⟨b2, ?_⟩
    rcases hL.1 j hj with c | ⟨mj, nj, c1, c2, c3⟩
    · exact absurd c b1
    · rw [c1, nI_add] at b3
      have e1 := nI_inj (by omega) (by omega) b3
      obtain ⟨m2, d1, d2⟩ := hF.2 nj j mj c3 (by omega)
      rcases hF.1 j hj with f | ⟨m3, n3, f1, f2, f3⟩
      · have := nI_inj (by omega) (by omega) (d2.symm.trans f)
        omega
      · have e3 := nI_inj (by omega) (by omega) (d2.symm.trans f1)
        subst e3
        obtain ⟨m4, g1, g2⟩ := hL.2.2 m h1 (by omega) n3 j m2 hj f3 (by omega)
        have e4 := nI_inj (by omega) (by omega) (c1.symm.trans g2)
        have e5 : m2 = mj := by omega
        rw [d2, e5, nI_add, e1]
  · rintro ⟨b2, b3⟩
    rcases hF.1 j hj with c | ⟨mj, nj, c1, c2, c3⟩
    · rw [c, nI_add] at b3
      have := nI_inj (by omega) (by omega) b3
      omega
    · rw [c1, nI_add] at b3
      have e1 := nI_inj (by omega) (by omega) b3
      obtain ⟨m3, g1, g2⟩ := hL.2.2 m h1 (by omega) nj j mj hj c3 (by omega)
      rcases hL.1 j hj with f | ⟨m4, n4, f1, f2, f3⟩
      · rw [f] at g2
        exact absurd g2.symm (nI_nem1 (by omega))
      · have e3 := nI_inj (by omega) (by omega) (g2.symm.trans f1)
        subst e3
        obtain ⟨m5, d1, d2⟩ := hF.2 n4 j m3 f3 (by omega)
        have e4 := nI_inj (by omega) (by omega) (c1.symm.trans d2)
        have e5 : m3 = mj := by omega
        subst e5
        exact ⟨by rw [g2]; exact nI_nem1 (by omega), b2, by rw [g2, nI_add, e1]⟩
theorem both_ffr {N : Nat → Int32} {dg : Int32} {P : Nat → Int32} (hC : ∀ j, j < 160 → N j + dg = nI (cst j) ∧ 1 ≤ cst j ∧ cst j ≤ 43) (hP : ∀ j, j < 160 → P j = nI (cst j) ∧ 1 ≤ cst j ∧ cst j ≤ 43) (hL : LSp Hb cst g a k) (hF : FDs Hb cst g h) (hk : k < 160) (e : ¬ a k = -1) : ∀ m i, ffr Hb N dg a k m i = ffm Hb P h k m i
  | 0, _ => rfl
  | m + 1, i => by
    unfold ffr ffm
    cases hn : nbr k i with
    | none => exact both_ffr hC hP hL hF hk e m (i + 1)
    | some j =>
      have h1 := both_next hC hP hL hF hk e (nbr_lt hk hn)
      dsimp only
      rw [both_ffr hC hP hL hF hk e m (i + 1)]
      exact ifc h1
theorem ffm_no0 {P : Nat → Int32} {m i : Nat} (hn : nbr k i = none) : ffm Hb P h k (m + 1) i = ffm Hb P h k m (i + 1) := by
  show (match nbr k i with | some j => _ | none => ffm Hb P h k m (i + 1)) = _
  rw [hn]
theorem ffm_no {P : Nat → Int32} {m i j : Nat} (hn : nbr k i = some j) (hc : ¬ (Hb j = true ∧ h j + P j = h k)) : ffm Hb P h k (m + 1) i = ffm Hb P h k m (i + 1) := by
  show (match nbr k i with | some j => if Hb j = true ∧ h j + P j = h k then some j else ffm Hb P h k m (i + 1) | none => ffm Hb P h k m (i + 1)) = _
  rw [hn]
  exact if_neg hc
theorem ffm_yes {P : Nat → Int32} {m i j : Nat} (hn : nbr k i = some j) (hc : Hb j = true ∧ h j + P j = h k) : ffm Hb P h k (m + 1) i = some j := by
  show (match nbr k i with | some j => if Hb j = true ∧ h j + P j = h k then some j else ffm Hb P h k m (i + 1) | none => ffm Hb P h k m (i + 1)) = _
  rw [hn]
  exact if_pos hc
theorem ffm_some {P : Nat → Int32} {j : Nat} : ∀ m i s, i ≤ s → s < i + m → nbr k s = some j → Hb j = true → h j + P j = h k → ∃ j', ffm Hb P h k m i = some j'
  | 0, i, s, h1, h2, _, _, _ => by omega
  | m + 1, i, s, h1, h2, h3, h4, h5 => by
    unfold ffm
    by_cases e : s = i
    · subst e
      rw [h3]
      dsimp only
      rw [if_pos ⟨h4, h5⟩]
      exact ⟨j, rfl⟩
    · obtain ⟨j', hj'⟩ := ffm_some (P := P) m (i + 1) s (by omega) (by omega) h3 h4 h5
      cases hn : nbr k i with
      | none => exact ⟨j', hj'⟩
      | some j2 =>
        dsimp only
        split
        · exact ⟨j2, rfl⟩
        · exact ⟨j', hj'⟩
theorem both_ahead {P : Nat → Int32} (hP : ∀ j, j < 160 → P j = nI (cst j) ∧ 1 ≤ cst j ∧ cst j ≤ 43) (hL : LSp Hb cst g a k) (hF : FDs Hb cst g h) (hk : k < 160) (hkg : ¬ k = g) (e : ¬ a k = -1) : ∃ j, ffm Hb P h k 4 0 = some j := by
  obtain ⟨m, n, h1, h2, h3, hw⟩ := both_some hL hF hk e
  cases n with
  | zero => exact absurd hw.1 hkg
  | succ n =>
    obtain ⟨c', i, k', w1, w2, w3, w4, w5, rfl⟩ := hw
    obtain ⟨s', s1, s2⟩ := nbr_sym w2 w3
    have hPc := hP c' w2
    obtain ⟨m2, b1, b2⟩ := hF.2 n c' k' w4 (by omega)
    rcases hF.1 c' w2 with f | ⟨m3, n3, f1, f2, f3⟩
    · have := nI_inj (by omega) (by omega) (b2.symm.trans f)
      omega
    · have e3 := nI_inj (by omega) (by omega) (b2.symm.trans f1)
      subst e3
      have hw2 : Way Hb cst g (n3 + 1) k (m2 + cst c') := ⟨c', i, m2, w1, w2, w3, f3, w5, rfl⟩
      obtain ⟨m4, d1, d2⟩ := hF.2 (n3 + 1) k (m2 + cst c') hw2 (by omega)
      have e4 := nI_inj (by omega) (by omega) (h2.symm.trans d2)
      refine ffm_some 4 0 s' (Nat.zero_le _) (by omega) s2 w5 ?_
      rw [b2, hPc.1, nI_add, h2]
      exact congrArg nI (by omega)
end BOTH
/-! what the walks need of weights, snow -/
def nOK (N : Nat → Int32) : Prop := ∀ k, k < 160 → 1 ≤ (N k).toInt ∧ (N k).toInt ≤ 9
theorem drag_nI {x r t : Int32} (hx : 0 ≤ x.toInt ∧ x.toInt ≤ 2039) (hr : 1 ≤ r.toInt ∧ r.toInt ≤ 6) : ∃ d, d ≤ 34 ∧ x / (60 * r) + (if 50 ≤ t then 1 else 0) = nI d := by
  obtain ⟨a, ha, rfl⟩ := nI_mk (x := x) (n := 2040) hx.1 (by omega) (by decide)
  obtain ⟨b, hb, rfl⟩ := nI_mk (x := r) (n := 7) (by omega) (by omega) (by decide)
  rw [nI_toInt (by omega)] at hr
  have hb1 : 1 ≤ b := by omega
  have e : nI a / (60 * nI b) = nI (a / (60 * b)) := by
    rw [show (60 : Int32) * nI b = nI (60 * b) from pk_mul 60 b]
    exact pk_div (by omega) (by omega) (by omega)
  have hd : a / (60 * b) ≤ 33 := by
    have h1 : a / (60 * b) ≤ a / 60 := Nat.div_le_div_left (by omega) (by decide)
    omega
  rw [e]
  by_cases h : 50 ≤ t
  · rw [if_pos h, nI_1]
    exact ⟨a / (60 * b) + 1, by omega, rfl⟩
  · rw [if_neg h, Int32.add_zero]
    exact ⟨a / (60 * b), by omega, rfl⟩
theorem cst_ok {N : Nat → Int32} {x r t : Int32} (hN : nOK N) (hx : 0 ≤ x.toInt ∧ x.toInt ≤ 2039) (hr : 1 ≤ r.toInt ∧ r.toInt ≤ 6) : ∀ j, j < 160 → N j + (x / (60 * r) + (if 50 ≤ t then 1 else 0)) = nI (cN (N j + (x / (60 * r) + (if 50 ≤ t then 1 else 0)))) ∧ 1 ≤ cN (N j + (x / (60 * r) + (if 50 ≤ t then 1 else 0))) ∧ cN (N j + (x / (60 * r) + (if 50 ≤ t then 1 else 0))) ≤ 43 := by
  intro j hj
  obtain ⟨d, hd, e⟩ := drag_nI (t := t) hx hr
  have hNj := hN j hj
  obtain ⟨a, ha, ea⟩ := nI_mk (x := N j) (n := 10) (by omega) (by omega) (by decide)
  rw [e, ea, nI_add, cN_nI (by omega)]
  rw [ea, nI_toInt (by omega)] at hNj
  exact ⟨rfl, by omega, by omega⟩
theorem mpc_eq {N : Nat → Int32} {x r t : Int32} {j : Nat} : mpc N x r t j = N j + (x / (60 * r) + (if 50 ≤ t then 1 else 0)) := Int32.add_assoc _ _ _
def dI : Nat → Int32
  | 0 => -1
  | m + 1 => nI m
theorem dI_s (m : Nat) : nI m + Int32.ofInt (-1) = dI m := by
  cases m with
  | zero => decide
  | succ m => exact pk_m1 m
def oM (o : Option Nat) (w : Int32) : Int32 := match o with
  | some j => nI j
  | none => w
theorem thin_iff {T C : Nat → Int32} {k : Nat} {nd : Int32} : thin? T C k nd = true ↔ (¬ T k < 0 ∧ T k < ndC C k nd + 10) := by
  unfold thin? ndC; simp
theorem cpo_q {PC : Nat → Int32} {ps q g : Nat} (hp : ps ≤ 8) (hq : q < ps) (h : PC q = nI g) (hg : g < 160) : cpo PC ps (nI q) = some g := by
  unfold cpo
  rw [if_pos ⟨nI_pos' (by omega), nI_lt (b := ps) hq (by omega)⟩, cN_nI (by omega), h, cN_nI (by omega)]
abbrev HbS (T C : Nat → Int32) (SF : Nat → Nat → Int32) (s : Nat) : Nat → Bool := fun k => hoB T C k (slN SF s)
abbrev csS (N : Nat → Int32) (SF : Nat → Nat → Int32) (s : Nat) : Nat → Nat := fun j => cN (N j + slD SF s)
abbrev mpS (N : Nat → Int32) (SF : Nat → Nat → Int32) (s : Nat) : Nat → Int32 := mpc N (slW SF s) (SF s 0) (SF s 2)
theorem csS_ok {N : Nat → Int32} {SF : Nat → Nat → Int32} {s : Nat} (hN : nOK N) (hx : 0 ≤ (slW SF s).toInt ∧ (slW SF s).toInt ≤ 2039) (hr : 1 ≤ (SF s 0).toInt ∧ (SF s 0).toInt ≤ 6) : ∀ j, j < 160 → N j + slD SF s = nI (csS N SF s j) ∧ 1 ≤ csS N SF s j ∧ csS N SF s j ≤ 43 := cst_ok hN hx hr
theorem mpS_ok {N : Nat → Int32} {SF : Nat → Nat → Int32} {s : Nat} (hN : nOK N) (hx : 0 ≤ (slW SF s).toInt ∧ (slW SF s).toInt ≤ 2039) (hr : 1 ≤ (SF s 0).toInt ∧ (SF s 0).toInt ≤ 6) : ∀ j, j < 160 → mpS N SF s j = nI (csS N SF s j) ∧ 1 ≤ csS N SF s j ∧ csS N SF s j ≤ 43 := fun j hj => ⟨mpc_eq.trans (csS_ok hN hx hr j hj).1, (csS_ok hN hx hr j hj).2⟩
set_option maxRecDepth 100000 in
set_option maxHeartbeats 4000000 in
theorem c_X6_findFor {G : Cx} {z : Nat → Nat} {th : Int32} {N O PC T S C : Nat → Int32} {ps sc bc hh : Nat} {SF BF : Nat → Nat → Int32} {MX H W : Nat → Int32} (hps : ps ≤ 8) (hsc : sc ≤ 5) (hbc : bc ≤ 40) {s k q g : Nat} (hs : s < 5) (hw : SF s 1 = sumN (wgF BF bc (nI s)) 40) (hx : 0 ≤ (slW SF s).toInt ∧ (slW SF s).toInt ≤ 2039) (hr : 1 ≤ (SF s 0).toInt ∧ (SF s 0).toInt ≤ 6) (hN : nOK N) (hT : tOK T) (hC : cOK C) (h4 : SF s 4 = nI k) (hk : k < 160) (hq : q < ps) (h5 : SF s 5 = nI q) (hPg : PC q = nI g) (hg : g < 160) : Mt G Y_X6_findFor 4 0 0 [.ref (z 0), .int (nI s)] (ModelM z th N O PC ps sc bc T S C SF MX BF hh H W) (fun v M' => ∃ h : Nat → Int32, FDs (HbS T C SF s) (csS N SF s) g h ∧ v = some (.int (if h k = 1000000 then -1 else h k)) ∧ M' = ModelM z th N O PC ps sc bc T S C SF MX BF hh h W) noX := by
  refine Mt.of (L := [some (.ref (z 0)), some (.int (nI s))]) rfl (by decide) (by simp [lg_sl, Value.category]) ⟨rfl, rfl, trivial⟩ (fun sz => ?_)
  refine v_aload_nR (pc := 0) dX6_findFor_0 rfl rfl ?_
  refine v_aload_nR (pc := 1) dX6_findFor_1 rfl rfl ?_
  refine v_get (pc := 2) 4 0 fg_X6_16 rfl rfl dX6_findFor_2 ?_
  refine v_aload_nR (pc := 5) dX6_findFor_5 rfl rfl ?_
  refine v_iload_n (pc := 6) dX6_findFor_6 rfl rfl ?_
  refine v_iconst (pc := 7) (v := 4) dX6_findFor_7 rfl ?_
  refine v_callV2 (pc := 8) (c_X6_sl4 hps hsc hbc (by omega)) cm_X6_sl q874 q876 qs19 (ci := 6) rfl rfl (orcO 0 rfl) [0, 1, 2, 3, 4, 5, 6, 7, 8, 9, 10, 11] (by rfl) (by decide) (fun _ _ h => h) (by decide) (by decide) (by decide) (Nat.le_of_ble_eq_true rfl) dX6_findFor_8 (fun v8 M8 hQ8 => ?_)
  obtain ⟨rfl, rfl⟩ := hQ8
  try dsimp only [wb, ModelM, List.set_cons_succ, List.set_cons_zero, List.append_nil, List.nil_append, List.cons_append, Option.toList, Nat.sub_zero]
  rw [h5]
  refine v_ialdN (pc := 11) 3 (k := q) rfl (by omega) (by decide) dX6_findFor_11 ?_
  rw [hPg]
  refine v_aload_nR (pc := 12) dX6_findFor_12 rfl rfl ?_
  refine v_iload_n (pc := 13) dX6_findFor_13 rfl rfl ?_
  refine v_callV1 (pc := 14) (c_X6_weight hps hsc hbc (by omega) hw) cm_X6_weight q927 q929 qs25 (ci := 6) rfl rfl (orcO 0 rfl) [0, 1, 2, 3, 4, 5, 6, 7, 8, 9, 10, 11] (by rfl) (by decide) (fun _ _ h => h) (by decide) (by decide) (by decide) (Nat.le_of_ble_eq_true rfl) dX6_findFor_14 (fun v14 M14 hQ14 => ?_)
  obtain ⟨rfl, rfl⟩ := hQ14
  try dsimp only [wb, ModelM, List.set_cons_succ, List.set_cons_zero, List.append_nil, List.nil_append, List.cons_append, Option.toList, Nat.sub_zero]
  refine v_aload_nR (pc := 17) dX6_findFor_17 rfl rfl ?_
  refine v_iload_n (pc := 18) dX6_findFor_18 rfl rfl ?_
  refine v_iconst (pc := 19) (v := 0) dX6_findFor_19 rfl ?_
  refine v_callV2 (pc := 20) (c_X6_sl0 hps hsc hbc (by omega)) cm_X6_sl q874 q876 qs19 (ci := 6) rfl rfl (orcO 0 rfl) [0, 1, 2, 3, 4, 5, 6, 7, 8, 9, 10, 11] (by rfl) (by decide) (fun _ _ h => h) (by decide) (by decide) (by decide) (Nat.le_of_ble_eq_true rfl) dX6_findFor_20 (fun v20 M20 hQ20 => ?_)
  obtain ⟨rfl, rfl⟩ := hQ20
  try dsimp only [wb, ModelM, List.set_cons_succ, List.set_cons_zero, List.append_nil, List.nil_append, List.cons_append, Option.toList, Nat.sub_zero]
  refine v_aload_nR (pc := 23) dX6_findFor_23 rfl rfl ?_
  refine v_iload_n (pc := 24) dX6_findFor_24 rfl rfl ?_
  refine v_iconst (pc := 25) (v := 1) dX6_findFor_25 rfl ?_
  refine v_callV2 (pc := 26) (c_X6_sl1 hps hsc hbc (by omega)) cm_X6_sl q874 q876 qs19 (ci := 6) rfl rfl (orcO 0 rfl) [0, 1, 2, 3, 4, 5, 6, 7, 8, 9, 10, 11] (by rfl) (by decide) (fun _ _ h => h) (by decide) (by decide) (by decide) (Nat.le_of_ble_eq_true rfl) dX6_findFor_26 (fun v26 M26 hQ26 => ?_)
  obtain ⟨rfl, rfl⟩ := hQ26
  try dsimp only [wb, ModelM, List.set_cons_succ, List.set_cons_zero, List.append_nil, List.nil_append, List.cons_append, Option.toList, Nat.sub_zero]
  refine v_callV4 (pc := 29) (c_X6_find hps hsc hbc (cst := csS N SF s) hg hr hT hC (mpS_ok hN hx hr)) cm_X6_find q947 q949 qs29 (ci := 6) rfl rfl (orcO 0 rfl) [0, 1, 2, 3, 4, 5, 6, 7, 8, 9, 10, 11] (by rfl) (by decide) (fun _ _ h => h) (by decide) (by decide) (by decide) (Nat.le_of_ble_eq_true rfl) dX6_findFor_29 (fun v29 M29 hQ29 => ?_)
  obtain ⟨rfl, h29, hF29, rfl⟩ := hQ29
  try dsimp only [wb, ModelM, List.set_cons_succ, List.set_cons_zero, List.append_nil, List.nil_append, List.cons_append, Option.toList, Nat.sub_zero]
  refine v_aload_nR (pc := 32) dX6_findFor_32 rfl rfl ?_
  refine v_get (pc := 33) 13 0 fg_X6_37 rfl rfl dX6_findFor_33 ?_
  refine v_aload_nR (pc := 36) dX6_findFor_36 rfl rfl ?_
  refine v_iload_n (pc := 37) dX6_findFor_37 rfl rfl ?_
  refine v_iconst (pc := 38) (v := 3) dX6_findFor_38 rfl ?_
  refine v_callV2 (pc := 39) (c_X6_sl3 hps hsc hbc (by omega)) cm_X6_sl q874 q876 qs19 (ci := 6) rfl rfl (orcO 0 rfl) [0, 1, 2, 3, 4, 5, 6, 7, 8, 9, 10, 11] (by rfl) (by decide) (fun _ _ h => h) (by decide) (by decide) (by decide) (Nat.le_of_ble_eq_true rfl) dX6_findFor_39 (fun v39 M39 hQ39 => ?_)
  obtain ⟨rfl, rfl⟩ := hQ39
  try dsimp only [wb, ModelM, List.set_cons_succ, List.set_cons_zero, List.append_nil, List.nil_append, List.cons_append, Option.toList, Nat.sub_zero]
  rw [h4]
  refine v_ialdN (pc := 42) 10 (k := k) rfl (by omega) (by decide) dX6_findFor_42 ?_
  refine v_ldc (pc := 43) q951 dX6_findFor_43 ?_
  refine v_icmp_ne (pc := 45) (tgt := 52) dX6_findFor_45 (by decide) (fun c45 => ?_) (fun c45 => ?_)
  · refine v_aload_nR (pc := 52) dX6_findFor_52 rfl rfl ?_
    refine v_get (pc := 53) 13 0 fg_X6_37 rfl rfl dX6_findFor_53 ?_
    refine v_aload_nR (pc := 56) dX6_findFor_56 rfl rfl ?_
    refine v_iload_n (pc := 57) dX6_findFor_57 rfl rfl ?_
    refine v_iconst (pc := 58) (v := 3) dX6_findFor_58 rfl ?_
    refine v_callV2 (pc := 59) (c_X6_sl3 hps hsc hbc (by omega)) cm_X6_sl q874 q876 qs19 (ci := 6) rfl rfl (orcO 0 rfl) [0, 1, 2, 3, 4, 5, 6, 7, 8, 9, 10, 11] (by rfl) (by decide) (fun _ _ h => h) (by decide) (by decide) (by decide) (Nat.le_of_ble_eq_true rfl) dX6_findFor_59 (fun v59 M59 hQ59 => ?_)
    obtain ⟨rfl, rfl⟩ := hQ59
    try dsimp only [wb, ModelM, List.set_cons_succ, List.set_cons_zero, List.append_nil, List.nil_append, List.cons_append, Option.toList, Nat.sub_zero]
    rw [h4]
    refine v_ialdN (pc := 62) 10 (k := k) rfl (by omega) (by decide) dX6_findFor_62 ?_
    refine v_iret (pc := 63) rfl rfl (Nat.le_of_ble_eq_true rfl) dX6_findFor_63 ?_
    exact ⟨h29, hF29, by rw [if_neg c45], rfl⟩
  · refine v_iconst (pc := 48) (v := -1) dX6_findFor_48 rfl ?_
    refine v_goto (pc := 49) (tgt := 63) dX6_findFor_49 (by decide) ?_
    refine v_iret (pc := 63) rfl rfl (Nat.le_of_ble_eq_true rfl) dX6_findFor_63 ?_
    exact ⟨h29, hF29, by rw [if_pos c45], rfl⟩
set_option maxRecDepth 100000 in
set_option maxHeartbeats 4000000 in
theorem lp_X6_so {G : Cx} {z : Nat → Nat} {th : Int32} {N O PC T S C : Nat → Int32} {ps sc bc hh : Nat} {SF BF : Nat → Nat → Int32} {MX H W : Nat → Int32} (hps : ps ≤ 8) (hsc : sc ≤ 5) (hbc : bc ≤ 40) {Z : ZT} {s k : Nat} {h MX0 : Nat → Int32} (hs : s < 5) (hr : 1 ≤ (SF s 0).toInt ∧ (SF s 0).toInt ≤ 6) (hT : tOK T) (hC : cOK C) (hk : k < 160) (K : ∀ MX : Nat → Int32, (∀ i, ¬ i = s → MX i = MX0 i) → MX s = oM (ffm (HbS T C SF s) (mpS N SF s) h k (4) (0)) (MX0 s) → V G Y_X6_setOut Z 5 0 0 128 [some (.ref (z 0)), some (.int (nI s)), some (.int (nI k)), some (.int (slW SF s)), none, none] [] (ModelM z th N O PC ps sc bc T S C SF MX BF hh h W)) : ∀ m : Nat, m ≤ 4 → ∀ MX : Nat → Int32, (∀ i, ¬ i = s → MX i = MX0 i) → MX s = oM (ffm (HbS T C SF s) (mpS N SF s) h k (4 - m) (m)) (MX0 s) → V G Y_X6_setOut Z 5 0 0 46 [some (.ref (z 0)), some (.int (nI s)), some (.int (nI k)), some (.int (slW SF s)), some (.int (dI m)), none] [] (ModelM z th N O PC ps sc bc T S C SF MX BF hh h W) := by
  intro m
  induction m with
  | zero =>
    intro _ MX hO hm
    refine v_iload (pc := 46) dX6_setOut_46 rfl ?_
    refine v_if_lt (pc := 48) (tgt := 128) dX6_setOut_48 (by decide) (fun c48 => ?_) (fun c48 => absurd c48 (by decide))
    refine v_sub ?_ (K MX hO hm)
    exact ⟨rfl, rfl, rfl, rfl, trivial⟩
  | succ m ih =>
    intro hm4 MX hO hm
    rw [show dI (m + 1) = nI m from rfl]
    refine v_iload (pc := 46) dX6_setOut_46 rfl ?_
    refine v_if_lt (pc := 48) (tgt := 128) dX6_setOut_48 (by decide) (fun c48 => absurd c48 (nI_pos (n := m) (by omega))) (fun c48 => ?_)
    have c48 : ¬ m < 0 := fun h => c48 ((nI_ltI (a := m) (b := 0) (by omega) (by omega)).mpr h)
    refine v_iload_n (pc := 51) dX6_setOut_51 rfl rfl ?_
    refine v_iload (pc := 52) dX6_setOut_52 rfl ?_
    refine v_callS2 (pc := 54) (c_X6_beside hk (by omega)) cm_X6_beside q960 q961 [] (by rfl) (by decide) (fun _ _ h => h) (by decide) (by decide) (by decide) (Nat.le_of_ble_eq_true rfl) dX6_setOut_54 (fun v54 M54 hQ54 => ?_)
    obtain ⟨rfl, rfl⟩ := hQ54
    try dsimp only [wb, ModelM, List.set_cons_succ, List.set_cons_zero, List.append_nil, List.nil_append, List.cons_append, Option.toList, Nat.sub_zero]
    refine v_istore (pc := 57) dX6_setOut_57 (by decide) rfl ?_
    refine v_iload (pc := 59) dX6_setOut_59 rfl ?_
    refine v_iconst (pc := 61) (v := -1) dX6_setOut_61 rfl ?_
    refine v_icmp_eq (pc := 62) (tgt := 122) dX6_setOut_62 (by decide) (fun c62 => ?_) (fun c62 => ?_)
    · refine v_iinc (pc := 122) dX6_setOut_122 rfl rfl (by decide) rfl ?_
      refine v_goto (pc := 125) (tgt := 46) dX6_setOut_125 (by decide) ?_
      rw [dI_s]
      have hn : nbr k m = none := by
        cases hn : nbr k m with
        | none => rfl
        | some j => exact absurd c62 (by rw [oI_some hn]; exact nI_nm1 (nbr_lt hk hn))
      have e : (ffm (HbS T C SF s) (mpS N SF s) h k (4 - m) (m)) = (ffm (HbS T C SF s) (mpS N SF s) h k (4 - (m + 1)) (m + 1)) := by
        rw [show 4 - m = (4 - (m + 1)) + 1 by omega]
        exact ffm_no0 hn
      refine v_sub ?_ (ih (by omega) MX hO (hm.trans (by rw [e])))
      exact ⟨rfl, rfl, rfl, rfl, rfl, trivial⟩
    · obtain ⟨j, hj⟩ : ∃ j, nbr k m = some j := by
        cases hn : nbr k m with
        | none => exact absurd (oI_none hn) c62
        | some j => exact ⟨j, rfl⟩
      have hj2 := nbr_lt hk hj
      rw [oI_some hj]
      refine v_aload_nR (pc := 65) dX6_setOut_65 rfl rfl ?_
      refine v_iload (pc := 66) dX6_setOut_66 rfl ?_
      refine v_iload_n (pc := 68) dX6_setOut_68 rfl rfl ?_
      refine v_callV2 (pc := 69) (c_X6_bearsIt hps hsc hbc (by omega) (tOK_l hT (by omega)) (cOK01 hC _)) cm_X6_bearsIt q952 q954 qs30 (ci := 6) rfl rfl (orcO 0 rfl) [0, 1, 2, 3, 4, 5, 6, 7, 8, 9, 10, 11] (by rfl) (by decide) (fun _ _ h => h) (by decide) (by decide) (by decide) (Nat.le_of_ble_eq_true rfl) dX6_setOut_69 (fun v69 M69 hQ69 => ?_)
      obtain ⟨rfl, rfl⟩ := hQ69
      try dsimp only [wb, ModelM, List.set_cons_succ, List.set_cons_zero, List.append_nil, List.nil_append, List.cons_append, Option.toList, Nat.sub_zero]
      refine v_if_eq (pc := 72) (tgt := 122) dX6_setOut_72 (by decide) (fun c72 => ?_) (fun c72 => ?_)
      · have c72 := bI_0.mp c72
        refine v_iinc (pc := 122) dX6_setOut_122 rfl rfl (by decide) rfl ?_
        refine v_goto (pc := 125) (tgt := 46) dX6_setOut_125 (by decide) ?_
        rw [dI_s]
        have e : (ffm (HbS T C SF s) (mpS N SF s) h k (4 - m) (m)) = (ffm (HbS T C SF s) (mpS N SF s) h k (4 - (m + 1)) (m + 1)) := by
          rw [show 4 - m = (4 - (m + 1)) + 1 by omega]
          exact ffm_no hj (fun h9 => c72 h9.1)
        refine v_sub ?_ (ih (by omega) MX hO (hm.trans (by rw [e])))
        exact ⟨rfl, rfl, rfl, rfl, rfl, trivial⟩
      · have c72 := bI_n.mp c72
        refine v_aload_nR (pc := 75) dX6_setOut_75 rfl rfl ?_
        refine v_get (pc := 76) 13 0 fg_X6_37 rfl rfl dX6_setOut_76 ?_
        refine v_iload (pc := 79) dX6_setOut_79 rfl ?_
        refine v_ialdN (pc := 81) 10 (k := j) rfl (by omega) (by decide) dX6_setOut_81 ?_
        refine v_aload_nR (pc := 82) dX6_setOut_82 rfl rfl ?_
        refine v_iload (pc := 83) dX6_setOut_83 rfl ?_
        refine v_iload_n (pc := 85) dX6_setOut_85 rfl rfl ?_
        refine v_aload_nR (pc := 86) dX6_setOut_86 rfl rfl ?_
        refine v_iload_n (pc := 87) dX6_setOut_87 rfl rfl ?_
        refine v_iconst (pc := 88) (v := 0) dX6_setOut_88 rfl ?_
        refine v_callV2 (pc := 89) (c_X6_sl0 hps hsc hbc (by omega)) cm_X6_sl q874 q876 qs19 (ci := 6) rfl rfl (orcO 0 rfl) [0, 1, 2, 3, 4, 5, 6, 7, 8, 9, 10, 11] (by rfl) (by decide) (fun _ _ h => h) (by decide) (by decide) (by decide) (Nat.le_of_ble_eq_true rfl) dX6_setOut_89 (fun v89 M89 hQ89 => ?_)
        obtain ⟨rfl, rfl⟩ := hQ89
        try dsimp only [wb, ModelM, List.set_cons_succ, List.set_cons_zero, List.append_nil, List.nil_append, List.cons_append, Option.toList, Nat.sub_zero]
        refine v_aload_nR (pc := 92) dX6_setOut_92 rfl rfl ?_
        refine v_iload_n (pc := 93) dX6_setOut_93 rfl rfl ?_
        refine v_iconst (pc := 94) (v := 1) dX6_setOut_94 rfl ?_
        refine v_callV2 (pc := 95) (c_X6_sl1 hps hsc hbc (by omega)) cm_X6_sl q874 q876 qs19 (ci := 6) rfl rfl (orcO 0 rfl) [0, 1, 2, 3, 4, 5, 6, 7, 8, 9, 10, 11] (by rfl) (by decide) (fun _ _ h => h) (by decide) (by decide) (by decide) (Nat.le_of_ble_eq_true rfl) dX6_setOut_95 (fun v95 M95 hQ95 => ?_)
        obtain ⟨rfl, rfl⟩ := hQ95
        try dsimp only [wb, ModelM, List.set_cons_succ, List.set_cons_zero, List.append_nil, List.nil_append, List.cons_append, Option.toList, Nat.sub_zero]
        refine v_callV4 (pc := 98) (c_X6_pace hps hsc hbc (by omega) hr) cm_X6_pace q963 q965 qs32 (ci := 6) rfl rfl (orcO 0 rfl) [0, 1, 2, 3, 4, 5, 6, 7, 8, 9, 10, 11] (by rfl) (by decide) (fun _ _ h => h) (by decide) (by decide) (by decide) (Nat.le_of_ble_eq_true rfl) dX6_setOut_98 (fun v98 M98 hQ98 => ?_)
        obtain ⟨rfl, rfl⟩ := hQ98
        try dsimp only [wb, ModelM, List.set_cons_succ, List.set_cons_zero, List.append_nil, List.nil_append, List.cons_append, Option.toList, Nat.sub_zero]
        refine v_iadd (pc := 101) dX6_setOut_101 ?_
        refine v_aload_nR (pc := 102) dX6_setOut_102 rfl rfl ?_
        refine v_get (pc := 103) 13 0 fg_X6_37 rfl rfl dX6_setOut_103 ?_
        refine v_iload_n (pc := 106) dX6_setOut_106 rfl rfl ?_
        refine v_ialdN (pc := 107) 10 (k := k) rfl (by omega) (by decide) dX6_setOut_107 ?_
        refine v_icmp_eq (pc := 108) (tgt := 114) dX6_setOut_108 (by decide) (fun c108 => ?_) (fun c108 => ?_)
        · refine v_aload_nR (pc := 114) dX6_setOut_114 rfl rfl ?_
          refine v_iload_n (pc := 115) dX6_setOut_115 rfl rfl ?_
          refine v_iconst (pc := 116) (v := 5) dX6_setOut_116 rfl ?_
          refine v_iload (pc := 117) dX6_setOut_117 rfl ?_
          refine v_callV3 (pc := 119) (c_X6_set5 hps hsc hbc (by omega)) cm_X6_set q939 q941 qs27 (ci := 6) rfl rfl (orcO 0 rfl) [0, 1, 2, 3, 4, 5, 6, 7, 8, 9, 10, 11] (by rfl) (by decide) (fun _ _ h => h) (by decide) (by decide) (by decide) (Nat.le_of_ble_eq_true rfl) dX6_setOut_119 (fun v119 M119 hQ119 => ?_)
          obtain ⟨rfl, rfl⟩ := hQ119
          try dsimp only [wb, ModelM, List.set_cons_succ, List.set_cons_zero, List.append_nil, List.nil_append, List.cons_append, Option.toList, Nat.sub_zero]
          refine v_iinc (pc := 122) dX6_setOut_122 rfl rfl (by decide) rfl ?_
          refine v_goto (pc := 125) (tgt := 46) dX6_setOut_125 (by decide) ?_
          rw [dI_s]
          have e : (ffm (HbS T C SF s) (mpS N SF s) h k (4 - m) (m)) = some j := by
            rw [show 4 - m = (4 - (m + 1)) + 1 by omega]
            exact ffm_yes hj ⟨c72, c108⟩
          refine v_sub ?_ (ih (by omega) (upd MX s (nI j)) (fun i hi => by rw [pk_un hi]; exact hO i hi) (by rw [pk_us, e]; rfl))
          exact ⟨rfl, rfl, rfl, rfl, rfl, trivial⟩
        · refine v_goto (pc := 111) (tgt := 122) dX6_setOut_111 (by decide) ?_
          refine v_iinc (pc := 122) dX6_setOut_122 rfl rfl (by decide) rfl ?_
          refine v_goto (pc := 125) (tgt := 46) dX6_setOut_125 (by decide) ?_
          rw [dI_s]
          have e : (ffm (HbS T C SF s) (mpS N SF s) h k (4 - m) (m)) = (ffm (HbS T C SF s) (mpS N SF s) h k (4 - (m + 1)) (m + 1)) := by
            rw [show 4 - m = (4 - (m + 1)) + 1 by omega]
            exact ffm_no hj (fun h9 => c108 h9.2)
          refine v_sub ?_ (ih (by omega) MX hO (hm.trans (by rw [e])))
          exact ⟨rfl, rfl, rfl, rfl, rfl, trivial⟩
set_option maxRecDepth 100000 in
set_option maxHeartbeats 4000000 in
theorem c_X6_setOut {G : Cx} {z : Nat → Nat} {th : Int32} {N O PC T S C : Nat → Int32} {ps sc bc hh : Nat} {SF BF : Nat → Nat → Int32} {MX H W : Nat → Int32} (hps : ps ≤ 8) (hsc : sc ≤ 5) (hbc : bc ≤ 40) {qs : QS} {lr l5 : Value} {nd dg ch : Int32} {s k : Nat} (hs : s < sc) (hw : SF s 1 = sumN (wgF BF bc (nI s)) 40) (hx : 0 ≤ (slW SF s).toInt ∧ (slW SF s).toInt ≤ 2039) (hr : 1 ≤ (SF s 0).toInt ∧ (SF s 0).toInt ≤ 6) (hN : nOK N) (hT : tOK T) (hC : cOK C) (h4 : SF s 4 = nI k) (hk : k < 160) (hX : SF s 3 = 1 → 0 < SF s 7 → MX s = SF s 6) (h5 : SF s 3 = 1 → ∃ q g, q < ps ∧ SF s 5 = nI q ∧ PC q = nI g ∧ g < 160 ∧ (¬ 0 < SF s 7 → ¬ k = g ∧ (SF s 8 = ch → ∀ n, ¬ Rch (HbS T C SF s) g n k))) : Mt G Y_X6_setOut 5 0 0 [.ref (z 0), .int (nI s)] (ModelM z th N O PC ps sc bc T S C SF MX BF hh H W) (fun v M' => v = none ∧ ∃ MX' h' : Nat → Int32, M' = ModelM z th N O PC ps sc bc T (soT l5 T N PC ps sc s (SF, qs, lr, nd, dg, S, C, ch)).2.2.2.2.2.1 (soT l5 T N PC ps sc s (SF, qs, lr, nd, dg, S, C, ch)).2.2.2.2.2.2.1 (soT l5 T N PC ps sc s (SF, qs, lr, nd, dg, S, C, ch)).1 MX' BF hh h' W ∧ (∀ i, ¬ i = s → MX' i = MX i) ∧ ((soT l5 T N PC ps sc s (SF, qs, lr, nd, dg, S, C, ch)).1 s 3 = 1 → 0 < (soT l5 T N PC ps sc s (SF, qs, lr, nd, dg, S, C, ch)).1 s 7 → MX' s = (soT l5 T N PC ps sc s (SF, qs, lr, nd, dg, S, C, ch)).1 s 6)) noX := by
  refine Mt.of (L := [some (.ref (z 0)), some (.int (nI s)), none, none, none, none]) rfl (by decide) (by simp [lg_sl, Value.category]) ⟨rfl, rfl, trivial⟩ (fun sz => ?_)
  refine v_aload_nR (pc := 0) dX6_setOut_0 rfl rfl ?_
  refine v_iload_n (pc := 1) dX6_setOut_1 rfl rfl ?_
  refine v_iconst (pc := 2) (v := 2) dX6_setOut_2 rfl ?_
  refine v_callV2 (pc := 3) (c_X6_sl2 hps hsc hbc (by omega)) cm_X6_sl q874 q876 qs19 (ci := 6) rfl rfl (orcO 0 rfl) [0, 1, 2, 3, 4, 5, 6, 7, 8, 9, 10, 11] (by rfl) (by decide) (fun _ _ h => h) (by decide) (by decide) (by decide) (Nat.le_of_ble_eq_true rfl) dX6_setOut_3 (fun v3 M3 hQ3 => ?_)
  obtain ⟨rfl, rfl⟩ := hQ3
  try dsimp only [wb, ModelM, List.set_cons_succ, List.set_cons_zero, List.append_nil, List.nil_append, List.cons_append, Option.toList, Nat.sub_zero]
  refine v_iconst (pc := 6) (v := 1) dX6_setOut_6 rfl ?_
  refine v_icmp_ne (pc := 7) (tgt := 29) dX6_setOut_7 (by decide) (fun c7 => ?_) (fun c7 => ?_)
  · refine v_vret (pc := 29) rfl (Nat.le_of_ble_eq_true rfl) dX6_setOut_29 ?_
    have e : (soT l5 T N PC ps sc s (SF, qs, lr, nd, dg, S, C, ch)) = (SF, qs, lr, nd, dg, S, C, ch) := if_neg (fun h => c7 h.2.1)
    rw [e]
    exact ⟨rfl, MX, H, rfl, fun i _ => rfl, hX⟩
  · refine v_aload_nR (pc := 10) dX6_setOut_10 rfl rfl ?_
    refine v_iload_n (pc := 11) dX6_setOut_11 rfl rfl ?_
    refine v_bipush (pc := 12) (v := 6) dX6_setOut_12 rfl ?_
    refine v_callV2 (pc := 14) (c_X6_sl6 hps hsc hbc (by omega)) cm_X6_sl q874 q876 qs19 (ci := 6) rfl rfl (orcO 0 rfl) [0, 1, 2, 3, 4, 5, 6, 7, 8, 9, 10, 11] (by rfl) (by decide) (fun _ _ h => h) (by decide) (by decide) (by decide) (Nat.le_of_ble_eq_true rfl) dX6_setOut_14 (fun v14 M14 hQ14 => ?_)
    obtain ⟨rfl, rfl⟩ := hQ14
    try dsimp only [wb, ModelM, List.set_cons_succ, List.set_cons_zero, List.append_nil, List.nil_append, List.cons_append, Option.toList, Nat.sub_zero]
    refine v_if_gt (pc := 17) (tgt := 29) dX6_setOut_17 (by decide) (fun c17 => ?_) (fun c17 => ?_)
    · refine v_vret (pc := 29) rfl (Nat.le_of_ble_eq_true rfl) dX6_setOut_29 ?_
      have e : (soT l5 T N PC ps sc s (SF, qs, lr, nd, dg, S, C, ch)) = (SF, qs, lr, nd, dg, S, C, ch) := if_neg (fun h => h.2.2.1 c17)
      rw [e]
      exact ⟨rfl, MX, H, rfl, fun i _ => rfl, hX⟩
    · obtain ⟨q, g, hq, hq5, hPg, hg, hst⟩ := h5 c7
      obtain ⟨hkg, hnw⟩ := hst c17
      have hL := lkq_spec (Hb := HbS T C SF s) (csS_ok hN hx hr) hg hk qs.2.2.1
      have hsQ : soQ T N PC ps s (SF, qs, lr, nd, dg, S, C, ch) = lkq (HbS T C SF s) N (slD SF s) k (some g) qs.2.2.1 := by
        show lkq (HbS T C SF s) N (slD SF s) (cN (SF s 4)) (cpo PC ps (SF s 5)) qs.2.2.1 = _
        rw [h4, cN_nI (by omega), hq5, cpo_q hps hq hPg hg]
      have hso : soX T N PC ps s (SF, qs, lr, nd, dg, S, C, ch) = ffq (HbS T C SF s) N (slD SF s) (lkq (HbS T C SF s) N (slD SF s) k (some g) qs.2.2.1).1 k := by
        show ffq (HbS T C SF s) N (slD SF s) (soQ T N PC ps s (SF, qs, lr, nd, dg, S, C, ch)).1 (cN (SF s 4)) = _
        rw [hsQ, h4, cN_nI (by omega)]
      refine v_aload_nR (pc := 20) dX6_setOut_20 rfl rfl ?_
      refine v_iload_n (pc := 21) dX6_setOut_21 rfl rfl ?_
      refine v_callV1 (pc := 22) (c_X6_findFor hps hsc hbc (k := k) (q := q) (g := g) (by omega) hw hx hr hN hT hC h4 hk hq hq5 hPg hg) cm_X6_findFor q943 q945 qs28 (ci := 6) rfl rfl (orcO 0 rfl) [0, 1, 2, 3, 4, 5, 6, 7, 8, 9, 10, 11] (by rfl) (by decide) (fun _ _ h => h) (by decide) (by decide) (by decide) (Nat.le_of_ble_eq_true rfl) dX6_setOut_22 (fun v22 M22 hQ22 => ?_)
      obtain ⟨h22, hF22, rfl, rfl⟩ := hQ22
      try dsimp only [wb, ModelM, List.set_cons_succ, List.set_cons_zero, List.append_nil, List.nil_append, List.cons_append, Option.toList, Nat.sub_zero]
      refine v_iconst (pc := 25) (v := -1) dX6_setOut_25 rfl ?_
      refine v_icmp_ne (pc := 26) (tgt := 30) dX6_setOut_26 (by decide) (fun c26 => ?_) (fun c26 => ?_)
      · rw [both_hours hL hF22 hk] at c26
        obtain ⟨mw, nw, hw1, hw2, hw3, hww⟩ := both_some hL hF22 hk c26
        have hch : ¬ SF s 8 = ch := fun e => hnw e nw hww.rch
        obtain ⟨j, hj⟩ := both_ahead (mpS_ok hN hx hr) hL hF22 hk hkg c26
        have hsj : soX T N PC ps s (SF, qs, lr, nd, dg, S, C, ch) = some j := by
          rw [hso]
          unfold ffq
          rw [if_neg c26, both_ffr (csS_ok hN hx hr) (mpS_ok hN hx hr) hL hF22 hk c26]
          exact hj
        have hjl : j < 160 := ffq_lt hk (hso.symm.trans hsj)
        have eY : (soT l5 T N PC ps sc s (SF, qs, lr, nd, dg, S, C, ch)) = (upS (upS SF s 6 (nI j)) s 7 (N j + slD SF s), soQ T N PC ps s (SF, qs, lr, nd, dg, S, C, ch), l5, slN SF s, slD SF s, stU T S C k (slN SF s) ch) := by
          unfold soT
          rw [if_pos ⟨hs, c7, c17, hch⟩, hsj]
          show (_, _, _, _, _, stU T S C (cN (SF s 4)) _ _) = _
          rw [h4, cN_nI (by omega)]
        rw [eY]
        clear eY
        refine v_aload_nR (pc := 30) dX6_setOut_30 rfl rfl ?_
        refine v_iload_n (pc := 31) dX6_setOut_31 rfl rfl ?_
        refine v_iconst (pc := 32) (v := 3) dX6_setOut_32 rfl ?_
        refine v_callV2 (pc := 33) (c_X6_sl3 hps hsc hbc (by omega)) cm_X6_sl q874 q876 qs19 (ci := 6) rfl rfl (orcO 0 rfl) [0, 1, 2, 3, 4, 5, 6, 7, 8, 9, 10, 11] (by rfl) (by decide) (fun _ _ h => h) (by decide) (by decide) (by decide) (Nat.le_of_ble_eq_true rfl) dX6_setOut_33 (fun v33 M33 hQ33 => ?_)
        obtain ⟨rfl, rfl⟩ := hQ33
        try dsimp only [wb, ModelM, List.set_cons_succ, List.set_cons_zero, List.append_nil, List.nil_append, List.cons_append, Option.toList, Nat.sub_zero]
        rw [h4]
        refine v_istore_n (pc := 36) dX6_setOut_36 rfl (by decide) rfl ?_
        refine v_aload_nR (pc := 37) dX6_setOut_37 rfl rfl ?_
        refine v_iload_n (pc := 38) dX6_setOut_38 rfl rfl ?_
        refine v_callV1 (pc := 39) (c_X6_weight hps hsc hbc (by omega) hw) cm_X6_weight q927 q929 qs25 (ci := 6) rfl rfl (orcO 0 rfl) [0, 1, 2, 3, 4, 5, 6, 7, 8, 9, 10, 11] (by rfl) (by decide) (fun _ _ h => h) (by decide) (by decide) (by decide) (Nat.le_of_ble_eq_true rfl) dX6_setOut_39 (fun v39 M39 hQ39 => ?_)
        obtain ⟨rfl, rfl⟩ := hQ39
        try dsimp only [wb, ModelM, List.set_cons_succ, List.set_cons_zero, List.append_nil, List.nil_append, List.cons_append, Option.toList, Nat.sub_zero]
        refine v_istore_n (pc := 42) dX6_setOut_42 rfl (by decide) rfl ?_
        refine v_iconst (pc := 43) (v := 3) dX6_setOut_43 rfl ?_
        refine v_istore (pc := 44) dX6_setOut_44 (by decide) rfl ?_
        refine v_sub (L' := [some (.ref (z 0)), some (.int (nI s)), some (.int (nI k)), some (.int (slW SF s)), some (.int (dI 4)), none]) ⟨rfl, rfl, rfl, rfl, rfl, trivial⟩ ?_
        refine lp_X6_so (MX := MX) (H := H) hps hsc hbc (MX0 := MX) (by omega) hr hT hC hk (fun MX2 hO2 hM2 => ?_) 4 (Nat.le_refl 4) MX (fun i _ => rfl) rfl
        rw [hj] at hM2
        have hM2 : MX2 s = nI j := hM2
        refine v_aload_nR (pc := 128) dX6_setOut_128 rfl rfl ?_
        refine v_iload_n (pc := 129) dX6_setOut_129 rfl rfl ?_
        refine v_bipush (pc := 130) (v := 6) dX6_setOut_130 rfl ?_
        refine v_aload_nR (pc := 132) dX6_setOut_132 rfl rfl ?_
        refine v_aload_nR (pc := 133) dX6_setOut_133 rfl rfl ?_
        refine v_iload_n (pc := 134) dX6_setOut_134 rfl rfl ?_
        refine v_iconst (pc := 135) (v := 5) dX6_setOut_135 rfl ?_
        refine v_callV2 (pc := 136) (c_X6_sl5 hps hsc hbc (by omega)) cm_X6_sl q874 q876 qs19 (ci := 6) rfl rfl (orcO 0 rfl) [0, 1, 2, 3, 4, 5, 6, 7, 8, 9, 10, 11] (by rfl) (by decide) (fun _ _ h => h) (by decide) (by decide) (by decide) (Nat.le_of_ble_eq_true rfl) dX6_setOut_136 (fun v136 M136 hQ136 => ?_)
        obtain ⟨rfl, rfl⟩ := hQ136
        try dsimp only [wb, ModelM, List.set_cons_succ, List.set_cons_zero, List.append_nil, List.nil_append, List.cons_append, Option.toList, Nat.sub_zero]
        rw [hM2]
        refine v_iload_n (pc := 139) dX6_setOut_139 rfl rfl ?_
        refine v_aload_nR (pc := 140) dX6_setOut_140 rfl rfl ?_
        refine v_iload_n (pc := 141) dX6_setOut_141 rfl rfl ?_
        refine v_iconst (pc := 142) (v := 0) dX6_setOut_142 rfl ?_
        refine v_callV2 (pc := 143) (c_X6_sl0 hps hsc hbc (by omega)) cm_X6_sl q874 q876 qs19 (ci := 6) rfl rfl (orcO 0 rfl) [0, 1, 2, 3, 4, 5, 6, 7, 8, 9, 10, 11] (by rfl) (by decide) (fun _ _ h => h) (by decide) (by decide) (by decide) (Nat.le_of_ble_eq_true rfl) dX6_setOut_143 (fun v143 M143 hQ143 => ?_)
        obtain ⟨rfl, rfl⟩ := hQ143
        try dsimp only [wb, ModelM, List.set_cons_succ, List.set_cons_zero, List.append_nil, List.nil_append, List.cons_append, Option.toList, Nat.sub_zero]
        refine v_aload_nR (pc := 146) dX6_setOut_146 rfl rfl ?_
        refine v_iload_n (pc := 147) dX6_setOut_147 rfl rfl ?_
        refine v_iconst (pc := 148) (v := 1) dX6_setOut_148 rfl ?_
        refine v_callV2 (pc := 149) (c_X6_sl1 hps hsc hbc (by omega)) cm_X6_sl q874 q876 qs19 (ci := 6) rfl rfl (orcO 0 rfl) [0, 1, 2, 3, 4, 5, 6, 7, 8, 9, 10, 11] (by rfl) (by decide) (fun _ _ h => h) (by decide) (by decide) (by decide) (Nat.le_of_ble_eq_true rfl) dX6_setOut_149 (fun v149 M149 hQ149 => ?_)
        obtain ⟨rfl, rfl⟩ := hQ149
        try dsimp only [wb, ModelM, List.set_cons_succ, List.set_cons_zero, List.append_nil, List.nil_append, List.cons_append, Option.toList, Nat.sub_zero]
        refine v_callV4 (pc := 152) (c_X6_pace hps hsc hbc (by omega) hr) cm_X6_pace q963 q965 qs32 (ci := 6) rfl rfl (orcO 0 rfl) [0, 1, 2, 3, 4, 5, 6, 7, 8, 9, 10, 11] (by rfl) (by decide) (fun _ _ h => h) (by decide) (by decide) (by decide) (Nat.le_of_ble_eq_true rfl) dX6_setOut_152 (fun v152 M152 hQ152 => ?_)
        obtain ⟨rfl, rfl⟩ := hQ152
        try dsimp only [wb, ModelM, List.set_cons_succ, List.set_cons_zero, List.append_nil, List.nil_append, List.cons_append, Option.toList, Nat.sub_zero]
        refine v_callV3 (pc := 155) (c_X6_set6 hps hsc hbc (by omega)) cm_X6_set q939 q941 qs27 (ci := 6) rfl rfl (orcO 0 rfl) [0, 1, 2, 3, 4, 5, 6, 7, 8, 9, 10, 11] (by rfl) (by decide) (fun _ _ h => h) (by decide) (by decide) (by decide) (Nat.le_of_ble_eq_true rfl) dX6_setOut_155 (fun v155 M155 hQ155 => ?_)
        obtain ⟨rfl, rfl⟩ := hQ155
        try dsimp only [wb, ModelM, List.set_cons_succ, List.set_cons_zero, List.append_nil, List.nil_append, List.cons_append, Option.toList, Nat.sub_zero]
        have hTB : tblM (upS SF s 7 (N j + slW SF s / (60 * SF s 0) + (if 50 ≤ SF s 2 then 1 else 0))) MX2 = tblM (upS (upS SF s 6 (nI j)) s 7 (N j + slD SF s)) MX2 := by
          rw [show N j + slD SF s = N j + slW SF s / (60 * SF s 0) + (if 50 ≤ SF s 2 then 1 else 0) from (Int32.add_assoc _ _ _).symm]
          refine tblM_cong (fun i k hk => ?_)
          unfold upS
          rcases hk with rfl | rfl | rfl | rfl | rfl | rfl <;> simp
        refine v_aload_nR (pc := 158) dX6_setOut_158 rfl rfl ?_
        refine v_get (pc := 159) 7 0 fg_X6_19 rfl rfl dX6_setOut_159 ?_
        refine v_iload_n (pc := 162) dX6_setOut_162 rfl rfl ?_
        refine v_ialdN (pc := 163) 4 (k := k) rfl (by omega) (by decide) dX6_setOut_163 ?_
        refine v_iconst (pc := 164) (v := -1) dX6_setOut_164 rfl ?_
        refine v_icmp_eq (pc := 165) (tgt := 186) dX6_setOut_165 (by decide) (fun c165 => ?_) (fun c165 => ?_)
        · refine v_vret (pc := 186) rfl (Nat.le_of_ble_eq_true rfl) dX6_setOut_186 ?_
          have eS : stU T S C k (slN SF s) ch = (S, C, ch) := if_neg (fun h9 => (thin_iff.mp h9).1 ((tOK_l hT hk).mp c165))
          rw [eS]
          refine ⟨rfl, MX2, h22, ?_, hO2, fun _ _ => ?_⟩
          · show _ = ModelM z th N O PC ps sc bc T S C (upS (upS SF s 6 (nI j)) s 7 (N j + slD SF s)) MX2 BF hh h22 W
            rw [hTB]
            try rfl
          · show MX2 s = upS (upS SF s 6 (nI j)) s 7 (N j + slD SF s) s 6
            rw [upS_n _ _ (by omega), upS_s]
            exact hM2
        · refine v_aload_nR (pc := 168) dX6_setOut_168 rfl rfl ?_
          refine v_get (pc := 169) 7 0 fg_X6_19 rfl rfl dX6_setOut_169 ?_
          refine v_iload_n (pc := 172) dX6_setOut_172 rfl rfl ?_
          refine v_ialdN (pc := 173) 4 (k := k) rfl (by omega) (by decide) dX6_setOut_173 ?_
          refine v_aload_nR (pc := 174) dX6_setOut_174 rfl rfl ?_
          refine v_iload_n (pc := 175) dX6_setOut_175 rfl rfl ?_
          refine v_iload_n (pc := 176) dX6_setOut_176 rfl rfl ?_
          refine v_callV2 (pc := 177) (c_X6_needs hps hsc hbc (by omega) (cOK01 hC _)) cm_X6_needs q956 q958 qs31 (ci := 6) rfl rfl (orcO 0 rfl) [0, 1, 2, 3, 4, 5, 6, 7, 8, 9, 10, 11] (by rfl) (by decide) (fun _ _ h => h) (by decide) (by decide) (by decide) (Nat.le_of_ble_eq_true rfl) dX6_setOut_177 (fun v177 M177 hQ177 => ?_)
          obtain ⟨rfl, rfl⟩ := hQ177
          try dsimp only [wb, ModelM, List.set_cons_succ, List.set_cons_zero, List.append_nil, List.nil_append, List.cons_append, Option.toList, Nat.sub_zero]
          refine v_bipush (pc := 180) (v := 10) dX6_setOut_180 rfl ?_
          refine v_iadd (pc := 182) dX6_setOut_182 ?_
          refine v_icmp_lt (pc := 183) (tgt := 187) dX6_setOut_183 (by decide) (fun c183 => ?_) (fun c183 => ?_)
          · refine v_aload_nR (pc := 187) dX6_setOut_187 rfl rfl ?_
            refine v_get (pc := 188) 8 0 fg_X6_22 rfl rfl dX6_setOut_188 ?_
            refine v_iload_n (pc := 191) dX6_setOut_191 rfl rfl ?_
            refine v_bipush (pc := 192) (v := 9) dX6_setOut_192 rfl ?_
            refine v_aload_nR (pc := 194) dX6_setOut_194 rfl rfl ?_
            refine v_get (pc := 195) 8 0 fg_X6_22 rfl rfl dX6_setOut_195 ?_
            refine v_iload_n (pc := 198) dX6_setOut_198 rfl rfl ?_
            refine v_ialdN (pc := 199) 5 (k := k) rfl (by omega) (by decide) dX6_setOut_199 ?_
            refine v_iconst (pc := 200) (v := 1) dX6_setOut_200 rfl ?_
            refine v_iadd (pc := 201) dX6_setOut_201 ?_
            refine v_mmin (pc := 202) q991 q651 q16 q652 (by decide) (Nat.le_of_ble_eq_true rfl) dX6_setOut_202 ?_
            refine v_iastN (pc := 205) 5 (k := k) rfl (by omega) (by decide) dX6_setOut_205 ?_
            try dsimp only [wb, ModelM, List.set_cons_succ, List.set_cons_zero, List.append_nil, List.nil_append, List.cons_append, Option.toList, Nat.sub_zero]
            refine v_aload_nR (pc := 206) dX6_setOut_206 rfl rfl ?_
            refine v_get (pc := 207) 8 0 fg_X6_22 rfl rfl dX6_setOut_207 ?_
            refine v_iload_n (pc := 210) dX6_setOut_210 rfl rfl ?_
            refine v_ialdN (pc := 211) 5 (k := k) rfl (by omega) (by decide) dX6_setOut_211 ?_
            refine v_iconst (pc := 212) (v := 3) dX6_setOut_212 rfl ?_
            refine v_icmp_lt (pc := 213) (tgt := 223) dX6_setOut_213 (by decide) (fun c213 => ?_) (fun c213 => ?_)
            · refine v_vret (pc := 223) rfl (Nat.le_of_ble_eq_true rfl) dX6_setOut_223 ?_
              have ht9 : thin? T C k (slN SF s) = true := thin_iff.mpr ⟨fun h9 => c165 ((tOK_l hT hk).mpr h9), c183⟩
              have c213 := c213
              rw [pk_us] at c213
              have e9 : suC S C k = C k := by
                show bI (¬ C k = 0 ∨ 3 ≤ suS S k) = C k
                rcases cOK01 hC k with h9 | h9
                · rw [h9, bI_f]
                  exact fun h8 => h8.elim (fun h7 => h7 rfl) (fun h7 => absurd c213 (Int32.not_lt.mpr h7))
                · rw [h9, bI_t (Or.inl (by decide))]
              have eS : stU T S C k (slN SF s) ch = (upd S k (suS S k), C, ch) := by
                unfold stU
                rw [if_pos (ht9), e9, fa_upd_same rfl]
              rw [eS]
              refine ⟨rfl, MX2, h22, ?_, hO2, fun _ _ => ?_⟩
              · show _ = ModelM z th N O PC ps sc bc T (upd S k (suS S k)) C (upS (upS SF s 6 (nI j)) s 7 (N j + slD SF s)) MX2 BF hh h22 W
                rw [hTB]
                try rfl
              · show MX2 s = upS (upS SF s 6 (nI j)) s 7 (N j + slD SF s) s 6
                rw [upS_n _ _ (by omega), upS_s]
                exact hM2
            · refine v_aload_nR (pc := 216) dX6_setOut_216 rfl rfl ?_
              refine v_get (pc := 217) 9 0 fg_X6_25 rfl rfl dX6_setOut_217 ?_
              refine v_iload_n (pc := 220) dX6_setOut_220 rfl rfl ?_
              refine v_iconst (pc := 221) (v := 1) dX6_setOut_221 rfl ?_
              refine v_iastN (pc := 222) 6 (k := k) rfl (by omega) (by decide) dX6_setOut_222 ?_
              try dsimp only [wb, ModelM, List.set_cons_succ, List.set_cons_zero, List.append_nil, List.nil_append, List.cons_append, Option.toList, Nat.sub_zero]
              refine v_vret (pc := 223) rfl (Nat.le_of_ble_eq_true rfl) dX6_setOut_223 ?_
              have ht9 : thin? T C k (slN SF s) = true := thin_iff.mpr ⟨fun h9 => c165 ((tOK_l hT hk).mpr h9), c183⟩
              have c213 := c213
              rw [pk_us] at c213
              have e9 : suC S C k = 1 := bI_t (Or.inr (Int32.not_lt.mp c213))
              have eS : stU T S C k (slN SF s) ch = (upd S k (suS S k), upd C k 1, ch) := by
                unfold stU
                rw [if_pos (ht9), e9]
              rw [eS]
              refine ⟨rfl, MX2, h22, ?_, hO2, fun _ _ => ?_⟩
              · show _ = ModelM z th N O PC ps sc bc T (upd S k (suS S k)) (upd C k 1) (upS (upS SF s 6 (nI j)) s 7 (N j + slD SF s)) MX2 BF hh h22 W
                rw [hTB]
                try rfl
              · show MX2 s = upS (upS SF s 6 (nI j)) s 7 (N j + slD SF s) s 6
                rw [upS_n _ _ (by omega), upS_s]
                exact hM2
          · refine v_vret (pc := 186) rfl (Nat.le_of_ble_eq_true rfl) dX6_setOut_186 ?_
            have eS : stU T S C k (slN SF s) ch = (S, C, ch) := if_neg (fun h9 => c183 (thin_iff.mp h9).2)
            rw [eS]
            refine ⟨rfl, MX2, h22, ?_, hO2, fun _ _ => ?_⟩
            · show _ = ModelM z th N O PC ps sc bc T S C (upS (upS SF s 6 (nI j)) s 7 (N j + slD SF s)) MX2 BF hh h22 W
              rw [hTB]
              try rfl
            · show MX2 s = upS (upS SF s 6 (nI j)) s 7 (N j + slD SF s) s 6
              rw [upS_n _ _ (by omega), upS_s]
              exact hM2
      · refine v_vret (pc := 29) rfl (Nat.le_of_ble_eq_true rfl) dX6_setOut_29 ?_
        rw [both_hours hL hF22 hk] at c26
        by_cases hch : SF s 8 = ch
        · have e : (soT l5 T N PC ps sc s (SF, qs, lr, nd, dg, S, C, ch)) = (SF, qs, lr, nd, dg, S, C, ch) := if_neg (fun h => h.2.2.2 hch)
          rw [e]
          exact ⟨rfl, MX, h22, rfl, fun i _ => rfl, fun _ h => absurd h c17⟩
        · have e : (soT l5 T N PC ps sc s (SF, qs, lr, nd, dg, S, C, ch)) = (upS SF s 8 ch, soQ T N PC ps s (SF, qs, lr, nd, dg, S, C, ch), l5, slN SF s, slD SF s, S, C, ch) := by
            unfold soT
            rw [if_pos ⟨hs, c7, c17, hch⟩, hso]
            unfold ffq
            rw [if_pos c26]
          rw [e]
          refine ⟨rfl, MX, h22, ?_, fun i _ => rfl, fun _ h => absurd h ?_⟩
          · show _ = ModelM z th N O PC ps sc bc T S C (upS SF s 8 ch) MX BF hh h22 W
            rw [show tblM SF MX = tblM (upS SF s 8 ch) MX from (tblM_cong (fun i k hk => upS_n _ _ (by omega))).symm]
          · show ¬ 0 < upS SF s 8 ch s 7
            rw [upS_n _ _ (by omega)]
            exact c17
