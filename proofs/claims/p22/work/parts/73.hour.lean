/-! one hour, in the rows' words -/
section HR73
variable {n5 sc bc ps hh B : Nat} {l5 : Value} {N O PC T C MX : Nat → Int32} {ch : Int32}
def hK (n5 sc bc : Nat) (x : HW) : SB := skI x.2.2.1 x.2.2.2.2.2.2.2.2.2.1 sc bc (x.1, x.2.1) n5
def hM (n5 : Nat) (PC : Nat → Int32) (ps sc bc hh : Nat) (x : HW) : SBC := mvI PC ps sc bc hh ((hK n5 sc bc x).1, (hK n5 sc bc x).2, 0) n5
def hZ (n5 : Nat) (l5 : Value) (N PC : Nat → Int32) (ps sc bc hh : Nat) (x : HW) : SO := soI l5 x.2.2.1 N PC ps sc ((hM n5 PC ps sc bc hh x).1, x.2.2.2.2) n5
theorem hr_eq {x : HW} : hrW n5 l5 N O PC ps sc bc hh x = (reI sc (hZ n5 l5 N PC ps sc bc hh (hrA O hh x)).1 n5, (hM n5 PC ps sc bc hh (hrA O hh x)).2.1, (hrA O hh x).2.2.1, (hrA O hh x).2.2.2.1, (hZ n5 l5 N PC ps sc bc hh (hrA O hh x)).2) ∧ hrN n5 O PC ps sc bc hh x = (hM n5 PC ps sc bc hh (hrA O hh x)).2.2 := by
  unfold hrW hrN
  generalize hrA O hh x = y
  have e1 : skL y.2.2.1 y.2.2.2.2.2.2.2.2.2.1 sc bc n5 0 (y.1, y.2.1) = hK n5 sc bc y := by
    have h := skL_I (T := y.2.2.1) (C := y.2.2.2.2.2.2.2.2.2.1) (sc := sc) (bc := bc) (y.1, y.2.1) n5 0
    rw [Nat.zero_add] at h
    exact h
  have e2 : mvL PC ps sc bc hh n5 0 ((hK n5 sc bc y).1, (hK n5 sc bc y).2, 0) = hM n5 PC ps sc bc hh y := by
    have h := mvL_I (PC := PC) (ps := ps) (sc := sc) (bc := bc) (hh := hh) ((hK n5 sc bc y).1, (hK n5 sc bc y).2, 0) n5 0
    rw [Nat.zero_add] at h
    exact h
  have e3 : soL l5 y.2.2.1 N PC ps sc n5 0 ((hM n5 PC ps sc bc hh y).1, y.2.2.2.2) = hZ n5 l5 N PC ps sc bc hh y := by
    have h := soL_I (l5 := l5) (T := y.2.2.1) (N := N) (PC := PC) (ps := ps) (sc := sc) ((hM n5 PC ps sc bc hh y).1, y.2.2.2.2) n5 0
    rw [Nat.zero_add] at h
    exact h
  have e4 : ∀ z : Nat → Nat → Int32, reL sc n5 0 z = reI sc z n5 := fun z => by
    have h := reL_I (sc := sc) z n5 0
    rw [Nat.zero_add] at h
    exact h
  have b : hrB n5 sc bc y = ((hK n5 sc bc y).1, (hK n5 sc bc y).2, y.2.2) := by
    unfold hrB
    rw [e1]
  have c : hrC n5 PC ps sc bc hh ((hK n5 sc bc y).1, (hK n5 sc bc y).2, y.2.2) = ((hM n5 PC ps sc bc hh y).1, (hM n5 PC ps sc bc hh y).2.1, y.2.2) := by
    unfold hrC
    rw [e2]
  have v : hrV n5 PC ps sc bc hh ((hK n5 sc bc y).1, (hK n5 sc bc y).2, y.2.2) = (hM n5 PC ps sc bc hh y).2.2 := by
    unfold hrV
    rw [e2]
  have d : hrE n5 l5 N PC ps sc ((hM n5 PC ps sc bc hh y).1, (hM n5 PC ps sc bc hh y).2.1, y.2.2) = ((hZ n5 l5 N PC ps sc bc hh y).1, (hM n5 PC ps sc bc hh y).2.1, y.2.2.1, y.2.2.2.1, (hZ n5 l5 N PC ps sc bc hh y).2) := by
    unfold hrE
    rw [e3]
  rw [b, c, v, d]
  unfold hrR
  rw [e4]
  exact ⟨rfl, rfl⟩
/-- the rows that sank or went -/
theorem hM_row {x : HW} {i : Nat} (h5 : n5 = 5) (hi : i < sc) (hsc : sc ≤ 5) :
    (skc x.2.2.1 x.2.2.2.2.2.2.2.2.2.1 sc x.1 i → ∀ k, (hM n5 PC ps sc bc hh x).1 i k = skS x.1 i i k) ∧
    (¬ skc x.2.2.1 x.2.2.2.2.2.2.2.2.2.1 sc x.1 i → mvc sc x.1 i → arr PC ps x.1 i → ∀ k, (hM n5 PC ps sc bc hh x).1 i k = rsS (coS x.1 i) i i k) ∧
    (¬ skc x.2.2.1 x.2.2.2.2.2.2.2.2.2.1 sc x.1 i → mvc sc x.1 i → ¬ arr PC ps x.1 i → ∀ k, (hM n5 PC ps sc bc hh x).1 i k = coS x.1 i i k) ∧
    (¬ skc x.2.2.1 x.2.2.2.2.2.2.2.2.2.1 sc x.1 i → ¬ mvc sc x.1 i → ∀ k, (hM n5 PC ps sc bc hh x).1 i k = x.1 i k) := by
  have hin : i < n5 := by omega
  obtain ⟨k1, k2⟩ := skI_in (T := x.2.2.1) (C := x.2.2.2.2.2.2.2.2.2.1) (sc := sc) (bc := bc) (x := (x.1, x.2.1)) n5 hin
  obtain ⟨m1, m2, m3⟩ := mvI_in (PC := PC) (ps := ps) (sc := sc) (bc := bc) (hh := hh) (x := ((hK n5 sc bc x).1, (hK n5 sc bc x).2, 0)) n5 hin
  have e0 : ∀ k, (hK n5 sc bc x).1 i k = (skI x.2.2.1 x.2.2.2.2.2.2.2.2.2.1 sc bc (x.1, x.2.1) n5).1 i k := fun _ => rfl
  refine ⟨fun h k => ?_, fun h hm ha k => ?_, fun h hm ha k => ?_, fun h hm k => ?_⟩
  · have e : ∀ k, (hK n5 sc bc x).1 i k = skS x.1 i i k := fun k => (e0 k).trans (k1 h k)
    have e3 : (hK n5 sc bc x).1 i 3 = 2 := by rw [e, skS_at]; rfl
    exact (m3 (fun q => absurd (q.2.1.symm.trans e3) (by decide)) k).trans (e k)
  · have e : ∀ k, (hK n5 sc bc x).1 i k = x.1 i k := fun k => (e0 k).trans (k2 h k)
    obtain ⟨c1, c2⟩ := mvc_cong (PC := PC) (ps := ps) (sc := sc) e
    refine (m1 (c1.mpr hm) (c2.mpr ha) k).trans ?_
    show rsS (coS (hK n5 sc bc x).1 i) i i k = _
    rw [rsS_at, rsS_at, coS_row e k]
  · have e : ∀ k, (hK n5 sc bc x).1 i k = x.1 i k := fun k => (e0 k).trans (k2 h k)
    obtain ⟨c1, c2⟩ := mvc_cong (PC := PC) (ps := ps) (sc := sc) e
    exact (m2 (c1.mpr hm) (fun q => ha (c2.mp q)) k).trans (coS_row e k)
  · have e : ∀ k, (hK n5 sc bc x).1 i k = x.1 i k := fun k => (e0 k).trans (k2 h k)
    obtain ⟨c1, c2⟩ := mvc_cong (PC := PC) (ps := ps) (sc := sc) e
    exact (m3 (fun q => hm (c1.mp q)) k).trans (e k)
/-- the bags -/
theorem hM_b0 {x : HW} {b : Nat} (h : ¬ x.2.1 b 2 = 1) (k : Nat) : (hM n5 PC ps sc bc hh x).2.1 b k = x.2.1 b k := by
  have e : ∀ k, (hK n5 sc bc x).2 b k = x.2.1 b k := skI_b0 (x := (x.1, x.2.1)) h n5
  exact (mvI_b0 (x := ((hK n5 sc bc x).1, (hK n5 sc bc x).2, 0)) (by show ¬ (hK n5 sc bc x).2 b 2 = 1; rw [e]; exact h) n5 k).trans (e k)
theorem hM_b1 {x : HW} {b s : Nat} (h5 : n5 = 5) (hsc : sc ≤ 5) (hb : b < bc) (hbc : bc ≤ 40) (h2 : x.2.1 b 2 = 1) (h3 : x.2.1 b 3 = nI s) (hs : s < sc) :
    (skc x.2.2.1 x.2.2.2.2.2.2.2.2.2.1 sc x.1 s → (hM n5 PC ps sc bc hh x).2.1 b 2 = 3 ∧ (hM n5 PC ps sc bc hh x).2.1 b 3 = -1 ∧ ∀ k, ¬ k = 2 → ¬ k = 3 → (hM n5 PC ps sc bc hh x).2.1 b k = x.2.1 b k) ∧
    (¬ skc x.2.2.1 x.2.2.2.2.2.2.2.2.2.1 sc x.1 s → (mvc sc x.1 s ∧ arr PC ps x.1 s) → ∀ k, (hM n5 PC ps sc bc hh x).2.1 b k = pdB x.2.1 b (x.1 s 5) (nI hh) b k) ∧
    (¬ skc x.2.2.1 x.2.2.2.2.2.2.2.2.2.1 sc x.1 s → ¬ (mvc sc x.1 s ∧ arr PC ps x.1 s) → ∀ k, (hM n5 PC ps sc bc hh x).2.1 b k = x.2.1 b k) := by
  have hsn : s < n5 := by omega
  obtain ⟨k1, k2⟩ := skI_b1 (T := x.2.2.1) (C := x.2.2.2.2.2.2.2.2.2.1) (sc := sc) (bc := bc) (x := (x.1, x.2.1)) hb (by omega) h2 h3 (by omega) n5 (by omega)
  have e0 : ∀ k, (hK n5 sc bc x).2 b k = (skI x.2.2.1 x.2.2.2.2.2.2.2.2.2.1 sc bc (x.1, x.2.1) n5).2 b k := fun _ => rfl
  have eN : ¬ skc x.2.2.1 x.2.2.2.2.2.2.2.2.2.1 sc x.1 s → ∀ k, (hK n5 sc bc x).2 b k = x.2.1 b k := fun h k => (e0 k).trans (k2 (fun q => h q.2) k)
  have rN : ¬ skc x.2.2.1 x.2.2.2.2.2.2.2.2.2.1 sc x.1 s → ∀ k, (hK n5 sc bc x).1 s k = x.1 s k := (skI_in (T := x.2.2.1) (C := x.2.2.2.2.2.2.2.2.2.1) (sc := sc) (bc := bc) (x := (x.1, x.2.1)) n5 hsn).2
  refine ⟨fun h => ?_, fun h hm k => ?_, fun h hm k => ?_⟩
  · obtain ⟨j1, j2, j3⟩ := k1 ⟨hsn, h⟩
    have hno : ¬ (hK n5 sc bc x).2 b 2 = 1 := fun q => absurd ((e0 2).symm.trans q |>.symm.trans j1) (by decide)
    have m := mvI_b0 (PC := PC) (ps := ps) (sc := sc) (bc := bc) (hh := hh) (x := ((hK n5 sc bc x).1, (hK n5 sc bc x).2, 0)) hno n5
    exact ⟨(m 2).trans j1, (m 3).trans j2, fun k a c => (m k).trans (j3 k a c)⟩
  · have e := eN h
    obtain ⟨c1, c2⟩ := mvc_cong (PC := PC) (ps := ps) (sc := sc) (rN h)
    have m := (mvI_b1 (PC := PC) (ps := ps) (sc := sc) (bc := bc) (hh := hh) (x := ((hK n5 sc bc x).1, (hK n5 sc bc x).2, 0)) hb (by omega) ((e 2).trans h2) ((e 3).trans h3) (by omega) n5 (by omega)).1 ⟨hsn, c1.mpr hm.1, c2.mpr hm.2⟩ k
    refine m.trans ?_
    show pdB (hK n5 sc bc x).2 b ((hK n5 sc bc x).1 s 5) (nI hh) b k = _
    rw [pdB_at, pdB_at, rN h 5, e 1, e k]
  · have e := eN h
    obtain ⟨c1, c2⟩ := mvc_cong (PC := PC) (ps := ps) (sc := sc) (rN h)
    exact ((mvI_b1 (PC := PC) (ps := ps) (sc := sc) (bc := bc) (hh := hh) (x := ((hK n5 sc bc x).1, (hK n5 sc bc x).2, 0)) hb (by omega) ((e 2).trans h2) ((e 3).trans h3) (by omega) n5 (by omega)).2 (fun q => hm ⟨c1.mp q.2.1, c2.mp q.2.2⟩) k).trans (e k)
/-- what holds is kept -/
theorem skI_iv {x : SB} (h : hIV PC ps sc bc T C ch x.1 x.2 MX B) (hsc : sc ≤ 5) (hbc : bc ≤ 40) : ∀ n, hIV PC ps sc bc T C ch (skI T C sc bc x n).1 (skI T C sc bc x n).2 MX B
  | 0 => h
  | n + 1 => by
    have ih := skI_iv h hsc hbc n
    show hIV PC ps sc bc T C ch (skT T C sc bc n (skI T C sc bc x n)).1 (skT T C sc bc n (skI T C sc bc x n)).2 MX B
    unfold skT
    split
    · rename_i h1
      exact ih.sk hsc hbc h1.1
    · exact ih
theorem mvI_iv {x : SBC} (h : hIV PC ps sc bc T C ch x.1 x.2.1 MX B) (hsc : sc ≤ 5) (hbc : bc ≤ 40) : ∀ n, hIV PC ps sc bc T C ch (mvI PC ps sc bc hh x n).1 (mvI PC ps sc bc hh x n).2.1 MX B
  | 0 => h
  | n + 1 => hIV.mv (mvI_iv h hsc hbc n) hsc hbc
theorem hM_iv {x : HW} (h : hIV PC ps sc bc x.2.2.1 x.2.2.2.2.2.2.2.2.2.1 ch x.1 x.2.1 MX B) (hsc : sc ≤ 5) (hbc : bc ≤ 40) : hIV PC ps sc bc x.2.2.1 x.2.2.2.2.2.2.2.2.2.1 ch (hM n5 PC ps sc bc hh x).1 (hM n5 PC ps sc bc hh x).2.1 MX B :=
  mvI_iv (x := ((hK n5 sc bc x).1, (hK n5 sc bc x).2, 0)) (skI_iv (x := (x.1, x.2.1)) h hsc hbc n5) hsc hbc n5
theorem hIV.wOK {SF BF : Nat → Nat → Int32} (h : hIV PC ps sc bc T C ch SF BF MX B) (hsc : sc ≤ 5) : wOK SF sc := fun i hi => ⟨wt_bd h.2.2.2.1 h.2.2.2.2.1 h.1 hsc hi, (h.1 i hi).1, (h.1 i hi).2.1⟩
/-- the rows of the hour's end -/
theorem hZ_f {x : HW} (h : hIV PC ps sc bc x.2.2.1 x.2.2.2.2.2.2.2.2.2.1 ch x.1 x.2.1 MX B) (hsc : sc ≤ 5) (hbc : bc ≤ 40) (hN : nOK N) (hS : sTK x.2.2.2.2.2.2.2.2.1) : soF x.2.2.1 sc ((hM n5 PC ps sc bc hh x).1, x.2.2.2.2) (hZ n5 l5 N PC ps sc bc hh x) n5 := by
  have hw := (hM_iv (n5 := n5) (hh := hh) h hsc hbc).wOK hsc
  unfold hZ
  generalize (hM n5 PC ps sc bc hh x).1 = z at hw ⊢
  generalize x.2.2.2.2 = y at hS ⊢
  exact soI_f (l5 := l5) (T := x.2.2.1) (N := N) (PC := PC) (ps := ps) (sc := sc) (x := (z, y)) hN hw hS n5
end HR73
