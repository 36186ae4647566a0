/-! what holds of both between calls, and that each call keeps it -/
def zI (SF : Nat → Nat → Int32) : Prop := ∀ i, SF i 3 = 0 → SF i 7 = 0
def zS (SF : Nat → Nat → Int32) (sc : Nat) : Prop := ∀ i, sc ≤ i → SF i 2 = 0 ∧ SF i 7 = 0
def pD (PC : Nat → Int32) (ps : Nat) : Prop := ∀ a b, a < ps → b < ps → PC a = PC b → a = b
def gI (N O PC : Nat → Int32) (ps sc bc : Nat) (T C : Nat → Int32) (ch : Int32) (SF BF : Nat → Nat → Int32) (MX : Nat → Int32) (B : Nat) : Prop :=
  (ps ≤ 8 ∧ sc ≤ 5 ∧ bc ≤ 40) ∧ (∀ k, k < 8 → 0 ≤ PC k ∧ PC k < 160) ∧ (nOK N ∧ oOK O) ∧ hIV PC ps sc bc T C ch SF BF MX B ∧ zI SF ∧ zS SF sc ∧ pD PC ps
theorem dec_z {v : Int32} (h : 0 < v) (h2 : ¬ 0 < v - 1) : v - 1 = 0 := by
  obtain ⟨k, hk, rfl⟩ := nI_of (Int32.not_lt.mpr (fa_of_lt h).1)
  have h1 := (nI_ltI (a := 0) (b := k) (by omega) hk).mp h
  have e : nI k - 1 = nI (k - 1) := pk_sub (a := k) (b := 1) (by omega)
  rw [e] at h2 ⊢
  have h3 : ¬ 0 < k - 1 := fun q => h2 ((nI_ltI (a := 0) (b := k - 1) (by omega) (by omega)).mpr q)
  rw [show k - 1 = 0 by omega]
  rfl
theorem skT_z {T C : Nat → Int32} {sc bc n : Nat} {x : SB} (h : zI x.1) : zI (skT T C sc bc n x).1 := by
  unfold skT
  split
  · intro i h3
    have h3 : skS x.1 n i 3 = 0 := h3
    show skS x.1 n i 7 = 0
    by_cases e : i = n
    · subst e
      rw [skS_3] at h3
      exact absurd h3 (by decide)
    · rw [skS_same i 3 e] at h3
      rw [skS_same i 7 e]
      exact h i h3
  · exact h
theorem skL_z {T C : Nat → Int32} {sc bc : Nat} : ∀ (m j : Nat) {x : SB}, zI x.1 → zI (skL T C sc bc m j x).1
  | 0, _, _, h => h
  | m + 1, j, _, h => skL_z m (j + 1) (skT_z h)
theorem mvT_z {PC : Nat → Int32} {ps sc bc hh n : Nat} {x : SBC} (h : zI x.1) : zI (mvT PC ps sc bc hh n x).1 := by
  unfold mvT
  split
  · rename_i h1
    split
    · rename_i h2
      intro i h3
      have h3 : rsS (coS x.1 n) n i 3 = 0 := h3
      show rsS (coS x.1 n) n i 7 = 0
      by_cases e : i = n
      · subst e
        rw [rsS_k (by decide) (by decide), coS_7]
        exact dec_z h1.2.2 h2.1
      · rw [rsS_same i 3 e, coS_same i 3 e] at h3
        rw [rsS_same i 7 e, coS_same i 7 e]
        exact h i h3
    · intro i h3
      have h3 : coS x.1 n i 3 = 0 := h3
      show coS x.1 n i 7 = 0
      by_cases e : i = n
      · subst e
        rw [coS_k (by decide) (by decide) (by decide) (by decide), h1.2.1] at h3
        exact absurd h3 (by decide)
      · rw [coS_same i 3 e] at h3
        rw [coS_same i 7 e]
        exact h i h3
  · exact h
theorem mvL_z {PC : Nat → Int32} {ps sc bc hh : Nat} : ∀ (m j : Nat) {x : SBC}, zI x.1 → zI (mvL PC ps sc bc hh m j x).1
  | 0, _, _, h => h
  | m + 1, j, _, h => mvL_z m (j + 1) (mvT_z h)
theorem soT_n {l5 : Value} {T N PC : Nat → Int32} {ps sc n i k : Nat} {x : SO} (hi : ¬ i = n) : (soT l5 T N PC ps sc n x).1 i k = x.1 i k := by
  unfold soT
  split
  · split
    · exact upS_n _ _ (fun q => hi q.1)
    · show upS (upS x.1 n 6 _) n 7 _ i k = _
      rw [upS_n _ _ (fun q => hi q.1), upS_n _ _ (fun q => hi q.1)]
  · rfl
theorem soT_z {l5 : Value} {T N PC : Nat → Int32} {ps sc n : Nat} {x : SO} (h : zI x.1) : zI (soT l5 T N PC ps sc n x).1 := by
  intro i h3
  rw [soT_3] at h3
  by_cases e : i = n
  · subst e
    have e2 : soT l5 T N PC ps sc i x = x := if_neg (fun q => absurd (q.2.1.symm.trans h3) (by decide))
    rw [e2]
    exact h i h3
  · rw [soT_n e]
    exact h i h3
theorem soL_z {l5 : Value} {T N PC : Nat → Int32} {ps sc : Nat} : ∀ (m j : Nat) {x : SO}, zI x.1 → zI (soL l5 T N PC ps sc m j x).1
  | 0, _, _, h => h
  | m + 1, j, _, h => soL_z m (j + 1) (soT_z h)
theorem reT_k {sc n i k : Nat} {x : Nat → Nat → Int32} (hk : ¬ k = 2) : reT sc n x i k = x i k := by
  unfold reT
  split
  · exact upS_n _ _ (fun q => hk q.2)
  · rfl
theorem reL_k {sc i k : Nat} (hk : ¬ k = 2) : ∀ (m j : Nat) {x : Nat → Nat → Int32}, reL sc m j x i k = x i k
  | 0, _, _ => rfl
  | m + 1, j, _ => (reL_k hk m (j + 1)).trans (reT_k hk)
theorem hrA_1 {O : Nat → Int32} {hh : Nat} {x : HW} : (hrA O hh x).1 = x.1 := by
  unfold hrA
  split <;> rfl
theorem hrW_z {n5 : Nat} {l5 : Value} {N O PC : Nat → Int32} {ps sc bc hh : Nat} {x : HW} (h : zI x.1) : zI (hrW n5 l5 N O PC ps sc bc hh x).1 := by
  have hA : zI (hrA O hh x).1 := by rw [hrA_1]; exact h
  have h1 : zI (hrC n5 PC ps sc bc hh (hrB n5 sc bc (hrA O hh x))).1 := mvL_z n5 0 (skL_z n5 0 hA)
  have h2 : zI (hrE n5 l5 N PC ps sc (hrC n5 PC ps sc bc hh (hrB n5 sc bc (hrA O hh x)))).1 := soL_z n5 0 (x := (_, _)) h1
  intro i h3
  have h3 : reL sc n5 0 (hrE n5 l5 N PC ps sc (hrC n5 PC ps sc bc hh (hrB n5 sc bc (hrA O hh x)))).1 i 3 = 0 := h3
  show reL sc n5 0 (hrE n5 l5 N PC ps sc (hrC n5 PC ps sc bc hh (hrB n5 sc bc (hrA O hh x)))).1 i 7 = 0
  rw [reL_k (by decide)] at h3 ⊢
  exact h2 i h3
section ROWS
variable {T C : Nat → Int32} {sc bc n i k : Nat}
theorem skT_o {x : SB} (hi : sc ≤ i) : (skT T C sc bc n x).1 i k = x.1 i k := by
  unfold skT
  split
  · rename_i h1
    exact skS_same i k (by have := h1.1; omega)
  · rfl
theorem skL_o (hi : sc ≤ i) : ∀ (m j : Nat) {x : SB}, (skL T C sc bc m j x).1 i k = x.1 i k
  | 0, _, _ => rfl
  | m + 1, j, _ => (skL_o hi m (j + 1)).trans (skT_o hi)
theorem mvT_o {PC : Nat → Int32} {ps hh : Nat} {x : SBC} (hi : sc ≤ i) : (mvT PC ps sc bc hh n x).1 i k = x.1 i k := by
  unfold mvT
  split
  · rename_i h1
    have hne : ¬ i = n := by have := h1.1; omega
    split
    · show rsS (coS x.1 n) n i k = _
      rw [rsS_same i k hne, coS_same i k hne]
    · exact coS_same i k hne
  · rfl
theorem mvL_o {PC : Nat → Int32} {ps hh : Nat} (hi : sc ≤ i) : ∀ (m j : Nat) {x : SBC}, (mvL PC ps sc bc hh m j x).1 i k = x.1 i k
  | 0, _, _ => rfl
  | m + 1, j, _ => (mvL_o hi m (j + 1)).trans (mvT_o hi)
theorem soT_o {l5 : Value} {N PC : Nat → Int32} {ps : Nat} {x : SO} (hi : sc ≤ i) : (soT l5 T N PC ps sc n x).1 i k = x.1 i k := by
  by_cases e : i = n
  · have e2 : soT l5 T N PC ps sc n x = x := if_neg (fun q => absurd q.1 (by omega))
    rw [e2]
  · exact soT_n e
theorem soL_o {l5 : Value} {N PC : Nat → Int32} {ps : Nat} (hi : sc ≤ i) : ∀ (m j : Nat) {x : SO}, (soL l5 T N PC ps sc m j x).1 i k = x.1 i k
  | 0, _, _ => rfl
  | m + 1, j, _ => (soL_o hi m (j + 1)).trans (soT_o hi)
theorem reT_o {x : Nat → Nat → Int32} (hi : sc ≤ i) : reT sc n x i k = x i k := by
  unfold reT
  split
  · rename_i h1
    exact upS_n _ _ (fun q => by have := h1.1; have := q.1; omega)
  · rfl
theorem reL_o (hi : sc ≤ i) : ∀ (m j : Nat) {x : Nat → Nat → Int32}, reL sc m j x i k = x i k
  | 0, _, _ => rfl
  | m + 1, j, _ => (reL_o hi m (j + 1)).trans (reT_o hi)
theorem hrW_o {n5 : Nat} {l5 : Value} {N O PC : Nat → Int32} {ps hh : Nat} {x : HW} (hi : sc ≤ i) : (hrW n5 l5 N O PC ps sc bc hh x).1 i k = x.1 i k := by
  show reL sc n5 0 (soL l5 _ N PC ps sc n5 0 ((mvL PC ps sc bc hh n5 0 ((skL _ _ sc bc n5 0 ((hrA O hh x).1, _)).1, _, 0)).1, _)).1 i k = _
  rw [reL_o hi, soL_o hi, mvL_o hi, skL_o hi, hrA_1]
end ROWS
theorem psL_z {n5 : Nat} {l5 : Value} {N O PC : Nat → Int32} {ps sc bc : Nat} : ∀ (n hh : Nat) {x : HW} {c : Int32}, zI x.1 → zI (psL n5 l5 N O PC ps sc bc n hh x c).1.1
  | 0, _, _, _, h => h
  | n + 1, hh, _, _, h => psL_z n (hh + 1) (hrW_z h)
theorem psL_o {n5 : Nat} {l5 : Value} {N O PC : Nat → Int32} {ps sc bc : Nat} : ∀ (n hh : Nat) {x : HW} {c : Int32}, zS x.1 sc → zS (psL n5 l5 N O PC ps sc bc n hh x c).1.1 sc
  | 0, _, _, _, h => h
  | n + 1, hh, x, c, h => psL_o n (hh + 1) (x := hrW n5 l5 N O PC ps sc bc hh x) (fun i hi => by rw [hrW_o hi, hrW_o hi]; exact h i hi)
theorem nWI.any {T C T' C' PC PC' : Nat → Int32} {ps ps' sc : Nat} {SF : Nat → Nat → Int32} {ch ch' : Int32} (h : nWI T C PC ps SF sc ch) (hc : ch < ch') : nWI T' C' PC' ps' SF sc ch' := by
  intro i hi h1
  left
  rcases h i hi h1 with h2 | ⟨h2, -⟩
  · exact (fa_trans h2 (fa_of_lt hc).1)
  · rw [h2]; exact hc
theorem sn_ok {N : Nat → Int32} {x y s : Int32} (h : nOK N) : nOK (rSn N x y s).2.2 := by
  unfold rSn
  split
  · split
    · rename_i h2
      intro k hk
      show 1 ≤ (upd N (cN (x + 16 * y)) s k).toInt ∧ (upd N (cN (x + 16 * y)) s k).toInt ≤ 9
      by_cases e : k = cN (x + 16 * y)
      · rw [e, pk_us]
        have a := h2.1
        have b := h2.2
        rw [i_le, i_1] at a
        rw [i_le, i_9] at b
        exact ⟨a, b⟩
      · rw [pk_un e]
        exact h k hk
    · exact h
  · exact h
theorem co_ok {O : Nat → Int32} {q c : Int32} (h : oOK O) : oOK (rCo O q c).2.2 := by
  unfold rCo
  split
  · split
    · rename_i h2
      intro k hk
      show -9 ≤ upd O (cN q) c k ∧ upd O (cN q) c k ≤ 9
      by_cases e : k = cN q
      · rw [e, pk_us]
        exact h2
      · rw [pk_un e]
        exact h k hk
    · exact h
  · exact h
theorem pOn_no {PC : Nat → Int32} {ps : Nat} {c : Int32} : ∀ m i, pOn PC ps c m i = none → ∀ k, i ≤ k → k < i + m → k < ps → ¬ PC k = c
  | 0, i, _, k, h1, h2, _ => by omega
  | m + 1, i, h, k, h1, h2, h3 => by
    unfold pOn at h
    split at h
    · cases h
    · rename_i hne
      by_cases e : k = i
      · subst e
        exact fun q => hne ⟨h3, q⟩
      · exact pOn_no m (i + 1) h k (by omega) (by omega) h3
theorem cop_add {PC : Nat → Int32} {ps : Nat} {q c : Int32} (h : 0 ≤ q ∧ q < nI ps) (hp : ps < 8) : cop (upd PC ps c) (ps + 1) q = cop PC ps q ∧ (0 ≤ q ∧ q < nI (ps + 1)) := by
  obtain ⟨k, hk, rfl⟩ := kOf h (by omega)
  rw [cop_k (show k < ps + 1 by omega) (by omega), cop_k hk (by omega), pk_un (by omega)]
  exact ⟨rfl, nI_pos' (by omega), nI_lt (b := ps + 1) (by omega) (by omega)⟩
section GI
variable {N O PC T S C : Nat → Int32} {ps sc bc B : Nat} {ch : Int32} {SF BF : Nat → Nat → Int32} {MX : Nat → Int32}
theorem gI.more {B' : Nat} (h : gI N O PC ps sc bc T C ch SF BF MX B) (hB : B ≤ B') : gI N O PC ps sc bc T C ch SF BF MX B' :=
  ⟨h.1, h.2.1, h.2.2.1, h.2.2.2.1.more hB, h.2.2.2.2⟩
theorem gI.sn {x y s : Int32} (h : gI N O PC ps sc bc T C ch SF BF MX B) : gI (rSn N x y s).2.2 O PC ps sc bc T C ch SF BF MX B :=
  ⟨h.1, h.2.1, ⟨sn_ok h.2.2.1.1, h.2.2.1.2⟩, h.2.2.2⟩
theorem gI.co {q c : Int32} (h : gI N O PC ps sc bc T C ch SF BF MX B) : gI N (rCo O q c).2.2 PC ps sc bc T C ch SF BF MX B :=
  ⟨h.1, h.2.1, ⟨h.2.2.1.1, co_ok h.2.2.1.2⟩, h.2.2.2⟩
theorem gI.ap {x y : Int32} (h : gI N O PC ps sc bc T C ch SF BF MX B) (hB : B < 2 ^ 30) : gI N O (rAP T S C PC ps ch x y).2.2.2.2.2.1 (rAP T S C PC ps ch x y).2.2.2.2.2.2.1 sc bc (rAP T S C PC ps ch x y).2.2.1 (rAP T S C PC ps ch x y).2.2.2.2.1 (rAP T S C PC ps ch x y).2.2.2.2.2.2.2 SF BF MX (B + 1) := by
  unfold rAP
  split
  · rename_i h1
    split
    · rename_i h2
      obtain ⟨a, b, ha, hb, rfl, rfl⟩ := onM_of h1
      rw [kf_cell] at h2 ⊢
      rw [cN_nI (by omega)]
      obtain ⟨hno, hp⟩ := h2
      obtain ⟨⟨b1, b2, b3⟩, hPC, hNO, ⟨a1, a2, a3, a4, a5, a6, a7, a8⟩, hz, hs, hd⟩ := h
      have hc : 0 ≤ nI (a + 16 * b) ∧ nI (a + 16 * b) < 160 := ⟨nI_pos' (by omega), nI_lt (b := 160) (by omega) (by decide)⟩
      refine ⟨⟨by dsimp only; omega, b2, b3⟩, fun k hk => ?_, hNO, ⟨a1, fun i hi => ?_, a3.any (a8.next hB).2, a4, a5, ⟨fun k hk => ?_, fun j => ?_, fun k hk hT => ?_⟩, a7, (a8.next hB).1⟩, hz, hs, fun u v hu hv e => ?_⟩
      · show 0 ≤ upd PC ps _ k ∧ upd PC ps _ k < 160
        by_cases e : k = ps
        · rw [e, pk_us]
          exact hc
        · rw [pk_un e]
          exact hPC k hk
      · obtain ⟨p1, p2, p3⟩ := a2 i hi
        refine ⟨p1, fun h0 => ?_, fun h0 => ?_⟩
        · have h5 := p2 h0
          have h6 := cop_add (PC := PC) (c := nI (a + 16 * b)) h5.1 hp
          exact ⟨h6.2, h5.2.trans h6.1.symm⟩
        · have h5 := p3 h0
          have h6 := cop_add (PC := PC) (c := nI (a + 16 * b)) h5.1 hp
          exact ⟨h6.2, h5.2.1, fun h7 q => h5.2.2 h7 (q.trans h6.1)⟩
      · show -1 ≤ upd T _ (-1) k ∧ upd T _ (-1) k ≤ 200
        by_cases e : k = a + 16 * b
        · rw [e, pk_us]
          exact ⟨by decide, by decide⟩
        · rw [pk_un e]
          exact a6.1 k hk
      · show vp_nar .boolean (upd C _ 0 j) = upd C _ 0 j
        by_cases e : j = a + 16 * b
        · rw [e, pk_us]
          rfl
        · rw [pk_un e]
          exact a6.2.1 j
      · have hT : upd T (a + 16 * b) (-1) k < 0 := hT
        show upd C (a + 16 * b) 0 k = 0
        by_cases e : k = a + 16 * b
        · rw [e, pk_us]
        · rw [pk_un e] at hT ⊢
          exact a6.2.2 k hk hT
      · have hu : u < ps + 1 := hu
        have hv : v < ps + 1 := hv
        have e : upd PC ps (nI (a + 16 * b)) u = upd PC ps (nI (a + 16 * b)) v := e
        have hn := pOn_no 8 0 hno
        by_cases eu : u = ps
        · by_cases ev : v = ps
          · rw [eu, ev]
          · rw [eu, pk_us, pk_un ev] at e
            exact absurd e.symm (hn v (by omega) (by omega) (by omega))
        · by_cases ev : v = ps
          · rw [ev, pk_us, pk_un eu] at e
            exact absurd e (hn u (by omega) (by omega) (by omega))
          · rw [pk_un eu, pk_un ev] at e
            exact hd u v (by omega) (by omega) e
    · exact h.more (by omega)
  · exact h.more (by omega)
end GI
