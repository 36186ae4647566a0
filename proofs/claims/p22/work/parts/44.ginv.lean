/-! what holds of both between calls, and that each call keeps it -/
def zI (SF : Nat → Nat → Int32) : Prop := ∀ i, SF i 3 = 0 → SF i 7 = 0
def zS (SF : Nat → Nat → Int32) (sc : Nat) : Prop := ∀ i, sc ≤ i → SF i 2 = 0 ∧ SF i 7 = 0
def pD (PC : Nat → Int32) (ps : Nat) : Prop := ∀ a b, a < ps → b < ps → PC a = PC b → a = b
def gI (N O PC : Nat → Int32) (ps sc bc : Nat) (T C : Nat → Int32) (ch : Int32) (SF BF : Nat → Nat → Int32) (MX : Nat → Int32) (B : Nat) : Prop :=
  (ps ≤ 8 ∧ sc ≤ 5 ∧ bc ≤ 40) ∧ (∀ k, k < 8 → 0 ≤ PC k ∧ PC k < 160) ∧ (nOK N ∧ oOK O) ∧ hIV PC ps sc bc T C ch SF BF MX B ∧ zI SF ∧ zS SF sc ∧ pD PC ps
theorem dec_z {v : Int32} (h : 0 < v) (h2 : ¬ 0 < v - 1) : v - 1 = 0 := by
  obtain ⟨k, hk, rfl⟩ := nI_of (Int32.not_lt.mpr (fa_of_lt h).1)
  have h1 := (nI_ltI (a := 0) (b := k) (by omega) hk).mp h
  have e : nI k - 1 = nI (k - 1) := pk_sub (a := k) (b := 1) (by omega)
  rw [e] at h2 ⊢
  have h3 : ¬ 0 < k - 1 := fun q => h2 ((nI_ltI (a := 0) (b := k - 1) (by omega) (by omega)).mpr q)
  rw [show k - 1 = 0 by omega]
  rfl
theorem skT_z {T C : Nat → Int32} {sc bc n : Nat} {x : SB} (h : zI x.1) : zI (skT T C sc bc n x).1 := by
  unfold skT
  split
  · intro i h3
    have h3 : skS x.1 n i 3 = 0 := h3
    show skS x.1 n i 7 = 0
    by_cases e : i = n
    · subst e
      rw [skS_3] at h3
      exact absurd h3 (by decide)
    · rw [skS_same i 3 e] at h3
      rw [skS_same i 7 e]
      exact h i h3
  · exact h
theorem skL_z {T C : Nat → Int32} {sc bc : Nat} : ∀ (m j : Nat) {x : SB}, zI x.1 → zI (skL T C sc bc m j x).1
  | 0, _, _, h => h
  | m + 1, j, _, h => skL_z m (j + 1) (skT_z h)
theorem mvT_z {PC : Nat → Int32} {ps sc bc hh n : Nat} {x : SBC} (h : zI x.1) : zI (mvT PC ps sc bc hh n x).1 := by
  unfold mvT
  split
  · rename_i h1
    split
    · rename_i h2
      intro i h3
      have h3 : rsS (coS x.1 n) n i 3 = 0 := h3
      show rsS (coS x.1 n) n i 7 = 0
      by_cases e : i = n
      · subst e
        rw [rsS_k (by decide) (by decide), coS_7]
        exact dec_z h1.2.2 h2.1
      · rw [rsS_same i 3 e, coS_same i 3 e] at h3
        rw [rsS_same i 7 e, coS_same i 7 e]
        exact h i h3
    · intro i h3
      have h3 : coS x.1 n i 3 = 0 := h3
      show coS x.1 n i 7 = 0
      by_cases e : i = n
      · subst e
        rw [coS_k (by decide) (by decide) (by decide) (by decide), h1.2.1] at h3
        exact absurd h3 (by decide)
      · rw [coS_same i 3 e] at h3
        rw [coS_same i 7 e]
        exact h i h3
  · exact h
theorem mvL_z {PC : Nat → Int32} {ps sc bc hh : Nat} : ∀ (m j : Nat) {x : SBC}, zI x.1 → zI (mvL PC ps sc bc hh m j x).1
  | 0, _, _, h => h
  | m + 1, j, _, h => mvL_z m (j + 1) (mvT_z h)
theorem soT_n {l5 : Value} {T N PC : Nat → Int32} {ps sc n i k : Nat} {x : SO} (hi : ¬ i = n) : (soT l5 T N PC ps sc n x).1 i k = x.1 i k := by
  unfold soT
  split
  · split
    · exact upS_n _ _ (fun q => hi q.1)
    · show upS (upS x.1 n 6 _) n 7 _ i k = _
      rw [upS_n _ _ (fun q => hi q.1), upS_n _ _ (fun q => hi q.1)]
  · rfl
theorem soT_z {l5 : Value} {T N PC : Nat → Int32} {ps sc n : Nat} {x : SO} (h : zI x.1) : zI (soT l5 T N PC ps sc n x).1 := by
  intro i h3
  rw [soT_3] at h3
  by_cases e : i = n
  · subst e
    have e2 : soT l5 T N PC ps sc i x = x := if_neg (fun q => absurd (q.2.1.symm.trans h3) (by decide))
    rw [e2]
    exact h i h3
  · rw [soT_n e]
    exact h i h3
theorem soL_z {l5 : Value} {T N PC : Nat → Int32} {ps sc : Nat} : ∀ (m j : Nat) {x : SO}, zI x.1 → zI (soL l5 T N PC ps sc m j x).1
  | 0, _, _, h => h
  | m + 1, j, _, h => soL_z m (j + 1) (soT_z h)
theorem reT_k {sc n i k : Nat} {x : Nat → Nat → Int32} (hk : ¬ k = 2) : reT sc n x i k = x i k := by
  unfold reT
  split
  · exact upS_n _ _ (fun q => hk q.2)
  · rfl
theorem reL_k {sc i k : Nat} (hk : ¬ k = 2) : ∀ (m j : Nat) {x : Nat → Nat → Int32}, reL sc m j x i k = x i k
  | 0, _, _ => rfl
  | m + 1, j, _ => (reL_k hk m (j + 1)).trans (reT_k hk)
theorem hrA_1 {O : Nat → Int32} {hh : Nat} {x : HW} : (hrA O hh x).1 = x.1 := by
  unfold hrA
  split <;> rfl
theorem hrW_z {n5 : Nat} {l5 : Value} {N O PC : Nat → Int32} {ps sc bc hh : Nat} {x : HW} (h : zI x.1) : zI (hrW n5 l5 N O PC ps sc bc hh x).1 := by
  have hA : zI (hrA O hh x).1 := by rw [hrA_1]; exact h
  have h1 : zI (hrC n5 PC ps sc bc hh (hrB n5 sc bc (hrA O hh x))).1 := mvL_z n5 0 (skL_z n5 0 hA)
  have h2 : zI (hrE n5 l5 N PC ps sc (hrC n5 PC ps sc bc hh (hrB n5 sc bc (hrA O hh x)))).1 := soL_z n5 0 (x := (_, _)) h1
  intro i h3
  have h3 : reL sc n5 0 (hrE n5 l5 N PC ps sc (hrC n5 PC ps sc bc hh (hrB n5 sc bc (hrA O hh x)))).1 i 3 = 0 := h3
  show reL sc n5 0 (hrE n5 l5 N PC ps sc (hrC n5 PC ps sc bc hh (hrB n5 sc bc (hrA O hh x)))).1 i 7 = 0
  rw [reL_k (by decide)] at h3 ⊢
  exact h2 i h3
section ROWS
variable {T C : Nat → Int32} {sc bc n i k : Nat}
theorem skT_o {x : SB} (hi : sc ≤ i) : (skT T C sc bc n x).1 i k = x.1 i k := by
  unfold skT
  split
  · rename_i h1
    exact skS_same i k (by have := h1.1; omega)
  · rfl
theorem skL_o (hi : sc ≤ i) : ∀ (m j : Nat) {x : SB}, (skL T C sc bc m j x).1 i k = x.1 i k
  | 0, _, _ => rfl
  | m + 1, j, _ => (skL_o hi m (j + 1)).trans (skT_o hi)
theorem mvT_o {PC : Nat → Int32} {ps hh : Nat} {x : SBC} (hi : sc ≤ i) : (mvT PC ps sc bc hh n x).1 i k = x.1 i k := by
  unfold mvT
  split
  · rename_i h1
    have hne : ¬ i = n := by have := h1.1; omega
    split
    · show rsS (coS x.1 n) n i k = _
      rw [rsS_same i k hne, coS_same i k hne]
    · exact coS_same i k hne
  · rfl
theorem mvL_o {PC : Nat → Int32} {ps hh : Nat} (hi : sc ≤ i) : ∀ (m j : Nat) {x : SBC}, (mvL PC ps sc bc hh m j x).1 i k = x.1 i k
  | 0, _, _ => rfl
  | m + 1, j, _ => (mvL_o hi m (j + 1)).trans (mvT_o hi)
theorem soT_o {l5 : Value} {N PC : Nat → Int32} {ps : Nat} {x : SO} (hi : sc ≤ i) : (soT l5 T N PC ps sc n x).1 i k = x.1 i k := by
  by_cases e : i = n
  · have e2 : soT l5 T N PC ps sc n x = x := if_neg (fun q => absurd q.1 (by omega))
    rw [e2]
  · exact soT_n e
theorem soL_o {l5 : Value} {N PC : Nat → Int32} {ps : Nat} (hi : sc ≤ i) : ∀ (m j : Nat) {x : SO}, (soL l5 T N PC ps sc m j x).1 i k = x.1 i k
  | 0, _, _ => rfl
  | m + 1, j, _ => (soL_o hi m (j + 1)).trans (soT_o hi)
theorem reT_o {x : Nat → Nat → Int32} (hi : sc ≤ i) : reT sc n x i k = x i k := by
  unfold reT
  split
  · rename_i h1
    exact upS_n _ _ (fun q => by have := h1.1; have := q.1; omega)
  · rfl
theorem reL_o (hi : sc ≤ i) : ∀ (m j : Nat) {x : Nat → Nat → Int32}, reL sc m j x i k = x i k
  | 0, _, _ => rfl
  | m + 1, j, _ => (reL_o hi m (j + 1)).trans (reT_o hi)
theorem hrW_o {n5 : Nat} {l5 : Value} {N O PC : Nat → Int32} {ps hh : Nat} {x : HW} (hi : sc ≤ i) : (hrW n5 l5 N O PC ps sc bc hh x).1 i k = x.1 i k := by
  show reL sc n5 0 (soL l5 _ N PC ps sc n5 0 ((mvL PC ps sc bc hh n5 0 ((skL _ _ sc bc n5 0 ((hrA O hh x).1, _)).1, _, 0)).1, _)).1 i k = _
  rw [reL_o hi, soL_o hi, mvL_o hi, skL_o hi, hrA_1]
end ROWS
theorem psL_z {n5 : Nat} {l5 : Value} {N O PC : Nat → Int32} {ps sc bc : Nat} : ∀ (n hh : Nat) {x : HW} {c : Int32}, zI x.1 → zI (psL n5 l5 N O PC ps sc bc n hh x c).1.1
  | 0, _, _, _, h => h
  | n + 1, hh, _, _, h => psL_z n (hh + 1) (hrW_z h)
theorem psL_o {n5 : Nat} {l5 : Value} {N O PC : Nat → Int32} {ps sc bc : Nat} : ∀ (n hh : Nat) {x : HW} {c : Int32}, zS x.1 sc → zS (psL n5 l5 N O PC ps sc bc n hh x c).1.1 sc
  | 0, _, _, _, h => h
  | n + 1, hh, x, c, h => psL_o n (hh + 1) (x := hrW n5 l5 N O PC ps sc bc hh x) (fun i hi => by rw [hrW_o hi, hrW_o hi]; exact h i hi)
theorem nWI.any {T C T' C' PC PC' : Nat → Int32} {ps ps' sc : Nat} {SF : Nat → Nat → Int32} {ch ch' : Int32} (h : nWI T C PC ps SF sc ch) (hc : ch < ch') : nWI T' C' PC' ps' SF sc ch' := by
  intro i hi h1
  left
  rcases h i hi h1 with h2 | ⟨h2, -⟩
  · exact (fa_trans h2 (fa_of_lt hc).1)
  · rw [h2]; exact hc
theorem sn_ok {N : Nat → Int32} {x y s : Int32} (h : nOK N) : nOK (rSn N x y s).2.2 := by
  unfold rSn
  split
  · split
    · rename_i h2
      intro k hk
      show 1 ≤ (upd N (cN (x + 16 * y)) s k).toInt ∧ (upd N (cN (x + 16 * y)) s k).toInt ≤ 9
      by_cases e : k = cN (x + 16 * y)
      · rw [e, pk_us]
        have a := h2.1
        have b := h2.2
        rw [i_le, i_1] at a
        rw [i_le, i_9] at b
        exact ⟨a, b⟩
      · rw [pk_un e]
        exact h k hk
    · exact h
  · exact h
theorem co_ok {O : Nat → Int32} {q c : Int32} (h : oOK O) : oOK (rCo O q c).2.2 := by
  unfold rCo
  split
  · split
    · rename_i h2
      intro k hk
      show -9 ≤ upd O (cN q) c k ∧ upd O (cN q) c k ≤ 9
      by_cases e : k = cN q
      · rw [e, pk_us]
        exact h2
      · rw [pk_un e]
        exact h k hk
    · exact h
  · exact h
theorem pOn_no {PC : Nat → Int32} {ps : Nat} {c : Int32} : ∀ m i, pOn PC ps c m i = none → ∀ k, i ≤ k → k < i + m → k < ps → ¬ PC k = c
  | 0, i, _, k, h1, h2, _ => by omega
  | m + 1, i, h, k, h1, h2, h3 => by
    unfold pOn at h
    split at h
    · cases h
    · rename_i hne
      by_cases e : k = i
      · subst e
        exact fun q => hne ⟨h3, q⟩
      · exact pOn_no m (i + 1) h k (by omega) (by omega) h3
theorem cop_add {PC : Nat → Int32} {ps : Nat} {q c : Int32} (h : 0 ≤ q ∧ q < nI ps) (hp : ps < 8) : cop (upd PC ps c) (ps + 1) q = cop PC ps q ∧ (0 ≤ q ∧ q < nI (ps + 1)) := by
  obtain ⟨k, hk, rfl⟩ := kOf h (by omega)
  rw [cop_k (show k < ps + 1 by omega) (by omega), cop_k hk (by omega), pk_un (by omega)]
  exact ⟨rfl, nI_pos' (by omega), nI_lt (b := ps + 1) (by omega) (by omega)⟩
section GI
variable {N O PC T S C : Nat → Int32} {ps sc bc B : Nat} {ch : Int32} {SF BF : Nat → Nat → Int32} {MX : Nat → Int32}
theorem gI.more {B' : Nat} (h : gI N O PC ps sc bc T C ch SF BF MX B) (hB : B ≤ B') : gI N O PC ps sc bc T C ch SF BF MX B' :=
  ⟨h.1, h.2.1, h.2.2.1, h.2.2.2.1.more hB, h.2.2.2.2⟩
theorem gI.sn {x y s : Int32} (h : gI N O PC ps sc bc T C ch SF BF MX B) : gI (rSn N x y s).2.2 O PC ps sc bc T C ch SF BF MX B :=
  ⟨h.1, h.2.1, ⟨sn_ok h.2.2.1.1, h.2.2.1.2⟩, h.2.2.2⟩
theorem gI.co {q c : Int32} (h : gI N O PC ps sc bc T C ch SF BF MX B) : gI N (rCo O q c).2.2 PC ps sc bc T C ch SF BF MX B :=
  ⟨h.1, h.2.1, ⟨h.2.2.1.1, co_ok h.2.2.1.2⟩, h.2.2.2⟩
theorem gI.ap {x y : Int32} (h : gI N O PC ps sc bc T C ch SF BF MX B) (hB : B < 2 ^ 30) : gI N O (rAP T S C PC ps ch x y).2.2.2.2.2.1 (rAP T S C PC ps ch x y).2.2.2.2.2.2.1 sc bc (rAP T S C PC ps ch x y).2.2.1 (rAP T S C PC ps ch x y).2.2.2.2.1 (rAP T S C PC ps ch x y).2.2.2.2.2.2.2 SF BF MX (B + 1) := by
  unfold rAP
  split
  · rename_i h1
    split
    · rename_i h2
      obtain ⟨a, b, ha, hb, rfl, rfl⟩ := onM_of h1
      rw [kf_cell] at h2 ⊢
      rw [cN_nI (by omega)]
      obtain ⟨hno, hp⟩ := h2
      obtain ⟨⟨b1, b2, b3⟩, hPC, hNO, ⟨a1, a2, a3, a4, a5, a6, a7, a8⟩, hz, hs, hd⟩ := h
      have hc : 0 ≤ nI (a + 16 * b) ∧ nI (a + 16 * b) < 160 := ⟨nI_pos' (by omega), nI_lt (b := 160) (by omega) (by decide)⟩
      refine ⟨⟨by dsimp only; omega, b2, b3⟩, fun k hk => ?_, hNO, ⟨a1, fun i hi => ?_, a3.any (a8.next hB).2, a4, a5, ⟨fun k hk => ?_, fun j => ?_, fun k hk hT => ?_⟩, a7, (a8.next hB).1⟩, hz, hs, fun u v hu hv e => ?_⟩
      · show 0 ≤ upd PC ps _ k ∧ upd PC ps _ k < 160
        by_cases e : k = ps
        · rw [e, pk_us]
          exact hc
        · rw [pk_un e]
          exact hPC k hk
      · obtain ⟨p1, p2, p3⟩ := a2 i hi
        refine ⟨p1, fun h0 => ?_, fun h0 => ?_⟩
        · have h5 := p2 h0
          have h6 := cop_add (PC := PC) (c := nI (a + 16 * b)) h5.1 hp
          exact ⟨h6.2, h5.2.trans h6.1.symm⟩
        · have h5 := p3 h0
          have h6 := cop_add (PC := PC) (c := nI (a + 16 * b)) h5.1 hp
          exact ⟨h6.2, h5.2.1, fun h7 q => h5.2.2 h7 (q.trans h6.1)⟩
      · show -1 ≤ upd T _ (-1) k ∧ upd T _ (-1) k ≤ 200
        by_cases e : k = a + 16 * b
        · rw [e, pk_us]
          exact ⟨by decide, by decide⟩
        · rw [pk_un e]
          exact a6.1 k hk
      · show vp_nar .boolean (upd C _ 0 j) = upd C _ 0 j
        by_cases e : j = a + 16 * b
        · rw [e, pk_us]
          rfl
        · rw [pk_un e]
          exact a6.2.1 j
      · have hT : upd T (a + 16 * b) (-1) k < 0 := hT
        show upd C (a + 16 * b) 0 k = 0
        by_cases e : k = a + 16 * b
        · rw [e, pk_us]
        · rw [pk_un e] at hT ⊢
          exact a6.2.2 k hk hT
      · have hu : u < ps + 1 := hu
        have hv : v < ps + 1 := hv
        have e : upd PC ps (nI (a + 16 * b)) u = upd PC ps (nI (a + 16 * b)) v := e
        have hn := pOn_no 8 0 hno
        by_cases eu : u = ps
        · by_cases ev : v = ps
          · rw [eu, ev]
          · rw [eu, pk_us, pk_un ev] at e
            exact absurd e.symm (hn v (by omega) (by omega) (by omega))
        · by_cases ev : v = ps
          · rw [ev, pk_us, pk_un eu] at e
            exact absurd e (hn u (by omega) (by omega) (by omega))
          · rw [pk_un eu, pk_un ev] at e
            exact hd u v (by omega) (by omega) e
    · exact h.more (by omega)
  · exact h.more (by omega)
end GI

/-! each call keeps it, second half -/
theorem beg_o {S : Nat → Nat → Int32} {n : Nat} {a b c : Int32} {i k : Nat} (hi : ¬ i = n) : begS S n a b c i k = S i k := by
  unfold begS
  rw [upS_n _ _ (fun q => hi q.1), upS_n _ _ (fun q => hi q.1), upS_n _ _ (fun q => hi q.1), upS_n _ _ (fun q => hi q.1), upS_n _ _ (fun q => hi q.1)]
theorem beg_k {S : Nat → Nat → Int32} {n : Nat} {a b c : Int32} {i k : Nat} (h0 : ¬ k = 0) (h3 : ¬ k = 3) (h4 : ¬ k = 4) (h5 : ¬ k = 5) (h6 : ¬ k = 6) : begS S n a b c i k = S i k := by
  unfold begS
  rw [upS_n _ _ (fun q => h6 q.2), upS_n _ _ (fun q => h5 q.2), upS_n _ _ (fun q => h4 q.2), upS_n _ _ (fun q => h3 q.2), upS_n _ _ (fun q => h0 q.2)]
theorem beg_0 {S : Nat → Nat → Int32} {n : Nat} {a b c : Int32} : begS S n a b c n 0 = c := by
  unfold begS
  rw [upS_n _ _ (by omega), upS_n _ _ (by omega), upS_n _ _ (by omega), upS_n _ _ (by omega), upS_s]
theorem beg_3 {S : Nat → Nat → Int32} {n : Nat} {a b c : Int32} : begS S n a b c n 3 = 0 := by
  unfold begS
  rw [upS_n _ _ (by omega), upS_n _ _ (by omega), upS_n _ _ (by omega), upS_s]
theorem beg_4 {S : Nat → Nat → Int32} {n : Nat} {a b c : Int32} : begS S n a b c n 4 = b := by
  unfold begS
  rw [upS_n _ _ (by omega), upS_n _ _ (by omega), upS_s]
theorem beg_5 {S : Nat → Nat → Int32} {n : Nat} {a b c : Int32} : begS S n a b c n 5 = a := by
  unfold begS
  rw [upS_n _ _ (by omega), upS_s]
theorem lyU_c {c : Nat → Nat} : ∀ (n k : Nat), (∀ A v, lyU A v c n k = v) ∨ (∀ A v, lyU A v c n k = A k)
  | 0, _ => Or.inr (fun _ _ => rfl)
  | n + 1, k => by
    by_cases e : k = c n
    · left
      intro A v
      show upd (lyU A v c n) (c n) v k = v
      rw [e, pk_us]
    · rcases lyU_c n k with h | h
      · left
        intro A v
        show upd (lyU A v c n) (c n) v k = v
        rw [pk_un e]
        exact h A v
      · right
        intro A v
        show upd (lyU A v c n) (c n) v k = A k
        rw [pk_un e]
        exact h A v
theorem chB.add {ch : Int32} {B n : Nat} (h : chB ch B) (hB : B < 2 ^ 30) (h1 : 1 ≤ n) (hn : n ≤ 160) : chB (ch + nI n) (B + 160) ∧ ch < ch + nI n := by
  have e : (ch + nI n).toInt = ch.toInt + n := by
    have := h.1
    have := h.2
    rw [fb_addI (by rw [nI_toInt (by omega)]; omega) (by rw [nI_toInt (by omega)]; omega), nI_toInt (by omega)]
  unfold chB at h ⊢
  rw [i_lt, e]
  omega
section GI2
variable {N O PC T S C : Nat → Int32} {ps sc bc B : Nat} {ch : Int32} {SF BF : Nat → Nat → Int32} {MX MY : Nat → Int32}
theorem gI.as {q r : Int32} (h : gI N O PC ps sc bc T C ch SF BF MX B) (hm : ∀ i, ¬ i = sc → MY i = MX i) : gI N O PC ps (rAS PC SF ps sc q r).2.2.2 bc T C ch (rAS PC SF ps sc q r).2.2.1 BF MY B := by
  obtain ⟨⟨b1, b2, b3⟩, hPC, hNO, ⟨a1, a2, a3, a4, a5, a6, a7, a8⟩, hz, hs, hd⟩ := h
  have hold : gI N O PC ps sc bc T C ch SF BF MY B := ⟨⟨b1, b2, b3⟩, hPC, hNO, ⟨a1, a2, a3, a4, a5, a6, fun i hi => by rw [hm i (by omega)]; exact a7 i hi, a8⟩, hz, hs, hd⟩
  unfold rAS
  split
  · rename_i hq
    split
    · rename_i hr
      split
      · rename_i hc
        have hcop := cop_in b1 hPC hq
        have h7 : begS SF sc q (cop PC ps q) r sc 7 = 0 := by rw [beg_k (by decide) (by decide) (by decide) (by decide) (by decide)]; exact (hs sc (Nat.le_refl _)).2
        have h3 : begS SF sc q (cop PC ps q) r sc 3 = 0 := beg_3
        have ho : ∀ i, i < sc + 1 → ¬ i = sc → i < sc := fun i hi hn => by omega
        refine ⟨⟨b1, by dsimp only; omega, b3⟩, hPC, hNO, ⟨fun i hi => ?_, fun i hi => ?_, fun i hi h1 => ?_, fun i hi => ?_, a5, a6, fun i hi h1 h2 => ?_, a8⟩, fun i h1 => ?_, fun i hi => ?_, hd⟩
        · show (1 ≤ (begS SF sc q (cop PC ps q) r i 0).toInt ∧ (begS SF sc q (cop PC ps q) r i 0).toInt ≤ 6) ∧ (0 ≤ begS SF sc q (cop PC ps q) r i 4 ∧ begS SF sc q (cop PC ps q) r i 4 < 160) ∧ (0 < begS SF sc q (cop PC ps q) r i 7 → 0 ≤ begS SF sc q (cop PC ps q) r i 6 ∧ begS SF sc q (cop PC ps q) r i 6 < 160)
          by_cases e : i = sc
          · subst e
            rw [h7, beg_0, beg_4]
            have u := hr.1
            have v := hr.2
            rw [i_le, i_1] at u
            rw [i_le, i_6] at v
            exact ⟨⟨u, v⟩, hcop, fun z => absurd z (by decide)⟩
          · rw [beg_o e, beg_o e, beg_o e, beg_o e]
            exact a1 i (ho i hi e)
        · show (begS SF sc q (cop PC ps q) r i 3 = 0 ∨ begS SF sc q (cop PC ps q) r i 3 = 1 ∨ begS SF sc q (cop PC ps q) r i 3 = 2) ∧ (begS SF sc q (cop PC ps q) r i 3 = 0 → (0 ≤ begS SF sc q (cop PC ps q) r i 5 ∧ begS SF sc q (cop PC ps q) r i 5 < nI ps) ∧ begS SF sc q (cop PC ps q) r i 4 = cop PC ps (begS SF sc q (cop PC ps q) r i 5)) ∧ (begS SF sc q (cop PC ps q) r i 3 = 1 → (0 ≤ begS SF sc q (cop PC ps q) r i 5 ∧ begS SF sc q (cop PC ps q) r i 5 < nI ps) ∧ 0 ≤ begS SF sc q (cop PC ps q) r i 7 ∧ (¬ 0 < begS SF sc q (cop PC ps q) r i 7 → ¬ begS SF sc q (cop PC ps q) r i 4 = cop PC ps (begS SF sc q (cop PC ps q) r i 5)))
          by_cases e : i = sc
          · subst e
            rw [h3, beg_5, beg_4]
            exact ⟨Or.inl rfl, fun _ => ⟨hq, rfl⟩, fun z => absurd z (by decide)⟩
          · rw [beg_o e, beg_o e, beg_o e, beg_o e]
            exact a2 i (ho i hi e)
        · by_cases e : i = sc
          · subst e
            exact absurd (h3.symm.trans h1) (by decide)
          · have h1 : begS SF sc q (cop PC ps q) r i 3 = 1 := h1
            have e9 : HbS T C (begS SF sc q (cop PC ps q) r) i = HbS T C SF i := by
              unfold HbS slN slW
              rw [beg_o e, beg_o e]
            show begS SF sc q (cop PC ps q) r i 8 < ch ∨ (begS SF sc q (cop PC ps q) r i 8 = ch ∧ ¬ 0 < begS SF sc q (cop PC ps q) r i 7 ∧ ∀ n, ¬ Rch (HbS T C (begS SF sc q (cop PC ps q) r) i) (cN (cop PC ps (begS SF sc q (cop PC ps q) r i 5))) n (cN (begS SF sc q (cop PC ps q) r i 4)))
            rw [beg_o e] at h1
            rw [beg_o e, beg_o e, beg_o e, beg_o e, e9]
            exact a3 i (ho i hi e) h1
        · show begS SF sc q (cop PC ps q) r i 1 = _
          rw [beg_k (by decide) (by decide) (by decide) (by decide) (by decide)]
          exact a4 i hi
        · by_cases e : i = sc
          · subst e
            exact absurd (h3.symm.trans h1) (by decide)
          · have h1 : begS SF sc q (cop PC ps q) r i 3 = 1 := h1
            have h2 : 0 < begS SF sc q (cop PC ps q) r i 7 := h2
            show MY i = begS SF sc q (cop PC ps q) r i 6
            rw [beg_o e] at h1 h2
            rw [beg_o e, hm i e]
            exact a7 i (ho i hi e) h1 h2
        · have h1 : begS SF sc q (cop PC ps q) r i 3 = 0 := h1
          show begS SF sc q (cop PC ps q) r i 7 = 0
          by_cases e : i = sc
          · subst e
            exact h7
          · rw [beg_o e] at h1
            rw [beg_o e]
            exact hz i h1
        · have hi : sc + 1 ≤ i := hi
          show begS SF sc q (cop PC ps q) r i 2 = 0 ∧ begS SF sc q (cop PC ps q) r i 7 = 0
          rw [beg_o (by omega), beg_o (by omega)]
          exact hs i (by omega)
      · exact hold
    · exact hold
  · exact hold
theorem wg_add {n : Nat} {a b c s : Int32} : wgF (begB BF n a b c) (n + 1) s = wgF BF n s := by
  funext i
  unfold wgF
  by_cases e : i = n
  · subst e
    rw [if_neg (fun q => absurd q.2.1 (by unfold begB; rw [upS_n _ _ (by omega), upS_n _ _ (by omega), upS_s]; decide)), if_neg (fun q => absurd q.1 (Nat.lt_irrefl _))]
  · have eb : ∀ k, begB BF n a b c i k = BF i k := fun k => by
      unfold begB
      rw [upS_n _ _ (fun q => e q.1), upS_n _ _ (fun q => e q.1), upS_n _ _ (fun q => e q.1), upS_n _ _ (fun q => e q.1), upS_n _ _ (fun q => e q.1)]
    rw [eb 2, eb 3, eb 0]
    by_cases h : i < n
    · by_cases h2 : BF i 2 = 1 ∧ BF i 3 = s
      · rw [if_pos ⟨by omega, h2⟩, if_pos ⟨h, h2⟩]
      · rw [if_neg (fun q => h2 q.2), if_neg (fun q => h2 q.2)]
    · rw [if_neg (fun q => h (by omega)), if_neg (fun q => h q.1)]
theorem gI.ab {a b c : Int32} (h : gI N O PC ps sc bc T C ch SF BF MX B) : gI N O PC ps sc (rAB BF ps bc a b c).2.2.2 T C ch SF (rAB BF ps bc a b c).2.2.1 MX B := by
  obtain ⟨⟨b1, b2, b3⟩, hPC, hNO, ⟨a1, a2, a3, a4, a5, a6, a7, a8⟩, hz, hs, hd⟩ := id h
  unfold rAB
  split
  · split
    · rename_i hc
      split
      · rename_i hb
        refine ⟨⟨b1, b2, by dsimp only; omega⟩, hPC, hNO, ⟨a1, a2, a3, fun i hi => ?_, fun i hi => ?_, a6, a7, a8⟩, hz, hs, hd⟩
        · show SF i 1 = sumN (wgF (begB BF bc a b c) (bc + 1) (nI i)) 40
          rw [wg_add]
          exact a4 i hi
        · have hi : i < bc + 1 := hi
          show 0 ≤ (begB BF bc a b c i 0).toInt ∧ (begB BF bc a b c i 0).toInt ≤ 30
          by_cases e : i = bc
          · have e0 : begB BF bc a b c bc 0 = c := by
              unfold begB
              rw [upS_n _ _ (by omega), upS_n _ _ (by omega), upS_n _ _ (by omega), upS_n _ _ (by omega), upS_s]
            rw [e, e0]
            have u := hc.2.1
            have v := hc.2.2
            rw [i_le, i_1] at u
            rw [i_le, i_30] at v
            omega
          · have e0 : begB BF bc a b c i 0 = BF i 0 := by
              unfold begB
              rw [upS_n _ _ (by omega), upS_n _ _ (by omega), upS_n _ _ (by omega), upS_n _ _ (by omega), upS_n _ _ (by omega)]
            rw [e0]
            exact a5 i (by omega)
      · exact h
    · exact h
  · exact h
theorem gI.ld {s b : Int32} (h : gI N O PC ps sc bc T C ch SF BF MX B) : gI N O PC ps sc bc T C ch (rLd SF BF sc bc s b).2.2.1 (rLd SF BF sc bc s b).2.2.2 MX B := by
  obtain ⟨⟨b1, b2, b3⟩, hPC, hNO, ⟨a1, a2, a3, a4, a5, a6, a7, a8⟩, hz, hs, hd⟩ := id h
  unfold rLd
  split
  · rename_i hp
    split
    · rename_i hc
      obtain ⟨i, hi, rfl⟩ := kOf hp.1 (by omega)
      obtain ⟨j, hj, rfl⟩ := kOf hp.2 (by omega)
      rw [cN_nI (by omega), cN_nI (by omega)] at *
      obtain ⟨c1, c2, c3⟩ := hc
      have hr : ∀ a k, ¬ a = i → upS SF i 1 (SF i 1 + BF j 0) a k = SF a k := fun a k ha => upS_n _ _ (fun z => ha z.1)
      have hk : ∀ a k, ¬ k = 1 → upS SF i 1 (SF i 1 + BF j 0) a k = SF a k := fun a k hk => upS_n _ _ (fun z => hk z.2)
      dsimp only
      refine ⟨⟨b1, b2, b3⟩, hPC, hNO, ⟨a1.up (by omega), a2.one hr ?_, a3.one hr ?_, fun a ha => ?_, fun a ha => ?_, a6, a7.one hr (fun _ _ => rfl) ?_, a8⟩, fun a h3 => ?_, fun a ha => ?_, hd⟩
      · rw [hk i 3 (by decide), hk i 4 (by decide), hk i 5 (by decide), hk i 7 (by decide)]
        exact a2 i hi
      · rw [hk i 3 (by decide), c2]
        exact fun z => absurd z (by decide)
      · show upS SF i 1 (SF i 1 + BF j 0) a 1 = sumN (wgF (upS (upS BF j 2 1) j 3 (nI i)) bc (nI a)) 40
        by_cases e : a = i
        · subst e
          rw [upS_s, ld_sum hj b3 c1, a4 a ha]
        · rw [hr a 1 e]
          have e9 : wgF (upS (upS BF j 2 1) j 3 (nI i)) bc (nI a) = wgF BF bc (nI a) := by
            funext m
            unfold wgF
            by_cases em : m = j
            · subst em
              rw [if_neg (fun q => by rw [upS_s] at q; exact e (nI_inj (by omega) (by omega) q.2.2).symm), if_neg (fun q => by rw [c1] at q; exact absurd q.2.1 (by decide))]
            · rw [upS_n _ _ (by omega), upS_n _ _ (by omega), upS_n _ _ (by omega), upS_n _ _ (by omega), upS_n _ _ (by omega), upS_n _ _ (by omega)]
          rw [e9]
          exact a4 a ha
      · show 0 ≤ (upS (upS BF j 2 1) j 3 (nI i) a 0).toInt ∧ (upS (upS BF j 2 1) j 3 (nI i) a 0).toInt ≤ 30
        rw [upS_n _ _ (by omega), upS_n _ _ (by omega)]
        exact a5 a ha
      · rw [hk i 3 (by decide), c2]
        exact fun z => absurd z (by decide)
      · have h3 : upS SF i 1 (SF i 1 + BF j 0) a 3 = 0 := h3
        show upS SF i 1 (SF i 1 + BF j 0) a 7 = 0
        rw [hk a 3 (by decide)] at h3
        rw [hk a 7 (by decide)]
        exact hz a h3
      · show upS SF i 1 (SF i 1 + BF j 0) a 2 = 0 ∧ upS SF i 1 (SF i 1 + BF j 0) a 7 = 0
        rw [hk a 2 (by decide), hk a 7 (by decide)]
        exact hs a ha
    · exact h
  · exact h
theorem gI.se {f : Nat → Int32} {s q : Int32} (h : gI N O PC ps sc bc T C ch SF BF MX B) : gI N O PC ps sc bc T C ch (rSe T N C PC SF ps sc f s q).2.2 BF MX B := by
  obtain ⟨⟨b1, b2, b3⟩, hPC, hNO, ⟨a1, a2, a3, a4, a5, a6, a7, a8⟩, hz, hs, hd⟩ := id h
  unfold rSe
  split
  · rename_i hp
    split
    · exact h
    · rename_i hc
      split
      · exact h
      · rename_i hc2
        obtain ⟨i, hi, rfl⟩ := kOf hp.1 (by omega)
        obtain ⟨j, hj, rfl⟩ := kOf hp.2 (by omega)
        rw [cN_nI (show i < 2 ^ 31 by omega)] at *
        have c0 : SF i 3 = 0 := Classical.byContradiction hc2
        have hr : ∀ a k, ¬ a = i → dpS SF i (nI j) a k = SF a k := fun a k ha => by
          unfold dpS
          rw [upS_n _ _ (fun z => ha z.1), upS_n _ _ (fun z => ha z.1), upS_n _ _ (fun z => ha z.1)]
        have hk : ∀ a k, ¬ k = 3 → ¬ k = 5 → ¬ k = 8 → dpS SF i (nI j) a k = SF a k := fun a k k3 k5 k8 => by
          unfold dpS
          rw [upS_n _ _ (fun z => k8 z.2), upS_n _ _ (fun z => k5 z.2), upS_n _ _ (fun z => k3 z.2)]
        have e3 : dpS SF i (nI j) i 3 = 1 := by
          unfold dpS
          rw [upS_n _ _ (by omega), upS_n _ _ (by omega), upS_s]
        have e5 : dpS SF i (nI j) i 5 = nI j := by
          unfold dpS
          rw [upS_n _ _ (by omega), upS_s]
        have e8 : dpS SF i (nI j) i 8 = -1 := by
          unfold dpS
          rw [upS_s]
        have z7 := hz i c0
        have p2 := (a2 i hi).2.1 c0
        dsimp only
        refine ⟨⟨b1, b2, b3⟩, hPC, hNO, ⟨dp_ok a1, a2.one hr ?_, a3.one hr ?_, ((a4.up (by decide)).up (by decide)).up (by decide), a5, a6, a7.one hr (fun _ _ => rfl) ?_, a8⟩, fun a h3 => ?_, fun a ha => ?_, hd⟩
        · rw [e3, e5, hk i 4 (by decide) (by decide) (by decide), hk i 7 (by decide) (by decide) (by decide), z7]
          refine ⟨Or.inr (Or.inl rfl), fun z => absurd z (by decide), fun _ => ⟨hp.2, by decide, fun _ z => ?_⟩⟩
          obtain ⟨m, hm, em⟩ := kOf p2.1 (by omega)
          rw [p2.2, em, cop_k hm b1, cop_k hj b1] at z
          have e := hd m j hm hj z
          subst e
          exact hc ⟨c0, em⟩
        · intro _
          left
          rw [e8, i_lt, i_m1]
          have := a8.1
          omega
        · intro _ z
          rw [hk i 7 (by decide) (by decide) (by decide), z7] at z
          exact absurd z (by decide)
        · have h3 : dpS SF i (nI j) a 3 = 0 := h3
          show dpS SF i (nI j) a 7 = 0
          rw [hk a 7 (by decide) (by decide) (by decide)]
          by_cases e : a = i
          · rw [e]
            exact z7
          · rw [hr a 3 e] at h3
            exact hz a h3
        · show dpS SF i (nI j) a 2 = 0 ∧ dpS SF i (nI j) a 7 = 0
          rw [hk a 2 (by decide) (by decide) (by decide), hk a 7 (by decide) (by decide) (by decide)]
          exact hs a ha
  · exact h
theorem gI.ic {x y w h9 t : Int32} (h : gI N O PC ps sc bc T C ch SF BF MX B) (hB : B < 2 ^ 30) : gI N O PC ps sc bc (rIc T S C PC SF ps sc ch x y w h9 t).2.2.1 (rIc T S C PC SF ps sc ch x y w h9 t).2.2.2.2.1 (rIc T S C PC SF ps sc ch x y w h9 t).2.2.2.2.2 SF BF MX (B + 160) := by
  obtain ⟨⟨b1, b2, b3⟩, hPC, hNO, ⟨a1, a2, a3, a4, a5, a6, a7, a8⟩, hz, hs, hd⟩ := id h
  unfold rIc
  split
  · rename_i h1
    split
    · exact h.more (by omega)
    · obtain ⟨k1, k2, k3, k4, hac, hbe, rfl, rfl, rfl, rfl⟩ := rect_of h1.1
      have ht := h1.2
      have hw := h1.1.2.1.1
      have hh := h1.1.2.2.1
      rw [i_le, i_1, nI_toInt (by omega)] at hw hh
      rw [cN_nI (show k1 < 2 ^ 31 by omega), cN_nI (show k2 < 2 ^ 31 by omega), cN_nI (show k3 < 2 ^ 31 by omega), cN_nI (show k4 < 2 ^ 31 by omega)]
      have hm : k4 * k3 ≤ 160 := by
        have := Nat.mul_le_mul (show k4 ≤ 10 by omega) (show k3 ≤ 16 by omega)
        omega
      have hm1 : 1 ≤ k4 * k3 := Nat.mul_le_mul (show 1 ≤ k4 by omega) (show 1 ≤ k3 by omega)
      have h8 := a8.add hB hm1 hm
      dsimp only
      refine ⟨⟨b1, b2, b3⟩, hPC, hNO, ⟨a1, a2, a3.any h8.2, a4, a5, ⟨fun k hk => ?_, fun j => ?_, fun k hk hT => ?_⟩, a7, h8.1⟩, hz, hs, hd⟩
      · show -1 ≤ lyU T t _ _ k ∧ lyU T t _ _ k ≤ 200
        rcases lyU_c (c := cel k1 k2 k3) (k4 * k3) k with e | e
        · rw [e]
          exact ht
        · rw [e]
          exact a6.1 k hk
      · show vp_nar .boolean (lyU C 0 (cel k1 k2 k3) (k4 * k3) j) = lyU C 0 (cel k1 k2 k3) (k4 * k3) j
        rcases lyU_c (c := cel k1 k2 k3) (k4 * k3) j with e | e
        · rw [e]
          rfl
        · rw [e]
          exact a6.2.1 j
      · have hT : lyU T t (cel k1 k2 k3) (k4 * k3) k < 0 := hT
        show lyU C 0 (cel k1 k2 k3) (k4 * k3) k = 0
        rcases lyU_c (c := cel k1 k2 k3) (k4 * k3) k with e | e
        · rw [e]
        · rw [e] at hT ⊢
          exact a6.2.2 k hk hT
  · exact h.more (by omega)
end GI2
theorem gI.pa {N O PC : Nat → Int32} {ps sc bc hh B : Nat} {x : HW} {MX MY : Nat → Int32} {n5 : Nat} {l5 : Value} {q : Int32} (h : gI N O PC ps sc bc x.2.2.1 x.2.2.2.2.2.2.2.2.2.1 x.2.2.2.2.2.2.2.2.2.2 x.1 x.2.1 MX B)
    (hY : hIV PC ps sc bc (rPs n5 l5 N O PC ps sc bc hh x q).2.2.1.2.2.1 (rPs n5 l5 N O PC ps sc bc hh x q).2.2.1.2.2.2.2.2.2.2.2.2.1 (rPs n5 l5 N O PC ps sc bc hh x q).2.2.1.2.2.2.2.2.2.2.2.2.2 (rPs n5 l5 N O PC ps sc bc hh x q).2.2.1.1 (rPs n5 l5 N O PC ps sc bc hh x q).2.2.1.2.1 MY (B + 1200)) :
    gI N O PC ps sc bc (rPs n5 l5 N O PC ps sc bc hh x q).2.2.1.2.2.1 (rPs n5 l5 N O PC ps sc bc hh x q).2.2.1.2.2.2.2.2.2.2.2.2.1 (rPs n5 l5 N O PC ps sc bc hh x q).2.2.1.2.2.2.2.2.2.2.2.2.2 (rPs n5 l5 N O PC ps sc bc hh x q).2.2.1.1 (rPs n5 l5 N O PC ps sc bc hh x q).2.2.1.2.1 MY (B + 1200) := by
  obtain ⟨hb, hPC, hNO, -, hz, hs, hd⟩ := h
  refine ⟨hb, hPC, hNO, hY, ?_, ?_, hd⟩
  · unfold rPs
    split
    · exact psL_z _ _ hz
    · exact hz
  · unfold rPs
    split
    · exact psL_o _ _ hs
    · exact hs
theorem rPs_hh {N O PC : Nat → Int32} {ps sc bc hh : Nat} {x : HW} {n5 : Nat} {l5 : Value} {q : Int32} : (rPs n5 l5 N O PC ps sc bc hh x q).2.2.2 ≤ hh + 200 := by
  unfold rPs
  split
  · rename_i h
    obtain ⟨n, hn, rfl⟩ := le_nI 200 (by decide) ⟨i_le.mpr (by have := h.1; rw [i_le, i_1] at this; rw [i_0]; omega), h.2⟩
    show hh + cN (nI n) ≤ hh + 200
    rw [cN_nI (by omega)]
    omega
  · exact Nat.le_add_right _ _
theorem gI_init : gI (fun _ => 1) (fun _ => 5) (fun _ => 0) 0 0 0 (fun _ => 30) (fun _ => 0) 0 (fun _ _ => 0) (fun _ _ => 0) (fun _ => 0) 0 := by
  refine ⟨⟨by decide, by decide, by decide⟩, fun _ _ => ⟨(by decide : (0 : Int32) ≤ 0), (by decide : (0 : Int32) < 160)⟩, ⟨fun _ _ => ⟨(by decide : 1 ≤ (1 : Int32).toInt), (by decide : (1 : Int32).toInt ≤ 9)⟩, fun _ _ => ⟨(by decide : (-9 : Int32) ≤ 5), (by decide : (5 : Int32) ≤ 9)⟩⟩, ⟨fun i hi => absurd hi (Nat.not_lt_zero _), fun i hi => absurd hi (Nat.not_lt_zero _), fun i hi => absurd hi (Nat.not_lt_zero _), fun i hi => ?_, fun i hi => absurd hi (Nat.not_lt_zero _), ⟨fun _ _ => ⟨(by decide : (-1 : Int32) ≤ 30), (by decide : (30 : Int32) ≤ 200)⟩, fun _ => (by rfl : vp_nar .boolean (0 : Int32) = 0), fun _ _ _ => rfl⟩, fun i hi => absurd hi (Nat.not_lt_zero _), ⟨by decide, by decide⟩⟩, fun _ _ => rfl, fun _ _ => ⟨rfl, rfl⟩, fun a b ha => absurd ha (Nat.not_lt_zero _)⟩
  have e : wgF (fun _ _ => 0) 0 (nI i) = fun _ => 0 := by
    funext a
    unfold wgF
    rw [if_neg (fun q => absurd q.1 (Nat.not_lt_zero _))]
  rw [e]
  rfl

