/-! the reference: its state, its small methods -/
/-- the reference's columns of a sleigh in the class's own -/
def colm : Nat → Nat
  | 0 => 0
  | 1 => 2
  | 2 => 3
  | 3 => 4
  | 4 => 5
  | 5 => 6
  | _ => 7
def tblM (SF : Nat → Nat → Int32) (MX : Nat → Int32) : Nat → Int32 := fun j => if j % 7 = 5 then MX (j / 7) else SF (j / 7) (colm (j % 7))
def malM (BF : Nat → Nat → Int32) : Nat → Int32 := fun j => BF (j / 5) (j % 5)
theorem dm7 {i k : Nat} (hk : k < 7) : (7 * i + k) / 7 = i ∧ (7 * i + k) % 7 = k := by omega
theorem dm5 {i k : Nat} (hk : k < 5) : (5 * i + k) / 5 = i ∧ (5 * i + k) % 5 = k := by omega
theorem tblM_get {SF : Nat → Nat → Int32} {MX : Nat → Int32} {i k : Nat} (hk : k < 7) : tblM SF MX (7 * i + k) = if k = 5 then MX i else SF i (colm k) := by
  unfold tblM
  rw [(dm7 hk).1, (dm7 hk).2]
theorem malM_get {BF : Nat → Nat → Int32} {i k : Nat} (hk : k < 5) : malM BF (5 * i + k) = BF i k := by
  unfold malM
  rw [(dm5 hk).1, (dm5 hk).2]
theorem colm_inj {a b : Nat} (ha : a < 7) (hb : b < 7) (h : colm a = colm b) : a = b := by
  rcases (show a = 0 ∨ a = 1 ∨ a = 2 ∨ a = 3 ∨ a = 4 ∨ a = 5 ∨ a = 6 by omega) with rfl | rfl | rfl | rfl | rfl | rfl | rfl <;> rcases (show b = 0 ∨ b = 1 ∨ b = 2 ∨ b = 3 ∨ b = 4 ∨ b = 5 ∨ b = 6 by omega) with rfl | rfl | rfl | rfl | rfl | rfl | rfl <;> first | rfl | (exact absurd h (by decide))
theorem tblM_set {SF : Nat → Nat → Int32} {MX : Nat → Int32} {i k : Nat} {v : Int32} (hk : k < 7) (h5 : ¬ k = 5) : upd (tblM SF MX) (7 * i + k) v = tblM (upS SF i (colm k) v) MX := by
  funext j
  unfold upd tblM
  by_cases hj : j = 7 * i + k
  · subst hj
    rw [if_pos rfl, (dm7 hk).1, (dm7 hk).2, if_neg h5, upS_s]
  · rw [if_neg hj]
    by_cases h : j % 7 = 5
    · rw [if_pos h, if_pos h]
    · rw [if_neg h, if_neg h, upS_n]
      intro q
      have hc := colm_inj (Nat.mod_lt j (by decide)) hk q.2
      have := q.1
      omega
theorem tblM_setX {SF : Nat → Nat → Int32} {MX : Nat → Int32} {i : Nat} {v : Int32} : upd (tblM SF MX) (7 * i + 5) v = tblM SF (upd MX i v) := by
  funext j
  unfold upd tblM
  by_cases hj : j = 7 * i + 5
  · subst hj
    rw [if_pos rfl, (dm7 (by decide)).1, (dm7 (by decide)).2, if_pos rfl]
    exact (if_pos rfl).symm
  · rw [if_neg hj]
    by_cases h : j % 7 = 5
    · rw [if_pos h, if_pos h]
      exact (if_neg (by omega)).symm
    · rw [if_neg h, if_neg h]
theorem malM_set {BF : Nat → Nat → Int32} {i k : Nat} {v : Int32} (hk : k < 5) : upd (malM BF) (5 * i + k) v = malM (upS BF i k v) := by
  funext j
  unfold upd malM upS
  by_cases hj : j = 5 * i + k
  · subst hj
    rw [if_pos rfl, (dm5 hk).1, (dm5 hk).2, if_pos ⟨rfl, rfl⟩]
  · rw [if_neg hj, if_neg]
    intro q
    have := q.1
    have := q.2
    omega
/-- columns that the reference doesn't keep -/
theorem tblM_cong {SF SG : Nat → Nat → Int32} {MX : Nat → Int32} (h : ∀ i k, k = 0 ∨ k = 2 ∨ k = 3 ∨ k = 4 ∨ k = 5 ∨ k = 7 → SF i k = SG i k) : tblM SF MX = tblM SG MX := by
  funext j
  unfold tblM
  by_cases h5 : j % 7 = 5
  · rw [if_pos h5, if_pos h5]
  · rw [if_neg h5, if_neg h5]
    refine h _ _ ?_
    have := Nat.mod_lt j (show 0 < 7 by decide)
    rcases (show j % 7 = 0 ∨ j % 7 = 1 ∨ j % 7 = 2 ∨ j % 7 = 3 ∨ j % 7 = 4 ∨ j % 7 = 6 by omega) with e | e | e | e | e | e <;> rw [e] <;> decide
theorem sum_stop {F : Nat → Int32} {n : Nat} : ∀ k, (∀ i, n ≤ i → i < n + k → F i = 0) → sumN F (n + k) = sumN F n
  | 0, _ => rfl
  | k + 1, h => by
    show sumN F (n + k) + F (n + k) = _
    rw [sum_stop k (fun i h1 h2 => h i h1 (by omega)), h (n + k) (by omega) (by omega), Int32.add_zero]
theorem sum_to {F : Nat → Int32} {n m : Nat} (hnm : n ≤ m) (h : ∀ i, n ≤ i → i < m → F i = 0) : sumN F m = sumN F n := by
  have := sum_stop (F := F) (n := n) (m - n) (fun i h1 h2 => h i h1 (by omega))
  rwa [show n + (m - n) = m by omega] at this
theorem pOn_stop {PC : Nat → Int32} {ps : Nat} {c : Int32} : ∀ m i, ps ≤ i → pOn PC ps c m i = none
  | 0, _, _ => rfl
  | m + 1, i, h => by
    unfold pOn
    rw [if_neg (fun q => absurd q.1 (by omega)), pOn_stop m (i + 1) (by omega)]
def wgF (BF : Nat → Nat → Int32) (bc : Nat) (s : Int32) (i : Nat) : Int32 := if i < bc ∧ BF i 2 = 1 ∧ BF i 3 = s then BF i 0 else 0
def tOK (T : Nat → Int32) : Prop := ∀ k, k < 160 → -1 ≤ T k ∧ T k ≤ 200
def lOK (T C : Nat → Int32) : Prop := ∀ k, k < 160 → T k < 0 → C k = 0
theorem and1 (x : Int32) : x &&& 1 = 0 ∨ x &&& 1 = 1 := by
  have h1 : (x &&& 1).toBitVec.toNat = x.toBitVec.toNat % 2 := by
    have h2 : (x &&& 1).toBitVec = x.toBitVec &&& 1#32 := rfl
    rw [h2, BitVec.toNat_and]
    show x.toBitVec.toNat &&& (2 ^ 1 - 1) = _
    rw [Nat.and_two_pow_sub_one_eq_mod]
  have h3 : (x &&& 1).toInt = ((x.toBitVec.toNat % 2 : Nat) : Int) := by
    show (x &&& 1).toBitVec.toInt = _
    rw [BitVec.toInt_eq_toNat_of_lt (by rw [h1]; omega), h1]
  rcases (show x.toBitVec.toNat % 2 = 0 ∨ x.toBitVec.toNat % 2 = 1 by omega) with e | e
  · exact Or.inl (Int32.toInt_inj.mp (by rw [h3, e]; decide))
  · exact Or.inr (Int32.toInt_inj.mp (by rw [h3, e]; decide))
theorem cOK01 {C : Nat → Int32} (h : cOK C) (j : Nat) : C j = 0 ∨ C j = 1 := by
  have h1 := h j
  have h2 : vp_nar .boolean (C j) = C j &&& 1 := rfl
  rw [h2] at h1
  rw [← h1]
  exact and1 _
theorem tOK_l {T : Nat → Int32} (h : tOK T) {k : Nat} (hk : k < 160) : T k = -1 ↔ T k < 0 := by
  have h1 := (h k hk).1
  rw [i_le, i_m1] at h1
  rw [i_eq, i_lt, i_m1, i_0]
  omega
theorem bI_iff {P Q : Prop} [Decidable P] [Decidable Q] (h : P ↔ Q) : bI P = bI Q := by
  unfold bI
  by_cases hp : P
  · rw [if_pos hp, if_pos (h.mp hp)]
  · rw [if_neg hp, if_neg (fun q => hp (h.mpr q))]
theorem isp_iff {q : Int32} {n : Nat} (hn : n < 2 ^ 30) : (0 ≤ q ∧ q ≤ nI n - 1) ↔ (0 ≤ q ∧ q < nI n) := by
  have e : (nI n - 1).toInt = (n : Int) - 1 := by
    have := pk_sub_toInt (a := n) (b := 1) hn (by decide)
    exact this
  rw [i_le, i_le, i_lt, e, nI_toInt (by omega)]
  omega
theorem bsX_00 : ∀ j : Fin 160, (fun k : Nat => ((0 ≤ (nI k - nI k / 16 * 16 + 0) ∧ (nI k - nI k / 16 * 16 + 0) ≤ 15) ∧ (0 ≤ (nI k / 16 + (-1)) ∧ (nI k / 16 + (-1)) ≤ 9) → (nI k - nI k / 16 * 16 + 0) + 16 * (nI k / 16 + (-1)) = oI (nbr k 0)) ∧ (¬ ((0 ≤ (nI k - nI k / 16 * 16 + 0) ∧ (nI k - nI k / 16 * 16 + 0) ≤ 15) ∧ (0 ≤ (nI k / 16 + (-1)) ∧ (nI k / 16 + (-1)) ≤ 9)) → -1 = oI (nbr k 0))) j.val := by decide +kernel
theorem bsX_0 {k : Nat} (hk : k < 160) : ((0 ≤ (nI k - nI k / 16 * 16 + 0) ∧ (nI k - nI k / 16 * 16 + 0) ≤ 15) ∧ (0 ≤ (nI k / 16 + (-1)) ∧ (nI k / 16 + (-1)) ≤ 9) → (nI k - nI k / 16 * 16 + 0) + 16 * (nI k / 16 + (-1)) = oI (nbr k 0)) ∧ (¬ ((0 ≤ (nI k - nI k / 16 * 16 + 0) ∧ (nI k - nI k / 16 * 16 + 0) ≤ 15) ∧ (0 ≤ (nI k / 16 + (-1)) ∧ (nI k / 16 + (-1)) ≤ 9)) → -1 = oI (nbr k 0)) := bsX_00 ⟨k, hk⟩
theorem bsX_10 : ∀ j : Fin 160, (fun k : Nat => ((0 ≤ (nI k - nI k / 16 * 16 + (-1)) ∧ (nI k - nI k / 16 * 16 + (-1)) ≤ 15) ∧ (0 ≤ (nI k / 16 + 0) ∧ (nI k / 16 + 0) ≤ 9) → (nI k - nI k / 16 * 16 + (-1)) + 16 * (nI k / 16 + 0) = oI (nbr k 1)) ∧ (¬ ((0 ≤ (nI k - nI k / 16 * 16 + (-1)) ∧ (nI k - nI k / 16 * 16 + (-1)) ≤ 15) ∧ (0 ≤ (nI k / 16 + 0) ∧ (nI k / 16 + 0) ≤ 9)) → -1 = oI (nbr k 1))) j.val := by decide +kernel
theorem bsX_1 {k : Nat} (hk : k < 160) : ((0 ≤ (nI k - nI k / 16 * 16 + (-1)) ∧ (nI k - nI k / 16 * 16 + (-1)) ≤ 15) ∧ (0 ≤ (nI k / 16 + 0) ∧ (nI k / 16 + 0) ≤ 9) → (nI k - nI k / 16 * 16 + (-1)) + 16 * (nI k / 16 + 0) = oI (nbr k 1)) ∧ (¬ ((0 ≤ (nI k - nI k / 16 * 16 + (-1)) ∧ (nI k - nI k / 16 * 16 + (-1)) ≤ 15) ∧ (0 ≤ (nI k / 16 + 0) ∧ (nI k / 16 + 0) ≤ 9)) → -1 = oI (nbr k 1)) := bsX_10 ⟨k, hk⟩
theorem bsX_20 : ∀ j : Fin 160, (fun k : Nat => ((0 ≤ (nI k - nI k / 16 * 16 + 1) ∧ (nI k - nI k / 16 * 16 + 1) ≤ 15) ∧ (0 ≤ (nI k / 16 + 0) ∧ (nI k / 16 + 0) ≤ 9) → (nI k - nI k / 16 * 16 + 1) + 16 * (nI k / 16 + 0) = oI (nbr k 2)) ∧ (¬ ((0 ≤ (nI k - nI k / 16 * 16 + 1) ∧ (nI k - nI k / 16 * 16 + 1) ≤ 15) ∧ (0 ≤ (nI k / 16 + 0) ∧ (nI k / 16 + 0) ≤ 9)) → -1 = oI (nbr k 2))) j.val := by decide +kernel
theorem bsX_2 {k : Nat} (hk : k < 160) : ((0 ≤ (nI k - nI k / 16 * 16 + 1) ∧ (nI k - nI k / 16 * 16 + 1) ≤ 15) ∧ (0 ≤ (nI k / 16 + 0) ∧ (nI k / 16 + 0) ≤ 9) → (nI k - nI k / 16 * 16 + 1) + 16 * (nI k / 16 + 0) = oI (nbr k 2)) ∧ (¬ ((0 ≤ (nI k - nI k / 16 * 16 + 1) ∧ (nI k - nI k / 16 * 16 + 1) ≤ 15) ∧ (0 ≤ (nI k / 16 + 0) ∧ (nI k / 16 + 0) ≤ 9)) → -1 = oI (nbr k 2)) := bsX_20 ⟨k, hk⟩
theorem bsX_30 : ∀ j : Fin 160, (fun k : Nat => ((0 ≤ (nI k - nI k / 16 * 16 + 0) ∧ (nI k - nI k / 16 * 16 + 0) ≤ 15) ∧ (0 ≤ (nI k / 16 + 1) ∧ (nI k / 16 + 1) ≤ 9) → (nI k - nI k / 16 * 16 + 0) + 16 * (nI k / 16 + 1) = oI (nbr k 3)) ∧ (¬ ((0 ≤ (nI k - nI k / 16 * 16 + 0) ∧ (nI k - nI k / 16 * 16 + 0) ≤ 15) ∧ (0 ≤ (nI k / 16 + 1) ∧ (nI k / 16 + 1) ≤ 9)) → -1 = oI (nbr k 3))) j.val := by decide +kernel
theorem bsX_3 {k : Nat} (hk : k < 160) : ((0 ≤ (nI k - nI k / 16 * 16 + 0) ∧ (nI k - nI k / 16 * 16 + 0) ≤ 15) ∧ (0 ≤ (nI k / 16 + 1) ∧ (nI k / 16 + 1) ≤ 9) → (nI k - nI k / 16 * 16 + 0) + 16 * (nI k / 16 + 1) = oI (nbr k 3)) ∧ (¬ ((0 ≤ (nI k - nI k / 16 * 16 + 0) ∧ (nI k - nI k / 16 * 16 + 0) ≤ 15) ∧ (0 ≤ (nI k / 16 + 1) ∧ (nI k / 16 + 1) ≤ 9)) → -1 = oI (nbr k 3)) := bsX_30 ⟨k, hk⟩
/-! the reference: sums, weights, what it tells -/
theorem r60 {r : Int32} (hr : 1 ≤ r.toInt ∧ r.toInt ≤ 6) : ¬ 60 * r = 0 := by
  obtain ⟨j, hj, rfl⟩ := nI_mk (x := r) (n := 7) (by omega) (by omega) (by decide)
  rw [nI_toInt (by omega)] at hr
  rcases (show j = 1 ∨ j = 2 ∨ j = 3 ∨ j = 4 ∨ j = 5 ∨ j = 6 by omega) with rfl | rfl | rfl | rfl | rfl | rfl <;> decide
theorem sum_0z {F : Nat → Int32} {i : Nat} (h : F i = 0) : sumN F i + 0 = sumN F (i + 1) := by
  rw [Int32.add_zero]; exact sum_0 h
theorem sum_x {F : Nat → Int32} {i : Nat} {A q x : Int32} (hq : q = A + sumN F i) (h : F i = x) : q + x = A + sumN F (i + 1) := by
  show _ = A + (sumN F i + F i)
  rw [hq, h, Int32.add_assoc]
def ndC (C : Nat → Int32) (k : Nat) (nd : Int32) : Int32 := if C k = 0 then nd else 2 * nd
theorem ndC_1 {C : Nat → Int32} {k : Nat} {nd : Int32} (h : C k = 1) : nd * 2 = ndC C k nd := by
  unfold ndC
  rw [if_neg (by rw [h]; decide), Int32.mul_comm]
theorem ndC_0 {C : Nat → Int32} {k : Nat} {nd : Int32} (h01 : C k = 0 ∨ C k = 1) (h : ¬ C k = 1) : nd * 1 = ndC C k nd := by
  unfold ndC
  rw [if_pos (h01.resolve_right h), Int32.mul_one]
theorem tl_sunk {SF : Nat → Nat → Int32} {sc : Nat} (hsc : sc ≤ 5) : sumN (skF SF sc) 5 = sumN (skF SF sc) sc := sum_to hsc (fun j h1 h2 => if_neg (fun q => absurd q.1 (by omega)))
/-! the reference: frost; sinking, coming on -/
theorem thT_neg {f : Int32} {T : Nat → Int32} {j : Nat} : thT f T j < 0 ↔ T j < 0 := by
  unfold thT
  by_cases h : T j < 0
  · rw [if_pos h]
  · rw [if_neg h]
    split
    · rename_i h2
      rw [i_lt] at h2 h
      rw [i_lt, i_lt]
      omega
    · exact ⟨fun q => absurd q (by decide), fun q => absurd q h⟩
theorem thT_m {f : Int32} {T : Nat → Int32} {j : Nat} (h : ¬ T j < 0) : (if 0 < T j + 3 * f then T j + 3 * f else 0) = thT (-f) T j := by
  unfold thT
  rw [if_neg h, Int32.mul_neg, Int32.sub_neg]
theorem c1_iff {C : Nat → Int32} (hC : cOK C) (j : Nat) : bI (C j = 1) = C j := by
  rcases cOK01 hC j with h | h
  · rw [h]; decide
  · rw [h]; decide
theorem nI_nm1 {j : Nat} (h : j < 160) : ¬ nI j = -1 := by
  intro q
  have h2 : (nI j).toInt = -1 := by rw [q]; decide
  rw [nI_toInt (by omega)] at h2
  omega
theorem dT_p {f : Int32} {T : Nat → Int32} (h : 0 < f) : dT f T = fillU (fzT f T) T 160 := if_pos h
theorem dS_p {f : Int32} {T S : Nat → Int32} (h : 0 < f) : dS f T S = fillU (fzS T S) S 160 := if_pos h
theorem dC_p {f : Int32} {T S C : Nat → Int32} (h : 0 < f) : dC f T S C = C := if_pos h
theorem ng_p {f : Int32} (h : f < 0) : ¬ 0 < f := (fa_of_lt h).2.2.1
theorem dT_n {f : Int32} {T : Nat → Int32} (h : f < 0) : dT f T = fillU (thT (-f) T) T 160 := by unfold dT; rw [if_neg (ng_p h), if_pos h]
theorem dS_n {f : Int32} {T S : Nat → Int32} (h : f < 0) : dS f T S = S := if_neg (ng_p h)
theorem dC_n {f : Int32} {T S C : Nat → Int32} (h : f < 0) : dC f T S C = fillU (spC (dT f T) S C) C 160 := by unfold dC; rw [if_neg (ng_p h), if_pos h]
theorem dT_z {T : Nat → Int32} : dT 0 T = T := by unfold dT; rw [if_neg (by decide), if_neg (by decide)]
theorem dS_z {T S : Nat → Int32} : dS 0 T S = S := if_neg (by decide)
theorem dC_z {T S C : Nat → Int32} : dC 0 T S C = C := by unfold dC; rw [if_neg (by decide), if_neg (by decide)]
theorem dT_neg {f : Int32} {T : Nat → Int32} (h : f < 0) {j : Nat} (hj : j < 160) : dT f T j < 0 ↔ T j < 0 := by rw [dT_n h, fillU_in hj]; exact thT_neg
/-! bags of a sleigh: lost, put down; what that does to weights; the reference sinks and comes on -/
theorem ifc {α : Type} {P Q : Prop} [Decidable P] [Decidable Q] {x y : α} (h : P ↔ Q) : (if P then x else y) = if Q then x else y := by
  by_cases hp : P
  · rw [if_pos hp, if_pos (h.mp hp)]
  · rw [if_neg hp, if_neg (fun q => hp (h.mpr q))]
theorem lsB_at {BF : Nat → Nat → Int32} {bc : Nat} {s : Int32} (b k : Nat) : ∀ n, lsB BF bc s n b k = if b < n ∧ b < bc ∧ BF b 2 = 1 ∧ BF b 3 = s then (if k = 3 then -1 else if k = 2 then 3 else BF b k) else BF b k
  | 0 => (if_neg (fun h => absurd h.1 (Nat.not_lt_zero _))).symm
  | n + 1 => by
    have e : ∀ k, lsB BF bc s n n k = BF n k := fun k => by
      rw [lsB_at n k n, if_neg (fun h => absurd h.1 (Nat.lt_irrefl _))]
    unfold lsB
    rw [e 2, e 3]
    by_cases h : n < bc ∧ BF n 2 = 1 ∧ BF n 3 = s
    · rw [if_pos h]
      by_cases hb : b = n
      · subst hb
        rw [if_pos ⟨Nat.lt_succ_self _, h⟩]
        by_cases h3 : k = 3
        · subst h3; rw [upS_s, if_pos rfl]
        · rw [if_neg h3, upS_n _ _ (fun q => h3 q.2)]
          by_cases h2 : k = 2
          · subst h2; rw [upS_s, if_pos rfl]
          · rw [if_neg h2, upS_n _ _ (fun q => h2 q.2), e]
      · rw [upS_n _ _ (fun q => hb q.1), upS_n _ _ (fun q => hb q.1), lsB_at b k n]
        exact ifc ⟨fun q => ⟨by omega, q.2⟩, fun q => ⟨by omega, q.2⟩⟩
    · rw [if_neg h, lsB_at b k n]
      refine ifc ⟨fun q => ⟨by omega, q.2⟩, fun q => ⟨?_, q.2⟩⟩
      have hb : ¬ b = n := fun e9 => h (by rw [← e9]; exact q.2)
      have := q.1
      omega
theorem lsB_to {BF : Nat → Nat → Int32} {bc n m : Nat} {s : Int32} (h : bc ≤ n) (hm : n ≤ m) : lsB BF bc s m = lsB BF bc s n := by
  funext b k
  rw [lsB_at, lsB_at]
  exact ifc ⟨fun q => ⟨by omega, q.2⟩, fun q => ⟨by omega, q.2⟩⟩
theorem upS_swap {B : Nat → Nat → Int32} {i j k l : Nat} {x y : Int32} (h : ¬ (i = j ∧ k = l)) : upS (upS B i k x) j l y = upS (upS B j l y) i k x := by
  funext a b
  unfold upS
  by_cases h1 : a = j ∧ b = l
  · rw [if_pos h1, if_neg (fun q => h ⟨q.1.symm.trans h1.1, q.2.symm.trans h1.2⟩), if_pos h1]
  · rw [if_neg h1]
    by_cases h2 : a = i ∧ b = k
    · rw [if_pos h2, if_pos h2]
    · rw [if_neg h2, if_neg h2, if_neg h1]
theorem pd_here {B : Nat → Nat → Int32} {i : Nat} {q h : Int32} (e : B i 1 = q) : upS (upS (upS B i 2 2) i 3 q) i 4 h = pdB B i q h := by
  unfold pdB
  rw [if_pos e.symm, upS_swap (show ¬ (i = i ∧ 2 = 3) by omega)]
theorem pd_there {B : Nat → Nat → Int32} {i : Nat} {q h : Int32} (e : ¬ B i 1 = q) : upS (upS B i 2 0) i 3 q = pdB B i q h := by
  unfold pdB
  rw [if_neg (fun x => e x.symm), upS_swap (show ¬ (i = i ∧ 2 = 3) by omega)]
theorem pdB_at {B : Nat → Nat → Int32} {i : Nat} {q h : Int32} (b k : Nat) : pdB B i q h b k = if b = i then (if k = 3 then q else if k = 2 then (if q = B i 1 then 2 else 0) else if k = 4 ∧ q = B i 1 then h else B i k) else B b k := by
  unfold pdB
  by_cases hq : q = B i 1
  · rw [if_pos hq]
    by_cases hb : b = i
    · subst hb
      rw [if_pos rfl]
      by_cases h3 : k = 3
      · subst h3; rw [if_pos rfl, upS_n _ _ (by omega), upS_n _ _ (by omega), upS_s]
      · rw [if_neg h3]
        by_cases h2 : k = 2
        · subst h2; rw [if_pos rfl, if_pos hq, upS_n _ _ (by omega), upS_s]
        · rw [if_neg h2]
          by_cases h4 : k = 4
          · subst h4; rw [if_pos ⟨rfl, hq⟩, upS_s]
          · rw [if_neg (fun x => h4 x.1), upS_n _ _ (fun x => h4 x.2), upS_n _ _ (fun x => h2 x.2), upS_n _ _ (fun x => h3 x.2)]
    · rw [if_neg hb, upS_n _ _ (fun x => hb x.1), upS_n _ _ (fun x => hb x.1), upS_n _ _ (fun x => hb x.1)]
  · rw [if_neg hq]
    by_cases hb : b = i
    · subst hb
      rw [if_pos rfl]
      by_cases h3 : k = 3
      · subst h3; rw [if_pos rfl, upS_n _ _ (by omega), upS_s]
      · rw [if_neg h3]
        by_cases h2 : k = 2
        · subst h2; rw [if_pos rfl, if_neg hq, upS_s]
        · rw [if_neg h2, if_neg (fun x => hq x.2), upS_n _ _ (fun x => h2 x.2), upS_n _ _ (fun x => h3 x.2)]
    · rw [if_neg hb, upS_n _ _ (fun x => hb x.1), upS_n _ _ (fun x => hb x.1)]
theorem pdB_2 {B : Nat → Nat → Int32} {i : Nat} {q h : Int32} : ¬ pdB B i q h i 2 = 1 := by
  rw [pdB_at]
  by_cases hq : q = B i 1
  · simp [hq]
  · simp [hq]
theorem ulB_at {BF : Nat → Nat → Int32} {bc : Nat} {s q h : Int32} (b k : Nat) : ∀ n, (ulB BF bc s q h n).1 b k = if b < n ∧ b < bc ∧ BF b 2 = 1 ∧ BF b 3 = s then pdB BF b q h b k else BF b k
  | 0 => (if_neg (fun h => absurd h.1 (Nat.not_lt_zero _))).symm
  | n + 1 => by
    have e : ∀ k, (ulB BF bc s q h n).1 n k = BF n k := fun k => by
      rw [ulB_at n k n, if_neg (fun h => absurd h.1 (Nat.lt_irrefl _))]
    unfold ulB
    rw [e 2, e 3]
    by_cases h0 : n < bc ∧ BF n 2 = 1 ∧ BF n 3 = s
    · rw [if_pos h0]
      show pdB (ulB BF bc s q h n).1 n q h b k = _
      by_cases hb : b = n
      · subst hb
        rw [if_pos ⟨Nat.lt_succ_self _, h0⟩, pdB_at, pdB_at, e 1, e k]
      · rw [pdB_at, if_neg hb, ulB_at b k n]
        exact ifc ⟨fun q => ⟨by omega, q.2⟩, fun q => ⟨by omega, q.2⟩⟩
    · rw [if_neg h0, ulB_at b k n]
      refine ifc ⟨fun q => ⟨by omega, q.2⟩, fun q => ⟨?_, q.2⟩⟩
      have hb : ¬ b = n := fun e9 => h0 (by rw [← e9]; exact q.2)
      have := q.1
      omega
theorem ulB_to {BF : Nat → Nat → Int32} {bc : Nat} {s q h : Int32} {n : Nat} (hn : bc ≤ n) : ∀ k, ulB BF bc s q h (n + k) = ulB BF bc s q h n
  | 0 => rfl
  | k + 1 => by
    have e : ulB BF bc s q h (n + k + 1) = ulB BF bc s q h (n + k) := if_neg (fun x => absurd x.1 (by omega))
    exact e.trans (ulB_to hn k)
/-- each sleigh's mail is what its bags weigh -/
def hWI (SF BF : Nat → Nat → Int32) (bc : Nat) : Prop := ∀ i, i < 5 → SF i 1 = sumN (wgF BF bc (nI i)) 40
theorem sum_cong {F E : Nat → Int32} : ∀ n, (∀ i, i < n → F i = E i) → sumN F n = sumN E n
  | 0, _ => rfl
  | n + 1, h => by
    show sumN F n + F n = sumN E n + E n
    rw [sum_cong n (fun i hi => h i (by omega)), h n (by omega)]
theorem sum_zero {F : Nat → Int32} : ∀ n, (∀ i, i < n → F i = 0) → sumN F n = 0
  | 0, _ => rfl
  | n + 1, h => by
    show sumN F n + F n = 0
    rw [sum_zero n (fun i hi => h i (by omega)), h n (by omega)]; rfl
theorem hWI.sk {SF BF : Nat → Nat → Int32} {bc n : Nat} (h : hWI SF BF bc) (hn : n < 5) (hbc : bc ≤ 40) : hWI (skS SF n) (lsB BF bc (nI n) 40) bc := by
  intro i hi
  by_cases e : i = n
  · subst e
    have e1 : skS SF i i 1 = 0 := by unfold skS; rw [upS_n _ _ (by omega), upS_n _ _ (by omega), upS_n _ _ (by omega), upS_s]
    rw [e1, sum_zero 40 (fun b hb => ?_)]
    unfold wgF
    rw [lsB_at, lsB_at]
    by_cases h4 : b < 40 ∧ b < bc ∧ BF b 2 = 1 ∧ BF b 3 = nI i
    · rw [if_pos h4, if_neg (fun q => absurd q.2.1 (show ¬ (3 : Int32) = 1 by decide))]
    · rw [if_neg h4, if_neg (fun q => h4 ⟨hb, q.1, q.2.1, by have h3 := q.2.2; rwa [if_neg h4] at h3⟩)]
  · have e1 : skS SF n i 1 = SF i 1 := by unfold skS; rw [upS_n _ _ (by omega), upS_n _ _ (by omega), upS_n _ _ (by omega), upS_n _ _ (by omega), upS_n _ _ (by omega)]
    rw [e1, h i hi]
    refine sum_cong 40 (fun b hb => ?_)
    have hne : ¬ nI n = nI i := fun q => e ((nI_eq (by omega) (by omega)).mp q).symm
    unfold wgF
    rw [lsB_at, lsB_at, lsB_at]
    by_cases h4 : b < 40 ∧ b < bc ∧ BF b 2 = 1 ∧ BF b 3 = nI n
    · rw [if_pos h4, if_pos h4, if_pos h4, if_neg (fun q => hne (h4.2.2.2.symm.trans q.2.2)), if_neg (fun q => absurd q.2.1 (show ¬ (3 : Int32) = 1 by decide))]
    · rw [if_neg h4, if_neg h4, if_neg h4]
theorem hWI.up {SF BF : Nat → Nat → Int32} {bc i k : Nat} {v : Int32} (h : hWI SF BF bc) (hk : ¬ k = 1) : hWI (upS SF i k v) BF bc := by
  intro j hj
  rw [upS_n _ _ (fun q => hk q.2.symm)]
  exact h j hj
theorem hWI.ul {SF BF : Nat → Nat → Int32} {bc n : Nat} {q hx : Int32} (h : hWI SF BF bc) (hn : n < 5) (hbc : bc ≤ 40) : hWI (upS SF n 1 0) (ulB BF bc (nI n) q hx 40).1 bc := by
  intro i hi
  by_cases e : i = n
  · subst e
    rw [upS_s, sum_zero 40 (fun b hb => ?_)]
    unfold wgF
    rw [ulB_at, ulB_at]
    by_cases h4 : b < 40 ∧ b < bc ∧ BF b 2 = 1 ∧ BF b 3 = nI i
    · rw [if_pos h4, if_neg (fun x => pdB_2 x.2.1)]
    · rw [if_neg h4, if_neg (fun q => h4 ⟨hb, q.1, q.2.1, by have h3 := q.2.2; rwa [if_neg h4] at h3⟩)]
  · rw [upS_n _ _ (fun q => e q.1), h i hi]
    refine sum_cong 40 (fun b hb => ?_)
    have hne : ¬ nI n = nI i := fun q => e ((nI_eq (by omega) (by omega)).mp q).symm
    unfold wgF
    rw [ulB_at, ulB_at, ulB_at]
    by_cases h4 : b < 40 ∧ b < bc ∧ BF b 2 = 1 ∧ BF b 3 = nI n
    · rw [if_pos h4, if_pos h4, if_pos h4, if_neg (fun q => hne (h4.2.2.2.symm.trans q.2.2)), if_neg (fun x => pdB_2 x.2.1)]
    · rw [if_neg h4, if_neg h4, if_neg h4]
theorem hWI.co {SF BF : Nat → Nat → Int32} {bc n : Nat} (h : hWI SF BF bc) : hWI (coS SF n) BF bc := by
  unfold coS
  split
  · exact h.up (by decide)
  · exact (((h.up (by decide)).up (by decide)).up (by decide)).up (by decide)
/-- the table of a sleigh that sinks, that comes on -/
theorem tbl_sk {SF : Nat → Nat → Int32} {MX : Nat → Int32} {s : Nat} : tblM (upS (upS (upS SF s 3 2) s 5 (-1)) s 7 0) MX = tblM (skS SF s) MX := by
  refine tblM_cong (fun i k hk => ?_)
  unfold skS upS
  rcases hk with rfl | rfl | rfl | rfl | rfl | rfl <;> simp
theorem tbl_co1 {SF : Nat → Nat → Int32} {MX : Nat → Int32} {s : Nat} (h : 0 < SF s 7 - 1) : upS SF s 7 (SF s 7 - 1) = coS SF s := by
  unfold coS
  rw [if_pos h]
theorem tbl_co2 {SF : Nat → Nat → Int32} {MX : Nat → Int32} {s : Nat} (h : ¬ 0 < SF s 7 - 1) (hX : MX s = SF s 6) : tblM (upS (upS (upS SF s 7 (SF s 7 - 1)) s 4 (MX s)) s 2 (if SF s 2 + 1 < 100 then SF s 2 + 1 else 100)) MX = tblM (coS SF s) MX := by
  unfold coS
  rw [if_neg h, hX]
  refine tblM_cong (fun i k hk => ?_)
  unfold upS
  rcases hk with rfl | rfl | rfl | rfl | rfl | rfl <;> simp
theorem tbl_co3 {SF : Nat → Nat → Int32} {MX : Nat → Int32} {s : Nat} (h : ¬ 0 < SF s 7 - 1) (hX : MX s = SF s 6) : tblM (upS (upS (upS (upS SF s 7 (SF s 7 - 1)) s 4 (MX s)) s 2 (if SF s 2 + 1 < 100 then SF s 2 + 1 else 100)) s 3 0) MX = tblM (rsS (coS SF s) s) MX := by
  unfold coS rsS
  rw [if_neg h, hX]
  refine tblM_cong (fun i k hk => ?_)
  unfold upS
  rcases hk with rfl | rfl | rfl | rfl | rfl | rfl <;> simp
theorem cw_4 {SF : Nat → Nat → Int32} {s : Nat} (h : ¬ 0 < SF s 7 - 1) : coS SF s s 4 = SF s 6 := by
  unfold coS
  rw [if_neg h, upS_n _ _ (by omega), upS_n _ _ (by omega), upS_s]
theorem cw_5 {SF : Nat → Nat → Int32} {s : Nat} : coS SF s s 5 = SF s 5 := by
  unfold coS
  split
  · rw [upS_n _ _ (by omega)]
  · rw [upS_n _ _ (by omega), upS_n _ _ (by omega), upS_n _ _ (by omega), upS_n _ _ (by omega)]
theorem rs_5 {SF : Nat → Nat → Int32} {s : Nat} : rsS (coS SF s) s s 5 = SF s 5 := by
  unfold rsS
  rw [upS_n _ _ (by omega), upS_n _ _ (by omega), cw_5]
