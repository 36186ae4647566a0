/-! the reference: its state, its small methods -/
/-- the reference's columns of a sleigh in the class's own -/
def colm : Nat → Nat
  | 0 => 0
  | 1 => 2
  | 2 => 3
  | 3 => 4
  | 4 => 5
  | 5 => 6
  | _ => 7
def tblM (SF : Nat → Nat → Int32) (MX : Nat → Int32) : Nat → Int32 := fun j => if j % 7 = 5 then MX (j / 7) else SF (j / 7) (colm (j % 7))
def malM (BF : Nat → Nat → Int32) : Nat → Int32 := fun j => BF (j / 5) (j % 5)
abbrev ModelM (z : Nat → Nat) (th : Int32) (N O PC : Nat → Int32) (ps sc bc : Nat) (T S C : Nat → Int32) (SF : Nat → Nat → Int32) (MX : Nat → Int32) (BF : Nat → Nat → Int32) (hh : Nat) (H W : Nat → Int32) : List ME := [eO 6 (z 0) [.int th, .ref (z 1), .ref (z 2), .int (nI ps), .ref (z 3), .int (nI sc), .int (nI bc), .ref (z 4), .ref (z 5), .ref (z 6), .ref (z 7), .ref (z 8), .ref (z 9), .ref (z 10), .ref (z 11)], eI (z 1) 160 N, eI (z 2) 8 O, eI (z 3) 8 PC, eI (z 4) 160 T, eI (z 5) 160 S, eI (z 6) 160 C, eI (z 7) 35 (tblM SF MX), eI (z 8) 200 (malM BF), eI (z 9) 1 (fun _ => nI hh), eI (z 10) 160 H, eZ (z 11) 160 W]
theorem dm7 {i k : Nat} (hk : k < 7) : (7 * i + k) / 7 = i ∧ (7 * i + k) % 7 = k := by omega
theorem dm5 {i k : Nat} (hk : k < 5) : (5 * i + k) / 5 = i ∧ (5 * i + k) % 5 = k := by omega
theorem tblM_get {SF : Nat → Nat → Int32} {MX : Nat → Int32} {i k : Nat} (hk : k < 7) : tblM SF MX (7 * i + k) = if k = 5 then MX i else SF i (colm k) := by
  unfold tblM
  rw [(dm7 hk).1, (dm7 hk).2]
theorem malM_get {BF : Nat → Nat → Int32} {i k : Nat} (hk : k < 5) : malM BF (5 * i + k) = BF i k := by
  unfold malM
  rw [(dm5 hk).1, (dm5 hk).2]
theorem colm_inj {a b : Nat} (ha : a < 7) (hb : b < 7) (h : colm a = colm b) : a = b := by
  rcases (show a = 0 ∨ a = 1 ∨ a = 2 ∨ a = 3 ∨ a = 4 ∨ a = 5 ∨ a = 6 by omega) with rfl | rfl | rfl | rfl | rfl | rfl | rfl <;> rcases (show b = 0 ∨ b = 1 ∨ b = 2 ∨ b = 3 ∨ b = 4 ∨ b = 5 ∨ b = 6 by omega) with rfl | rfl | rfl | rfl | rfl | rfl | rfl <;> first | rfl | (exact absurd h (by decide))
theorem tblM_set {SF : Nat → Nat → Int32} {MX : Nat → Int32} {i k : Nat} {v : Int32} (hk : k < 7) (h5 : ¬ k = 5) : upd (tblM SF MX) (7 * i + k) v = tblM (upS SF i (colm k) v) MX := by
  funext j
  unfold upd tblM
  by_cases hj : j = 7 * i + k
  · subst hj
    rw [if_pos rfl, (dm7 hk).1, (dm7 hk).2, if_neg h5, upS_s]
  · rw [if_neg hj]
    by_cases h : j % 7 = 5
    · rw [if_pos h, if_pos h]
    · rw [if_neg h, if_neg h, upS_n]
      intro q
      have hc := colm_inj (Nat.mod_lt j (by decide)) hk q.2
      have := q.1
      omega
theorem tblM_setX {SF : Nat → Nat → Int32} {MX : Nat → Int32} {i : Nat} {v : Int32} : upd (tblM SF MX) (7 * i + 5) v = tblM SF (upd MX i v) := by
  funext j
  unfold upd tblM
  by_cases hj : j = 7 * i + 5
  · subst hj
    rw [if_pos rfl, (dm7 (by decide)).1, (dm7 (by decide)).2, if_pos rfl]
    exact (if_pos rfl).symm
  · rw [if_neg hj]
    by_cases h : j % 7 = 5
    · rw [if_pos h, if_pos h]
      exact (if_neg (by omega)).symm
    · rw [if_neg h, if_neg h]
theorem malM_set {BF : Nat → Nat → Int32} {i k : Nat} {v : Int32} (hk : k < 5) : upd (malM BF) (5 * i + k) v = malM (upS BF i k v) := by
  funext j
  unfold upd malM upS
  by_cases hj : j = 5 * i + k
  · subst hj
    rw [if_pos rfl, (dm5 hk).1, (dm5 hk).2, if_pos ⟨rfl, rfl⟩]
  · rw [if_neg hj, if_neg]
    intro q
    have := q.1
    have := q.2
    omega
/-- columns that the reference doesn't keep -/
theorem tblM_cong {SF SG : Nat → Nat → Int32} {MX : Nat → Int32} (h : ∀ i k, k = 0 ∨ k = 2 ∨ k = 3 ∨ k = 4 ∨ k = 5 ∨ k = 7 → SF i k = SG i k) : tblM SF MX = tblM SG MX := by
  funext j
  unfold tblM
  by_cases h5 : j % 7 = 5
  · rw [if_pos h5, if_pos h5]
  · rw [if_neg h5, if_neg h5]
    refine h _ _ ?_
    have := Nat.mod_lt j (show 0 < 7 by decide)
    rcases (show j % 7 = 0 ∨ j % 7 = 1 ∨ j % 7 = 2 ∨ j % 7 = 3 ∨ j % 7 = 4 ∨ j % 7 = 6 by omega) with e | e | e | e | e | e <;> rw [e] <;> decide
theorem sum_stop {F : Nat → Int32} {n : Nat} : ∀ k, (∀ i, n ≤ i → i < n + k → F i = 0) → sumN F (n + k) = sumN F n
  | 0, _ => rfl
  | k + 1, h => by
    show sumN F (n + k) + F (n + k) = _
    rw [sum_stop k (fun i h1 h2 => h i h1 (by omega)), h (n + k) (by omega) (by omega), Int32.add_zero]
theorem sum_to {F : Nat → Int32} {n m : Nat} (hnm : n ≤ m) (h : ∀ i, n ≤ i → i < m → F i = 0) : sumN F m = sumN F n := by
  have := sum_stop (F := F) (n := n) (m - n) (fun i h1 h2 => h i h1 (by omega))
  rwa [show n + (m - n) = m by omega] at this
theorem pOn_stop {PC : Nat → Int32} {ps : Nat} {c : Int32} : ∀ m i, ps ≤ i → pOn PC ps c m i = none
  | 0, _, _ => rfl
  | m + 1, i, h => by
    unfold pOn
    rw [if_neg (fun q => absurd q.1 (by omega)), pOn_stop m (i + 1) (by omega)]
def wgF (BF : Nat → Nat → Int32) (bc : Nat) (s : Int32) (i : Nat) : Int32 := if i < bc ∧ BF i 2 = 1 ∧ BF i 3 = s then BF i 0 else 0
def tOK (T : Nat → Int32) : Prop := ∀ k, k < 160 → -1 ≤ T k ∧ T k ≤ 200
def lOK (T C : Nat → Int32) : Prop := ∀ k, k < 160 → T k < 0 → C k = 0
theorem and1 (x : Int32) : x &&& 1 = 0 ∨ x &&& 1 = 1 := by
  have h1 : (x &&& 1).toBitVec.toNat = x.toBitVec.toNat % 2 := by
    have h2 : (x &&& 1).toBitVec = x.toBitVec &&& 1#32 := rfl
    rw [h2, BitVec.toNat_and]
    show x.toBitVec.toNat &&& (2 ^ 1 - 1) = _
    rw [Nat.and_two_pow_sub_one_eq_mod]
  have h3 : (x &&& 1).toInt = ((x.toBitVec.toNat % 2 : Nat) : Int) := by
    show (x &&& 1).toBitVec.toInt = _
    rw [BitVec.toInt_eq_toNat_of_lt (by rw [h1]; omega), h1]
  rcases (show x.toBitVec.toNat % 2 = 0 ∨ x.toBitVec.toNat % 2 = 1 by omega) with e | e
  · exact Or.inl (Int32.toInt_inj.mp (by rw [h3, e]; decide))
  · exact Or.inr (Int32.toInt_inj.mp (by rw [h3, e]; decide))
theorem cOK01 {C : Nat → Int32} (h : cOK C) (j : Nat) : C j = 0 ∨ C j = 1 := by
  have h1 := h j
  have h2 : vp_nar .boolean (C j) = C j &&& 1 := rfl
  rw [h2] at h1
  rw [← h1]
  exact and1 _
theorem tOK_l {T : Nat → Int32} (h : tOK T) {k : Nat} (hk : k < 160) : T k = -1 ↔ T k < 0 := by
  have h1 := (h k hk).1
  rw [i_le, i_m1] at h1
  rw [i_eq, i_lt, i_m1, i_0]
  omega
theorem bI_iff {P Q : Prop} [Decidable P] [Decidable Q] (h : P ↔ Q) : bI P = bI Q := by
  unfold bI
  by_cases hp : P
  · rw [if_pos hp, if_pos (h.mp hp)]
  · rw [if_neg hp, if_neg (fun q => hp (h.mpr q))]
theorem isp_iff {q : Int32} {n : Nat} (hn : n < 2 ^ 30) : (0 ≤ q ∧ q ≤ nI n - 1) ↔ (0 ≤ q ∧ q < nI n) := by
  have e : (nI n - 1).toInt = (n : Int) - 1 := by
    have := pk_sub_toInt (a := n) (b := 1) hn (by decide)
    exact this
  rw [i_le, i_le, i_lt, e, nI_toInt (by omega)]
  omega
set_option maxRecDepth 100000 in
set_option maxHeartbeats 4000000 in
theorem c_X6_isIn {G : Cx} {x a b : Int32} : Mt G Y_X6_isIn 0 0 0 [.int x, .int a, .int b] [] (fun v M' => v = some (.int (bI (a ≤ x ∧ x ≤ b))) ∧ M' = []) (noX) := by
  refine Mt.of (L := [some (.int x), some (.int a), some (.int b)]) rfl (by decide) (by simp [lg_sl, Value.category]) ⟨rfl, rfl, rfl, trivial⟩ (fun sz => ?_)
  refine v_iload_n (pc := 0) dX6_isIn_0 rfl rfl ?_
  refine v_iload_n (pc := 1) dX6_isIn_1 rfl rfl ?_
  refine v_icmp_lt (pc := 2) (tgt := 14) dX6_isIn_2 (by decide) (fun c2 => ?_) (fun c2 => ?_)
  · refine v_iconst (pc := 14) (v := 0) dX6_isIn_14 rfl ?_
    refine v_iret (pc := 15) rfl rfl (Nat.le_of_ble_eq_true rfl) dX6_isIn_15 ?_
    exact ⟨by first | (rw [bI_t]; simp only [i_lt, i_le, i_eq, i_m1, i_m9, i_0, i_1, i_2, i_3, i_4, i_5, i_6, i_7, i_8, i_9, i_10, i_12, i_15, i_16, i_24, i_30, i_40, i_50, i_60, i_64, i_100, i_160, i_199, i_200, i_300, i_601, i_1024, i_2000, i_1000000] at *; omega) | (rw [bI_f]; simp only [i_lt, i_le, i_eq, i_m1, i_m9, i_0, i_1, i_2, i_3, i_4, i_5, i_6, i_7, i_8, i_9, i_10, i_12, i_15, i_16, i_24, i_30, i_40, i_50, i_60, i_64, i_100, i_160, i_199, i_200, i_300, i_601, i_1024, i_2000, i_1000000] at *; omega), rfl⟩
  · refine v_iload_n (pc := 5) dX6_isIn_5 rfl rfl ?_
    refine v_iload_n (pc := 6) dX6_isIn_6 rfl rfl ?_
    refine v_icmp_gt (pc := 7) (tgt := 14) dX6_isIn_7 (by decide) (fun c7 => ?_) (fun c7 => ?_)
    · refine v_iconst (pc := 14) (v := 0) dX6_isIn_14 rfl ?_
      refine v_iret (pc := 15) rfl rfl (Nat.le_of_ble_eq_true rfl) dX6_isIn_15 ?_
      exact ⟨by first | (rw [bI_t]; simp only [i_lt, i_le, i_eq, i_m1, i_m9, i_0, i_1, i_2, i_3, i_4, i_5, i_6, i_7, i_8, i_9, i_10, i_12, i_15, i_16, i_24, i_30, i_40, i_50, i_60, i_64, i_100, i_160, i_199, i_200, i_300, i_601, i_1024, i_2000, i_1000000] at *; omega) | (rw [bI_f]; simp only [i_lt, i_le, i_eq, i_m1, i_m9, i_0, i_1, i_2, i_3, i_4, i_5, i_6, i_7, i_8, i_9, i_10, i_12, i_15, i_16, i_24, i_30, i_40, i_50, i_60, i_64, i_100, i_160, i_199, i_200, i_300, i_601, i_1024, i_2000, i_1000000] at *; omega), rfl⟩
    · refine v_iconst (pc := 10) (v := 1) dX6_isIn_10 rfl ?_
      refine v_goto (pc := 11) (tgt := 15) dX6_isIn_11 (by decide) ?_
      refine v_iret (pc := 15) rfl rfl (Nat.le_of_ble_eq_true rfl) dX6_isIn_15 ?_
      exact ⟨by first | (rw [bI_t]; simp only [i_lt, i_le, i_eq, i_m1, i_m9, i_0, i_1, i_2, i_3, i_4, i_5, i_6, i_7, i_8, i_9, i_10, i_12, i_15, i_16, i_24, i_30, i_40, i_50, i_60, i_64, i_100, i_160, i_199, i_200, i_300, i_601, i_1024, i_2000, i_1000000] at *; omega) | (rw [bI_f]; simp only [i_lt, i_le, i_eq, i_m1, i_m9, i_0, i_1, i_2, i_3, i_4, i_5, i_6, i_7, i_8, i_9, i_10, i_12, i_15, i_16, i_24, i_30, i_40, i_50, i_60, i_64, i_100, i_160, i_199, i_200, i_300, i_601, i_1024, i_2000, i_1000000] at *; omega), rfl⟩
set_option maxRecDepth 100000 in
set_option maxHeartbeats 4000000 in
theorem c_X6_isCell {G : Cx} {x y : Int32} : Mt G Y_X6_isCell 1 0 0 [.int x, .int y] [] (fun v M' => v = some (.int (bI ((0 ≤ x ∧ x ≤ 15) ∧ (0 ≤ y ∧ y ≤ 9)))) ∧ M' = []) (noX) := by
  refine Mt.of (L := [some (.int x), some (.int y)]) rfl (by decide) (by simp [lg_sl, Value.category]) ⟨rfl, rfl, trivial⟩ (fun sz => ?_)
  refine v_iload_n (pc := 0) dX6_isCell_0 rfl rfl ?_
  refine v_iconst (pc := 1) (v := 0) dX6_isCell_1 rfl ?_
  refine v_bipush (pc := 2) (v := 15) dX6_isCell_2 rfl ?_
  refine v_callS3 (pc := 4) (c_X6_isIn ) cm_X6_isIn q859 q860 [] (by rfl) (by decide) (fun _ _ h => h) (by decide) (by decide) (by decide) (Nat.le_of_ble_eq_true rfl) dX6_isCell_4 (fun v4 M4 hQ4 => ?_)
  obtain ⟨rfl, rfl⟩ := hQ4
  try dsimp only [wb, ModelM, List.set_cons_succ, List.set_cons_zero, List.append_nil, List.nil_append, List.cons_append, Option.toList, Nat.sub_zero]
  refine v_if_eq (pc := 7) (tgt := 24) dX6_isCell_7 (by decide) (fun c7 => ?_) (fun c7 => ?_)
  · have c7 := bI_0.mp c7
    refine v_iconst (pc := 24) (v := 0) dX6_isCell_24 rfl ?_
    refine v_iret (pc := 25) rfl rfl (Nat.le_of_ble_eq_true rfl) dX6_isCell_25 ?_
    exact ⟨by first | (rw [bI_t]; simp only [i_lt, i_le, i_eq, i_m1, i_m9, i_0, i_1, i_2, i_3, i_4, i_5, i_6, i_7, i_8, i_9, i_10, i_12, i_15, i_16, i_24, i_30, i_40, i_50, i_60, i_64, i_100, i_160, i_199, i_200, i_300, i_601, i_1024, i_2000, i_1000000] at *; omega) | (rw [bI_f]; simp only [i_lt, i_le, i_eq, i_m1, i_m9, i_0, i_1, i_2, i_3, i_4, i_5, i_6, i_7, i_8, i_9, i_10, i_12, i_15, i_16, i_24, i_30, i_40, i_50, i_60, i_64, i_100, i_160, i_199, i_200, i_300, i_601, i_1024, i_2000, i_1000000] at *; omega), rfl⟩
  · have c7 := bI_n.mp c7
    refine v_iload_n (pc := 10) dX6_isCell_10 rfl rfl ?_
    refine v_iconst (pc := 11) (v := 0) dX6_isCell_11 rfl ?_
    refine v_bipush (pc := 12) (v := 9) dX6_isCell_12 rfl ?_
    refine v_callS3 (pc := 14) (c_X6_isIn ) cm_X6_isIn q859 q860 [] (by rfl) (by decide) (fun _ _ h => h) (by decide) (by decide) (by decide) (Nat.le_of_ble_eq_true rfl) dX6_isCell_14 (fun v14 M14 hQ14 => ?_)
    obtain ⟨rfl, rfl⟩ := hQ14
    try dsimp only [wb, ModelM, List.set_cons_succ, List.set_cons_zero, List.append_nil, List.nil_append, List.cons_append, Option.toList, Nat.sub_zero]
    refine v_if_eq (pc := 17) (tgt := 24) dX6_isCell_17 (by decide) (fun c17 => ?_) (fun c17 => ?_)
    · have c17 := bI_0.mp c17
      refine v_iconst (pc := 24) (v := 0) dX6_isCell_24 rfl ?_
      refine v_iret (pc := 25) rfl rfl (Nat.le_of_ble_eq_true rfl) dX6_isCell_25 ?_
      exact ⟨by first | (rw [bI_t]; simp only [i_lt, i_le, i_eq, i_m1, i_m9, i_0, i_1, i_2, i_3, i_4, i_5, i_6, i_7, i_8, i_9, i_10, i_12, i_15, i_16, i_24, i_30, i_40, i_50, i_60, i_64, i_100, i_160, i_199, i_200, i_300, i_601, i_1024, i_2000, i_1000000] at *; omega) | (rw [bI_f]; simp only [i_lt, i_le, i_eq, i_m1, i_m9, i_0, i_1, i_2, i_3, i_4, i_5, i_6, i_7, i_8, i_9, i_10, i_12, i_15, i_16, i_24, i_30, i_40, i_50, i_60, i_64, i_100, i_160, i_199, i_200, i_300, i_601, i_1024, i_2000, i_1000000] at *; omega), rfl⟩
    · have c17 := bI_n.mp c17
      refine v_iconst (pc := 20) (v := 1) dX6_isCell_20 rfl ?_
      refine v_goto (pc := 21) (tgt := 25) dX6_isCell_21 (by decide) ?_
      refine v_iret (pc := 25) rfl rfl (Nat.le_of_ble_eq_true rfl) dX6_isCell_25 ?_
      exact ⟨by first | (rw [bI_t]; simp only [i_lt, i_le, i_eq, i_m1, i_m9, i_0, i_1, i_2, i_3, i_4, i_5, i_6, i_7, i_8, i_9, i_10, i_12, i_15, i_16, i_24, i_30, i_40, i_50, i_60, i_64, i_100, i_160, i_199, i_200, i_300, i_601, i_1024, i_2000, i_1000000] at *; omega) | (rw [bI_f]; simp only [i_lt, i_le, i_eq, i_m1, i_m9, i_0, i_1, i_2, i_3, i_4, i_5, i_6, i_7, i_8, i_9, i_10, i_12, i_15, i_16, i_24, i_30, i_40, i_50, i_60, i_64, i_100, i_160, i_199, i_200, i_300, i_601, i_1024, i_2000, i_1000000] at *; omega), rfl⟩
theorem bsX_00 : ∀ j : Fin 160, (fun k : Nat => ((0 ≤ (nI k - nI k / 16 * 16 + 0) ∧ (nI k - nI k / 16 * 16 + 0) ≤ 15) ∧ (0 ≤ (nI k / 16 + (-1)) ∧ (nI k / 16 + (-1)) ≤ 9) → (nI k - nI k / 16 * 16 + 0) + 16 * (nI k / 16 + (-1)) = oI (nbr k 0)) ∧ (¬ ((0 ≤ (nI k - nI k / 16 * 16 + 0) ∧ (nI k - nI k / 16 * 16 + 0) ≤ 15) ∧ (0 ≤ (nI k / 16 + (-1)) ∧ (nI k / 16 + (-1)) ≤ 9)) → -1 = oI (nbr k 0))) j.val := by decide +kernel
theorem bsX_0 {k : Nat} (hk : k < 160) : ((0 ≤ (nI k - nI k / 16 * 16 + 0) ∧ (nI k - nI k / 16 * 16 + 0) ≤ 15) ∧ (0 ≤ (nI k / 16 + (-1)) ∧ (nI k / 16 + (-1)) ≤ 9) → (nI k - nI k / 16 * 16 + 0) + 16 * (nI k / 16 + (-1)) = oI (nbr k 0)) ∧ (¬ ((0 ≤ (nI k - nI k / 16 * 16 + 0) ∧ (nI k - nI k / 16 * 16 + 0) ≤ 15) ∧ (0 ≤ (nI k / 16 + (-1)) ∧ (nI k / 16 + (-1)) ≤ 9)) → -1 = oI (nbr k 0)) := bsX_00 ⟨k, hk⟩
set_option maxRecDepth 100000 in
set_option maxHeartbeats 4000000 in
theorem c_X6_beside_0 {G : Cx} {k : Nat} (hk : k < 160) : Mt G Y_X6_beside 2 0 0 [.int (nI k), .int 0] [] (fun v M' => v = some (.int (oI (nbr k 0))) ∧ M' = []) (noX) := by
  refine Mt.of (L := [some (.int (nI k)), some (.int 0), none, none]) rfl (by decide) (by simp [lg_sl, Value.category]) ⟨rfl, rfl, trivial⟩ (fun sz => ?_)
  refine v_iload_n (pc := 0) dX6_beside_0 rfl rfl ?_
  refine v_bipush (pc := 1) (v := 16) dX6_beside_1 rfl ?_
  refine v_irem (pc := 3) dX6_beside_3 (by decide) ?_
  refine v_iload_n (pc := 4) dX6_beside_4 rfl rfl ?_
  refine v_iconst (pc := 5) (v := 1) dX6_beside_5 rfl ?_
  refine v_icmp_ne (pc := 6) (tgt := 13) dX6_beside_6 (by decide) (fun c6 => ?_) (fun c6 => absurd c6 (by decide))
  refine v_iload_n (pc := 13) dX6_beside_13 rfl rfl ?_
  refine v_iconst (pc := 14) (v := 2) dX6_beside_14 rfl ?_
  refine v_icmp_ne (pc := 15) (tgt := 22) dX6_beside_15 (by decide) (fun c15 => ?_) (fun c15 => absurd c15 (by decide))
  refine v_iconst (pc := 22) (v := 0) dX6_beside_22 rfl ?_
  refine v_iadd (pc := 23) dX6_beside_23 ?_
  refine v_istore_n (pc := 24) dX6_beside_24 rfl (by decide) rfl ?_
  refine v_iload_n (pc := 25) dX6_beside_25 rfl rfl ?_
  refine v_bipush (pc := 26) (v := 16) dX6_beside_26 rfl ?_
  refine v_idiv (pc := 28) dX6_beside_28 (by decide) ?_
  refine v_iload_n (pc := 29) dX6_beside_29 rfl rfl ?_
  refine v_if_ne (pc := 30) (tgt := 37) dX6_beside_30 (by decide) (fun c30 => absurd c30 (by decide)) (fun c30 => ?_)
  refine v_iconst (pc := 33) (v := -1) dX6_beside_33 rfl ?_
  refine v_goto (pc := 34) (tgt := 47) dX6_beside_34 (by decide) ?_
  refine v_iadd (pc := 47) dX6_beside_47 ?_
  refine v_istore_n (pc := 48) dX6_beside_48 rfl (by decide) rfl ?_
  refine v_iload_n (pc := 49) dX6_beside_49 rfl rfl ?_
  refine v_iload_n (pc := 50) dX6_beside_50 rfl rfl ?_
  refine v_callS2 (pc := 51) (c_X6_isCell ) cm_X6_isCell q856 q857 [] (by rfl) (by decide) (fun _ _ h => h) (by decide) (by decide) (by decide) (Nat.le_of_ble_eq_true rfl) dX6_beside_51 (fun v51 M51 hQ51 => ?_)
  obtain ⟨rfl, rfl⟩ := hQ51
  try dsimp only [wb, ModelM, List.set_cons_succ, List.set_cons_zero, List.append_nil, List.nil_append, List.cons_append, Option.toList, Nat.sub_zero]
  refine v_if_eq (pc := 54) (tgt := 66) dX6_beside_54 (by decide) (fun c54 => ?_) (fun c54 => ?_)
  · have c54 := bI_0.mp c54
    refine v_iconst (pc := 66) (v := -1) dX6_beside_66 rfl ?_
    refine v_iret (pc := 67) rfl rfl (Nat.le_of_ble_eq_true rfl) dX6_beside_67 ?_
    exact ⟨by rw [(bsX_0 hk).2 c54], rfl⟩
  · have c54 := bI_n.mp c54
    refine v_iload_n (pc := 57) dX6_beside_57 rfl rfl ?_
    refine v_bipush (pc := 58) (v := 16) dX6_beside_58 rfl ?_
    refine v_iload_n (pc := 60) dX6_beside_60 rfl rfl ?_
    refine v_imul (pc := 61) dX6_beside_61 ?_
    refine v_iadd (pc := 62) dX6_beside_62 ?_
    refine v_goto (pc := 63) (tgt := 67) dX6_beside_63 (by decide) ?_
    refine v_iret (pc := 67) rfl rfl (Nat.le_of_ble_eq_true rfl) dX6_beside_67 ?_
    exact ⟨by rw [(bsX_0 hk).1 c54], rfl⟩
theorem bsX_10 : ∀ j : Fin 160, (fun k : Nat => ((0 ≤ (nI k - nI k / 16 * 16 + (-1)) ∧ (nI k - nI k / 16 * 16 + (-1)) ≤ 15) ∧ (0 ≤ (nI k / 16 + 0) ∧ (nI k / 16 + 0) ≤ 9) → (nI k - nI k / 16 * 16 + (-1)) + 16 * (nI k / 16 + 0) = oI (nbr k 1)) ∧ (¬ ((0 ≤ (nI k - nI k / 16 * 16 + (-1)) ∧ (nI k - nI k / 16 * 16 + (-1)) ≤ 15) ∧ (0 ≤ (nI k / 16 + 0) ∧ (nI k / 16 + 0) ≤ 9)) → -1 = oI (nbr k 1))) j.val := by decide +kernel
theorem bsX_1 {k : Nat} (hk : k < 160) : ((0 ≤ (nI k - nI k / 16 * 16 + (-1)) ∧ (nI k - nI k / 16 * 16 + (-1)) ≤ 15) ∧ (0 ≤ (nI k / 16 + 0) ∧ (nI k / 16 + 0) ≤ 9) → (nI k - nI k / 16 * 16 + (-1)) + 16 * (nI k / 16 + 0) = oI (nbr k 1)) ∧ (¬ ((0 ≤ (nI k - nI k / 16 * 16 + (-1)) ∧ (nI k - nI k / 16 * 16 + (-1)) ≤ 15) ∧ (0 ≤ (nI k / 16 + 0) ∧ (nI k / 16 + 0) ≤ 9)) → -1 = oI (nbr k 1)) := bsX_10 ⟨k, hk⟩
set_option maxRecDepth 100000 in
set_option maxHeartbeats 4000000 in
theorem c_X6_beside_1 {G : Cx} {k : Nat} (hk : k < 160) : Mt G Y_X6_beside 2 0 0 [.int (nI k), .int 1] [] (fun v M' => v = some (.int (oI (nbr k 1))) ∧ M' = []) (noX) := by
  refine Mt.of (L := [some (.int (nI k)), some (.int 1), none, none]) rfl (by decide) (by simp [lg_sl, Value.category]) ⟨rfl, rfl, trivial⟩ (fun sz => ?_)
  refine v_iload_n (pc := 0) dX6_beside_0 rfl rfl ?_
  refine v_bipush (pc := 1) (v := 16) dX6_beside_1 rfl ?_
  refine v_irem (pc := 3) dX6_beside_3 (by decide) ?_
  refine v_iload_n (pc := 4) dX6_beside_4 rfl rfl ?_
  refine v_iconst (pc := 5) (v := 1) dX6_beside_5 rfl ?_
  refine v_icmp_ne (pc := 6) (tgt := 13) dX6_beside_6 (by decide) (fun c6 => absurd c6 (by decide)) (fun c6 => ?_)
  refine v_iconst (pc := 9) (v := -1) dX6_beside_9 rfl ?_
  refine v_goto (pc := 10) (tgt := 23) dX6_beside_10 (by decide) ?_
  refine v_iadd (pc := 23) dX6_beside_23 ?_
  refine v_istore_n (pc := 24) dX6_beside_24 rfl (by decide) rfl ?_
  refine v_iload_n (pc := 25) dX6_beside_25 rfl rfl ?_
  refine v_bipush (pc := 26) (v := 16) dX6_beside_26 rfl ?_
  refine v_idiv (pc := 28) dX6_beside_28 (by decide) ?_
  refine v_iload_n (pc := 29) dX6_beside_29 rfl rfl ?_
  refine v_if_ne (pc := 30) (tgt := 37) dX6_beside_30 (by decide) (fun c30 => ?_) (fun c30 => absurd c30 (by decide))
  refine v_iload_n (pc := 37) dX6_beside_37 rfl rfl ?_
  refine v_iconst (pc := 38) (v := 3) dX6_beside_38 rfl ?_
  refine v_icmp_ne (pc := 39) (tgt := 46) dX6_beside_39 (by decide) (fun c39 => ?_) (fun c39 => absurd c39 (by decide))
  refine v_iconst (pc := 46) (v := 0) dX6_beside_46 rfl ?_
  refine v_iadd (pc := 47) dX6_beside_47 ?_
  refine v_istore_n (pc := 48) dX6_beside_48 rfl (by decide) rfl ?_
  refine v_iload_n (pc := 49) dX6_beside_49 rfl rfl ?_
  refine v_iload_n (pc := 50) dX6_beside_50 rfl rfl ?_
  refine v_callS2 (pc := 51) (c_X6_isCell ) cm_X6_isCell q856 q857 [] (by rfl) (by decide) (fun _ _ h => h) (by decide) (by decide) (by decide) (Nat.le_of_ble_eq_true rfl) dX6_beside_51 (fun v51 M51 hQ51 => ?_)
  obtain ⟨rfl, rfl⟩ := hQ51
  try dsimp only [wb, ModelM, List.set_cons_succ, List.set_cons_zero, List.append_nil, List.nil_append, List.cons_append, Option.toList, Nat.sub_zero]
  refine v_if_eq (pc := 54) (tgt := 66) dX6_beside_54 (by decide) (fun c54 => ?_) (fun c54 => ?_)
  · have c54 := bI_0.mp c54
    refine v_iconst (pc := 66) (v := -1) dX6_beside_66 rfl ?_
    refine v_iret (pc := 67) rfl rfl (Nat.le_of_ble_eq_true rfl) dX6_beside_67 ?_
    exact ⟨by rw [(bsX_1 hk).2 c54], rfl⟩
  · have c54 := bI_n.mp c54
    refine v_iload_n (pc := 57) dX6_beside_57 rfl rfl ?_
    refine v_bipush (pc := 58) (v := 16) dX6_beside_58 rfl ?_
    refine v_iload_n (pc := 60) dX6_beside_60 rfl rfl ?_
    refine v_imul (pc := 61) dX6_beside_61 ?_
    refine v_iadd (pc := 62) dX6_beside_62 ?_
    refine v_goto (pc := 63) (tgt := 67) dX6_beside_63 (by decide) ?_
    refine v_iret (pc := 67) rfl rfl (Nat.le_of_ble_eq_true rfl) dX6_beside_67 ?_
    exact ⟨by rw [(bsX_1 hk).1 c54], rfl⟩
theorem bsX_20 : ∀ j : Fin 160, (fun k : Nat => ((0 ≤ (nI k - nI k / 16 * 16 + 1) ∧ (nI k - nI k / 16 * 16 + 1) ≤ 15) ∧ (0 ≤ (nI k / 16 + 0) ∧ (nI k / 16 + 0) ≤ 9) → (nI k - nI k / 16 * 16 + 1) + 16 * (nI k / 16 + 0) = oI (nbr k 2)) ∧ (¬ ((0 ≤ (nI k - nI k / 16 * 16 + 1) ∧ (nI k - nI k / 16 * 16 + 1) ≤ 15) ∧ (0 ≤ (nI k / 16 + 0) ∧ (nI k / 16 + 0) ≤ 9)) → -1 = oI (nbr k 2))) j.val := by decide +kernel
theorem bsX_2 {k : Nat} (hk : k < 160) : ((0 ≤ (nI k - nI k / 16 * 16 + 1) ∧ (nI k - nI k / 16 * 16 + 1) ≤ 15) ∧ (0 ≤ (nI k / 16 + 0) ∧ (nI k / 16 + 0) ≤ 9) → (nI k - nI k / 16 * 16 + 1) + 16 * (nI k / 16 + 0) = oI (nbr k 2)) ∧ (¬ ((0 ≤ (nI k - nI k / 16 * 16 + 1) ∧ (nI k - nI k / 16 * 16 + 1) ≤ 15) ∧ (0 ≤ (nI k / 16 + 0) ∧ (nI k / 16 + 0) ≤ 9)) → -1 = oI (nbr k 2)) := bsX_20 ⟨k, hk⟩
set_option maxRecDepth 100000 in
set_option maxHeartbeats 4000000 in
theorem c_X6_beside_2 {G : Cx} {k : Nat} (hk : k < 160) : Mt G Y_X6_beside 2 0 0 [.int (nI k), .int 2] [] (fun v M' => v = some (.int (oI (nbr k 2))) ∧ M' = []) (noX) := by
  refine Mt.of (L := [some (.int (nI k)), some (.int 2), none, none]) rfl (by decide) (by simp [lg_sl, Value.category]) ⟨rfl, rfl, trivial⟩ (fun sz => ?_)
  refine v_iload_n (pc := 0) dX6_beside_0 rfl rfl ?_
  refine v_bipush (pc := 1) (v := 16) dX6_beside_1 rfl ?_
  refine v_irem (pc := 3) dX6_beside_3 (by decide) ?_
  refine v_iload_n (pc := 4) dX6_beside_4 rfl rfl ?_
  refine v_iconst (pc := 5) (v := 1) dX6_beside_5 rfl ?_
  refine v_icmp_ne (pc := 6) (tgt := 13) dX6_beside_6 (by decide) (fun c6 => ?_) (fun c6 => absurd c6 (by decide))
  refine v_iload_n (pc := 13) dX6_beside_13 rfl rfl ?_
  refine v_iconst (pc := 14) (v := 2) dX6_beside_14 rfl ?_
  refine v_icmp_ne (pc := 15) (tgt := 22) dX6_beside_15 (by decide) (fun c15 => absurd c15 (by decide)) (fun c15 => ?_)
  refine v_iconst (pc := 18) (v := 1) dX6_beside_18 rfl ?_
  refine v_goto (pc := 19) (tgt := 23) dX6_beside_19 (by decide) ?_
  refine v_iadd (pc := 23) dX6_beside_23 ?_
  refine v_istore_n (pc := 24) dX6_beside_24 rfl (by decide) rfl ?_
  refine v_iload_n (pc := 25) dX6_beside_25 rfl rfl ?_
  refine v_bipush (pc := 26) (v := 16) dX6_beside_26 rfl ?_
  refine v_idiv (pc := 28) dX6_beside_28 (by decide) ?_
  refine v_iload_n (pc := 29) dX6_beside_29 rfl rfl ?_
  refine v_if_ne (pc := 30) (tgt := 37) dX6_beside_30 (by decide) (fun c30 => ?_) (fun c30 => absurd c30 (by decide))
  refine v_iload_n (pc := 37) dX6_beside_37 rfl rfl ?_
  refine v_iconst (pc := 38) (v := 3) dX6_beside_38 rfl ?_
  refine v_icmp_ne (pc := 39) (tgt := 46) dX6_beside_39 (by decide) (fun c39 => ?_) (fun c39 => absurd c39 (by decide))
  refine v_iconst (pc := 46) (v := 0) dX6_beside_46 rfl ?_
  refine v_iadd (pc := 47) dX6_beside_47 ?_
  refine v_istore_n (pc := 48) dX6_beside_48 rfl (by decide) rfl ?_
  refine v_iload_n (pc := 49) dX6_beside_49 rfl rfl ?_
  refine v_iload_n (pc := 50) dX6_beside_50 rfl rfl ?_
  refine v_callS2 (pc := 51) (c_X6_isCell ) cm_X6_isCell q856 q857 [] (by rfl) (by decide) (fun _ _ h => h) (by decide) (by decide) (by decide) (Nat.le_of_ble_eq_true rfl) dX6_beside_51 (fun v51 M51 hQ51 => ?_)
  obtain ⟨rfl, rfl⟩ := hQ51
  try dsimp only [wb, ModelM, List.set_cons_succ, List.set_cons_zero, List.append_nil, List.nil_append, List.cons_append, Option.toList, Nat.sub_zero]
  refine v_if_eq (pc := 54) (tgt := 66) dX6_beside_54 (by decide) (fun c54 => ?_) (fun c54 => ?_)
  · have c54 := bI_0.mp c54
    refine v_iconst (pc := 66) (v := -1) dX6_beside_66 rfl ?_
    refine v_iret (pc := 67) rfl rfl (Nat.le_of_ble_eq_true rfl) dX6_beside_67 ?_
    exact ⟨by rw [(bsX_2 hk).2 c54], rfl⟩
  · have c54 := bI_n.mp c54
    refine v_iload_n (pc := 57) dX6_beside_57 rfl rfl ?_
    refine v_bipush (pc := 58) (v := 16) dX6_beside_58 rfl ?_
    refine v_iload_n (pc := 60) dX6_beside_60 rfl rfl ?_
    refine v_imul (pc := 61) dX6_beside_61 ?_
    refine v_iadd (pc := 62) dX6_beside_62 ?_
    refine v_goto (pc := 63) (tgt := 67) dX6_beside_63 (by decide) ?_
    refine v_iret (pc := 67) rfl rfl (Nat.le_of_ble_eq_true rfl) dX6_beside_67 ?_
    exact ⟨by rw [(bsX_2 hk).1 c54], rfl⟩
theorem bsX_30 : ∀ j : Fin 160, (fun k : Nat => ((0 ≤ (nI k - nI k / 16 * 16 + 0) ∧ (nI k - nI k / 16 * 16 + 0) ≤ 15) ∧ (0 ≤ (nI k / 16 + 1) ∧ (nI k / 16 + 1) ≤ 9) → (nI k - nI k / 16 * 16 + 0) + 16 * (nI k / 16 + 1) = oI (nbr k 3)) ∧ (¬ ((0 ≤ (nI k - nI k / 16 * 16 + 0) ∧ (nI k - nI k / 16 * 16 + 0) ≤ 15) ∧ (0 ≤ (nI k / 16 + 1) ∧ (nI k / 16 + 1) ≤ 9)) → -1 = oI (nbr k 3))) j.val := by decide +kernel
theorem bsX_3 {k : Nat} (hk : k < 160) : ((0 ≤ (nI k - nI k / 16 * 16 + 0) ∧ (nI k - nI k / 16 * 16 + 0) ≤ 15) ∧ (0 ≤ (nI k / 16 + 1) ∧ (nI k / 16 + 1) ≤ 9) → (nI k - nI k / 16 * 16 + 0) + 16 * (nI k / 16 + 1) = oI (nbr k 3)) ∧ (¬ ((0 ≤ (nI k - nI k / 16 * 16 + 0) ∧ (nI k - nI k / 16 * 16 + 0) ≤ 15) ∧ (0 ≤ (nI k / 16 + 1) ∧ (nI k / 16 + 1) ≤ 9)) → -1 = oI (nbr k 3)) := bsX_30 ⟨k, hk⟩
set_option maxRecDepth 100000 in
set_option maxHeartbeats 4000000 in
theorem c_X6_beside_3 {G : Cx} {k : Nat} (hk : k < 160) : Mt G Y_X6_beside 2 0 0 [.int (nI k), .int 3] [] (fun v M' => v = some (.int (oI (nbr k 3))) ∧ M' = []) (noX) := by
  refine Mt.of (L := [some (.int (nI k)), some (.int 3), none, none]) rfl (by decide) (by simp [lg_sl, Value.category]) ⟨rfl, rfl, trivial⟩ (fun sz => ?_)
  refine v_iload_n (pc := 0) dX6_beside_0 rfl rfl ?_
  refine v_bipush (pc := 1) (v := 16) dX6_beside_1 rfl ?_
  refine v_irem (pc := 3) dX6_beside_3 (by decide) ?_
  refine v_iload_n (pc := 4) dX6_beside_4 rfl rfl ?_
  refine v_iconst (pc := 5) (v := 1) dX6_beside_5 rfl ?_
  refine v_icmp_ne (pc := 6) (tgt := 13) dX6_beside_6 (by decide) (fun c6 => ?_) (fun c6 => absurd c6 (by decide))
  refine v_iload_n (pc := 13) dX6_beside_13 rfl rfl ?_
  refine v_iconst (pc := 14) (v := 2) dX6_beside_14 rfl ?_
  refine v_icmp_ne (pc := 15) (tgt := 22) dX6_beside_15 (by decide) (fun c15 => ?_) (fun c15 => absurd c15 (by decide))
  refine v_iconst (pc := 22) (v := 0) dX6_beside_22 rfl ?_
  refine v_iadd (pc := 23) dX6_beside_23 ?_
  refine v_istore_n (pc := 24) dX6_beside_24 rfl (by decide) rfl ?_
  refine v_iload_n (pc := 25) dX6_beside_25 rfl rfl ?_
  refine v_bipush (pc := 26) (v := 16) dX6_beside_26 rfl ?_
  refine v_idiv (pc := 28) dX6_beside_28 (by decide) ?_
  refine v_iload_n (pc := 29) dX6_beside_29 rfl rfl ?_
  refine v_if_ne (pc := 30) (tgt := 37) dX6_beside_30 (by decide) (fun c30 => ?_) (fun c30 => absurd c30 (by decide))
  refine v_iload_n (pc := 37) dX6_beside_37 rfl rfl ?_
  refine v_iconst (pc := 38) (v := 3) dX6_beside_38 rfl ?_
  refine v_icmp_ne (pc := 39) (tgt := 46) dX6_beside_39 (by decide) (fun c39 => absurd c39 (by decide)) (fun c39 => ?_)
  refine v_iconst (pc := 42) (v := 1) dX6_beside_42 rfl ?_
  refine v_goto (pc := 43) (tgt := 47) dX6_beside_43 (by decide) ?_
  refine v_iadd (pc := 47) dX6_beside_47 ?_
  refine v_istore_n (pc := 48) dX6_beside_48 rfl (by decide) rfl ?_
  refine v_iload_n (pc := 49) dX6_beside_49 rfl rfl ?_
  refine v_iload_n (pc := 50) dX6_beside_50 rfl rfl ?_
  refine v_callS2 (pc := 51) (c_X6_isCell ) cm_X6_isCell q856 q857 [] (by rfl) (by decide) (fun _ _ h => h) (by decide) (by decide) (by decide) (Nat.le_of_ble_eq_true rfl) dX6_beside_51 (fun v51 M51 hQ51 => ?_)
  obtain ⟨rfl, rfl⟩ := hQ51
  try dsimp only [wb, ModelM, List.set_cons_succ, List.set_cons_zero, List.append_nil, List.nil_append, List.cons_append, Option.toList, Nat.sub_zero]
  refine v_if_eq (pc := 54) (tgt := 66) dX6_beside_54 (by decide) (fun c54 => ?_) (fun c54 => ?_)
  · have c54 := bI_0.mp c54
    refine v_iconst (pc := 66) (v := -1) dX6_beside_66 rfl ?_
    refine v_iret (pc := 67) rfl rfl (Nat.le_of_ble_eq_true rfl) dX6_beside_67 ?_
    exact ⟨by rw [(bsX_3 hk).2 c54], rfl⟩
  · have c54 := bI_n.mp c54
    refine v_iload_n (pc := 57) dX6_beside_57 rfl rfl ?_
    refine v_bipush (pc := 58) (v := 16) dX6_beside_58 rfl ?_
    refine v_iload_n (pc := 60) dX6_beside_60 rfl rfl ?_
    refine v_imul (pc := 61) dX6_beside_61 ?_
    refine v_iadd (pc := 62) dX6_beside_62 ?_
    refine v_goto (pc := 63) (tgt := 67) dX6_beside_63 (by decide) ?_
    refine v_iret (pc := 67) rfl rfl (Nat.le_of_ble_eq_true rfl) dX6_beside_67 ?_
    exact ⟨by rw [(bsX_3 hk).1 c54], rfl⟩
theorem c_X6_beside {G : Cx} {k s : Nat} (hk : k < 160) (hs : s < 4) : Mt G Y_X6_beside 2 0 0 [.int (nI k), .int (nI s)] [] (fun v M' => v = some (.int (oI (nbr k s))) ∧ M' = []) noX := by
  rcases (show s = 0 ∨ s = 1 ∨ s = 2 ∨ s = 3 by omega) with rfl | rfl | rfl | rfl
  · exact c_X6_beside_0 hk
  · exact c_X6_beside_1 hk
  · exact c_X6_beside_2 hk
  · exact c_X6_beside_3 hk
set_option maxRecDepth 100000 in
set_option maxHeartbeats 4000000 in
theorem c_X6_thrown {G : Cx} {z : Nat → Nat} {th : Int32} {N O PC T S C : Nat → Int32} {ps sc bc hh : Nat} {SF BF : Nat → Nat → Int32} {MX H W : Nat → Int32} (hps : ps ≤ 8) (hsc : sc ≤ 5) (hbc : bc ≤ 40) : Mt G Y_X6_thrown 0 0 0 [.ref (z 0)] (ModelM z th N O PC ps sc bc T S C SF MX BF hh H W) (fun v M' => v = some (.int (th)) ∧ M' = ModelM z th N O PC ps sc bc T S C SF MX BF hh H W) noX := by
  refine Mt.of (L := [some (.ref (z 0))]) rfl (by decide) (by simp [lg_sl, Value.category]) ⟨rfl, trivial⟩ (fun sz => ?_)
  refine v_aload_nR (pc := 0) dX6_thrown_0 rfl rfl ?_
  refine v_get (pc := 1) 0 0 fg_X6_44 rfl rfl dX6_thrown_1 ?_
  refine v_iret (pc := 4) rfl rfl (Nat.le_of_ble_eq_true rfl) dX6_thrown_4 ?_
  exact ⟨rfl, rfl⟩
set_option maxRecDepth 100000 in
set_option maxHeartbeats 4000000 in
theorem c_X6_fail {G : Cx} {z : Nat → Nat} {th : Int32} {N O PC T S C : Nat → Int32} {ps sc bc hh : Nat} {SF BF : Nat → Nat → Int32} {MX H W : Nat → Int32} (hps : ps ≤ 8) (hsc : sc ≤ 5) (hbc : bc ≤ 40) {n : Int32} : Mt G Y_X6_fail 0 0 0 [.ref (z 0), .int n] (ModelM z th N O PC ps sc bc T S C SF MX BF hh H W) (fun v M' => v = some (.int (0)) ∧ M' = ModelM z n N O PC ps sc bc T S C SF MX BF hh H W) noX := by
  refine Mt.of (L := [some (.ref (z 0)), some (.int n)]) rfl (by decide) (by simp [lg_sl, Value.category]) ⟨rfl, rfl, trivial⟩ (fun sz => ?_)
  refine v_aload_nR (pc := 0) dX6_fail_0 rfl rfl ?_
  refine v_iload_n (pc := 1) dX6_fail_1 rfl rfl ?_
  refine v_put (pc := 2) 0 0 fp_X6_fail_44 rfl rfl rfl (Nat.le_of_ble_eq_true rfl) dX6_fail_2 ?_
  try dsimp only [wb, ModelM, List.set_cons_succ, List.set_cons_zero, List.append_nil, List.nil_append, List.cons_append, Option.toList, Nat.sub_zero]
  refine v_iconst (pc := 5) (v := 0) dX6_fail_5 rfl ?_
  refine v_iret (pc := 6) rfl rfl (Nat.le_of_ble_eq_true rfl) dX6_fail_6 ?_
  exact ⟨rfl, rfl⟩
set_option maxRecDepth 100000 in
set_option maxHeartbeats 4000000 in
theorem c_X6_isPost {G : Cx} {z : Nat → Nat} {th : Int32} {N O PC T S C : Nat → Int32} {ps sc bc hh : Nat} {SF BF : Nat → Nat → Int32} {MX H W : Nat → Int32} (hps : ps ≤ 8) (hsc : sc ≤ 5) (hbc : bc ≤ 40) {q : Int32} : Mt G Y_X6_isPost 1 0 0 [.ref (z 0), .int q] (ModelM z th N O PC ps sc bc T S C SF MX BF hh H W) (fun v M' => v = some (.int (bI (0 ≤ q ∧ q < nI ps))) ∧ M' = ModelM z th N O PC ps sc bc T S C SF MX BF hh H W) noX := by
  refine Mt.of (L := [some (.ref (z 0)), some (.int q)]) rfl (by decide) (by simp [lg_sl, Value.category]) ⟨rfl, rfl, trivial⟩ (fun sz => ?_)
  refine v_iload_n (pc := 0) dX6_isPost_0 rfl rfl ?_
  refine v_iconst (pc := 1) (v := 0) dX6_isPost_1 rfl ?_
  refine v_aload_nR (pc := 2) dX6_isPost_2 rfl rfl ?_
  refine v_get (pc := 3) 3 0 fg_X6_52 rfl rfl dX6_isPost_3 ?_
  refine v_iconst (pc := 6) (v := 1) dX6_isPost_6 rfl ?_
  refine v_isub (pc := 7) dX6_isPost_7 ?_
  refine v_callS3 (pc := 8) (c_X6_isIn ) cm_X6_isIn q859 q860 [] (by rfl) (by decide) (fun _ _ h => h) (by decide) (by decide) (by decide) (Nat.le_of_ble_eq_true rfl) dX6_isPost_8 (fun v8 M8 hQ8 => ?_)
  obtain ⟨rfl, rfl⟩ := hQ8
  try dsimp only [wb, ModelM, List.set_cons_succ, List.set_cons_zero, List.append_nil, List.nil_append, List.cons_append, Option.toList, Nat.sub_zero]
  refine v_iret (pc := 11) rfl bI_nar (Nat.le_of_ble_eq_true rfl) dX6_isPost_11 ?_
  exact ⟨by rw [bI_iff (isp_iff (by omega))], rfl⟩
set_option maxRecDepth 100000 in
set_option maxHeartbeats 4000000 in
theorem c_X6_isSleigh {G : Cx} {z : Nat → Nat} {th : Int32} {N O PC T S C : Nat → Int32} {ps sc bc hh : Nat} {SF BF : Nat → Nat → Int32} {MX H W : Nat → Int32} (hps : ps ≤ 8) (hsc : sc ≤ 5) (hbc : bc ≤ 40) {q : Int32} : Mt G Y_X6_isSleigh 1 0 0 [.ref (z 0), .int q] (ModelM z th N O PC ps sc bc T S C SF MX BF hh H W) (fun v M' => v = some (.int (bI (0 ≤ q ∧ q < nI sc))) ∧ M' = ModelM z th N O PC ps sc bc T S C SF MX BF hh H W) noX := by
  refine Mt.of (L := [some (.ref (z 0)), some (.int q)]) rfl (by decide) (by simp [lg_sl, Value.category]) ⟨rfl, rfl, trivial⟩ (fun sz => ?_)
  refine v_iload_n (pc := 0) dX6_isSleigh_0 rfl rfl ?_
  refine v_iconst (pc := 1) (v := 0) dX6_isSleigh_1 rfl ?_
  refine v_aload_nR (pc := 2) dX6_isSleigh_2 rfl rfl ?_
  refine v_get (pc := 3) 5 0 fg_X6_55 rfl rfl dX6_isSleigh_3 ?_
  refine v_iconst (pc := 6) (v := 1) dX6_isSleigh_6 rfl ?_
  refine v_isub (pc := 7) dX6_isSleigh_7 ?_
  refine v_callS3 (pc := 8) (c_X6_isIn ) cm_X6_isIn q859 q860 [] (by rfl) (by decide) (fun _ _ h => h) (by decide) (by decide) (by decide) (Nat.le_of_ble_eq_true rfl) dX6_isSleigh_8 (fun v8 M8 hQ8 => ?_)
  obtain ⟨rfl, rfl⟩ := hQ8
  try dsimp only [wb, ModelM, List.set_cons_succ, List.set_cons_zero, List.append_nil, List.nil_append, List.cons_append, Option.toList, Nat.sub_zero]
  refine v_iret (pc := 11) rfl bI_nar (Nat.le_of_ble_eq_true rfl) dX6_isSleigh_11 ?_
  exact ⟨by rw [bI_iff (isp_iff (by omega))], rfl⟩
set_option maxRecDepth 100000 in
set_option maxHeartbeats 4000000 in
theorem c_X6_slG {G : Cx} {z : Nat → Nat} {th : Int32} {N O PC T S C : Nat → Int32} {ps sc bc hh : Nat} {SF BF : Nat → Nat → Int32} {MX H W : Nat → Int32} (hps : ps ≤ 8) (hsc : sc ≤ 5) (hbc : bc ≤ 40) {i k : Nat} (hi : i < 5) (hk : k < 7) : Mt G Y_X6_sl 0 0 0 [.ref (z 0), .int (nI i), .int (nI k)] (ModelM z th N O PC ps sc bc T S C SF MX BF hh H W) (fun v M' => v = some (.int (if k = 5 then MX i else SF i (colm k))) ∧ M' = ModelM z th N O PC ps sc bc T S C SF MX BF hh H W) noX := by
  refine Mt.of (L := [some (.ref (z 0)), some (.int (nI i)), some (.int (nI k))]) rfl (by decide) (by simp [lg_sl, Value.category]) ⟨rfl, rfl, rfl, trivial⟩ (fun sz => ?_)
  refine v_aload_nR (pc := 0) dX6_sl_0 rfl rfl ?_
  refine v_get (pc := 1) 10 0 fg_X6_28 rfl rfl dX6_sl_1 ?_
  refine v_bipush (pc := 4) (v := 7) dX6_sl_4 rfl ?_
  refine v_iload_n (pc := 6) dX6_sl_6 rfl rfl ?_
  refine v_imul (pc := 7) dX6_sl_7 ?_
  refine v_iload_n (pc := 8) dX6_sl_8 rfl rfl ?_
  refine v_iadd (pc := 9) dX6_sl_9 ?_
  rw [show (7 : Int32) * nI i + nI k = nI (7 * i + k) by rw [show (7 : Int32) * nI i = nI (7 * i) from pk_mul 7 i, nI_add]]
  refine v_ialdN (pc := 10) 7 (k := (7*i+k)) rfl (by omega) (by decide) dX6_sl_10 ?_
  refine v_iret (pc := 11) rfl rfl (Nat.le_of_ble_eq_true rfl) dX6_sl_11 ?_
  exact ⟨by rw [tblM_get hk], rfl⟩
theorem c_X6_sl0 {G : Cx} {z : Nat → Nat} {th : Int32} {N O PC T S C : Nat → Int32} {ps sc bc hh : Nat} {SF BF : Nat → Nat → Int32} {MX H W : Nat → Int32} (hps : ps ≤ 8) (hsc : sc ≤ 5) (hbc : bc ≤ 40) {i : Nat} (hi : i < 5) : Mt G Y_X6_sl 0 0 0 [.ref (z 0), .int (nI i), .int 0] (ModelM z th N O PC ps sc bc T S C SF MX BF hh H W) (fun v M' => v = some (.int (SF i 0)) ∧ M' = ModelM z th N O PC ps sc bc T S C SF MX BF hh H W) noX := c_X6_slG hps hsc hbc (k := 0) hi (by decide)
theorem c_X6_sl1 {G : Cx} {z : Nat → Nat} {th : Int32} {N O PC T S C : Nat → Int32} {ps sc bc hh : Nat} {SF BF : Nat → Nat → Int32} {MX H W : Nat → Int32} (hps : ps ≤ 8) (hsc : sc ≤ 5) (hbc : bc ≤ 40) {i : Nat} (hi : i < 5) : Mt G Y_X6_sl 0 0 0 [.ref (z 0), .int (nI i), .int 1] (ModelM z th N O PC ps sc bc T S C SF MX BF hh H W) (fun v M' => v = some (.int (SF i 2)) ∧ M' = ModelM z th N O PC ps sc bc T S C SF MX BF hh H W) noX := c_X6_slG hps hsc hbc (k := 1) hi (by decide)
theorem c_X6_sl2 {G : Cx} {z : Nat → Nat} {th : Int32} {N O PC T S C : Nat → Int32} {ps sc bc hh : Nat} {SF BF : Nat → Nat → Int32} {MX H W : Nat → Int32} (hps : ps ≤ 8) (hsc : sc ≤ 5) (hbc : bc ≤ 40) {i : Nat} (hi : i < 5) : Mt G Y_X6_sl 0 0 0 [.ref (z 0), .int (nI i), .int 2] (ModelM z th N O PC ps sc bc T S C SF MX BF hh H W) (fun v M' => v = some (.int (SF i 3)) ∧ M' = ModelM z th N O PC ps sc bc T S C SF MX BF hh H W) noX := c_X6_slG hps hsc hbc (k := 2) hi (by decide)
theorem c_X6_sl3 {G : Cx} {z : Nat → Nat} {th : Int32} {N O PC T S C : Nat → Int32} {ps sc bc hh : Nat} {SF BF : Nat → Nat → Int32} {MX H W : Nat → Int32} (hps : ps ≤ 8) (hsc : sc ≤ 5) (hbc : bc ≤ 40) {i : Nat} (hi : i < 5) : Mt G Y_X6_sl 0 0 0 [.ref (z 0), .int (nI i), .int 3] (ModelM z th N O PC ps sc bc T S C SF MX BF hh H W) (fun v M' => v = some (.int (SF i 4)) ∧ M' = ModelM z th N O PC ps sc bc T S C SF MX BF hh H W) noX := c_X6_slG hps hsc hbc (k := 3) hi (by decide)
theorem c_X6_sl4 {G : Cx} {z : Nat → Nat} {th : Int32} {N O PC T S C : Nat → Int32} {ps sc bc hh : Nat} {SF BF : Nat → Nat → Int32} {MX H W : Nat → Int32} (hps : ps ≤ 8) (hsc : sc ≤ 5) (hbc : bc ≤ 40) {i : Nat} (hi : i < 5) : Mt G Y_X6_sl 0 0 0 [.ref (z 0), .int (nI i), .int 4] (ModelM z th N O PC ps sc bc T S C SF MX BF hh H W) (fun v M' => v = some (.int (SF i 5)) ∧ M' = ModelM z th N O PC ps sc bc T S C SF MX BF hh H W) noX := c_X6_slG hps hsc hbc (k := 4) hi (by decide)
theorem c_X6_sl5 {G : Cx} {z : Nat → Nat} {th : Int32} {N O PC T S C : Nat → Int32} {ps sc bc hh : Nat} {SF BF : Nat → Nat → Int32} {MX H W : Nat → Int32} (hps : ps ≤ 8) (hsc : sc ≤ 5) (hbc : bc ≤ 40) {i : Nat} (hi : i < 5) : Mt G Y_X6_sl 0 0 0 [.ref (z 0), .int (nI i), .int 5] (ModelM z th N O PC ps sc bc T S C SF MX BF hh H W) (fun v M' => v = some (.int (MX i)) ∧ M' = ModelM z th N O PC ps sc bc T S C SF MX BF hh H W) noX := c_X6_slG hps hsc hbc (k := 5) hi (by decide)
theorem c_X6_sl6 {G : Cx} {z : Nat → Nat} {th : Int32} {N O PC T S C : Nat → Int32} {ps sc bc hh : Nat} {SF BF : Nat → Nat → Int32} {MX H W : Nat → Int32} (hps : ps ≤ 8) (hsc : sc ≤ 5) (hbc : bc ≤ 40) {i : Nat} (hi : i < 5) : Mt G Y_X6_sl 0 0 0 [.ref (z 0), .int (nI i), .int 6] (ModelM z th N O PC ps sc bc T S C SF MX BF hh H W) (fun v M' => v = some (.int (SF i 7)) ∧ M' = ModelM z th N O PC ps sc bc T S C SF MX BF hh H W) noX := c_X6_slG hps hsc hbc (k := 6) hi (by decide)
set_option maxRecDepth 100000 in
set_option maxHeartbeats 4000000 in
theorem c_X6_setG {G : Cx} {z : Nat → Nat} {th : Int32} {N O PC T S C : Nat → Int32} {ps sc bc hh : Nat} {SF BF : Nat → Nat → Int32} {MX H W : Nat → Int32} (hps : ps ≤ 8) (hsc : sc ≤ 5) (hbc : bc ≤ 40) {i k : Nat} {v : Int32} (hi : i < 5) (hk : k < 7) : Mt G Y_X6_set 0 0 0 [.ref (z 0), .int (nI i), .int (nI k), .int v] (ModelM z th N O PC ps sc bc T S C SF MX BF hh H W) (fun v2 M' => v2 = none ∧ M' = List.set (ModelM z th N O PC ps sc bc T S C SF MX BF hh H W) 7 (eI (z 7) 35 (upd (tblM SF MX) (7 * i + k) v))) noX := by
  refine Mt.of (L := [some (.ref (z 0)), some (.int (nI i)), some (.int (nI k)), some (.int v)]) rfl (by decide) (by simp [lg_sl, Value.category]) ⟨rfl, rfl, rfl, rfl, trivial⟩ (fun sz => ?_)
  refine v_aload_nR (pc := 0) dX6_set_0 rfl rfl ?_
  refine v_get (pc := 1) 10 0 fg_X6_28 rfl rfl dX6_set_1 ?_
  refine v_bipush (pc := 4) (v := 7) dX6_set_4 rfl ?_
  refine v_iload_n (pc := 6) dX6_set_6 rfl rfl ?_
  refine v_imul (pc := 7) dX6_set_7 ?_
  refine v_iload_n (pc := 8) dX6_set_8 rfl rfl ?_
  refine v_iadd (pc := 9) dX6_set_9 ?_
  rw [show (7 : Int32) * nI i + nI k = nI (7 * i + k) by rw [show (7 : Int32) * nI i = nI (7 * i) from pk_mul 7 i, nI_add]]
  refine v_iload_n (pc := 10) dX6_set_10 rfl rfl ?_
  refine v_iastN (pc := 11) 7 (k := (7*i+k)) rfl (by omega) (by decide) dX6_set_11 ?_
  try dsimp only [wb, ModelM, List.set_cons_succ, List.set_cons_zero, List.append_nil, List.nil_append, List.cons_append, Option.toList, Nat.sub_zero]
  refine v_vret (pc := 12) rfl (Nat.le_of_ble_eq_true rfl) dX6_set_12 ?_
  exact ⟨rfl, rfl⟩
theorem c_X6_set0 {G : Cx} {z : Nat → Nat} {th : Int32} {N O PC T S C : Nat → Int32} {ps sc bc hh : Nat} {SF BF : Nat → Nat → Int32} {MX H W : Nat → Int32} (hps : ps ≤ 8) (hsc : sc ≤ 5) (hbc : bc ≤ 40) {i : Nat} {v : Int32} (hi : i < 5) : Mt G Y_X6_set 0 0 0 [.ref (z 0), .int (nI i), .int 0, .int v] (ModelM z th N O PC ps sc bc T S C SF MX BF hh H W) (fun v2 M' => v2 = none ∧ M' = ModelM z th N O PC ps sc bc T S C (upS SF i 0 v) MX BF hh H W) noX := by
  have h := c_X6_setG (G := G) (z := z) (th := th) (N := N) (O := O) (PC := PC) (T := T) (S := S) (C := C) (hh := hh) (SF := SF) (BF := BF) (MX := MX) (H := H) (W := W) hps hsc hbc (k := 0) (v := v) hi (by decide)
  rw [tblM_set (k := 0) (by decide) (by decide)] at h
  exact h
theorem c_X6_set1 {G : Cx} {z : Nat → Nat} {th : Int32} {N O PC T S C : Nat → Int32} {ps sc bc hh : Nat} {SF BF : Nat → Nat → Int32} {MX H W : Nat → Int32} (hps : ps ≤ 8) (hsc : sc ≤ 5) (hbc : bc ≤ 40) {i : Nat} {v : Int32} (hi : i < 5) : Mt G Y_X6_set 0 0 0 [.ref (z 0), .int (nI i), .int 1, .int v] (ModelM z th N O PC ps sc bc T S C SF MX BF hh H W) (fun v2 M' => v2 = none ∧ M' = ModelM z th N O PC ps sc bc T S C (upS SF i 2 v) MX BF hh H W) noX := by
  have h := c_X6_setG (G := G) (z := z) (th := th) (N := N) (O := O) (PC := PC) (T := T) (S := S) (C := C) (hh := hh) (SF := SF) (BF := BF) (MX := MX) (H := H) (W := W) hps hsc hbc (k := 1) (v := v) hi (by decide)
  rw [tblM_set (k := 1) (by decide) (by decide)] at h
  exact h
theorem c_X6_set2 {G : Cx} {z : Nat → Nat} {th : Int32} {N O PC T S C : Nat → Int32} {ps sc bc hh : Nat} {SF BF : Nat → Nat → Int32} {MX H W : Nat → Int32} (hps : ps ≤ 8) (hsc : sc ≤ 5) (hbc : bc ≤ 40) {i : Nat} {v : Int32} (hi : i < 5) : Mt G Y_X6_set 0 0 0 [.ref (z 0), .int (nI i), .int 2, .int v] (ModelM z th N O PC ps sc bc T S C SF MX BF hh H W) (fun v2 M' => v2 = none ∧ M' = ModelM z th N O PC ps sc bc T S C (upS SF i 3 v) MX BF hh H W) noX := by
  have h := c_X6_setG (G := G) (z := z) (th := th) (N := N) (O := O) (PC := PC) (T := T) (S := S) (C := C) (hh := hh) (SF := SF) (BF := BF) (MX := MX) (H := H) (W := W) hps hsc hbc (k := 2) (v := v) hi (by decide)
  rw [tblM_set (k := 2) (by decide) (by decide)] at h
  exact h
theorem c_X6_set3 {G : Cx} {z : Nat → Nat} {th : Int32} {N O PC T S C : Nat → Int32} {ps sc bc hh : Nat} {SF BF : Nat → Nat → Int32} {MX H W : Nat → Int32} (hps : ps ≤ 8) (hsc : sc ≤ 5) (hbc : bc ≤ 40) {i : Nat} {v : Int32} (hi : i < 5) : Mt G Y_X6_set 0 0 0 [.ref (z 0), .int (nI i), .int 3, .int v] (ModelM z th N O PC ps sc bc T S C SF MX BF hh H W) (fun v2 M' => v2 = none ∧ M' = ModelM z th N O PC ps sc bc T S C (upS SF i 4 v) MX BF hh H W) noX := by
  have h := c_X6_setG (G := G) (z := z) (th := th) (N := N) (O := O) (PC := PC) (T := T) (S := S) (C := C) (hh := hh) (SF := SF) (BF := BF) (MX := MX) (H := H) (W := W) hps hsc hbc (k := 3) (v := v) hi (by decide)
  rw [tblM_set (k := 3) (by decide) (by decide)] at h
  exact h
theorem c_X6_set4 {G : Cx} {z : Nat → Nat} {th : Int32} {N O PC T S C : Nat → Int32} {ps sc bc hh : Nat} {SF BF : Nat → Nat → Int32} {MX H W : Nat → Int32} (hps : ps ≤ 8) (hsc : sc ≤ 5) (hbc : bc ≤ 40) {i : Nat} {v : Int32} (hi : i < 5) : Mt G Y_X6_set 0 0 0 [.ref (z 0), .int (nI i), .int 4, .int v] (ModelM z th N O PC ps sc bc T S C SF MX BF hh H W) (fun v2 M' => v2 = none ∧ M' = ModelM z th N O PC ps sc bc T S C (upS SF i 5 v) MX BF hh H W) noX := by
  have h := c_X6_setG (G := G) (z := z) (th := th) (N := N) (O := O) (PC := PC) (T := T) (S := S) (C := C) (hh := hh) (SF := SF) (BF := BF) (MX := MX) (H := H) (W := W) hps hsc hbc (k := 4) (v := v) hi (by decide)
  rw [tblM_set (k := 4) (by decide) (by decide)] at h
  exact h
theorem c_X6_set5 {G : Cx} {z : Nat → Nat} {th : Int32} {N O PC T S C : Nat → Int32} {ps sc bc hh : Nat} {SF BF : Nat → Nat → Int32} {MX H W : Nat → Int32} (hps : ps ≤ 8) (hsc : sc ≤ 5) (hbc : bc ≤ 40) {i : Nat} {v : Int32} (hi : i < 5) : Mt G Y_X6_set 0 0 0 [.ref (z 0), .int (nI i), .int 5, .int v] (ModelM z th N O PC ps sc bc T S C SF MX BF hh H W) (fun v2 M' => v2 = none ∧ M' = ModelM z th N O PC ps sc bc T S C SF (upd MX i v) BF hh H W) noX := by
  have h := c_X6_setG (G := G) (z := z) (th := th) (N := N) (O := O) (PC := PC) (T := T) (S := S) (C := C) (hh := hh) (SF := SF) (BF := BF) (MX := MX) (H := H) (W := W) hps hsc hbc (k := 5) (v := v) hi (by decide)
  rw [tblM_setX] at h
  exact h
theorem c_X6_set6 {G : Cx} {z : Nat → Nat} {th : Int32} {N O PC T S C : Nat → Int32} {ps sc bc hh : Nat} {SF BF : Nat → Nat → Int32} {MX H W : Nat → Int32} (hps : ps ≤ 8) (hsc : sc ≤ 5) (hbc : bc ≤ 40) {i : Nat} {v : Int32} (hi : i < 5) : Mt G Y_X6_set 0 0 0 [.ref (z 0), .int (nI i), .int 6, .int v] (ModelM z th N O PC ps sc bc T S C SF MX BF hh H W) (fun v2 M' => v2 = none ∧ M' = ModelM z th N O PC ps sc bc T S C (upS SF i 7 v) MX BF hh H W) noX := by
  have h := c_X6_setG (G := G) (z := z) (th := th) (N := N) (O := O) (PC := PC) (T := T) (S := S) (C := C) (hh := hh) (SF := SF) (BF := BF) (MX := MX) (H := H) (W := W) hps hsc hbc (k := 6) (v := v) hi (by decide)
  rw [tblM_set (k := 6) (by decide) (by decide)] at h
  exact h
set_option maxRecDepth 100000 in
set_option maxHeartbeats 4000000 in
theorem c_X6_baG {G : Cx} {z : Nat → Nat} {th : Int32} {N O PC T S C : Nat → Int32} {ps sc bc hh : Nat} {SF BF : Nat → Nat → Int32} {MX H W : Nat → Int32} (hps : ps ≤ 8) (hsc : sc ≤ 5) (hbc : bc ≤ 40) {i k : Nat} (hi : i < 40) (hk : k < 5) : Mt G Y_X6_ba 0 0 0 [.ref (z 0), .int (nI i), .int (nI k)] (ModelM z th N O PC ps sc bc T S C SF MX BF hh H W) (fun v M' => v = some (.int (BF i k)) ∧ M' = ModelM z th N O PC ps sc bc T S C SF MX BF hh H W) noX := by
  refine Mt.of (L := [some (.ref (z 0)), some (.int (nI i)), some (.int (nI k))]) rfl (by decide) (by simp [lg_sl, Value.category]) ⟨rfl, rfl, rfl, trivial⟩ (fun sz => ?_)
  refine v_aload_nR (pc := 0) dX6_ba_0 rfl rfl ?_
  refine v_get (pc := 1) 11 0 fg_X6_31 rfl rfl dX6_ba_1 ?_
  refine v_iconst (pc := 4) (v := 5) dX6_ba_4 rfl ?_
  refine v_iload_n (pc := 5) dX6_ba_5 rfl rfl ?_
  refine v_imul (pc := 6) dX6_ba_6 ?_
  refine v_iload_n (pc := 7) dX6_ba_7 rfl rfl ?_
  refine v_iadd (pc := 8) dX6_ba_8 ?_
  rw [show (5 : Int32) * nI i + nI k = nI (5 * i + k) by rw [show (5 : Int32) * nI i = nI (5 * i) from pk_mul 5 i, nI_add]]
  refine v_ialdN (pc := 9) 8 (k := (5*i+k)) rfl (by omega) (by decide) dX6_ba_9 ?_
  refine v_iret (pc := 10) rfl rfl (Nat.le_of_ble_eq_true rfl) dX6_ba_10 ?_
  exact ⟨by rw [malM_get hk], rfl⟩
theorem c_X6_ba0 {G : Cx} {z : Nat → Nat} {th : Int32} {N O PC T S C : Nat → Int32} {ps sc bc hh : Nat} {SF BF : Nat → Nat → Int32} {MX H W : Nat → Int32} (hps : ps ≤ 8) (hsc : sc ≤ 5) (hbc : bc ≤ 40) {i : Nat} (hi : i < 40) : Mt G Y_X6_ba 0 0 0 [.ref (z 0), .int (nI i), .int 0] (ModelM z th N O PC ps sc bc T S C SF MX BF hh H W) (fun v M' => v = some (.int (BF i 0)) ∧ M' = ModelM z th N O PC ps sc bc T S C SF MX BF hh H W) noX := c_X6_baG hps hsc hbc (k := 0) hi (by decide)
theorem c_X6_ba1 {G : Cx} {z : Nat → Nat} {th : Int32} {N O PC T S C : Nat → Int32} {ps sc bc hh : Nat} {SF BF : Nat → Nat → Int32} {MX H W : Nat → Int32} (hps : ps ≤ 8) (hsc : sc ≤ 5) (hbc : bc ≤ 40) {i : Nat} (hi : i < 40) : Mt G Y_X6_ba 0 0 0 [.ref (z 0), .int (nI i), .int 1] (ModelM z th N O PC ps sc bc T S C SF MX BF hh H W) (fun v M' => v = some (.int (BF i 1)) ∧ M' = ModelM z th N O PC ps sc bc T S C SF MX BF hh H W) noX := c_X6_baG hps hsc hbc (k := 1) hi (by decide)
theorem c_X6_ba2 {G : Cx} {z : Nat → Nat} {th : Int32} {N O PC T S C : Nat → Int32} {ps sc bc hh : Nat} {SF BF : Nat → Nat → Int32} {MX H W : Nat → Int32} (hps : ps ≤ 8) (hsc : sc ≤ 5) (hbc : bc ≤ 40) {i : Nat} (hi : i < 40) : Mt G Y_X6_ba 0 0 0 [.ref (z 0), .int (nI i), .int 2] (ModelM z th N O PC ps sc bc T S C SF MX BF hh H W) (fun v M' => v = some (.int (BF i 2)) ∧ M' = ModelM z th N O PC ps sc bc T S C SF MX BF hh H W) noX := c_X6_baG hps hsc hbc (k := 2) hi (by decide)
theorem c_X6_ba3 {G : Cx} {z : Nat → Nat} {th : Int32} {N O PC T S C : Nat → Int32} {ps sc bc hh : Nat} {SF BF : Nat → Nat → Int32} {MX H W : Nat → Int32} (hps : ps ≤ 8) (hsc : sc ≤ 5) (hbc : bc ≤ 40) {i : Nat} (hi : i < 40) : Mt G Y_X6_ba 0 0 0 [.ref (z 0), .int (nI i), .int 3] (ModelM z th N O PC ps sc bc T S C SF MX BF hh H W) (fun v M' => v = some (.int (BF i 3)) ∧ M' = ModelM z th N O PC ps sc bc T S C SF MX BF hh H W) noX := c_X6_baG hps hsc hbc (k := 3) hi (by decide)
theorem c_X6_ba4 {G : Cx} {z : Nat → Nat} {th : Int32} {N O PC T S C : Nat → Int32} {ps sc bc hh : Nat} {SF BF : Nat → Nat → Int32} {MX H W : Nat → Int32} (hps : ps ≤ 8) (hsc : sc ≤ 5) (hbc : bc ≤ 40) {i : Nat} (hi : i < 40) : Mt G Y_X6_ba 0 0 0 [.ref (z 0), .int (nI i), .int 4] (ModelM z th N O PC ps sc bc T S C SF MX BF hh H W) (fun v M' => v = some (.int (BF i 4)) ∧ M' = ModelM z th N O PC ps sc bc T S C SF MX BF hh H W) noX := c_X6_baG hps hsc hbc (k := 4) hi (by decide)
set_option maxRecDepth 100000 in
set_option maxHeartbeats 4000000 in
theorem c_X6_setBa {G : Cx} {z : Nat → Nat} {th : Int32} {N O PC T S C : Nat → Int32} {ps sc bc hh : Nat} {SF BF : Nat → Nat → Int32} {MX H W : Nat → Int32} (hps : ps ≤ 8) (hsc : sc ≤ 5) (hbc : bc ≤ 40) {i : Nat} {a b : Int32} (hi : i < 40) : Mt G Y_X6_setBa 0 0 0 [.ref (z 0), .int (nI i), .int a, .int b] (ModelM z th N O PC ps sc bc T S C SF MX BF hh H W) (fun v M' => v = none ∧ M' = ModelM z th N O PC ps sc bc T S C SF MX (upS (upS BF i 2 a) i 3 b) hh H W) noX := by
  refine Mt.of (L := [some (.ref (z 0)), some (.int (nI i)), some (.int a), some (.int b)]) rfl (by decide) (by simp [lg_sl, Value.category]) ⟨rfl, rfl, rfl, rfl, trivial⟩ (fun sz => ?_)
  refine v_aload_nR (pc := 0) dX6_setBa_0 rfl rfl ?_
  refine v_get (pc := 1) 11 0 fg_X6_31 rfl rfl dX6_setBa_1 ?_
  refine v_iconst (pc := 4) (v := 5) dX6_setBa_4 rfl ?_
  refine v_iload_n (pc := 5) dX6_setBa_5 rfl rfl ?_
  refine v_imul (pc := 6) dX6_setBa_6 ?_
  refine v_iconst (pc := 7) (v := 2) dX6_setBa_7 rfl ?_
  refine v_iadd (pc := 8) dX6_setBa_8 ?_
  rw [show (5 : Int32) * nI i + 2 = nI (5 * i + 2) by rw [show (5 : Int32) * nI i = nI (5 * i) from pk_mul 5 i]; exact nI_add _ 2]
  refine v_iload_n (pc := 9) dX6_setBa_9 rfl rfl ?_
  refine v_iastN (pc := 10) 8 (k := (5*i+2)) rfl (by omega) (by decide) dX6_setBa_10 ?_
  try dsimp only [wb, ModelM, List.set_cons_succ, List.set_cons_zero, List.append_nil, List.nil_append, List.cons_append, Option.toList, Nat.sub_zero]
  refine v_aload_nR (pc := 11) dX6_setBa_11 rfl rfl ?_
  refine v_get (pc := 12) 11 0 fg_X6_31 rfl rfl dX6_setBa_12 ?_
  refine v_iconst (pc := 15) (v := 5) dX6_setBa_15 rfl ?_
  refine v_iload_n (pc := 16) dX6_setBa_16 rfl rfl ?_
  refine v_imul (pc := 17) dX6_setBa_17 ?_
  refine v_iconst (pc := 18) (v := 3) dX6_setBa_18 rfl ?_
  refine v_iadd (pc := 19) dX6_setBa_19 ?_
  rw [show (5 : Int32) * nI i + 3 = nI (5 * i + 3) by rw [show (5 : Int32) * nI i = nI (5 * i) from pk_mul 5 i]; exact nI_add _ 3]
  refine v_iload_n (pc := 20) dX6_setBa_20 rfl rfl ?_
  refine v_iastN (pc := 21) 8 (k := (5*i+3)) rfl (by omega) (by decide) dX6_setBa_21 ?_
  try dsimp only [wb, ModelM, List.set_cons_succ, List.set_cons_zero, List.append_nil, List.nil_append, List.cons_append, Option.toList, Nat.sub_zero]
  rw [malM_set (by decide), malM_set (by decide)]
  refine v_vret (pc := 22) rfl (Nat.le_of_ble_eq_true rfl) dX6_setBa_22 ?_
  exact ⟨rfl, rfl⟩
