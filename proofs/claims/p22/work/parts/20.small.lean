theorem i_0 : (0 : Int32).toInt = 0 := by decide
theorem i_1 : (1 : Int32).toInt = 1 := by decide
theorem i_2 : (2 : Int32).toInt = 2 := by decide
theorem i_3 : (3 : Int32).toInt = 3 := by decide
theorem i_4 : (4 : Int32).toInt = 4 := by decide
theorem i_5 : (5 : Int32).toInt = 5 := by decide
theorem i_6 : (6 : Int32).toInt = 6 := by decide
theorem i_7 : (7 : Int32).toInt = 7 := by decide
theorem i_8 : (8 : Int32).toInt = 8 := by decide
theorem i_9 : (9 : Int32).toInt = 9 := by decide
theorem i_10 : (10 : Int32).toInt = 10 := by decide
theorem i_12 : (12 : Int32).toInt = 12 := by decide
theorem i_15 : (15 : Int32).toInt = 15 := by decide
theorem i_16 : (16 : Int32).toInt = 16 := by decide
theorem i_24 : (24 : Int32).toInt = 24 := by decide
theorem i_30 : (30 : Int32).toInt = 30 := by decide
theorem i_40 : (40 : Int32).toInt = 40 := by decide
theorem i_50 : (50 : Int32).toInt = 50 := by decide
theorem i_60 : (60 : Int32).toInt = 60 := by decide
theorem i_64 : (64 : Int32).toInt = 64 := by decide
theorem i_100 : (100 : Int32).toInt = 100 := by decide
theorem i_160 : (160 : Int32).toInt = 160 := by decide
theorem i_199 : (199 : Int32).toInt = 199 := by decide
theorem i_200 : (200 : Int32).toInt = 200 := by decide
theorem i_300 : (300 : Int32).toInt = 300 := by decide
theorem i_601 : (601 : Int32).toInt = 601 := by decide
theorem i_1024 : (1024 : Int32).toInt = 1024 := by decide
theorem i_2000 : (2000 : Int32).toInt = 2000 := by decide
theorem i_1000000 : (1000000 : Int32).toInt = 1000000 := by decide
theorem i_m1 : (-1 : Int32).toInt = -1 := by decide
theorem i_m9 : (-9 : Int32).toInt = -9 := by decide
/-! the small static methods of the class, and the JDK's two -/
def bI (P : Prop) [Decidable P] : Int32 := if P then 1 else 0
theorem bI_0 {P : Prop} [Decidable P] : bI P = 0 ↔ ¬ P := by
  unfold bI; split <;> simp_all
theorem bI_n {P : Prop} [Decidable P] : ¬ bI P = 0 ↔ P := by
  unfold bI; split <;> simp_all
theorem bI_t {P : Prop} [Decidable P] (h : P) : bI P = 1 := if_pos h
theorem bI_f {P : Prop} [Decidable P] (h : ¬ P) : bI P = 0 := if_neg h
theorem bI_nar {P : Prop} [Decidable P] : narrow .boolean (.int (bI P)) = .int (bI P) := by unfold bI; split <;> rfl
theorem bI_vp {P : Prop} [Decidable P] : vp_nar .boolean (bI P) = bI P := by unfold bI; split <;> rfl
theorem i_lt {a b : Int32} : a < b ↔ a.toInt < b.toInt := Int32.lt_iff_toInt_lt
theorem i_le {a b : Int32} : a ≤ b ↔ a.toInt ≤ b.toInt := Int32.le_iff_toInt_le
theorem i_eq {a b : Int32} : a = b ↔ a.toInt = b.toInt := Int32.toInt_inj.symm
/-- an int between 0 and n is a small number -/
theorem nI_mk {x : Int32} {n : Nat} (h0 : 0 ≤ x.toInt) (h : x.toInt < n) (hn : n < 2 ^ 31) : ∃ j : Nat, j < n ∧ x = nI j := vp_in_of (vp_in_iff.mpr ⟨h0, h⟩) hn
/-- none is -1 -/
def oI (o : Option Nat) : Int32 := match o with
  | none => -1
  | some j => nI j
/-- the cell beside a cell: up, left, right, down -/
def nbr (k s : Nat) : Option Nat := match s with
  | 0 => if k < 16 then none else some (k - 16)
  | 1 => if k % 16 = 0 then none else some (k - 1)
  | 2 => if k % 16 = 15 then none else some (k + 1)
  | _ => if k + 16 < 160 then some (k + 16) else none
theorem nbr_u1 {k : Nat} (h : k < 16) : oI (nbr k 0) = -1 := by show oI (if k < 16 then none else some (k - 16)) = -1; rw [if_pos h]; rfl
theorem nbr_u2 {k : Nat} (h : 16 ≤ k) : oI (nbr k 0) = nI k - 16 := by show oI (if k < 16 then none else some (k - 16)) = _; rw [if_neg (by omega)]; exact (pk_sub (b := 16) h).symm
theorem nbr_l1 {k : Nat} (h : k % 16 = 0) : oI (nbr k 1) = -1 := by show oI (if k % 16 = 0 then none else some (k - 1)) = -1; rw [if_pos h]; rfl
theorem nbr_l2 {k : Nat} (h : ¬ k % 16 = 0) : oI (nbr k 1) = nI k - 1 := by show oI (if k % 16 = 0 then none else some (k - 1)) = _; rw [if_neg h]; exact (pk_sub (b := 1) (by omega)).symm
theorem nbr_r1 {k : Nat} (h : k % 16 = 15) : oI (nbr k 2) = -1 := by show oI (if k % 16 = 15 then none else some (k + 1)) = -1; rw [if_pos h]; rfl
theorem nbr_r2 {k : Nat} (h : ¬ k % 16 = 15) : oI (nbr k 2) = nI k + 1 := by show oI (if k % 16 = 15 then none else some (k + 1)) = _; rw [if_neg h]; exact (nI_1 k).symm
theorem nbr_d0 (k z : Nat) : nbr k (z + 3) = if k + 16 < 160 then some (k + 16) else none := rfl
theorem nbr_d1 {k s : Nat} (hs : 3 ≤ s) (h : k + 16 < 160) : oI (nbr k s) = nI k + 16 := by
  obtain ⟨z, rfl⟩ : ∃ z, s = z + 3 := ⟨s - 3, by omega⟩
  rw [nbr_d0, if_pos h]; exact (nI_add k 16).symm
theorem nbr_d2 {k s : Nat} (hs : 3 ≤ s) (h : ¬ k + 16 < 160) : oI (nbr k s) = -1 := by
  obtain ⟨z, rfl⟩ : ∃ z, s = z + 3 := ⟨s - 3, by omega⟩
  rw [nbr_d0, if_neg h]; rfl
theorem nbr_lt {k s j : Nat} (hk : k < 160) (h : nbr k s = some j) : j < 160 := by
  unfold nbr at h
  split at h <;> split at h <;> cases h <;> omega
set_option maxRecDepth 100000 in
set_option maxHeartbeats 4000000 in
theorem c_X5_isWithin {G : Cx} {x a b : Int32} : Mt G Y_X5_isWithin 0 0 0 [.int x, .int a, .int b] [] (fun v M' => v = some (.int (bI (a ≤ x ∧ x ≤ b))) ∧ M' = []) (noX) := by
  refine Mt.of (L := [some (.int x), some (.int a), some (.int b)]) rfl (by decide) (by simp [lg_sl, Value.category]) ⟨rfl, rfl, rfl, trivial⟩ (fun sz => ?_)
  refine v_iload_n (pc := 0) dX5_isWithin_0 rfl rfl ?_
  refine v_iload_n (pc := 1) dX5_isWithin_1 rfl rfl ?_
  refine v_icmp_lt (pc := 2) (tgt := 14) dX5_isWithin_2 (by decide) (fun c2 => ?_) (fun c2 => ?_)
  · refine v_iconst (pc := 14) (v := 0) dX5_isWithin_14 rfl ?_
    refine v_iret (pc := 15) rfl rfl (Nat.le_of_ble_eq_true rfl) dX5_isWithin_15 ?_
    exact ⟨by first | (rw [bI_t]; simp only [i_lt, i_le, i_eq, i_m1, i_m9, i_0, i_1, i_2, i_3, i_4, i_5, i_6, i_7, i_8, i_9, i_10, i_12, i_15, i_16, i_24, i_30, i_40, i_50, i_60, i_64, i_100, i_160, i_199, i_200, i_300, i_601, i_1024, i_2000, i_1000000] at *; omega) | (rw [bI_f]; simp only [i_lt, i_le, i_eq, i_m1, i_m9, i_0, i_1, i_2, i_3, i_4, i_5, i_6, i_7, i_8, i_9, i_10, i_12, i_15, i_16, i_24, i_30, i_40, i_50, i_60, i_64, i_100, i_160, i_199, i_200, i_300, i_601, i_1024, i_2000, i_1000000] at *; omega), rfl⟩
  · refine v_iload_n (pc := 5) dX5_isWithin_5 rfl rfl ?_
    refine v_iload_n (pc := 6) dX5_isWithin_6 rfl rfl ?_
    refine v_icmp_gt (pc := 7) (tgt := 14) dX5_isWithin_7 (by decide) (fun c7 => ?_) (fun c7 => ?_)
    · refine v_iconst (pc := 14) (v := 0) dX5_isWithin_14 rfl ?_
      refine v_iret (pc := 15) rfl rfl (Nat.le_of_ble_eq_true rfl) dX5_isWithin_15 ?_
      exact ⟨by first | (rw [bI_t]; simp only [i_lt, i_le, i_eq, i_m1, i_m9, i_0, i_1, i_2, i_3, i_4, i_5, i_6, i_7, i_8, i_9, i_10, i_12, i_15, i_16, i_24, i_30, i_40, i_50, i_60, i_64, i_100, i_160, i_199, i_200, i_300, i_601, i_1024, i_2000, i_1000000] at *; omega) | (rw [bI_f]; simp only [i_lt, i_le, i_eq, i_m1, i_m9, i_0, i_1, i_2, i_3, i_4, i_5, i_6, i_7, i_8, i_9, i_10, i_12, i_15, i_16, i_24, i_30, i_40, i_50, i_60, i_64, i_100, i_160, i_199, i_200, i_300, i_601, i_1024, i_2000, i_1000000] at *; omega), rfl⟩
    · refine v_iconst (pc := 10) (v := 1) dX5_isWithin_10 rfl ?_
      refine v_goto (pc := 11) (tgt := 15) dX5_isWithin_11 (by decide) ?_
      refine v_iret (pc := 15) rfl rfl (Nat.le_of_ble_eq_true rfl) dX5_isWithin_15 ?_
      exact ⟨by first | (rw [bI_t]; simp only [i_lt, i_le, i_eq, i_m1, i_m9, i_0, i_1, i_2, i_3, i_4, i_5, i_6, i_7, i_8, i_9, i_10, i_12, i_15, i_16, i_24, i_30, i_40, i_50, i_60, i_64, i_100, i_160, i_199, i_200, i_300, i_601, i_1024, i_2000, i_1000000] at *; omega) | (rw [bI_f]; simp only [i_lt, i_le, i_eq, i_m1, i_m9, i_0, i_1, i_2, i_3, i_4, i_5, i_6, i_7, i_8, i_9, i_10, i_12, i_15, i_16, i_24, i_30, i_40, i_50, i_60, i_64, i_100, i_160, i_199, i_200, i_300, i_601, i_1024, i_2000, i_1000000] at *; omega), rfl⟩
set_option maxRecDepth 100000 in
set_option maxHeartbeats 4000000 in
theorem c_X5_isOnMap {G : Cx} {x y : Int32} : Mt G Y_X5_isOnMap 1 0 0 [.int x, .int y] [] (fun v M' => v = some (.int (bI ((0 ≤ x ∧ x ≤ 15) ∧ (0 ≤ y ∧ y ≤ 9)))) ∧ M' = []) (noX) := by
  refine Mt.of (L := [some (.int x), some (.int y)]) rfl (by decide) (by simp [lg_sl, Value.category]) ⟨rfl, rfl, trivial⟩ (fun sz => ?_)
  refine v_iload_n (pc := 0) dX5_isOnMap_0 rfl rfl ?_
  refine v_iconst (pc := 1) (v := 0) dX5_isOnMap_1 rfl ?_
  refine v_bipush (pc := 2) (v := 15) dX5_isOnMap_2 rfl ?_
  refine v_callS3 (pc := 4) (c_X5_isWithin ) cm_X5_isWithin q214 q215 [] (by rfl) (by decide) (fun _ _ h => h) (by decide) (by decide) (by decide) (Nat.le_of_ble_eq_true rfl) dX5_isOnMap_4 (fun v4 M4 hQ4 => ?_)
  obtain ⟨rfl, rfl⟩ := hQ4
  refine v_if_eq (pc := 7) (tgt := 24) dX5_isOnMap_7 (by decide) (fun c7 => ?_) (fun c7 => ?_)
  · have c7 := bI_0.mp c7
    refine v_iconst (pc := 24) (v := 0) dX5_isOnMap_24 rfl ?_
    refine v_iret (pc := 25) rfl rfl (Nat.le_of_ble_eq_true rfl) dX5_isOnMap_25 ?_
    exact ⟨by first | (rw [bI_t]; simp only [i_lt, i_le, i_eq, i_m1, i_m9, i_0, i_1, i_2, i_3, i_4, i_5, i_6, i_7, i_8, i_9, i_10, i_12, i_15, i_16, i_24, i_30, i_40, i_50, i_60, i_64, i_100, i_160, i_199, i_200, i_300, i_601, i_1024, i_2000, i_1000000] at *; omega) | (rw [bI_f]; simp only [i_lt, i_le, i_eq, i_m1, i_m9, i_0, i_1, i_2, i_3, i_4, i_5, i_6, i_7, i_8, i_9, i_10, i_12, i_15, i_16, i_24, i_30, i_40, i_50, i_60, i_64, i_100, i_160, i_199, i_200, i_300, i_601, i_1024, i_2000, i_1000000] at *; omega), rfl⟩
  · have c7 := bI_n.mp c7
    refine v_iload_n (pc := 10) dX5_isOnMap_10 rfl rfl ?_
    refine v_iconst (pc := 11) (v := 0) dX5_isOnMap_11 rfl ?_
    refine v_bipush (pc := 12) (v := 9) dX5_isOnMap_12 rfl ?_
    refine v_callS3 (pc := 14) (c_X5_isWithin ) cm_X5_isWithin q214 q215 [] (by rfl) (by decide) (fun _ _ h => h) (by decide) (by decide) (by decide) (Nat.le_of_ble_eq_true rfl) dX5_isOnMap_14 (fun v14 M14 hQ14 => ?_)
    obtain ⟨rfl, rfl⟩ := hQ14
    refine v_if_eq (pc := 17) (tgt := 24) dX5_isOnMap_17 (by decide) (fun c17 => ?_) (fun c17 => ?_)
    · have c17 := bI_0.mp c17
      refine v_iconst (pc := 24) (v := 0) dX5_isOnMap_24 rfl ?_
      refine v_iret (pc := 25) rfl rfl (Nat.le_of_ble_eq_true rfl) dX5_isOnMap_25 ?_
      exact ⟨by first | (rw [bI_t]; simp only [i_lt, i_le, i_eq, i_m1, i_m9, i_0, i_1, i_2, i_3, i_4, i_5, i_6, i_7, i_8, i_9, i_10, i_12, i_15, i_16, i_24, i_30, i_40, i_50, i_60, i_64, i_100, i_160, i_199, i_200, i_300, i_601, i_1024, i_2000, i_1000000] at *; omega) | (rw [bI_f]; simp only [i_lt, i_le, i_eq, i_m1, i_m9, i_0, i_1, i_2, i_3, i_4, i_5, i_6, i_7, i_8, i_9, i_10, i_12, i_15, i_16, i_24, i_30, i_40, i_50, i_60, i_64, i_100, i_160, i_199, i_200, i_300, i_601, i_1024, i_2000, i_1000000] at *; omega), rfl⟩
    · have c17 := bI_n.mp c17
      refine v_iconst (pc := 20) (v := 1) dX5_isOnMap_20 rfl ?_
      refine v_goto (pc := 21) (tgt := 25) dX5_isOnMap_21 (by decide) ?_
      refine v_iret (pc := 25) rfl rfl (Nat.le_of_ble_eq_true rfl) dX5_isOnMap_25 ?_
      exact ⟨by first | (rw [bI_t]; simp only [i_lt, i_le, i_eq, i_m1, i_m9, i_0, i_1, i_2, i_3, i_4, i_5, i_6, i_7, i_8, i_9, i_10, i_12, i_15, i_16, i_24, i_30, i_40, i_50, i_60, i_64, i_100, i_160, i_199, i_200, i_300, i_601, i_1024, i_2000, i_1000000] at *; omega) | (rw [bI_f]; simp only [i_lt, i_le, i_eq, i_m1, i_m9, i_0, i_1, i_2, i_3, i_4, i_5, i_6, i_7, i_8, i_9, i_10, i_12, i_15, i_16, i_24, i_30, i_40, i_50, i_60, i_64, i_100, i_160, i_199, i_200, i_300, i_601, i_1024, i_2000, i_1000000] at *; omega), rfl⟩
set_option maxRecDepth 100000 in
set_option maxHeartbeats 4000000 in
theorem c_X5_isRectangle {G : Cx} {x y w h : Int32} : Mt G Y_X5_isRectangle 2 0 0 [.int x, .int y, .int w, .int h] [] (fun v M' => v = some (.int (bI (((0 ≤ x ∧ x ≤ 15) ∧ (0 ≤ y ∧ y ≤ 9)) ∧ (1 ≤ w ∧ w ≤ 16 - x) ∧ (1 ≤ h ∧ h ≤ 10 - y)))) ∧ M' = []) (noX) := by
  refine Mt.of (L := [some (.int x), some (.int y), some (.int w), some (.int h)]) rfl (by decide) (by simp [lg_sl, Value.category]) ⟨rfl, rfl, rfl, rfl, trivial⟩ (fun sz => ?_)
  refine v_iload_n (pc := 0) dX5_isRectangle_0 rfl rfl ?_
  refine v_iload_n (pc := 1) dX5_isRectangle_1 rfl rfl ?_
  refine v_callS2 (pc := 2) (c_X5_isOnMap ) cm_X5_isOnMap q211 q212 [] (by rfl) (by decide) (fun _ _ h => h) (by decide) (by decide) (by decide) (Nat.le_of_ble_eq_true rfl) dX5_isRectangle_2 (fun v2 M2 hQ2 => ?_)
  obtain ⟨rfl, rfl⟩ := hQ2
  refine v_if_eq (pc := 5) (tgt := 36) dX5_isRectangle_5 (by decide) (fun c5 => ?_) (fun c5 => ?_)
  · have c5 := bI_0.mp c5
    refine v_iconst (pc := 36) (v := 0) dX5_isRectangle_36 rfl ?_
    refine v_iret (pc := 37) rfl rfl (Nat.le_of_ble_eq_true rfl) dX5_isRectangle_37 ?_
    exact ⟨by first | (rw [bI_t]; simp only [i_lt, i_le, i_eq, i_m1, i_m9, i_0, i_1, i_2, i_3, i_4, i_5, i_6, i_7, i_8, i_9, i_10, i_12, i_15, i_16, i_24, i_30, i_40, i_50, i_60, i_64, i_100, i_160, i_199, i_200, i_300, i_601, i_1024, i_2000, i_1000000] at *; omega) | (rw [bI_f]; simp only [i_lt, i_le, i_eq, i_m1, i_m9, i_0, i_1, i_2, i_3, i_4, i_5, i_6, i_7, i_8, i_9, i_10, i_12, i_15, i_16, i_24, i_30, i_40, i_50, i_60, i_64, i_100, i_160, i_199, i_200, i_300, i_601, i_1024, i_2000, i_1000000] at *; omega), rfl⟩
  · have c5 := bI_n.mp c5
    refine v_iload_n (pc := 8) dX5_isRectangle_8 rfl rfl ?_
    refine v_iconst (pc := 9) (v := 1) dX5_isRectangle_9 rfl ?_
    refine v_bipush (pc := 10) (v := 16) dX5_isRectangle_10 rfl ?_
    refine v_iload_n (pc := 12) dX5_isRectangle_12 rfl rfl ?_
    refine v_isub (pc := 13) dX5_isRectangle_13 ?_
    refine v_callS3 (pc := 14) (c_X5_isWithin ) cm_X5_isWithin q214 q215 [] (by rfl) (by decide) (fun _ _ h => h) (by decide) (by decide) (by decide) (Nat.le_of_ble_eq_true rfl) dX5_isRectangle_14 (fun v14 M14 hQ14 => ?_)
    obtain ⟨rfl, rfl⟩ := hQ14
    refine v_if_eq (pc := 17) (tgt := 36) dX5_isRectangle_17 (by decide) (fun c17 => ?_) (fun c17 => ?_)
    · have c17 := bI_0.mp c17
      refine v_iconst (pc := 36) (v := 0) dX5_isRectangle_36 rfl ?_
      refine v_iret (pc := 37) rfl rfl (Nat.le_of_ble_eq_true rfl) dX5_isRectangle_37 ?_
      exact ⟨by first | (rw [bI_t]; simp only [i_lt, i_le, i_eq, i_m1, i_m9, i_0, i_1, i_2, i_3, i_4, i_5, i_6, i_7, i_8, i_9, i_10, i_12, i_15, i_16, i_24, i_30, i_40, i_50, i_60, i_64, i_100, i_160, i_199, i_200, i_300, i_601, i_1024, i_2000, i_1000000] at *; omega) | (rw [bI_f]; simp only [i_lt, i_le, i_eq, i_m1, i_m9, i_0, i_1, i_2, i_3, i_4, i_5, i_6, i_7, i_8, i_9, i_10, i_12, i_15, i_16, i_24, i_30, i_40, i_50, i_60, i_64, i_100, i_160, i_199, i_200, i_300, i_601, i_1024, i_2000, i_1000000] at *; omega), rfl⟩
    · have c17 := bI_n.mp c17
      refine v_iload_n (pc := 20) dX5_isRectangle_20 rfl rfl ?_
      refine v_iconst (pc := 21) (v := 1) dX5_isRectangle_21 rfl ?_
      refine v_bipush (pc := 22) (v := 10) dX5_isRectangle_22 rfl ?_
      refine v_iload_n (pc := 24) dX5_isRectangle_24 rfl rfl ?_
      refine v_isub (pc := 25) dX5_isRectangle_25 ?_
      refine v_callS3 (pc := 26) (c_X5_isWithin ) cm_X5_isWithin q214 q215 [] (by rfl) (by decide) (fun _ _ h => h) (by decide) (by decide) (by decide) (Nat.le_of_ble_eq_true rfl) dX5_isRectangle_26 (fun v26 M26 hQ26 => ?_)
      obtain ⟨rfl, rfl⟩ := hQ26
      refine v_if_eq (pc := 29) (tgt := 36) dX5_isRectangle_29 (by decide) (fun c29 => ?_) (fun c29 => ?_)
      · have c29 := bI_0.mp c29
        refine v_iconst (pc := 36) (v := 0) dX5_isRectangle_36 rfl ?_
        refine v_iret (pc := 37) rfl rfl (Nat.le_of_ble_eq_true rfl) dX5_isRectangle_37 ?_
        exact ⟨by first | (rw [bI_t]; simp only [i_lt, i_le, i_eq, i_m1, i_m9, i_0, i_1, i_2, i_3, i_4, i_5, i_6, i_7, i_8, i_9, i_10, i_12, i_15, i_16, i_24, i_30, i_40, i_50, i_60, i_64, i_100, i_160, i_199, i_200, i_300, i_601, i_1024, i_2000, i_1000000] at *; omega) | (rw [bI_f]; simp only [i_lt, i_le, i_eq, i_m1, i_m9, i_0, i_1, i_2, i_3, i_4, i_5, i_6, i_7, i_8, i_9, i_10, i_12, i_15, i_16, i_24, i_30, i_40, i_50, i_60, i_64, i_100, i_160, i_199, i_200, i_300, i_601, i_1024, i_2000, i_1000000] at *; omega), rfl⟩
      · have c29 := bI_n.mp c29
        refine v_iconst (pc := 32) (v := 1) dX5_isRectangle_32 rfl ?_
        refine v_goto (pc := 33) (tgt := 37) dX5_isRectangle_33 (by decide) ?_
        refine v_iret (pc := 37) rfl rfl (Nat.le_of_ble_eq_true rfl) dX5_isRectangle_37 ?_
        exact ⟨by first | (rw [bI_t]; simp only [i_lt, i_le, i_eq, i_m1, i_m9, i_0, i_1, i_2, i_3, i_4, i_5, i_6, i_7, i_8, i_9, i_10, i_12, i_15, i_16, i_24, i_30, i_40, i_50, i_60, i_64, i_100, i_160, i_199, i_200, i_300, i_601, i_1024, i_2000, i_1000000] at *; omega) | (rw [bI_f]; simp only [i_lt, i_le, i_eq, i_m1, i_m9, i_0, i_1, i_2, i_3, i_4, i_5, i_6, i_7, i_8, i_9, i_10, i_12, i_15, i_16, i_24, i_30, i_40, i_50, i_60, i_64, i_100, i_160, i_199, i_200, i_300, i_601, i_1024, i_2000, i_1000000] at *; omega), rfl⟩
set_option maxRecDepth 100000 in
set_option maxHeartbeats 4000000 in
theorem c_X5_isCell {G : Cx} {x : Int32} : Mt G Y_X5_isCell 0 0 0 [.int x] [] (fun v M' => v = some (.int (bI (0 ≤ x ∧ x < 160))) ∧ M' = []) (noX) := by
  refine Mt.of (L := [some (.int x)]) rfl (by decide) (by simp [lg_sl, Value.category]) ⟨rfl, trivial⟩ (fun sz => ?_)
  refine v_iload_n (pc := 0) dX5_isCell_0 rfl rfl ?_
  refine v_if_lt (pc := 1) (tgt := 15) dX5_isCell_1 (by decide) (fun c1 => ?_) (fun c1 => ?_)
  · refine v_iconst (pc := 15) (v := 0) dX5_isCell_15 rfl ?_
    refine v_iret (pc := 16) rfl rfl (Nat.le_of_ble_eq_true rfl) dX5_isCell_16 ?_
    exact ⟨by first | (rw [bI_t]; simp only [i_lt, i_le, i_eq, i_m1, i_m9, i_0, i_1, i_2, i_3, i_4, i_5, i_6, i_7, i_8, i_9, i_10, i_12, i_15, i_16, i_24, i_30, i_40, i_50, i_60, i_64, i_100, i_160, i_199, i_200, i_300, i_601, i_1024, i_2000, i_1000000] at *; omega) | (rw [bI_f]; simp only [i_lt, i_le, i_eq, i_m1, i_m9, i_0, i_1, i_2, i_3, i_4, i_5, i_6, i_7, i_8, i_9, i_10, i_12, i_15, i_16, i_24, i_30, i_40, i_50, i_60, i_64, i_100, i_160, i_199, i_200, i_300, i_601, i_1024, i_2000, i_1000000] at *; omega), rfl⟩
  · refine v_iload_n (pc := 4) dX5_isCell_4 rfl rfl ?_
    refine v_sipush (pc := 5) (v := 160) dX5_isCell_5 rfl ?_
    refine v_icmp_ge (pc := 8) (tgt := 15) dX5_isCell_8 (by decide) (fun c8 => ?_) (fun c8 => ?_)
    · refine v_iconst (pc := 15) (v := 0) dX5_isCell_15 rfl ?_
      refine v_iret (pc := 16) rfl rfl (Nat.le_of_ble_eq_true rfl) dX5_isCell_16 ?_
      exact ⟨by first | (rw [bI_t]; simp only [i_lt, i_le, i_eq, i_m1, i_m9, i_0, i_1, i_2, i_3, i_4, i_5, i_6, i_7, i_8, i_9, i_10, i_12, i_15, i_16, i_24, i_30, i_40, i_50, i_60, i_64, i_100, i_160, i_199, i_200, i_300, i_601, i_1024, i_2000, i_1000000] at *; omega) | (rw [bI_f]; simp only [i_lt, i_le, i_eq, i_m1, i_m9, i_0, i_1, i_2, i_3, i_4, i_5, i_6, i_7, i_8, i_9, i_10, i_12, i_15, i_16, i_24, i_30, i_40, i_50, i_60, i_64, i_100, i_160, i_199, i_200, i_300, i_601, i_1024, i_2000, i_1000000] at *; omega), rfl⟩
    · refine v_iconst (pc := 11) (v := 1) dX5_isCell_11 rfl ?_
      refine v_goto (pc := 12) (tgt := 16) dX5_isCell_12 (by decide) ?_
      refine v_iret (pc := 16) rfl rfl (Nat.le_of_ble_eq_true rfl) dX5_isCell_16 ?_
      exact ⟨by first | (rw [bI_t]; simp only [i_lt, i_le, i_eq, i_m1, i_m9, i_0, i_1, i_2, i_3, i_4, i_5, i_6, i_7, i_8, i_9, i_10, i_12, i_15, i_16, i_24, i_30, i_40, i_50, i_60, i_64, i_100, i_160, i_199, i_200, i_300, i_601, i_1024, i_2000, i_1000000] at *; omega) | (rw [bI_f]; simp only [i_lt, i_le, i_eq, i_m1, i_m9, i_0, i_1, i_2, i_3, i_4, i_5, i_6, i_7, i_8, i_9, i_10, i_12, i_15, i_16, i_24, i_30, i_40, i_50, i_60, i_64, i_100, i_160, i_199, i_200, i_300, i_601, i_1024, i_2000, i_1000000] at *; omega), rfl⟩
set_option maxRecDepth 100000 in
set_option maxHeartbeats 4000000 in
theorem c_X5_numberOf {G : Cx} {x y : Int32} : Mt G Y_X5_numberOf 0 0 0 [.int x, .int y] [] (fun v M' => v = some (.int (x + 16 * y)) ∧ M' = []) (noX) := by
  refine Mt.of (L := [some (.int x), some (.int y)]) rfl (by decide) (by simp [lg_sl, Value.category]) ⟨rfl, rfl, trivial⟩ (fun sz => ?_)
  refine v_iload_n (pc := 0) dX5_numberOf_0 rfl rfl ?_
  refine v_bipush (pc := 1) (v := 16) dX5_numberOf_1 rfl ?_
  refine v_iload_n (pc := 3) dX5_numberOf_3 rfl rfl ?_
  refine v_imul (pc := 4) dX5_numberOf_4 ?_
  refine v_iadd (pc := 5) dX5_numberOf_5 ?_
  refine v_iret (pc := 6) rfl rfl (Nat.le_of_ble_eq_true rfl) dX5_numberOf_6 ?_
  exact ⟨rfl, rfl⟩
set_option maxRecDepth 100000 in
set_option maxHeartbeats 4000000 in
theorem c_X5_thicknessFor {G : Cx} {x : Int32} : Mt G Y_X5_thicknessFor 0 0 0 [.int x] [] (fun v M' => v = some (.int (8 + x / 12)) ∧ M' = []) (noX) := by
  refine Mt.of (L := [some (.int x)]) rfl (by decide) (by simp [lg_sl, Value.category]) ⟨rfl, trivial⟩ (fun sz => ?_)
  refine v_bipush (pc := 0) (v := 8) dX5_thicknessFor_0 rfl ?_
  refine v_iload_n (pc := 2) dX5_thicknessFor_2 rfl rfl ?_
  refine v_bipush (pc := 3) (v := 12) dX5_thicknessFor_3 rfl ?_
  refine v_idiv (pc := 5) dX5_thicknessFor_5 (by decide) ?_
  refine v_iadd (pc := 6) dX5_thicknessFor_6 ?_
  refine v_iret (pc := 7) rfl rfl (Nat.le_of_ble_eq_true rfl) dX5_thicknessFor_7 ?_
  exact ⟨rfl, rfl⟩
set_option maxRecDepth 100000 in
set_option maxHeartbeats 4000000 in
theorem c_X5_drag {G : Cx} {w r t : Int32} (hr : 1 ≤ r.toInt ∧ r.toInt ≤ 6) : Mt G Y_X5_drag 1 0 0 [.int w, .int r, .int t] [] (fun v M' => v = some (.int (w / (60 * r) + (if 50 ≤ t then 1 else 0))) ∧ M' = []) (noX) := by
  refine Mt.of (L := [some (.int w), some (.int r), some (.int t), none]) rfl (by decide) (by simp [lg_sl, Value.category]) ⟨rfl, rfl, rfl, trivial⟩ (fun sz => ?_)
  have h60 : ¬ 60 * r ≤ 0 := by
    obtain ⟨j, hj, rfl⟩ := nI_mk (x := r) (n := 7) (by omega) (by omega) (by decide)
    rw [nI_toInt (by omega)] at hr
    rcases (show j = 1 ∨ j = 2 ∨ j = 3 ∨ j = 4 ∨ j = 5 ∨ j = 6 by omega) with rfl | rfl | rfl | rfl | rfl | rfl <;> decide
  have h6n : ¬ 60 * r = 0 := fun e => h60 (by rw [e]; decide)
  refine v_bipush (pc := 0) (v := 60) dX5_drag_0 rfl ?_
  refine v_iload_n (pc := 2) dX5_drag_2 rfl rfl ?_
  refine v_imul (pc := 3) dX5_drag_3 ?_
  refine v_istore_n (pc := 4) dX5_drag_4 rfl (by decide) rfl ?_
  refine v_iload_n (pc := 5) dX5_drag_5 rfl rfl ?_
  refine v_if_le (pc := 6) (tgt := 15) dX5_drag_6 (by decide) (fun c6 => absurd c6 h60) (fun c6 => ?_)
  refine v_iload_n (pc := 9) dX5_drag_9 rfl rfl ?_
  refine v_iload_n (pc := 10) dX5_drag_10 rfl rfl ?_
  refine v_idiv (pc := 11) dX5_drag_11 h6n ?_
  refine v_goto (pc := 12) (tgt := 16) dX5_drag_12 (by decide) ?_
  refine v_iload_n (pc := 16) dX5_drag_16 rfl rfl ?_
  refine v_bipush (pc := 17) (v := 50) dX5_drag_17 rfl ?_
  refine v_icmp_lt (pc := 19) (tgt := 26) dX5_drag_19 (by decide) (fun c19 => ?_) (fun c19 => ?_)
  · refine v_iconst (pc := 26) (v := 0) dX5_drag_26 rfl ?_
    refine v_iadd (pc := 27) dX5_drag_27 ?_
    refine v_iret (pc := 28) rfl rfl (Nat.le_of_ble_eq_true rfl) dX5_drag_28 ?_
    exact ⟨by rw [if_neg (Int32.not_le.mpr c19)], rfl⟩
  · refine v_iconst (pc := 22) (v := 1) dX5_drag_22 rfl ?_
    refine v_goto (pc := 23) (tgt := 27) dX5_drag_23 (by decide) ?_
    refine v_iadd (pc := 27) dX5_drag_27 ?_
    refine v_iret (pc := 28) rfl rfl (Nat.le_of_ble_eq_true rfl) dX5_drag_28 ?_
    exact ⟨by rw [if_pos (Int32.not_lt.mp c19)], rfl⟩
set_option maxRecDepth 100000 in
set_option maxHeartbeats 4000000 in
theorem c_X5_beside {G : Cx} {k s : Nat} (hk : k < 160) (hs : s < 4) : Mt G Y_X5_beside 0 0 0 [.int (nI k), .int (nI s)] [] (fun v M' => v = some (.int (oI (nbr k s))) ∧ M' = []) (noX) := by
  refine Mt.of (L := [some (.int (nI k)), some (.int (nI s)), none]) rfl (by decide) (by simp [lg_sl, Value.category]) ⟨rfl, rfl, trivial⟩ (fun sz => ?_)
  have hx : nI k - nI k / 16 * 16 = nI (k % 16) := pk_rem (d := 16) (by omega) (by decide) (by decide)
  refine v_iload_n (pc := 0) dX5_beside_0 rfl rfl ?_
  refine v_bipush (pc := 1) (v := 16) dX5_beside_1 rfl ?_
  refine v_irem (pc := 3) dX5_beside_3 (by decide) ?_
  rw [hx]
  refine v_istore_n (pc := 4) dX5_beside_4 rfl (by decide) rfl ?_
  refine v_iload_n (pc := 5) dX5_beside_5 rfl rfl ?_
  by_cases w6_0 : nI s = nI 0
  · refine v_tsIn (pc := 6) (tgt := 32) dX5_beside_6 (sw_in (n := 2) w6_0 (by decide) (by decide)).1 (sw_in (n := 2) w6_0 (by decide) (by decide)).2.1 (off := 26) (by rw [(sw_in (n := 2) w6_0 (by decide) (by decide)).2.2]; rfl) (by decide) ?_
    obtain rfl : s = 0 := (nI_eq (by omega) (by omega)).mp w6_0
    refine v_iload_n (pc := 32) dX5_beside_32 rfl rfl ?_
    refine v_bipush (pc := 33) (v := 16) dX5_beside_33 rfl ?_
    refine v_icmp_ge (pc := 35) (tgt := 42) dX5_beside_35 (by decide) (fun c35 => ?_) (fun c35 => ?_)
    · have c35 : 16 ≤ k := (nI_leI (a := 16) (b := k) (by omega) (by omega)).mp c35
      refine v_iload_n (pc := 42) dX5_beside_42 rfl rfl ?_
      refine v_bipush (pc := 43) (v := 16) dX5_beside_43 rfl ?_
      refine v_isub (pc := 45) dX5_beside_45 ?_
      refine v_iret (pc := 46) rfl rfl (Nat.le_of_ble_eq_true rfl) dX5_beside_46 ?_
      exact ⟨by first | rw [nbr_u1 (by omega)] | rw [nbr_u2 (by omega)] | rw [nbr_l1 (by omega)] | rw [nbr_l2 (by omega)] | rw [nbr_r1 (by omega)] | rw [nbr_r2 (by omega)], rfl⟩
    · have c35 : ¬ 16 ≤ k := fun h => c35 ((nI_leI (a := 16) (b := k) (by omega) (by omega)).mpr h)
      refine v_iconst (pc := 38) (v := -1) dX5_beside_38 rfl ?_
      refine v_goto (pc := 39) (tgt := 46) dX5_beside_39 (by decide) ?_
      refine v_iret (pc := 46) rfl rfl (Nat.le_of_ble_eq_true rfl) dX5_beside_46 ?_
      exact ⟨by first | rw [nbr_u1 (by omega)] | rw [nbr_u2 (by omega)] | rw [nbr_l1 (by omega)] | rw [nbr_l2 (by omega)] | rw [nbr_r1 (by omega)] | rw [nbr_r2 (by omega)], rfl⟩
  by_cases w6_1 : nI s = nI 1
  · refine v_tsIn (pc := 6) (tgt := 47) dX5_beside_6 (sw_in (n := 2) w6_1 (by decide) (by decide)).1 (sw_in (n := 2) w6_1 (by decide) (by decide)).2.1 (off := 41) (by rw [(sw_in (n := 2) w6_1 (by decide) (by decide)).2.2]; rfl) (by decide) ?_
    obtain rfl : s = 1 := (nI_eq (by omega) (by omega)).mp w6_1
    refine v_iload_n (pc := 47) dX5_beside_47 rfl rfl ?_
    refine v_if_ne (pc := 48) (tgt := 55) dX5_beside_48 (by decide) (fun c48 => ?_) (fun c48 => ?_)
    · have c48 : ¬ (k % 16) = 0 := fun h => c48 ((nI_eq (a := (k % 16)) (b := 0) (by omega) (by omega)).mpr h)
      refine v_iload_n (pc := 55) dX5_beside_55 rfl rfl ?_
      refine v_iconst (pc := 56) (v := 1) dX5_beside_56 rfl ?_
      refine v_isub (pc := 57) dX5_beside_57 ?_
      refine v_iret (pc := 58) rfl rfl (Nat.le_of_ble_eq_true rfl) dX5_beside_58 ?_
      exact ⟨by first | rw [nbr_u1 (by omega)] | rw [nbr_u2 (by omega)] | rw [nbr_l1 (by omega)] | rw [nbr_l2 (by omega)] | rw [nbr_r1 (by omega)] | rw [nbr_r2 (by omega)], rfl⟩
    · have c48 : (k % 16) = 0 := (nI_eq (a := (k % 16)) (b := 0) (by omega) (by omega)).mp c48
      refine v_iconst (pc := 51) (v := -1) dX5_beside_51 rfl ?_
      refine v_goto (pc := 52) (tgt := 58) dX5_beside_52 (by decide) ?_
      refine v_iret (pc := 58) rfl rfl (Nat.le_of_ble_eq_true rfl) dX5_beside_58 ?_
      exact ⟨by first | rw [nbr_u1 (by omega)] | rw [nbr_u2 (by omega)] | rw [nbr_l1 (by omega)] | rw [nbr_l2 (by omega)] | rw [nbr_r1 (by omega)] | rw [nbr_r2 (by omega)], rfl⟩
  by_cases w6_2 : nI s = nI 2
  · refine v_tsIn (pc := 6) (tgt := 59) dX5_beside_6 (sw_in (n := 2) w6_2 (by decide) (by decide)).1 (sw_in (n := 2) w6_2 (by decide) (by decide)).2.1 (off := 53) (by rw [(sw_in (n := 2) w6_2 (by decide) (by decide)).2.2]; rfl) (by decide) ?_
    obtain rfl : s = 2 := (nI_eq (by omega) (by omega)).mp w6_2
    refine v_iload_n (pc := 59) dX5_beside_59 rfl rfl ?_
    refine v_bipush (pc := 60) (v := 15) dX5_beside_60 rfl ?_
    refine v_icmp_ne (pc := 62) (tgt := 69) dX5_beside_62 (by decide) (fun c62 => ?_) (fun c62 => ?_)
    · have c62 : ¬ (k % 16) = 15 := fun h => c62 ((nI_eq (a := (k % 16)) (b := 15) (by omega) (by omega)).mpr h)
      refine v_iload_n (pc := 69) dX5_beside_69 rfl rfl ?_
      refine v_iconst (pc := 70) (v := 1) dX5_beside_70 rfl ?_
      refine v_iadd (pc := 71) dX5_beside_71 ?_
      refine v_iret (pc := 72) rfl rfl (Nat.le_of_ble_eq_true rfl) dX5_beside_72 ?_
      exact ⟨by first | rw [nbr_u1 (by omega)] | rw [nbr_u2 (by omega)] | rw [nbr_l1 (by omega)] | rw [nbr_l2 (by omega)] | rw [nbr_r1 (by omega)] | rw [nbr_r2 (by omega)], rfl⟩
    · have c62 : (k % 16) = 15 := (nI_eq (a := (k % 16)) (b := 15) (by omega) (by omega)).mp c62
      refine v_iconst (pc := 65) (v := -1) dX5_beside_65 rfl ?_
      refine v_goto (pc := 66) (tgt := 72) dX5_beside_66 (by decide) ?_
      refine v_iret (pc := 72) rfl rfl (Nat.le_of_ble_eq_true rfl) dX5_beside_72 ?_
      exact ⟨by first | rw [nbr_u1 (by omega)] | rw [nbr_u2 (by omega)] | rw [nbr_l1 (by omega)] | rw [nbr_l2 (by omega)] | rw [nbr_r1 (by omega)] | rw [nbr_r2 (by omega)], rfl⟩
  refine v_tsOut (pc := 6) (tgt := 73) dX5_beside_6 (sw_out 2 (fun k hk h => by
    have hk2 : k = 0 ∨ k = 1 ∨ k = 2 := by omega
    rcases hk2 with rfl | rfl | rfl
    · exact w6_0 h
    · exact w6_1 h
    · exact w6_2 h)) (by decide) ?_
  refine v_iload_n (pc := 73) dX5_beside_73 rfl rfl ?_
  refine v_bipush (pc := 74) (v := 16) dX5_beside_74 rfl ?_
  refine v_iadd (pc := 76) dX5_beside_76 ?_
  rw [show nI k + 16 = nI (k + 16) from nI_add k 16]
  refine v_sipush (pc := 77) (v := 160) dX5_beside_77 rfl ?_
  refine v_icmp_ge (pc := 80) (tgt := 90) dX5_beside_80 (by decide) (fun c80 => ?_) (fun c80 => ?_)
  · have c80 : 160 ≤ (k + 16) := (nI_leI (a := 160) (b := (k + 16)) (by omega) (by omega)).mp c80
    refine v_iconst (pc := 90) (v := -1) dX5_beside_90 rfl ?_
    refine v_iret (pc := 91) rfl rfl (Nat.le_of_ble_eq_true rfl) dX5_beside_91 ?_
    have hs3 : 3 ≤ s := by
      have h0 : ¬ s = 0 := (fun h => w6_0 (by rw [h]))
      have h1 : ¬ s = 1 := (fun h => w6_1 (by rw [h]))
      have h2 : ¬ s = 2 := (fun h => w6_2 (by rw [h]))
      omega
    exact ⟨by first | rw [nbr_d1 hs3 (by omega)] | rw [nbr_d2 hs3 (by omega)], rfl⟩
  · have c80 : ¬ 160 ≤ (k + 16) := fun h => c80 ((nI_leI (a := 160) (b := (k + 16)) (by omega) (by omega)).mpr h)
    refine v_iload_n (pc := 83) dX5_beside_83 rfl rfl ?_
    refine v_bipush (pc := 84) (v := 16) dX5_beside_84 rfl ?_
    refine v_iadd (pc := 86) dX5_beside_86 ?_
    refine v_goto (pc := 87) (tgt := 91) dX5_beside_87 (by decide) ?_
    refine v_iret (pc := 91) rfl rfl (Nat.le_of_ble_eq_true rfl) dX5_beside_91 ?_
    have hs3 : 3 ≤ s := by
      have h0 : ¬ s = 0 := (fun h => w6_0 (by rw [h]))
      have h1 : ¬ s = 1 := (fun h => w6_1 (by rw [h]))
      have h2 : ¬ s = 2 := (fun h => w6_2 (by rw [h]))
      omega
    exact ⟨by first | rw [nbr_d1 hs3 (by omega)] | rw [nbr_d2 hs3 (by omega)], rfl⟩
