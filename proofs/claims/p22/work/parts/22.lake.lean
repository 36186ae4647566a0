/-! the lake -/
abbrev LakeM (w : Nat → Nat) (T N S C B O : Nat → Int32) (ch : Int32) : List ME := [eO 1 (w 5) [.ref (w 6), .ref (w 7), .ref (w 8), .ref (w 9), .ref (w 10), .ref (w 11), .int ch], eI (w 6) 160 T, eI (w 7) 160 N, eI (w 8) 160 S, eZ (w 9) 160 C, eZ (w 10) 160 B, eI (w 11) 8 O]
/-- a cell bears what needs ice so thick -/
def hoB (T C : Nat → Int32) (k : Nat) (nd : Int32) : Bool := decide (T k < 0) || decide ((if C k = 0 then nd else 2 * nd) ≤ T k)
theorem hoB_iff {T C : Nat → Int32} {k : Nat} {nd : Int32} : hoB T C k nd = true ↔ (T k < 0 ∨ (if C k = 0 then nd else 2 * nd) ≤ T k) := by unfold hoB; simp
theorem hoB_1 {T C : Nat → Int32} {k : Nat} {nd : Int32} (h : ¬ 0 ≤ T k) : hoB T C k nd = true := hoB_iff.mpr (Or.inl (Int32.not_le.mp h))
theorem hoB_c {T C : Nat → Int32} {k : Nat} {nd : Int32} (h : 0 ≤ T k) (h1 : ¬ C k = 0) : hoB T C k nd = true ↔ ¬ T k < 2 * nd := by
  rw [hoB_iff, if_neg h1]
  exact ⟨fun q => q.elim (fun q => absurd h (Int32.not_le.mpr q)) (fun q => Int32.not_lt.mpr q), fun q => Or.inr (Int32.not_lt.mp q)⟩
theorem hoB_n {T C : Nat → Int32} {k : Nat} {nd : Int32} (h : 0 ≤ T k) (h1 : C k = 0) : hoB T C k nd = true ↔ ¬ T k < nd := by
  rw [hoB_iff, if_pos h1]
  exact ⟨fun q => q.elim (fun q => absurd h (Int32.not_le.mpr q)) (fun q => Int32.not_lt.mpr q), fun q => Or.inr (Int32.not_lt.mp q)⟩
def sumN (f : Nat → Int32) : Nat → Int32
  | 0 => 0
  | n + 1 => sumN f n + f n
def suS (S : Nat → Int32) (k : Nat) : Int32 := if S k + 1 < 9 then S k + 1 else 9
def thin? (T C : Nat → Int32) (k : Nat) (nd : Int32) : Bool := decide (¬ T k < 0) && decide (T k < (if C k = 0 then nd else 2 * nd) + 10)
def suC (S C : Nat → Int32) (k : Nat) : Int32 := bI (¬ C k = 0 ∨ 3 ≤ suS S k)
/-- what a start does to the ice left -/
def stU (T S C : Nat → Int32) (k : Nat) (nd ch : Int32) : (Nat → Int32) × (Nat → Int32) × Int32 := if thin? T C k nd = true then (upd S k (suS S k), upd C k (suC S C k), ch) else (S, C, ch)
def fzT (f : Int32) (T : Nat → Int32) (j : Nat) : Int32 := if T j < 0 then T j else (if T j + f * 12 / (6 + T j / 10) < 200 then T j + f * 12 / (6 + T j / 10) else 200)
def fzS (T S : Nat → Int32) (j : Nat) : Int32 := if T j < 0 then S j else (if 0 < S j - 2 then S j - 2 else 0)
def thT (f : Int32) (T : Nat → Int32) (j : Nat) : Int32 := if T j < 0 then T j else (if 0 < T j - 3 * f then T j - 3 * f else 0)
def wcb (B : Nat → Int32) (k : Nat) : Nat → Bool
  | 0 => false
  | n + 1 => wcb B k n || (match nbr k n with
    | some j => !(decide (B j = 0))
    | none => false)
def spC (T S C : Nat → Int32) (j : Nat) : Int32 := if ¬ T j < 0 ∧ 1 ≤ S j ∧ wcb C j 4 = true then 1 else C j
def dgC (O : Nat → Int32) : Nat → Int64 → Int64
  | 0, d => d
  | n + 1, d => dgC O n d * 31 + (O n).toInt64
def dgL (T N S C : Nat → Int32) : Nat → Int64 → Int64
  | 0, d => d
  | n + 1, d => (((dgL T N S C n d * 31 + (T n).toInt64) * 31 + (N n).toInt64) * 31 + (S n).toInt64) * 31 + (bI (¬ C n = 0)).toInt64
theorem thin_c {T C : Nat → Int32} {k : Nat} {nd : Int32} (h : 0 ≤ T k) (h1 : ¬ C k = 0) : thin? T C k nd = true ↔ ¬ 2 * nd + 10 ≤ T k := by
  unfold thin?; rw [if_neg h1]; simp [Int32.not_lt.mpr h]
theorem thin_n {T C : Nat → Int32} {k : Nat} {nd : Int32} (h : 0 ≤ T k) (h1 : C k = 0) : thin? T C k nd = true ↔ ¬ nd + 10 ≤ T k := by
  unfold thin?; rw [if_pos h1]; simp [Int32.not_lt.mpr h]
theorem thin_l {T C : Nat → Int32} {k : Nat} {nd : Int32} (h : ¬ 0 ≤ T k) : ¬ thin? T C k nd = true := by
  unfold thin?; simp [Int32.not_le.mp h]
theorem suC_1 {S C : Nat → Int32} {k : Nat} (h : ¬ C k = 0 ∨ 3 ≤ suS S k) : suC S C k = 1 := bI_t h
theorem suC_0 {S C : Nat → Int32} {k : Nat} (h : C k = 0) (h2 : suS S k < 3) : suC S C k = 0 := bI_f (fun q => q.elim (fun q => q h) (fun q => absurd h2 (Int32.not_lt.mpr q)))
theorem div10_ne {t : Int32} (h : ¬ t < 0) : ¬ 6 + t / 10 = 0 := by
  obtain ⟨j, hj, rfl⟩ := nI_of h
  rw [show nI j / 10 = nI (j / 10) from pk_div (d := 10) hj (by decide) (by decide), show (6 : Int32) + nI (j / 10) = nI (6 + j / 10) from nI_add 6 _]
  exact nI_ne0 (by omega) (by omega)
theorem oI_some {k s j : Nat} (h : nbr k s = some j) : oI (nbr k s) = nI j := by rw [h]; rfl
theorem oI_none {k s : Nat} (h : nbr k s = none) : oI (nbr k s) = -1 := by rw [h]; rfl
/-- what isCell says of a neighbour -/
theorem oI_cell {k s : Nat} (hk : k < 160) : (0 ≤ oI (nbr k s) ∧ oI (nbr k s) < 160) ↔ ∃ j, nbr k s = some j ∧ j < 160 := by
  cases h : nbr k s with
  | none => simp [oI]
  | some j =>
    have hj := nbr_lt hk h
    simp only [oI, Option.some.injEq]
    exact ⟨fun _ => ⟨j, rfl, hj⟩, fun _ => ⟨nI_pos' (by omega), nI_lt (b := 160) hj (by decide)⟩⟩
theorem isCell_k {k : Nat} (hk : k < 160) : (0 : Int32) ≤ nI k ∧ nI k < 160 := ⟨nI_pos' (by omega), nI_lt (b := 160) hk (by decide)⟩
set_option maxRecDepth 100000 in
set_option maxHeartbeats 4000000 in
theorem c_X1_thicknessOf {G : Cx} {w : Nat → Nat} {T N S C B O : Nat → Int32} {ch : Int32} {k : Nat} (hk : k < 160) : Mt G Y_X1_thicknessOf 1 0 0 ([.ref (w 5)] ++ [.int (nI k)]) (LakeM w T N S C B O ch) (fun v M' => v = some (.int (T k)) ∧ M' = LakeM w T N S C B O ch) noX := by
  refine Mt.of (L := [some (.ref (w 5)), some (.int (nI k))]) rfl (by decide) (by simp [lg_sl, Value.category]) ⟨rfl, rfl, trivial⟩ (fun sz => ?_)
  refine v_iload_n (pc := 0) dX1_thicknessOf_0 rfl rfl ?_
  refine v_callSN1 (pc := 1) (c_X5_isCell ) cm_X5_isCell q296 q297 [] (by rfl) (by decide) (fun _ _ h => h) (by decide) (by decide) (by decide) (Nat.le_of_ble_eq_true rfl) dX1_thicknessOf_1 (fun v1 M1 hQ1 => ?_)
  obtain ⟨rfl, rfl⟩ := hQ1
  refine v_if_eq (pc := 4) (tgt := 16) dX1_thicknessOf_4 (by decide) (fun c4 => absurd (isCell_k hk) (bI_0.mp c4)) (fun c4 => ?_)
  have c4 := bI_n.mp c4
  refine v_aload_nR (pc := 7) dX1_thicknessOf_7 rfl rfl ?_
  refine v_get (pc := 8) 0 0 fg_X1_9 rfl rfl dX1_thicknessOf_8 ?_
  refine v_iload_n (pc := 11) dX1_thicknessOf_11 rfl rfl ?_
  refine v_ialdN (pc := 12) 1 (k := k) rfl (by omega) (by decide) dX1_thicknessOf_12 ?_
  refine v_goto (pc := 13) (tgt := 17) dX1_thicknessOf_13 (by decide) ?_
  refine v_iret (pc := 17) rfl rfl (Nat.le_of_ble_eq_true rfl) dX1_thicknessOf_17 ?_
  exact ⟨rfl, rfl⟩
set_option maxRecDepth 100000 in
set_option maxHeartbeats 4000000 in
theorem c_X1_strainOf {G : Cx} {w : Nat → Nat} {T N S C B O : Nat → Int32} {ch : Int32} {k : Nat} (hk : k < 160) : Mt G Y_X1_strainOf 1 0 0 ([.ref (w 5)] ++ [.int (nI k)]) (LakeM w T N S C B O ch) (fun v M' => v = some (.int (S k)) ∧ M' = LakeM w T N S C B O ch) noX := by
  refine Mt.of (L := [some (.ref (w 5)), some (.int (nI k))]) rfl (by decide) (by simp [lg_sl, Value.category]) ⟨rfl, rfl, trivial⟩ (fun sz => ?_)
  refine v_iload_n (pc := 0) dX1_strainOf_0 rfl rfl ?_
  refine v_callSN1 (pc := 1) (c_X5_isCell ) cm_X5_isCell q296 q297 [] (by rfl) (by decide) (fun _ _ h => h) (by decide) (by decide) (by decide) (Nat.le_of_ble_eq_true rfl) dX1_strainOf_1 (fun v1 M1 hQ1 => ?_)
  obtain ⟨rfl, rfl⟩ := hQ1
  refine v_if_eq (pc := 4) (tgt := 16) dX1_strainOf_4 (by decide) (fun c4 => absurd (isCell_k hk) (bI_0.mp c4)) (fun c4 => ?_)
  have c4 := bI_n.mp c4
  refine v_aload_nR (pc := 7) dX1_strainOf_7 rfl rfl ?_
  refine v_get (pc := 8) 2 0 fg_X1_18 rfl rfl dX1_strainOf_8 ?_
  refine v_iload_n (pc := 11) dX1_strainOf_11 rfl rfl ?_
  refine v_ialdN (pc := 12) 3 (k := k) rfl (by omega) (by decide) dX1_strainOf_12 ?_
  refine v_goto (pc := 13) (tgt := 17) dX1_strainOf_13 (by decide) ?_
  refine v_iret (pc := 17) rfl rfl (Nat.le_of_ble_eq_true rfl) dX1_strainOf_17 ?_
  exact ⟨rfl, rfl⟩
set_option maxRecDepth 100000 in
set_option maxHeartbeats 4000000 in
theorem c_X1_snowOf {G : Cx} {w : Nat → Nat} {T N S C B O : Nat → Int32} {ch : Int32} {k : Nat} (hk : k < 160) : Mt G Y_X1_snowOf 0 0 0 ([.ref (w 5)] ++ [.int (nI k)]) (LakeM w T N S C B O ch) (fun v M' => v = some (.int (N k)) ∧ M' = LakeM w T N S C B O ch) noX := by
  refine Mt.of (L := [some (.ref (w 5)), some (.int (nI k))]) rfl (by decide) (by simp [lg_sl, Value.category]) ⟨rfl, rfl, trivial⟩ (fun sz => ?_)
  refine v_iload_n (pc := 0) dX1_snowOf_0 rfl rfl ?_
  refine v_if_lt (pc := 1) (tgt := 11) dX1_snowOf_1 (by decide) (fun c1 => absurd c1 (nI_pos (by omega))) (fun c1 => ?_)
  have c1 : ¬ k < 0 := fun h => c1 ((nI_ltI (a := k) (b := 0) (by omega) (by omega)).mpr h)
  refine v_iload_n (pc := 4) dX1_snowOf_4 rfl rfl ?_
  refine v_sipush (pc := 5) (v := 160) dX1_snowOf_5 rfl ?_
  refine v_icmp_lt (pc := 8) (tgt := 15) dX1_snowOf_8 (by decide) (fun c8 => ?_) (fun c8 => absurd (nI_lt (b := 160) hk (by decide)) c8)
  have c8 : k < 160 := (nI_ltI (a := k) (b := 160) (by omega) (by omega)).mp c8
  refine v_aload_nR (pc := 15) dX1_snowOf_15 rfl rfl ?_
  refine v_get (pc := 16) 1 0 fg_X1_15 rfl rfl dX1_snowOf_16 ?_
  refine v_iload_n (pc := 19) dX1_snowOf_19 rfl rfl ?_
  refine v_ialdN (pc := 20) 2 (k := k) rfl (by omega) (by decide) dX1_snowOf_20 ?_
  refine v_iret (pc := 21) rfl rfl (Nat.le_of_ble_eq_true rfl) dX1_snowOf_21 ?_
  exact ⟨rfl, rfl⟩
set_option maxRecDepth 100000 in
set_option maxHeartbeats 4000000 in
theorem c_X1_isCracked {G : Cx} {w : Nat → Nat} {T N S C B O : Nat → Int32} {ch : Int32} {k : Nat} (hk : k < 160) : Mt G Y_X1_isCracked 1 0 0 ([.ref (w 5)] ++ [.int (nI k)]) (LakeM w T N S C B O ch) (fun v M' => v = some (.int (bI (¬ C k = 0))) ∧ M' = LakeM w T N S C B O ch) noX := by
  refine Mt.of (L := [some (.ref (w 5)), some (.int (nI k))]) rfl (by decide) (by simp [lg_sl, Value.category]) ⟨rfl, rfl, trivial⟩ (fun sz => ?_)
  refine v_iload_n (pc := 0) dX1_isCracked_0 rfl rfl ?_
  refine v_callSN1 (pc := 1) (c_X5_isCell ) cm_X5_isCell q296 q297 [] (by rfl) (by decide) (fun _ _ h => h) (by decide) (by decide) (by decide) (Nat.le_of_ble_eq_true rfl) dX1_isCracked_1 (fun v1 M1 hQ1 => ?_)
  obtain ⟨rfl, rfl⟩ := hQ1
  refine v_if_eq (pc := 4) (tgt := 20) dX1_isCracked_4 (by decide) (fun c4 => absurd (isCell_k hk) (bI_0.mp c4)) (fun c4 => ?_)
  have c4 := bI_n.mp c4
  refine v_aload_nR (pc := 7) dX1_isCracked_7 rfl rfl ?_
  refine v_get (pc := 8) 3 0 fg_X1_21 rfl rfl dX1_isCracked_8 ?_
  refine v_iload_n (pc := 11) dX1_isCracked_11 rfl rfl ?_
  refine v_zaldN (pc := 12) 4 (k := k) rfl (by omega) (by decide) dX1_isCracked_12 ?_
  refine v_if_eq (pc := 13) (tgt := 20) dX1_isCracked_13 (by decide) (fun c13 => ?_) (fun c13 => ?_)
  · refine v_iconst (pc := 20) (v := 0) dX1_isCracked_20 rfl ?_
    refine v_iret (pc := 21) rfl rfl (Nat.le_of_ble_eq_true rfl) dX1_isCracked_21 ?_
    exact ⟨by first | rw [bI_t (by assumption)] | rw [bI_f (by simp; assumption)], rfl⟩
  · refine v_iconst (pc := 16) (v := 1) dX1_isCracked_16 rfl ?_
    refine v_goto (pc := 17) (tgt := 21) dX1_isCracked_17 (by decide) ?_
    refine v_iret (pc := 21) rfl rfl (Nat.le_of_ble_eq_true rfl) dX1_isCracked_21 ?_
    exact ⟨by first | rw [bI_t (by assumption)] | rw [bI_f (by simp; assumption)], rfl⟩
set_option maxRecDepth 100000 in
set_option maxHeartbeats 4000000 in
theorem c_X1_holds {G : Cx} {w : Nat → Nat} {T N S C B O : Nat → Int32} {ch : Int32} {k : Nat} (hk : k < 160) {nd : Int32} : Mt G Y_X1_holds 0 0 0 ([.ref (w 5)] ++ [.int (nI k), .int nd]) (LakeM w T N S C B O ch) (fun v M' => v = some (.int (bI (hoB T C k nd = true))) ∧ M' = LakeM w T N S C B O ch) noX := by
  refine Mt.of (L := [some (.ref (w 5)), some (.int (nI k)), some (.int nd)]) rfl (by decide) (by simp [lg_sl, Value.category]) ⟨rfl, rfl, rfl, trivial⟩ (fun sz => ?_)
  refine v_iload_n (pc := 0) dX1_holds_0 rfl rfl ?_
  refine v_if_lt (pc := 1) (tgt := 20) dX1_holds_1 (by decide) (fun c1 => absurd c1 (nI_pos (by omega))) (fun c1 => ?_)
  have c1 : ¬ k < 0 := fun h => c1 ((nI_ltI (a := k) (b := 0) (by omega) (by omega)).mpr h)
  refine v_iload_n (pc := 4) dX1_holds_4 rfl rfl ?_
  refine v_sipush (pc := 5) (v := 160) dX1_holds_5 rfl ?_
  refine v_icmp_ge (pc := 8) (tgt := 20) dX1_holds_8 (by decide) (fun c8 => absurd c8 (nI_ge (a := k) (b := 160) hk (by decide))) (fun c8 => ?_)
  have c8 : ¬ 160 ≤ k := fun h => c8 ((nI_leI (a := 160) (b := k) (by omega) (by omega)).mpr h)
  refine v_aload_nR (pc := 11) dX1_holds_11 rfl rfl ?_
  refine v_get (pc := 12) 0 0 fg_X1_9 rfl rfl dX1_holds_12 ?_
  refine v_iload_n (pc := 15) dX1_holds_15 rfl rfl ?_
  refine v_ialdN (pc := 16) 1 (k := k) rfl (by omega) (by decide) dX1_holds_16 ?_
  refine v_if_ge (pc := 17) (tgt := 22) dX1_holds_17 (by decide) (fun c17 => ?_) (fun c17 => ?_)
  · refine v_aload_nR (pc := 22) dX1_holds_22 rfl rfl ?_
    refine v_get (pc := 23) 0 0 fg_X1_9 rfl rfl dX1_holds_23 ?_
    refine v_iload_n (pc := 26) dX1_holds_26 rfl rfl ?_
    refine v_ialdN (pc := 27) 1 (k := k) rfl (by omega) (by decide) dX1_holds_27 ?_
    refine v_aload_nR (pc := 28) dX1_holds_28 rfl rfl ?_
    refine v_get (pc := 29) 3 0 fg_X1_21 rfl rfl dX1_holds_29 ?_
    refine v_iload_n (pc := 32) dX1_holds_32 rfl rfl ?_
    refine v_zaldN (pc := 33) 4 (k := k) rfl (by omega) (by decide) dX1_holds_33 ?_
    refine v_if_eq (pc := 34) (tgt := 43) dX1_holds_34 (by decide) (fun c34 => ?_) (fun c34 => ?_)
    · refine v_iload_n (pc := 43) dX1_holds_43 rfl rfl ?_
      refine v_icmp_lt (pc := 44) (tgt := 51) dX1_holds_44 (by decide) (fun c44 => ?_) (fun c44 => ?_)
      · refine v_iconst (pc := 51) (v := 0) dX1_holds_51 rfl ?_
        refine v_iret (pc := 52) rfl rfl (Nat.le_of_ble_eq_true rfl) dX1_holds_52 ?_
        exact ⟨by first | rw [bI_t ((hoB_c c17 c34).mpr c44)] | rw [bI_f (fun h => absurd c44 ((hoB_c c17 c34).mp h))] | rw [bI_t ((hoB_n c17 c34).mpr c44)] | rw [bI_f (fun h => absurd c44 ((hoB_n c17 c34).mp h))], rfl⟩
      · refine v_iconst (pc := 47) (v := 1) dX1_holds_47 rfl ?_
        refine v_goto (pc := 48) (tgt := 52) dX1_holds_48 (by decide) ?_
        refine v_iret (pc := 52) rfl rfl (Nat.le_of_ble_eq_true rfl) dX1_holds_52 ?_
        exact ⟨by first | rw [bI_t ((hoB_c c17 c34).mpr c44)] | rw [bI_f (fun h => absurd c44 ((hoB_c c17 c34).mp h))] | rw [bI_t ((hoB_n c17 c34).mpr c44)] | rw [bI_f (fun h => absurd c44 ((hoB_n c17 c34).mp h))], rfl⟩
    · refine v_iconst (pc := 37) (v := 2) dX1_holds_37 rfl ?_
      refine v_iload_n (pc := 38) dX1_holds_38 rfl rfl ?_
      refine v_imul (pc := 39) dX1_holds_39 ?_
      refine v_goto (pc := 40) (tgt := 44) dX1_holds_40 (by decide) ?_
      refine v_icmp_lt (pc := 44) (tgt := 51) dX1_holds_44 (by decide) (fun c44 => ?_) (fun c44 => ?_)
      · refine v_iconst (pc := 51) (v := 0) dX1_holds_51 rfl ?_
        refine v_iret (pc := 52) rfl rfl (Nat.le_of_ble_eq_true rfl) dX1_holds_52 ?_
        exact ⟨by first | rw [bI_t ((hoB_c c17 c34).mpr c44)] | rw [bI_f (fun h => absurd c44 ((hoB_c c17 c34).mp h))] | rw [bI_t ((hoB_n c17 c34).mpr c44)] | rw [bI_f (fun h => absurd c44 ((hoB_n c17 c34).mp h))], rfl⟩
      · refine v_iconst (pc := 47) (v := 1) dX1_holds_47 rfl ?_
        refine v_goto (pc := 48) (tgt := 52) dX1_holds_48 (by decide) ?_
        refine v_iret (pc := 52) rfl rfl (Nat.le_of_ble_eq_true rfl) dX1_holds_52 ?_
        exact ⟨by first | rw [bI_t ((hoB_c c17 c34).mpr c44)] | rw [bI_f (fun h => absurd c44 ((hoB_c c17 c34).mp h))] | rw [bI_t ((hoB_n c17 c34).mpr c44)] | rw [bI_f (fun h => absurd c44 ((hoB_n c17 c34).mp h))], rfl⟩
  · refine v_iconst (pc := 20) (v := 1) dX1_holds_20 rfl ?_
    refine v_iret (pc := 21) rfl rfl (Nat.le_of_ble_eq_true rfl) dX1_holds_21 ?_
    exact ⟨by rw [bI_t (hoB_1 c17)], rfl⟩
set_option maxRecDepth 100000 in
set_option maxHeartbeats 4000000 in
theorem c_X1_snowOver {G : Cx} {w : Nat → Nat} {T N S C B O : Nat → Int32} {ch : Int32} {k : Nat} (hk : k < 160) {x : Int32} : Mt G Y_X1_snowOver 1 0 0 ([.ref (w 5)] ++ [.int (nI k), .int x]) (LakeM w T N S C B O ch) (fun v M' => v = none ∧ M' = LakeM w T (upd N k x) S C B O ch) noX := by
  refine Mt.of (L := [some (.ref (w 5)), some (.int (nI k)), some (.int x)]) rfl (by decide) (by simp [lg_sl, Value.category]) ⟨rfl, rfl, rfl, trivial⟩ (fun sz => ?_)
  refine v_iload_n (pc := 0) dX1_snowOver_0 rfl rfl ?_
  refine v_callSN1 (pc := 1) (c_X5_isCell ) cm_X5_isCell q296 q297 [] (by rfl) (by decide) (fun _ _ h => h) (by decide) (by decide) (by decide) (Nat.le_of_ble_eq_true rfl) dX1_snowOver_1 (fun v1 M1 hQ1 => ?_)
  obtain ⟨rfl, rfl⟩ := hQ1
  refine v_if_eq (pc := 4) (tgt := 14) dX1_snowOver_4 (by decide) (fun c4 => absurd (isCell_k hk) (bI_0.mp c4)) (fun c4 => ?_)
  have c4 := bI_n.mp c4
  refine v_aload_nR (pc := 7) dX1_snowOver_7 rfl rfl ?_
  refine v_get (pc := 8) 1 0 fg_X1_15 rfl rfl dX1_snowOver_8 ?_
  refine v_iload_n (pc := 11) dX1_snowOver_11 rfl rfl ?_
  refine v_iload_n (pc := 12) dX1_snowOver_12 rfl rfl ?_
  refine v_iastN (pc := 13) 2 (k := k) rfl (by omega) (by decide) dX1_snowOver_13 ?_
  refine v_vret (pc := 14) rfl (Nat.le_of_ble_eq_true rfl) dX1_snowOver_14 ?_
  exact ⟨rfl, rfl⟩
set_option maxRecDepth 100000 in
set_option maxHeartbeats 4000000 in
theorem c_X1_lay {G : Cx} {w : Nat → Nat} {T N S C B O : Nat → Int32} {ch : Int32} {k : Nat} (hk : k < 160) {x : Int32} : Mt G Y_X1_lay 1 0 0 ([.ref (w 5)] ++ [.int (nI k), .int x]) (LakeM w T N S C B O ch) (fun v M' => v = none ∧ M' = LakeM w (upd T k x) N (upd S k 0) (upd C k 0) B O (ch + 1)) noX := by
  refine Mt.of (L := [some (.ref (w 5)), some (.int (nI k)), some (.int x)]) rfl (by decide) (by simp [lg_sl, Value.category]) ⟨rfl, rfl, rfl, trivial⟩ (fun sz => ?_)
  refine v_iload_n (pc := 0) dX1_lay_0 rfl rfl ?_
  refine v_callSN1 (pc := 1) (c_X5_isCell ) cm_X5_isCell q296 q297 [] (by rfl) (by decide) (fun _ _ h => h) (by decide) (by decide) (by decide) (Nat.le_of_ble_eq_true rfl) dX1_lay_1 (fun v1 M1 hQ1 => ?_)
  obtain ⟨rfl, rfl⟩ := hQ1
  refine v_if_eq (pc := 4) (tgt := 38) dX1_lay_4 (by decide) (fun c4 => absurd (isCell_k hk) (bI_0.mp c4)) (fun c4 => ?_)
  have c4 := bI_n.mp c4
  refine v_aload_nR (pc := 7) dX1_lay_7 rfl rfl ?_
  refine v_get (pc := 8) 0 0 fg_X1_9 rfl rfl dX1_lay_8 ?_
  refine v_iload_n (pc := 11) dX1_lay_11 rfl rfl ?_
  refine v_iload_n (pc := 12) dX1_lay_12 rfl rfl ?_
  refine v_iastN (pc := 13) 1 (k := k) rfl (by omega) (by decide) dX1_lay_13 ?_
  refine v_aload_nR (pc := 14) dX1_lay_14 rfl rfl ?_
  refine v_get (pc := 15) 2 0 fg_X1_18 rfl rfl dX1_lay_15 ?_
  refine v_iload_n (pc := 18) dX1_lay_18 rfl rfl ?_
  refine v_iconst (pc := 19) (v := 0) dX1_lay_19 rfl ?_
  refine v_iastN (pc := 20) 3 (k := k) rfl (by omega) (by decide) dX1_lay_20 ?_
  refine v_aload_nR (pc := 21) dX1_lay_21 rfl rfl ?_
  refine v_get (pc := 22) 3 0 fg_X1_21 rfl rfl dX1_lay_22 ?_
  refine v_iload_n (pc := 25) dX1_lay_25 rfl rfl ?_
  refine v_iconst (pc := 26) (v := 0) dX1_lay_26 rfl ?_
  refine v_zastN (pc := 27) 4 (k := k) rfl (by omega) (by decide) rfl dX1_lay_27 ?_
  refine v_aload_nR (pc := 28) dX1_lay_28 rfl rfl ?_
  refine v_dup (pc := 29) dX1_lay_29 rfl ?_
  refine v_get (pc := 30) 6 0 fg_X1_47 rfl rfl dX1_lay_30 ?_
  refine v_iconst (pc := 33) (v := 1) dX1_lay_33 rfl ?_
  refine v_iadd (pc := 34) dX1_lay_34 ?_
  refine v_put (pc := 35) 6 0 fp_X1_lay_47 rfl rfl rfl (Nat.le_of_ble_eq_true rfl) dX1_lay_35 ?_
  refine v_vret (pc := 38) rfl (Nat.le_of_ble_eq_true rfl) dX1_lay_38 ?_
  exact ⟨rfl, rfl⟩
set_option maxRecDepth 100000 in
set_option maxHeartbeats 4000000 in
theorem c_X1_strainUnder {G : Cx} {w : Nat → Nat} {T N S C B O : Nat → Int32} {ch : Int32} {k : Nat} (hk : k < 160) {nd : Int32} : Mt G Y_X1_strainUnder 1 0 0 ([.ref (w 5)] ++ [.int (nI k), .int nd]) (LakeM w T N S C B O ch) (fun v M' => v = none ∧ M' = LakeM w T N (stU T S C k nd ch).1 (stU T S C k nd ch).2.1 B O (stU T S C k nd ch).2.2) noX := by
  refine Mt.of (L := [some (.ref (w 5)), some (.int (nI k)), some (.int nd), none]) rfl (by decide) (by simp [lg_sl, Value.category]) ⟨rfl, rfl, rfl, trivial⟩ (fun sz => ?_)
  refine v_iload_n (pc := 0) dX1_strainUnder_0 rfl rfl ?_
  refine v_callSN1 (pc := 1) (c_X5_isCell ) cm_X5_isCell q296 q297 [] (by rfl) (by decide) (fun _ _ h => h) (by decide) (by decide) (by decide) (Nat.le_of_ble_eq_true rfl) dX1_strainUnder_1 (fun v1 M1 hQ1 => ?_)
  obtain ⟨rfl, rfl⟩ := hQ1
  refine v_if_eq (pc := 4) (tgt := 16) dX1_strainUnder_4 (by decide) (fun c4 => absurd (isCell_k hk) (bI_0.mp c4)) (fun c4 => ?_)
  have c4 := bI_n.mp c4
  refine v_aload_nR (pc := 7) dX1_strainUnder_7 rfl rfl ?_
  refine v_get (pc := 8) 0 0 fg_X1_9 rfl rfl dX1_strainUnder_8 ?_
  refine v_iload_n (pc := 11) dX1_strainUnder_11 rfl rfl ?_
  refine v_ialdN (pc := 12) 1 (k := k) rfl (by omega) (by decide) dX1_strainUnder_12 ?_
  refine v_if_ge (pc := 13) (tgt := 17) dX1_strainUnder_13 (by decide) (fun c13 => ?_) (fun c13 => ?_)
  · refine v_aload_nR (pc := 17) dX1_strainUnder_17 rfl rfl ?_
    refine v_get (pc := 18) 3 0 fg_X1_21 rfl rfl dX1_strainUnder_18 ?_
    refine v_iload_n (pc := 21) dX1_strainUnder_21 rfl rfl ?_
    refine v_zaldN (pc := 22) 4 (k := k) rfl (by omega) (by decide) dX1_strainUnder_22 ?_
    refine v_if_eq (pc := 23) (tgt := 32) dX1_strainUnder_23 (by decide) (fun c23 => ?_) (fun c23 => ?_)
    · refine v_iload_n (pc := 32) dX1_strainUnder_32 rfl rfl ?_
      refine v_istore_n (pc := 33) dX1_strainUnder_33 rfl (by decide) rfl ?_
      refine v_aload_nR (pc := 34) dX1_strainUnder_34 rfl rfl ?_
      refine v_get (pc := 35) 0 0 fg_X1_9 rfl rfl dX1_strainUnder_35 ?_
      refine v_iload_n (pc := 38) dX1_strainUnder_38 rfl rfl ?_
      refine v_ialdN (pc := 39) 1 (k := k) rfl (by omega) (by decide) dX1_strainUnder_39 ?_
      refine v_iload_n (pc := 40) dX1_strainUnder_40 rfl rfl ?_
      refine v_bipush (pc := 41) (v := 10) dX1_strainUnder_41 rfl ?_
      refine v_iadd (pc := 43) dX1_strainUnder_43 ?_
      refine v_icmp_ge (pc := 44) (tgt := 96) dX1_strainUnder_44 (by decide) (fun c44 => ?_) (fun c44 => ?_)
      · refine v_vret (pc := 96) rfl (Nat.le_of_ble_eq_true rfl) dX1_strainUnder_96 ?_
        first
          | exact absurd c23 c77
          | exact absurd c77 c23
          | (refine ⟨rfl, ?_⟩; unfold stU; rw [if_neg (fun h => absurd c44 ((thin_c c13 c23).mp h))]; rfl)
          | (refine ⟨rfl, ?_⟩; unfold stU; rw [if_neg (fun h => absurd c44 ((thin_n c13 c23).mp h))]; rfl)
          | (refine ⟨rfl, ?_⟩; unfold stU; rw [if_pos ((thin_c c13 c23).mpr c44), suC_1 (Or.inl c77)]; rfl)
          | (rw [pk_us] at c87; refine ⟨rfl, ?_⟩; unfold stU; rw [if_pos ((thin_n c13 c23).mpr c44), suC_1 (Or.inr (Int32.not_lt.mp c87))]; rfl)
          | (rw [pk_us] at c87; refine ⟨rfl, ?_⟩; unfold stU; rw [if_pos ((thin_n c13 c23).mpr c44), suC_0 c77 c87]; rfl)
      · refine v_aload_nR (pc := 47) dX1_strainUnder_47 rfl rfl ?_
        refine v_get (pc := 48) 2 0 fg_X1_18 rfl rfl dX1_strainUnder_48 ?_
        refine v_iload_n (pc := 51) dX1_strainUnder_51 rfl rfl ?_
        refine v_bipush (pc := 52) (v := 9) dX1_strainUnder_52 rfl ?_
        refine v_aload_nR (pc := 54) dX1_strainUnder_54 rfl rfl ?_
        refine v_get (pc := 55) 2 0 fg_X1_18 rfl rfl dX1_strainUnder_55 ?_
        refine v_iload_n (pc := 58) dX1_strainUnder_58 rfl rfl ?_
        refine v_ialdN (pc := 59) 3 (k := k) rfl (by omega) (by decide) dX1_strainUnder_59 ?_
        refine v_iconst (pc := 60) (v := 1) dX1_strainUnder_60 rfl ?_
        refine v_iadd (pc := 61) dX1_strainUnder_61 ?_
        refine v_mmin (pc := 62) q402 q403 q15 q404 (by decide) (Nat.le_of_ble_eq_true rfl) dX1_strainUnder_62 ?_
        refine v_iastN (pc := 65) 3 (k := k) rfl (by omega) (by decide) dX1_strainUnder_65 ?_
        refine v_aload_nR (pc := 66) dX1_strainUnder_66 rfl rfl ?_
        refine v_get (pc := 67) 3 0 fg_X1_21 rfl rfl dX1_strainUnder_67 ?_
        refine v_iload_n (pc := 70) dX1_strainUnder_70 rfl rfl ?_
        refine v_aload_nR (pc := 71) dX1_strainUnder_71 rfl rfl ?_
        refine v_get (pc := 72) 3 0 fg_X1_21 rfl rfl dX1_strainUnder_72 ?_
        refine v_iload_n (pc := 75) dX1_strainUnder_75 rfl rfl ?_
        refine v_zaldN (pc := 76) 4 (k := k) rfl (by omega) (by decide) dX1_strainUnder_76 ?_
        refine v_if_ne (pc := 77) (tgt := 90) dX1_strainUnder_77 (by decide) (fun c77 => ?_) (fun c77 => ?_)
        · refine v_iconst (pc := 90) (v := 1) dX1_strainUnder_90 rfl ?_
          refine v_goto (pc := 91) (tgt := 95) dX1_strainUnder_91 (by decide) ?_
          refine v_zastN (pc := 95) 4 (k := k) rfl (by omega) (by decide) rfl dX1_strainUnder_95 ?_
          refine v_vret (pc := 96) rfl (Nat.le_of_ble_eq_true rfl) dX1_strainUnder_96 ?_
          first
            | exact absurd c23 c77
            | exact absurd c77 c23
            | (refine ⟨rfl, ?_⟩; unfold stU; rw [if_neg (fun h => absurd c44 ((thin_c c13 c23).mp h))]; rfl)
            | (refine ⟨rfl, ?_⟩; unfold stU; rw [if_neg (fun h => absurd c44 ((thin_n c13 c23).mp h))]; rfl)
            | (refine ⟨rfl, ?_⟩; unfold stU; rw [if_pos ((thin_c c13 c23).mpr c44), suC_1 (Or.inl c77)]; rfl)
            | (rw [pk_us] at c87; refine ⟨rfl, ?_⟩; unfold stU; rw [if_pos ((thin_n c13 c23).mpr c44), suC_1 (Or.inr (Int32.not_lt.mp c87))]; rfl)
            | (rw [pk_us] at c87; refine ⟨rfl, ?_⟩; unfold stU; rw [if_pos ((thin_n c13 c23).mpr c44), suC_0 c77 c87]; rfl)
        · refine v_aload_nR (pc := 80) dX1_strainUnder_80 rfl rfl ?_
          refine v_get (pc := 81) 2 0 fg_X1_18 rfl rfl dX1_strainUnder_81 ?_
          refine v_iload_n (pc := 84) dX1_strainUnder_84 rfl rfl ?_
          refine v_ialdN (pc := 85) 3 (k := k) rfl (by omega) (by decide) dX1_strainUnder_85 ?_
          refine v_iconst (pc := 86) (v := 3) dX1_strainUnder_86 rfl ?_
          refine v_icmp_lt (pc := 87) (tgt := 94) dX1_strainUnder_87 (by decide) (fun c87 => ?_) (fun c87 => ?_)
          · refine v_iconst (pc := 94) (v := 0) dX1_strainUnder_94 rfl ?_
            refine v_zastN (pc := 95) 4 (k := k) rfl (by omega) (by decide) rfl dX1_strainUnder_95 ?_
            refine v_vret (pc := 96) rfl (Nat.le_of_ble_eq_true rfl) dX1_strainUnder_96 ?_
            first
              | exact absurd c23 c77
              | exact absurd c77 c23
              | (refine ⟨rfl, ?_⟩; unfold stU; rw [if_neg (fun h => absurd c44 ((thin_c c13 c23).mp h))]; rfl)
              | (refine ⟨rfl, ?_⟩; unfold stU; rw [if_neg (fun h => absurd c44 ((thin_n c13 c23).mp h))]; rfl)
              | (refine ⟨rfl, ?_⟩; unfold stU; rw [if_pos ((thin_c c13 c23).mpr c44), suC_1 (Or.inl c77)]; rfl)
              | (rw [pk_us] at c87; refine ⟨rfl, ?_⟩; unfold stU; rw [if_pos ((thin_n c13 c23).mpr c44), suC_1 (Or.inr (Int32.not_lt.mp c87))]; rfl)
              | (rw [pk_us] at c87; refine ⟨rfl, ?_⟩; unfold stU; rw [if_pos ((thin_n c13 c23).mpr c44), suC_0 c77 c87]; rfl)
          · refine v_iconst (pc := 90) (v := 1) dX1_strainUnder_90 rfl ?_
            refine v_goto (pc := 91) (tgt := 95) dX1_strainUnder_91 (by decide) ?_
            refine v_zastN (pc := 95) 4 (k := k) rfl (by omega) (by decide) rfl dX1_strainUnder_95 ?_
            refine v_vret (pc := 96) rfl (Nat.le_of_ble_eq_true rfl) dX1_strainUnder_96 ?_
            first
              | exact absurd c23 c77
              | exact absurd c77 c23
              | (refine ⟨rfl, ?_⟩; unfold stU; rw [if_neg (fun h => absurd c44 ((thin_c c13 c23).mp h))]; rfl)
              | (refine ⟨rfl, ?_⟩; unfold stU; rw [if_neg (fun h => absurd c44 ((thin_n c13 c23).mp h))]; rfl)
              | (refine ⟨rfl, ?_⟩; unfold stU; rw [if_pos ((thin_c c13 c23).mpr c44), suC_1 (Or.inl c77)]; rfl)
              | (rw [pk_us] at c87; refine ⟨rfl, ?_⟩; unfold stU; rw [if_pos ((thin_n c13 c23).mpr c44), suC_1 (Or.inr (Int32.not_lt.mp c87))]; rfl)
              | (rw [pk_us] at c87; refine ⟨rfl, ?_⟩; unfold stU; rw [if_pos ((thin_n c13 c23).mpr c44), suC_0 c77 c87]; rfl)
    · refine v_iconst (pc := 26) (v := 2) dX1_strainUnder_26 rfl ?_
      refine v_iload_n (pc := 27) dX1_strainUnder_27 rfl rfl ?_
      refine v_imul (pc := 28) dX1_strainUnder_28 ?_
      refine v_goto (pc := 29) (tgt := 33) dX1_strainUnder_29 (by decide) ?_
      refine v_istore_n (pc := 33) dX1_strainUnder_33 rfl (by decide) rfl ?_
      refine v_aload_nR (pc := 34) dX1_strainUnder_34 rfl rfl ?_
      refine v_get (pc := 35) 0 0 fg_X1_9 rfl rfl dX1_strainUnder_35 ?_
      refine v_iload_n (pc := 38) dX1_strainUnder_38 rfl rfl ?_
      refine v_ialdN (pc := 39) 1 (k := k) rfl (by omega) (by decide) dX1_strainUnder_39 ?_
      refine v_iload_n (pc := 40) dX1_strainUnder_40 rfl rfl ?_
      refine v_bipush (pc := 41) (v := 10) dX1_strainUnder_41 rfl ?_
      refine v_iadd (pc := 43) dX1_strainUnder_43 ?_
      refine v_icmp_ge (pc := 44) (tgt := 96) dX1_strainUnder_44 (by decide) (fun c44 => ?_) (fun c44 => ?_)
      · refine v_vret (pc := 96) rfl (Nat.le_of_ble_eq_true rfl) dX1_strainUnder_96 ?_
        first
          | exact absurd c23 c77
          | exact absurd c77 c23
          | (refine ⟨rfl, ?_⟩; unfold stU; rw [if_neg (fun h => absurd c44 ((thin_c c13 c23).mp h))]; rfl)
          | (refine ⟨rfl, ?_⟩; unfold stU; rw [if_neg (fun h => absurd c44 ((thin_n c13 c23).mp h))]; rfl)
          | (refine ⟨rfl, ?_⟩; unfold stU; rw [if_pos ((thin_c c13 c23).mpr c44), suC_1 (Or.inl c77)]; rfl)
          | (rw [pk_us] at c87; refine ⟨rfl, ?_⟩; unfold stU; rw [if_pos ((thin_n c13 c23).mpr c44), suC_1 (Or.inr (Int32.not_lt.mp c87))]; rfl)
          | (rw [pk_us] at c87; refine ⟨rfl, ?_⟩; unfold stU; rw [if_pos ((thin_n c13 c23).mpr c44), suC_0 c77 c87]; rfl)
      · refine v_aload_nR (pc := 47) dX1_strainUnder_47 rfl rfl ?_
        refine v_get (pc := 48) 2 0 fg_X1_18 rfl rfl dX1_strainUnder_48 ?_
        refine v_iload_n (pc := 51) dX1_strainUnder_51 rfl rfl ?_
        refine v_bipush (pc := 52) (v := 9) dX1_strainUnder_52 rfl ?_
        refine v_aload_nR (pc := 54) dX1_strainUnder_54 rfl rfl ?_
        refine v_get (pc := 55) 2 0 fg_X1_18 rfl rfl dX1_strainUnder_55 ?_
        refine v_iload_n (pc := 58) dX1_strainUnder_58 rfl rfl ?_
        refine v_ialdN (pc := 59) 3 (k := k) rfl (by omega) (by decide) dX1_strainUnder_59 ?_
        refine v_iconst (pc := 60) (v := 1) dX1_strainUnder_60 rfl ?_
        refine v_iadd (pc := 61) dX1_strainUnder_61 ?_
        refine v_mmin (pc := 62) q402 q403 q15 q404 (by decide) (Nat.le_of_ble_eq_true rfl) dX1_strainUnder_62 ?_
        refine v_iastN (pc := 65) 3 (k := k) rfl (by omega) (by decide) dX1_strainUnder_65 ?_
        refine v_aload_nR (pc := 66) dX1_strainUnder_66 rfl rfl ?_
        refine v_get (pc := 67) 3 0 fg_X1_21 rfl rfl dX1_strainUnder_67 ?_
        refine v_iload_n (pc := 70) dX1_strainUnder_70 rfl rfl ?_
        refine v_aload_nR (pc := 71) dX1_strainUnder_71 rfl rfl ?_
        refine v_get (pc := 72) 3 0 fg_X1_21 rfl rfl dX1_strainUnder_72 ?_
        refine v_iload_n (pc := 75) dX1_strainUnder_75 rfl rfl ?_
        refine v_zaldN (pc := 76) 4 (k := k) rfl (by omega) (by decide) dX1_strainUnder_76 ?_
        refine v_if_ne (pc := 77) (tgt := 90) dX1_strainUnder_77 (by decide) (fun c77 => ?_) (fun c77 => ?_)
        · refine v_iconst (pc := 90) (v := 1) dX1_strainUnder_90 rfl ?_
          refine v_goto (pc := 91) (tgt := 95) dX1_strainUnder_91 (by decide) ?_
          refine v_zastN (pc := 95) 4 (k := k) rfl (by omega) (by decide) rfl dX1_strainUnder_95 ?_
          refine v_vret (pc := 96) rfl (Nat.le_of_ble_eq_true rfl) dX1_strainUnder_96 ?_
          first
            | exact absurd c23 c77
            | exact absurd c77 c23
            | (refine ⟨rfl, ?_⟩; unfold stU; rw [if_neg (fun h => absurd c44 ((thin_c c13 c23).mp h))]; rfl)
            | (refine ⟨rfl, ?_⟩; unfold stU; rw [if_neg (fun h => absurd c44 ((thin_n c13 c23).mp h))]; rfl)
            | (refine ⟨rfl, ?_⟩; unfold stU; rw [if_pos ((thin_c c13 c23).mpr c44), suC_1 (Or.inl c77)]; rfl)
            | (rw [pk_us] at c87; refine ⟨rfl, ?_⟩; unfold stU; rw [if_pos ((thin_n c13 c23).mpr c44), suC_1 (Or.inr (Int32.not_lt.mp c87))]; rfl)
            | (rw [pk_us] at c87; refine ⟨rfl, ?_⟩; unfold stU; rw [if_pos ((thin_n c13 c23).mpr c44), suC_0 c77 c87]; rfl)
        · refine v_aload_nR (pc := 80) dX1_strainUnder_80 rfl rfl ?_
          refine v_get (pc := 81) 2 0 fg_X1_18 rfl rfl dX1_strainUnder_81 ?_
          refine v_iload_n (pc := 84) dX1_strainUnder_84 rfl rfl ?_
          refine v_ialdN (pc := 85) 3 (k := k) rfl (by omega) (by decide) dX1_strainUnder_85 ?_
          refine v_iconst (pc := 86) (v := 3) dX1_strainUnder_86 rfl ?_
          refine v_icmp_lt (pc := 87) (tgt := 94) dX1_strainUnder_87 (by decide) (fun c87 => ?_) (fun c87 => ?_)
          · refine v_iconst (pc := 94) (v := 0) dX1_strainUnder_94 rfl ?_
            refine v_zastN (pc := 95) 4 (k := k) rfl (by omega) (by decide) rfl dX1_strainUnder_95 ?_
            refine v_vret (pc := 96) rfl (Nat.le_of_ble_eq_true rfl) dX1_strainUnder_96 ?_
            first
              | exact absurd c23 c77
              | exact absurd c77 c23
              | (refine ⟨rfl, ?_⟩; unfold stU; rw [if_neg (fun h => absurd c44 ((thin_c c13 c23).mp h))]; rfl)
              | (refine ⟨rfl, ?_⟩; unfold stU; rw [if_neg (fun h => absurd c44 ((thin_n c13 c23).mp h))]; rfl)
              | (refine ⟨rfl, ?_⟩; unfold stU; rw [if_pos ((thin_c c13 c23).mpr c44), suC_1 (Or.inl c77)]; rfl)
              | (rw [pk_us] at c87; refine ⟨rfl, ?_⟩; unfold stU; rw [if_pos ((thin_n c13 c23).mpr c44), suC_1 (Or.inr (Int32.not_lt.mp c87))]; rfl)
              | (rw [pk_us] at c87; refine ⟨rfl, ?_⟩; unfold stU; rw [if_pos ((thin_n c13 c23).mpr c44), suC_0 c77 c87]; rfl)
          · refine v_iconst (pc := 90) (v := 1) dX1_strainUnder_90 rfl ?_
            refine v_goto (pc := 91) (tgt := 95) dX1_strainUnder_91 (by decide) ?_
            refine v_zastN (pc := 95) 4 (k := k) rfl (by omega) (by decide) rfl dX1_strainUnder_95 ?_
            refine v_vret (pc := 96) rfl (Nat.le_of_ble_eq_true rfl) dX1_strainUnder_96 ?_
            first
              | exact absurd c23 c77
              | exact absurd c77 c23
              | (refine ⟨rfl, ?_⟩; unfold stU; rw [if_neg (fun h => absurd c44 ((thin_c c13 c23).mp h))]; rfl)
              | (refine ⟨rfl, ?_⟩; unfold stU; rw [if_neg (fun h => absurd c44 ((thin_n c13 c23).mp h))]; rfl)
              | (refine ⟨rfl, ?_⟩; unfold stU; rw [if_pos ((thin_c c13 c23).mpr c44), suC_1 (Or.inl c77)]; rfl)
              | (rw [pk_us] at c87; refine ⟨rfl, ?_⟩; unfold stU; rw [if_pos ((thin_n c13 c23).mpr c44), suC_1 (Or.inr (Int32.not_lt.mp c87))]; rfl)
              | (rw [pk_us] at c87; refine ⟨rfl, ?_⟩; unfold stU; rw [if_pos ((thin_n c13 c23).mpr c44), suC_0 c77 c87]; rfl)
  · refine v_vret (pc := 16) rfl (Nat.le_of_ble_eq_true rfl) dX1_strainUnder_16 ?_
    exact ⟨rfl, by unfold stU; rw [if_neg (thin_l c13)]; rfl⟩
set_option maxRecDepth 100000 in
set_option maxHeartbeats 4000000 in
theorem lp_X1_crackedCells {G : Cx} {w : Nat → Nat} {T N S C B O : Nat → Int32} {ch : Int32} {sz : Nat} : ∀ (m i : Nat), m + i = 160 → V G Y_X1_crackedCells (ZM G (LakeM w T N S C B O ch) sz (fun v M' => v = some (.int (sumN (fun j => if C j = 0 then 0 else 1) 160)) ∧ M' = LakeM w T N S C B O ch) noX) 0 0 0 4 [some (.ref (w 5)), some (.int (sumN (fun j => if C j = 0 then 0 else 1) i)), some (.int (nI i))] [] (LakeM w T N S C B O ch) := by
  intro m
  induction m with
  | zero =>
    intro i hi
    obtain rfl : i = 160 := by omega
    refine v_iload_n (pc := 4) dX1_crackedCells_4 rfl rfl ?_
    refine v_sipush (pc := 5) (v := 160) dX1_crackedCells_5 rfl ?_
    refine v_icmp_ge (pc := 8) (tgt := 34) dX1_crackedCells_8 (by decide) (fun c8 => ?_) (fun c8 => absurd (nI_le (a := 160) (b := 160) (Nat.le_refl _) (by decide)) c8)
    have c8 : 160 ≤ 160 := (nI_leI (a := 160) (b := 160) (by omega) (by omega)).mp c8
    refine v_iload_n (pc := 34) dX1_crackedCells_34 rfl rfl ?_
    refine v_iret (pc := 35) rfl rfl (Nat.le_of_ble_eq_true rfl) dX1_crackedCells_35 ?_
    exact ⟨rfl, rfl⟩
  | succ m ih =>
    intro i hi
    refine v_iload_n (pc := 4) dX1_crackedCells_4 rfl rfl ?_
    refine v_sipush (pc := 5) (v := 160) dX1_crackedCells_5 rfl ?_
    refine v_icmp_ge (pc := 8) (tgt := 34) dX1_crackedCells_8 (by decide) (fun c8 => absurd c8 (nI_ge (a := i) (b := 160) (by omega) (by decide))) (fun c8 => ?_)
    have c8 : ¬ 160 ≤ i := fun h => c8 ((nI_leI (a := 160) (b := i) (by omega) (by omega)).mpr h)
    refine v_iload_n (pc := 11) dX1_crackedCells_11 rfl rfl ?_
    refine v_aload_nR (pc := 12) dX1_crackedCells_12 rfl rfl ?_
    refine v_get (pc := 13) 3 0 fg_X1_21 rfl rfl dX1_crackedCells_13 ?_
    refine v_iload_n (pc := 16) dX1_crackedCells_16 rfl rfl ?_
    refine v_zaldN (pc := 17) 4 (k := i) rfl (by omega) (by decide) dX1_crackedCells_17 ?_
    refine v_if_eq (pc := 18) (tgt := 25) dX1_crackedCells_18 (by decide) (fun c18 => ?_) (fun c18 => ?_)
    · refine v_iconst (pc := 25) (v := 0) dX1_crackedCells_25 rfl ?_
      refine v_iadd (pc := 26) dX1_crackedCells_26 ?_
      refine v_istore_n (pc := 27) dX1_crackedCells_27 rfl (by decide) rfl ?_
      refine v_iinc (pc := 28) (v := nI (i + 1)) dX1_crackedCells_28 rfl (nI_1 _) (by decide) rfl ?_
      refine v_goto (pc := 31) (tgt := 4) dX1_crackedCells_31 (by decide) ?_
      refine v_cut (P := sumN (fun j => if C j = 0 then 0 else 1) (i + 1) = sumN (fun j => if C j = 0 then 0 else 1) i + (if C i = 0 then 0 else 1)) rfl (fun e => ?_)
      first
        | (rw [if_pos c18] at e; rw [← e]; exact ih (i + 1) (by omega))
        | (rw [if_neg c18] at e; rw [← e]; exact ih (i + 1) (by omega))
    · refine v_iconst (pc := 21) (v := 1) dX1_crackedCells_21 rfl ?_
      refine v_goto (pc := 22) (tgt := 26) dX1_crackedCells_22 (by decide) ?_
      refine v_iadd (pc := 26) dX1_crackedCells_26 ?_
      refine v_istore_n (pc := 27) dX1_crackedCells_27 rfl (by decide) rfl ?_
      refine v_iinc (pc := 28) (v := nI (i + 1)) dX1_crackedCells_28 rfl (nI_1 _) (by decide) rfl ?_
      refine v_goto (pc := 31) (tgt := 4) dX1_crackedCells_31 (by decide) ?_
      refine v_cut (P := sumN (fun j => if C j = 0 then 0 else 1) (i + 1) = sumN (fun j => if C j = 0 then 0 else 1) i + (if C i = 0 then 0 else 1)) rfl (fun e => ?_)
      first
        | (rw [if_pos c18] at e; rw [← e]; exact ih (i + 1) (by omega))
        | (rw [if_neg c18] at e; rw [← e]; exact ih (i + 1) (by omega))
set_option maxRecDepth 100000 in
set_option maxHeartbeats 4000000 in
theorem c_X1_crackedCells {G : Cx} {w : Nat → Nat} {T N S C B O : Nat → Int32} {ch : Int32} : Mt G Y_X1_crackedCells 0 0 0 ([.ref (w 5)]) (LakeM w T N S C B O ch) (fun v M' => v = some (.int (sumN (fun j => if C j = 0 then 0 else 1) 160)) ∧ M' = LakeM w T N S C B O ch) noX := by
  refine Mt.of (L := [some (.ref (w 5)), none, none]) rfl (by decide) (by simp [lg_sl, Value.category]) ⟨rfl, trivial⟩ (fun sz => ?_)
  refine v_iconst (pc := 0) (v := 0) dX1_crackedCells_0 rfl ?_
  refine v_istore_n (pc := 1) dX1_crackedCells_1 rfl (by decide) rfl ?_
  refine v_iconst (pc := 2) (v := 0) dX1_crackedCells_2 rfl ?_
  refine v_istore_n (pc := 3) dX1_crackedCells_3 rfl (by decide) rfl ?_
  exact lp_X1_crackedCells 160 0 (by omega)
set_option maxRecDepth 100000 in
set_option maxHeartbeats 4000000 in
theorem lp_X1_allThickness {G : Cx} {w : Nat → Nat} {T N S C B O : Nat → Int32} {ch : Int32} {sz : Nat} : ∀ (m i : Nat), m + i = 160 → V G Y_X1_allThickness (ZM G (LakeM w T N S C B O ch) sz (fun v M' => v = some (.int (sumN (fun j => if 0 < T j then T j else 0) 160)) ∧ M' = LakeM w T N S C B O ch) noX) 1 0 0 4 [some (.ref (w 5)), some (.int (sumN (fun j => if 0 < T j then T j else 0) i)), some (.int (nI i))] [] (LakeM w T N S C B O ch) := by
  intro m
  induction m with
  | zero =>
    intro i hi
    obtain rfl : i = 160 := by omega
    refine v_iload_n (pc := 4) dX1_allThickness_4 rfl rfl ?_
    refine v_sipush (pc := 5) (v := 160) dX1_allThickness_5 rfl ?_
    refine v_icmp_ge (pc := 8) (tgt := 30) dX1_allThickness_8 (by decide) (fun c8 => ?_) (fun c8 => absurd (nI_le (a := 160) (b := 160) (Nat.le_refl _) (by decide)) c8)
    have c8 : 160 ≤ 160 := (nI_leI (a := 160) (b := 160) (by omega) (by omega)).mp c8
    refine v_iload_n (pc := 30) dX1_allThickness_30 rfl rfl ?_
    refine v_iret (pc := 31) rfl rfl (Nat.le_of_ble_eq_true rfl) dX1_allThickness_31 ?_
    exact ⟨rfl, rfl⟩
  | succ m ih =>
    intro i hi
    refine v_iload_n (pc := 4) dX1_allThickness_4 rfl rfl ?_
    refine v_sipush (pc := 5) (v := 160) dX1_allThickness_5 rfl ?_
    refine v_icmp_ge (pc := 8) (tgt := 30) dX1_allThickness_8 (by decide) (fun c8 => absurd c8 (nI_ge (a := i) (b := 160) (by omega) (by decide))) (fun c8 => ?_)
    have c8 : ¬ 160 ≤ i := fun h => c8 ((nI_leI (a := 160) (b := i) (by omega) (by omega)).mpr h)
    refine v_iload_n (pc := 11) dX1_allThickness_11 rfl rfl ?_
    refine v_iconst (pc := 12) (v := 0) dX1_allThickness_12 rfl ?_
    refine v_aload_nR (pc := 13) dX1_allThickness_13 rfl rfl ?_
    refine v_get (pc := 14) 0 0 fg_X1_9 rfl rfl dX1_allThickness_14 ?_
    refine v_iload_n (pc := 17) dX1_allThickness_17 rfl rfl ?_
    refine v_ialdN (pc := 18) 1 (k := i) rfl (by omega) (by decide) dX1_allThickness_18 ?_
    refine v_mmax (pc := 19) q405 q406 q15 q407 (by decide) (Nat.le_of_ble_eq_true rfl) dX1_allThickness_19 ?_
    refine v_iadd (pc := 22) dX1_allThickness_22 ?_
    refine v_istore_n (pc := 23) dX1_allThickness_23 rfl (by decide) rfl ?_
    refine v_iinc (pc := 24) (v := nI (i + 1)) dX1_allThickness_24 rfl (nI_1 _) (by decide) rfl ?_
    refine v_goto (pc := 27) (tgt := 4) dX1_allThickness_27 (by decide) ?_
    exact ih (i + 1) (by omega)
set_option maxRecDepth 100000 in
set_option maxHeartbeats 4000000 in
theorem c_X1_allThickness {G : Cx} {w : Nat → Nat} {T N S C B O : Nat → Int32} {ch : Int32} : Mt G Y_X1_allThickness 1 0 0 ([.ref (w 5)]) (LakeM w T N S C B O ch) (fun v M' => v = some (.int (sumN (fun j => if 0 < T j then T j else 0) 160)) ∧ M' = LakeM w T N S C B O ch) noX := by
  refine Mt.of (L := [some (.ref (w 5)), none, none]) rfl (by decide) (by simp [lg_sl, Value.category]) ⟨rfl, trivial⟩ (fun sz => ?_)
  refine v_iconst (pc := 0) (v := 0) dX1_allThickness_0 rfl ?_
  refine v_istore_n (pc := 1) dX1_allThickness_1 rfl (by decide) rfl ?_
  refine v_iconst (pc := 2) (v := 0) dX1_allThickness_2 rfl ?_
  refine v_istore_n (pc := 3) dX1_allThickness_3 rfl (by decide) rfl ?_
  exact lp_X1_allThickness 160 0 (by omega)
theorem fill_step {F T : Nat → Int32} {i n : Nat} {x : Int32} (hx : x = F i) : ∀ j, j < n → upd (fillU F T i) i x j = fillU F T (i + 1) j := fun j _ => congrFun (fillU_s F T i hx) j
theorem wcb_up {B : Nat → Int32} {k : Nat} : ∀ {n m : Nat}, n ≤ m → wcb B k n = true → wcb B k m = true
  | n, 0, h, h1 => by
    obtain rfl : n = 0 := by omega
    exact h1
  | n, m + 1, h, h1 => by
    rcases Nat.lt_or_ge m n with h2 | h2
    · obtain rfl : n = m + 1 := by omega
      exact h1
    · show (wcb B k m || _) = true
      rw [wcb_up h2 h1]; rfl
theorem wcb_s1 {B : Nat → Int32} {k n j : Nat} (h : nbr k n = some j) (hB : ¬ B j = 0) : wcb B k (n + 1) = true := by
  unfold wcb; rw [h]; simp [hB]
theorem wcb_s0 {B : Nat → Int32} {k n : Nat} (h0 : wcb B k n = false) (h : ∀ j, nbr k n = some j → B j = 0) : wcb B k (n + 1) = false := by
  unfold wcb
  cases hn : nbr k n with
  | none => simp [h0]
  | some j => simp [h0, h j hn]
theorem wcb_cong {B C : Nat → Int32} {k : Nat} (hk : k < 160) (h : ∀ j, j < 160 → B j = C j) : ∀ n, wcb B k n = wcb C k n
  | 0 => rfl
  | n + 1 => by
    unfold wcb
    rw [wcb_cong hk h n]
    cases hn : nbr k n with
    | none => rfl
    | some j => simp [h j (nbr_lt hk hn)]
def dT (fr : Int32) (T : Nat → Int32) : Nat → Int32 := if 0 < fr then fillU (fzT fr T) T 160 else if fr < 0 then fillU (thT (-fr) T) T 160 else T
def dS (fr : Int32) (T S : Nat → Int32) : Nat → Int32 := if 0 < fr then fillU (fzS T S) S 160 else S
def dC (fr : Int32) (T S C : Nat → Int32) : Nat → Int32 := if 0 < fr then C else if fr < 0 then fillU (spC (dT fr T) S C) C 160 else C
def dH (fr ch : Int32) : Int32 := if 0 < fr then ch + 1 else ch
def dB (fr : Int32) (C B : Nat → Int32) : Nat → Int32 := if 0 < fr then B else if fr < 0 then fillU C B 160 else B
set_option maxRecDepth 100000 in
set_option maxHeartbeats 4000000 in
theorem lp_X1_freeze {G : Cx} {w : Nat → Nat} {T N S C B O : Nat → Int32} {ch : Int32} {sz : Nat} {ch0 : Int32} {f : Int32} : ∀ (m i : Nat), m + i = 160 → V G Y_X1_freeze (ZM G (LakeM w T N S C B O ch0) sz (fun v M' => v = none ∧ M' = LakeM w (fillU (fzT f T) T 160) N (fillU (fzS T S) S 160) C B O ch) noX) 1 0 0 12 [some (.ref (w 5)), some (.int f), some (.int (nI i)), none] [] (LakeM w (fillU (fzT f T) T i) N (fillU (fzS T S) S i) C B O ch) := by
  intro m
  induction m with
  | zero =>
    intro i hi
    obtain rfl : i = 160 := by omega
    refine v_iload_n (pc := 12) dX1_freeze_12 rfl rfl ?_
    refine v_sipush (pc := 13) (v := 160) dX1_freeze_13 rfl ?_
    refine v_icmp_ge (pc := 16) (tgt := 90) dX1_freeze_16 (by decide) (fun c16 => ?_) (fun c16 => absurd (nI_le (a := 160) (b := 160) (Nat.le_refl _) (by decide)) c16)
    have c16 : 160 ≤ 160 := (nI_leI (a := 160) (b := 160) (by omega) (by omega)).mp c16
    refine v_vret (pc := 90) rfl (Nat.le_of_ble_eq_true rfl) dX1_freeze_90 ?_
    exact ⟨rfl, rfl⟩
  | succ m ih =>
    intro i hi
    have eT : fillU (fzT f T) T i i = T i := fillU_out (Nat.lt_irrefl i)
    have eS : fillU (fzS T S) S i i = S i := fillU_out (Nat.lt_irrefl i)
    refine v_iload_n (pc := 12) dX1_freeze_12 rfl rfl ?_
    refine v_sipush (pc := 13) (v := 160) dX1_freeze_13 rfl ?_
    refine v_icmp_ge (pc := 16) (tgt := 90) dX1_freeze_16 (by decide) (fun c16 => absurd c16 (nI_ge (a := i) (b := 160) (by omega) (by decide))) (fun c16 => ?_)
    have c16 : ¬ 160 ≤ i := fun h => c16 ((nI_leI (a := 160) (b := i) (by omega) (by omega)).mpr h)
    refine v_aload_nR (pc := 19) dX1_freeze_19 rfl rfl ?_
    refine v_get (pc := 20) 0 0 fg_X1_9 rfl rfl dX1_freeze_20 ?_
    refine v_iload_n (pc := 23) dX1_freeze_23 rfl rfl ?_
    refine v_ialdN (pc := 24) 1 (k := i) rfl (by omega) (by decide) dX1_freeze_24 ?_
    refine v_if_lt (pc := 25) (tgt := 84) dX1_freeze_25 (by decide) (fun c25 => ?_) (fun c25 => ?_)
    · rw [eT] at c25
      refine v_iinc (pc := 84) (v := nI (i + 1)) dX1_freeze_84 rfl (nI_1 _) (by decide) rfl ?_
      refine v_goto (pc := 87) (tgt := 12) dX1_freeze_87 (by decide) ?_
      have e1 : fillU (fzT f T) T i = fillU (fzT f T) T (i + 1) := fillU_k _ _ _ (by unfold fzT; rw [if_pos c25])
      have e2 : fillU (fzS T S) S i = fillU (fzS T S) S (i + 1) := fillU_k _ _ _ (by unfold fzS; rw [if_pos c25])
      rw [e1, e2]
      exact ih (i + 1) (by omega)
    · rw [eT] at c25
      refine v_iload_n (pc := 28) dX1_freeze_28 rfl rfl ?_
      refine v_bipush (pc := 29) (v := 12) dX1_freeze_29 rfl ?_
      refine v_imul (pc := 31) dX1_freeze_31 ?_
      refine v_bipush (pc := 32) (v := 6) dX1_freeze_32 rfl ?_
      refine v_aload_nR (pc := 34) dX1_freeze_34 rfl rfl ?_
      refine v_get (pc := 35) 0 0 fg_X1_9 rfl rfl dX1_freeze_35 ?_
      refine v_iload_n (pc := 38) dX1_freeze_38 rfl rfl ?_
      refine v_ialdN (pc := 39) 1 (k := i) rfl (by omega) (by decide) dX1_freeze_39 ?_
      refine v_bipush (pc := 40) (v := 10) dX1_freeze_40 rfl ?_
      refine v_idiv (pc := 42) dX1_freeze_42 (by decide) ?_
      refine v_iadd (pc := 43) dX1_freeze_43 ?_
      refine v_idiv (pc := 44) dX1_freeze_44 (by rw [eT]; exact div10_ne c25) ?_
      refine v_istore_n (pc := 45) dX1_freeze_45 rfl (by decide) rfl ?_
      refine v_aload_nR (pc := 46) dX1_freeze_46 rfl rfl ?_
      refine v_get (pc := 47) 0 0 fg_X1_9 rfl rfl dX1_freeze_47 ?_
      refine v_iload_n (pc := 50) dX1_freeze_50 rfl rfl ?_
      refine v_sipush (pc := 51) (v := 200) dX1_freeze_51 rfl ?_
      refine v_aload_nR (pc := 54) dX1_freeze_54 rfl rfl ?_
      refine v_get (pc := 55) 0 0 fg_X1_9 rfl rfl dX1_freeze_55 ?_
      refine v_iload_n (pc := 58) dX1_freeze_58 rfl rfl ?_
      refine v_ialdN (pc := 59) 1 (k := i) rfl (by omega) (by decide) dX1_freeze_59 ?_
      refine v_iload_n (pc := 60) dX1_freeze_60 rfl rfl ?_
      refine v_iadd (pc := 61) dX1_freeze_61 ?_
      refine v_mmin (pc := 62) q402 q403 q15 q404 (by decide) (Nat.le_of_ble_eq_true rfl) dX1_freeze_62 ?_
      refine v_iastN (pc := 65) 1 (k := i) rfl (by omega) (by decide) dX1_freeze_65 ?_
      refine v_aload_nR (pc := 66) dX1_freeze_66 rfl rfl ?_
      refine v_get (pc := 67) 2 0 fg_X1_18 rfl rfl dX1_freeze_67 ?_
      refine v_iload_n (pc := 70) dX1_freeze_70 rfl rfl ?_
      refine v_iconst (pc := 71) (v := 0) dX1_freeze_71 rfl ?_
      refine v_aload_nR (pc := 72) dX1_freeze_72 rfl rfl ?_
      refine v_get (pc := 73) 2 0 fg_X1_18 rfl rfl dX1_freeze_73 ?_
      refine v_iload_n (pc := 76) dX1_freeze_76 rfl rfl ?_
      refine v_ialdN (pc := 77) 3 (k := i) rfl (by omega) (by decide) dX1_freeze_77 ?_
      refine v_iconst (pc := 78) (v := 2) dX1_freeze_78 rfl ?_
      refine v_isub (pc := 79) dX1_freeze_79 ?_
      refine v_mmax (pc := 80) q405 q406 q15 q407 (by decide) (Nat.le_of_ble_eq_true rfl) dX1_freeze_80 ?_
      refine v_iastN (pc := 83) 3 (k := i) rfl (by omega) (by decide) dX1_freeze_83 ?_
      refine v_iinc (pc := 84) (v := nI (i + 1)) dX1_freeze_84 rfl (nI_1 _) (by decide) rfl ?_
      refine v_goto (pc := 87) (tgt := 12) dX1_freeze_87 (by decide) ?_
      refine v_cgI 1 (g := fillU (fzT f T) T (i + 1)) rfl (fill_step (by rw [eT]; unfold fzT; rw [if_neg c25])) ?_
      refine v_cgI 3 (g := fillU (fzS T S) S (i + 1)) rfl (fill_step (by rw [eS]; unfold fzS; rw [if_neg c25])) ?_
      have k9 := ih (i + 1) (by omega)
      refine v_sub ?_ k9
      exact ⟨rfl, rfl, rfl, trivial⟩
set_option maxRecDepth 100000 in
set_option maxHeartbeats 4000000 in
theorem c_X1_freeze {G : Cx} {w : Nat → Nat} {T N S C B O : Nat → Int32} {ch : Int32} {f : Int32} : Mt G Y_X1_freeze 1 0 0 ([.ref (w 5)] ++ [.int f]) (LakeM w T N S C B O ch) (fun v M' => v = none ∧ M' = LakeM w (fillU (fzT f T) T 160) N (fillU (fzS T S) S 160) C B O (ch + 1)) noX := by
  refine Mt.of (L := [some (.ref (w 5)), some (.int f), none, none]) rfl (by decide) (by simp [lg_sl, Value.category]) ⟨rfl, rfl, trivial⟩ (fun sz => ?_)
  refine v_aload_nR (pc := 0) dX1_freeze_0 rfl rfl ?_
  refine v_dup (pc := 1) dX1_freeze_1 rfl ?_
  refine v_get (pc := 2) 6 0 fg_X1_47 rfl rfl dX1_freeze_2 ?_
  refine v_iconst (pc := 5) (v := 1) dX1_freeze_5 rfl ?_
  refine v_iadd (pc := 6) dX1_freeze_6 ?_
  refine v_put (pc := 7) 6 0 fp_X1_freeze_47 rfl rfl rfl (Nat.le_of_ble_eq_true rfl) dX1_freeze_7 ?_
  refine v_iconst (pc := 10) (v := 0) dX1_freeze_10 rfl ?_
  refine v_istore_n (pc := 11) dX1_freeze_11 rfl (by decide) rfl ?_
  exact lp_X1_freeze 160 0 (by omega)
set_option maxRecDepth 100000 in
set_option maxHeartbeats 4000000 in
theorem lp_X1_thin {G : Cx} {w : Nat → Nat} {T N S C B O : Nat → Int32} {ch : Int32} {sz : Nat} {f : Int32} : ∀ (m i : Nat), m + i = 160 → V G Y_X1_thin (ZM G (LakeM w T N S C B O ch) sz (fun v M' => v = none ∧ M' = LakeM w (fillU (thT f T) T 160) N S C B O ch) noX) 1 0 0 2 [some (.ref (w 5)), some (.int f), some (.int (nI i))] [] (LakeM w (fillU (thT f T) T i) N S C B O ch) := by
  intro m
  induction m with
  | zero =>
    intro i hi
    obtain rfl : i = 160 := by omega
    refine v_iload_n (pc := 2) dX1_thin_2 rfl rfl ?_
    refine v_sipush (pc := 3) (v := 160) dX1_thin_3 rfl ?_
    refine v_icmp_ge (pc := 6) (tgt := 44) dX1_thin_6 (by decide) (fun c6 => ?_) (fun c6 => absurd (nI_le (a := 160) (b := 160) (Nat.le_refl _) (by decide)) c6)
    have c6 : 160 ≤ 160 := (nI_leI (a := 160) (b := 160) (by omega) (by omega)).mp c6
    refine v_vret (pc := 44) rfl (Nat.le_of_ble_eq_true rfl) dX1_thin_44 ?_
    exact ⟨rfl, rfl⟩
  | succ m ih =>
    intro i hi
    have eT : fillU (thT f T) T i i = T i := fillU_out (Nat.lt_irrefl i)
    refine v_iload_n (pc := 2) dX1_thin_2 rfl rfl ?_
    refine v_sipush (pc := 3) (v := 160) dX1_thin_3 rfl ?_
    refine v_icmp_ge (pc := 6) (tgt := 44) dX1_thin_6 (by decide) (fun c6 => absurd c6 (nI_ge (a := i) (b := 160) (by omega) (by decide))) (fun c6 => ?_)
    have c6 : ¬ 160 ≤ i := fun h => c6 ((nI_leI (a := 160) (b := i) (by omega) (by omega)).mpr h)
    refine v_aload_nR (pc := 9) dX1_thin_9 rfl rfl ?_
    refine v_get (pc := 10) 0 0 fg_X1_9 rfl rfl dX1_thin_10 ?_
    refine v_iload_n (pc := 13) dX1_thin_13 rfl rfl ?_
    refine v_ialdN (pc := 14) 1 (k := i) rfl (by omega) (by decide) dX1_thin_14 ?_
    refine v_if_lt (pc := 15) (tgt := 38) dX1_thin_15 (by decide) (fun c15 => ?_) (fun c15 => ?_)
    · refine v_iinc (pc := 38) (v := nI (i + 1)) dX1_thin_38 rfl (nI_1 _) (by decide) rfl ?_
      refine v_goto (pc := 41) (tgt := 2) dX1_thin_41 (by decide) ?_
      first
        | (rw [eT] at c15; have e1 : fillU (thT f T) T i = fillU (thT f T) T (i + 1) := fillU_k _ _ _ (by unfold thT; rw [if_pos c15]); rw [e1]; exact ih (i + 1) (by omega))
        | (refine v_cgI 1 (g := fillU (thT f T) T (i + 1)) rfl (fill_step (by rw [eT]; unfold thT; rw [if_neg c15])) ?_; exact ih (i + 1) (by omega))
    · rw [eT] at c15
      refine v_aload_nR (pc := 18) dX1_thin_18 rfl rfl ?_
      refine v_get (pc := 19) 0 0 fg_X1_9 rfl rfl dX1_thin_19 ?_
      refine v_iload_n (pc := 22) dX1_thin_22 rfl rfl ?_
      refine v_iconst (pc := 23) (v := 0) dX1_thin_23 rfl ?_
      refine v_aload_nR (pc := 24) dX1_thin_24 rfl rfl ?_
      refine v_get (pc := 25) 0 0 fg_X1_9 rfl rfl dX1_thin_25 ?_
      refine v_iload_n (pc := 28) dX1_thin_28 rfl rfl ?_
      refine v_ialdN (pc := 29) 1 (k := i) rfl (by omega) (by decide) dX1_thin_29 ?_
      refine v_iconst (pc := 30) (v := 3) dX1_thin_30 rfl ?_
      refine v_iload_n (pc := 31) dX1_thin_31 rfl rfl ?_
      refine v_imul (pc := 32) dX1_thin_32 ?_
      refine v_isub (pc := 33) dX1_thin_33 ?_
      refine v_mmax (pc := 34) q405 q406 q15 q407 (by decide) (Nat.le_of_ble_eq_true rfl) dX1_thin_34 ?_
      refine v_iastN (pc := 37) 1 (k := i) rfl (by omega) (by decide) dX1_thin_37 ?_
      refine v_iinc (pc := 38) (v := nI (i + 1)) dX1_thin_38 rfl (nI_1 _) (by decide) rfl ?_
      refine v_goto (pc := 41) (tgt := 2) dX1_thin_41 (by decide) ?_
      first
        | (rw [eT] at c15; have e1 : fillU (thT f T) T i = fillU (thT f T) T (i + 1) := fillU_k _ _ _ (by unfold thT; rw [if_pos c15]); rw [e1]; exact ih (i + 1) (by omega))
        | (refine v_cgI 1 (g := fillU (thT f T) T (i + 1)) rfl (fill_step (by rw [eT]; unfold thT; rw [if_neg c15])) ?_; exact ih (i + 1) (by omega))
set_option maxRecDepth 100000 in
set_option maxHeartbeats 4000000 in
theorem c_X1_thin {G : Cx} {w : Nat → Nat} {T N S C B O : Nat → Int32} {ch : Int32} {f : Int32} : Mt G Y_X1_thin 1 0 0 ([.ref (w 5)] ++ [.int f]) (LakeM w T N S C B O ch) (fun v M' => v = none ∧ M' = LakeM w (fillU (thT f T) T 160) N S C B O ch) noX := by
  refine Mt.of (L := [some (.ref (w 5)), some (.int f), none]) rfl (by decide) (by simp [lg_sl, Value.category]) ⟨rfl, rfl, trivial⟩ (fun sz => ?_)
  refine v_iconst (pc := 0) (v := 0) dX1_thin_0 rfl ?_
  refine v_istore_n (pc := 1) dX1_thin_1 rfl (by decide) rfl ?_
  exact lp_X1_thin 160 0 (by omega)
set_option maxRecDepth 100000 in
set_option maxHeartbeats 4000000 in
theorem lp_X1_wasCrackedBeside {G : Cx} {w : Nat → Nat} {T N S C B O : Nat → Int32} {ch : Int32} {sz : Nat} {k : Nat} (hk : k < 160) : ∀ (m i : Nat), m + i = 4 → wcb B k i = false → V G Y_X1_wasCrackedBeside (ZM G (LakeM w T N S C B O ch) sz (fun v M' => v = some (.int (bI (wcb B k 4 = true))) ∧ M' = LakeM w T N S C B O ch) noX) 1 0 0 2 [some (.ref (w 5)), some (.int (nI k)), some (.int (nI i)), none] [] (LakeM w T N S C B O ch) := by
  intro m
  induction m with
  | zero =>
    intro i hi
    obtain rfl : i = 4 := by omega
    intro hw
    refine v_iload_n (pc := 2) dX1_wasCrackedBeside_2 rfl rfl ?_
    refine v_iconst (pc := 3) (v := 4) dX1_wasCrackedBeside_3 rfl ?_
    refine v_icmp_ge (pc := 4) (tgt := 37) dX1_wasCrackedBeside_4 (by decide) (fun c4 => ?_) (fun c4 => absurd (nI_le (a := 4) (b := 4) (Nat.le_refl _) (by decide)) c4)
    have c4 : 4 ≤ 4 := (nI_leI (a := 4) (b := 4) (by omega) (by omega)).mp c4
    refine v_iconst (pc := 37) (v := 0) dX1_wasCrackedBeside_37 rfl ?_
    refine v_iret (pc := 38) rfl rfl (Nat.le_of_ble_eq_true rfl) dX1_wasCrackedBeside_38 ?_
    exact ⟨by rw [bI_f (by rw [hw]; decide)], rfl⟩
  | succ m ih =>
    intro i hi
    intro hw
    refine v_iload_n (pc := 2) dX1_wasCrackedBeside_2 rfl rfl ?_
    refine v_iconst (pc := 3) (v := 4) dX1_wasCrackedBeside_3 rfl ?_
    refine v_icmp_ge (pc := 4) (tgt := 37) dX1_wasCrackedBeside_4 (by decide) (fun c4 => absurd c4 (nI_ge (a := i) (b := 4) (by omega) (by decide))) (fun c4 => ?_)
    have c4 : ¬ 4 ≤ i := fun h => c4 ((nI_leI (a := 4) (b := i) (by omega) (by omega)).mpr h)
    refine v_iload_n (pc := 7) dX1_wasCrackedBeside_7 rfl rfl ?_
    refine v_iload_n (pc := 8) dX1_wasCrackedBeside_8 rfl rfl ?_
    refine v_callSN2 (pc := 9) (c_X5_beside hk (by omega)) cm_X5_beside q420 q421 [] (by rfl) (by decide) (fun _ _ h => h) (by decide) (by decide) (by decide) (Nat.le_of_ble_eq_true rfl) dX1_wasCrackedBeside_9 (fun v9 M9 hQ9 => ?_)
    obtain ⟨rfl, rfl⟩ := hQ9
    refine v_istore_n (pc := 12) dX1_wasCrackedBeside_12 rfl (by decide) rfl ?_
    refine v_iload_n (pc := 13) dX1_wasCrackedBeside_13 rfl rfl ?_
    refine v_callSN1 (pc := 14) (c_X5_isCell ) cm_X5_isCell q296 q297 [] (by rfl) (by decide) (fun _ _ h => h) (by decide) (by decide) (by decide) (Nat.le_of_ble_eq_true rfl) dX1_wasCrackedBeside_14 (fun v14 M14 hQ14 => ?_)
    obtain ⟨rfl, rfl⟩ := hQ14
    refine v_if_eq (pc := 17) (tgt := 31) dX1_wasCrackedBeside_17 (by decide) (fun c17 => ?_) (fun c17 => ?_)
    · have c17 := bI_0.mp c17
      refine v_iinc (pc := 31) (v := nI (i + 1)) dX1_wasCrackedBeside_31 rfl (nI_1 _) (by decide) rfl ?_
      refine v_goto (pc := 34) (tgt := 2) dX1_wasCrackedBeside_34 (by decide) ?_
      have hw2 : wcb B k (i + 1) = false := wcb_s0 hw (fun j2 hj2 => absurd ((oI_cell hk).mpr ⟨j2, hj2, nbr_lt hk hj2⟩) c17)
      have k9 := ih (i + 1) (by omega) hw2
      refine v_sub ?_ k9
      exact ⟨rfl, rfl, rfl, trivial⟩
    · have c17 := bI_n.mp c17
      obtain ⟨j, hj, hj2⟩ := (oI_cell hk).mp c17
      rw [oI_some hj]
      refine v_aload_nR (pc := 20) dX1_wasCrackedBeside_20 rfl rfl ?_
      refine v_get (pc := 21) 4 0 fg_X1_25 rfl rfl dX1_wasCrackedBeside_21 ?_
      refine v_iload_n (pc := 24) dX1_wasCrackedBeside_24 rfl rfl ?_
      refine v_zaldN (pc := 25) 5 (k := j) rfl (by omega) (by decide) dX1_wasCrackedBeside_25 ?_
      refine v_if_eq (pc := 26) (tgt := 31) dX1_wasCrackedBeside_26 (by decide) (fun c26 => ?_) (fun c26 => ?_)
      · refine v_iinc (pc := 31) (v := nI (i + 1)) dX1_wasCrackedBeside_31 rfl (nI_1 _) (by decide) rfl ?_
        refine v_goto (pc := 34) (tgt := 2) dX1_wasCrackedBeside_34 (by decide) ?_
        have hw2 : wcb B k (i + 1) = false := wcb_s0 hw (fun j2 hj2 => by rw [hj] at hj2; cases hj2; exact c26)
        have k9 := ih (i + 1) (by omega) hw2
        refine v_sub ?_ k9
        exact ⟨rfl, rfl, rfl, trivial⟩
      · refine v_iconst (pc := 29) (v := 1) dX1_wasCrackedBeside_29 rfl ?_
        refine v_iret (pc := 30) rfl rfl (Nat.le_of_ble_eq_true rfl) dX1_wasCrackedBeside_30 ?_
        exact ⟨by rw [bI_t (wcb_up (by omega) (wcb_s1 hj c26))], rfl⟩
set_option maxRecDepth 100000 in
set_option maxHeartbeats 4000000 in
theorem c_X1_wasCrackedBeside {G : Cx} {w : Nat → Nat} {T N S C B O : Nat → Int32} {ch : Int32} {k : Nat} (hk : k < 160) : Mt G Y_X1_wasCrackedBeside 1 0 0 ([.ref (w 5)] ++ [.int (nI k)]) (LakeM w T N S C B O ch) (fun v M' => v = some (.int (bI (wcb B k 4 = true))) ∧ M' = LakeM w T N S C B O ch) noX := by
  refine Mt.of (L := [some (.ref (w 5)), some (.int (nI k)), none, none]) rfl (by decide) (by simp [lg_sl, Value.category]) ⟨rfl, rfl, trivial⟩ (fun sz => ?_)
  refine v_iconst (pc := 0) (v := 0) dX1_wasCrackedBeside_0 rfl ?_
  refine v_istore_n (pc := 1) dX1_wasCrackedBeside_1 rfl (by decide) rfl ?_
  exact lp_X1_wasCrackedBeside hk 4 0 (by omega) rfl
set_option maxRecDepth 100000 in
set_option maxHeartbeats 4000000 in
theorem lp_X1_spread2 {G : Cx} {w : Nat → Nat} {T N S C B O : Nat → Int32} {ch : Int32} {sz : Nat} : ∀ (m i : Nat), m + i = 160 → V G Y_X1_spreadCracks (ZM G (LakeM w T N S C B O ch) sz (fun v M' => v = none ∧ M' = LakeM w T N S (fillU (spC T S C) C 160) (fillU C B 160) O ch) noX) 2 0 0 29 [some (.ref (w 5)), some (.int (nI i))] [] (LakeM w T N S (fillU (spC T S C) C i) (fillU C B 160) O ch) := by
  intro m
  induction m with
  | zero =>
    intro i hi
    obtain rfl : i = 160 := by omega
    refine v_iload_n (pc := 29) dX1_spreadCracks_29 rfl rfl ?_
    refine v_sipush (pc := 30) (v := 160) dX1_spreadCracks_30 rfl ?_
    refine v_icmp_ge (pc := 33) (tgt := 76) dX1_spreadCracks_33 (by decide) (fun c33 => ?_) (fun c33 => absurd (nI_le (a := 160) (b := 160) (Nat.le_refl _) (by decide)) c33)
    have c33 : 160 ≤ 160 := (nI_leI (a := 160) (b := 160) (by omega) (by omega)).mp c33
    refine v_vret (pc := 76) rfl (Nat.le_of_ble_eq_true rfl) dX1_spreadCracks_76 ?_
    exact ⟨rfl, rfl⟩
  | succ m ih =>
    intro i hi
    have hwc : wcb (fillU C B 160) i 4 = wcb C i 4 := wcb_cong (by omega) (fun j hj => fillU_in hj) 4
    refine v_iload_n (pc := 29) dX1_spreadCracks_29 rfl rfl ?_
    refine v_sipush (pc := 30) (v := 160) dX1_spreadCracks_30 rfl ?_
    refine v_icmp_ge (pc := 33) (tgt := 76) dX1_spreadCracks_33 (by decide) (fun c33 => absurd c33 (nI_ge (a := i) (b := 160) (by omega) (by decide))) (fun c33 => ?_)
    have c33 : ¬ 160 ≤ i := fun h => c33 ((nI_leI (a := 160) (b := i) (by omega) (by omega)).mpr h)
    refine v_aload_nR (pc := 36) dX1_spreadCracks_36 rfl rfl ?_
    refine v_get (pc := 37) 0 0 fg_X1_9 rfl rfl dX1_spreadCracks_37 ?_
    refine v_iload_n (pc := 40) dX1_spreadCracks_40 rfl rfl ?_
    refine v_ialdN (pc := 41) 1 (k := i) rfl (by omega) (by decide) dX1_spreadCracks_41 ?_
    refine v_if_lt (pc := 42) (tgt := 70) dX1_spreadCracks_42 (by decide) (fun c42 => ?_) (fun c42 => ?_)
    · refine v_iinc (pc := 70) (v := nI (i + 1)) dX1_spreadCracks_70 rfl (nI_1 _) (by decide) rfl ?_
      refine v_goto (pc := 73) (tgt := 29) dX1_spreadCracks_73 (by decide) ?_
      have e1 : fillU (spC T S C) C i = fillU (spC T S C) C (i + 1) := fillU_k _ _ _ (by unfold spC; rw [if_neg (fun h => h.1 c42)])
      rw [e1]
      exact ih (i + 1) (by omega)
    · refine v_aload_nR (pc := 45) dX1_spreadCracks_45 rfl rfl ?_
      refine v_get (pc := 46) 2 0 fg_X1_18 rfl rfl dX1_spreadCracks_46 ?_
      refine v_iload_n (pc := 49) dX1_spreadCracks_49 rfl rfl ?_
      refine v_ialdN (pc := 50) 3 (k := i) rfl (by omega) (by decide) dX1_spreadCracks_50 ?_
      refine v_iconst (pc := 51) (v := 1) dX1_spreadCracks_51 rfl ?_
      refine v_icmp_lt (pc := 52) (tgt := 70) dX1_spreadCracks_52 (by decide) (fun c52 => ?_) (fun c52 => ?_)
      · refine v_iinc (pc := 70) (v := nI (i + 1)) dX1_spreadCracks_70 rfl (nI_1 _) (by decide) rfl ?_
        refine v_goto (pc := 73) (tgt := 29) dX1_spreadCracks_73 (by decide) ?_
        have e1 : fillU (spC T S C) C i = fillU (spC T S C) C (i + 1) := fillU_k _ _ _ (by unfold spC; rw [if_neg (fun h => absurd c52 (Int32.not_lt.mpr h.2.1))])
        rw [e1]
        exact ih (i + 1) (by omega)
      · refine v_aload_nR (pc := 55) dX1_spreadCracks_55 rfl rfl ?_
        refine v_iload_n (pc := 56) dX1_spreadCracks_56 rfl rfl ?_
        refine v_callV1 (pc := 57) (c_X1_wasCrackedBeside (by omega)) cm_X1_wasCrackedBeside q416 q418 qs4 (ci := 1) rfl rfl (orcO 0 rfl) [0, 1, 2, 3, 4, 5, 6] (by rfl) (by decide) (fun _ _ h => h) (by decide) (by decide) (by decide) (Nat.le_of_ble_eq_true rfl) dX1_spreadCracks_57 (fun v57 M57 hQ57 => ?_)
        obtain ⟨rfl, rfl⟩ := hQ57
        refine v_if_eq (pc := 60) (tgt := 70) dX1_spreadCracks_60 (by decide) (fun c60 => ?_) (fun c60 => ?_)
        · have c60 := bI_0.mp c60
          refine v_iinc (pc := 70) (v := nI (i + 1)) dX1_spreadCracks_70 rfl (nI_1 _) (by decide) rfl ?_
          refine v_goto (pc := 73) (tgt := 29) dX1_spreadCracks_73 (by decide) ?_
          rw [hwc] at c60
          have e1 : fillU (spC T S C) C i = fillU (spC T S C) C (i + 1) := fillU_k _ _ _ (by unfold spC; rw [if_neg (fun h => c60 h.2.2)])
          rw [e1]
          exact ih (i + 1) (by omega)
        · have c60 := bI_n.mp c60
          rw [hwc] at c60
          refine v_aload_nR (pc := 63) dX1_spreadCracks_63 rfl rfl ?_
          refine v_get (pc := 64) 3 0 fg_X1_21 rfl rfl dX1_spreadCracks_64 ?_
          refine v_iload_n (pc := 67) dX1_spreadCracks_67 rfl rfl ?_
          refine v_iconst (pc := 68) (v := 1) dX1_spreadCracks_68 rfl ?_
          refine v_zastN (pc := 69) 4 (k := i) rfl (by omega) (by decide) rfl dX1_spreadCracks_69 ?_
          refine v_iinc (pc := 70) (v := nI (i + 1)) dX1_spreadCracks_70 rfl (nI_1 _) (by decide) rfl ?_
          refine v_goto (pc := 73) (tgt := 29) dX1_spreadCracks_73 (by decide) ?_
          refine v_cgZ 4 (g := fillU (spC T S C) C (i + 1)) rfl (fill_step (by unfold spC; rw [if_pos ⟨c42, Int32.not_lt.mp c52, c60⟩])) ?_
          exact ih (i + 1) (by omega)
set_option maxRecDepth 100000 in
set_option maxHeartbeats 4000000 in
theorem lp_X1_spread1 {G : Cx} {w : Nat → Nat} {T N S C B O : Nat → Int32} {ch : Int32} {sz : Nat} (hC : ∀ j, vp_nar .boolean (C j) = C j) : ∀ (m i : Nat), m + i = 160 → V G Y_X1_spreadCracks (ZM G (LakeM w T N S C B O ch) sz (fun v M' => v = none ∧ M' = LakeM w T N S (fillU (spC T S C) C 160) (fillU C B 160) O ch) noX) 2 0 0 2 [some (.ref (w 5)), some (.int (nI i))] [] (LakeM w T N S C (fillU C B i) O ch) := by
  intro m
  induction m with
  | zero =>
    intro i hi
    obtain rfl : i = 160 := by omega
    refine v_iload_n (pc := 2) dX1_spreadCracks_2 rfl rfl ?_
    refine v_sipush (pc := 3) (v := 160) dX1_spreadCracks_3 rfl ?_
    refine v_icmp_ge (pc := 6) (tgt := 27) dX1_spreadCracks_6 (by decide) (fun c6 => ?_) (fun c6 => absurd (nI_le (a := 160) (b := 160) (Nat.le_refl _) (by decide)) c6)
    have c6 : 160 ≤ 160 := (nI_leI (a := 160) (b := 160) (by omega) (by omega)).mp c6
    refine v_iconst (pc := 27) (v := 0) dX1_spreadCracks_27 rfl ?_
    refine v_istore_n (pc := 28) dX1_spreadCracks_28 rfl (by decide) rfl ?_
    have k9 := lp_X1_spread2 (G := G) (w := w) (T := T) (N := N) (S := S) (C := C) (B := B) (O := O) (ch := ch) (sz := sz) 160 0 (by omega)
    refine v_sub ?_ k9
    exact ⟨rfl, rfl, trivial⟩
  | succ m ih =>
    intro i hi
    refine v_iload_n (pc := 2) dX1_spreadCracks_2 rfl rfl ?_
    refine v_sipush (pc := 3) (v := 160) dX1_spreadCracks_3 rfl ?_
    refine v_icmp_ge (pc := 6) (tgt := 27) dX1_spreadCracks_6 (by decide) (fun c6 => absurd c6 (nI_ge (a := i) (b := 160) (by omega) (by decide))) (fun c6 => ?_)
    have c6 : ¬ 160 ≤ i := fun h => c6 ((nI_leI (a := 160) (b := i) (by omega) (by omega)).mpr h)
    refine v_aload_nR (pc := 9) dX1_spreadCracks_9 rfl rfl ?_
    refine v_get (pc := 10) 4 0 fg_X1_25 rfl rfl dX1_spreadCracks_10 ?_
    refine v_iload_n (pc := 13) dX1_spreadCracks_13 rfl rfl ?_
    refine v_aload_nR (pc := 14) dX1_spreadCracks_14 rfl rfl ?_
    refine v_get (pc := 15) 3 0 fg_X1_21 rfl rfl dX1_spreadCracks_15 ?_
    refine v_iload_n (pc := 18) dX1_spreadCracks_18 rfl rfl ?_
    refine v_zaldN (pc := 19) 4 (k := i) rfl (by omega) (by decide) dX1_spreadCracks_19 ?_
    refine v_zastN (pc := 20) 5 (k := i) rfl (by omega) (by decide) (hC _) dX1_spreadCracks_20 ?_
    refine v_iinc (pc := 21) (v := nI (i + 1)) dX1_spreadCracks_21 rfl (nI_1 _) (by decide) rfl ?_
    refine v_goto (pc := 24) (tgt := 2) dX1_spreadCracks_24 (by decide) ?_
    refine v_cgZ 5 (g := fillU C B (i + 1)) rfl (fill_step rfl) ?_
    exact ih (i + 1) (by omega)
set_option maxRecDepth 100000 in
set_option maxHeartbeats 4000000 in
theorem c_X1_spreadCracks {G : Cx} {w : Nat → Nat} {T N S C B O : Nat → Int32} {ch : Int32} (hC : ∀ j, vp_nar .boolean (C j) = C j) : Mt G Y_X1_spreadCracks 2 0 0 ([.ref (w 5)]) (LakeM w T N S C B O ch) (fun v M' => v = none ∧ M' = LakeM w T N S (fillU (spC T S C) C 160) (fillU C B 160) O ch) noX := by
  refine Mt.of (L := [some (.ref (w 5)), none]) rfl (by decide) (by simp [lg_sl, Value.category]) ⟨rfl, trivial⟩ (fun sz => ?_)
  refine v_iconst (pc := 0) (v := 0) dX1_spreadCracks_0 rfl ?_
  refine v_istore_n (pc := 1) dX1_spreadCracks_1 rfl (by decide) rfl ?_
  exact lp_X1_spread1 hC 160 0 (by omega)
set_option maxRecDepth 100000 in
set_option maxHeartbeats 4000000 in
theorem c_X1_beginDay {G : Cx} {w : Nat → Nat} {T N S C B O : Nat → Int32} {ch : Int32} {dd : Nat} (hdd : dd < 2 ^ 31) (hC : ∀ j, vp_nar .boolean (C j) = C j) : Mt G Y_X1_beginDay 3 0 0 ([.ref (w 5)] ++ [.int (nI dd)]) (LakeM w T N S C B O ch) (fun v M' => v = none ∧ M' = LakeM w (dT (O (dd % 8)) T) N (dS (O (dd % 8)) T S) (dC (O (dd % 8)) T S C) (dB (O (dd % 8)) C B) O (dH (O (dd % 8)) ch)) noX := by
  refine Mt.of (L := [some (.ref (w 5)), some (.int (nI dd)), none]) rfl (by decide) (by simp [lg_sl, Value.category]) ⟨rfl, rfl, trivial⟩ (fun sz => ?_)
  refine v_aload_nR (pc := 0) dX1_beginDay_0 rfl rfl ?_
  refine v_get (pc := 1) 5 0 fg_X1_28 rfl rfl dX1_beginDay_1 ?_
  refine v_iload_n (pc := 4) dX1_beginDay_4 rfl rfl ?_
  refine v_bipush (pc := 5) (v := 8) dX1_beginDay_5 rfl ?_
  refine v_callS2 (pc := 7) (c_J9_floorMod_7cf53 hdd) cm_J9_floorMod_7cf53 q395 q396 [] (by rfl) (by decide) (fun _ _ h => h) (by decide) (by decide) (by decide) (Nat.le_of_ble_eq_true rfl) dX1_beginDay_7 (fun v7 M7 hQ7 => ?_)
  obtain ⟨rfl, rfl⟩ := hQ7
  refine v_ialdN (pc := 10) 6 (k := (dd % 8)) rfl (by omega) (by decide) dX1_beginDay_10 ?_
  refine v_istore_n (pc := 11) dX1_beginDay_11 rfl (by decide) rfl ?_
  refine v_iload_n (pc := 12) dX1_beginDay_12 rfl rfl ?_
  refine v_if_le (pc := 13) (tgt := 24) dX1_beginDay_13 (by decide) (fun c13 => ?_) (fun c13 => ?_)
  · refine v_iload_n (pc := 24) dX1_beginDay_24 rfl rfl ?_
    refine v_if_ge (pc := 25) (tgt := 38) dX1_beginDay_25 (by decide) (fun c25 => ?_) (fun c25 => ?_)
    · refine v_vret (pc := 38) rfl (Nat.le_of_ble_eq_true rfl) dX1_beginDay_38 ?_
      have h0 : ¬ 0 < O (dd % 8) := Int32.not_lt.mpr c13
      refine ⟨rfl, ?_⟩; unfold dT dS dC dB dH; rw [if_neg h0, if_neg (Int32.not_lt.mpr c25), if_neg h0, if_neg h0, if_neg (Int32.not_lt.mpr c25), if_neg h0, if_neg (Int32.not_lt.mpr c25), if_neg h0]; rfl
    · refine v_aload_nR (pc := 28) dX1_beginDay_28 rfl rfl ?_
      refine v_iload_n (pc := 29) dX1_beginDay_29 rfl rfl ?_
      refine v_ineg (pc := 30) dX1_beginDay_30 ?_
      refine v_callV1 (pc := 31) (c_X1_thin ) cm_X1_thin q408 q410 qs2 (ci := 1) rfl rfl (orcO 0 rfl) [0, 1, 2, 3, 4, 5, 6] (by rfl) (by decide) (fun _ _ h => h) (by decide) (by decide) (by decide) (Nat.le_of_ble_eq_true rfl) dX1_beginDay_31 (fun v31 M31 hQ31 => ?_)
      obtain ⟨rfl, rfl⟩ := hQ31
      refine v_aload_nR (pc := 34) dX1_beginDay_34 rfl rfl ?_
      refine v_callV0 (pc := 35) (c_X1_spreadCracks hC) cm_X1_spreadCracks q412 q414 qs3 (ci := 1) rfl rfl (orcO 0 rfl) [0, 1, 2, 3, 4, 5, 6] (by rfl) (by decide) (fun _ _ h => h) (by decide) (by decide) (by decide) (Nat.le_of_ble_eq_true rfl) dX1_beginDay_35 (fun v35 M35 hQ35 => ?_)
      obtain ⟨rfl, rfl⟩ := hQ35
      refine v_vret (pc := 38) rfl (Nat.le_of_ble_eq_true rfl) dX1_beginDay_38 ?_
      have h0 : ¬ 0 < O (dd % 8) := Int32.not_lt.mpr c13
      have h1 : dT (O (dd % 8)) T = fillU (thT (-O (dd % 8)) T) T 160 := by unfold dT; rw [if_neg h0, if_pos (Int32.not_le.mp c25)]
      refine ⟨rfl, ?_⟩; unfold dS dC dB dH; rw [if_neg h0, if_neg h0, if_pos (Int32.not_le.mp c25), if_neg h0, if_pos (Int32.not_le.mp c25), if_neg h0, h1]; rfl
  · refine v_aload_nR (pc := 16) dX1_beginDay_16 rfl rfl ?_
    refine v_iload_n (pc := 17) dX1_beginDay_17 rfl rfl ?_
    refine v_callV1 (pc := 18) (c_X1_freeze ) cm_X1_freeze q398 q400 qs1 (ci := 1) rfl rfl (orcO 0 rfl) [0, 1, 2, 3, 4, 5, 6] (by rfl) (by decide) (fun _ _ h => h) (by decide) (by decide) (by decide) (Nat.le_of_ble_eq_true rfl) dX1_beginDay_18 (fun v18 M18 hQ18 => ?_)
    obtain ⟨rfl, rfl⟩ := hQ18
    refine v_goto (pc := 21) (tgt := 38) dX1_beginDay_21 (by decide) ?_
    refine v_vret (pc := 38) rfl (Nat.le_of_ble_eq_true rfl) dX1_beginDay_38 ?_
    refine ⟨rfl, ?_⟩; unfold dT dS dC dB dH; rw [if_pos (Int32.not_le.mp c13), if_pos (Int32.not_le.mp c13), if_pos (Int32.not_le.mp c13), if_pos (Int32.not_le.mp c13), if_pos (Int32.not_le.mp c13)]; rfl
