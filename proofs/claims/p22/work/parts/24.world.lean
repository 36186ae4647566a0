/-! the world -/
def sS (w : Nat → Nat) (i : Nat) : Nat := w (15 + i)
def sB (w : Nat → Nat) (i : Nat) : Nat := w (20 + i)
abbrev WorldM (w : Nat → Nat) (a b f : Nat → Int32) (wa : Int32) (lr : Value) (nd dg : Int32) (T N S C B O : Nat → Int32) (ch : Int32) (PC : Nat → Int32) (SF BF : Nat → Nat → Int32) (ps sc bc hh : Nat) : List ME := [eO 4 (w 0) [.ref (w 1), .ref (w 5), .ref (w 12), .ref (w 13), .ref (w 14), .int (nI ps), .int (nI sc), .int (nI bc), .int (nI hh)], eO 3 (w 1) [.ref (w 2), .ref (w 3), .ref (w 4), .int wa, lr, .int nd, .int dg], eI (w 2) 160 a, eI (w 3) 64 b, eI (w 4) 160 f, eO 1 (w 5) [.ref (w 6), .ref (w 7), .ref (w 8), .ref (w 9), .ref (w 10), .ref (w 11), .int ch], eI (w 6) 160 T, eI (w 7) 160 N, eI (w 8) 160 S, eZ (w 9) 160 C, eZ (w 10) 160 B, eI (w 11) 8 O, eI (w 12) 8 PC, eQ 3 (w 13) 5 (fun j => some (sS w j)), eQ 4 (w 14) 40 (fun j => some (sB w j)), eS 2 (sS w) 5 9 SF, eS 0 (sB w) 40 5 BF]
theorem kOf {x : Int32} {n : Nat} (h : 0 ≤ x ∧ x < nI n) (hn : n < 2 ^ 31) : ∃ k, k < n ∧ x = nI k := by
  refine nI_mk ?_ ?_ hn
  · have := Int32.le_iff_toInt_le.mp h.1; simpa using this
  · have := Int32.lt_iff_toInt_lt.mp h.2; rw [nI_toInt hn] at this; exact this
/-- a post's cell -/
def cop (PC : Nat → Int32) (ps : Nat) (q : Int32) : Int32 := if 0 ≤ q ∧ q < nI ps then PC (cN q) else -1
theorem cop_k {PC : Nat → Int32} {ps k : Nat} (h : k < ps) (hp : ps ≤ 8) : cop PC ps (nI k) = PC k := by
  unfold cop
  rw [if_pos ⟨nI_pos' (by omega), nI_lt (b := ps) h (by omega)⟩, cN_nI (by omega)]
def pOn (PC : Nat → Int32) (ps : Nat) (c : Int32) : Nat → Nat → Option Nat
  | 0, _ => none
  | m + 1, i => if i < ps ∧ PC i = c then some i else pOn PC ps c m (i + 1)
def onF (SF : Nat → Nat → Int32) (sc : Nat) (c : Int32) (i : Nat) : Int32 := if i < sc ∧ ¬ SF i 3 = 2 ∧ SF i 4 = c then 1 else 0
def bgF (BF : Nat → Nat → Int32) (bc : Nat) (s : Int32) (i : Nat) : Int32 := if i < bc ∧ BF i 2 = 1 ∧ BF i 3 = s then 1 else 0
def skF (SF : Nat → Nat → Int32) (sc : Nat) (i : Nat) : Int32 := if i < sc ∧ SF i 3 = 2 then 1 else 0
def btF (BF : Nat → Nat → Int32) (bc : Nat) (s : Int32) (i : Nat) : Int32 := if i < bc ∧ BF i 2 = s then 1 else 0
theorem sum_0 {F : Nat → Int32} {i : Nat} (h : F i = 0) : sumN F i = sumN F (i + 1) := by
  show _ = sumN F i + F i
  rw [h]; exact (Int32.add_zero _).symm
theorem sum_1 {F : Nat → Int32} {i : Nat} (h : F i = 1) : sumN F i + 1 = sumN F (i + 1) := by
  show _ = sumN F i + F i
  rw [h]
/-- what is lost with a sleigh -/
def lsB (BF : Nat → Nat → Int32) (bc : Nat) (s : Int32) : Nat → Nat → Nat → Int32
  | 0 => BF
  | n + 1 => if n < bc ∧ lsB BF bc s n n 2 = 1 ∧ lsB BF bc s n n 3 = s then upS (upS (lsB BF bc s n) n 2 3) n 3 (-1) else lsB BF bc s n
/-- what is put down from a sleigh, and how much of it has come -/
def ulB (BF : Nat → Nat → Int32) (bc : Nat) (s q h : Int32) : Nat → (Nat → Nat → Int32) × Int32
  | 0 => (BF, 0)
  | n + 1 => if n < bc ∧ (ulB BF bc s q h n).1 n 2 = 1 ∧ (ulB BF bc s q h n).1 n 3 = s then (pdB (ulB BF bc s q h n).1 n q h, (ulB BF bc s q h n).2 + (if q = (ulB BF bc s q h n).1 n 1 then 1 else 0)) else ulB BF bc s q h n
set_option maxRecDepth 100000 in
set_option maxHeartbeats 4000000 in
theorem c_X4_isPost {G : Cx} {w : Nat → Nat} {a b f : Nat → Int32} {wa : Int32} {lr : Value} {nd dg : Int32} {T N S C B O : Nat → Int32} {ch : Int32} {PC : Nat → Int32} {SF BF : Nat → Nat → Int32} {ps sc bc hh : Nat} (hps : ps ≤ 8) (hsc : sc ≤ 5) (hbc : bc ≤ 40) {q : Int32} : Mt G Y_X4_isPost 0 0 0 [.ref (w 0), .int q] (WorldM w a b f wa lr nd dg T N S C B O ch PC SF BF ps sc bc hh) (fun v M' => v = some (.int (bI (0 ≤ q ∧ q < nI ps))) ∧ M' = WorldM w a b f wa lr nd dg T N S C B O ch PC SF BF ps sc bc hh) noX := by
  refine Mt.of (L := [some (.ref (w 0)), some (.int q)]) rfl (by decide) (by simp [lg_sl, Value.category]) ⟨rfl, rfl, trivial⟩ (fun sz => ?_)
  have ep := nI_toInt (n := ps) (by omega)
  refine v_iload_n (pc := 0) dX4_isPost_0 rfl rfl ?_
  refine v_if_lt (pc := 1) (tgt := 22) dX4_isPost_1 (by decide) (fun c1 => ?_) (fun c1 => ?_)
  · refine v_iconst (pc := 22) (v := 0) dX4_isPost_22 rfl ?_
    refine v_iret (pc := 23) rfl rfl (Nat.le_of_ble_eq_true rfl) dX4_isPost_23 ?_
    exact ⟨by first | (rw [bI_t] <;> (simp only [i_lt, i_le, i_eq, i_m1, i_m9, i_0, i_1, i_2, i_3, i_4, i_5, i_6, i_7, i_8, i_9, i_10, i_12, i_15, i_16, i_24, i_30, i_40, i_50, i_60, i_64, i_100, i_160, i_199, i_200, i_300, i_601, i_1024, i_2000, i_1000000] at *; omega)) | (rw [bI_f] <;> (simp only [i_lt, i_le, i_eq, i_m1, i_m9, i_0, i_1, i_2, i_3, i_4, i_5, i_6, i_7, i_8, i_9, i_10, i_12, i_15, i_16, i_24, i_30, i_40, i_50, i_60, i_64, i_100, i_160, i_199, i_200, i_300, i_601, i_1024, i_2000, i_1000000] at *; omega)), rfl⟩
  · refine v_iload_n (pc := 4) dX4_isPost_4 rfl rfl ?_
    refine v_aload_nR (pc := 5) dX4_isPost_5 rfl rfl ?_
    refine v_get (pc := 6) 5 0 fg_X4_53 rfl rfl dX4_isPost_6 ?_
    refine v_icmp_ge (pc := 9) (tgt := 22) dX4_isPost_9 (by decide) (fun c9 => ?_) (fun c9 => ?_)
    · refine v_iconst (pc := 22) (v := 0) dX4_isPost_22 rfl ?_
      refine v_iret (pc := 23) rfl rfl (Nat.le_of_ble_eq_true rfl) dX4_isPost_23 ?_
      exact ⟨by first | (rw [bI_t] <;> (simp only [i_lt, i_le, i_eq, i_m1, i_m9, i_0, i_1, i_2, i_3, i_4, i_5, i_6, i_7, i_8, i_9, i_10, i_12, i_15, i_16, i_24, i_30, i_40, i_50, i_60, i_64, i_100, i_160, i_199, i_200, i_300, i_601, i_1024, i_2000, i_1000000] at *; omega)) | (rw [bI_f] <;> (simp only [i_lt, i_le, i_eq, i_m1, i_m9, i_0, i_1, i_2, i_3, i_4, i_5, i_6, i_7, i_8, i_9, i_10, i_12, i_15, i_16, i_24, i_30, i_40, i_50, i_60, i_64, i_100, i_160, i_199, i_200, i_300, i_601, i_1024, i_2000, i_1000000] at *; omega)), rfl⟩
    · refine v_iload_n (pc := 12) dX4_isPost_12 rfl rfl ?_
      refine v_bipush (pc := 13) (v := 8) dX4_isPost_13 rfl ?_
      refine v_icmp_ge (pc := 15) (tgt := 22) dX4_isPost_15 (by decide) (fun c15 => ?_) (fun c15 => ?_)
      · refine v_iconst (pc := 22) (v := 0) dX4_isPost_22 rfl ?_
        refine v_iret (pc := 23) rfl rfl (Nat.le_of_ble_eq_true rfl) dX4_isPost_23 ?_
        exact ⟨by first | (rw [bI_t] <;> (simp only [i_lt, i_le, i_eq, i_m1, i_m9, i_0, i_1, i_2, i_3, i_4, i_5, i_6, i_7, i_8, i_9, i_10, i_12, i_15, i_16, i_24, i_30, i_40, i_50, i_60, i_64, i_100, i_160, i_199, i_200, i_300, i_601, i_1024, i_2000, i_1000000] at *; omega)) | (rw [bI_f] <;> (simp only [i_lt, i_le, i_eq, i_m1, i_m9, i_0, i_1, i_2, i_3, i_4, i_5, i_6, i_7, i_8, i_9, i_10, i_12, i_15, i_16, i_24, i_30, i_40, i_50, i_60, i_64, i_100, i_160, i_199, i_200, i_300, i_601, i_1024, i_2000, i_1000000] at *; omega)), rfl⟩
      · refine v_iconst (pc := 18) (v := 1) dX4_isPost_18 rfl ?_
        refine v_goto (pc := 19) (tgt := 23) dX4_isPost_19 (by decide) ?_
        refine v_iret (pc := 23) rfl rfl (Nat.le_of_ble_eq_true rfl) dX4_isPost_23 ?_
        exact ⟨by first | (rw [bI_t] <;> (simp only [i_lt, i_le, i_eq, i_m1, i_m9, i_0, i_1, i_2, i_3, i_4, i_5, i_6, i_7, i_8, i_9, i_10, i_12, i_15, i_16, i_24, i_30, i_40, i_50, i_60, i_64, i_100, i_160, i_199, i_200, i_300, i_601, i_1024, i_2000, i_1000000] at *; omega)) | (rw [bI_f] <;> (simp only [i_lt, i_le, i_eq, i_m1, i_m9, i_0, i_1, i_2, i_3, i_4, i_5, i_6, i_7, i_8, i_9, i_10, i_12, i_15, i_16, i_24, i_30, i_40, i_50, i_60, i_64, i_100, i_160, i_199, i_200, i_300, i_601, i_1024, i_2000, i_1000000] at *; omega)), rfl⟩
set_option maxRecDepth 100000 in
set_option maxHeartbeats 4000000 in
theorem c_X4_cellOfPost_k {G : Cx} {w : Nat → Nat} {a b f : Nat → Int32} {wa : Int32} {lr : Value} {nd dg : Int32} {T N S C B O : Nat → Int32} {ch : Int32} {PC : Nat → Int32} {SF BF : Nat → Nat → Int32} {ps sc bc hh : Nat} (hps : ps ≤ 8) (hsc : sc ≤ 5) (hbc : bc ≤ 40) {k : Nat} (hk : k < ps) : Mt G Y_X4_cellOfPost 1 0 0 [.ref (w 0), .int (nI k)] (WorldM w a b f wa lr nd dg T N S C B O ch PC SF BF ps sc bc hh) (fun v M' => v = some (.int (PC k)) ∧ M' = WorldM w a b f wa lr nd dg T N S C B O ch PC SF BF ps sc bc hh) noX := by
  refine Mt.of (L := [some (.ref (w 0)), some (.int (nI k))]) rfl (by decide) (by simp [lg_sl, Value.category]) ⟨rfl, rfl, trivial⟩ (fun sz => ?_)
  refine v_aload_nR (pc := 0) dX4_cellOfPost_0 rfl rfl ?_
  refine v_iload_n (pc := 1) dX4_cellOfPost_1 rfl rfl ?_
  refine v_callV1 (pc := 2) (c_X4_isPost hps hsc hbc) cm_X4_isPost q460 q461 q462 (ci := 4) rfl rfl (orcO 0 rfl) [0, 1, 2, 3, 4, 5, 6, 7, 8, 9, 10, 11, 12, 13, 14, 15, 16] (by rfl) (by decide) (fun _ _ h => h) (by decide) (by decide) (by decide) (Nat.le_of_ble_eq_true rfl) dX4_cellOfPost_2 (fun v2 M2 hQ2 => ?_)
  obtain ⟨rfl, rfl⟩ := hQ2
  try dsimp only [wb, LakeM, WaysM, WorldM, List.set_cons_succ, List.set_cons_zero, List.append_nil, List.nil_append, List.cons_append, Option.toList, Nat.sub_zero]
  refine v_if_eq (pc := 5) (tgt := 17) dX4_cellOfPost_5 (by decide) (fun c5 => absurd ⟨nI_pos' (by omega), nI_lt (b := ps) hk (by omega)⟩ (bI_0.mp c5)) (fun c5 => ?_)
  have c5 := bI_n.mp c5
  refine v_aload_nR (pc := 8) dX4_cellOfPost_8 rfl rfl ?_
  refine v_get (pc := 9) 2 0 fg_X4_25 rfl rfl dX4_cellOfPost_9 ?_
  refine v_iload_n (pc := 12) dX4_cellOfPost_12 rfl rfl ?_
  refine v_ialdN (pc := 13) 12 (k := k) rfl (by omega) (by decide) dX4_cellOfPost_13 ?_
  refine v_goto (pc := 14) (tgt := 18) dX4_cellOfPost_14 (by decide) ?_
  refine v_iret (pc := 18) rfl rfl (Nat.le_of_ble_eq_true rfl) dX4_cellOfPost_18 ?_
  exact ⟨rfl, rfl⟩
set_option maxRecDepth 100000 in
set_option maxHeartbeats 4000000 in
theorem c_X4_cellOfPost_n {G : Cx} {w : Nat → Nat} {a b f : Nat → Int32} {wa : Int32} {lr : Value} {nd dg : Int32} {T N S C B O : Nat → Int32} {ch : Int32} {PC : Nat → Int32} {SF BF : Nat → Nat → Int32} {ps sc bc hh : Nat} (hps : ps ≤ 8) (hsc : sc ≤ 5) (hbc : bc ≤ 40) {q : Int32} (hq : ¬ (0 ≤ q ∧ q < nI ps)) : Mt G Y_X4_cellOfPost 1 0 0 [.ref (w 0), .int q] (WorldM w a b f wa lr nd dg T N S C B O ch PC SF BF ps sc bc hh) (fun v M' => v = some (.int (-1)) ∧ M' = WorldM w a b f wa lr nd dg T N S C B O ch PC SF BF ps sc bc hh) noX := by
  refine Mt.of (L := [some (.ref (w 0)), some (.int q)]) rfl (by decide) (by simp [lg_sl, Value.category]) ⟨rfl, rfl, trivial⟩ (fun sz => ?_)
  refine v_aload_nR (pc := 0) dX4_cellOfPost_0 rfl rfl ?_
  refine v_iload_n (pc := 1) dX4_cellOfPost_1 rfl rfl ?_
  refine v_callV1 (pc := 2) (c_X4_isPost hps hsc hbc) cm_X4_isPost q460 q461 q462 (ci := 4) rfl rfl (orcO 0 rfl) [0, 1, 2, 3, 4, 5, 6, 7, 8, 9, 10, 11, 12, 13, 14, 15, 16] (by rfl) (by decide) (fun _ _ h => h) (by decide) (by decide) (by decide) (Nat.le_of_ble_eq_true rfl) dX4_cellOfPost_2 (fun v2 M2 hQ2 => ?_)
  obtain ⟨rfl, rfl⟩ := hQ2
  try dsimp only [wb, LakeM, WaysM, WorldM, List.set_cons_succ, List.set_cons_zero, List.append_nil, List.nil_append, List.cons_append, Option.toList, Nat.sub_zero]
  refine v_if_eq (pc := 5) (tgt := 17) dX4_cellOfPost_5 (by decide) (fun c5 => ?_) (fun c5 => absurd (bI_n.mp c5) hq)
  have c5 := bI_0.mp c5
  refine v_iconst (pc := 17) (v := -1) dX4_cellOfPost_17 rfl ?_
  refine v_iret (pc := 18) rfl rfl (Nat.le_of_ble_eq_true rfl) dX4_cellOfPost_18 ?_
  exact ⟨rfl, rfl⟩
theorem c_X4_cellOfPost {G : Cx} {w : Nat → Nat} {a b f : Nat → Int32} {wa : Int32} {lr : Value} {nd dg : Int32} {T N S C B O : Nat → Int32} {ch : Int32} {PC : Nat → Int32} {SF BF : Nat → Nat → Int32} {ps sc bc hh : Nat} (hps : ps ≤ 8) (hsc : sc ≤ 5) (hbc : bc ≤ 40) {q : Int32} : Mt G Y_X4_cellOfPost 1 0 0 [.ref (w 0), .int q] (WorldM w a b f wa lr nd dg T N S C B O ch PC SF BF ps sc bc hh) (fun v M' => v = some (.int (cop PC ps q)) ∧ M' = WorldM w a b f wa lr nd dg T N S C B O ch PC SF BF ps sc bc hh) noX := by
  by_cases h : 0 ≤ q ∧ q < nI ps
  · obtain ⟨k, hk, rfl⟩ := kOf h (by omega)
    rw [cop_k hk hps]
    exact c_X4_cellOfPost_k hps hsc hbc hk
  · rw [show cop PC ps q = -1 from if_neg h]
    exact c_X4_cellOfPost_n hps hsc hbc h
set_option maxRecDepth 100000 in
set_option maxHeartbeats 4000000 in
theorem lp_X4_postOn {G : Cx} {w : Nat → Nat} {a b f : Nat → Int32} {wa : Int32} {lr : Value} {nd dg : Int32} {T N S C B O : Nat → Int32} {ch : Int32} {PC : Nat → Int32} {SF BF : Nat → Nat → Int32} {ps sc bc hh : Nat} (hps : ps ≤ 8) (hsc : sc ≤ 5) (hbc : bc ≤ 40) {sz : Nat} {c : Int32} : ∀ (m i : Nat), m + i = 8 → ∀ r, pOn PC ps c m i = r → V G Y_X4_postOn (ZM G (WorldM w a b f wa lr nd dg T N S C B O ch PC SF BF ps sc bc hh) sz (fun v M' => v = some (.int (oI (r))) ∧ M' = WorldM w a b f wa lr nd dg T N S C B O ch PC SF BF ps sc bc hh) noX) 0 0 0 2 [some (.ref (w 0)), some (.int c), some (.int (nI i))] [] (WorldM w a b f wa lr nd dg T N S C B O ch PC SF BF ps sc bc hh) := by
  intro m
  induction m with
  | zero =>
    intro i hi
    obtain rfl : i = 8 := by omega
    intro r hr
    obtain rfl : none = r := hr
    refine v_iload_n (pc := 2) dX4_postOn_2 rfl rfl ?_
    refine v_bipush (pc := 3) (v := 8) dX4_postOn_3 rfl ?_
    refine v_icmp_ge (pc := 5) (tgt := 34) dX4_postOn_5 (by decide) (fun c5 => ?_) (fun c5 => absurd (nI_le (a := 8) (b := 8) (Nat.le_refl _) (by decide)) c5)
    have c5 : 8 ≤ 8 := (nI_leI (a := 8) (b := 8) (by omega) (by omega)).mp c5
    refine v_iconst (pc := 34) (v := -1) dX4_postOn_34 rfl ?_
    refine v_iret (pc := 35) rfl rfl (Nat.le_of_ble_eq_true rfl) dX4_postOn_35 ?_
    exact ⟨rfl, rfl⟩
  | succ m ih =>
    intro i hi
    intro r hr
    unfold pOn at hr
    refine v_iload_n (pc := 2) dX4_postOn_2 rfl rfl ?_
    refine v_bipush (pc := 3) (v := 8) dX4_postOn_3 rfl ?_
    refine v_icmp_ge (pc := 5) (tgt := 34) dX4_postOn_5 (by decide) (fun c5 => absurd c5 (nI_ge (a := i) (b := 8) (by omega) (by decide))) (fun c5 => ?_)
    have c5 : ¬ 8 ≤ i := fun h => c5 ((nI_leI (a := 8) (b := i) (by omega) (by omega)).mpr h)
    refine v_iload_n (pc := 8) dX4_postOn_8 rfl rfl ?_
    refine v_aload_nR (pc := 9) dX4_postOn_9 rfl rfl ?_
    refine v_get (pc := 10) 5 0 fg_X4_53 rfl rfl dX4_postOn_10 ?_
    refine v_icmp_ge (pc := 13) (tgt := 28) dX4_postOn_13 (by decide) (fun c13 => ?_) (fun c13 => ?_)
    · have c13 : ps ≤ i := (nI_leI (a := ps) (b := i) (by omega) (by omega)).mp c13
      refine v_iinc (pc := 28) (v := nI (i + 1)) dX4_postOn_28 rfl (nI_1 _) (by decide) rfl ?_
      refine v_goto (pc := 31) (tgt := 2) dX4_postOn_31 (by decide) ?_
      rw [if_neg (fun h => absurd c13 (Nat.not_le.mpr h.1))] at hr
      exact ih (i + 1) (by omega) r hr
    · have c13 : ¬ ps ≤ i := fun h => c13 ((nI_leI (a := ps) (b := i) (by omega) (by omega)).mpr h)
      refine v_aload_nR (pc := 16) dX4_postOn_16 rfl rfl ?_
      refine v_get (pc := 17) 2 0 fg_X4_25 rfl rfl dX4_postOn_17 ?_
      refine v_iload_n (pc := 20) dX4_postOn_20 rfl rfl ?_
      refine v_ialdN (pc := 21) 12 (k := i) rfl (by omega) (by decide) dX4_postOn_21 ?_
      refine v_iload_n (pc := 22) dX4_postOn_22 rfl rfl ?_
      refine v_icmp_ne (pc := 23) (tgt := 28) dX4_postOn_23 (by decide) (fun c23 => ?_) (fun c23 => ?_)
      · refine v_iinc (pc := 28) (v := nI (i + 1)) dX4_postOn_28 rfl (nI_1 _) (by decide) rfl ?_
        refine v_goto (pc := 31) (tgt := 2) dX4_postOn_31 (by decide) ?_
        rw [if_neg (fun h => c23 h.2)] at hr
        exact ih (i + 1) (by omega) r hr
      · refine v_iload_n (pc := 26) dX4_postOn_26 rfl rfl ?_
        refine v_iret (pc := 27) rfl rfl (Nat.le_of_ble_eq_true rfl) dX4_postOn_27 ?_
        rw [if_pos ⟨Nat.not_le.mp c13, c23⟩] at hr
        exact ⟨by rw [← hr]; rfl, rfl⟩
set_option maxRecDepth 100000 in
set_option maxHeartbeats 4000000 in
theorem c_X4_postOn {G : Cx} {w : Nat → Nat} {a b f : Nat → Int32} {wa : Int32} {lr : Value} {nd dg : Int32} {T N S C B O : Nat → Int32} {ch : Int32} {PC : Nat → Int32} {SF BF : Nat → Nat → Int32} {ps sc bc hh : Nat} (hps : ps ≤ 8) (hsc : sc ≤ 5) (hbc : bc ≤ 40) {c : Int32} : Mt G Y_X4_postOn 0 0 0 [.ref (w 0), .int c] (WorldM w a b f wa lr nd dg T N S C B O ch PC SF BF ps sc bc hh) (fun v M' => v = some (.int (oI (pOn PC ps c 8 0))) ∧ M' = WorldM w a b f wa lr nd dg T N S C B O ch PC SF BF ps sc bc hh) noX := by
  refine Mt.of (L := [some (.ref (w 0)), some (.int c), none]) rfl (by decide) (by simp [lg_sl, Value.category]) ⟨rfl, rfl, trivial⟩ (fun sz => ?_)
  refine v_iconst (pc := 0) (v := 0) dX4_postOn_0 rfl ?_
  refine v_istore_n (pc := 1) dX4_postOn_1 rfl (by decide) rfl ?_
  exact lp_X4_postOn hps hsc hbc 8 0 (by omega) _ rfl
set_option maxRecDepth 100000 in
set_option maxHeartbeats 4000000 in
theorem c_X4_sleighAt_k {G : Cx} {w : Nat → Nat} {a b f : Nat → Int32} {wa : Int32} {lr : Value} {nd dg : Int32} {T N S C B O : Nat → Int32} {ch : Int32} {PC : Nat → Int32} {SF BF : Nat → Nat → Int32} {ps sc bc hh : Nat} (hps : ps ≤ 8) (hsc : sc ≤ 5) (hbc : bc ≤ 40) {k : Nat} (hk : k < sc) : Mt G Y_X4_sleighAt 0 0 0 [.ref (w 0), .int (nI k)] (WorldM w a b f wa lr nd dg T N S C B O ch PC SF BF ps sc bc hh) (fun v M' => v = some (.ref (sS w k)) ∧ M' = WorldM w a b f wa lr nd dg T N S C B O ch PC SF BF ps sc bc hh) noX := by
  refine Mt.of (L := [some (.ref (w 0)), some (.int (nI k))]) rfl (by decide) (by simp [lg_sl, Value.category]) ⟨rfl, rfl, trivial⟩ (fun sz => ?_)
  refine v_iload_n (pc := 0) dX4_sleighAt_0 rfl rfl ?_
  refine v_if_lt (pc := 1) (tgt := 26) dX4_sleighAt_1 (by decide) (fun c1 => absurd c1 (nI_pos (by omega))) (fun c1 => ?_)
  have c1 : ¬ k < 0 := fun h => c1 ((nI_ltI (a := k) (b := 0) (by omega) (by omega)).mpr h)
  refine v_iload_n (pc := 4) dX4_sleighAt_4 rfl rfl ?_
  refine v_aload_nR (pc := 5) dX4_sleighAt_5 rfl rfl ?_
  refine v_get (pc := 6) 6 0 fg_X4_57 rfl rfl dX4_sleighAt_6 ?_
  refine v_icmp_ge (pc := 9) (tgt := 26) dX4_sleighAt_9 (by decide) (fun c9 => absurd c9 (nI_ge (a := k) (b := sc) hk (by omega))) (fun c9 => ?_)
  have c9 : ¬ sc ≤ k := fun h => c9 ((nI_leI (a := sc) (b := k) (by omega) (by omega)).mpr h)
  refine v_iload_n (pc := 12) dX4_sleighAt_12 rfl rfl ?_
  refine v_iconst (pc := 13) (v := 5) dX4_sleighAt_13 rfl ?_
  refine v_icmp_ge (pc := 14) (tgt := 26) dX4_sleighAt_14 (by decide) (fun c14 => absurd c14 (nI_ge (a := k) (b := 5) (by omega) (by omega))) (fun c14 => ?_)
  have c14 : ¬ 5 ≤ k := fun h => c14 ((nI_leI (a := 5) (b := k) (by omega) (by omega)).mpr h)
  refine v_aload_nR (pc := 17) dX4_sleighAt_17 rfl rfl ?_
  refine v_get (pc := 18) 3 0 fg_X4_31 rfl rfl dX4_sleighAt_18 ?_
  refine v_iload_n (pc := 21) dX4_sleighAt_21 rfl rfl ?_
  refine v_aaldS (pc := 22) 13 (k := k) (by decide) rfl (by omega) (by decide) dX4_sleighAt_22 ?_
  refine v_goto (pc := 23) (tgt := 27) dX4_sleighAt_23 (by decide) ?_
  refine v_aret (pc := 27) rfl (Or.inl ⟨_, rfl⟩) (Or.inr ⟨_, rfl⟩) (Nat.le_of_ble_eq_true rfl) dX4_sleighAt_27 ?_
  exact ⟨rfl, rfl⟩
set_option maxRecDepth 100000 in
set_option maxHeartbeats 4000000 in
theorem c_X4_sleighAt_n {G : Cx} {w : Nat → Nat} {a b f : Nat → Int32} {wa : Int32} {lr : Value} {nd dg : Int32} {T N S C B O : Nat → Int32} {ch : Int32} {PC : Nat → Int32} {SF BF : Nat → Nat → Int32} {ps sc bc hh : Nat} (hps : ps ≤ 8) (hsc : sc ≤ 5) (hbc : bc ≤ 40) {q : Int32} (hq : ¬ (0 ≤ q ∧ q < nI sc)) : Mt G Y_X4_sleighAt 0 0 0 [.ref (w 0), .int q] (WorldM w a b f wa lr nd dg T N S C B O ch PC SF BF ps sc bc hh) (fun v M' => v = some .null ∧ M' = WorldM w a b f wa lr nd dg T N S C B O ch PC SF BF ps sc bc hh) noX := by
  refine Mt.of (L := [some (.ref (w 0)), some (.int q)]) rfl (by decide) (by simp [lg_sl, Value.category]) ⟨rfl, rfl, trivial⟩ (fun sz => ?_)
  refine v_iload_n (pc := 0) dX4_sleighAt_0 rfl rfl ?_
  refine v_if_lt (pc := 1) (tgt := 26) dX4_sleighAt_1 (by decide) (fun c1 => ?_) (fun c1 => ?_)
  · refine v_null (pc := 26) dX4_sleighAt_26 ?_
    refine v_aret (pc := 27) rfl (Or.inl ⟨_, rfl⟩) (Or.inl rfl) (Nat.le_of_ble_eq_true rfl) dX4_sleighAt_27 ?_
    exact ⟨rfl, rfl⟩
  · refine v_iload_n (pc := 4) dX4_sleighAt_4 rfl rfl ?_
    refine v_aload_nR (pc := 5) dX4_sleighAt_5 rfl rfl ?_
    refine v_get (pc := 6) 6 0 fg_X4_57 rfl rfl dX4_sleighAt_6 ?_
    refine v_icmp_ge (pc := 9) (tgt := 26) dX4_sleighAt_9 (by decide) (fun c9 => ?_) (fun c9 => ?_)
    · refine v_null (pc := 26) dX4_sleighAt_26 ?_
      refine v_aret (pc := 27) rfl (Or.inl ⟨_, rfl⟩) (Or.inl rfl) (Nat.le_of_ble_eq_true rfl) dX4_sleighAt_27 ?_
      exact ⟨rfl, rfl⟩
    · refine v_iload_n (pc := 12) dX4_sleighAt_12 rfl rfl ?_
      refine v_iconst (pc := 13) (v := 5) dX4_sleighAt_13 rfl ?_
      refine v_icmp_ge (pc := 14) (tgt := 26) dX4_sleighAt_14 (by decide) (fun c14 => ?_) (fun c14 => absurd ⟨Int32.not_lt.mp c1, Int32.not_le.mp c9⟩ hq)
      refine v_null (pc := 26) dX4_sleighAt_26 ?_
      refine v_aret (pc := 27) rfl (Or.inl ⟨_, rfl⟩) (Or.inl rfl) (Nat.le_of_ble_eq_true rfl) dX4_sleighAt_27 ?_
      exact ⟨rfl, rfl⟩
set_option maxRecDepth 100000 in
set_option maxHeartbeats 4000000 in
theorem c_X4_bagAt_k {G : Cx} {w : Nat → Nat} {a b f : Nat → Int32} {wa : Int32} {lr : Value} {nd dg : Int32} {T N S C B O : Nat → Int32} {ch : Int32} {PC : Nat → Int32} {SF BF : Nat → Nat → Int32} {ps sc bc hh : Nat} (hps : ps ≤ 8) (hsc : sc ≤ 5) (hbc : bc ≤ 40) {k : Nat} (hk : k < bc) : Mt G Y_X4_bagAt 0 0 0 [.ref (w 0), .int (nI k)] (WorldM w a b f wa lr nd dg T N S C B O ch PC SF BF ps sc bc hh) (fun v M' => v = some (.ref (sB w k)) ∧ M' = WorldM w a b f wa lr nd dg T N S C B O ch PC SF BF ps sc bc hh) noX := by
  refine Mt.of (L := [some (.ref (w 0)), some (.int (nI k))]) rfl (by decide) (by simp [lg_sl, Value.category]) ⟨rfl, rfl, trivial⟩ (fun sz => ?_)
  refine v_iload_n (pc := 0) dX4_bagAt_0 rfl rfl ?_
  refine v_if_lt (pc := 1) (tgt := 27) dX4_bagAt_1 (by decide) (fun c1 => absurd c1 (nI_pos (by omega))) (fun c1 => ?_)
  have c1 : ¬ k < 0 := fun h => c1 ((nI_ltI (a := k) (b := 0) (by omega) (by omega)).mpr h)
  refine v_iload_n (pc := 4) dX4_bagAt_4 rfl rfl ?_
  refine v_aload_nR (pc := 5) dX4_bagAt_5 rfl rfl ?_
  refine v_get (pc := 6) 7 0 fg_X4_75 rfl rfl dX4_bagAt_6 ?_
  refine v_icmp_ge (pc := 9) (tgt := 27) dX4_bagAt_9 (by decide) (fun c9 => absurd c9 (nI_ge (a := k) (b := bc) hk (by omega))) (fun c9 => ?_)
  have c9 : ¬ bc ≤ k := fun h => c9 ((nI_leI (a := bc) (b := k) (by omega) (by omega)).mpr h)
  refine v_iload_n (pc := 12) dX4_bagAt_12 rfl rfl ?_
  refine v_bipush (pc := 13) (v := 40) dX4_bagAt_13 rfl ?_
  refine v_icmp_ge (pc := 15) (tgt := 27) dX4_bagAt_15 (by decide) (fun c15 => absurd c15 (nI_ge (a := k) (b := 40) (by omega) (by omega))) (fun c15 => ?_)
  have c15 : ¬ 40 ≤ k := fun h => c15 ((nI_leI (a := 40) (b := k) (by omega) (by omega)).mpr h)
  refine v_aload_nR (pc := 18) dX4_bagAt_18 rfl rfl ?_
  refine v_get (pc := 19) 4 0 fg_X4_37 rfl rfl dX4_bagAt_19 ?_
  refine v_iload_n (pc := 22) dX4_bagAt_22 rfl rfl ?_
  refine v_aaldS (pc := 23) 14 (k := k) (by decide) rfl (by omega) (by decide) dX4_bagAt_23 ?_
  refine v_goto (pc := 24) (tgt := 28) dX4_bagAt_24 (by decide) ?_
  refine v_aret (pc := 28) rfl (Or.inl ⟨_, rfl⟩) (Or.inr ⟨_, rfl⟩) (Nat.le_of_ble_eq_true rfl) dX4_bagAt_28 ?_
  exact ⟨rfl, rfl⟩
set_option maxRecDepth 100000 in
set_option maxHeartbeats 4000000 in
theorem c_X4_bagAt_n {G : Cx} {w : Nat → Nat} {a b f : Nat → Int32} {wa : Int32} {lr : Value} {nd dg : Int32} {T N S C B O : Nat → Int32} {ch : Int32} {PC : Nat → Int32} {SF BF : Nat → Nat → Int32} {ps sc bc hh : Nat} (hps : ps ≤ 8) (hsc : sc ≤ 5) (hbc : bc ≤ 40) {q : Int32} (hq : ¬ (0 ≤ q ∧ q < nI bc)) : Mt G Y_X4_bagAt 0 0 0 [.ref (w 0), .int q] (WorldM w a b f wa lr nd dg T N S C B O ch PC SF BF ps sc bc hh) (fun v M' => v = some .null ∧ M' = WorldM w a b f wa lr nd dg T N S C B O ch PC SF BF ps sc bc hh) noX := by
  refine Mt.of (L := [some (.ref (w 0)), some (.int q)]) rfl (by decide) (by simp [lg_sl, Value.category]) ⟨rfl, rfl, trivial⟩ (fun sz => ?_)
  refine v_iload_n (pc := 0) dX4_bagAt_0 rfl rfl ?_
  refine v_if_lt (pc := 1) (tgt := 27) dX4_bagAt_1 (by decide) (fun c1 => ?_) (fun c1 => ?_)
  · refine v_null (pc := 27) dX4_bagAt_27 ?_
    refine v_aret (pc := 28) rfl (Or.inl ⟨_, rfl⟩) (Or.inl rfl) (Nat.le_of_ble_eq_true rfl) dX4_bagAt_28 ?_
    exact ⟨rfl, rfl⟩
  · refine v_iload_n (pc := 4) dX4_bagAt_4 rfl rfl ?_
    refine v_aload_nR (pc := 5) dX4_bagAt_5 rfl rfl ?_
    refine v_get (pc := 6) 7 0 fg_X4_75 rfl rfl dX4_bagAt_6 ?_
    refine v_icmp_ge (pc := 9) (tgt := 27) dX4_bagAt_9 (by decide) (fun c9 => ?_) (fun c9 => ?_)
    · refine v_null (pc := 27) dX4_bagAt_27 ?_
      refine v_aret (pc := 28) rfl (Or.inl ⟨_, rfl⟩) (Or.inl rfl) (Nat.le_of_ble_eq_true rfl) dX4_bagAt_28 ?_
      exact ⟨rfl, rfl⟩
    · refine v_iload_n (pc := 12) dX4_bagAt_12 rfl rfl ?_
      refine v_bipush (pc := 13) (v := 40) dX4_bagAt_13 rfl ?_
      refine v_icmp_ge (pc := 15) (tgt := 27) dX4_bagAt_15 (by decide) (fun c15 => ?_) (fun c15 => absurd ⟨Int32.not_lt.mp c1, Int32.not_le.mp c9⟩ hq)
      refine v_null (pc := 27) dX4_bagAt_27 ?_
      refine v_aret (pc := 28) rfl (Or.inl ⟨_, rfl⟩) (Or.inl rfl) (Nat.le_of_ble_eq_true rfl) dX4_bagAt_28 ?_
      exact ⟨rfl, rfl⟩
theorem nk_no {i n : Nat} (h : ¬ i < n) (hi : i < 2 ^ 31) (hn : n < 2 ^ 31) : ¬ (0 ≤ nI i ∧ nI i < nI n) := by
  intro q
  obtain ⟨k, hk, e⟩ := kOf q hn
  have := (nI_eq hi (by omega)).mp e
  omega
set_option maxRecDepth 100000 in
set_option maxHeartbeats 4000000 in
theorem lp_X4_sleighsOn {G : Cx} {w : Nat → Nat} {a b f : Nat → Int32} {wa : Int32} {lr : Value} {nd dg : Int32} {T N S C B O : Nat → Int32} {ch : Int32} {PC : Nat → Int32} {SF BF : Nat → Nat → Int32} {ps sc bc hh : Nat} (hps : ps ≤ 8) (hsc : sc ≤ 5) (hbc : bc ≤ 40) {sz : Nat} {c : Int32} : ∀ (m i : Nat), m + i = 5 → V G Y_X4_sleighsOn (ZM G (WorldM w a b f wa lr nd dg T N S C B O ch PC SF BF ps sc bc hh) sz (fun v M' => v = some (.int (sumN (onF SF sc c) 5)) ∧ M' = WorldM w a b f wa lr nd dg T N S C B O ch PC SF BF ps sc bc hh) noX) 1 0 0 4 [some (.ref (w 0)), some (.int c), some (.int (sumN (onF SF sc c) i)), some (.int (nI i)), none] [] (WorldM w a b f wa lr nd dg T N S C B O ch PC SF BF ps sc bc hh) := by
  intro m
  induction m with
  | zero =>
    intro i hi
    obtain rfl : i = 5 := by omega
    refine v_iload_n (pc := 4) dX4_sleighsOn_4 rfl rfl ?_
    refine v_iconst (pc := 5) (v := 5) dX4_sleighsOn_5 rfl ?_
    refine v_icmp_ge (pc := 6) (tgt := 48) dX4_sleighsOn_6 (by decide) (fun c6 => ?_) (fun c6 => absurd (nI_le (a := 5) (b := 5) (Nat.le_refl _) (by decide)) c6)
    have c6 : 5 ≤ 5 := (nI_leI (a := 5) (b := 5) (by omega) (by omega)).mp c6
    refine v_iload_n (pc := 48) dX4_sleighsOn_48 rfl rfl ?_
    refine v_iret (pc := 49) rfl rfl (Nat.le_of_ble_eq_true rfl) dX4_sleighsOn_49 ?_
    exact ⟨rfl, rfl⟩
  | succ m ih =>
    intro i hi
    refine v_iload_n (pc := 4) dX4_sleighsOn_4 rfl rfl ?_
    refine v_iconst (pc := 5) (v := 5) dX4_sleighsOn_5 rfl ?_
    refine v_icmp_ge (pc := 6) (tgt := 48) dX4_sleighsOn_6 (by decide) (fun c6 => absurd c6 (nI_ge (a := i) (b := 5) (by omega) (by decide))) (fun c6 => ?_)
    have c6 : ¬ 5 ≤ i := fun h => c6 ((nI_leI (a := 5) (b := i) (by omega) (by omega)).mpr h)
    refine v_aload_nR (pc := 9) dX4_sleighsOn_9 rfl rfl ?_
    refine v_iload_n (pc := 10) dX4_sleighsOn_10 rfl rfl ?_
    by_cases c11 : i < sc
    · refine v_callV1 (pc := 11) (c_X4_sleighAt_k hps hsc hbc c11) cm_X4_sleighAt q319 q320 q321 (ci := 4) rfl rfl (orcO 0 rfl) [0, 1, 2, 3, 4, 5, 6, 7, 8, 9, 10, 11, 12, 13, 14, 15, 16] (by rfl) (by decide) (fun _ _ h => h) (by decide) (by decide) (by decide) (Nat.le_of_ble_eq_true rfl) dX4_sleighsOn_11 (fun v11 M11 hQ11 => ?_)
      obtain ⟨rfl, rfl⟩ := hQ11
      try dsimp only [wb, LakeM, WaysM, WorldM, List.set_cons_succ, List.set_cons_zero, List.append_nil, List.nil_append, List.cons_append, Option.toList, Nat.sub_zero]
      refine v_astoreR (pc := 14) dX4_sleighsOn_14 (by decide) rfl ?_
      refine v_aloadR (pc := 16) dX4_sleighsOn_16 rfl ?_
      refine v_ifnullR (pc := 18) dX4_sleighsOn_18 ?_
      refine v_aloadR (pc := 21) dX4_sleighsOn_21 rfl ?_
      refine v_getS (pc := 23) 3 15 fg_X4_101 rfl (by omega) (by decide) dX4_sleighsOn_23 ?_
      refine v_iconst (pc := 26) (v := 2) dX4_sleighsOn_26 rfl ?_
      refine v_icmp_eq (pc := 27) (tgt := 42) dX4_sleighsOn_27 (by decide) (fun c27 => ?_) (fun c27 => ?_)
      · refine v_iinc (pc := 42) (v := nI (i + 1)) dX4_sleighsOn_42 rfl (nI_1 _) (by decide) rfl ?_
        refine v_goto (pc := 45) (tgt := 4) dX4_sleighsOn_45 (by decide) ?_
        have e : sumN (onF SF sc c) i = sumN (onF SF sc c) (i + 1) := sum_0 (if_neg (fun h => h.2.1 c27))
        have k9 := ih (i + 1) (by omega)
        rw [← e] at k9
        refine v_sub ?_ k9
        exact ⟨rfl, rfl, rfl, rfl, trivial⟩
      · refine v_aloadR (pc := 30) dX4_sleighsOn_30 rfl ?_
        refine v_getS (pc := 32) 4 15 fg_X4_104 rfl (by omega) (by decide) dX4_sleighsOn_32 ?_
        refine v_iload_n (pc := 35) dX4_sleighsOn_35 rfl rfl ?_
        refine v_icmp_ne (pc := 36) (tgt := 42) dX4_sleighsOn_36 (by decide) (fun c36 => ?_) (fun c36 => ?_)
        · refine v_iinc (pc := 42) (v := nI (i + 1)) dX4_sleighsOn_42 rfl (nI_1 _) (by decide) rfl ?_
          refine v_goto (pc := 45) (tgt := 4) dX4_sleighsOn_45 (by decide) ?_
          have e : sumN (onF SF sc c) i = sumN (onF SF sc c) (i + 1) := sum_0 (if_neg (fun h => c36 h.2.2))
          have k9 := ih (i + 1) (by omega)
          rw [← e] at k9
          refine v_sub ?_ k9
          exact ⟨rfl, rfl, rfl, rfl, trivial⟩
        · refine v_iinc (pc := 39) dX4_sleighsOn_39 rfl rfl (by decide) rfl ?_
          refine v_iinc (pc := 42) (v := nI (i + 1)) dX4_sleighsOn_42 rfl (nI_1 _) (by decide) rfl ?_
          refine v_goto (pc := 45) (tgt := 4) dX4_sleighsOn_45 (by decide) ?_
          have e : sumN (onF SF sc c) i + 1 = sumN (onF SF sc c) (i + 1) := sum_1 (if_pos ⟨c11, c27, c36⟩)
          have k9 := ih (i + 1) (by omega)
          rw [← e] at k9
          refine v_sub ?_ k9
          exact ⟨rfl, rfl, rfl, rfl, trivial⟩
    · refine v_callV1 (pc := 11) (c_X4_sleighAt_n hps hsc hbc (nk_no c11 (by omega) (by omega))) cm_X4_sleighAt q319 q320 q321 (ci := 4) rfl rfl (orcO 0 rfl) [0, 1, 2, 3, 4, 5, 6, 7, 8, 9, 10, 11, 12, 13, 14, 15, 16] (by rfl) (by decide) (fun _ _ h => h) (by decide) (by decide) (by decide) (Nat.le_of_ble_eq_true rfl) dX4_sleighsOn_11 (fun v11 M11 hQ11 => ?_)
      obtain ⟨rfl, rfl⟩ := hQ11
      try dsimp only [wb, LakeM, WaysM, WorldM, List.set_cons_succ, List.set_cons_zero, List.append_nil, List.nil_append, List.cons_append, Option.toList, Nat.sub_zero]
      refine v_astoreN (pc := 14) dX4_sleighsOn_14 (by decide) rfl ?_
      refine v_aloadN (pc := 16) dX4_sleighsOn_16 rfl ?_
      refine v_ifnullN (pc := 18) (tgt := 42) dX4_sleighsOn_18 (by decide) ?_
      refine v_iinc (pc := 42) (v := nI (i + 1)) dX4_sleighsOn_42 rfl (nI_1 _) (by decide) rfl ?_
      refine v_goto (pc := 45) (tgt := 4) dX4_sleighsOn_45 (by decide) ?_
      have e : sumN (onF SF sc c) i = sumN (onF SF sc c) (i + 1) := sum_0 (if_neg (fun h => c11 h.1))
      have k9 := ih (i + 1) (by omega)
      rw [← e] at k9
      refine v_sub ?_ k9
      exact ⟨rfl, rfl, rfl, rfl, trivial⟩
set_option maxRecDepth 100000 in
set_option maxHeartbeats 4000000 in
theorem c_X4_sleighsOn {G : Cx} {w : Nat → Nat} {a b f : Nat → Int32} {wa : Int32} {lr : Value} {nd dg : Int32} {T N S C B O : Nat → Int32} {ch : Int32} {PC : Nat → Int32} {SF BF : Nat → Nat → Int32} {ps sc bc hh : Nat} (hps : ps ≤ 8) (hsc : sc ≤ 5) (hbc : bc ≤ 40) {c : Int32} : Mt G Y_X4_sleighsOn 1 0 0 [.ref (w 0), .int c] (WorldM w a b f wa lr nd dg T N S C B O ch PC SF BF ps sc bc hh) (fun v M' => v = some (.int (sumN (onF SF sc c) 5)) ∧ M' = WorldM w a b f wa lr nd dg T N S C B O ch PC SF BF ps sc bc hh) noX := by
  refine Mt.of (L := [some (.ref (w 0)), some (.int c), none, none, none]) rfl (by decide) (by simp [lg_sl, Value.category]) ⟨rfl, rfl, trivial⟩ (fun sz => ?_)
  refine v_iconst (pc := 0) (v := 0) dX4_sleighsOn_0 rfl ?_
  refine v_istore_n (pc := 1) dX4_sleighsOn_1 rfl (by decide) rfl ?_
  refine v_iconst (pc := 2) (v := 0) dX4_sleighsOn_2 rfl ?_
  refine v_istore_n (pc := 3) dX4_sleighsOn_3 rfl (by decide) rfl ?_
  refine v_sub ?_ (lp_X4_sleighsOn hps hsc hbc 5 0 (by omega))
  exact ⟨rfl, rfl, rfl, rfl, trivial⟩
set_option maxRecDepth 100000 in
set_option maxHeartbeats 4000000 in
theorem lp_X4_bagsOn {G : Cx} {w : Nat → Nat} {a b f : Nat → Int32} {wa : Int32} {lr : Value} {nd dg : Int32} {T N S C B O : Nat → Int32} {ch : Int32} {PC : Nat → Int32} {SF BF : Nat → Nat → Int32} {ps sc bc hh : Nat} (hps : ps ≤ 8) (hsc : sc ≤ 5) (hbc : bc ≤ 40) {sz : Nat} {c : Int32} : ∀ (m i : Nat), m + i = 40 → V G Y_X4_bagsOn (ZM G (WorldM w a b f wa lr nd dg T N S C B O ch PC SF BF ps sc bc hh) sz (fun v M' => v = some (.int (sumN (bgF BF bc c) 40)) ∧ M' = WorldM w a b f wa lr nd dg T N S C B O ch PC SF BF ps sc bc hh) noX) 1 0 0 4 [some (.ref (w 0)), some (.int c), some (.int (sumN (bgF BF bc c) i)), some (.int (nI i)), none] [] (WorldM w a b f wa lr nd dg T N S C B O ch PC SF BF ps sc bc hh) := by
  intro m
  induction m with
  | zero =>
    intro i hi
    obtain rfl : i = 40 := by omega
    refine v_iload_n (pc := 4) dX4_bagsOn_4 rfl rfl ?_
    refine v_bipush (pc := 5) (v := 40) dX4_bagsOn_5 rfl ?_
    refine v_icmp_ge (pc := 7) (tgt := 40) dX4_bagsOn_7 (by decide) (fun c7 => ?_) (fun c7 => absurd (nI_le (a := 40) (b := 40) (Nat.le_refl _) (by decide)) c7)
    have c7 : 40 ≤ 40 := (nI_leI (a := 40) (b := 40) (by omega) (by omega)).mp c7
    refine v_iload_n (pc := 40) dX4_bagsOn_40 rfl rfl ?_
    refine v_iret (pc := 41) rfl rfl (Nat.le_of_ble_eq_true rfl) dX4_bagsOn_41 ?_
    exact ⟨rfl, rfl⟩
  | succ m ih =>
    intro i hi
    refine v_iload_n (pc := 4) dX4_bagsOn_4 rfl rfl ?_
    refine v_bipush (pc := 5) (v := 40) dX4_bagsOn_5 rfl ?_
    refine v_icmp_ge (pc := 7) (tgt := 40) dX4_bagsOn_7 (by decide) (fun c7 => absurd c7 (nI_ge (a := i) (b := 40) (by omega) (by decide))) (fun c7 => ?_)
    have c7 : ¬ 40 ≤ i := fun h => c7 ((nI_leI (a := 40) (b := i) (by omega) (by omega)).mpr h)
    refine v_aload_nR (pc := 10) dX4_bagsOn_10 rfl rfl ?_
    refine v_iload_n (pc := 11) dX4_bagsOn_11 rfl rfl ?_
    by_cases c12 : i < bc
    · refine v_callV1 (pc := 12) (c_X4_bagAt_k hps hsc hbc c12) cm_X4_bagAt q349 q350 q351 (ci := 4) rfl rfl (orcO 0 rfl) [0, 1, 2, 3, 4, 5, 6, 7, 8, 9, 10, 11, 12, 13, 14, 15, 16] (by rfl) (by decide) (fun _ _ h => h) (by decide) (by decide) (by decide) (Nat.le_of_ble_eq_true rfl) dX4_bagsOn_12 (fun v12 M12 hQ12 => ?_)
      obtain ⟨rfl, rfl⟩ := hQ12
      try dsimp only [wb, LakeM, WaysM, WorldM, List.set_cons_succ, List.set_cons_zero, List.append_nil, List.nil_append, List.cons_append, Option.toList, Nat.sub_zero]
      refine v_astoreR (pc := 15) dX4_bagsOn_15 (by decide) rfl ?_
      refine v_aloadR (pc := 17) dX4_bagsOn_17 rfl ?_
      refine v_ifnullR (pc := 19) dX4_bagsOn_19 ?_
      refine v_aloadR (pc := 22) dX4_bagsOn_22 rfl ?_
      refine v_iload_n (pc := 24) dX4_bagsOn_24 rfl rfl ?_
      refine v_callV1 (pc := 25) (c_X0_isOn (n := 40) (i := i) (by omega)) cm_X0_isOn q353 q354 q355 (ci := 0) rfl rfl (orcF 16 rfl (by omega)) [16] (by rfl) (by decide) (fun _ _ h => h) (by decide) (by decide) (by decide) (Nat.le_of_ble_eq_true rfl) dX4_bagsOn_25 (fun v25 M25 hQ25 => ?_)
      obtain ⟨rfl, rfl⟩ := hQ25
      try dsimp only [wb, LakeM, WaysM, WorldM, List.set_cons_succ, List.set_cons_zero, List.append_nil, List.nil_append, List.cons_append, Option.toList, Nat.sub_zero]
      refine v_if_eq (pc := 28) (tgt := 34) dX4_bagsOn_28 (by decide) (fun c28 => ?_) (fun c28 => ?_)
      · have c28 := bI_0.mp c28
        refine v_iinc (pc := 34) (v := nI (i + 1)) dX4_bagsOn_34 rfl (nI_1 _) (by decide) rfl ?_
        refine v_goto (pc := 37) (tgt := 4) dX4_bagsOn_37 (by decide) ?_
        have e : sumN (bgF BF bc c) i = sumN (bgF BF bc c) (i + 1) := sum_0 (if_neg (fun h => c28 h.2))
        have k9 := ih (i + 1) (by omega)
        rw [← e] at k9
        refine v_sub ?_ k9
        exact ⟨rfl, rfl, rfl, rfl, trivial⟩
      · have c28 := bI_n.mp c28
        refine v_iinc (pc := 31) dX4_bagsOn_31 rfl rfl (by decide) rfl ?_
        refine v_iinc (pc := 34) (v := nI (i + 1)) dX4_bagsOn_34 rfl (nI_1 _) (by decide) rfl ?_
        refine v_goto (pc := 37) (tgt := 4) dX4_bagsOn_37 (by decide) ?_
        have e : sumN (bgF BF bc c) i + 1 = sumN (bgF BF bc c) (i + 1) := sum_1 (if_pos ⟨c12, c28⟩)
        have k9 := ih (i + 1) (by omega)
        rw [← e] at k9
        refine v_sub ?_ k9
        exact ⟨rfl, rfl, rfl, rfl, trivial⟩
    · refine v_callV1 (pc := 12) (c_X4_bagAt_n hps hsc hbc (nk_no c12 (by omega) (by omega))) cm_X4_bagAt q349 q350 q351 (ci := 4) rfl rfl (orcO 0 rfl) [0, 1, 2, 3, 4, 5, 6, 7, 8, 9, 10, 11, 12, 13, 14, 15, 16] (by rfl) (by decide) (fun _ _ h => h) (by decide) (by decide) (by decide) (Nat.le_of_ble_eq_true rfl) dX4_bagsOn_12 (fun v12 M12 hQ12 => ?_)
      obtain ⟨rfl, rfl⟩ := hQ12
      try dsimp only [wb, LakeM, WaysM, WorldM, List.set_cons_succ, List.set_cons_zero, List.append_nil, List.nil_append, List.cons_append, Option.toList, Nat.sub_zero]
      refine v_astoreN (pc := 15) dX4_bagsOn_15 (by decide) rfl ?_
      refine v_aloadN (pc := 17) dX4_bagsOn_17 rfl ?_
      refine v_ifnullN (pc := 19) (tgt := 34) dX4_bagsOn_19 (by decide) ?_
      refine v_iinc (pc := 34) (v := nI (i + 1)) dX4_bagsOn_34 rfl (nI_1 _) (by decide) rfl ?_
      refine v_goto (pc := 37) (tgt := 4) dX4_bagsOn_37 (by decide) ?_
      have e : sumN (bgF BF bc c) i = sumN (bgF BF bc c) (i + 1) := sum_0 (if_neg (fun h => c12 h.1))
      have k9 := ih (i + 1) (by omega)
      rw [← e] at k9
      refine v_sub ?_ k9
      exact ⟨rfl, rfl, rfl, rfl, trivial⟩
set_option maxRecDepth 100000 in
set_option maxHeartbeats 4000000 in
theorem c_X4_bagsOn {G : Cx} {w : Nat → Nat} {a b f : Nat → Int32} {wa : Int32} {lr : Value} {nd dg : Int32} {T N S C B O : Nat → Int32} {ch : Int32} {PC : Nat → Int32} {SF BF : Nat → Nat → Int32} {ps sc bc hh : Nat} (hps : ps ≤ 8) (hsc : sc ≤ 5) (hbc : bc ≤ 40) {c : Int32} : Mt G Y_X4_bagsOn 1 0 0 [.ref (w 0), .int c] (WorldM w a b f wa lr nd dg T N S C B O ch PC SF BF ps sc bc hh) (fun v M' => v = some (.int (sumN (bgF BF bc c) 40)) ∧ M' = WorldM w a b f wa lr nd dg T N S C B O ch PC SF BF ps sc bc hh) noX := by
  refine Mt.of (L := [some (.ref (w 0)), some (.int c), none, none, none]) rfl (by decide) (by simp [lg_sl, Value.category]) ⟨rfl, rfl, trivial⟩ (fun sz => ?_)
  refine v_iconst (pc := 0) (v := 0) dX4_bagsOn_0 rfl ?_
  refine v_istore_n (pc := 1) dX4_bagsOn_1 rfl (by decide) rfl ?_
  refine v_iconst (pc := 2) (v := 0) dX4_bagsOn_2 rfl ?_
  refine v_istore_n (pc := 3) dX4_bagsOn_3 rfl (by decide) rfl ?_
  refine v_sub ?_ (lp_X4_bagsOn hps hsc hbc 40 0 (by omega))
  exact ⟨rfl, rfl, rfl, rfl, trivial⟩
set_option maxRecDepth 100000 in
set_option maxHeartbeats 4000000 in
theorem lp_X4_sunkSleighs {G : Cx} {w : Nat → Nat} {a b f : Nat → Int32} {wa : Int32} {lr : Value} {nd dg : Int32} {T N S C B O : Nat → Int32} {ch : Int32} {PC : Nat → Int32} {SF BF : Nat → Nat → Int32} {ps sc bc hh : Nat} (hps : ps ≤ 8) (hsc : sc ≤ 5) (hbc : bc ≤ 40) {sz : Nat} : ∀ (m i : Nat), m + i = 5 → V G Y_X4_sunkSleighs (ZM G (WorldM w a b f wa lr nd dg T N S C B O ch PC SF BF ps sc bc hh) sz (fun v M' => v = some (.int (sumN (skF SF sc) 5)) ∧ M' = WorldM w a b f wa lr nd dg T N S C B O ch PC SF BF ps sc bc hh) noX) 1 0 0 4 [some (.ref (w 0)), some (.int (sumN (skF SF sc) i)), some (.int (nI i)), none] [] (WorldM w a b f wa lr nd dg T N S C B O ch PC SF BF ps sc bc hh) := by
  intro m
  induction m with
  | zero =>
    intro i hi
    obtain rfl : i = 5 := by omega
    refine v_iload_n (pc := 4) dX4_sunkSleighs_4 rfl rfl ?_
    refine v_iconst (pc := 5) (v := 5) dX4_sunkSleighs_5 rfl ?_
    refine v_icmp_ge (pc := 6) (tgt := 36) dX4_sunkSleighs_6 (by decide) (fun c6 => ?_) (fun c6 => absurd (nI_le (a := 5) (b := 5) (Nat.le_refl _) (by decide)) c6)
    have c6 : 5 ≤ 5 := (nI_leI (a := 5) (b := 5) (by omega) (by omega)).mp c6
    refine v_iload_n (pc := 36) dX4_sunkSleighs_36 rfl rfl ?_
    refine v_iret (pc := 37) rfl rfl (Nat.le_of_ble_eq_true rfl) dX4_sunkSleighs_37 ?_
    exact ⟨rfl, rfl⟩
  | succ m ih =>
    intro i hi
    refine v_iload_n (pc := 4) dX4_sunkSleighs_4 rfl rfl ?_
    refine v_iconst (pc := 5) (v := 5) dX4_sunkSleighs_5 rfl ?_
    refine v_icmp_ge (pc := 6) (tgt := 36) dX4_sunkSleighs_6 (by decide) (fun c6 => absurd c6 (nI_ge (a := i) (b := 5) (by omega) (by decide))) (fun c6 => ?_)
    have c6 : ¬ 5 ≤ i := fun h => c6 ((nI_leI (a := 5) (b := i) (by omega) (by omega)).mpr h)
    refine v_aload_nR (pc := 9) dX4_sunkSleighs_9 rfl rfl ?_
    refine v_iload_n (pc := 10) dX4_sunkSleighs_10 rfl rfl ?_
    by_cases c11 : i < sc
    · refine v_callV1 (pc := 11) (c_X4_sleighAt_k hps hsc hbc c11) cm_X4_sleighAt q319 q320 q321 (ci := 4) rfl rfl (orcO 0 rfl) [0, 1, 2, 3, 4, 5, 6, 7, 8, 9, 10, 11, 12, 13, 14, 15, 16] (by rfl) (by decide) (fun _ _ h => h) (by decide) (by decide) (by decide) (Nat.le_of_ble_eq_true rfl) dX4_sunkSleighs_11 (fun v11 M11 hQ11 => ?_)
      obtain ⟨rfl, rfl⟩ := hQ11
      try dsimp only [wb, LakeM, WaysM, WorldM, List.set_cons_succ, List.set_cons_zero, List.append_nil, List.nil_append, List.cons_append, Option.toList, Nat.sub_zero]
      refine v_astore_nR (pc := 14) dX4_sunkSleighs_14 rfl (by decide) rfl ?_
      refine v_aload_nR (pc := 15) dX4_sunkSleighs_15 rfl rfl ?_
      refine v_ifnullR (pc := 16) dX4_sunkSleighs_16 ?_
      refine v_aload_nR (pc := 19) dX4_sunkSleighs_19 rfl rfl ?_
      refine v_getS (pc := 20) 3 15 fg_X4_101 rfl (by omega) (by decide) dX4_sunkSleighs_20 ?_
      refine v_iconst (pc := 23) (v := 2) dX4_sunkSleighs_23 rfl ?_
      refine v_icmp_ne (pc := 24) (tgt := 30) dX4_sunkSleighs_24 (by decide) (fun c24 => ?_) (fun c24 => ?_)
      · refine v_iinc (pc := 30) (v := nI (i + 1)) dX4_sunkSleighs_30 rfl (nI_1 _) (by decide) rfl ?_
        refine v_goto (pc := 33) (tgt := 4) dX4_sunkSleighs_33 (by decide) ?_
        have e : sumN (skF SF sc) i = sumN (skF SF sc) (i + 1) := sum_0 (if_neg (fun h => c24 h.2))
        have k9 := ih (i + 1) (by omega)
        rw [← e] at k9
        refine v_sub ?_ k9
        exact ⟨rfl, rfl, rfl, trivial⟩
      · refine v_iinc (pc := 27) dX4_sunkSleighs_27 rfl rfl (by decide) rfl ?_
        refine v_iinc (pc := 30) (v := nI (i + 1)) dX4_sunkSleighs_30 rfl (nI_1 _) (by decide) rfl ?_
        refine v_goto (pc := 33) (tgt := 4) dX4_sunkSleighs_33 (by decide) ?_
        have e : sumN (skF SF sc) i + 1 = sumN (skF SF sc) (i + 1) := sum_1 (if_pos ⟨c11, c24⟩)
        have k9 := ih (i + 1) (by omega)
        rw [← e] at k9
        refine v_sub ?_ k9
        exact ⟨rfl, rfl, rfl, trivial⟩
    · refine v_callV1 (pc := 11) (c_X4_sleighAt_n hps hsc hbc (nk_no c11 (by omega) (by omega))) cm_X4_sleighAt q319 q320 q321 (ci := 4) rfl rfl (orcO 0 rfl) [0, 1, 2, 3, 4, 5, 6, 7, 8, 9, 10, 11, 12, 13, 14, 15, 16] (by rfl) (by decide) (fun _ _ h => h) (by decide) (by decide) (by decide) (Nat.le_of_ble_eq_true rfl) dX4_sunkSleighs_11 (fun v11 M11 hQ11 => ?_)
      obtain ⟨rfl, rfl⟩ := hQ11
      try dsimp only [wb, LakeM, WaysM, WorldM, List.set_cons_succ, List.set_cons_zero, List.append_nil, List.nil_append, List.cons_append, Option.toList, Nat.sub_zero]
      refine v_astore_nN (pc := 14) dX4_sunkSleighs_14 rfl (by decide) rfl ?_
      refine v_aload_nN (pc := 15) dX4_sunkSleighs_15 rfl rfl ?_
      refine v_ifnullN (pc := 16) (tgt := 30) dX4_sunkSleighs_16 (by decide) ?_
      refine v_iinc (pc := 30) (v := nI (i + 1)) dX4_sunkSleighs_30 rfl (nI_1 _) (by decide) rfl ?_
      refine v_goto (pc := 33) (tgt := 4) dX4_sunkSleighs_33 (by decide) ?_
      have e : sumN (skF SF sc) i = sumN (skF SF sc) (i + 1) := sum_0 (if_neg (fun h => c11 h.1))
      have k9 := ih (i + 1) (by omega)
      rw [← e] at k9
      refine v_sub ?_ k9
      exact ⟨rfl, rfl, rfl, trivial⟩
set_option maxRecDepth 100000 in
set_option maxHeartbeats 4000000 in
theorem c_X4_sunkSleighs {G : Cx} {w : Nat → Nat} {a b f : Nat → Int32} {wa : Int32} {lr : Value} {nd dg : Int32} {T N S C B O : Nat → Int32} {ch : Int32} {PC : Nat → Int32} {SF BF : Nat → Nat → Int32} {ps sc bc hh : Nat} (hps : ps ≤ 8) (hsc : sc ≤ 5) (hbc : bc ≤ 40) : Mt G Y_X4_sunkSleighs 1 0 0 [.ref (w 0)] (WorldM w a b f wa lr nd dg T N S C B O ch PC SF BF ps sc bc hh) (fun v M' => v = some (.int (sumN (skF SF sc) 5)) ∧ M' = WorldM w a b f wa lr nd dg T N S C B O ch PC SF BF ps sc bc hh) noX := by
  refine Mt.of (L := [some (.ref (w 0)), none, none, none]) rfl (by decide) (by simp [lg_sl, Value.category]) ⟨rfl, trivial⟩ (fun sz => ?_)
  refine v_iconst (pc := 0) (v := 0) dX4_sunkSleighs_0 rfl ?_
  refine v_istore_n (pc := 1) dX4_sunkSleighs_1 rfl (by decide) rfl ?_
  refine v_iconst (pc := 2) (v := 0) dX4_sunkSleighs_2 rfl ?_
  refine v_istore_n (pc := 3) dX4_sunkSleighs_3 rfl (by decide) rfl ?_
  refine v_sub ?_ (lp_X4_sunkSleighs hps hsc hbc 5 0 (by omega))
  exact ⟨rfl, rfl, rfl, trivial⟩
set_option maxRecDepth 100000 in
set_option maxHeartbeats 4000000 in
theorem lp_X4_bagsThat {G : Cx} {w : Nat → Nat} {a b f : Nat → Int32} {wa : Int32} {lr : Value} {nd dg : Int32} {T N S C B O : Nat → Int32} {ch : Int32} {PC : Nat → Int32} {SF BF : Nat → Nat → Int32} {ps sc bc hh : Nat} (hps : ps ≤ 8) (hsc : sc ≤ 5) (hbc : bc ≤ 40) {sz : Nat} {c : Int32} : ∀ (m i : Nat), m + i = 40 → V G Y_X4_bagsThat (ZM G (WorldM w a b f wa lr nd dg T N S C B O ch PC SF BF ps sc bc hh) sz (fun v M' => v = some (.int (sumN (btF BF bc c) 40)) ∧ M' = WorldM w a b f wa lr nd dg T N S C B O ch PC SF BF ps sc bc hh) noX) 1 0 0 4 [some (.ref (w 0)), some (.int c), some (.int (sumN (btF BF bc c) i)), some (.int (nI i)), none] [] (WorldM w a b f wa lr nd dg T N S C B O ch PC SF BF ps sc bc hh) := by
  intro m
  induction m with
  | zero =>
    intro i hi
    obtain rfl : i = 40 := by omega
    refine v_iload_n (pc := 4) dX4_bagsThat_4 rfl rfl ?_
    refine v_bipush (pc := 5) (v := 40) dX4_bagsThat_5 rfl ?_
    refine v_icmp_ge (pc := 7) (tgt := 40) dX4_bagsThat_7 (by decide) (fun c7 => ?_) (fun c7 => absurd (nI_le (a := 40) (b := 40) (Nat.le_refl _) (by decide)) c7)
    have c7 : 40 ≤ 40 := (nI_leI (a := 40) (b := 40) (by omega) (by omega)).mp c7
    refine v_iload_n (pc := 40) dX4_bagsThat_40 rfl rfl ?_
    refine v_iret (pc := 41) rfl rfl (Nat.le_of_ble_eq_true rfl) dX4_bagsThat_41 ?_
    exact ⟨rfl, rfl⟩
  | succ m ih =>
    intro i hi
    refine v_iload_n (pc := 4) dX4_bagsThat_4 rfl rfl ?_
    refine v_bipush (pc := 5) (v := 40) dX4_bagsThat_5 rfl ?_
    refine v_icmp_ge (pc := 7) (tgt := 40) dX4_bagsThat_7 (by decide) (fun c7 => absurd c7 (nI_ge (a := i) (b := 40) (by omega) (by decide))) (fun c7 => ?_)
    have c7 : ¬ 40 ≤ i := fun h => c7 ((nI_leI (a := 40) (b := i) (by omega) (by omega)).mpr h)
    refine v_aload_nR (pc := 10) dX4_bagsThat_10 rfl rfl ?_
    refine v_iload_n (pc := 11) dX4_bagsThat_11 rfl rfl ?_
    by_cases c12 : i < bc
    · refine v_callV1 (pc := 12) (c_X4_bagAt_k hps hsc hbc c12) cm_X4_bagAt q349 q350 q351 (ci := 4) rfl rfl (orcO 0 rfl) [0, 1, 2, 3, 4, 5, 6, 7, 8, 9, 10, 11, 12, 13, 14, 15, 16] (by rfl) (by decide) (fun _ _ h => h) (by decide) (by decide) (by decide) (Nat.le_of_ble_eq_true rfl) dX4_bagsThat_12 (fun v12 M12 hQ12 => ?_)
      obtain ⟨rfl, rfl⟩ := hQ12
      try dsimp only [wb, LakeM, WaysM, WorldM, List.set_cons_succ, List.set_cons_zero, List.append_nil, List.nil_append, List.cons_append, Option.toList, Nat.sub_zero]
      refine v_astoreR (pc := 15) dX4_bagsThat_15 (by decide) rfl ?_
      refine v_aloadR (pc := 17) dX4_bagsThat_17 rfl ?_
      refine v_ifnullR (pc := 19) dX4_bagsThat_19 ?_
      refine v_aloadR (pc := 22) dX4_bagsThat_22 rfl ?_
      refine v_getS (pc := 24) 2 16 fg_X4_230 rfl (by omega) (by decide) dX4_bagsThat_24 ?_
      refine v_iload_n (pc := 27) dX4_bagsThat_27 rfl rfl ?_
      refine v_icmp_ne (pc := 28) (tgt := 34) dX4_bagsThat_28 (by decide) (fun c28 => ?_) (fun c28 => ?_)
      · refine v_iinc (pc := 34) (v := nI (i + 1)) dX4_bagsThat_34 rfl (nI_1 _) (by decide) rfl ?_
        refine v_goto (pc := 37) (tgt := 4) dX4_bagsThat_37 (by decide) ?_
        have e : sumN (btF BF bc c) i = sumN (btF BF bc c) (i + 1) := sum_0 (if_neg (fun h => c28 h.2))
        have k9 := ih (i + 1) (by omega)
        rw [← e] at k9
        refine v_sub ?_ k9
        exact ⟨rfl, rfl, rfl, rfl, trivial⟩
      · refine v_iinc (pc := 31) dX4_bagsThat_31 rfl rfl (by decide) rfl ?_
        refine v_iinc (pc := 34) (v := nI (i + 1)) dX4_bagsThat_34 rfl (nI_1 _) (by decide) rfl ?_
        refine v_goto (pc := 37) (tgt := 4) dX4_bagsThat_37 (by decide) ?_
        have e : sumN (btF BF bc c) i + 1 = sumN (btF BF bc c) (i + 1) := sum_1 (if_pos ⟨c12, c28⟩)
        have k9 := ih (i + 1) (by omega)
        rw [← e] at k9
        refine v_sub ?_ k9
        exact ⟨rfl, rfl, rfl, rfl, trivial⟩
    · refine v_callV1 (pc := 12) (c_X4_bagAt_n hps hsc hbc (nk_no c12 (by omega) (by omega))) cm_X4_bagAt q349 q350 q351 (ci := 4) rfl rfl (orcO 0 rfl) [0, 1, 2, 3, 4, 5, 6, 7, 8, 9, 10, 11, 12, 13, 14, 15, 16] (by rfl) (by decide) (fun _ _ h => h) (by decide) (by decide) (by decide) (Nat.le_of_ble_eq_true rfl) dX4_bagsThat_12 (fun v12 M12 hQ12 => ?_)
      obtain ⟨rfl, rfl⟩ := hQ12
      try dsimp only [wb, LakeM, WaysM, WorldM, List.set_cons_succ, List.set_cons_zero, List.append_nil, List.nil_append, List.cons_append, Option.toList, Nat.sub_zero]
      refine v_astoreN (pc := 15) dX4_bagsThat_15 (by decide) rfl ?_
      refine v_aloadN (pc := 17) dX4_bagsThat_17 rfl ?_
      refine v_ifnullN (pc := 19) (tgt := 34) dX4_bagsThat_19 (by decide) ?_
      refine v_iinc (pc := 34) (v := nI (i + 1)) dX4_bagsThat_34 rfl (nI_1 _) (by decide) rfl ?_
      refine v_goto (pc := 37) (tgt := 4) dX4_bagsThat_37 (by decide) ?_
      have e : sumN (btF BF bc c) i = sumN (btF BF bc c) (i + 1) := sum_0 (if_neg (fun h => c12 h.1))
      have k9 := ih (i + 1) (by omega)
      rw [← e] at k9
      refine v_sub ?_ k9
      exact ⟨rfl, rfl, rfl, rfl, trivial⟩
set_option maxRecDepth 100000 in
set_option maxHeartbeats 4000000 in
theorem c_X4_bagsThat {G : Cx} {w : Nat → Nat} {a b f : Nat → Int32} {wa : Int32} {lr : Value} {nd dg : Int32} {T N S C B O : Nat → Int32} {ch : Int32} {PC : Nat → Int32} {SF BF : Nat → Nat → Int32} {ps sc bc hh : Nat} (hps : ps ≤ 8) (hsc : sc ≤ 5) (hbc : bc ≤ 40) {c : Int32} : Mt G Y_X4_bagsThat 1 0 0 [.ref (w 0), .int c] (WorldM w a b f wa lr nd dg T N S C B O ch PC SF BF ps sc bc hh) (fun v M' => v = some (.int (sumN (btF BF bc c) 40)) ∧ M' = WorldM w a b f wa lr nd dg T N S C B O ch PC SF BF ps sc bc hh) noX := by
  refine Mt.of (L := [some (.ref (w 0)), some (.int c), none, none, none]) rfl (by decide) (by simp [lg_sl, Value.category]) ⟨rfl, rfl, trivial⟩ (fun sz => ?_)
  refine v_iconst (pc := 0) (v := 0) dX4_bagsThat_0 rfl ?_
  refine v_istore_n (pc := 1) dX4_bagsThat_1 rfl (by decide) rfl ?_
  refine v_iconst (pc := 2) (v := 0) dX4_bagsThat_2 rfl ?_
  refine v_istore_n (pc := 3) dX4_bagsThat_3 rfl (by decide) rfl ?_
  refine v_sub ?_ (lp_X4_bagsThat hps hsc hbc 40 0 (by omega))
  exact ⟨rfl, rfl, rfl, rfl, trivial⟩
set_option maxRecDepth 100000 in
set_option maxHeartbeats 4000000 in
theorem lp_X4_loseMailOf {G : Cx} {w : Nat → Nat} {a b f : Nat → Int32} {wa : Int32} {lr : Value} {nd dg : Int32} {T N S C B O : Nat → Int32} {ch : Int32} {PC : Nat → Int32} {SF BF : Nat → Nat → Int32} {ps sc bc hh : Nat} (hps : ps ≤ 8) (hsc : sc ≤ 5) (hbc : bc ≤ 40) {sz : Nat} {c : Int32} : ∀ (m i : Nat), m + i = 40 → V G Y_X4_loseMailOf (ZM G (WorldM w a b f wa lr nd dg T N S C B O ch PC SF BF ps sc bc hh) sz (fun v M' => v = none ∧ M' = WorldM w a b f wa lr nd dg T N S C B O ch PC SF (lsB BF bc c 40) ps sc bc hh) noX) 1 0 0 2 [some (.ref (w 0)), some (.int c), some (.int (nI i)), none] [] (WorldM w a b f wa lr nd dg T N S C B O ch PC SF (lsB BF bc c i) ps sc bc hh) := by
  intro m
  induction m with
  | zero =>
    intro i hi
    obtain rfl : i = 40 := by omega
    refine v_iload_n (pc := 2) dX4_loseMailOf_2 rfl rfl ?_
    refine v_bipush (pc := 3) (v := 40) dX4_loseMailOf_3 rfl ?_
    refine v_icmp_ge (pc := 5) (tgt := 36) dX4_loseMailOf_5 (by decide) (fun c5 => ?_) (fun c5 => absurd (nI_le (a := 40) (b := 40) (Nat.le_refl _) (by decide)) c5)
    have c5 : 40 ≤ 40 := (nI_leI (a := 40) (b := 40) (by omega) (by omega)).mp c5
    refine v_vret (pc := 36) rfl (Nat.le_of_ble_eq_true rfl) dX4_loseMailOf_36 ?_
    exact ⟨rfl, rfl⟩
  | succ m ih =>
    intro i hi
    refine v_iload_n (pc := 2) dX4_loseMailOf_2 rfl rfl ?_
    refine v_bipush (pc := 3) (v := 40) dX4_loseMailOf_3 rfl ?_
    refine v_icmp_ge (pc := 5) (tgt := 36) dX4_loseMailOf_5 (by decide) (fun c5 => absurd c5 (nI_ge (a := i) (b := 40) (by omega) (by decide))) (fun c5 => ?_)
    have c5 : ¬ 40 ≤ i := fun h => c5 ((nI_leI (a := 40) (b := i) (by omega) (by omega)).mpr h)
    refine v_aload_nR (pc := 8) dX4_loseMailOf_8 rfl rfl ?_
    refine v_iload_n (pc := 9) dX4_loseMailOf_9 rfl rfl ?_
    by_cases c10 : i < bc
    · refine v_callV1 (pc := 10) (c_X4_bagAt_k hps hsc hbc c10) cm_X4_bagAt q349 q350 q351 (ci := 4) rfl rfl (orcO 0 rfl) [0, 1, 2, 3, 4, 5, 6, 7, 8, 9, 10, 11, 12, 13, 14, 15, 16] (by rfl) (by decide) (fun _ _ h => h) (by decide) (by decide) (by decide) (Nat.le_of_ble_eq_true rfl) dX4_loseMailOf_10 (fun v10 M10 hQ10 => ?_)
      obtain ⟨rfl, rfl⟩ := hQ10
      try dsimp only [wb, LakeM, WaysM, WorldM, List.set_cons_succ, List.set_cons_zero, List.append_nil, List.nil_append, List.cons_append, Option.toList, Nat.sub_zero]
      refine v_astore_nR (pc := 13) dX4_loseMailOf_13 rfl (by decide) rfl ?_
      refine v_aload_nR (pc := 14) dX4_loseMailOf_14 rfl rfl ?_
      refine v_ifnullR (pc := 15) dX4_loseMailOf_15 ?_
      refine v_aload_nR (pc := 18) dX4_loseMailOf_18 rfl rfl ?_
      refine v_iload_n (pc := 19) dX4_loseMailOf_19 rfl rfl ?_
      refine v_callV1 (pc := 20) (c_X0_isOn (n := 40) (i := i) (by omega)) cm_X0_isOn q353 q354 q355 (ci := 0) rfl rfl (orcF 16 rfl (by omega)) [16] (by rfl) (by decide) (fun _ _ h => h) (by decide) (by decide) (by decide) (Nat.le_of_ble_eq_true rfl) dX4_loseMailOf_20 (fun v20 M20 hQ20 => ?_)
      obtain ⟨rfl, rfl⟩ := hQ20
      try dsimp only [wb, LakeM, WaysM, WorldM, List.set_cons_succ, List.set_cons_zero, List.append_nil, List.nil_append, List.cons_append, Option.toList, Nat.sub_zero]
      refine v_if_eq (pc := 23) (tgt := 30) dX4_loseMailOf_23 (by decide) (fun c23 => ?_) (fun c23 => ?_)
      · have c23 := bI_0.mp c23
        refine v_iinc (pc := 30) (v := nI (i + 1)) dX4_loseMailOf_30 rfl (nI_1 _) (by decide) rfl ?_
        refine v_goto (pc := 33) (tgt := 2) dX4_loseMailOf_33 (by decide) ?_
        have e : lsB BF bc c i = lsB BF bc c (i + 1) := (if_neg (fun h => c23 h.2)).symm
        have k9 := ih (i + 1) (by omega)
        rw [← e] at k9
        refine v_sub ?_ k9
        exact ⟨rfl, rfl, rfl, trivial⟩
      · have c23 := bI_n.mp c23
        refine v_aload_nR (pc := 26) dX4_loseMailOf_26 rfl rfl ?_
        refine v_callV0 (pc := 27) (c_X0_lose (n := 40) (i := i) (by omega)) cm_X0_lose q439 q440 q441 (ci := 0) rfl rfl (orcF 16 rfl (by omega)) [16] (by rfl) (by decide) (fun _ _ h => h) (by decide) (by decide) (by decide) (Nat.le_of_ble_eq_true rfl) dX4_loseMailOf_27 (fun v27 M27 hQ27 => ?_)
        obtain ⟨rfl, rfl⟩ := hQ27
        try dsimp only [wb, LakeM, WaysM, WorldM, List.set_cons_succ, List.set_cons_zero, List.append_nil, List.nil_append, List.cons_append, Option.toList, Nat.sub_zero]
        refine v_iinc (pc := 30) (v := nI (i + 1)) dX4_loseMailOf_30 rfl (nI_1 _) (by decide) rfl ?_
        refine v_goto (pc := 33) (tgt := 2) dX4_loseMailOf_33 (by decide) ?_
        have e : lsB BF bc c (i + 1) = _ := if_pos ⟨c10, c23⟩
        have k9 := ih (i + 1) (by omega)
        rw [e] at k9
        refine v_sub ?_ k9
        exact ⟨rfl, rfl, rfl, trivial⟩
    · refine v_callV1 (pc := 10) (c_X4_bagAt_n hps hsc hbc (nk_no c10 (by omega) (by omega))) cm_X4_bagAt q349 q350 q351 (ci := 4) rfl rfl (orcO 0 rfl) [0, 1, 2, 3, 4, 5, 6, 7, 8, 9, 10, 11, 12, 13, 14, 15, 16] (by rfl) (by decide) (fun _ _ h => h) (by decide) (by decide) (by decide) (Nat.le_of_ble_eq_true rfl) dX4_loseMailOf_10 (fun v10 M10 hQ10 => ?_)
      obtain ⟨rfl, rfl⟩ := hQ10
      try dsimp only [wb, LakeM, WaysM, WorldM, List.set_cons_succ, List.set_cons_zero, List.append_nil, List.nil_append, List.cons_append, Option.toList, Nat.sub_zero]
      refine v_astore_nN (pc := 13) dX4_loseMailOf_13 rfl (by decide) rfl ?_
      refine v_aload_nN (pc := 14) dX4_loseMailOf_14 rfl rfl ?_
      refine v_ifnullN (pc := 15) (tgt := 30) dX4_loseMailOf_15 (by decide) ?_
      refine v_iinc (pc := 30) (v := nI (i + 1)) dX4_loseMailOf_30 rfl (nI_1 _) (by decide) rfl ?_
      refine v_goto (pc := 33) (tgt := 2) dX4_loseMailOf_33 (by decide) ?_
      have e : lsB BF bc c i = lsB BF bc c (i + 1) := (if_neg (fun h => c10 h.1)).symm
      have k9 := ih (i + 1) (by omega)
      rw [← e] at k9
      refine v_sub ?_ k9
      exact ⟨rfl, rfl, rfl, trivial⟩
set_option maxRecDepth 100000 in
set_option maxHeartbeats 4000000 in
theorem c_X4_loseMailOf {G : Cx} {w : Nat → Nat} {a b f : Nat → Int32} {wa : Int32} {lr : Value} {nd dg : Int32} {T N S C B O : Nat → Int32} {ch : Int32} {PC : Nat → Int32} {SF BF : Nat → Nat → Int32} {ps sc bc hh : Nat} (hps : ps ≤ 8) (hsc : sc ≤ 5) (hbc : bc ≤ 40) {c : Int32} : Mt G Y_X4_loseMailOf 1 0 0 [.ref (w 0), .int c] (WorldM w a b f wa lr nd dg T N S C B O ch PC SF BF ps sc bc hh) (fun v M' => v = none ∧ M' = WorldM w a b f wa lr nd dg T N S C B O ch PC SF (lsB BF bc c 40) ps sc bc hh) noX := by
  refine Mt.of (L := [some (.ref (w 0)), some (.int c), none, none]) rfl (by decide) (by simp [lg_sl, Value.category]) ⟨rfl, rfl, trivial⟩ (fun sz => ?_)
  refine v_iconst (pc := 0) (v := 0) dX4_loseMailOf_0 rfl ?_
  refine v_istore_n (pc := 1) dX4_loseMailOf_1 rfl (by decide) rfl ?_
  refine v_sub ?_ (lp_X4_loseMailOf hps hsc hbc 40 0 (by omega))
  exact ⟨rfl, rfl, rfl, trivial⟩
set_option maxRecDepth 100000 in
set_option maxHeartbeats 4000000 in
theorem lp_X4_unload {G : Cx} {w : Nat → Nat} {a b f : Nat → Int32} {wa : Int32} {lr : Value} {nd dg : Int32} {T N S C B O : Nat → Int32} {ch : Int32} {PC : Nat → Int32} {SF BF : Nat → Nat → Int32} {ps sc bc hh : Nat} (hps : ps ≤ 8) (hsc : sc ≤ 5) (hbc : bc ≤ 40) {sz : Nat} {c q : Int32} : ∀ (m i : Nat), m + i = 40 → V G Y_X4_unload (ZM G (WorldM w a b f wa lr nd dg T N S C B O ch PC SF BF ps sc bc hh) sz (fun v M' => v = some (.int (ulB BF bc c q (nI hh) 40).2) ∧ M' = WorldM w a b f wa lr nd dg T N S C B O ch PC SF (ulB BF bc c q (nI hh) 40).1 ps sc bc hh) noX) 1 0 0 5 [some (.ref (w 0)), some (.int c), some (.int q), some (.int (ulB BF bc c q (nI hh) i).2), some (.int (nI i)), none] [] (WorldM w a b f wa lr nd dg T N S C B O ch PC SF (ulB BF bc c q (nI hh) i).1 ps sc bc hh) := by
  intro m
  induction m with
  | zero =>
    intro i hi
    obtain rfl : i = 40 := by omega
    refine v_iload (pc := 5) dX4_unload_5 rfl ?_
    refine v_bipush (pc := 7) (v := 40) dX4_unload_7 rfl ?_
    refine v_icmp_ge (pc := 9) (tgt := 56) dX4_unload_9 (by decide) (fun c9 => ?_) (fun c9 => absurd (nI_le (a := 40) (b := 40) (Nat.le_refl _) (by decide)) c9)
    have c9 : 40 ≤ 40 := (nI_leI (a := 40) (b := 40) (by omega) (by omega)).mp c9
    refine v_iload_n (pc := 56) dX4_unload_56 rfl rfl ?_
    refine v_iret (pc := 57) rfl rfl (Nat.le_of_ble_eq_true rfl) dX4_unload_57 ?_
    exact ⟨rfl, rfl⟩
  | succ m ih =>
    intro i hi
    refine v_iload (pc := 5) dX4_unload_5 rfl ?_
    refine v_bipush (pc := 7) (v := 40) dX4_unload_7 rfl ?_
    refine v_icmp_ge (pc := 9) (tgt := 56) dX4_unload_9 (by decide) (fun c9 => absurd c9 (nI_ge (a := i) (b := 40) (by omega) (by decide))) (fun c9 => ?_)
    have c9 : ¬ 40 ≤ i := fun h => c9 ((nI_leI (a := 40) (b := i) (by omega) (by omega)).mpr h)
    refine v_aload_nR (pc := 12) dX4_unload_12 rfl rfl ?_
    refine v_iload (pc := 13) dX4_unload_13 rfl ?_
    by_cases c15 : i < bc
    · refine v_callV1 (pc := 15) (c_X4_bagAt_k hps hsc hbc c15) cm_X4_bagAt q349 q350 q351 (ci := 4) rfl rfl (orcO 0 rfl) [0, 1, 2, 3, 4, 5, 6, 7, 8, 9, 10, 11, 12, 13, 14, 15, 16] (by rfl) (by decide) (fun _ _ h => h) (by decide) (by decide) (by decide) (Nat.le_of_ble_eq_true rfl) dX4_unload_15 (fun v15 M15 hQ15 => ?_)
      obtain ⟨rfl, rfl⟩ := hQ15
      try dsimp only [wb, LakeM, WaysM, WorldM, List.set_cons_succ, List.set_cons_zero, List.append_nil, List.nil_append, List.cons_append, Option.toList, Nat.sub_zero]
      refine v_astoreR (pc := 18) dX4_unload_18 (by decide) rfl ?_
      refine v_aloadR (pc := 20) dX4_unload_20 rfl ?_
      refine v_ifnullR (pc := 22) dX4_unload_22 ?_
      refine v_aloadR (pc := 25) dX4_unload_25 rfl ?_
      refine v_iload_n (pc := 27) dX4_unload_27 rfl rfl ?_
      refine v_callV1 (pc := 28) (c_X0_isOn (n := 40) (i := i) (by omega)) cm_X0_isOn q353 q354 q355 (ci := 0) rfl rfl (orcF 16 rfl (by omega)) [16] (by rfl) (by decide) (fun _ _ h => h) (by decide) (by decide) (by decide) (Nat.le_of_ble_eq_true rfl) dX4_unload_28 (fun v28 M28 hQ28 => ?_)
      obtain ⟨rfl, rfl⟩ := hQ28
      try dsimp only [wb, LakeM, WaysM, WorldM, List.set_cons_succ, List.set_cons_zero, List.append_nil, List.nil_append, List.cons_append, Option.toList, Nat.sub_zero]
      refine v_if_eq (pc := 31) (tgt := 50) dX4_unload_31 (by decide) (fun c31 => ?_) (fun c31 => ?_)
      · have c31 := bI_0.mp c31
        refine v_iinc (pc := 50) (v := nI (i + 1)) dX4_unload_50 rfl (nI_1 _) (by decide) rfl ?_
        refine v_goto (pc := 53) (tgt := 5) dX4_unload_53 (by decide) ?_
        have e : (ulB BF bc c q (nI hh) i) = (ulB BF bc c q (nI hh) (i + 1)) := (if_neg (fun h => c31 h.2)).symm
        have k9 := ih (i + 1) (by omega)
        rw [← e] at k9
        refine v_sub ?_ k9
        exact ⟨rfl, rfl, rfl, rfl, rfl, trivial⟩
      · have c31 := bI_n.mp c31
        refine v_aloadR (pc := 34) dX4_unload_34 rfl ?_
        refine v_iload_n (pc := 36) dX4_unload_36 rfl rfl ?_
        refine v_aload_nR (pc := 37) dX4_unload_37 rfl rfl ?_
        refine v_get (pc := 38) 8 0 fg_X4_60 rfl rfl dX4_unload_38 ?_
        refine v_callV2 (pc := 41) (c_X0_putDown (n := 40) (i := i) (by omega)) cm_X0_putDown q472 q473 q474 (ci := 0) rfl rfl (orcF 16 rfl (by omega)) [16] (by rfl) (by decide) (fun _ _ h => h) (by decide) (by decide) (by decide) (Nat.le_of_ble_eq_true rfl) dX4_unload_41 (fun v41 M41 hQ41 => ?_)
        obtain ⟨rfl, rfl⟩ := hQ41
        try dsimp only [wb, LakeM, WaysM, WorldM, List.set_cons_succ, List.set_cons_zero, List.append_nil, List.nil_append, List.cons_append, Option.toList, Nat.sub_zero]
        refine v_if_eq (pc := 44) (tgt := 50) dX4_unload_44 (by decide) (fun c44 => ?_) (fun c44 => ?_)
        · have c44 := bI_0.mp c44
          refine v_iinc (pc := 50) (v := nI (i + 1)) dX4_unload_50 rfl (nI_1 _) (by decide) rfl ?_
          refine v_goto (pc := 53) (tgt := 5) dX4_unload_53 (by decide) ?_
          have e : ulB BF bc c q (nI hh) (i + 1) = (pdB (ulB BF bc c q (nI hh) i).1 i q (nI hh), (ulB BF bc c q (nI hh) i).2 + 0) := by
            show (if _ then _ else _) = _
            rw [if_pos ⟨c15, c31⟩, if_neg c44]
          have k9 := ih (i + 1) (by omega)
          rw [e] at k9
          rw [Int32.add_zero] at k9
          refine v_sub ?_ k9
          exact ⟨rfl, rfl, rfl, rfl, rfl, trivial⟩
        · have c44 := bI_n.mp c44
          refine v_iinc (pc := 47) dX4_unload_47 rfl rfl (by decide) rfl ?_
          refine v_iinc (pc := 50) (v := nI (i + 1)) dX4_unload_50 rfl (nI_1 _) (by decide) rfl ?_
          refine v_goto (pc := 53) (tgt := 5) dX4_unload_53 (by decide) ?_
          have e : ulB BF bc c q (nI hh) (i + 1) = (pdB (ulB BF bc c q (nI hh) i).1 i q (nI hh), (ulB BF bc c q (nI hh) i).2 + 1) := by
            show (if _ then _ else _) = _
            rw [if_pos ⟨c15, c31⟩, if_pos c44]
          have k9 := ih (i + 1) (by omega)
          rw [e] at k9
          refine v_sub ?_ k9
          exact ⟨rfl, rfl, rfl, rfl, rfl, trivial⟩
    · refine v_callV1 (pc := 15) (c_X4_bagAt_n hps hsc hbc (nk_no c15 (by omega) (by omega))) cm_X4_bagAt q349 q350 q351 (ci := 4) rfl rfl (orcO 0 rfl) [0, 1, 2, 3, 4, 5, 6, 7, 8, 9, 10, 11, 12, 13, 14, 15, 16] (by rfl) (by decide) (fun _ _ h => h) (by decide) (by decide) (by decide) (Nat.le_of_ble_eq_true rfl) dX4_unload_15 (fun v15 M15 hQ15 => ?_)
      obtain ⟨rfl, rfl⟩ := hQ15
      try dsimp only [wb, LakeM, WaysM, WorldM, List.set_cons_succ, List.set_cons_zero, List.append_nil, List.nil_append, List.cons_append, Option.toList, Nat.sub_zero]
      refine v_astoreN (pc := 18) dX4_unload_18 (by decide) rfl ?_
      refine v_aloadN (pc := 20) dX4_unload_20 rfl ?_
      refine v_ifnullN (pc := 22) (tgt := 50) dX4_unload_22 (by decide) ?_
      refine v_iinc (pc := 50) (v := nI (i + 1)) dX4_unload_50 rfl (nI_1 _) (by decide) rfl ?_
      refine v_goto (pc := 53) (tgt := 5) dX4_unload_53 (by decide) ?_
      have e : (ulB BF bc c q (nI hh) i) = (ulB BF bc c q (nI hh) (i + 1)) := (if_neg (fun h => c15 h.1)).symm
      have k9 := ih (i + 1) (by omega)
      rw [← e] at k9
      refine v_sub ?_ k9
      exact ⟨rfl, rfl, rfl, rfl, rfl, trivial⟩
set_option maxRecDepth 100000 in
set_option maxHeartbeats 4000000 in
theorem c_X4_unload {G : Cx} {w : Nat → Nat} {a b f : Nat → Int32} {wa : Int32} {lr : Value} {nd dg : Int32} {T N S C B O : Nat → Int32} {ch : Int32} {PC : Nat → Int32} {SF BF : Nat → Nat → Int32} {ps sc bc hh : Nat} (hps : ps ≤ 8) (hsc : sc ≤ 5) (hbc : bc ≤ 40) {c q : Int32} : Mt G Y_X4_unload 1 0 0 [.ref (w 0), .int c, .int q] (WorldM w a b f wa lr nd dg T N S C B O ch PC SF BF ps sc bc hh) (fun v M' => v = some (.int (ulB BF bc c q (nI hh) 40).2) ∧ M' = WorldM w a b f wa lr nd dg T N S C B O ch PC SF (ulB BF bc c q (nI hh) 40).1 ps sc bc hh) noX := by
  refine Mt.of (L := [some (.ref (w 0)), some (.int c), some (.int q), none, none, none]) rfl (by decide) (by simp [lg_sl, Value.category]) ⟨rfl, rfl, rfl, trivial⟩ (fun sz => ?_)
  refine v_iconst (pc := 0) (v := 0) dX4_unload_0 rfl ?_
  refine v_istore_n (pc := 1) dX4_unload_1 rfl (by decide) rfl ?_
  refine v_iconst (pc := 2) (v := 0) dX4_unload_2 rfl ?_
  refine v_istore (pc := 3) dX4_unload_3 (by decide) rfl ?_
  refine v_sub ?_ (lp_X4_unload hps hsc hbc 40 0 (by omega))
  exact ⟨rfl, rfl, rfl, rfl, rfl, trivial⟩
