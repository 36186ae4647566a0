/-! Arrays.fill, Math.floorMod; bags and sleighs, one of a family each -/
def fillU (F T : Nat → Int32) (i : Nat) : Nat → Int32 := fun j => if j < i then F j else T j
theorem fillU_0 (F T : Nat → Int32) : fillU F T 0 = T := rfl
theorem fillU_in {F T : Nat → Int32} {i j : Nat} (h : j < i) : fillU F T i j = F j := if_pos h
theorem fillU_out {F T : Nat → Int32} {i j : Nat} (h : ¬ j < i) : fillU F T i j = T j := if_neg h
theorem fillU_s (F T : Nat → Int32) (i : Nat) {x : Int32} (hx : x = F i) : upd (fillU F T i) i x = fillU F T (i + 1) := by
  subst hx
  funext j
  unfold fillU upd
  by_cases h1 : j = i
  · subst h1; rw [if_pos rfl, if_pos (by omega)]
  · rw [if_neg h1]
    show (if j < i then F j else T j) = _
    by_cases h2 : j < i
    · rw [if_pos h2, if_pos (by omega)]
    · rw [if_neg h2, if_neg (by omega)]
theorem fillU_k (F T : Nat → Int32) (i : Nat) (h : T i = F i) : fillU F T i = fillU F T (i + 1) := by
  funext j
  unfold fillU
  by_cases h1 : j = i
  · subst h1; rw [if_neg (by omega), if_pos (by omega), h]
  · by_cases h2 : j < i
    · rw [if_pos h2, if_pos (by omega)]
    · rw [if_neg h2, if_neg (by omega)]
def slW (S : Nat → Nat → Int32) (i : Nat) : Int32 := 40 + 30 * S i 0 + S i 1
def slN (S : Nat → Nat → Int32) (i : Nat) : Int32 := 8 + slW S i / 12
def slD (S : Nat → Nat → Int32) (i : Nat) : Int32 := slW S i / (60 * S i 0) + (if 50 ≤ S i 2 then 1 else 0)
set_option maxRecDepth 100000 in
set_option maxHeartbeats 4000000 in
theorem lp_fill {G : Cx} {a n : Nat} {f : Nat → Int32} {x : Int32} {sz : Nat} (hn : n < 2 ^ 31) : ∀ (m i : Nat), m + i = n → V G Y_J7_fill_53178 (ZM G [eI a n f] sz (fun v M' => v = none ∧ M' = [eI a n (fillU (fun _ => x) f n)]) noX) 0 0 0 5 [some (.ref a), some (.int x), some (.int (nI i)), some (.int (nI n))] [] [eI a n (fillU (fun _ => x) f i)] := by
  intro m
  induction m with
  | zero =>
    intro i hi
    obtain rfl : i = n := by omega
    refine v_iload_n (pc := 5) dJ7_fill_53178_5 rfl rfl ?_
    refine v_iload_n (pc := 6) dJ7_fill_53178_6 rfl rfl ?_
    refine v_icmp_ge (pc := 7) (tgt := 20) dJ7_fill_53178_7 (by decide) (fun c7 => ?_) (fun c7 => absurd (nI_le (Nat.le_refl _) hn) c7)
    have c7 : i ≤ i := (nI_leI (a := i) (b := i) (by omega) (by omega)).mp c7
    refine v_vret (pc := 20) rfl (Nat.le_of_ble_eq_true rfl) dJ7_fill_53178_20 ?_
    exact ⟨rfl, rfl⟩
  | succ m ih =>
    intro i hi
    refine v_iload_n (pc := 5) dJ7_fill_53178_5 rfl rfl ?_
    refine v_iload_n (pc := 6) dJ7_fill_53178_6 rfl rfl ?_
    refine v_icmp_ge (pc := 7) (tgt := 20) dJ7_fill_53178_7 (by decide) (fun c7 => absurd c7 (nI_ge (by omega) hn)) (fun c7 => ?_)
    have c7 : ¬ n ≤ i := fun h => c7 ((nI_leI (a := n) (b := i) (by omega) (by omega)).mpr h)
    refine v_aload_nR (pc := 10) dJ7_fill_53178_10 rfl rfl ?_
    refine v_iload_n (pc := 11) dJ7_fill_53178_11 rfl rfl ?_
    refine v_iload_n (pc := 12) dJ7_fill_53178_12 rfl rfl ?_
    refine v_iastN (pc := 13) 0 (k := i) rfl (by omega) hn dJ7_fill_53178_13 ?_
    refine v_iinc (pc := 14) (v := nI (i + 1)) dJ7_fill_53178_14 rfl (nI_1 _) (by decide) rfl ?_
    refine v_goto (pc := 17) (tgt := 5) dJ7_fill_53178_17 (by decide) ?_
    have e : upd (fillU (fun _ => x) f i) i x = fillU (fun _ => x) f (i + 1) := fillU_s _ _ _ rfl
    show V _ _ _ _ _ _ _ _ _ [eI a n (upd (fillU (fun _ => x) f i) i x)]
    rw [e]
    exact ih (i + 1) (by omega)

set_option maxRecDepth 100000 in
set_option maxHeartbeats 4000000 in
theorem c_J7_fill_53178 {G : Cx} {a n : Nat} {f : Nat → Int32} {x : Int32} (hn : n < 2 ^ 31) : Mt G Y_J7_fill_53178 0 0 0 [.ref a, .int x] [eI a n f] (fun v M' => v = none ∧ M' = [eI a n (fillU (fun _ => x) f n)]) (noX) := by
  refine Mt.of (L := [some (.ref a), some (.int x), none, none]) rfl (by decide) (by simp [lg_sl, Value.category]) ⟨rfl, rfl, trivial⟩ (fun sz => ?_)
  refine v_iconst (pc := 0) (v := 0) dJ7_fill_53178_0 rfl ?_
  refine v_istore_n (pc := 1) dJ7_fill_53178_1 rfl (by decide) rfl ?_
  refine v_aload_nR (pc := 2) dJ7_fill_53178_2 rfl rfl ?_
  refine v_alen (pc := 3) 0 (v := nI n) rfl (fun _ => rfl) rfl dJ7_fill_53178_3 ?_
  refine v_istore_n (pc := 4) dJ7_fill_53178_4 rfl (by decide) rfl ?_
  exact lp_fill hn n 0 (by omega)
set_option maxRecDepth 100000 in
set_option maxHeartbeats 4000000 in
theorem c_J9_floorMod_7cf53 {G : Cx} {k : Nat} (hk : k < 2 ^ 31) : Mt G Y_J9_floorMod_7cf53 0 0 0 [.int (nI k), .int 8] [] (fun v M' => v = some (.int (nI (k % 8))) ∧ M' = []) (noX) := by
  refine Mt.of (L := [some (.int (nI k)), some (.int 8), none]) rfl (by decide +kernel) (by simp [lg_sl, Value.category]) ⟨rfl, rfl, trivial⟩ (fun sz => ?_)
  have hx : nI k - nI k / 8 * 8 = nI (k % 8) := pk_rem (d := 8) hk (by decide) (by decide)
  have hxr : (0 : Int32) ≤ nI k ^^^ 8 := by
    show (0 : Int32) ≤ nI k ^^^ nI 8
    rw [fb_xorI]
    exact nI_pos' (Nat.xor_lt_two_pow hk (by decide))
  refine v_iload_n (pc := 0) dJ9_floorMod_7cf53_0 rfl rfl ?_
  refine v_iload_n (pc := 1) dJ9_floorMod_7cf53_1 rfl rfl ?_
  refine v_irem (pc := 2) dJ9_floorMod_7cf53_2 (by decide) ?_
  refine v_istore_n (pc := 3) dJ9_floorMod_7cf53_3 rfl (by decide) rfl ?_
  refine v_iload_n (pc := 4) dJ9_floorMod_7cf53_4 rfl rfl ?_
  refine v_iload_n (pc := 5) dJ9_floorMod_7cf53_5 rfl rfl ?_
  refine v_ixor (pc := 6) dJ9_floorMod_7cf53_6 ?_
  refine v_if_ge (pc := 7) (tgt := 18) dJ9_floorMod_7cf53_7 (by decide) (fun c7 => ?_) (fun c7 => absurd hxr c7)
  refine v_iload_n (pc := 18) dJ9_floorMod_7cf53_18 rfl rfl ?_
  refine v_iret (pc := 19) rfl rfl (Nat.le_of_ble_eq_true rfl) dJ9_floorMod_7cf53_19 ?_
  exact ⟨by rw [hx], rfl⟩
/-- a bag is put down at a post -/
def pdB (B : Nat → Nat → Int32) (i : Nat) (q h : Int32) : Nat → Nat → Int32 := if q = B i 1 then upS (upS (upS B i 3 q) i 2 2) i 4 h else upS (upS B i 3 q) i 2 0
/-- a sleigh comes on by an hour -/
def coS (S : Nat → Nat → Int32) (i : Nat) : Nat → Nat → Int32 := if 0 < S i 7 - 1 then upS S i 7 (S i 7 - 1) else upS (upS (upS (upS S i 7 (S i 7 - 1)) i 4 (S i 6)) i 6 (-1)) i 2 (if S i 2 + 1 < 100 then S i 2 + 1 else 100)
set_option maxRecDepth 100000 in
set_option maxHeartbeats 4000000 in
theorem c_X0_begin {G : Cx} {sa : Nat → Nat} {n i : Nat} {B : Nat → Nat → Int32} (hi : i < n) {a b c : Int32} : Mt G Y_X0_begin 0 0 0 [.ref (sa i), .int a, .int b, .int c] [eS 0 sa n 5 B] (fun v M' => v = none ∧ M' = [eS 0 sa n 5 (upS (upS (upS (upS (upS B i 0 c) i 1 b) i 2 0) i 3 a) i 4 (-1))]) (noX) := by
  refine Mt.of (L := [some (.ref (sa i)), some (.int a), some (.int b), some (.int c)]) rfl (by decide) (by simp [lg_sl, Value.category]) ⟨rfl, rfl, rfl, rfl, trivial⟩ (fun sz => ?_)
  refine v_aload_nR (pc := 0) dX0_begin_0 rfl rfl ?_
  refine v_iload_n (pc := 1) dX0_begin_1 rfl rfl ?_
  refine v_putS (pc := 2) 0 0 fp_X0_begin_9 rfl hi (by decide) dX0_begin_2 ?_
  refine v_aload_nR (pc := 5) dX0_begin_5 rfl rfl ?_
  refine v_iload_n (pc := 6) dX0_begin_6 rfl rfl ?_
  refine v_putS (pc := 7) 1 0 fp_X0_begin_15 rfl hi (by decide) dX0_begin_7 ?_
  refine v_aload_nR (pc := 10) dX0_begin_10 rfl rfl ?_
  refine v_iconst (pc := 11) (v := 0) dX0_begin_11 rfl ?_
  refine v_putS (pc := 12) 2 0 fp_X0_begin_18 rfl hi (by decide) dX0_begin_12 ?_
  refine v_aload_nR (pc := 15) dX0_begin_15 rfl rfl ?_
  refine v_iload_n (pc := 16) dX0_begin_16 rfl rfl ?_
  refine v_putS (pc := 17) 3 0 fp_X0_begin_21 rfl hi (by decide) dX0_begin_17 ?_
  refine v_aload_nR (pc := 20) dX0_begin_20 rfl rfl ?_
  refine v_iconst (pc := 21) (v := -1) dX0_begin_21 rfl ?_
  refine v_putS (pc := 22) 4 0 fp_X0_begin_24 rfl hi (by decide) dX0_begin_22 ?_
  refine v_vret (pc := 25) rfl (Nat.le_of_ble_eq_true rfl) dX0_begin_25 ?_
  exact ⟨rfl, rfl⟩
set_option maxRecDepth 100000 in
set_option maxHeartbeats 4000000 in
theorem c_X0_isOn {G : Cx} {sa : Nat → Nat} {n i : Nat} {B : Nat → Nat → Int32} (hi : i < n) {s : Int32} : Mt G Y_X0_isOn 0 0 0 [.ref (sa i), .int s] [eS 0 sa n 5 B] (fun v M' => v = some (.int (bI (B i 2 = 1 ∧ B i 3 = s))) ∧ M' = [eS 0 sa n 5 B]) (noX) := by
  refine Mt.of (L := [some (.ref (sa i)), some (.int s)]) rfl (by decide) (by simp [lg_sl, Value.category]) ⟨rfl, rfl, trivial⟩ (fun sz => ?_)
  refine v_aload_nR (pc := 0) dX0_isOn_0 rfl rfl ?_
  refine v_getS (pc := 1) 2 0 fg_X0_18 rfl hi (by decide) dX0_isOn_1 ?_
  refine v_iconst (pc := 4) (v := 1) dX0_isOn_4 rfl ?_
  refine v_icmp_ne (pc := 5) (tgt := 20) dX0_isOn_5 (by decide) (fun c5 => ?_) (fun c5 => ?_)
  · refine v_iconst (pc := 20) (v := 0) dX0_isOn_20 rfl ?_
    refine v_iret (pc := 21) rfl rfl (Nat.le_of_ble_eq_true rfl) dX0_isOn_21 ?_
    exact ⟨by first | rw [bI_t ⟨by assumption, by assumption⟩] | rw [bI_f (fun h => absurd h.1 (by assumption))] | rw [bI_f (fun h => absurd h.2 (by assumption))], rfl⟩
  · refine v_aload_nR (pc := 8) dX0_isOn_8 rfl rfl ?_
    refine v_getS (pc := 9) 3 0 fg_X0_21 rfl hi (by decide) dX0_isOn_9 ?_
    refine v_iload_n (pc := 12) dX0_isOn_12 rfl rfl ?_
    refine v_icmp_ne (pc := 13) (tgt := 20) dX0_isOn_13 (by decide) (fun c13 => ?_) (fun c13 => ?_)
    · refine v_iconst (pc := 20) (v := 0) dX0_isOn_20 rfl ?_
      refine v_iret (pc := 21) rfl rfl (Nat.le_of_ble_eq_true rfl) dX0_isOn_21 ?_
      exact ⟨by first | rw [bI_t ⟨by assumption, by assumption⟩] | rw [bI_f (fun h => absurd h.1 (by assumption))] | rw [bI_f (fun h => absurd h.2 (by assumption))], rfl⟩
    · refine v_iconst (pc := 16) (v := 1) dX0_isOn_16 rfl ?_
      refine v_goto (pc := 17) (tgt := 21) dX0_isOn_17 (by decide) ?_
      refine v_iret (pc := 21) rfl rfl (Nat.le_of_ble_eq_true rfl) dX0_isOn_21 ?_
      exact ⟨by first | rw [bI_t ⟨by assumption, by assumption⟩] | rw [bI_f (fun h => absurd h.1 (by assumption))] | rw [bI_f (fun h => absurd h.2 (by assumption))], rfl⟩
set_option maxRecDepth 100000 in
set_option maxHeartbeats 4000000 in
theorem c_X0_lose {G : Cx} {sa : Nat → Nat} {n i : Nat} {B : Nat → Nat → Int32} (hi : i < n) : Mt G Y_X0_lose 0 0 0 [.ref (sa i)] [eS 0 sa n 5 B] (fun v M' => v = none ∧ M' = [eS 0 sa n 5 (upS (upS B i 2 3) i 3 (-1))]) (noX) := by
  refine Mt.of (L := [some (.ref (sa i))]) rfl (by decide) (by simp [lg_sl, Value.category]) ⟨rfl, trivial⟩ (fun sz => ?_)
  refine v_aload_nR (pc := 0) dX0_lose_0 rfl rfl ?_
  refine v_iconst (pc := 1) (v := 3) dX0_lose_1 rfl ?_
  refine v_putS (pc := 2) 2 0 fp_X0_lose_18 rfl hi (by decide) dX0_lose_2 ?_
  refine v_aload_nR (pc := 5) dX0_lose_5 rfl rfl ?_
  refine v_iconst (pc := 6) (v := -1) dX0_lose_6 rfl ?_
  refine v_putS (pc := 7) 3 0 fp_X0_lose_21 rfl hi (by decide) dX0_lose_7 ?_
  refine v_vret (pc := 10) rfl (Nat.le_of_ble_eq_true rfl) dX0_lose_10 ?_
  exact ⟨rfl, rfl⟩
set_option maxRecDepth 100000 in
set_option maxHeartbeats 4000000 in
theorem c_X0_putDown {G : Cx} {sa : Nat → Nat} {n i : Nat} {B : Nat → Nat → Int32} (hi : i < n) {q h : Int32} : Mt G Y_X0_putDown 0 0 0 [.ref (sa i), .int q, .int h] [eS 0 sa n 5 B] (fun v M' => v = some (.int (bI (q = B i 1))) ∧ M' = [eS 0 sa n 5 (pdB B i q h)]) (noX) := by
  refine Mt.of (L := [some (.ref (sa i)), some (.int q), some (.int h)]) rfl (by decide) (by simp [lg_sl, Value.category]) ⟨rfl, rfl, rfl, trivial⟩ (fun sz => ?_)
  refine v_aload_nR (pc := 0) dX0_putDown_0 rfl rfl ?_
  refine v_iload_n (pc := 1) dX0_putDown_1 rfl rfl ?_
  refine v_putS (pc := 2) 3 0 fp_X0_putDown_21 rfl hi (by decide) dX0_putDown_2 ?_
  refine v_iload_n (pc := 5) dX0_putDown_5 rfl rfl ?_
  have e6 : upS B i 3 q i 1 = B i 1 := upS_n _ _ (by omega)
  refine v_aload_nR (pc := 6) dX0_putDown_6 rfl rfl ?_
  refine v_getS (pc := 7) 1 0 fg_X0_15 rfl hi (by decide) dX0_putDown_7 ?_
  refine v_icmp_eq (pc := 10) (tgt := 20) dX0_putDown_10 (by decide) (fun c10 => ?_) (fun c10 => ?_)
  · refine v_aload_nR (pc := 20) dX0_putDown_20 rfl rfl ?_
    refine v_iconst (pc := 21) (v := 2) dX0_putDown_21 rfl ?_
    refine v_putS (pc := 22) 2 0 fp_X0_putDown_18 rfl hi (by decide) dX0_putDown_22 ?_
    refine v_aload_nR (pc := 25) dX0_putDown_25 rfl rfl ?_
    refine v_iload_n (pc := 26) dX0_putDown_26 rfl rfl ?_
    refine v_putS (pc := 27) 4 0 fp_X0_putDown_24 rfl hi (by decide) dX0_putDown_27 ?_
    refine v_iconst (pc := 30) (v := 1) dX0_putDown_30 rfl ?_
    refine v_iret (pc := 31) rfl rfl (Nat.le_of_ble_eq_true rfl) dX0_putDown_31 ?_
    rw [e6] at c10
    exact ⟨by rw [bI_t c10], by unfold pdB; rw [if_pos c10]; rfl⟩
  · refine v_aload_nR (pc := 13) dX0_putDown_13 rfl rfl ?_
    refine v_iconst (pc := 14) (v := 0) dX0_putDown_14 rfl ?_
    refine v_putS (pc := 15) 2 0 fp_X0_putDown_18 rfl hi (by decide) dX0_putDown_15 ?_
    refine v_iconst (pc := 18) (v := 0) dX0_putDown_18 rfl ?_
    refine v_iret (pc := 19) rfl rfl (Nat.le_of_ble_eq_true rfl) dX0_putDown_19 ?_
    rw [e6] at c10
    exact ⟨by rw [bI_f c10], by unfold pdB; rw [if_neg c10]; rfl⟩
set_option maxRecDepth 100000 in
set_option maxHeartbeats 4000000 in
theorem c_X0_tell {G : Cx} {sa : Nat → Nat} {n i : Nat} {B : Nat → Nat → Int32} (hi : i < n) {w : Nat} (hw : w < 5) : Mt G Y_X0_tell 0 0 0 [.ref (sa i), .int (nI w)] [eS 0 sa n 5 B] (fun v M' => v = some (.int (B i w)) ∧ M' = [eS 0 sa n 5 B]) (noX) := by
  refine Mt.of (L := [some (.ref (sa i)), some (.int (nI w))]) rfl (by decide) (by simp [lg_sl, Value.category]) ⟨rfl, rfl, trivial⟩ (fun sz => ?_)
  refine v_iload_n (pc := 0) dX0_tell_0 rfl rfl ?_
  by_cases w1_0 : nI w = nI 0
  · refine v_tsIn (pc := 1) (tgt := 32) dX0_tell_1 (sw_in (n := 3) w1_0 (by decide) (by decide)).1 (sw_in (n := 3) w1_0 (by decide) (by decide)).2.1 (off := 31) (by rw [(sw_in (n := 3) w1_0 (by decide) (by decide)).2.2]; rfl) (by decide) ?_
    refine v_aload_nR (pc := 32) dX0_tell_32 rfl rfl ?_
    refine v_getS (pc := 33) 0 0 fg_X0_9 rfl hi (by decide) dX0_tell_33 ?_
    refine v_iret (pc := 36) rfl rfl (Nat.le_of_ble_eq_true rfl) dX0_tell_36 ?_
    exact ⟨by rw [(nI_eq (by omega) (by omega)).mp w1_0], rfl⟩
  by_cases w1_1 : nI w = nI 1
  · refine v_tsIn (pc := 1) (tgt := 37) dX0_tell_1 (sw_in (n := 3) w1_1 (by decide) (by decide)).1 (sw_in (n := 3) w1_1 (by decide) (by decide)).2.1 (off := 36) (by rw [(sw_in (n := 3) w1_1 (by decide) (by decide)).2.2]; rfl) (by decide) ?_
    refine v_aload_nR (pc := 37) dX0_tell_37 rfl rfl ?_
    refine v_getS (pc := 38) 1 0 fg_X0_15 rfl hi (by decide) dX0_tell_38 ?_
    refine v_iret (pc := 41) rfl rfl (Nat.le_of_ble_eq_true rfl) dX0_tell_41 ?_
    exact ⟨by rw [(nI_eq (by omega) (by omega)).mp w1_1], rfl⟩
  by_cases w1_2 : nI w = nI 2
  · refine v_tsIn (pc := 1) (tgt := 42) dX0_tell_1 (sw_in (n := 3) w1_2 (by decide) (by decide)).1 (sw_in (n := 3) w1_2 (by decide) (by decide)).2.1 (off := 41) (by rw [(sw_in (n := 3) w1_2 (by decide) (by decide)).2.2]; rfl) (by decide) ?_
    refine v_aload_nR (pc := 42) dX0_tell_42 rfl rfl ?_
    refine v_getS (pc := 43) 2 0 fg_X0_18 rfl hi (by decide) dX0_tell_43 ?_
    refine v_iret (pc := 46) rfl rfl (Nat.le_of_ble_eq_true rfl) dX0_tell_46 ?_
    exact ⟨by rw [(nI_eq (by omega) (by omega)).mp w1_2], rfl⟩
  by_cases w1_3 : nI w = nI 3
  · refine v_tsIn (pc := 1) (tgt := 47) dX0_tell_1 (sw_in (n := 3) w1_3 (by decide) (by decide)).1 (sw_in (n := 3) w1_3 (by decide) (by decide)).2.1 (off := 46) (by rw [(sw_in (n := 3) w1_3 (by decide) (by decide)).2.2]; rfl) (by decide) ?_
    refine v_aload_nR (pc := 47) dX0_tell_47 rfl rfl ?_
    refine v_getS (pc := 48) 3 0 fg_X0_21 rfl hi (by decide) dX0_tell_48 ?_
    refine v_iret (pc := 51) rfl rfl (Nat.le_of_ble_eq_true rfl) dX0_tell_51 ?_
    exact ⟨by rw [(nI_eq (by omega) (by omega)).mp w1_3], rfl⟩
  refine v_tsOut (pc := 1) (tgt := 52) dX0_tell_1 (sw_out 3 (fun k hk h => by
    have hk2 : k = 0 ∨ k = 1 ∨ k = 2 ∨ k = 3 := by omega
    rcases hk2 with rfl | rfl | rfl | rfl
    · exact w1_0 h
    · exact w1_1 h
    · exact w1_2 h
    · exact w1_3 h)) (by decide) ?_
  refine v_aload_nR (pc := 52) dX0_tell_52 rfl rfl ?_
  refine v_getS (pc := 53) 4 0 fg_X0_24 rfl hi (by decide) dX0_tell_53 ?_
  refine v_iret (pc := 56) rfl rfl (Nat.le_of_ble_eq_true rfl) dX0_tell_56 ?_
  have h0 : ¬ w = 0 := (fun h => w1_0 (by rw [h]))
  have h1 : ¬ w = 1 := (fun h => w1_1 (by rw [h]))
  have h2 : ¬ w = 2 := (fun h => w1_2 (by rw [h]))
  have h3 : ¬ w = 3 := (fun h => w1_3 (by rw [h]))
  obtain rfl : w = 4 := by omega
  exact ⟨rfl, rfl⟩
set_option maxRecDepth 100000 in
set_option maxHeartbeats 4000000 in
theorem c_X2_begin {G : Cx} {sa : Nat → Nat} {n i : Nat} {S : Nat → Nat → Int32} (hi : i < n) {a b c : Int32} : Mt G Y_X2_begin 0 0 0 [.ref (sa i), .int a, .int b, .int c] [eS 2 sa n 9 S] (fun v M' => v = none ∧ M' = [eS 2 sa n 9 (upS (upS (upS (upS (upS S i 0 c) i 3 0) i 4 b) i 5 a) i 6 (-1))]) (noX) := by
  refine Mt.of (L := [some (.ref (sa i)), some (.int a), some (.int b), some (.int c)]) rfl (by decide) (by simp [lg_sl, Value.category]) ⟨rfl, rfl, rfl, rfl, trivial⟩ (fun sz => ?_)
  refine v_aload_nR (pc := 0) dX2_begin_0 rfl rfl ?_
  refine v_iload_n (pc := 1) dX2_begin_1 rfl rfl ?_
  refine v_putS (pc := 2) 0 0 fp_X2_begin_9 rfl hi (by decide) dX2_begin_2 ?_
  refine v_aload_nR (pc := 5) dX2_begin_5 rfl rfl ?_
  refine v_iconst (pc := 6) (v := 0) dX2_begin_6 rfl ?_
  refine v_putS (pc := 7) 3 0 fp_X2_begin_15 rfl hi (by decide) dX2_begin_7 ?_
  refine v_aload_nR (pc := 10) dX2_begin_10 rfl rfl ?_
  refine v_iload_n (pc := 11) dX2_begin_11 rfl rfl ?_
  refine v_putS (pc := 12) 4 0 fp_X2_begin_18 rfl hi (by decide) dX2_begin_12 ?_
  refine v_aload_nR (pc := 15) dX2_begin_15 rfl rfl ?_
  refine v_iload_n (pc := 16) dX2_begin_16 rfl rfl ?_
  refine v_putS (pc := 17) 5 0 fp_X2_begin_21 rfl hi (by decide) dX2_begin_17 ?_
  refine v_aload_nR (pc := 20) dX2_begin_20 rfl rfl ?_
  refine v_iconst (pc := 21) (v := -1) dX2_begin_21 rfl ?_
  refine v_putS (pc := 22) 6 0 fp_X2_begin_24 rfl hi (by decide) dX2_begin_22 ?_
  refine v_vret (pc := 25) rfl (Nat.le_of_ble_eq_true rfl) dX2_begin_25 ?_
  exact ⟨rfl, rfl⟩
set_option maxRecDepth 100000 in
set_option maxHeartbeats 4000000 in
theorem c_X2_weight {G : Cx} {sa : Nat → Nat} {n i : Nat} {S : Nat → Nat → Int32} (hi : i < n) : Mt G Y_X2_weight 0 0 0 [.ref (sa i)] [eS 2 sa n 9 S] (fun v M' => v = some (.int (slW S i)) ∧ M' = [eS 2 sa n 9 S]) (noX) := by
  refine Mt.of (L := [some (.ref (sa i))]) rfl (by decide) (by simp [lg_sl, Value.category]) ⟨rfl, trivial⟩ (fun sz => ?_)
  refine v_bipush (pc := 0) (v := 40) dX2_weight_0 rfl ?_
  refine v_bipush (pc := 2) (v := 30) dX2_weight_2 rfl ?_
  refine v_aload_nR (pc := 4) dX2_weight_4 rfl rfl ?_
  refine v_getS (pc := 5) 0 0 fg_X2_9 rfl hi (by decide) dX2_weight_5 ?_
  refine v_imul (pc := 8) dX2_weight_8 ?_
  refine v_iadd (pc := 9) dX2_weight_9 ?_
  refine v_aload_nR (pc := 10) dX2_weight_10 rfl rfl ?_
  refine v_getS (pc := 11) 1 0 fg_X2_27 rfl hi (by decide) dX2_weight_11 ?_
  refine v_iadd (pc := 14) dX2_weight_14 ?_
  refine v_iret (pc := 15) rfl rfl (Nat.le_of_ble_eq_true rfl) dX2_weight_15 ?_
  exact ⟨rfl, rfl⟩
set_option maxRecDepth 100000 in
set_option maxHeartbeats 4000000 in
theorem c_X2_need {G : Cx} {sa : Nat → Nat} {n i : Nat} {S : Nat → Nat → Int32} (hi : i < n) : Mt G Y_X2_need 1 0 0 [.ref (sa i)] [eS 2 sa n 9 S] (fun v M' => v = some (.int (slN S i)) ∧ M' = [eS 2 sa n 9 S]) (noX) := by
  refine Mt.of (L := [some (.ref (sa i))]) rfl (by decide) (by simp [lg_sl, Value.category]) ⟨rfl, trivial⟩ (fun sz => ?_)
  refine v_aload_nR (pc := 0) dX2_need_0 rfl rfl ?_
  refine v_callV0 (pc := 1) (c_X2_weight hi) cm_X2_weight q341 q334 q335 (ci := 2) rfl rfl (orcF 0 rfl hi) [0] (by rfl) (by decide) (fun _ _ h => h) (by decide) (by decide) (by decide) (Nat.le_of_ble_eq_true rfl) dX2_need_1 (fun v1 M1 hQ1 => ?_)
  obtain ⟨rfl, rfl⟩ := hQ1
  refine v_callSN1 (pc := 4) (c_X5_thicknessFor ) cm_X5_thicknessFor q342 q343 [] (by rfl) (by decide) (fun _ _ h => h) (by decide) (by decide) (by decide) (Nat.le_of_ble_eq_true rfl) dX2_need_4 (fun v4 M4 hQ4 => ?_)
  obtain ⟨rfl, rfl⟩ := hQ4
  refine v_iret (pc := 7) rfl rfl (Nat.le_of_ble_eq_true rfl) dX2_need_7 ?_
  exact ⟨rfl, rfl⟩
set_option maxRecDepth 100000 in
set_option maxHeartbeats 4000000 in
theorem c_X2_ownDrag {G : Cx} {sa : Nat → Nat} {n i : Nat} {S : Nat → Nat → Int32} (hi : i < n) (hr : 1 ≤ (S i 0).toInt ∧ (S i 0).toInt ≤ 6) : Mt G Y_X2_ownDrag 2 0 0 [.ref (sa i)] [eS 2 sa n 9 S] (fun v M' => v = some (.int (slD S i)) ∧ M' = [eS 2 sa n 9 S]) (noX) := by
  refine Mt.of (L := [some (.ref (sa i))]) rfl (by decide) (by simp [lg_sl, Value.category]) ⟨rfl, trivial⟩ (fun sz => ?_)
  refine v_aload_nR (pc := 0) dX2_ownDrag_0 rfl rfl ?_
  refine v_callV0 (pc := 1) (c_X2_weight hi) cm_X2_weight q341 q334 q335 (ci := 2) rfl rfl (orcF 0 rfl hi) [0] (by rfl) (by decide) (fun _ _ h => h) (by decide) (by decide) (by decide) (Nat.le_of_ble_eq_true rfl) dX2_ownDrag_1 (fun v1 M1 hQ1 => ?_)
  obtain ⟨rfl, rfl⟩ := hQ1
  refine v_aload_nR (pc := 4) dX2_ownDrag_4 rfl rfl ?_
  refine v_getS (pc := 5) 0 0 fg_X2_9 rfl hi (by decide) dX2_ownDrag_5 ?_
  refine v_aload_nR (pc := 8) dX2_ownDrag_8 rfl rfl ?_
  refine v_getS (pc := 9) 2 0 fg_X2_30 rfl hi (by decide) dX2_ownDrag_9 ?_
  refine v_callSN3 (pc := 12) (c_X5_drag hr) cm_X5_drag q484 q485 [] (by rfl) (by decide) (fun _ _ h => h) (by decide) (by decide) (by decide) (Nat.le_of_ble_eq_true rfl) dX2_ownDrag_12 (fun v12 M12 hQ12 => ?_)
  obtain ⟨rfl, rfl⟩ := hQ12
  refine v_iret (pc := 15) rfl rfl (Nat.le_of_ble_eq_true rfl) dX2_ownDrag_15 ?_
  exact ⟨rfl, rfl⟩
set_option maxRecDepth 100000 in
set_option maxHeartbeats 4000000 in
theorem c_X2_depart {G : Cx} {sa : Nat → Nat} {n i : Nat} {S : Nat → Nat → Int32} (hi : i < n) {q : Int32} : Mt G Y_X2_depart 0 0 0 [.ref (sa i), .int q] [eS 2 sa n 9 S] (fun v M' => v = none ∧ M' = [eS 2 sa n 9 (upS (upS (upS S i 3 1) i 5 q) i 8 (-1))]) (noX) := by
  refine Mt.of (L := [some (.ref (sa i)), some (.int q)]) rfl (by decide) (by simp [lg_sl, Value.category]) ⟨rfl, rfl, trivial⟩ (fun sz => ?_)
  refine v_aload_nR (pc := 0) dX2_depart_0 rfl rfl ?_
  refine v_iconst (pc := 1) (v := 1) dX2_depart_1 rfl ?_
  refine v_putS (pc := 2) 3 0 fp_X2_depart_15 rfl hi (by decide) dX2_depart_2 ?_
  refine v_aload_nR (pc := 5) dX2_depart_5 rfl rfl ?_
  refine v_iload_n (pc := 6) dX2_depart_6 rfl rfl ?_
  refine v_putS (pc := 7) 5 0 fp_X2_depart_21 rfl hi (by decide) dX2_depart_7 ?_
  refine v_aload_nR (pc := 10) dX2_depart_10 rfl rfl ?_
  refine v_iconst (pc := 11) (v := -1) dX2_depart_11 rfl ?_
  refine v_putS (pc := 12) 8 0 fp_X2_depart_36 rfl hi (by decide) dX2_depart_12 ?_
  refine v_vret (pc := 15) rfl (Nat.le_of_ble_eq_true rfl) dX2_depart_15 ?_
  exact ⟨rfl, rfl⟩
set_option maxRecDepth 100000 in
set_option maxHeartbeats 4000000 in
theorem c_X2_isBetween {G : Cx} {sa : Nat → Nat} {n i : Nat} {S : Nat → Nat → Int32} (hi : i < n) : Mt G Y_X2_isBetween 0 0 0 [.ref (sa i)] [eS 2 sa n 9 S] (fun v M' => v = some (.int (bI (S i 3 = 1 ∧ 0 < S i 7))) ∧ M' = [eS 2 sa n 9 S]) (noX) := by
  refine Mt.of (L := [some (.ref (sa i))]) rfl (by decide) (by simp [lg_sl, Value.category]) ⟨rfl, trivial⟩ (fun sz => ?_)
  refine v_aload_nR (pc := 0) dX2_isBetween_0 rfl rfl ?_
  refine v_getS (pc := 1) 3 0 fg_X2_15 rfl hi (by decide) dX2_isBetween_1 ?_
  refine v_iconst (pc := 4) (v := 1) dX2_isBetween_4 rfl ?_
  refine v_icmp_ne (pc := 5) (tgt := 19) dX2_isBetween_5 (by decide) (fun c5 => ?_) (fun c5 => ?_)
  · refine v_iconst (pc := 19) (v := 0) dX2_isBetween_19 rfl ?_
    refine v_iret (pc := 20) rfl rfl (Nat.le_of_ble_eq_true rfl) dX2_isBetween_20 ?_
    exact ⟨by first | (rw [bI_t]; simp only [i_lt, i_le, i_eq, i_0, i_1] at *; omega) | (rw [bI_f]; simp only [i_lt, i_le, i_eq, i_0, i_1] at *; omega), rfl⟩
  · refine v_aload_nR (pc := 8) dX2_isBetween_8 rfl rfl ?_
    refine v_getS (pc := 9) 7 0 fg_X2_33 rfl hi (by decide) dX2_isBetween_9 ?_
    refine v_if_le (pc := 12) (tgt := 19) dX2_isBetween_12 (by decide) (fun c12 => ?_) (fun c12 => ?_)
    · refine v_iconst (pc := 19) (v := 0) dX2_isBetween_19 rfl ?_
      refine v_iret (pc := 20) rfl rfl (Nat.le_of_ble_eq_true rfl) dX2_isBetween_20 ?_
      exact ⟨by first | (rw [bI_t]; simp only [i_lt, i_le, i_eq, i_0, i_1] at *; omega) | (rw [bI_f]; simp only [i_lt, i_le, i_eq, i_0, i_1] at *; omega), rfl⟩
    · refine v_iconst (pc := 15) (v := 1) dX2_isBetween_15 rfl ?_
      refine v_goto (pc := 16) (tgt := 20) dX2_isBetween_16 (by decide) ?_
      refine v_iret (pc := 20) rfl rfl (Nat.le_of_ble_eq_true rfl) dX2_isBetween_20 ?_
      exact ⟨by first | (rw [bI_t]; simp only [i_lt, i_le, i_eq, i_0, i_1] at *; omega) | (rw [bI_f]; simp only [i_lt, i_le, i_eq, i_0, i_1] at *; omega), rfl⟩
set_option maxRecDepth 100000 in
set_option maxHeartbeats 4000000 in
theorem c_X2_sink {G : Cx} {sa : Nat → Nat} {n i : Nat} {S : Nat → Nat → Int32} (hi : i < n) : Mt G Y_X2_sink 0 0 0 [.ref (sa i)] [eS 2 sa n 9 S] (fun v M' => v = none ∧ M' = [eS 2 sa n 9 (upS (upS (upS (upS (upS S i 3 2) i 1 0) i 5 (-1)) i 6 (-1)) i 7 0)]) (noX) := by
  refine Mt.of (L := [some (.ref (sa i))]) rfl (by decide) (by simp [lg_sl, Value.category]) ⟨rfl, trivial⟩ (fun sz => ?_)
  refine v_aload_nR (pc := 0) dX2_sink_0 rfl rfl ?_
  refine v_iconst (pc := 1) (v := 2) dX2_sink_1 rfl ?_
  refine v_putS (pc := 2) 3 0 fp_X2_sink_15 rfl hi (by decide) dX2_sink_2 ?_
  refine v_aload_nR (pc := 5) dX2_sink_5 rfl rfl ?_
  refine v_iconst (pc := 6) (v := 0) dX2_sink_6 rfl ?_
  refine v_putS (pc := 7) 1 0 fp_X2_sink_27 rfl hi (by decide) dX2_sink_7 ?_
  refine v_aload_nR (pc := 10) dX2_sink_10 rfl rfl ?_
  refine v_iconst (pc := 11) (v := -1) dX2_sink_11 rfl ?_
  refine v_putS (pc := 12) 5 0 fp_X2_sink_21 rfl hi (by decide) dX2_sink_12 ?_
  refine v_aload_nR (pc := 15) dX2_sink_15 rfl rfl ?_
  refine v_iconst (pc := 16) (v := -1) dX2_sink_16 rfl ?_
  refine v_putS (pc := 17) 6 0 fp_X2_sink_24 rfl hi (by decide) dX2_sink_17 ?_
  refine v_aload_nR (pc := 20) dX2_sink_20 rfl rfl ?_
  refine v_iconst (pc := 21) (v := 0) dX2_sink_21 rfl ?_
  refine v_putS (pc := 22) 7 0 fp_X2_sink_33 rfl hi (by decide) dX2_sink_22 ?_
  refine v_vret (pc := 25) rfl (Nat.le_of_ble_eq_true rfl) dX2_sink_25 ?_
  exact ⟨rfl, rfl⟩
set_option maxRecDepth 100000 in
set_option maxHeartbeats 4000000 in
theorem c_X2_beginToGo {G : Cx} {sa : Nat → Nat} {n i : Nat} {S : Nat → Nat → Int32} (hi : i < n) {a b : Int32} : Mt G Y_X2_beginToGo 0 0 0 [.ref (sa i), .int a, .int b] [eS 2 sa n 9 S] (fun v M' => v = none ∧ M' = [eS 2 sa n 9 (upS (upS S i 6 a) i 7 b)]) (noX) := by
  refine Mt.of (L := [some (.ref (sa i)), some (.int a), some (.int b)]) rfl (by decide) (by simp [lg_sl, Value.category]) ⟨rfl, rfl, rfl, trivial⟩ (fun sz => ?_)
  refine v_aload_nR (pc := 0) dX2_beginToGo_0 rfl rfl ?_
  refine v_iload_n (pc := 1) dX2_beginToGo_1 rfl rfl ?_
  refine v_putS (pc := 2) 6 0 fp_X2_beginToGo_24 rfl hi (by decide) dX2_beginToGo_2 ?_
  refine v_aload_nR (pc := 5) dX2_beginToGo_5 rfl rfl ?_
  refine v_iload_n (pc := 6) dX2_beginToGo_6 rfl rfl ?_
  refine v_putS (pc := 7) 7 0 fp_X2_beginToGo_33 rfl hi (by decide) dX2_beginToGo_7 ?_
  refine v_vret (pc := 10) rfl (Nat.le_of_ble_eq_true rfl) dX2_beginToGo_10 ?_
  exact ⟨rfl, rfl⟩
set_option maxRecDepth 100000 in
set_option maxHeartbeats 4000000 in
theorem c_X2_comesOn {G : Cx} {sa : Nat → Nat} {n i : Nat} {S : Nat → Nat → Int32} (hi : i < n) : Mt G Y_X2_comesOn 1 0 0 [.ref (sa i)] [eS 2 sa n 9 S] (fun v M' => v = some (.int (bI (¬ 0 < S i 7 - 1))) ∧ M' = [eS 2 sa n 9 (coS S i)]) (noX) := by
  refine Mt.of (L := [some (.ref (sa i))]) rfl (by decide) (by simp [lg_sl, Value.category]) ⟨rfl, trivial⟩ (fun sz => ?_)
  refine v_aload_nR (pc := 0) dX2_comesOn_0 rfl rfl ?_
  refine v_dup (pc := 1) dX2_comesOn_1 rfl ?_
  refine v_getS (pc := 2) 7 0 fg_X2_33 rfl hi (by decide) dX2_comesOn_2 ?_
  refine v_iconst (pc := 5) (v := 1) dX2_comesOn_5 rfl ?_
  refine v_isub (pc := 6) dX2_comesOn_6 ?_
  refine v_putS (pc := 7) 7 0 fp_X2_comesOn_33 rfl hi (by decide) dX2_comesOn_7 ?_
  refine v_aload_nR (pc := 10) dX2_comesOn_10 rfl rfl ?_
  refine v_getS (pc := 11) 7 0 fg_X2_33 rfl hi (by decide) dX2_comesOn_11 ?_
  refine v_if_le (pc := 14) (tgt := 19) dX2_comesOn_14 (by decide) (fun c14 => ?_) (fun c14 => ?_)
  · refine v_aload_nR (pc := 19) dX2_comesOn_19 rfl rfl ?_
    refine v_aload_nR (pc := 20) dX2_comesOn_20 rfl rfl ?_
    refine v_getS (pc := 21) 6 0 fg_X2_24 rfl hi (by decide) dX2_comesOn_21 ?_
    refine v_putS (pc := 24) 4 0 fp_X2_comesOn_18 rfl hi (by decide) dX2_comesOn_24 ?_
    refine v_aload_nR (pc := 27) dX2_comesOn_27 rfl rfl ?_
    refine v_iconst (pc := 28) (v := -1) dX2_comesOn_28 rfl ?_
    refine v_putS (pc := 29) 6 0 fp_X2_comesOn_24 rfl hi (by decide) dX2_comesOn_29 ?_
    refine v_aload_nR (pc := 32) dX2_comesOn_32 rfl rfl ?_
    refine v_bipush (pc := 33) (v := 100) dX2_comesOn_33 rfl ?_
    refine v_aload_nR (pc := 35) dX2_comesOn_35 rfl rfl ?_
    refine v_getS (pc := 36) 2 0 fg_X2_30 rfl hi (by decide) dX2_comesOn_36 ?_
    refine v_iconst (pc := 39) (v := 1) dX2_comesOn_39 rfl ?_
    refine v_iadd (pc := 40) dX2_comesOn_40 ?_
    refine v_mmin (pc := 41) q455 q403 q15 q404 (by decide) (Nat.le_of_ble_eq_true rfl) dX2_comesOn_41 ?_
    refine v_putS (pc := 44) 2 0 fp_X2_comesOn_30 rfl hi (by decide) dX2_comesOn_44 ?_
    refine v_iconst (pc := 47) (v := 1) dX2_comesOn_47 rfl ?_
    refine v_iret (pc := 48) rfl rfl (Nat.le_of_ble_eq_true rfl) dX2_comesOn_48 ?_
    rw [upS_s] at c14
    have c9 := Int32.not_lt.mpr c14
    exact ⟨by rw [bI_t c9], by unfold coS; rw [if_neg c9]; simp [upS_n]⟩
  · refine v_iconst (pc := 17) (v := 0) dX2_comesOn_17 rfl ?_
    refine v_iret (pc := 18) rfl rfl (Nat.le_of_ble_eq_true rfl) dX2_comesOn_18 ?_
    rw [upS_s] at c14
    have c9 := Int32.not_le.mp c14
    exact ⟨by rw [bI_f (fun h => h c9)], by unfold coS; rw [if_pos c9]; rfl⟩
set_option maxRecDepth 100000 in
set_option maxHeartbeats 4000000 in
theorem c_X2_restAtGoal {G : Cx} {sa : Nat → Nat} {n i : Nat} {S : Nat → Nat → Int32} (hi : i < n) : Mt G Y_X2_restAtGoal 0 0 0 [.ref (sa i)] [eS 2 sa n 9 S] (fun v M' => v = none ∧ M' = [eS 2 sa n 9 (upS (upS S i 3 0) i 1 0)]) (noX) := by
  refine Mt.of (L := [some (.ref (sa i))]) rfl (by decide) (by simp [lg_sl, Value.category]) ⟨rfl, trivial⟩ (fun sz => ?_)
  refine v_aload_nR (pc := 0) dX2_restAtGoal_0 rfl rfl ?_
  refine v_iconst (pc := 1) (v := 0) dX2_restAtGoal_1 rfl ?_
  refine v_putS (pc := 2) 3 0 fp_X2_restAtGoal_15 rfl hi (by decide) dX2_restAtGoal_2 ?_
  refine v_aload_nR (pc := 5) dX2_restAtGoal_5 rfl rfl ?_
  refine v_iconst (pc := 6) (v := 0) dX2_restAtGoal_6 rfl ?_
  refine v_putS (pc := 7) 1 0 fp_X2_restAtGoal_27 rfl hi (by decide) dX2_restAtGoal_7 ?_
  refine v_vret (pc := 10) rfl (Nat.le_of_ble_eq_true rfl) dX2_restAtGoal_10 ?_
  exact ⟨rfl, rfl⟩
set_option maxRecDepth 100000 in
set_option maxHeartbeats 4000000 in
theorem c_X2_recover {G : Cx} {sa : Nat → Nat} {n i : Nat} {S : Nat → Nat → Int32} (hi : i < n) : Mt G Y_X2_recover 1 0 0 [.ref (sa i)] [eS 2 sa n 9 S] (fun v M' => v = none ∧ M' = [eS 2 sa n 9 (upS S i 2 (if 0 < S i 2 - 2 then S i 2 - 2 else 0))]) (noX) := by
  refine Mt.of (L := [some (.ref (sa i))]) rfl (by decide) (by simp [lg_sl, Value.category]) ⟨rfl, trivial⟩ (fun sz => ?_)
  refine v_aload_nR (pc := 0) dX2_recover_0 rfl rfl ?_
  refine v_iconst (pc := 1) (v := 0) dX2_recover_1 rfl ?_
  refine v_aload_nR (pc := 2) dX2_recover_2 rfl rfl ?_
  refine v_getS (pc := 3) 2 0 fg_X2_30 rfl hi (by decide) dX2_recover_3 ?_
  refine v_iconst (pc := 6) (v := 2) dX2_recover_6 rfl ?_
  refine v_isub (pc := 7) dX2_recover_7 ?_
  refine v_mmax (pc := 8) q524 q406 q15 q407 (by decide) (Nat.le_of_ble_eq_true rfl) dX2_recover_8 ?_
  refine v_putS (pc := 11) 2 0 fp_X2_recover_30 rfl hi (by decide) dX2_recover_11 ?_
  refine v_vret (pc := 14) rfl (Nat.le_of_ble_eq_true rfl) dX2_recover_14 ?_
  exact ⟨rfl, rfl⟩
