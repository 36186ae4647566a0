/-! the law's own model: its state, its small methods -/
/-- its sleighs' fields out of the class's columns; its next cell is its own -/
def smX (SF : Nat → Nat → Int32) (MX : Nat → Int32) (i : Nat) : Nat → Int32
  | 0 => SF i 0
  | 1 => SF i 2
  | 2 => SF i 3
  | 3 => SF i 4
  | 4 => SF i 5
  | 5 => MX i
  | 6 => SF i 7
  | k + 7 => SF i (k + 17)
theorem smX_g0 {SF : Nat → Nat → Int32} {MX : Nat → Int32} {i : Nat} : smX SF MX i 0 = SF i 0 := rfl
theorem smX_u0 {SF : Nat → Nat → Int32} {MX : Nat → Int32} {i : Nat} {v : Int32} : upS (smX SF MX) i 0 v = smX (upS SF i 0 v) MX := by
  funext a b
  rcases b with _ | _ | _ | _ | _ | _ | _ | b <;> simp [smX, upS, upd]
theorem smX_g1 {SF : Nat → Nat → Int32} {MX : Nat → Int32} {i : Nat} : smX SF MX i 1 = SF i 2 := rfl
theorem smX_u1 {SF : Nat → Nat → Int32} {MX : Nat → Int32} {i : Nat} {v : Int32} : upS (smX SF MX) i 1 v = smX (upS SF i 2 v) MX := by
  funext a b
  rcases b with _ | _ | _ | _ | _ | _ | _ | b <;> simp [smX, upS, upd]
theorem smX_g2 {SF : Nat → Nat → Int32} {MX : Nat → Int32} {i : Nat} : smX SF MX i 2 = SF i 3 := rfl
theorem smX_u2 {SF : Nat → Nat → Int32} {MX : Nat → Int32} {i : Nat} {v : Int32} : upS (smX SF MX) i 2 v = smX (upS SF i 3 v) MX := by
  funext a b
  rcases b with _ | _ | _ | _ | _ | _ | _ | b <;> simp [smX, upS, upd]
theorem smX_g3 {SF : Nat → Nat → Int32} {MX : Nat → Int32} {i : Nat} : smX SF MX i 3 = SF i 4 := rfl
theorem smX_u3 {SF : Nat → Nat → Int32} {MX : Nat → Int32} {i : Nat} {v : Int32} : upS (smX SF MX) i 3 v = smX (upS SF i 4 v) MX := by
  funext a b
  rcases b with _ | _ | _ | _ | _ | _ | _ | b <;> simp [smX, upS, upd]
theorem smX_g4 {SF : Nat → Nat → Int32} {MX : Nat → Int32} {i : Nat} : smX SF MX i 4 = SF i 5 := rfl
theorem smX_u4 {SF : Nat → Nat → Int32} {MX : Nat → Int32} {i : Nat} {v : Int32} : upS (smX SF MX) i 4 v = smX (upS SF i 5 v) MX := by
  funext a b
  rcases b with _ | _ | _ | _ | _ | _ | _ | b <;> simp [smX, upS, upd]
theorem smX_g5 {SF : Nat → Nat → Int32} {MX : Nat → Int32} {i : Nat} : smX SF MX i 5 = MX i := rfl
theorem smX_u5 {SF : Nat → Nat → Int32} {MX : Nat → Int32} {i : Nat} {v : Int32} : upS (smX SF MX) i 5 v = smX SF (upd MX i v) := by
  funext a b
  rcases b with _ | _ | _ | _ | _ | _ | _ | b <;> simp [smX, upS, upd]
theorem smX_g6 {SF : Nat → Nat → Int32} {MX : Nat → Int32} {i : Nat} : smX SF MX i 6 = SF i 7 := rfl
theorem smX_u6 {SF : Nat → Nat → Int32} {MX : Nat → Int32} {i : Nat} {v : Int32} : upS (smX SF MX) i 6 v = smX (upS SF i 7 v) MX := by
  funext a b
  rcases b with _ | _ | _ | _ | _ | _ | _ | b <;> simp [smX, upS, upd]
abbrev SimM (v xs bs : Nat → Nat) (hh : Nat) (T N S C O PC : Nat → Int32) (ps sc bc : Nat) (SF : Nat → Nat → Int32) (MX : Nat → Int32) (BF : Nat → Nat → Int32) (H D : Nat → Int32) : List ME :=
  [eO 6 (v 0) [.int (nI hh), .ref (v 1), .ref (v 2), .ref (v 3), .ref (v 4), .ref (v 5), .ref (v 6), .ref (v 7), .ref (v 8), .ref (v 9), .ref (v 10)], eI (v 1) 160 T, eI (v 2) 160 N, eI (v 3) 160 S, eZ (v 4) 160 C, eI (v 5) 8 O, eI (v 6) ps PC, eQ 2 (v 7) sc (fun j => some (xs j)), eQ 5 (v 8) bc (fun j => some (bs j)), eI (v 9) 160 H, eZ (v 10) 160 D, eS 7 xs sc 7 (smX SF MX), eG bs bc 5 BF]
def upv (v : Nat → Nat) (k q : Nat) : Nat → Nat := fun j => if j = k then q else v j
theorem sum_k {F : Nat → Int32} {i : Nat} {A q : Int32} (hq : q = A + sumN F i) (h : F i = 0) : q = A + sumN F (i + 1) := by
  show _ = A + (sumN F i + F i)
  rw [hq, h, Int32.add_zero]
theorem ndC_s1 {C : Nat → Int32} {k : Nat} {x : Int32} (h : ¬ C k = 0) : 16 + x / 12 * 2 = ndC C k (8 + x / 12) := by
  unfold ndC
  rw [if_neg h, Int32.mul_add, Int32.mul_comm (x / 12) 2]
  rfl
theorem ndC_s0 {C : Nat → Int32} {k : Nat} {nd : Int32} (h : C k = 0) : nd = ndC C k nd := (if_pos h).symm
/-- cells side by side -/
def adj (a b : Nat) : Bool := decide (nbr a 0 = some b) || decide (nbr a 1 = some b) || decide (nbr a 2 = some b) || decide (nbr a 3 = some b)
def dif (a b : Nat) : Nat := if a < b then b - a else a - b
theorem abs_nI {a b : Nat} (ha : a < 2 ^ 30) (hb : b < 2 ^ 30) : (if 0 ≤ nI a - nI b then nI a - nI b else 0 - (nI a - nI b)) = nI (dif a b) := by
  have h1 : (nI a - nI b).toInt = (a : Int) - b := pk_sub_toInt ha hb
  unfold dif
  by_cases h : a < b
  · have h0 : ¬ 0 ≤ nI a - nI b := fun q => by
      rw [i_le, i_0, h1] at q
      omega
    rw [if_neg h0, if_pos h]
    refine Int32.toInt_inj.mp ?_
    rw [fb_subI (by rw [h1, i_0]; omega) (by rw [h1, i_0]; omega), h1, i_0, nI_toInt (by omega)]
    omega
  · have h0 : 0 ≤ nI a - nI b := by
      rw [i_le, i_0, h1]
      omega
    rw [if_pos h0, if_neg h]
    exact pk_sub (a := a) (b := b) (by omega)
theorem adj_iff {a b : Nat} (ha : a < 160) (hb : b < 160) : adj a b = true ↔ dif (a % 16) (b % 16) + dif (a / 16) (b / 16) = 1 := by
  have e0 : nbr a 0 = some b ↔ 16 ≤ a ∧ a - 16 = b := by
    show (if a < 16 then none else some (a - 16)) = some b ↔ _
    split <;> simp <;> omega
  have e1 : nbr a 1 = some b ↔ ¬ a % 16 = 0 ∧ a - 1 = b := by
    show (if a % 16 = 0 then none else some (a - 1)) = some b ↔ _
    split <;> simp <;> omega
  have e2 : nbr a 2 = some b ↔ ¬ a % 16 = 15 ∧ a + 1 = b := by
    show (if a % 16 = 15 then none else some (a + 1)) = some b ↔ _
    split <;> simp <;> omega
  have e3 : nbr a 3 = some b ↔ a + 16 < 160 ∧ a + 16 = b := by
    show (if a + 16 < 160 then some (a + 16) else none) = some b ↔ _
    split <;> simp <;> omega
  have e : adj a b = true ↔ (16 ≤ a ∧ a - 16 = b) ∨ (¬ a % 16 = 0 ∧ a - 1 = b) ∨ (¬ a % 16 = 15 ∧ a + 1 = b) ∨ (a + 16 < 160 ∧ a + 16 = b) := by
    unfold adj
    simp only [Bool.or_eq_true, decide_eq_true_eq, e0, e1, e2, e3, or_assoc]
  rw [e]
  unfold dif
  split <;> split <;> omega
section VPART
variable {G : Cx} {Y : MI} {Z : ZT} {d ck sk pc : Nat} {L : List (Option Value)} {st : List Value} {M : List ME}
/-- some entries of the world, in another order -/
theorem v_part {M' : List ME} (ps : List Nat) (hpt : isPart M M' ps) (hn : ps.Nodup) (k : V G Y Z d ck sk pc L st M') : V G Y Z d ck sk pc L st M :=
  fun p e R s m args below meth c H locs cells slots ls C hl => k p e R s m args below meth c H locs cells slots ls ⟨C.1, C.2.1, hpt.PM C.2.2.1, hpt.DM hn C.2.2.2.1, C.2.2.2.2⟩ hl
end VPART
set_option maxRecDepth 100000 in
set_option maxHeartbeats 4000000 in
theorem c_X6_areBeside {G : Cx} {a b : Nat} (ha : a < 160) (hb : b < 160) : Mt G Y_X6_areBeside 1 0 0 [.int (nI a), .int (nI b)] [] (fun v' M' => v' = some (.int (bI (adj a b = true))) ∧ M' = []) (noX) := by
  refine Mt.of (L := [some (.int (nI a)), some (.int (nI b))]) rfl (by decide) (by simp [lg_sl, Value.category]) ⟨rfl, rfl, trivial⟩ (fun sz => ?_)
  refine v_iload_n (pc := 0) dX6_areBeside_0 rfl rfl ?_
  refine v_bipush (pc := 1) (v := 16) dX6_areBeside_1 rfl ?_
  refine v_irem (pc := 3) dX6_areBeside_3 (by decide) ?_
  rw [show nI a - nI a / 16 * 16 = nI (a % 16) from pk_rem (d := 16) (by omega) (by decide) (by decide)]
  refine v_iload_n (pc := 4) dX6_areBeside_4 rfl rfl ?_
  refine v_bipush (pc := 5) (v := 16) dX6_areBeside_5 rfl ?_
  refine v_irem (pc := 7) dX6_areBeside_7 (by decide) ?_
  rw [show nI b - nI b / 16 * 16 = nI (b % 16) from pk_rem (d := 16) (by omega) (by decide) (by decide)]
  refine v_isub (pc := 8) dX6_areBeside_8 ?_
  refine v_mabs (pc := 9) q574 q575 q15 q576 (by decide) (Nat.le_of_ble_eq_true rfl) dX6_areBeside_9 ?_
  rw [abs_nI (by omega) (by omega)]
  refine v_iload_n (pc := 12) dX6_areBeside_12 rfl rfl ?_
  refine v_bipush (pc := 13) (v := 16) dX6_areBeside_13 rfl ?_
  refine v_idiv (pc := 15) dX6_areBeside_15 (by decide) ?_
  rw [show nI a / 16 = nI (a / 16) from pk_div (d := 16) (by omega) (by decide) (by decide)]
  refine v_iload_n (pc := 16) dX6_areBeside_16 rfl rfl ?_
  refine v_bipush (pc := 17) (v := 16) dX6_areBeside_17 rfl ?_
  refine v_idiv (pc := 19) dX6_areBeside_19 (by decide) ?_
  rw [show nI b / 16 = nI (b / 16) from pk_div (d := 16) (by omega) (by decide) (by decide)]
  refine v_isub (pc := 20) dX6_areBeside_20 ?_
  refine v_mabs (pc := 21) q574 q575 q15 q576 (by decide) (Nat.le_of_ble_eq_true rfl) dX6_areBeside_21 ?_
  rw [abs_nI (by omega) (by omega)]
  refine v_iadd (pc := 24) dX6_areBeside_24 ?_
  rw [show nI (dif (a % 16) (b % 16)) + nI (dif (a / 16) (b / 16)) = nI (dif (a % 16) (b % 16) + dif (a / 16) (b / 16)) from nI_add _ _]
  refine v_iconst (pc := 25) (v := 1) dX6_areBeside_25 rfl ?_
  refine v_icmp_ne (pc := 26) (tgt := 33) dX6_areBeside_26 (by decide) (fun c26 => ?_) (fun c26 => ?_)
  · have c26 : ¬ (dif (a % 16) (b % 16) + dif (a / 16) (b / 16)) = 1 := fun h => c26 ((nI_eq (a := (dif (a % 16) (b % 16) + dif (a / 16) (b / 16))) (b := 1) (by unfold dif; split <;> split <;> omega) (by omega)).mpr h)
    refine v_iconst (pc := 33) (v := 0) dX6_areBeside_33 rfl ?_
    refine v_iret (pc := 34) rfl rfl (Nat.le_of_ble_eq_true rfl) dX6_areBeside_34 ?_
    exact ⟨by rw [bI_f (fun h => c26 ((adj_iff ha hb).mp h))], rfl⟩
  · have c26 : (dif (a % 16) (b % 16) + dif (a / 16) (b / 16)) = 1 := (nI_eq (a := (dif (a % 16) (b % 16) + dif (a / 16) (b / 16))) (b := 1) (by unfold dif; split <;> split <;> omega) (by omega)).mp c26
    refine v_iconst (pc := 29) (v := 1) dX6_areBeside_29 rfl ?_
    refine v_goto (pc := 30) (tgt := 34) dX6_areBeside_30 (by decide) ?_
    refine v_iret (pc := 34) rfl rfl (Nat.le_of_ble_eq_true rfl) dX6_areBeside_34 ?_
    exact ⟨by rw [bI_t ((adj_iff ha hb).mpr c26)], rfl⟩
set_option maxRecDepth 100000 in
set_option maxHeartbeats 4000000 in
theorem c_X6_ice {G : Cx} {v xs bs : Nat → Nat} {hh : Nat} {T N S C O PC : Nat → Int32} {ps sc bc : Nat} {SF : Nat → Nat → Int32} {MX : Nat → Int32} {BF : Nat → Nat → Int32} {H D : Nat → Int32} (hps : ps ≤ 8) (hsc : sc ≤ 5) (hbc : bc ≤ 40) {k : Nat} {t : Int32} (hk : k < 160) : Mt G Y_X6_ice 0 0 0 [.ref (v 0), .int (nI k), .int t] (SimM v xs bs hh T N S C O PC ps sc bc SF MX BF H D) (fun v' M' => v' = none ∧ M' = SimM v xs bs hh (upd T k t) N (upd S k 0) (upd C k 0) O PC ps sc bc SF MX BF H D) noX := by
  refine Mt.of (L := [some (.ref (v 0)), some (.int (nI k)), some (.int t)]) rfl (by decide) (by simp [lg_sl, Value.category]) ⟨rfl, rfl, rfl, trivial⟩ (fun sz => ?_)
  refine v_aload_nR (pc := 0) dX6_ice_0 rfl rfl ?_
  refine v_get (pc := 1) 1 0 fg_X6_7 rfl rfl dX6_ice_1 ?_
  refine v_iload_n (pc := 4) dX6_ice_4 rfl rfl ?_
  refine v_iload_n (pc := 5) dX6_ice_5 rfl rfl ?_
  refine v_iastN (pc := 6) 1 (k := k) rfl (by omega) (by omega) dX6_ice_6 ?_
  try dsimp only [wb, SimM, List.set_cons_succ, List.set_cons_zero, List.append_nil, List.nil_append, List.cons_append, Option.toList, Nat.sub_zero]
  refine v_aload_nR (pc := 7) dX6_ice_7 rfl rfl ?_
  refine v_get (pc := 8) 3 0 fg_X6_16 rfl rfl dX6_ice_8 ?_
  refine v_iload_n (pc := 11) dX6_ice_11 rfl rfl ?_
  refine v_iconst (pc := 12) (v := 0) dX6_ice_12 rfl ?_
  refine v_iastN (pc := 13) 3 (k := k) rfl (by omega) (by omega) dX6_ice_13 ?_
  try dsimp only [wb, SimM, List.set_cons_succ, List.set_cons_zero, List.append_nil, List.nil_append, List.cons_append, Option.toList, Nat.sub_zero]
  refine v_aload_nR (pc := 14) dX6_ice_14 rfl rfl ?_
  refine v_get (pc := 15) 4 0 fg_X6_19 rfl rfl dX6_ice_15 ?_
  refine v_iload_n (pc := 18) dX6_ice_18 rfl rfl ?_
  refine v_iconst (pc := 19) (v := 0) dX6_ice_19 rfl ?_
  refine v_zastN (pc := 20) 4 (k := k) rfl (by omega) (by omega) rfl dX6_ice_20 ?_
  try dsimp only [wb, SimM, List.set_cons_succ, List.set_cons_zero, List.append_nil, List.nil_append, List.cons_append, Option.toList, Nat.sub_zero]
  refine v_vret (pc := 21) rfl (Nat.le_of_ble_eq_true rfl) dX6_ice_21 ?_
  exact ⟨rfl, rfl⟩
set_option maxRecDepth 100000 in
set_option maxHeartbeats 4000000 in
theorem lp_X6_postAt {G : Cx} {v xs bs : Nat → Nat} {hh : Nat} {T N S C O PC : Nat → Int32} {ps sc bc : Nat} {SF : Nat → Nat → Int32} {MX : Nat → Int32} {BF : Nat → Nat → Int32} {H D : Nat → Int32} (hps : ps ≤ 8) (hsc : sc ≤ 5) (hbc : bc ≤ 40) {sz : Nat} {c : Int32} : ∀ (m i : Nat), m + i = ps → ∀ r, pOn PC ps c (8 - i) i = r → V G Y_X6_postAt (ZM G (SimM v xs bs hh T N S C O PC ps sc bc SF MX BF H D) sz (fun v' M' => v' = some (.int (oI (r))) ∧ M' = SimM v xs bs hh T N S C O PC ps sc bc SF MX BF H D) noX) 0 0 0 2 [some (.ref (v 0)), some (.int c), some (.int (nI i))] [] (SimM v xs bs hh T N S C O PC ps sc bc SF MX BF H D) := by
  intro m
  induction m with
  | zero =>
    intro i hi
    have hi2 : i = ps := by omega
    intro r hr
    rw [pOn_stop _ i (by omega)] at hr
    obtain rfl : none = r := hr
    refine v_iload_n (pc := 2) dX6_postAt_2 rfl rfl ?_
    refine v_aload_nR (pc := 3) dX6_postAt_3 rfl rfl ?_
    refine v_get (pc := 4) 6 0 fg_X6_26 rfl rfl dX6_postAt_4 ?_
    refine v_alen (pc := 7) 6 (v := nI ps) rfl (fun _ => rfl) rfl dX6_postAt_7 ?_
    refine v_icmp_ge (pc := 8) (tgt := 29) dX6_postAt_8 (by decide) (fun c8 => ?_) (fun c8 => absurd (nI_le (a := ps) (b := i) (by omega) (by omega)) c8)
    have c8 : ps ≤ i := (nI_leI (a := ps) (b := i) (by omega) (by omega)).mp c8
    refine v_iconst (pc := 29) (v := -1) dX6_postAt_29 rfl ?_
    refine v_iret (pc := 30) rfl rfl (Nat.le_of_ble_eq_true rfl) dX6_postAt_30 ?_
    exact ⟨rfl, rfl⟩
  | succ m ih =>
    intro i hi
    intro r hr
    rw [show 8 - i = (8 - (i + 1)) + 1 by omega] at hr
    unfold pOn at hr
    refine v_iload_n (pc := 2) dX6_postAt_2 rfl rfl ?_
    refine v_aload_nR (pc := 3) dX6_postAt_3 rfl rfl ?_
    refine v_get (pc := 4) 6 0 fg_X6_26 rfl rfl dX6_postAt_4 ?_
    refine v_alen (pc := 7) 6 (v := nI ps) rfl (fun _ => rfl) rfl dX6_postAt_7 ?_
    refine v_icmp_ge (pc := 8) (tgt := 29) dX6_postAt_8 (by decide) (fun c8 => absurd c8 (nI_ge (a := i) (b := ps) (by omega) (by omega))) (fun c8 => ?_)
    have c8 : ¬ ps ≤ i := fun h => c8 ((nI_leI (a := ps) (b := i) (by omega) (by omega)).mpr h)
    refine v_aload_nR (pc := 11) dX6_postAt_11 rfl rfl ?_
    refine v_get (pc := 12) 6 0 fg_X6_26 rfl rfl dX6_postAt_12 ?_
    refine v_iload_n (pc := 15) dX6_postAt_15 rfl rfl ?_
    refine v_ialdN (pc := 16) 6 (k := i) rfl (by omega) (by omega) dX6_postAt_16 ?_
    refine v_iload_n (pc := 17) dX6_postAt_17 rfl rfl ?_
    refine v_icmp_ne (pc := 18) (tgt := 23) dX6_postAt_18 (by decide) (fun c18 => ?_) (fun c18 => ?_)
    · refine v_iinc (pc := 23) (v := nI (i + 1)) dX6_postAt_23 rfl (nI_1 _) (by decide) rfl ?_
      refine v_goto (pc := 26) (tgt := 2) dX6_postAt_26 (by decide) ?_
      rw [if_neg (fun h => c18 h.2)] at hr
      exact ih (i + 1) (by omega) r hr
    · refine v_iload_n (pc := 21) dX6_postAt_21 rfl rfl ?_
      refine v_iret (pc := 22) rfl rfl (Nat.le_of_ble_eq_true rfl) dX6_postAt_22 ?_
      rw [if_pos ⟨by omega, c18⟩] at hr
      exact ⟨by rw [← hr]; rfl, rfl⟩
set_option maxRecDepth 100000 in
set_option maxHeartbeats 4000000 in
theorem c_X6_postAt {G : Cx} {v xs bs : Nat → Nat} {hh : Nat} {T N S C O PC : Nat → Int32} {ps sc bc : Nat} {SF : Nat → Nat → Int32} {MX : Nat → Int32} {BF : Nat → Nat → Int32} {H D : Nat → Int32} (hps : ps ≤ 8) (hsc : sc ≤ 5) (hbc : bc ≤ 40) {c : Int32} : Mt G Y_X6_postAt 0 0 0 [.ref (v 0), .int c] (SimM v xs bs hh T N S C O PC ps sc bc SF MX BF H D) (fun v' M' => v' = some (.int (oI (pOn PC ps c 8 0))) ∧ M' = SimM v xs bs hh T N S C O PC ps sc bc SF MX BF H D) noX := by
  refine Mt.of (L := [some (.ref (v 0)), some (.int c), none]) rfl (by decide) (by simp [lg_sl, Value.category]) ⟨rfl, rfl, trivial⟩ (fun sz => ?_)
  refine v_iconst (pc := 0) (v := 0) dX6_postAt_0 rfl ?_
  refine v_istore_n (pc := 1) dX6_postAt_1 rfl (by decide) rfl ?_
  exact lp_X6_postAt hps hsc hbc ps 0 (by omega) _ rfl
set_option maxRecDepth 100000 in
set_option maxHeartbeats 4000000 in
theorem lp_X6_weight {G : Cx} {v xs bs : Nat → Nat} {hh : Nat} {T N S C O PC : Nat → Int32} {ps sc bc : Nat} {SF : Nat → Nat → Int32} {MX : Nat → Int32} {BF : Nat → Nat → Int32} {H D : Nat → Int32} (hps : ps ≤ 8) (hsc : sc ≤ 5) (hbc : bc ≤ 40) {sz : Nat} {s : Nat} {A : Int32} : ∀ (m i : Nat), m + i = bc → ∀ q, q = A + sumN (wgF BF bc (nI s)) i → V G Y_X6_weight (ZM G (SimM v xs bs hh T N S C O PC ps sc bc SF MX BF H D) sz (fun v' M' => v' = some (.int (A + sumN (wgF BF bc (nI s)) 40)) ∧ M' = SimM v xs bs hh T N S C O PC ps sc bc SF MX BF H D) noX) 0 0 0 28 [some (.ref (v 0)), some (.int (nI s)), some (.int q), some (.ref (v 8)), some (.int (nI bc)), some (.int (nI i)), none] [] (SimM v xs bs hh T N S C O PC ps sc bc SF MX BF H D) := by
  intro m
  induction m with
  | zero =>
    intro i hi
    have hi2 : i = bc := by omega
    intro q hq
    refine v_iload (pc := 28) dX6_weight_28 rfl ?_
    refine v_iload (pc := 30) dX6_weight_30 rfl ?_
    refine v_icmp_ge (pc := 32) (tgt := 70) dX6_weight_32 (by decide) (fun c32 => ?_) (fun c32 => absurd (nI_le (a := bc) (b := i) (by omega) (by omega)) c32)
    have c32 : bc ≤ i := (nI_leI (a := bc) (b := i) (by omega) (by omega)).mp c32
    refine v_iload_n (pc := 70) dX6_weight_70 rfl rfl ?_
    refine v_iret (pc := 71) rfl rfl (Nat.le_of_ble_eq_true rfl) dX6_weight_71 ?_
    exact ⟨by rw [hq, sum_to (F := wgF BF bc (nI s)) (m := 40) (n := i) (by omega) (fun j h1 h2 => if_neg (fun q => absurd q.1 (by omega)))], rfl⟩
  | succ m ih =>
    intro i hi
    intro q hq
    refine v_iload (pc := 28) dX6_weight_28 rfl ?_
    refine v_iload (pc := 30) dX6_weight_30 rfl ?_
    refine v_icmp_ge (pc := 32) (tgt := 70) dX6_weight_32 (by decide) (fun c32 => absurd c32 (nI_ge (a := i) (b := bc) (by omega) (by omega))) (fun c32 => ?_)
    have c32 : ¬ bc ≤ i := fun h => c32 ((nI_leI (a := bc) (b := i) (by omega) (by omega)).mpr h)
    refine v_aload_nR (pc := 35) dX6_weight_35 rfl rfl ?_
    refine v_iload (pc := 36) dX6_weight_36 rfl ?_
    refine v_aaldS (pc := 38) 8 (k := i) (by decide) rfl (by omega) (by omega) dX6_weight_38 ?_
    refine v_astoreR (pc := 39) dX6_weight_39 (by decide) rfl ?_
    refine v_aloadR (pc := 41) dX6_weight_41 rfl ?_
    refine v_iconst (pc := 43) (v := 2) dX6_weight_43 rfl ?_
    refine v_ialdGN (pc := 44) 12 (j := 2) rfl (by omega) (by decide) (by decide) dX6_weight_44 ?_
    refine v_iconst (pc := 45) (v := 1) dX6_weight_45 rfl ?_
    refine v_icmp_ne (pc := 46) (tgt := 64) dX6_weight_46 (by decide) (fun c46 => ?_) (fun c46 => ?_)
    · refine v_iinc (pc := 64) (v := nI (i + 1)) dX6_weight_64 rfl (nI_1 _) (by decide) rfl ?_
      refine v_goto (pc := 67) (tgt := 28) dX6_weight_67 (by decide) ?_
      refine v_sub ?_ (ih (i + 1) (by omega) _ (sum_k hq (if_neg (fun h => c46 h.2.1))))
      exact ⟨rfl, rfl, rfl, rfl, rfl, rfl, trivial⟩
    · refine v_aloadR (pc := 49) dX6_weight_49 rfl ?_
      refine v_iconst (pc := 51) (v := 3) dX6_weight_51 rfl ?_
      refine v_ialdGN (pc := 52) 12 (j := 3) rfl (by omega) (by decide) (by decide) dX6_weight_52 ?_
      refine v_iload_n (pc := 53) dX6_weight_53 rfl rfl ?_
      refine v_icmp_ne (pc := 54) (tgt := 64) dX6_weight_54 (by decide) (fun c54 => ?_) (fun c54 => ?_)
      · refine v_iinc (pc := 64) (v := nI (i + 1)) dX6_weight_64 rfl (nI_1 _) (by decide) rfl ?_
        refine v_goto (pc := 67) (tgt := 28) dX6_weight_67 (by decide) ?_
        refine v_sub ?_ (ih (i + 1) (by omega) _ (sum_k hq (if_neg (fun h => c54 h.2.2))))
        exact ⟨rfl, rfl, rfl, rfl, rfl, rfl, trivial⟩
      · refine v_iload_n (pc := 57) dX6_weight_57 rfl rfl ?_
        refine v_aloadR (pc := 58) dX6_weight_58 rfl ?_
        refine v_iconst (pc := 60) (v := 0) dX6_weight_60 rfl ?_
        refine v_ialdGN (pc := 61) 12 (j := 0) rfl (by omega) (by decide) (by decide) dX6_weight_61 ?_
        refine v_iadd (pc := 62) dX6_weight_62 ?_
        refine v_istore_n (pc := 63) dX6_weight_63 rfl (by decide) rfl ?_
        refine v_iinc (pc := 64) (v := nI (i + 1)) dX6_weight_64 rfl (nI_1 _) (by decide) rfl ?_
        refine v_goto (pc := 67) (tgt := 28) dX6_weight_67 (by decide) ?_
        refine v_sub ?_ (ih (i + 1) (by omega) _ (sum_x hq (if_pos ⟨by omega, c46, c54⟩)))
        exact ⟨rfl, rfl, rfl, rfl, rfl, rfl, trivial⟩
set_option maxRecDepth 100000 in
set_option maxHeartbeats 4000000 in
theorem c_X6_weight {G : Cx} {v xs bs : Nat → Nat} {hh : Nat} {T N S C O PC : Nat → Int32} {ps sc bc : Nat} {SF : Nat → Nat → Int32} {MX : Nat → Int32} {BF : Nat → Nat → Int32} {H D : Nat → Int32} (hps : ps ≤ 8) (hsc : sc ≤ 5) (hbc : bc ≤ 40) {s : Nat} (hs : s < sc) (hw : SF s 1 = sumN (wgF BF bc (nI s)) 40) : Mt G Y_X6_weight 0 0 0 [.ref (v 0), .int (nI s)] (SimM v xs bs hh T N S C O PC ps sc bc SF MX BF H D) (fun v' M' => v' = some (.int (slW SF s)) ∧ M' = SimM v xs bs hh T N S C O PC ps sc bc SF MX BF H D) noX := by
  refine Mt.of (L := [some (.ref (v 0)), some (.int (nI s)), none, none, none, none, none]) rfl (by decide) (by simp [lg_sl, Value.category]) ⟨rfl, rfl, trivial⟩ (fun sz => ?_)
  refine v_bipush (pc := 0) (v := 40) dX6_weight_0 rfl ?_
  refine v_bipush (pc := 2) (v := 30) dX6_weight_2 rfl ?_
  refine v_aload_nR (pc := 4) dX6_weight_4 rfl rfl ?_
  refine v_get (pc := 5) 7 0 fg_X6_31 rfl rfl dX6_weight_5 ?_
  refine v_iload_n (pc := 8) dX6_weight_8 rfl rfl ?_
  refine v_aaldS (pc := 9) 7 (k := s) (by decide) rfl (by omega) (by omega) dX6_weight_9 ?_
  refine v_getS (pc := 10) 0 11 fg_X6_68 rfl (by omega) (by decide) dX6_weight_10 ?_
  rw [smX_g0]
  refine v_imul (pc := 13) dX6_weight_13 ?_
  refine v_iadd (pc := 14) dX6_weight_14 ?_
  refine v_istore_n (pc := 15) dX6_weight_15 rfl (by decide) rfl ?_
  refine v_aload_nR (pc := 16) dX6_weight_16 rfl rfl ?_
  refine v_get (pc := 17) 8 0 fg_X6_36 rfl rfl dX6_weight_17 ?_
  refine v_astore_nR (pc := 20) dX6_weight_20 rfl (by decide) rfl ?_
  refine v_aload_nR (pc := 21) dX6_weight_21 rfl rfl ?_
  refine v_alen (pc := 22) 8 (v := nI bc) rfl (fun _ => rfl) rfl dX6_weight_22 ?_
  refine v_istore (pc := 23) dX6_weight_23 (by decide) rfl ?_
  refine v_iconst (pc := 25) (v := 0) dX6_weight_25 rfl ?_
  refine v_istore (pc := 26) dX6_weight_26 (by decide) rfl ?_
  rw [show slW SF s = 40 + 30 * SF s 0 + sumN (wgF BF bc (nI s)) 40 by unfold slW; rw [hw]]
  refine v_sub ?_ (lp_X6_weight hps hsc hbc (s := s) bc 0 (by omega) _ (Int32.add_zero _).symm)
  exact ⟨rfl, rfl, rfl, rfl, rfl, rfl, trivial⟩
set_option maxRecDepth 100000 in
set_option maxHeartbeats 4000000 in
theorem c_X6_needs {G : Cx} {v xs bs : Nat → Nat} {hh : Nat} {T N S C O PC : Nat → Int32} {ps sc bc : Nat} {SF : Nat → Nat → Int32} {MX : Nat → Int32} {BF : Nat → Nat → Int32} {H D : Nat → Int32} (hps : ps ≤ 8) (hsc : sc ≤ 5) (hbc : bc ≤ 40) {k : Nat} {x : Int32} (hk : k < 160) : Mt G Y_X6_needs 0 0 0 [.ref (v 0), .int (nI k), .int x] (SimM v xs bs hh T N S C O PC ps sc bc SF MX BF H D) (fun v' M' => v' = some (.int (ndC C k (8 + x / 12))) ∧ M' = SimM v xs bs hh T N S C O PC ps sc bc SF MX BF H D) noX := by
  refine Mt.of (L := [some (.ref (v 0)), some (.int (nI k)), some (.int x)]) rfl (by decide) (by simp [lg_sl, Value.category]) ⟨rfl, rfl, rfl, trivial⟩ (fun sz => ?_)
  refine v_aload_nR (pc := 0) dX6_needs_0 rfl rfl ?_
  refine v_get (pc := 1) 4 0 fg_X6_19 rfl rfl dX6_needs_1 ?_
  refine v_iload_n (pc := 4) dX6_needs_4 rfl rfl ?_
  refine v_zaldN (pc := 5) 4 (k := k) rfl (by omega) (by omega) dX6_needs_5 ?_
  refine v_if_eq (pc := 6) (tgt := 21) dX6_needs_6 (by decide) (fun c6 => ?_) (fun c6 => ?_)
  · refine v_bipush (pc := 21) (v := 8) dX6_needs_21 rfl ?_
    refine v_iload_n (pc := 23) dX6_needs_23 rfl rfl ?_
    refine v_bipush (pc := 24) (v := 12) dX6_needs_24 rfl ?_
    refine v_idiv (pc := 26) dX6_needs_26 (by decide) ?_
    refine v_iadd (pc := 27) dX6_needs_27 ?_
    refine v_iret (pc := 28) rfl rfl (Nat.le_of_ble_eq_true rfl) dX6_needs_28 ?_
    exact ⟨by rw [← ndC_s0 c6], rfl⟩
  · refine v_bipush (pc := 9) (v := 16) dX6_needs_9 rfl ?_
    refine v_iload_n (pc := 11) dX6_needs_11 rfl rfl ?_
    refine v_bipush (pc := 12) (v := 12) dX6_needs_12 rfl ?_
    refine v_idiv (pc := 14) dX6_needs_14 (by decide) ?_
    refine v_iconst (pc := 15) (v := 2) dX6_needs_15 rfl ?_
    refine v_imul (pc := 16) dX6_needs_16 ?_
    refine v_iadd (pc := 17) dX6_needs_17 ?_
    refine v_goto (pc := 18) (tgt := 28) dX6_needs_18 (by decide) ?_
    refine v_iret (pc := 28) rfl rfl (Nat.le_of_ble_eq_true rfl) dX6_needs_28 ?_
    exact ⟨by rw [ndC_s1 c6], rfl⟩
set_option maxRecDepth 100000 in
set_option maxHeartbeats 4000000 in
theorem c_X6_bears {G : Cx} {v xs bs : Nat → Nat} {hh : Nat} {T N S C O PC : Nat → Int32} {ps sc bc : Nat} {SF : Nat → Nat → Int32} {MX : Nat → Int32} {BF : Nat → Nat → Int32} {H D : Nat → Int32} (hps : ps ≤ 8) (hsc : sc ≤ 5) (hbc : bc ≤ 40) {k : Nat} {x : Int32} (hk : k < 160) : Mt G Y_X6_bears 1 0 0 [.ref (v 0), .int (nI k), .int x] (SimM v xs bs hh T N S C O PC ps sc bc SF MX BF H D) (fun v' M' => v' = some (.int (bI (hoB T C k (8 + x / 12) = true))) ∧ M' = SimM v xs bs hh T N S C O PC ps sc bc SF MX BF H D) noX := by
  refine Mt.of (L := [some (.ref (v 0)), some (.int (nI k)), some (.int x)]) rfl (by decide) (by simp [lg_sl, Value.category]) ⟨rfl, rfl, rfl, trivial⟩ (fun sz => ?_)
  refine v_aload_nR (pc := 0) dX6_bears_0 rfl rfl ?_
  refine v_get (pc := 1) 1 0 fg_X6_7 rfl rfl dX6_bears_1 ?_
  refine v_iload_n (pc := 4) dX6_bears_4 rfl rfl ?_
  refine v_ialdN (pc := 5) 1 (k := k) rfl (by omega) (by omega) dX6_bears_5 ?_
  refine v_if_lt (pc := 6) (tgt := 24) dX6_bears_6 (by decide) (fun c6 => ?_) (fun c6 => ?_)
  · refine v_iconst (pc := 24) (v := 1) dX6_bears_24 rfl ?_
    refine v_goto (pc := 25) (tgt := 29) dX6_bears_25 (by decide) ?_
    refine v_iret (pc := 29) rfl rfl (Nat.le_of_ble_eq_true rfl) dX6_bears_29 ?_
    exact ⟨by rw [bI_t (hoB_iff.mpr (Or.inl c6))], rfl⟩
  · refine v_aload_nR (pc := 9) dX6_bears_9 rfl rfl ?_
    refine v_get (pc := 10) 1 0 fg_X6_7 rfl rfl dX6_bears_10 ?_
    refine v_iload_n (pc := 13) dX6_bears_13 rfl rfl ?_
    refine v_ialdN (pc := 14) 1 (k := k) rfl (by omega) (by omega) dX6_bears_14 ?_
    refine v_aload_nR (pc := 15) dX6_bears_15 rfl rfl ?_
    refine v_iload_n (pc := 16) dX6_bears_16 rfl rfl ?_
    refine v_iload_n (pc := 17) dX6_bears_17 rfl rfl ?_
    refine v_callV2 (pc := 18) (c_X6_needs hps hsc hbc (by omega)) cm_X6_needs q602 q603 q604 (ci := 6) rfl rfl (orcO 0 rfl) [0, 1, 2, 3, 4, 5, 6, 7, 8, 9, 10, 11, 12] (by rfl) (by decide) (fun _ _ h => h) (by decide) (by decide) (by decide) (Nat.le_of_ble_eq_true rfl) dX6_bears_18 (fun v18 M18 hQ18 => ?_)
    obtain ⟨rfl, rfl⟩ := hQ18
    try dsimp only [wb, SimM, List.set_cons_succ, List.set_cons_zero, List.append_nil, List.nil_append, List.cons_append, Option.toList, Nat.sub_zero]
    refine v_icmp_lt (pc := 21) (tgt := 28) dX6_bears_21 (by decide) (fun c21 => ?_) (fun c21 => ?_)
    · refine v_iconst (pc := 28) (v := 0) dX6_bears_28 rfl ?_
      refine v_iret (pc := 29) rfl rfl (Nat.le_of_ble_eq_true rfl) dX6_bears_29 ?_
      exact ⟨by rw [bI_f (fun h => (hoB_iff.mp h).elim (fun q => c6 q) (fun q => absurd c21 (Int32.not_lt.mpr q)))], rfl⟩
    · refine v_iconst (pc := 24) (v := 1) dX6_bears_24 rfl ?_
      refine v_goto (pc := 25) (tgt := 29) dX6_bears_25 (by decide) ?_
      refine v_iret (pc := 29) rfl rfl (Nat.le_of_ble_eq_true rfl) dX6_bears_29 ?_
      exact ⟨by rw [bI_t (hoB_iff.mpr (Or.inr (Int32.not_lt.mp c21)))], rfl⟩
set_option maxRecDepth 100000 in
set_option maxHeartbeats 4000000 in
theorem c_X6_pace {G : Cx} {v xs bs : Nat → Nat} {hh : Nat} {T N S C O PC : Nat → Int32} {ps sc bc : Nat} {SF : Nat → Nat → Int32} {MX : Nat → Int32} {BF : Nat → Nat → Int32} {H D : Nat → Int32} (hps : ps ≤ 8) (hsc : sc ≤ 5) (hbc : bc ≤ 40) {k : Nat} {x r t : Int32} (hk : k < 160) (hr : 1 ≤ r.toInt ∧ r.toInt ≤ 6) : Mt G Y_X6_pace 0 0 0 [.ref (v 0), .int (nI k), .int x, .int r, .int t] (SimM v xs bs hh T N S C O PC ps sc bc SF MX BF H D) (fun v' M' => v' = some (.int (N k + x / (60 * r) + (if 50 ≤ t then 1 else 0))) ∧ M' = SimM v xs bs hh T N S C O PC ps sc bc SF MX BF H D) noX := by
  refine Mt.of (L := [some (.ref (v 0)), some (.int (nI k)), some (.int x), some (.int r), some (.int t)]) rfl (by decide) (by simp [lg_sl, Value.category]) ⟨rfl, rfl, rfl, rfl, rfl, trivial⟩ (fun sz => ?_)
  refine v_aload_nR (pc := 0) dX6_pace_0 rfl rfl ?_
  refine v_get (pc := 1) 2 0 fg_X6_13 rfl rfl dX6_pace_1 ?_
  refine v_iload_n (pc := 4) dX6_pace_4 rfl rfl ?_
  refine v_ialdN (pc := 5) 2 (k := k) rfl (by omega) (by omega) dX6_pace_5 ?_
  refine v_iload_n (pc := 6) dX6_pace_6 rfl rfl ?_
  refine v_bipush (pc := 7) (v := 60) dX6_pace_7 rfl ?_
  refine v_iload_n (pc := 9) dX6_pace_9 rfl rfl ?_
  refine v_imul (pc := 10) dX6_pace_10 ?_
  refine v_idiv (pc := 11) dX6_pace_11 (r60 hr) ?_
  refine v_iadd (pc := 12) dX6_pace_12 ?_
  refine v_iload (pc := 13) dX6_pace_13 rfl ?_
  refine v_bipush (pc := 15) (v := 50) dX6_pace_15 rfl ?_
  refine v_icmp_ge (pc := 17) (tgt := 24) dX6_pace_17 (by decide) (fun c17 => ?_) (fun c17 => ?_)
  · refine v_iconst (pc := 24) (v := 1) dX6_pace_24 rfl ?_
    refine v_iadd (pc := 25) dX6_pace_25 ?_
    refine v_iret (pc := 26) rfl rfl (Nat.le_of_ble_eq_true rfl) dX6_pace_26 ?_
    exact ⟨by rw [if_pos c17], rfl⟩
  · refine v_iconst (pc := 20) (v := 0) dX6_pace_20 rfl ?_
    refine v_goto (pc := 21) (tgt := 25) dX6_pace_21 (by decide) ?_
    refine v_iadd (pc := 25) dX6_pace_25 ?_
    refine v_iret (pc := 26) rfl rfl (Nat.le_of_ble_eq_true rfl) dX6_pace_26 ?_
    exact ⟨by rw [if_neg c17], rfl⟩
