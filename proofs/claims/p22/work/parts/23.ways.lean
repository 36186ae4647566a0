/-! the search for ways: exact functions of what the class keeps -/
abbrev QS := (Nat → Int32) × (Nat → Int32) × (Nat → Int32) × Int32
abbrev WaysM (w : Nat → Nat) (s : QS) (lr : Value) (nd dg : Int32) (T N S C B O : Nat → Int32) (ch : Int32) : List ME := [eO 3 (w 1) [.ref (w 2), .ref (w 3), .ref (w 4), .int s.2.2.2, lr, .int nd, .int dg], eI (w 2) 160 s.1, eI (w 3) 64 s.2.1, eI (w 4) 160 s.2.2.1, eO 1 (w 5) [.ref (w 6), .ref (w 7), .ref (w 8), .ref (w 9), .ref (w 10), .ref (w 11), .int ch], eI (w 6) 160 T, eI (w 7) 160 N, eI (w 8) 160 S, eZ (w 9) 160 C, eZ (w 10) 160 B, eI (w 11) 8 O]
def cN (x : Int32) : Nat := x.toInt.toNat
theorem cN_nI {k : Nat} (h : k < 2 ^ 31) : cN (nI k) = k := by
  unfold cN; rw [show (nI k).toInt = (k : Int) from nI_toInt h]; exact Int.toNat_natCast k
theorem cN_of {x : Int32} (h : 0 ≤ x ∧ x < 160) : x = nI (cN x) ∧ cN x < 160 := by
  obtain ⟨k, hk, rfl⟩ := nI_of (Int32.not_lt.mpr h.1)
  have e := cN_nI (k := k) (by simpa using hk)
  rw [e]
  refine ⟨rfl, ?_⟩
  have h2 := h.2
  rw [Int32.lt_iff_toInt_lt, nI_toInt (by simpa using hk)] at h2
  have : (160 : Int32).toInt = 160 := by decide
  omega
def qx (x : Int32) : Nat := x.toBitVec.toNat % 64
theorem qx_lt (x : Int32) : qx x < 64 := Nat.mod_lt _ (by decide)
theorem and63 (x : Int32) : x &&& 63 = nI (qx x) := by
  have h4 : qx x < 64 := qx_lt x
  have h1 : (x &&& 63).toBitVec.toNat = qx x := by
    have h2 : (x &&& 63).toBitVec = x.toBitVec &&& 63#32 := rfl
    rw [h2, BitVec.toNat_and]
    show x.toBitVec.toNat &&& (2 ^ 6 - 1) = qx x
    rw [Nat.and_two_pow_sub_one_eq_mod]; rfl
  have h3 : (x &&& 63).toInt = (qx x : Int) := by
    show (x &&& 63).toBitVec.toInt = _
    rw [BitVec.toInt_eq_toNat_of_lt (by rw [h1]; omega), h1]
  exact Int32.toInt_inj.mp (by rw [h3, nI_toInt (by omega)])
def rc (H : Nat → Bool) (N : Nat → Int32) (dg h : Int32) : Option Nat → QS → QS
  | none, s => s
  | some j, s => if s.1 j = -1 then (if H j = true then (upd s.1 j h, upd s.2.1 (qx (h + N j + dg)) (nI j), upd s.2.2.1 j (s.2.1 (qx (h + N j + dg))), s.2.2.2 + 1) else (upd s.1 j h, s.2)) else s
theorem rc_old {H : Nat → Bool} {N : Nat → Int32} {dg h : Int32} {j : Nat} {s : QS} (h1 : ¬ s.1 j = -1) : rc H N dg h (some j) s = s := if_neg h1
theorem rc_dry {H : Nat → Bool} {N : Nat → Int32} {dg h : Int32} {j : Nat} {s : QS} (h1 : s.1 j = -1) (h2 : ¬ H j = true) : rc H N dg h (some j) s = (upd s.1 j h, s.2) := by
  show (if s.1 j = -1 then (if H j = true then _ else _) else s) = _
  rw [if_pos h1, if_neg h2]
theorem rc_new {H : Nat → Bool} {N : Nat → Int32} {dg h : Int32} {j : Nat} {s : QS} (h1 : s.1 j = -1) (h2 : H j = true) : rc H N dg h (some j) s = (upd s.1 j h, upd s.2.1 (qx (h + N j + dg)) (nI j), upd s.2.2.1 j (s.2.1 (qx (h + N j + dg))), s.2.2.2 + 1) := by
  show (if s.1 j = -1 then (if H j = true then _ else _) else s) = _
  rw [if_pos h1, if_pos h2]
def sp4 (H : Nat → Bool) (N : Nat → Int32) (dg h : Int32) (k : Nat) : Nat → QS → QS
  | 0, s => s
  | n + 1, s => rc H N dg h (nbr k n) (sp4 H N dg h k n s)
def spl (H : Nat → Bool) (N : Nat → Int32) (dg h : Int32) : Nat → Int32 → QS → QS
  | 0, _, s => s
  | m + 1, c, s => if 0 ≤ c ∧ c < 160 then spl H N dg h m ((sp4 H N dg h (cN c) 4 (s.1, s.2.1, s.2.2.1, s.2.2.2 - 1)).2.2.1 (cN c)) (sp4 H N dg h (cN c) 4 (s.1, s.2.1, s.2.2.1, s.2.2.2 - 1)) else s
def spr (H : Nat → Bool) (N : Nat → Int32) (dg h : Int32) (s : QS) : QS := spl H N dg h 160 (s.2.1 (qx h)) (s.1, upd s.2.1 (qx h) (-1), s.2.2.1, s.2.2.2)
def lok (H : Nat → Bool) (N : Nat → Int32) (dg : Int32) (k : Nat) : Nat → Nat → QS → QS
  | 0, _, s => s
  | m + 1, t, s => if 0 < s.2.2.2 ∧ s.1 k = -1 then lok H N dg k m (t + 1) (spr H N dg (nI t) s) else s
def lkq (H : Nat → Bool) (N : Nat → Int32) (dg : Int32) (k : Nat) (o : Option Nat) (F : Nat → Int32) : QS := lok H N dg k 10240 0 (rc H N dg 0 o (fun _ => -1, fun _ => -1, F, 0))
def ffr (H : Nat → Bool) (N : Nat → Int32) (dg : Int32) (a : Nat → Int32) (k : Nat) : Nat → Nat → Option Nat
  | 0, _ => none
  | m + 1, i => match nbr k i with
    | some j => if ¬ a j = -1 ∧ H j = true ∧ a j + N j + dg = a k then some j else ffr H N dg a k m (i + 1)
    | none => ffr H N dg a k m (i + 1)
def ffq (H : Nat → Bool) (N : Nat → Int32) (dg : Int32) (a : Nat → Int32) (k : Nat) : Option Nat := if a k = -1 then none else ffr H N dg a k 4 0
theorem ffr_lt {H : Nat → Bool} {N : Nat → Int32} {dg : Int32} {a : Nat → Int32} {k j : Nat} (hk : k < 160) : ∀ m i, ffr H N dg a k m i = some j → j < 160
  | 0, _, h => by cases h
  | m + 1, i, h => by
    unfold ffr at h
    cases hn : nbr k i with
    | none => rw [hn] at h; exact ffr_lt hk m (i + 1) h
    | some j2 =>
      rw [hn] at h
      dsimp only at h
      split at h
      · cases h; exact nbr_lt hk hn
      · exact ffr_lt hk m (i + 1) h
theorem ffq_lt {H : Nat → Bool} {N : Nat → Int32} {dg : Int32} {a : Nat → Int32} {k j : Nat} (hk : k < 160) (h : ffq H N dg a k = some j) : j < 160 := by
  unfold ffq at h
  split at h
  · cases h
  · exact ffr_lt hk 4 0 h
set_option maxRecDepth 100000 in
set_option maxHeartbeats 4000000 in
theorem c_X3_reach {G : Cx} {w : Nat → Nat} {a b f : Nat → Int32} {wa : Int32} {T N S C B O : Nat → Int32} {ch nd dg : Int32} {o : Option Nat} (ho : ∀ j, o = some j → j < 160) {h : Int32} : Mt G Y_X3_reach 1 0 0 [.ref (w 1), .int (oI o), .int h] (WaysM w (a, b, f, wa) (.ref (w 5)) nd dg T N S C B O ch) (fun v M' => v = none ∧ M' = WaysM w (rc (fun k => hoB T C k nd) N dg h o (a, b, f, wa)) (.ref (w 5)) nd dg T N S C B O ch) noX := by
  refine Mt.of (L := [some (.ref (w 1)), some (.int (oI o)), some (.int h), none]) rfl (by decide) (by simp [lg_sl, Value.category]) ⟨rfl, rfl, rfl, trivial⟩ (fun sz => ?_)
  rcases o with _ | j
  · refine v_iload_n (pc := 0) dX3_reach_0 rfl rfl ?_
    refine v_callSN1 (pc := 1) (c_X5_isCell ) cm_X5_isCell q496 q297 [] (by rfl) (by decide) (fun _ _ h => h) (by decide) (by decide) (by decide) (Nat.le_of_ble_eq_true rfl) dX3_reach_1 (fun v1 M1 hQ1 => ?_)
    obtain ⟨rfl, rfl⟩ := hQ1
    try dsimp only [wb, LakeM, WaysM, List.set_cons_succ, List.set_cons_zero, List.append_nil, List.nil_append, List.cons_append, Option.toList, Nat.sub_zero]
    refine v_if_eq (pc := 4) (tgt := 24) dX3_reach_4 (by decide) (fun c4 => ?_) (fun c4 => absurd (bI_n.mp c4) (by decide))
    have c4 := bI_0.mp c4
    refine v_vret (pc := 24) rfl (Nat.le_of_ble_eq_true rfl) dX3_reach_24 ?_
    exact ⟨rfl, rfl⟩
  · have hk : j < 160 := ho j rfl
    have hq := qx_lt (h + N j + dg)
    refine v_iload_n (pc := 0) dX3_reach_0 rfl rfl ?_
    refine v_callSN1 (pc := 1) (c_X5_isCell ) cm_X5_isCell q496 q297 [] (by rfl) (by decide) (fun _ _ h => h) (by decide) (by decide) (by decide) (Nat.le_of_ble_eq_true rfl) dX3_reach_1 (fun v1 M1 hQ1 => ?_)
    obtain ⟨rfl, rfl⟩ := hQ1
    try dsimp only [wb, LakeM, WaysM, List.set_cons_succ, List.set_cons_zero, List.append_nil, List.nil_append, List.cons_append, Option.toList, Nat.sub_zero]
    refine v_if_eq (pc := 4) (tgt := 24) dX3_reach_4 (by decide) (fun c4 => absurd (isCell_k hk) (bI_0.mp c4)) (fun c4 => ?_)
    have c4 := bI_n.mp c4
    refine v_aload_nR (pc := 7) dX3_reach_7 rfl rfl ?_
    refine v_get (pc := 8) 0 0 fg_X3_9 rfl rfl dX3_reach_8 ?_
    refine v_iload_n (pc := 11) dX3_reach_11 rfl rfl ?_
    refine v_ialdN (pc := 12) 1 (k := j) rfl (by omega) (by decide) dX3_reach_12 ?_
    refine v_iconst (pc := 13) (v := -1) dX3_reach_13 rfl ?_
    refine v_icmp_ne (pc := 14) (tgt := 24) dX3_reach_14 (by decide) (fun c14 => ?_) (fun c14 => ?_)
    · refine v_vret (pc := 24) rfl (Nat.le_of_ble_eq_true rfl) dX3_reach_24 ?_
      exact ⟨rfl, by rw [rc_old c14]⟩
    · refine v_aload_nR (pc := 17) dX3_reach_17 rfl rfl ?_
      refine v_get (pc := 18) 4 0 fg_X3_21 rfl rfl dX3_reach_18 ?_
      refine v_ifnonnullR (pc := 21) (tgt := 25) dX3_reach_21 (by decide) ?_
      refine v_aload_nR (pc := 25) dX3_reach_25 rfl rfl ?_
      refine v_get (pc := 26) 0 0 fg_X3_9 rfl rfl dX3_reach_26 ?_
      refine v_iload_n (pc := 29) dX3_reach_29 rfl rfl ?_
      refine v_iload_n (pc := 30) dX3_reach_30 rfl rfl ?_
      refine v_iastN (pc := 31) 1 (k := j) rfl (by omega) (by decide) dX3_reach_31 ?_
      try dsimp only [wb, LakeM, WaysM, List.set_cons_succ, List.set_cons_zero, List.append_nil, List.nil_append, List.cons_append, Option.toList, Nat.sub_zero]
      refine v_aload_nR (pc := 32) dX3_reach_32 rfl rfl ?_
      refine v_get (pc := 33) 4 0 fg_X3_21 rfl rfl dX3_reach_33 ?_
      refine v_iload_n (pc := 36) dX3_reach_36 rfl rfl ?_
      refine v_aload_nR (pc := 37) dX3_reach_37 rfl rfl ?_
      refine v_get (pc := 38) 5 0 fg_X3_25 rfl rfl dX3_reach_38 ?_
      refine v_callV2 (pc := 41) (c_X1_holds hk) cm_X1_holds q497 q428 q429 (ci := 1) rfl rfl (orcO 4 rfl) [4, 5, 6, 7, 8, 9, 10] (by rfl) (by decide) (fun _ _ h => h) (by decide) (by decide) (by decide) (Nat.le_of_ble_eq_true rfl) dX3_reach_41 (fun v41 M41 hQ41 => ?_)
      obtain ⟨rfl, rfl⟩ := hQ41
      try dsimp only [wb, LakeM, WaysM, List.set_cons_succ, List.set_cons_zero, List.append_nil, List.nil_append, List.cons_append, Option.toList, Nat.sub_zero]
      refine v_if_eq (pc := 44) (tgt := 95) dX3_reach_44 (by decide) (fun c44 => ?_) (fun c44 => ?_)
      · have c44 := bI_0.mp c44
        refine v_vret (pc := 95) rfl (Nat.le_of_ble_eq_true rfl) dX3_reach_95 ?_
        exact ⟨rfl, by rw [rc_dry c14 c44]⟩
      · have c44 := bI_n.mp c44
        refine v_iload_n (pc := 47) dX3_reach_47 rfl rfl ?_
        refine v_aload_nR (pc := 48) dX3_reach_48 rfl rfl ?_
        refine v_get (pc := 49) 4 0 fg_X3_21 rfl rfl dX3_reach_49 ?_
        refine v_iload_n (pc := 52) dX3_reach_52 rfl rfl ?_
        refine v_callV1 (pc := 53) (c_X1_snowOf hk) cm_X1_snowOf q498 q300 q301 (ci := 1) rfl rfl (orcO 4 rfl) [4, 5, 6, 7, 8, 9, 10] (by rfl) (by decide) (fun _ _ h => h) (by decide) (by decide) (by decide) (Nat.le_of_ble_eq_true rfl) dX3_reach_53 (fun v53 M53 hQ53 => ?_)
        obtain ⟨rfl, rfl⟩ := hQ53
        try dsimp only [wb, LakeM, WaysM, List.set_cons_succ, List.set_cons_zero, List.append_nil, List.nil_append, List.cons_append, Option.toList, Nat.sub_zero]
        refine v_iadd (pc := 56) dX3_reach_56 ?_
        refine v_aload_nR (pc := 57) dX3_reach_57 rfl rfl ?_
        refine v_get (pc := 58) 6 0 fg_X3_29 rfl rfl dX3_reach_58 ?_
        refine v_iadd (pc := 61) dX3_reach_61 ?_
        refine v_bipush (pc := 62) (v := 63) dX3_reach_62 rfl ?_
        refine v_iand (pc := 64) dX3_reach_64 ?_
        rw [and63]
        refine v_istore_n (pc := 65) dX3_reach_65 rfl (by decide) rfl ?_
        refine v_aload_nR (pc := 66) dX3_reach_66 rfl rfl ?_
        refine v_get (pc := 67) 2 0 fg_X3_18 rfl rfl dX3_reach_67 ?_
        refine v_iload_n (pc := 70) dX3_reach_70 rfl rfl ?_
        refine v_aload_nR (pc := 71) dX3_reach_71 rfl rfl ?_
        refine v_get (pc := 72) 1 0 fg_X3_15 rfl rfl dX3_reach_72 ?_
        refine v_iload_n (pc := 75) dX3_reach_75 rfl rfl ?_
        refine v_ialdN (pc := 76) 2 (k := (qx (h + N j + dg))) rfl (by omega) (by decide) dX3_reach_76 ?_
        refine v_iastN (pc := 77) 3 (k := j) rfl (by omega) (by decide) dX3_reach_77 ?_
        try dsimp only [wb, LakeM, WaysM, List.set_cons_succ, List.set_cons_zero, List.append_nil, List.nil_append, List.cons_append, Option.toList, Nat.sub_zero]
        refine v_aload_nR (pc := 78) dX3_reach_78 rfl rfl ?_
        refine v_get (pc := 79) 1 0 fg_X3_15 rfl rfl dX3_reach_79 ?_
        refine v_iload_n (pc := 82) dX3_reach_82 rfl rfl ?_
        refine v_iload_n (pc := 83) dX3_reach_83 rfl rfl ?_
        refine v_iastN (pc := 84) 2 (k := (qx (h + N j + dg))) rfl (by omega) (by decide) dX3_reach_84 ?_
        try dsimp only [wb, LakeM, WaysM, List.set_cons_succ, List.set_cons_zero, List.append_nil, List.nil_append, List.cons_append, Option.toList, Nat.sub_zero]
        refine v_aload_nR (pc := 85) dX3_reach_85 rfl rfl ?_
        refine v_dup (pc := 86) dX3_reach_86 rfl ?_
        refine v_get (pc := 87) 3 0 fg_X3_32 rfl rfl dX3_reach_87 ?_
        refine v_iconst (pc := 90) (v := 1) dX3_reach_90 rfl ?_
        refine v_iadd (pc := 91) dX3_reach_91 ?_
        refine v_put (pc := 92) 3 0 fp_X3_reach_32 rfl rfl rfl (Nat.le_of_ble_eq_true rfl) dX3_reach_92 ?_
        try dsimp only [wb, LakeM, WaysM, List.set_cons_succ, List.set_cons_zero, List.append_nil, List.nil_append, List.cons_append, Option.toList, Nat.sub_zero]
        refine v_vret (pc := 95) rfl (Nat.le_of_ble_eq_true rfl) dX3_reach_95 ?_
        exact ⟨rfl, by rw [rc_new c14 c44]; rfl⟩
set_option maxRecDepth 100000 in
set_option maxHeartbeats 4000000 in
theorem lp_X3_side {G : Cx} {w : Nat → Nat} {s : QS} {T N S C B O : Nat → Int32} {ch nd dg : Int32} {Z : ZT} {h i0 : Int32} {c : Nat} (hc : c < 160) (K : V G Y_X3_spread Z 2 0 0 73 [some (.ref (w 1)), some (.int h), none, some (.int (nI c)), some (.int i0), none] [] (WaysM w (sp4 (fun k => hoB T C k nd) N dg h c 4 s) (.ref (w 5)) nd dg T N S C B O ch)) : ∀ (m i : Nat), m + i = 4 → V G Y_X3_spread Z 2 0 0 50 [some (.ref (w 1)), some (.int h), none, some (.int (nI c)), some (.int i0), some (.int (nI i))] [] (WaysM w (sp4 (fun k => hoB T C k nd) N dg h c i s) (.ref (w 5)) nd dg T N S C B O ch) := by
  intro m
  induction m with
  | zero =>
    intro i hi
    obtain rfl : i = 4 := by omega
    refine v_iload (pc := 50) dX3_spread_50 rfl ?_
    refine v_iconst (pc := 52) (v := 4) dX3_spread_52 rfl ?_
    refine v_icmp_ge (pc := 53) (tgt := 73) dX3_spread_53 (by decide) (fun c53 => ?_) (fun c53 => absurd (nI_le (a := 4) (b := 4) (Nat.le_refl _) (by decide)) c53)
    have c53 : 4 ≤ 4 := (nI_leI (a := 4) (b := 4) (by omega) (by omega)).mp c53
    refine v_sub ?_ K
    exact ⟨rfl, rfl, rfl, rfl, trivial⟩
  | succ m ih =>
    intro i hi
    refine v_iload (pc := 50) dX3_spread_50 rfl ?_
    refine v_iconst (pc := 52) (v := 4) dX3_spread_52 rfl ?_
    refine v_icmp_ge (pc := 53) (tgt := 73) dX3_spread_53 (by decide) (fun c53 => absurd c53 (nI_ge (a := i) (b := 4) (by omega) (by decide))) (fun c53 => ?_)
    have c53 : ¬ 4 ≤ i := fun h => c53 ((nI_leI (a := 4) (b := i) (by omega) (by omega)).mpr h)
    refine v_aload_nR (pc := 56) dX3_spread_56 rfl rfl ?_
    refine v_iload_n (pc := 57) dX3_spread_57 rfl rfl ?_
    refine v_iload (pc := 58) dX3_spread_58 rfl ?_
    refine v_callSN2 (pc := 60) (c_X5_beside hc (by omega)) cm_X5_beside q503 q421 [] (by rfl) (by decide) (fun _ _ h => h) (by decide) (by decide) (by decide) (Nat.le_of_ble_eq_true rfl) dX3_spread_60 (fun v60 M60 hQ60 => ?_)
    obtain ⟨rfl, rfl⟩ := hQ60
    try dsimp only [wb, LakeM, WaysM, List.set_cons_succ, List.set_cons_zero, List.append_nil, List.nil_append, List.cons_append, Option.toList, Nat.sub_zero]
    refine v_iload_n (pc := 63) dX3_spread_63 rfl rfl ?_
    refine v_callV2 (pc := 64) (c_X3_reach (fun j hj => nbr_lt hc hj)) cm_X3_reach q492 q494 qs10 (ci := 3) rfl rfl (orcO 0 rfl) [0, 1, 2, 3, 4, 5, 6, 7, 8, 9, 10] (by rfl) (by decide) (fun _ _ h => h) (by decide) (by decide) (by decide) (Nat.le_of_ble_eq_true rfl) dX3_spread_64 (fun v64 M64 hQ64 => ?_)
    obtain ⟨rfl, rfl⟩ := hQ64
    try dsimp only [wb, LakeM, WaysM, List.set_cons_succ, List.set_cons_zero, List.append_nil, List.nil_append, List.cons_append, Option.toList, Nat.sub_zero]
    refine v_iinc (pc := 67) (v := nI (i + 1)) dX3_spread_67 rfl (nI_1 _) (by decide) rfl ?_
    refine v_goto (pc := 70) (tgt := 50) dX3_spread_70 (by decide) ?_
    exact ih (i + 1) (by omega)
set_option maxRecDepth 100000 in
set_option maxHeartbeats 4000000 in
theorem lp_X3_queue {G : Cx} {w : Nat → Nat} {T N S C B O : Nat → Int32} {ch nd dg : Int32} {sz : Nat} {h : Int32} : ∀ (m i : Nat), m + i = 160 → ∀ (c : Int32) (s0 s r : QS), spl (fun k => hoB T C k nd) N dg h m c s = r → V G Y_X3_spread (ZM G (WaysM w s0 (.ref (w 5)) nd dg T N S C B O ch) sz (fun v M' => v = none ∧ M' = WaysM w r (.ref (w 5)) nd dg T N S C B O ch) noX) 2 0 0 22 [some (.ref (w 1)), some (.int h), none, some (.int c), some (.int (nI i)), none] [] (WaysM w s (.ref (w 5)) nd dg T N S C B O ch) := by
  intro m
  induction m with
  | zero =>
    intro i hi
    obtain rfl : i = 160 := by omega
    intro c s0 s r hr
    obtain rfl : s = r := hr
    refine v_iload (pc := 22) dX3_spread_22 rfl ?_
    refine v_sipush (pc := 24) (v := 160) dX3_spread_24 rfl ?_
    refine v_icmp_ge (pc := 27) (tgt := 86) dX3_spread_27 (by decide) (fun c27 => ?_) (fun c27 => absurd (nI_le (a := 160) (b := 160) (Nat.le_refl _) (by decide)) c27)
    have c27 : 160 ≤ 160 := (nI_leI (a := 160) (b := 160) (by omega) (by omega)).mp c27
    refine v_vret (pc := 86) rfl (Nat.le_of_ble_eq_true rfl) dX3_spread_86 ?_
    exact ⟨rfl, rfl⟩
  | succ m ih =>
    intro i hi
    intro c s0 s r hr
    refine v_iload (pc := 22) dX3_spread_22 rfl ?_
    refine v_sipush (pc := 24) (v := 160) dX3_spread_24 rfl ?_
    refine v_icmp_ge (pc := 27) (tgt := 86) dX3_spread_27 (by decide) (fun c27 => absurd c27 (nI_ge (a := i) (b := 160) (by omega) (by decide))) (fun c27 => ?_)
    have c27 : ¬ 160 ≤ i := fun h => c27 ((nI_leI (a := 160) (b := i) (by omega) (by omega)).mpr h)
    refine v_iload_n (pc := 30) dX3_spread_30 rfl rfl ?_
    refine v_callSN1 (pc := 31) (c_X5_isCell ) cm_X5_isCell q496 q297 [] (by rfl) (by decide) (fun _ _ h => h) (by decide) (by decide) (by decide) (Nat.le_of_ble_eq_true rfl) dX3_spread_31 (fun v31 M31 hQ31 => ?_)
    obtain ⟨rfl, rfl⟩ := hQ31
    try dsimp only [wb, LakeM, WaysM, List.set_cons_succ, List.set_cons_zero, List.append_nil, List.nil_append, List.cons_append, Option.toList, Nat.sub_zero]
    refine v_if_eq (pc := 34) (tgt := 86) dX3_spread_34 (by decide) (fun c34 => ?_) (fun c34 => ?_)
    · have c34 := bI_0.mp c34
      refine v_vret (pc := 86) rfl (Nat.le_of_ble_eq_true rfl) dX3_spread_86 ?_
      unfold spl at hr
      rw [if_neg c34] at hr
      exact ⟨rfl, by rw [← hr]⟩
    · have c34 := bI_n.mp c34
      have hx := cN_of c34
      rw [hx.1]
      have hc := hx.2
      unfold spl at hr
      rw [if_pos c34] at hr
      refine v_aload_nR (pc := 37) dX3_spread_37 rfl rfl ?_
      refine v_dup (pc := 38) dX3_spread_38 rfl ?_
      refine v_get (pc := 39) 3 0 fg_X3_32 rfl rfl dX3_spread_39 ?_
      refine v_iconst (pc := 42) (v := 1) dX3_spread_42 rfl ?_
      refine v_isub (pc := 43) dX3_spread_43 ?_
      refine v_put (pc := 44) 3 0 fp_X3_spread_32 rfl rfl rfl (Nat.le_of_ble_eq_true rfl) dX3_spread_44 ?_
      try dsimp only [wb, LakeM, WaysM, List.set_cons_succ, List.set_cons_zero, List.append_nil, List.nil_append, List.cons_append, Option.toList, Nat.sub_zero]
      refine v_iconst (pc := 47) (v := 0) dX3_spread_47 rfl ?_
      refine v_istore (pc := 48) dX3_spread_48 (by decide) rfl ?_
      refine v_sub (L' := [some (.ref (w 1)), some (.int h), none, some (.int (nI (cN c))), some (.int (nI i)), some (.int (nI 0))]) ⟨rfl, rfl, rfl, rfl, rfl, trivial⟩ ?_
      refine lp_X3_side (s := (s.1, s.2.1, s.2.2.1, s.2.2.2 - 1)) hc ?_ 4 0 (by omega)
      refine v_aload_nR (pc := 73) dX3_spread_73 rfl rfl ?_
      refine v_get (pc := 74) 2 0 fg_X3_18 rfl rfl dX3_spread_74 ?_
      refine v_iload_n (pc := 77) dX3_spread_77 rfl rfl ?_
      refine v_ialdN (pc := 78) 3 (k := (cN c)) rfl (by omega) (by decide) dX3_spread_78 ?_
      refine v_istore_n (pc := 79) dX3_spread_79 rfl (by decide) rfl ?_
      refine v_iinc (pc := 80) (v := nI (i + 1)) dX3_spread_80 rfl (nI_1 _) (by decide) rfl ?_
      refine v_goto (pc := 83) (tgt := 22) dX3_spread_83 (by decide) ?_
      have k9 := ih (i + 1) (by omega) _ s0 _ r hr
      refine v_sub ?_ k9
      exact ⟨rfl, rfl, rfl, rfl, trivial⟩
set_option maxRecDepth 100000 in
set_option maxHeartbeats 4000000 in
theorem c_X3_spread {G : Cx} {w : Nat → Nat} {a b f : Nat → Int32} {wa : Int32} {T N S C B O : Nat → Int32} {ch nd dg : Int32} {h : Int32} : Mt G Y_X3_spread 2 0 0 [.ref (w 1), .int h] (WaysM w (a, b, f, wa) (.ref (w 5)) nd dg T N S C B O ch) (fun v M' => v = none ∧ M' = WaysM w (spr (fun k => hoB T C k nd) N dg h (a, b, f, wa)) (.ref (w 5)) nd dg T N S C B O ch) noX := by
  refine Mt.of (L := [some (.ref (w 1)), some (.int h), none, none, none, none]) rfl (by decide) (by simp [lg_sl, Value.category]) ⟨rfl, rfl, trivial⟩ (fun sz => ?_)
  have hq := qx_lt h
  refine v_iload_n (pc := 0) dX3_spread_0 rfl rfl ?_
  refine v_bipush (pc := 1) (v := 63) dX3_spread_1 rfl ?_
  refine v_iand (pc := 3) dX3_spread_3 ?_
  rw [and63]
  refine v_istore_n (pc := 4) dX3_spread_4 rfl (by decide) rfl ?_
  refine v_aload_nR (pc := 5) dX3_spread_5 rfl rfl ?_
  refine v_get (pc := 6) 1 0 fg_X3_15 rfl rfl dX3_spread_6 ?_
  refine v_iload_n (pc := 9) dX3_spread_9 rfl rfl ?_
  refine v_ialdN (pc := 10) 2 (k := (qx h)) rfl (by omega) (by decide) dX3_spread_10 ?_
  refine v_istore_n (pc := 11) dX3_spread_11 rfl (by decide) rfl ?_
  refine v_aload_nR (pc := 12) dX3_spread_12 rfl rfl ?_
  refine v_get (pc := 13) 1 0 fg_X3_15 rfl rfl dX3_spread_13 ?_
  refine v_iload_n (pc := 16) dX3_spread_16 rfl rfl ?_
  refine v_iconst (pc := 17) (v := -1) dX3_spread_17 rfl ?_
  refine v_iastN (pc := 18) 2 (k := (qx h)) rfl (by omega) (by decide) dX3_spread_18 ?_
  try dsimp only [wb, LakeM, WaysM, List.set_cons_succ, List.set_cons_zero, List.append_nil, List.nil_append, List.cons_append, Option.toList, Nat.sub_zero]
  refine v_iconst (pc := 19) (v := 0) dX3_spread_19 rfl ?_
  refine v_istore (pc := 20) dX3_spread_20 (by decide) rfl ?_
  have k9 := lp_X3_queue (G := G) (w := w) (T := T) (N := N) (S := S) (C := C) (B := B) (O := O) (ch := ch) (nd := nd) (dg := dg) (sz := sz) (h := h) 160 0 (by omega) (b (qx h)) (a, b, f, wa) (a, upd b (qx h) (-1), f, wa) _ rfl
  refine v_sub ?_ k9
  exact ⟨rfl, rfl, rfl, rfl, trivial⟩
set_option maxRecDepth 100000 in
set_option maxHeartbeats 4000000 in
theorem lp_X3_look {G : Cx} {w : Nat → Nat} {T N S C B O : Nat → Int32} {ch nd dg : Int32} {sz k : Nat} (hk : k < 160) {s0 : QS} {lr : Value} {nd0 dg0 : Int32} : ∀ (m i : Nat), m + i = 10240 → ∀ (s r : QS), lok (fun k => hoB T C k nd) N dg k m i s = r → V G Y_X3_look (ZM G (WaysM w s0 lr nd0 dg0 T N S C B O ch) sz (fun v M' => v = some (.int (r.1 k)) ∧ M' = WaysM w r (.ref (w 5)) nd dg T N S C B O ch) noX) 3 0 0 56 [some (.ref (w 1)), none, some (.int (nI k)), none, none, none, some (.int (nI i))] [] (WaysM w s (.ref (w 5)) nd dg T N S C B O ch) := by
  intro m
  induction m with
  | zero =>
    intro i hi
    obtain rfl : i = 10240 := by omega
    intro s r hr
    obtain rfl : s = r := hr
    refine v_iload (pc := 56) dX3_look_56 rfl ?_
    refine v_sipush (pc := 58) (v := 10240) dX3_look_58 rfl ?_
    refine v_icmp_ge (pc := 61) (tgt := 93) dX3_look_61 (by decide) (fun c61 => ?_) (fun c61 => absurd (nI_le (a := 10240) (b := 10240) (Nat.le_refl _) (by decide)) c61)
    have c61 : 10240 ≤ 10240 := (nI_leI (a := 10240) (b := 10240) (by omega) (by omega)).mp c61
    refine v_aload_nR (pc := 93) dX3_look_93 rfl rfl ?_
    refine v_get (pc := 94) 0 0 fg_X3_9 rfl rfl dX3_look_94 ?_
    refine v_iload_n (pc := 97) dX3_look_97 rfl rfl ?_
    refine v_ialdN (pc := 98) 1 (k := k) rfl (by omega) (by decide) dX3_look_98 ?_
    refine v_iret (pc := 99) rfl rfl (Nat.le_of_ble_eq_true rfl) dX3_look_99 ?_
    exact ⟨rfl, rfl⟩
  | succ m ih =>
    intro i hi
    intro s r hr
    unfold lok at hr
    refine v_iload (pc := 56) dX3_look_56 rfl ?_
    refine v_sipush (pc := 58) (v := 10240) dX3_look_58 rfl ?_
    refine v_icmp_ge (pc := 61) (tgt := 93) dX3_look_61 (by decide) (fun c61 => absurd c61 (nI_ge (a := i) (b := 10240) (by omega) (by decide))) (fun c61 => ?_)
    have c61 : ¬ 10240 ≤ i := fun h => c61 ((nI_leI (a := 10240) (b := i) (by omega) (by omega)).mpr h)
    refine v_aload_nR (pc := 64) dX3_look_64 rfl rfl ?_
    refine v_get (pc := 65) 3 0 fg_X3_32 rfl rfl dX3_look_65 ?_
    refine v_if_le (pc := 68) (tgt := 93) dX3_look_68 (by decide) (fun c68 => ?_) (fun c68 => ?_)
    · refine v_aload_nR (pc := 93) dX3_look_93 rfl rfl ?_
      refine v_get (pc := 94) 0 0 fg_X3_9 rfl rfl dX3_look_94 ?_
      refine v_iload_n (pc := 97) dX3_look_97 rfl rfl ?_
      refine v_ialdN (pc := 98) 1 (k := k) rfl (by omega) (by decide) dX3_look_98 ?_
      refine v_iret (pc := 99) rfl rfl (Nat.le_of_ble_eq_true rfl) dX3_look_99 ?_
      rw [if_neg (fun h => absurd h.1 (Int32.not_lt.mpr c68))] at hr
      exact ⟨by rw [← hr], by rw [← hr]⟩
    · refine v_aload_nR (pc := 71) dX3_look_71 rfl rfl ?_
      refine v_get (pc := 72) 0 0 fg_X3_9 rfl rfl dX3_look_72 ?_
      refine v_iload_n (pc := 75) dX3_look_75 rfl rfl ?_
      refine v_ialdN (pc := 76) 1 (k := k) rfl (by omega) (by decide) dX3_look_76 ?_
      refine v_iconst (pc := 77) (v := -1) dX3_look_77 rfl ?_
      refine v_icmp_ne (pc := 78) (tgt := 93) dX3_look_78 (by decide) (fun c78 => ?_) (fun c78 => ?_)
      · refine v_aload_nR (pc := 93) dX3_look_93 rfl rfl ?_
        refine v_get (pc := 94) 0 0 fg_X3_9 rfl rfl dX3_look_94 ?_
        refine v_iload_n (pc := 97) dX3_look_97 rfl rfl ?_
        refine v_ialdN (pc := 98) 1 (k := k) rfl (by omega) (by decide) dX3_look_98 ?_
        refine v_iret (pc := 99) rfl rfl (Nat.le_of_ble_eq_true rfl) dX3_look_99 ?_
        rw [if_neg (fun h => c78 h.2)] at hr
        exact ⟨by rw [← hr], by rw [← hr]⟩
      · refine v_aload_nR (pc := 81) dX3_look_81 rfl rfl ?_
        refine v_iload (pc := 82) dX3_look_82 rfl ?_
        refine v_callV1 (pc := 84) (c_X3_spread ) cm_X3_spread q499 q501 qs11 (ci := 3) rfl rfl (orcO 0 rfl) [0, 1, 2, 3, 4, 5, 6, 7, 8, 9, 10] (by rfl) (by decide) (fun _ _ h => h) (by decide) (by decide) (by decide) (Nat.le_of_ble_eq_true rfl) dX3_look_84 (fun v84 M84 hQ84 => ?_)
        obtain ⟨rfl, rfl⟩ := hQ84
        try dsimp only [wb, LakeM, WaysM, List.set_cons_succ, List.set_cons_zero, List.append_nil, List.nil_append, List.cons_append, Option.toList, Nat.sub_zero]
        refine v_iinc (pc := 87) (v := nI (i + 1)) dX3_look_87 rfl (nI_1 _) (by decide) rfl ?_
        refine v_goto (pc := 90) (tgt := 56) dX3_look_90 (by decide) ?_
        rw [if_pos ⟨Int32.not_le.mp c68, c78⟩] at hr
        exact ih (i + 1) (by omega) _ r hr
set_option maxRecDepth 100000 in
set_option maxHeartbeats 4000000 in
theorem c_X3_look {G : Cx} {w : Nat → Nat} {a b f : Nat → Int32} {wa : Int32} {T N S C B O : Nat → Int32} {ch nd dg : Int32} {lr : Value} {nd0 dg0 : Int32} {k : Nat} (hk : k < 160) {o : Option Nat} (ho : ∀ j, o = some j → j < 160) : Mt G Y_X3_look 3 0 0 [.ref (w 1), .ref (w 5), .int (nI k), .int (oI o), .int nd, .int dg] (WaysM w (a, b, f, wa) lr nd0 dg0 T N S C B O ch) (fun v M' => v = some (.int ((lkq (fun k => hoB T C k nd) N dg k o f).1 k)) ∧ M' = WaysM w (lkq (fun k => hoB T C k nd) N dg k o f) (.ref (w 5)) nd dg T N S C B O ch) noX := by
  refine Mt.of (L := [some (.ref (w 1)), some (.ref (w 5)), some (.int (nI k)), some (.int (oI o)), some (.int nd), some (.int dg), none]) rfl (by decide) (by simp [lg_sl, Value.category]) ⟨rfl, rfl, rfl, rfl, rfl, rfl, trivial⟩ (fun sz => ?_)
  refine v_aload_nR (pc := 0) dX3_look_0 rfl rfl ?_
  refine v_aload_nR (pc := 1) dX3_look_1 rfl rfl ?_
  refine v_put (pc := 2) 4 0 fp_X3_look_21 rfl rfl rfl (Nat.le_of_ble_eq_true rfl) dX3_look_2 ?_
  try dsimp only [wb, LakeM, WaysM, List.set_cons_succ, List.set_cons_zero, List.append_nil, List.nil_append, List.cons_append, Option.toList, Nat.sub_zero]
  refine v_aload_nR (pc := 5) dX3_look_5 rfl rfl ?_
  refine v_iload (pc := 6) dX3_look_6 rfl ?_
  refine v_put (pc := 8) 5 0 fp_X3_look_25 rfl rfl rfl (Nat.le_of_ble_eq_true rfl) dX3_look_8 ?_
  try dsimp only [wb, LakeM, WaysM, List.set_cons_succ, List.set_cons_zero, List.append_nil, List.nil_append, List.cons_append, Option.toList, Nat.sub_zero]
  refine v_aload_nR (pc := 11) dX3_look_11 rfl rfl ?_
  refine v_iload (pc := 12) dX3_look_12 rfl ?_
  refine v_put (pc := 14) 6 0 fp_X3_look_29 rfl rfl rfl (Nat.le_of_ble_eq_true rfl) dX3_look_14 ?_
  try dsimp only [wb, LakeM, WaysM, List.set_cons_succ, List.set_cons_zero, List.append_nil, List.nil_append, List.cons_append, Option.toList, Nat.sub_zero]
  refine v_aload_nR (pc := 17) dX3_look_17 rfl rfl ?_
  refine v_iconst (pc := 18) (v := 0) dX3_look_18 rfl ?_
  refine v_put (pc := 19) 3 0 fp_X3_look_32 rfl rfl rfl (Nat.le_of_ble_eq_true rfl) dX3_look_19 ?_
  try dsimp only [wb, LakeM, WaysM, List.set_cons_succ, List.set_cons_zero, List.append_nil, List.nil_append, List.cons_append, Option.toList, Nat.sub_zero]
  refine v_aload_nR (pc := 22) dX3_look_22 rfl rfl ?_
  refine v_get (pc := 23) 0 0 fg_X3_9 rfl rfl dX3_look_23 ?_
  refine v_iconst (pc := 26) (v := -1) dX3_look_26 rfl ?_
  refine v_callS2 (pc := 27) (c_J7_fill_53178 (n := 160) (by decide)) cm_J7_fill_53178 q491 q68 [1] (by rfl) (by decide) (fun _ _ h => h) (by decide) (by decide) (by decide) (Nat.le_of_ble_eq_true rfl) dX3_look_27 (fun v27 M27 hQ27 => ?_)
  obtain ⟨rfl, rfl⟩ := hQ27
  try dsimp only [wb, LakeM, WaysM, List.set_cons_succ, List.set_cons_zero, List.append_nil, List.nil_append, List.cons_append, Option.toList, Nat.sub_zero]
  refine v_cgI 1 (g := fun _ => -1) rfl (fun j hj => fillU_in hj) ?_
  refine v_aload_nR (pc := 30) dX3_look_30 rfl rfl ?_
  refine v_get (pc := 31) 1 0 fg_X3_15 rfl rfl dX3_look_31 ?_
  refine v_iconst (pc := 34) (v := -1) dX3_look_34 rfl ?_
  refine v_callS2 (pc := 35) (c_J7_fill_53178 (n := 64) (by decide)) cm_J7_fill_53178 q491 q68 [2] (by rfl) (by decide) (fun _ _ h => h) (by decide) (by decide) (by decide) (Nat.le_of_ble_eq_true rfl) dX3_look_35 (fun v35 M35 hQ35 => ?_)
  obtain ⟨rfl, rfl⟩ := hQ35
  try dsimp only [wb, LakeM, WaysM, List.set_cons_succ, List.set_cons_zero, List.append_nil, List.nil_append, List.cons_append, Option.toList, Nat.sub_zero]
  refine v_cgI 2 (g := fun _ => -1) rfl (fun j hj => fillU_in hj) ?_
  refine v_aload_nR (pc := 38) dX3_look_38 rfl rfl ?_
  refine v_iload_n (pc := 39) dX3_look_39 rfl rfl ?_
  refine v_iconst (pc := 40) (v := 0) dX3_look_40 rfl ?_
  refine v_callV2 (pc := 41) (c_X3_reach ho) cm_X3_reach q492 q494 qs10 (ci := 3) rfl rfl (orcO 0 rfl) [0, 1, 2, 3, 4, 5, 6, 7, 8, 9, 10] (by rfl) (by decide) (fun _ _ h => h) (by decide) (by decide) (by decide) (Nat.le_of_ble_eq_true rfl) dX3_look_41 (fun v41 M41 hQ41 => ?_)
  obtain ⟨rfl, rfl⟩ := hQ41
  try dsimp only [wb, LakeM, WaysM, List.set_cons_succ, List.set_cons_zero, List.append_nil, List.nil_append, List.cons_append, Option.toList, Nat.sub_zero]
  refine v_iload_n (pc := 44) dX3_look_44 rfl rfl ?_
  refine v_callSN1 (pc := 45) (c_X5_isCell ) cm_X5_isCell q496 q297 [] (by rfl) (by decide) (fun _ _ h => h) (by decide) (by decide) (by decide) (Nat.le_of_ble_eq_true rfl) dX3_look_45 (fun v45 M45 hQ45 => ?_)
  obtain ⟨rfl, rfl⟩ := hQ45
  try dsimp only [wb, LakeM, WaysM, List.set_cons_succ, List.set_cons_zero, List.append_nil, List.nil_append, List.cons_append, Option.toList, Nat.sub_zero]
  refine v_if_ne (pc := 48) (tgt := 53) dX3_look_48 (by decide) (fun c48 => ?_) (fun c48 => absurd (isCell_k hk) (bI_0.mp c48))
  have c48 := bI_n.mp c48
  refine v_iconst (pc := 53) (v := 0) dX3_look_53 rfl ?_
  refine v_istore (pc := 54) dX3_look_54 (by decide) rfl ?_
  have k9 := lp_X3_look (G := G) (w := w) (T := T) (N := N) (S := S) (C := C) (B := B) (O := O) (ch := ch) (nd := nd) (dg := dg) (sz := sz) hk (s0 := (a, b, f, wa)) (lr := lr) (nd0 := nd0) (dg0 := dg0) 10240 0 (by omega) (rc (fun k => hoB T C k nd) N dg 0 o (fun _ => -1, fun _ => -1, f, 0)) _ rfl
  refine v_sub ?_ k9
  exact ⟨rfl, rfl, rfl, trivial⟩
set_option maxRecDepth 100000 in
set_option maxHeartbeats 4000000 in
theorem lp_X3_firstFrom {G : Cx} {w : Nat → Nat} {s : QS} {T N S C B O : Nat → Int32} {ch nd dg : Int32} {sz k : Nat} (hk : k < 160) : ∀ (m i : Nat), m + i = 4 → ∀ r, ffr (fun k => hoB T C k nd) N dg s.1 k m i = r → V G Y_X3_firstFrom (ZM G (WaysM w s (.ref (w 5)) nd dg T N S C B O ch) sz (fun v M' => v = some (.int (oI (r))) ∧ M' = WaysM w s (.ref (w 5)) nd dg T N S C B O ch) noX) 1 0 0 28 [some (.ref (w 1)), some (.int (nI k)), some (.int (nI i)), none] [] (WaysM w s (.ref (w 5)) nd dg T N S C B O ch) := by
  intro m
  induction m with
  | zero =>
    intro i hi
    obtain rfl : i = 4 := by omega
    intro r hr
    obtain rfl : none = r := hr
    refine v_iload_n (pc := 28) dX3_firstFrom_28 rfl rfl ?_
    refine v_iconst (pc := 29) (v := 4) dX3_firstFrom_29 rfl ?_
    refine v_icmp_ge (pc := 30) (tgt := 108) dX3_firstFrom_30 (by decide) (fun c30 => ?_) (fun c30 => absurd (nI_le (a := 4) (b := 4) (Nat.le_refl _) (by decide)) c30)
    have c30 : 4 ≤ 4 := (nI_leI (a := 4) (b := 4) (by omega) (by omega)).mp c30
    refine v_iconst (pc := 108) (v := -1) dX3_firstFrom_108 rfl ?_
    refine v_iret (pc := 109) rfl rfl (Nat.le_of_ble_eq_true rfl) dX3_firstFrom_109 ?_
    exact ⟨rfl, rfl⟩
  | succ m ih =>
    intro i hi
    intro r hr
    unfold ffr at hr
    refine v_iload_n (pc := 28) dX3_firstFrom_28 rfl rfl ?_
    refine v_iconst (pc := 29) (v := 4) dX3_firstFrom_29 rfl ?_
    refine v_icmp_ge (pc := 30) (tgt := 108) dX3_firstFrom_30 (by decide) (fun c30 => absurd c30 (nI_ge (a := i) (b := 4) (by omega) (by decide))) (fun c30 => ?_)
    have c30 : ¬ 4 ≤ i := fun h => c30 ((nI_leI (a := 4) (b := i) (by omega) (by omega)).mpr h)
    refine v_iload_n (pc := 33) dX3_firstFrom_33 rfl rfl ?_
    refine v_iload_n (pc := 34) dX3_firstFrom_34 rfl rfl ?_
    refine v_callSN2 (pc := 35) (c_X5_beside hk (by omega)) cm_X5_beside q503 q421 [] (by rfl) (by decide) (fun _ _ h => h) (by decide) (by decide) (by decide) (Nat.le_of_ble_eq_true rfl) dX3_firstFrom_35 (fun v35 M35 hQ35 => ?_)
    obtain ⟨rfl, rfl⟩ := hQ35
    try dsimp only [wb, LakeM, WaysM, List.set_cons_succ, List.set_cons_zero, List.append_nil, List.nil_append, List.cons_append, Option.toList, Nat.sub_zero]
    refine v_istore_n (pc := 38) dX3_firstFrom_38 rfl (by decide) rfl ?_
    refine v_iload_n (pc := 39) dX3_firstFrom_39 rfl rfl ?_
    refine v_callSN1 (pc := 40) (c_X5_isCell ) cm_X5_isCell q496 q297 [] (by rfl) (by decide) (fun _ _ h => h) (by decide) (by decide) (by decide) (Nat.le_of_ble_eq_true rfl) dX3_firstFrom_40 (fun v40 M40 hQ40 => ?_)
    obtain ⟨rfl, rfl⟩ := hQ40
    try dsimp only [wb, LakeM, WaysM, List.set_cons_succ, List.set_cons_zero, List.append_nil, List.nil_append, List.cons_append, Option.toList, Nat.sub_zero]
    refine v_if_eq (pc := 43) (tgt := 102) dX3_firstFrom_43 (by decide) (fun c43 => ?_) (fun c43 => ?_)
    · have c43 := bI_0.mp c43
      refine v_iinc (pc := 102) (v := nI (i + 1)) dX3_firstFrom_102 rfl (nI_1 _) (by decide) rfl ?_
      refine v_goto (pc := 105) (tgt := 28) dX3_firstFrom_105 (by decide) ?_
      have hn : nbr k i = none := by
        cases hn : nbr k i with
        | none => rfl
        | some j => exact absurd ((oI_cell hk).mpr ⟨j, hn, nbr_lt hk hn⟩) c43
      rw [hn] at hr
      dsimp only at hr
      have k9 := ih (i + 1) (by omega) r hr
      refine v_sub ?_ k9
      exact ⟨rfl, rfl, rfl, trivial⟩
    · have c43 := bI_n.mp c43
      obtain ⟨j, hj, hj2⟩ := (oI_cell hk).mp c43
      rw [oI_some hj]
      rw [hj] at hr
      dsimp only at hr
      refine v_aload_nR (pc := 46) dX3_firstFrom_46 rfl rfl ?_
      refine v_get (pc := 47) 0 0 fg_X3_9 rfl rfl dX3_firstFrom_47 ?_
      refine v_iload_n (pc := 50) dX3_firstFrom_50 rfl rfl ?_
      refine v_ialdN (pc := 51) 1 (k := j) rfl (by omega) (by decide) dX3_firstFrom_51 ?_
      refine v_iconst (pc := 52) (v := -1) dX3_firstFrom_52 rfl ?_
      refine v_icmp_eq (pc := 53) (tgt := 102) dX3_firstFrom_53 (by decide) (fun c53 => ?_) (fun c53 => ?_)
      · refine v_iinc (pc := 102) (v := nI (i + 1)) dX3_firstFrom_102 rfl (nI_1 _) (by decide) rfl ?_
        refine v_goto (pc := 105) (tgt := 28) dX3_firstFrom_105 (by decide) ?_
        rw [if_neg (fun h => h.1 c53)] at hr
        have k9 := ih (i + 1) (by omega) r hr
        refine v_sub ?_ k9
        exact ⟨rfl, rfl, rfl, trivial⟩
      · refine v_aload_nR (pc := 56) dX3_firstFrom_56 rfl rfl ?_
        refine v_get (pc := 57) 4 0 fg_X3_21 rfl rfl dX3_firstFrom_57 ?_
        refine v_iload_n (pc := 60) dX3_firstFrom_60 rfl rfl ?_
        refine v_aload_nR (pc := 61) dX3_firstFrom_61 rfl rfl ?_
        refine v_get (pc := 62) 5 0 fg_X3_25 rfl rfl dX3_firstFrom_62 ?_
        refine v_callV2 (pc := 65) (c_X1_holds hj2) cm_X1_holds q497 q428 q429 (ci := 1) rfl rfl (orcO 4 rfl) [4, 5, 6, 7, 8, 9, 10] (by rfl) (by decide) (fun _ _ h => h) (by decide) (by decide) (by decide) (Nat.le_of_ble_eq_true rfl) dX3_firstFrom_65 (fun v65 M65 hQ65 => ?_)
        obtain ⟨rfl, rfl⟩ := hQ65
        try dsimp only [wb, LakeM, WaysM, List.set_cons_succ, List.set_cons_zero, List.append_nil, List.nil_append, List.cons_append, Option.toList, Nat.sub_zero]
        refine v_if_eq (pc := 68) (tgt := 102) dX3_firstFrom_68 (by decide) (fun c68 => ?_) (fun c68 => ?_)
        · have c68 := bI_0.mp c68
          refine v_iinc (pc := 102) (v := nI (i + 1)) dX3_firstFrom_102 rfl (nI_1 _) (by decide) rfl ?_
          refine v_goto (pc := 105) (tgt := 28) dX3_firstFrom_105 (by decide) ?_
          rw [if_neg (fun h => c68 h.2.1)] at hr
          have k9 := ih (i + 1) (by omega) r hr
          refine v_sub ?_ k9
          exact ⟨rfl, rfl, rfl, trivial⟩
        · have c68 := bI_n.mp c68
          refine v_aload_nR (pc := 71) dX3_firstFrom_71 rfl rfl ?_
          refine v_get (pc := 72) 0 0 fg_X3_9 rfl rfl dX3_firstFrom_72 ?_
          refine v_iload_n (pc := 75) dX3_firstFrom_75 rfl rfl ?_
          refine v_ialdN (pc := 76) 1 (k := j) rfl (by omega) (by decide) dX3_firstFrom_76 ?_
          refine v_aload_nR (pc := 77) dX3_firstFrom_77 rfl rfl ?_
          refine v_get (pc := 78) 4 0 fg_X3_21 rfl rfl dX3_firstFrom_78 ?_
          refine v_iload_n (pc := 81) dX3_firstFrom_81 rfl rfl ?_
          refine v_callV1 (pc := 82) (c_X1_snowOf hj2) cm_X1_snowOf q498 q300 q301 (ci := 1) rfl rfl (orcO 4 rfl) [4, 5, 6, 7, 8, 9, 10] (by rfl) (by decide) (fun _ _ h => h) (by decide) (by decide) (by decide) (Nat.le_of_ble_eq_true rfl) dX3_firstFrom_82 (fun v82 M82 hQ82 => ?_)
          obtain ⟨rfl, rfl⟩ := hQ82
          try dsimp only [wb, LakeM, WaysM, List.set_cons_succ, List.set_cons_zero, List.append_nil, List.nil_append, List.cons_append, Option.toList, Nat.sub_zero]
          refine v_iadd (pc := 85) dX3_firstFrom_85 ?_
          refine v_aload_nR (pc := 86) dX3_firstFrom_86 rfl rfl ?_
          refine v_get (pc := 87) 6 0 fg_X3_29 rfl rfl dX3_firstFrom_87 ?_
          refine v_iadd (pc := 90) dX3_firstFrom_90 ?_
          refine v_aload_nR (pc := 91) dX3_firstFrom_91 rfl rfl ?_
          refine v_get (pc := 92) 0 0 fg_X3_9 rfl rfl dX3_firstFrom_92 ?_
          refine v_iload_n (pc := 95) dX3_firstFrom_95 rfl rfl ?_
          refine v_ialdN (pc := 96) 1 (k := k) rfl (by omega) (by decide) dX3_firstFrom_96 ?_
          refine v_icmp_ne (pc := 97) (tgt := 102) dX3_firstFrom_97 (by decide) (fun c97 => ?_) (fun c97 => ?_)
          · refine v_iinc (pc := 102) (v := nI (i + 1)) dX3_firstFrom_102 rfl (nI_1 _) (by decide) rfl ?_
            refine v_goto (pc := 105) (tgt := 28) dX3_firstFrom_105 (by decide) ?_
            rw [if_neg (fun h => c97 h.2.2)] at hr
            have k9 := ih (i + 1) (by omega) r hr
            refine v_sub ?_ k9
            exact ⟨rfl, rfl, rfl, trivial⟩
          · refine v_iload_n (pc := 100) dX3_firstFrom_100 rfl rfl ?_
            refine v_iret (pc := 101) rfl rfl (Nat.le_of_ble_eq_true rfl) dX3_firstFrom_101 ?_
            rw [if_pos ⟨c53, c68, c97⟩] at hr
            exact ⟨by rw [← hr]; rfl, rfl⟩
set_option maxRecDepth 100000 in
set_option maxHeartbeats 4000000 in
theorem c_X3_firstFrom {G : Cx} {w : Nat → Nat} {a b f : Nat → Int32} {wa : Int32} {T N S C B O : Nat → Int32} {ch nd dg : Int32} {k : Nat} (hk : k < 160) : Mt G Y_X3_firstFrom 1 0 0 [.ref (w 1), .int (nI k)] (WaysM w (a, b, f, wa) (.ref (w 5)) nd dg T N S C B O ch) (fun v M' => v = some (.int (oI (ffq (fun k => hoB T C k nd) N dg a k))) ∧ M' = WaysM w (a, b, f, wa) (.ref (w 5)) nd dg T N S C B O ch) noX := by
  refine Mt.of (L := [some (.ref (w 1)), some (.int (nI k)), none, none]) rfl (by decide) (by simp [lg_sl, Value.category]) ⟨rfl, rfl, trivial⟩ (fun sz => ?_)
  refine v_iload_n (pc := 0) dX3_firstFrom_0 rfl rfl ?_
  refine v_callSN1 (pc := 1) (c_X5_isCell ) cm_X5_isCell q496 q297 [] (by rfl) (by decide) (fun _ _ h => h) (by decide) (by decide) (by decide) (Nat.le_of_ble_eq_true rfl) dX3_firstFrom_1 (fun v1 M1 hQ1 => ?_)
  obtain ⟨rfl, rfl⟩ := hQ1
  try dsimp only [wb, LakeM, WaysM, List.set_cons_succ, List.set_cons_zero, List.append_nil, List.nil_append, List.cons_append, Option.toList, Nat.sub_zero]
  refine v_if_eq (pc := 4) (tgt := 24) dX3_firstFrom_4 (by decide) (fun c4 => absurd (isCell_k hk) (bI_0.mp c4)) (fun c4 => ?_)
  have c4 := bI_n.mp c4
  refine v_aload_nR (pc := 7) dX3_firstFrom_7 rfl rfl ?_
  refine v_get (pc := 8) 4 0 fg_X3_21 rfl rfl dX3_firstFrom_8 ?_
  refine v_ifnullR (pc := 11) dX3_firstFrom_11 ?_
  refine v_aload_nR (pc := 14) dX3_firstFrom_14 rfl rfl ?_
  refine v_get (pc := 15) 0 0 fg_X3_9 rfl rfl dX3_firstFrom_15 ?_
  refine v_iload_n (pc := 18) dX3_firstFrom_18 rfl rfl ?_
  refine v_ialdN (pc := 19) 1 (k := k) rfl (by omega) (by decide) dX3_firstFrom_19 ?_
  refine v_iconst (pc := 20) (v := -1) dX3_firstFrom_20 rfl ?_
  refine v_icmp_ne (pc := 21) (tgt := 26) dX3_firstFrom_21 (by decide) (fun c21 => ?_) (fun c21 => ?_)
  · refine v_iconst (pc := 26) (v := 0) dX3_firstFrom_26 rfl ?_
    refine v_istore_n (pc := 27) dX3_firstFrom_27 rfl (by decide) rfl ?_
    have k9 := lp_X3_firstFrom (G := G) (w := w) (s := (a, b, f, wa)) (T := T) (N := N) (S := S) (C := C) (B := B) (O := O) (ch := ch) (nd := nd) (dg := dg) (sz := sz) hk 4 0 (by omega) _ rfl
    unfold ffq
    rw [if_neg c21]
    refine v_sub ?_ k9
    exact ⟨rfl, rfl, rfl, trivial⟩
  · refine v_iconst (pc := 24) (v := -1) dX3_firstFrom_24 rfl ?_
    refine v_iret (pc := 25) rfl rfl (Nat.le_of_ble_eq_true rfl) dX3_firstFrom_25 ?_
    exact ⟨by unfold ffq; rw [if_pos c21]; rfl, rfl⟩
theorem c_X1_holdsX {G : Cx} {w : Nat → Nat} {T N S C B O : Nat → Int32} {ch : Int32} {x : Int32} (hx : 0 ≤ x ∧ x < 160) {nd : Int32} : Mt G Y_X1_holds 0 0 0 ([.ref (w 5), .int x, .int nd]) (LakeM w T N S C B O ch) (fun v M' => v = some (.int (bI (hoB T C (cN x) nd = true))) ∧ M' = LakeM w T N S C B O ch) noX := by
  have h := cN_of hx
  have k := c_X1_holds (G := G) (w := w) (T := T) (N := N) (S := S) (C := C) (B := B) (O := O) (ch := ch) h.2 (nd := nd)
  rw [← h.1] at k
  exact k
theorem c_X1_snowOfX {G : Cx} {w : Nat → Nat} {T N S C B O : Nat → Int32} {ch : Int32} {x : Int32} (hx : 0 ≤ x ∧ x < 160) : Mt G Y_X1_snowOf 0 0 0 ([.ref (w 5), .int x]) (LakeM w T N S C B O ch) (fun v M' => v = some (.int (N (cN x))) ∧ M' = LakeM w T N S C B O ch) noX := by
  have h := cN_of hx
  have k := c_X1_snowOf (G := G) (w := w) (T := T) (N := N) (S := S) (C := C) (B := B) (O := O) (ch := ch) h.2
  rw [← h.1] at k
  exact k
theorem c_X1_strainUnderX {G : Cx} {w : Nat → Nat} {T N S C B O : Nat → Int32} {ch : Int32} {x : Int32} (hx : 0 ≤ x ∧ x < 160) {nd : Int32} : Mt G Y_X1_strainUnder 1 0 0 ([.ref (w 5), .int x, .int nd]) (LakeM w T N S C B O ch) (fun v M' => v = none ∧ M' = LakeM w T N (stU T S C (cN x) nd ch).1 (stU T S C (cN x) nd ch).2.1 B O (stU T S C (cN x) nd ch).2.2) noX := by
  have h := cN_of hx
  have k := c_X1_strainUnder (G := G) (w := w) (T := T) (N := N) (S := S) (C := C) (B := B) (O := O) (ch := ch) h.2 (nd := nd)
  rw [← h.1] at k
  exact k
theorem c_X3_lookX {G : Cx} {w : Nat → Nat} {a b f : Nat → Int32} {wa : Int32} {T N S C B O : Nat → Int32} {ch nd dg : Int32} {lr : Value} {nd0 dg0 : Int32} {x : Int32} (hx : 0 ≤ x ∧ x < 160) {o : Option Nat} (ho : ∀ j, o = some j → j < 160) : Mt G Y_X3_look 3 0 0 [.ref (w 1), .ref (w 5), .int x, .int (oI o), .int nd, .int dg] (WaysM w (a, b, f, wa) lr nd0 dg0 T N S C B O ch) (fun v M' => v = some (.int ((lkq (fun k => hoB T C k nd) N dg (cN x) o f).1 (cN x))) ∧ M' = WaysM w (lkq (fun k => hoB T C k nd) N dg (cN x) o f) (.ref (w 5)) nd dg T N S C B O ch) noX := by
  have h := cN_of hx
  have k := c_X3_look (G := G) (w := w) (a := a) (b := b) (f := f) (wa := wa) (lr := lr) (nd0 := nd0) (dg0 := dg0) (T := T) (N := N) (S := S) (C := C) (B := B) (O := O) (ch := ch) (nd := nd) (dg := dg) h.2 ho
  rw [← h.1] at k
  exact k
theorem c_X3_firstFromX {G : Cx} {w : Nat → Nat} {a b f : Nat → Int32} {wa : Int32} {T N S C B O : Nat → Int32} {ch nd dg : Int32} {x : Int32} (hx : 0 ≤ x ∧ x < 160) : Mt G Y_X3_firstFrom 1 0 0 [.ref (w 1), .int x] (WaysM w (a, b, f, wa) (.ref (w 5)) nd dg T N S C B O ch) (fun v M' => v = some (.int (oI (ffq (fun k => hoB T C k nd) N dg a (cN x)))) ∧ M' = WaysM w (a, b, f, wa) (.ref (w 5)) nd dg T N S C B O ch) noX := by
  have h := cN_of hx
  have k := c_X3_firstFrom (G := G) (w := w) (a := a) (b := b) (f := f) (wa := wa) (T := T) (N := N) (S := S) (C := C) (B := B) (O := O) (ch := ch) (nd := nd) (dg := dg) h.2
  rw [← h.1] at k
  exact k
