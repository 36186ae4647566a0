/-! constructors; families that grow; less room, less world -/
section VMORE
variable {G : Cx} {Y : MI} {Z : ZT} {d ck sk pc : Nat} {L : List (Option Value)} {st : List Value} {M : List ME}
/-- less room is enough -/
theorem v_room {ck' sk' : Nat} (h1 : ck' ≤ ck) (h2 : sk' ≤ sk) (k : V G Y Z d ck' sk' pc L st M) : V G Y Z d ck sk pc L st M :=
  fun p e R s m args below meth c H locs cells slots ls C hl => k p e R s m args below meth c H locs cells slots ls ⟨C.1, ⟨C.2.1.1, C.2.1.2.1, C.2.1.2.2.1, C.2.1.2.2.2.1, Nat.le_trans (Nat.add_le_add_left h1 _) C.2.1.2.2.2.2.1, Nat.le_trans (Nat.add_le_add_left h2 _) C.2.1.2.2.2.2.2⟩, C.2.2⟩ hl
/-- what lies behind the first n entries is forgotten -/
theorem v_take (n : Nat) (k : V G Y Z d ck sk pc L st (M.take n)) : V G Y Z d ck sk pc L st M := by
  have key : ∀ (i : Nat) (e : ME), (M.take n)[i]? = some e → M[i]? = some e := by
    intro i e h
    rw [List.getElem?_take] at h
    split at h
    · exact h
    · cases h
  intro p e R s m args below meth c H locs cells slots ls C hl
  exact k p e R s m args below meth c H locs cells slots ls ⟨C.1, C.2.1, fun i e h => C.2.2.1 i e (key i e h), ⟨fun i j e e' q hi hj => C.2.2.2.1.1 i j e e' q (key i e hi) (key j e' hj), fun i e hi => C.2.2.2.1.2.1 i e (key i e hi), fun i e q hi => C.2.2.2.1.2.2 i e q (key i e hi)⟩, C.2.2.2.2⟩ hl
/-- an empty family -/
theorem v_fam0 (ci w : Nat) (k : V G Y Z d ck sk pc L st (M ++ [eS ci (fun _ => 0) 0 w (fun _ _ => 0)])) : V G Y Z d ck sk pc L st M := by
  intro p e R s m args below meth c H locs cells slots ls C hl
  refine k p e R s m args below meth c H locs cells slots ls ⟨C.1, C.2.1, C.2.2.1.push (fun i hi => absurd hi (Nat.not_lt_zero _)), C.2.2.2.1.push (fun i j hi => absurd hi (Nat.not_lt_zero _)) (fun q hq => ?_) (fun q k x _ _ hq => ?_), C.2.2.2.2⟩ hl
  · obtain ⟨i, hi, -⟩ := hq
    exact absurd hi (Nat.not_lt_zero _)
  · obtain ⟨i, hi, -⟩ := hq
    exact absurd hi (Nat.not_lt_zero _)
/-- a new object joins its family -/
theorem v_fam (p0 : Nat) {M1 : List ME} {ci n w q : Nat} {sa : Nat → Nat} {fs : List Value} (hM : M = M1 ++ [eO ci q fs]) (hfs : fs = sF w (fun _ _ => 0) n) (hp : M1[p0]? = some (eS ci sa n w (fun _ _ => 0))) (k : V G Y Z d ck sk pc L st (M1.set p0 (eS ci (fun j => if j = n then q else sa j) (n + 1) w (fun _ _ => 0)))) : V G Y Z d ck sk pc L st M := by
  subst hM
  subst hfs
  intro p e R s m args below meth c H locs cells slots ls C hl
  have hlen : p0 < M1.length := (List.getElem?_eq_some_iff.mp hp).1
  have hlast : (M1 ++ [eO ci q (sF w (fun _ _ => 0) n)])[M1.length]? = some (eO ci q (sF w (fun _ _ => 0) n)) := by
    rw [List.getElem?_append_right (Nat.le_refl _), Nat.sub_self]; rfl
  have up : ∀ (i : Nat) (x : ME), M1[i]? = some x → (M1 ++ [eO ci q (sF w (fun _ _ => 0) n)])[i]? = some x := by
    intro i x h
    rw [List.getElem?_append_left (List.getElem?_eq_some_iff.mp h).1]
    exact h
  have hP := C.2.2.1
  have hD := C.2.2.2.1
  have hne : ∀ i, i < n → sa i ≠ q := by
    intro i hi h
    have := hD.1 p0 M1.length _ _ q (up p0 _ hp) hlast ⟨i, hi, h.symm⟩ rfl
    omega
  have hma : ∀ x, ma (eS ci (fun j => if j = n then q else sa j) (n + 1) w (fun _ _ => 0)) x → ma (eS ci sa n w (fun _ _ => 0)) x ∨ x = q := by
    rintro x ⟨i, hi, rfl⟩
    by_cases h : i = n
    · exact Or.inr (if_pos h)
    · have hi : i < n + 1 := hi
      exact Or.inl ⟨i, by show i < n; omega, if_neg h⟩
  have gs : ∀ (i : Nat) (x : ME), (M1.set p0 (eS ci (fun j => if j = n then q else sa j) (n + 1) w (fun _ _ => 0)))[i]? = some x → (i = p0 ∧ x = eS ci (fun j => if j = n then q else sa j) (n + 1) w (fun _ _ => 0)) ∨ (i ≠ p0 ∧ M1[i]? = some x) := by
    intro i x hi
    by_cases h : p0 = i
    · subst h
      rw [List.getElem?_set_self hlen] at hi
      cases hi
      exact Or.inl ⟨rfl, rfl⟩
    · rw [List.getElem?_set_ne h] at hi
      exact Or.inr ⟨fun e => h e.symm, hi⟩
  have lt : ∀ (i : Nat) (x : ME), M1[i]? = some x → i < M1.length := fun i x h => (List.getElem?_eq_some_iff.mp h).1
  refine k p e R s m args below meth c H locs cells slots ls ⟨C.1, C.2.1, fun i x hi => ?_, ⟨fun i j x y z hi hj h1 h2 => ?_, fun i x hi => ?_, fun i x z hi h1 => ?_⟩, C.2.2.2.2⟩ hl
  · rcases gs i x hi with ⟨rfl, rfl⟩ | ⟨-, hi⟩
    · intro j hj
      have hj : j < n + 1 := hj
      by_cases h : j = n
      · subst h
        show va_at G.2.1 vwCl ((if j = j then q else sa j), .inr (ci, sF w (fun _ _ => 0) j)) H
        rw [if_pos rfl]
        exact hP M1.length _ hlast
      · show va_at G.2.1 vwCl ((if j = n then q else sa j), .inr (ci, sF w (fun _ _ => 0) j)) H
        rw [if_neg h]
        exact hP i _ (up i _ hp) j (by show j < n; omega)
    · exact hP i x (up i x hi)
  · rcases gs i x hi with ⟨rfl, rfl⟩ | ⟨hne1, hx⟩ <;> rcases gs j y hj with ⟨rfl, rfl⟩ | ⟨hne2, hy⟩
    · rfl
    · rcases hma z h1 with h | h
      · exact hD.1 i j _ y z (up i _ hp) (up j y hy) h h2
      · have h9 := hD.1 M1.length j _ y z hlast (up j y hy) h h2
        have h8 := lt j y hy
        omega
    · rcases hma z h2 with h | h
      · exact hD.1 i j x _ z (up i x hx) (up j _ hp) h1 h
      · have h9 := hD.1 i M1.length x _ z (up i x hx) hlast h1 h
        have h8 := lt i x hx
        omega
    · exact hD.1 i j x y z (up i x hx) (up j y hy) h1 h2
  · rcases gs i x hi with ⟨rfl, rfl⟩ | ⟨-, hi⟩
    · intro a b ha hb hab
      have ha : a < n + 1 := ha
      have hb : b < n + 1 := hb
      have hab : (if a = n then q else sa a) = (if b = n then q else sa b) := hab
      by_cases h1 : a = n
      · by_cases h2 : b = n
        · omega
        · rw [if_pos h1, if_neg h2] at hab
          exact absurd hab.symm (hne b (by omega))
      · by_cases h2 : b = n
        · rw [if_neg h1, if_pos h2] at hab
          exact absurd hab (hne a (by omega))
        · rw [if_neg h1, if_neg h2] at hab
          exact hD.2.1 i _ (up i _ hp) a b (by show a < n; omega) (by show b < n; omega) hab
    · exact hD.2.1 i x (up i x hi)
  · rcases gs i x hi with ⟨rfl, rfl⟩ | ⟨-, hi⟩
    · rcases hma z h1 with h | h
      · exact hD.2.2 i _ z (up i _ hp) h
      · exact hD.2.2 M1.length _ z hlast h
    · exact hD.2.2 i x z (up i x hi) h1
/-- a family's addresses matter only where it has places -/
theorem v_cgA (q0 : Nat) {ci n w : Nat} {sa sb : Nat → Nat} {s : Nat → Nat → Int32} (hM : M[q0]? = some (eS ci sa n w s)) (h : ∀ i, i < n → sa i = sb i) (k : V G Y Z d ck sk pc L st (M.set q0 (eS ci sb n w s))) : V G Y Z d ck sk pc L st M := by
  refine v_inj hM (fun hinj => ?_)
  refine v_cg q0 (e1 := eS ci sb n w s) hM (fun i j hi hj e => ?_) (fun q hq => ?_) (fun H hm => ?_) k
  · have hi : i < n := hi
    have hj : j < n := hj
    have e : sb i = sb j := e
    rw [← h i hi, ← h j hj] at e
    exact hinj i j hi hj e
  · obtain ⟨i, hi, rfl⟩ := hq
    have hi : i < n := hi
    exact ⟨i, hi, (h i hi).symm⟩
  · intro i hi
    have hi : i < n := hi
    show va_at G.2.1 vwCl (sb i, .inr (ci, sF w s i)) H
    rw [← h i hi]
    exact hm i hi
theorem v_cgQ (q0 : Nat) {t a n : Nat} {f g : Nat → Option Nat} (hM : M[q0]? = some (eQ t a n f)) (h : ∀ j, j < n → f j = g j) (k : V G Y Z d ck sk pc L st (M.set q0 (eQ t a n g))) : V G Y Z d ck sk pc L st M :=
  v_cg q0 (e1 := eQ t a n g) hM trivial (fun _ h => h) (fun H hm => by
    have hm : H[a]? = some (vp_cell (G.2.2.1 t) (n, .inr (.inr (.inr (.inr f))))) := hm
    show H[a]? = some (vp_cell (G.2.2.1 t) (n, .inr (.inr (.inr (.inr g)))))
    rw [hm, vp_cell_q, vp_cell_q]
    unfold arrV
    congr 2
    congr 1
    funext j
    show va_rf (f j.val) = va_rf (g j.val)
    rw [h j.val j.isLt]) k
end VMORE
theorem famQ (sa : Nat → Nat) (i q : Nat) : va_up (fun j => if j < i then some (sa j) else none) i (some q) = fun j => if j < i + 1 then some ((fun j => if j = i then q else sa j) j) else none := by
  funext j
  unfold va_up
  by_cases h : j = i
  · subst h
    rw [if_pos rfl, if_pos (by omega)]
    simp
  · rw [if_neg h]
    by_cases h2 : j < i
    · simp only
      rw [if_pos h2, if_pos (by omega), if_neg h]
    · simp only
      rw [if_neg h2, if_neg (by omega)]
set_option maxRecDepth 100000 in
set_option maxHeartbeats 4000000 in
theorem c_X0_init {G : Cx} {q : Nat} : Mt G Y_X0_init 1 0 0 [.ref q] [eO 0 q [.int 0, .int 0, .int 0, .int 0, .int 0]] (fun v M' => v = none ∧ M' = [eO 0 q [.int 0, .int 0, .int 0, .int 0, .int 0]]) noX := by
  refine Mt.of (L := [some (.ref q)]) rfl (by decide) (by simp [lg_sl, Value.category]) ⟨rfl, trivial⟩ (fun sz => ?_)
  refine v_aload_nR (pc := 0) dX0_init_0 rfl rfl ?_
  refine v_objInit (pc := 1) q147 q24 q25 (by decide) (Nat.le_of_ble_eq_true rfl) dX0_init_1 ?_
  refine v_vret (pc := 4) rfl (Nat.le_of_ble_eq_true rfl) dX0_init_4 ?_
  exact ⟨rfl, rfl⟩
set_option maxRecDepth 100000 in
set_option maxHeartbeats 4000000 in
theorem c_X2_init {G : Cx} {q : Nat} : Mt G Y_X2_init 1 0 0 [.ref q] [eO 2 q [.int 0, .int 0, .int 0, .int 0, .int 0, .int 0, .int 0, .int 0, .int 0]] (fun v M' => v = none ∧ M' = [eO 2 q [.int 0, .int 0, .int 0, .int 0, .int 0, .int 0, .int 0, .int 0, .int 0]]) noX := by
  refine Mt.of (L := [some (.ref q)]) rfl (by decide) (by simp [lg_sl, Value.category]) ⟨rfl, trivial⟩ (fun sz => ?_)
  refine v_aload_nR (pc := 0) dX2_init_0 rfl rfl ?_
  refine v_objInit (pc := 1) q103 q24 q25 (by decide) (Nat.le_of_ble_eq_true rfl) dX2_init_1 ?_
  refine v_vret (pc := 4) rfl (Nat.le_of_ble_eq_true rfl) dX2_init_4 ?_
  exact ⟨rfl, rfl⟩
set_option maxRecDepth 100000 in
set_option maxHeartbeats 4000000 in
theorem c_X1_init {G : Cx} {q : Nat} : Mt G Y_X1_init 1 6 808 [.ref q] [eO 1 q [.null, .null, .null, .null, .null, .null, .int 0]] (fun v M' => v = none ∧ ∃ z1 z2 z3 z4 z5 z6 : Nat, M' = [eO 1 q [.ref z1, .ref z2, .ref z3, .ref z4, .ref z5, .ref z6, .int 0], eI z1 160 (fun _ => 30), eI z2 160 (fun _ => 1), eI z3 160 (fun _ => 0), eZ z4 160 (fun _ => 0), eZ z5 160 (fun _ => 0), eI z6 8 (fun _ => 5)]) noX := by
  refine Mt.of (L := [some (.ref q)]) rfl (by decide) (by simp [lg_sl, Value.category]) ⟨rfl, trivial⟩ (fun sz => ?_)
  refine v_aload_nR (pc := 0) dX1_init_0 rfl rfl ?_
  refine v_objInit (pc := 1) q66 q24 q25 (by decide) (Nat.le_of_ble_eq_true rfl) dX1_init_1 ?_
  refine v_aload_nR (pc := 4) dX1_init_4 rfl rfl ?_
  refine v_sipush (pc := 5) (v := 160) dX1_init_5 rfl ?_
  refine v_newa (pc := 8) (atype := .int) 0 (N := 160) (a0 := .inl (fun _ => 0)) q60 rfl (fun _ => rfl) (fun _ h => by cases h) (fun _ => rfl) (by decide) (by decide) (by decide) (by decide) (by decide) dX1_init_8 (fun z8 => ?_)
  try dsimp only [wb, LakeM, WaysM, WorldM, List.set_cons_succ, List.set_cons_zero, List.append_nil, List.nil_append, List.cons_append, Option.toList, Nat.sub_zero]
  refine v_put (pc := 10) 0 0 fp_X1_init_9 rfl rfl rfl (Nat.le_of_ble_eq_true rfl) dX1_init_10 ?_
  try dsimp only [wb, LakeM, WaysM, WorldM, List.set_cons_succ, List.set_cons_zero, List.append_nil, List.nil_append, List.cons_append, Option.toList, Nat.sub_zero]
  refine v_aload_nR (pc := 13) dX1_init_13 rfl rfl ?_
  refine v_sipush (pc := 14) (v := 160) dX1_init_14 rfl ?_
  refine v_newa (pc := 17) (atype := .int) 0 (N := 160) (a0 := .inl (fun _ => 0)) q60 rfl (fun _ => rfl) (fun _ h => by cases h) (fun _ => rfl) (by decide) (by decide) (by decide) (by decide) (by decide) dX1_init_17 (fun z17 => ?_)
  try dsimp only [wb, LakeM, WaysM, WorldM, List.set_cons_succ, List.set_cons_zero, List.append_nil, List.nil_append, List.cons_append, Option.toList, Nat.sub_zero]
  refine v_put (pc := 19) 1 0 fp_X1_init_15 rfl rfl rfl (Nat.le_of_ble_eq_true rfl) dX1_init_19 ?_
  try dsimp only [wb, LakeM, WaysM, WorldM, List.set_cons_succ, List.set_cons_zero, List.append_nil, List.nil_append, List.cons_append, Option.toList, Nat.sub_zero]
  refine v_aload_nR (pc := 22) dX1_init_22 rfl rfl ?_
  refine v_sipush (pc := 23) (v := 160) dX1_init_23 rfl ?_
  refine v_newa (pc := 26) (atype := .int) 0 (N := 160) (a0 := .inl (fun _ => 0)) q60 rfl (fun _ => rfl) (fun _ h => by cases h) (fun _ => rfl) (by decide) (by decide) (by decide) (by decide) (by decide) dX1_init_26 (fun z26 => ?_)
  try dsimp only [wb, LakeM, WaysM, WorldM, List.set_cons_succ, List.set_cons_zero, List.append_nil, List.nil_append, List.cons_append, Option.toList, Nat.sub_zero]
  refine v_put (pc := 28) 2 0 fp_X1_init_18 rfl rfl rfl (Nat.le_of_ble_eq_true rfl) dX1_init_28 ?_
  try dsimp only [wb, LakeM, WaysM, WorldM, List.set_cons_succ, List.set_cons_zero, List.append_nil, List.nil_append, List.cons_append, Option.toList, Nat.sub_zero]
  refine v_aload_nR (pc := 31) dX1_init_31 rfl rfl ?_
  refine v_sipush (pc := 32) (v := 160) dX1_init_32 rfl ?_
  refine v_newa (pc := 35) (atype := .boolean) 1 (N := 160) (a0 := .inl (fun _ => 0)) q94 rfl (fun _ => rfl) (fun _ h => by cases h) (fun _ => rfl) (by decide) (by decide) (by decide) (by decide) (by decide) dX1_init_35 (fun z35 => ?_)
  try dsimp only [wb, LakeM, WaysM, WorldM, List.set_cons_succ, List.set_cons_zero, List.append_nil, List.nil_append, List.cons_append, Option.toList, Nat.sub_zero]
  refine v_put (pc := 37) 3 0 fp_X1_init_21 rfl rfl rfl (Nat.le_of_ble_eq_true rfl) dX1_init_37 ?_
  try dsimp only [wb, LakeM, WaysM, WorldM, List.set_cons_succ, List.set_cons_zero, List.append_nil, List.nil_append, List.cons_append, Option.toList, Nat.sub_zero]
  refine v_aload_nR (pc := 40) dX1_init_40 rfl rfl ?_
  refine v_sipush (pc := 41) (v := 160) dX1_init_41 rfl ?_
  refine v_newa (pc := 44) (atype := .boolean) 1 (N := 160) (a0 := .inl (fun _ => 0)) q94 rfl (fun _ => rfl) (fun _ h => by cases h) (fun _ => rfl) (by decide) (by decide) (by decide) (by decide) (by decide) dX1_init_44 (fun z44 => ?_)
  try dsimp only [wb, LakeM, WaysM, WorldM, List.set_cons_succ, List.set_cons_zero, List.append_nil, List.nil_append, List.cons_append, Option.toList, Nat.sub_zero]
  refine v_put (pc := 46) 4 0 fp_X1_init_25 rfl rfl rfl (Nat.le_of_ble_eq_true rfl) dX1_init_46 ?_
  try dsimp only [wb, LakeM, WaysM, WorldM, List.set_cons_succ, List.set_cons_zero, List.append_nil, List.nil_append, List.cons_append, Option.toList, Nat.sub_zero]
  refine v_aload_nR (pc := 49) dX1_init_49 rfl rfl ?_
  refine v_bipush (pc := 50) (v := 8) dX1_init_50 rfl ?_
  refine v_newa (pc := 52) (atype := .int) 0 (N := 8) (a0 := .inl (fun _ => 0)) q60 rfl (fun _ => rfl) (fun _ h => by cases h) (fun _ => rfl) (by decide) (by decide) (by decide) (by decide) (by decide) dX1_init_52 (fun z52 => ?_)
  try dsimp only [wb, LakeM, WaysM, WorldM, List.set_cons_succ, List.set_cons_zero, List.append_nil, List.nil_append, List.cons_append, Option.toList, Nat.sub_zero]
  refine v_put (pc := 54) 5 0 fp_X1_init_28 rfl rfl rfl (Nat.le_of_ble_eq_true rfl) dX1_init_54 ?_
  try dsimp only [wb, LakeM, WaysM, WorldM, List.set_cons_succ, List.set_cons_zero, List.append_nil, List.nil_append, List.cons_append, Option.toList, Nat.sub_zero]
  refine v_aload_nR (pc := 57) dX1_init_57 rfl rfl ?_
  refine v_get (pc := 58) 0 0 fg_X1_9 rfl rfl dX1_init_58 ?_
  refine v_bipush (pc := 61) (v := 30) dX1_init_61 rfl ?_
  refine v_callS2 (pc := 63) (c_J7_fill_53178 (n := 160) (by decide)) cm_J7_fill_53178 q67 q68 [1] (by rfl) (by decide) (fun _ _ h => h) (by decide) (by decide) (by decide) (Nat.le_of_ble_eq_true rfl) dX1_init_63 (fun v63 M63 hQ63 => ?_)
  obtain ⟨rfl, rfl⟩ := hQ63
  try dsimp only [wb, LakeM, WaysM, WorldM, List.set_cons_succ, List.set_cons_zero, List.append_nil, List.nil_append, List.cons_append, Option.toList, Nat.sub_zero]
  refine v_cgI 1 (g := fun _ => 30) rfl (fun j hj => fillU_in hj) ?_
  try dsimp only [wb, LakeM, WaysM, WorldM, List.set_cons_succ, List.set_cons_zero, List.append_nil, List.nil_append, List.cons_append, Option.toList, Nat.sub_zero]
  refine v_aload_nR (pc := 66) dX1_init_66 rfl rfl ?_
  refine v_get (pc := 67) 1 0 fg_X1_15 rfl rfl dX1_init_67 ?_
  refine v_iconst (pc := 70) (v := 1) dX1_init_70 rfl ?_
  refine v_callS2 (pc := 71) (c_J7_fill_53178 (n := 160) (by decide)) cm_J7_fill_53178 q67 q68 [2] (by rfl) (by decide) (fun _ _ h => h) (by decide) (by decide) (by decide) (Nat.le_of_ble_eq_true rfl) dX1_init_71 (fun v71 M71 hQ71 => ?_)
  obtain ⟨rfl, rfl⟩ := hQ71
  try dsimp only [wb, LakeM, WaysM, WorldM, List.set_cons_succ, List.set_cons_zero, List.append_nil, List.nil_append, List.cons_append, Option.toList, Nat.sub_zero]
  refine v_cgI 2 (g := fun _ => 1) rfl (fun j hj => fillU_in hj) ?_
  try dsimp only [wb, LakeM, WaysM, WorldM, List.set_cons_succ, List.set_cons_zero, List.append_nil, List.nil_append, List.cons_append, Option.toList, Nat.sub_zero]
  refine v_aload_nR (pc := 74) dX1_init_74 rfl rfl ?_
  refine v_get (pc := 75) 5 0 fg_X1_28 rfl rfl dX1_init_75 ?_
  refine v_iconst (pc := 78) (v := 5) dX1_init_78 rfl ?_
  refine v_callS2 (pc := 79) (c_J7_fill_53178 (n := 8) (by decide)) cm_J7_fill_53178 q67 q68 [6] (by rfl) (by decide) (fun _ _ h => h) (by decide) (by decide) (by decide) (Nat.le_of_ble_eq_true rfl) dX1_init_79 (fun v79 M79 hQ79 => ?_)
  obtain ⟨rfl, rfl⟩ := hQ79
  try dsimp only [wb, LakeM, WaysM, WorldM, List.set_cons_succ, List.set_cons_zero, List.append_nil, List.nil_append, List.cons_append, Option.toList, Nat.sub_zero]
  refine v_cgI 6 (g := fun _ => 5) rfl (fun j hj => fillU_in hj) ?_
  try dsimp only [wb, LakeM, WaysM, WorldM, List.set_cons_succ, List.set_cons_zero, List.append_nil, List.nil_append, List.cons_append, Option.toList, Nat.sub_zero]
  refine v_vret (pc := 82) rfl (Nat.le_of_ble_eq_true rfl) dX1_init_82 ?_
  exact ⟨rfl, _, _, _, _, _, _, rfl⟩
set_option maxRecDepth 100000 in
set_option maxHeartbeats 4000000 in
theorem c_X3_init {G : Cx} {q : Nat} : Mt G Y_X3_init 1 3 384 [.ref q] [eO 3 q [.null, .null, .null, .int 0, .null, .int 0, .int 0]] (fun v M' => v = none ∧ ∃ z1 z2 z3 : Nat, M' = [eO 3 q [.ref z1, .ref z2, .ref z3, .int 0, .null, .int 0, .int 0], eI z1 160 (fun _ => 0), eI z2 64 (fun _ => 0), eI z3 160 (fun _ => 0)]) noX := by
  refine Mt.of (L := [some (.ref q)]) rfl (by decide) (by simp [lg_sl, Value.category]) ⟨rfl, trivial⟩ (fun sz => ?_)
  refine v_aload_nR (pc := 0) dX3_init_0 rfl rfl ?_
  refine v_objInit (pc := 1) q37 q24 q25 (by decide) (Nat.le_of_ble_eq_true rfl) dX3_init_1 ?_
  refine v_aload_nR (pc := 4) dX3_init_4 rfl rfl ?_
  refine v_sipush (pc := 5) (v := 160) dX3_init_5 rfl ?_
  refine v_newa (pc := 8) (atype := .int) 0 (N := 160) (a0 := .inl (fun _ => 0)) q60 rfl (fun _ => rfl) (fun _ h => by cases h) (fun _ => rfl) (by decide) (by decide) (by decide) (by decide) (by decide) dX3_init_8 (fun z8 => ?_)
  try dsimp only [wb, LakeM, WaysM, WorldM, List.set_cons_succ, List.set_cons_zero, List.append_nil, List.nil_append, List.cons_append, Option.toList, Nat.sub_zero]
  refine v_put (pc := 10) 0 0 fp_X3_init_9 rfl rfl rfl (Nat.le_of_ble_eq_true rfl) dX3_init_10 ?_
  try dsimp only [wb, LakeM, WaysM, WorldM, List.set_cons_succ, List.set_cons_zero, List.append_nil, List.nil_append, List.cons_append, Option.toList, Nat.sub_zero]
  refine v_aload_nR (pc := 13) dX3_init_13 rfl rfl ?_
  refine v_bipush (pc := 14) (v := 64) dX3_init_14 rfl ?_
  refine v_newa (pc := 16) (atype := .int) 0 (N := 64) (a0 := .inl (fun _ => 0)) q60 rfl (fun _ => rfl) (fun _ h => by cases h) (fun _ => rfl) (by decide) (by decide) (by decide) (by decide) (by decide) dX3_init_16 (fun z16 => ?_)
  try dsimp only [wb, LakeM, WaysM, WorldM, List.set_cons_succ, List.set_cons_zero, List.append_nil, List.nil_append, List.cons_append, Option.toList, Nat.sub_zero]
  refine v_put (pc := 18) 1 0 fp_X3_init_15 rfl rfl rfl (Nat.le_of_ble_eq_true rfl) dX3_init_18 ?_
  try dsimp only [wb, LakeM, WaysM, WorldM, List.set_cons_succ, List.set_cons_zero, List.append_nil, List.nil_append, List.cons_append, Option.toList, Nat.sub_zero]
  refine v_aload_nR (pc := 21) dX3_init_21 rfl rfl ?_
  refine v_sipush (pc := 22) (v := 160) dX3_init_22 rfl ?_
  refine v_newa (pc := 25) (atype := .int) 0 (N := 160) (a0 := .inl (fun _ => 0)) q60 rfl (fun _ => rfl) (fun _ h => by cases h) (fun _ => rfl) (by decide) (by decide) (by decide) (by decide) (by decide) dX3_init_25 (fun z25 => ?_)
  try dsimp only [wb, LakeM, WaysM, WorldM, List.set_cons_succ, List.set_cons_zero, List.append_nil, List.nil_append, List.cons_append, Option.toList, Nat.sub_zero]
  refine v_put (pc := 27) 2 0 fp_X3_init_18 rfl rfl rfl (Nat.le_of_ble_eq_true rfl) dX3_init_27 ?_
  try dsimp only [wb, LakeM, WaysM, WorldM, List.set_cons_succ, List.set_cons_zero, List.append_nil, List.nil_append, List.cons_append, Option.toList, Nat.sub_zero]
  refine v_vret (pc := 30) rfl (Nat.le_of_ble_eq_true rfl) dX3_init_30 ?_
  exact ⟨rfl, _, _, _, rfl⟩
def mkW (a0 a1 a2 a3 a4 a5 a6 a7 a8 a9 a10 a11 a12 a13 a14 : Nat) (sa sb : Nat → Nat) : Nat → Nat
  | 0 => a0
  | 1 => a1
  | 2 => a2
  | 3 => a3
  | 4 => a4
  | 5 => a5
  | 6 => a6
  | 7 => a7
  | 8 => a8
  | 9 => a9
  | 10 => a10
  | 11 => a11
  | 12 => a12
  | 13 => a13
  | 14 => a14
  | n + 15 => if n < 5 then sa n else sb (n - 5)
theorem mkW_s {a0 a1 a2 a3 a4 a5 a6 a7 a8 a9 a10 a11 a12 a13 a14 : Nat} {sa sb : Nat → Nat} {i : Nat} (hi : i < 5) : sS (mkW a0 a1 a2 a3 a4 a5 a6 a7 a8 a9 a10 a11 a12 a13 a14 sa sb) i = sa i := by
  show mkW a0 a1 a2 a3 a4 a5 a6 a7 a8 a9 a10 a11 a12 a13 a14 sa sb (15 + i) = sa i
  rw [Nat.add_comm]
  exact if_pos hi
theorem mkW_b {a0 a1 a2 a3 a4 a5 a6 a7 a8 a9 a10 a11 a12 a13 a14 : Nat} {sa sb : Nat → Nat} (i : Nat) : sB (mkW a0 a1 a2 a3 a4 a5 a6 a7 a8 a9 a10 a11 a12 a13 a14 sa sb) i = sb i := by
  show mkW a0 a1 a2 a3 a4 a5 a6 a7 a8 a9 a10 a11 a12 a13 a14 sa sb (20 + i) = sb i
  rw [show 20 + i = (i + 5) + 15 by omega]
  show (if i + 5 < 5 then sa (i + 5) else sb (i + 5 - 5)) = sb i
  rw [if_neg (by omega), Nat.add_sub_cancel]
set_option maxRecDepth 100000 in
set_option maxHeartbeats 4000000 in
theorem lp_X4_ib {G : Cx} {a0 a1 a2 a3 a4 a5 a6 a7 a8 a9 a10 a11 a12 a13 a14 sz : Nat} {M0 : List ME} (hM0 : M0.length = 1) {sa : Nat → Nat} : ∀ (m i : Nat), m + i = 40 → ∀ sb : Nat → Nat, V G Y_X4_init (ZM G M0 sz (fun v M' => v = none ∧ ∃ w : Nat → Nat, w 0 = a0 ∧ M' = WorldM w (fun _ => 0) (fun _ => 0) (fun _ => 0) 0 .null 0 0 (fun _ => 30) (fun _ => 1) (fun _ => 0) (fun _ => 0) (fun _ => 0) (fun _ => 5) 0 (fun _ => 0) (fun _ _ => 0) (fun _ _ => 0) 0 0 0 0) noX) 2 (m) (5 * m) 79 [some (.ref a0), some (.int (nI i))] [] [eO 4 a0 [.ref a1, .ref a5, .ref a12, .ref a13, .ref a14, .int 0, .int 0, .int 0, .int 0], eO 3 a1 [.ref a2, .ref a3, .ref a4, .int 0, .null, .int 0, .int 0], eI a2 160 (fun _ => 0), eI a3 64 (fun _ => 0), eI a4 160 (fun _ => 0), eO 1 a5 [.ref a6, .ref a7, .ref a8, .ref a9, .ref a10, .ref a11, .int 0], eI a6 160 (fun _ => 30), eI a7 160 (fun _ => 1), eI a8 160 (fun _ => 0), eZ a9 160 (fun _ => 0), eZ a10 160 (fun _ => 0), eI a11 8 (fun _ => 5), eI a12 8 (fun _ => 0), eQ 3 a13 5 (fun j => if j < 5 then some (sa j) else none), eQ 4 a14 40 (fun j => if j < i then some (sb j) else none), eS 2 sa 5 9 (fun _ _ => 0), eS 0 sb i 5 (fun _ _ => 0)] := by
  intro m
  induction m with
  | zero =>
    intro i hi
    obtain rfl : i = 40 := by omega
    intro sb
    refine v_iload_n (pc := 79) dX4_init_79 rfl rfl ?_
    refine v_bipush (pc := 80) (v := 40) dX4_init_80 rfl ?_
    refine v_icmp_ge (pc := 82) (tgt := 104) dX4_init_82 (by decide) (fun c82 => ?_) (fun c82 => absurd (nI_le (a := 40) (b := 40) (Nat.le_refl _) (by decide)) c82)
    have c82 : 40 ≤ 40 := (nI_leI (a := 40) (b := 40) (by omega) (by omega)).mp c82
    refine v_cgQ 13 (g := fun j => some (sS (mkW a0 a1 a2 a3 a4 a5 a6 a7 a8 a9 a10 a11 a12 a13 a14 sa sb) j)) rfl (fun j hj => by rw [if_pos hj, mkW_s hj]) ?_
    try dsimp only [wb, LakeM, WaysM, WorldM, List.set_cons_succ, List.set_cons_zero, List.append_nil, List.nil_append, List.cons_append, Option.toList, Nat.sub_zero]
    refine v_cgQ 14 (g := fun j => some (sB (mkW a0 a1 a2 a3 a4 a5 a6 a7 a8 a9 a10 a11 a12 a13 a14 sa sb) j)) rfl (fun j hj => by rw [if_pos hj, mkW_b]) ?_
    try dsimp only [wb, LakeM, WaysM, WorldM, List.set_cons_succ, List.set_cons_zero, List.append_nil, List.nil_append, List.cons_append, Option.toList, Nat.sub_zero]
    refine v_cgA 15 (sb := sS (mkW a0 a1 a2 a3 a4 a5 a6 a7 a8 a9 a10 a11 a12 a13 a14 sa sb)) rfl (fun j hj => (mkW_s hj).symm) ?_
    try dsimp only [wb, LakeM, WaysM, WorldM, List.set_cons_succ, List.set_cons_zero, List.append_nil, List.nil_append, List.cons_append, Option.toList, Nat.sub_zero]
    refine v_cgA 16 (sb := sB (mkW a0 a1 a2 a3 a4 a5 a6 a7 a8 a9 a10 a11 a12 a13 a14 sa sb)) rfl (fun j hj => (mkW_b j).symm) ?_
    try dsimp only [wb, LakeM, WaysM, WorldM, List.set_cons_succ, List.set_cons_zero, List.append_nil, List.nil_append, List.cons_append, Option.toList, Nat.sub_zero]
    refine v_vret (pc := 104) rfl (by rw [hM0]; exact Nat.le_of_ble_eq_true rfl) dX4_init_104 ?_
    exact ⟨rfl, mkW a0 a1 a2 a3 a4 a5 a6 a7 a8 a9 a10 a11 a12 a13 a14 sa sb, rfl, rfl⟩
  | succ m ih =>
    intro i hi
    intro sb
    refine v_room (ck' := m + 1) (sk' := 5 * m + 5) (by omega) (by omega) ?_
    refine v_iload_n (pc := 79) dX4_init_79 rfl rfl ?_
    refine v_bipush (pc := 80) (v := 40) dX4_init_80 rfl ?_
    refine v_icmp_ge (pc := 82) (tgt := 104) dX4_init_82 (by decide) (fun c82 => absurd c82 (nI_ge (a := i) (b := 40) (by omega) (by decide))) (fun c82 => ?_)
    have c82 : ¬ 40 ≤ i := fun h => c82 ((nI_leI (a := 40) (b := i) (by omega) (by omega)).mpr h)
    refine v_aload_nR (pc := 85) dX4_init_85 rfl rfl ?_
    refine v_get (pc := 86) 4 0 fg_X4_37 rfl rfl dX4_init_86 ?_
    refine v_iload_n (pc := 89) dX4_init_89 rfl rfl ?_
    refine v_new (pc := 90) (ci := 0) (fs := [.int 0, .int 0, .int 0, .int 0, .int 0]) rfl layX0 tyX0_ok q97 q143 q7 (fun j hj => by (have hj2 : j = 0 ∨ j = 1 ∨ j = 2 ∨ j = 3 ∨ j = 4 := by omega); rcases hj2 with rfl | rfl | rfl | rfl | rfl <;> rfl) (by omega) (by omega) dX4_init_90 (fun z90 => ?_)
    try dsimp only [wb, LakeM, WaysM, WorldM, List.set_cons_succ, List.set_cons_zero, List.append_nil, List.nil_append, List.cons_append, Option.toList, Nat.sub_zero]
    refine v_dup (pc := 93) dX4_init_93 rfl ?_
    refine v_callIN0 (pc := 94) (c_X0_init ) cm_X0_init rfl rfl q144 q145 [17] (by rfl) (by decide) (fun _ _ h => h) (by omega) (by omega) (by decide) (Nat.le_of_ble_eq_true rfl) dX4_init_94 (fun v94 M94 hQ94 => ?_)
    obtain ⟨rfl, rfl⟩ := hQ94
    try dsimp only [wb, LakeM, WaysM, WorldM, List.set_cons_succ, List.set_cons_zero, List.append_nil, List.nil_append, List.cons_append, Option.toList, Nat.sub_zero]
    refine v_aastX (pc := 97) 14 (qk := 17) (i0 := 0) rfl (fun _ => rfl) rfl rfl rfl (vp_in_nI (by omega) (by decide)) dX4_init_97 ?_
    try dsimp only [wb, LakeM, WaysM, WorldM, List.set_cons_succ, List.set_cons_zero, List.append_nil, List.nil_append, List.cons_append, Option.toList, Nat.sub_zero]
    refine v_iinc (pc := 98) (v := nI (i + 1)) dX4_init_98 rfl (nI_1 _) (by decide) rfl ?_
    refine v_goto (pc := 101) (tgt := 79) dX4_init_101 (by decide) ?_
    rw [nI_clamp (by omega), famQ]
    refine v_fam 16 (M1 := [eO 4 a0 [.ref a1, .ref a5, .ref a12, .ref a13, .ref a14, .int 0, .int 0, .int 0, .int 0], eO 3 a1 [.ref a2, .ref a3, .ref a4, .int 0, .null, .int 0, .int 0], eI a2 160 (fun _ => 0), eI a3 64 (fun _ => 0), eI a4 160 (fun _ => 0), eO 1 a5 [.ref a6, .ref a7, .ref a8, .ref a9, .ref a10, .ref a11, .int 0], eI a6 160 (fun _ => 30), eI a7 160 (fun _ => 1), eI a8 160 (fun _ => 0), eZ a9 160 (fun _ => 0), eZ a10 160 (fun _ => 0), eI a11 8 (fun _ => 5), eI a12 8 (fun _ => 0), eQ 3 a13 5 (fun j => if j < 5 then some (sa j) else none), eQ 4 a14 40 (fun j => if j < i + 1 then some ((fun j => if j = i then z90 else sb j) j) else none), eS 2 sa 5 9 (fun _ _ => 0), eS 0 sb i 5 (fun _ _ => 0)]) (n := i) (q := z90) rfl rfl rfl ?_
    have k9 := ih (i + 1) (by omega) (fun j => if j = i then z90 else sb j)
    refine v_room (ck' := m) (sk' := 5 * m) (by omega) (by omega) ?_
    exact k9
set_option maxRecDepth 100000 in
set_option maxHeartbeats 4000000 in
theorem lp_X4_is {G : Cx} {a0 a1 a2 a3 a4 a5 a6 a7 a8 a9 a10 a11 a12 a13 a14 sz : Nat} {M0 : List ME} (hM0 : M0.length = 1) : ∀ (m i : Nat), m + i = 5 → ∀ sa : Nat → Nat, V G Y_X4_init (ZM G M0 sz (fun v M' => v = none ∧ ∃ w : Nat → Nat, w 0 = a0 ∧ M' = WorldM w (fun _ => 0) (fun _ => 0) (fun _ => 0) 0 .null 0 0 (fun _ => 30) (fun _ => 1) (fun _ => 0) (fun _ => 0) (fun _ => 0) (fun _ => 5) 0 (fun _ => 0) (fun _ _ => 0) (fun _ _ => 0) 0 0 0 0) noX) 2 (m + 40) (9 * m + 200) 53 [some (.ref a0), some (.int (nI i))] [] [eO 4 a0 [.ref a1, .ref a5, .ref a12, .ref a13, .ref a14, .int 0, .int 0, .int 0, .int 0], eO 3 a1 [.ref a2, .ref a3, .ref a4, .int 0, .null, .int 0, .int 0], eI a2 160 (fun _ => 0), eI a3 64 (fun _ => 0), eI a4 160 (fun _ => 0), eO 1 a5 [.ref a6, .ref a7, .ref a8, .ref a9, .ref a10, .ref a11, .int 0], eI a6 160 (fun _ => 30), eI a7 160 (fun _ => 1), eI a8 160 (fun _ => 0), eZ a9 160 (fun _ => 0), eZ a10 160 (fun _ => 0), eI a11 8 (fun _ => 5), eI a12 8 (fun _ => 0), eQ 3 a13 5 (fun j => if j < i then some (sa j) else none), eQ 4 a14 40 (fun _ => none), eS 2 sa i 9 (fun _ _ => 0)] := by
  intro m
  induction m with
  | zero =>
    intro i hi
    obtain rfl : i = 5 := by omega
    intro sa
    refine v_room (ck' := 40) (sk' := 200) (by omega) (by omega) ?_
    refine v_iload_n (pc := 53) dX4_init_53 rfl rfl ?_
    refine v_iconst (pc := 54) (v := 5) dX4_init_54 rfl ?_
    refine v_icmp_ge (pc := 55) (tgt := 77) dX4_init_55 (by decide) (fun c55 => ?_) (fun c55 => absurd (nI_le (a := 5) (b := 5) (Nat.le_refl _) (by decide)) c55)
    have c55 : 5 ≤ 5 := (nI_leI (a := 5) (b := 5) (by omega) (by omega)).mp c55
    refine v_iconst (pc := 77) (v := 0) dX4_init_77 rfl ?_
    refine v_istore_n (pc := 78) dX4_init_78 rfl (by decide) rfl ?_
    refine v_fam0 0 5 ?_
    try dsimp only [wb, LakeM, WaysM, WorldM, List.set_cons_succ, List.set_cons_zero, List.append_nil, List.nil_append, List.cons_append, Option.toList, Nat.sub_zero]
    refine v_cgQ 14 (g := fun j => if j < 0 then some ((fun _ => 0 : Nat → Nat) j) else none) rfl (fun j hj => (if_neg (by omega)).symm) ?_
    try dsimp only [wb, LakeM, WaysM, WorldM, List.set_cons_succ, List.set_cons_zero, List.append_nil, List.nil_append, List.cons_append, Option.toList, Nat.sub_zero]
    exact lp_X4_ib hM0 40 0 (by omega) (fun _ => 0)
  | succ m ih =>
    intro i hi
    intro sa
    refine v_room (ck' := m + 40 + 1) (sk' := 9 * m + 200 + 9) (by omega) (by omega) ?_
    refine v_iload_n (pc := 53) dX4_init_53 rfl rfl ?_
    refine v_iconst (pc := 54) (v := 5) dX4_init_54 rfl ?_
    refine v_icmp_ge (pc := 55) (tgt := 77) dX4_init_55 (by decide) (fun c55 => absurd c55 (nI_ge (a := i) (b := 5) (by omega) (by decide))) (fun c55 => ?_)
    have c55 : ¬ 5 ≤ i := fun h => c55 ((nI_leI (a := 5) (b := i) (by omega) (by omega)).mpr h)
    refine v_aload_nR (pc := 58) dX4_init_58 rfl rfl ?_
    refine v_get (pc := 59) 3 0 fg_X4_31 rfl rfl dX4_init_59 ?_
    refine v_iload_n (pc := 62) dX4_init_62 rfl rfl ?_
    refine v_new (pc := 63) (ci := 2) (fs := [.int 0, .int 0, .int 0, .int 0, .int 0, .int 0, .int 0, .int 0, .int 0]) rfl layX2 tyX2_ok q95 q99 q6 (fun j hj => by (have hj2 : j = 0 ∨ j = 1 ∨ j = 2 ∨ j = 3 ∨ j = 4 ∨ j = 5 ∨ j = 6 ∨ j = 7 ∨ j = 8 := by omega); rcases hj2 with rfl | rfl | rfl | rfl | rfl | rfl | rfl | rfl | rfl <;> rfl) (by omega) (by omega) dX4_init_63 (fun z63 => ?_)
    try dsimp only [wb, LakeM, WaysM, WorldM, List.set_cons_succ, List.set_cons_zero, List.append_nil, List.nil_append, List.cons_append, Option.toList, Nat.sub_zero]
    refine v_dup (pc := 66) dX4_init_66 rfl ?_
    refine v_callIN0 (pc := 67) (c_X2_init ) cm_X2_init rfl rfl q100 q101 [16] (by rfl) (by decide) (fun _ _ h => h) (by omega) (by omega) (by decide) (Nat.le_of_ble_eq_true rfl) dX4_init_67 (fun v67 M67 hQ67 => ?_)
    obtain ⟨rfl, rfl⟩ := hQ67
    try dsimp only [wb, LakeM, WaysM, WorldM, List.set_cons_succ, List.set_cons_zero, List.append_nil, List.nil_append, List.cons_append, Option.toList, Nat.sub_zero]
    refine v_aastX (pc := 70) 13 (qk := 16) (i0 := 0) rfl (fun _ => rfl) rfl rfl rfl (vp_in_nI (by omega) (by decide)) dX4_init_70 ?_
    try dsimp only [wb, LakeM, WaysM, WorldM, List.set_cons_succ, List.set_cons_zero, List.append_nil, List.nil_append, List.cons_append, Option.toList, Nat.sub_zero]
    refine v_iinc (pc := 71) (v := nI (i + 1)) dX4_init_71 rfl (nI_1 _) (by decide) rfl ?_
    refine v_goto (pc := 74) (tgt := 53) dX4_init_74 (by decide) ?_
    rw [nI_clamp (by omega), famQ]
    refine v_fam 15 (M1 := [eO 4 a0 [.ref a1, .ref a5, .ref a12, .ref a13, .ref a14, .int 0, .int 0, .int 0, .int 0], eO 3 a1 [.ref a2, .ref a3, .ref a4, .int 0, .null, .int 0, .int 0], eI a2 160 (fun _ => 0), eI a3 64 (fun _ => 0), eI a4 160 (fun _ => 0), eO 1 a5 [.ref a6, .ref a7, .ref a8, .ref a9, .ref a10, .ref a11, .int 0], eI a6 160 (fun _ => 30), eI a7 160 (fun _ => 1), eI a8 160 (fun _ => 0), eZ a9 160 (fun _ => 0), eZ a10 160 (fun _ => 0), eI a11 8 (fun _ => 5), eI a12 8 (fun _ => 0), eQ 3 a13 5 (fun j => if j < i + 1 then some ((fun j => if j = i then z63 else sa j) j) else none), eQ 4 a14 40 (fun _ => none), eS 2 sa i 9 (fun _ _ => 0)]) (n := i) (q := z63) rfl rfl rfl ?_
    have k9 := ih (i + 1) (by omega) (fun j => if j = i then z63 else sa j)
    refine v_room (ck' := m + 40) (sk' := 9 * m + 200) (by omega) (by omega) ?_
    exact k9
set_option maxRecDepth 100000 in
set_option maxHeartbeats 4000000 in
theorem c_X4_init {G : Cx} {a0 : Nat} : Mt G Y_X4_init 2 59 1504 [.ref a0] [eO 4 a0 [.null, .null, .null, .null, .null, .int 0, .int 0, .int 0, .int 0]] (fun v M' => v = none ∧ ∃ w : Nat → Nat, w 0 = a0 ∧ M' = WorldM w (fun _ => 0) (fun _ => 0) (fun _ => 0) 0 .null 0 0 (fun _ => 30) (fun _ => 1) (fun _ => 0) (fun _ => 0) (fun _ => 0) (fun _ => 5) 0 (fun _ => 0) (fun _ _ => 0) (fun _ _ => 0) 0 0 0 0) noX := by
  refine Mt.of (L := [some (.ref a0), none]) rfl (by decide) (by simp [lg_sl, Value.category]) ⟨rfl, trivial⟩ (fun sz => ?_)
  refine v_aload_nR (pc := 0) dX4_init_0 rfl rfl ?_
  refine v_objInit (pc := 1) q31 q24 q25 (by decide) (Nat.le_of_ble_eq_true rfl) dX4_init_1 ?_
  refine v_aload_nR (pc := 4) dX4_init_4 rfl rfl ?_
  refine v_new (pc := 5) (ci := 3) (fs := [.null, .null, .null, .int 0, .null, .int 0, .int 0]) rfl layX3 tyX3_ok q32 q33 q3 (fun j hj => by (have hj2 : j = 0 ∨ j = 1 ∨ j = 2 ∨ j = 3 ∨ j = 4 ∨ j = 5 ∨ j = 6 := by omega); rcases hj2 with rfl | rfl | rfl | rfl | rfl | rfl | rfl <;> rfl) (by decide) (by decide) dX4_init_5 (fun z5 => ?_)
  try dsimp only [wb, LakeM, WaysM, WorldM, List.set_cons_succ, List.set_cons_zero, List.append_nil, List.nil_append, List.cons_append, Option.toList, Nat.sub_zero]
  refine v_dup (pc := 8) dX4_init_8 rfl ?_
  refine v_callIN0 (pc := 9) (c_X3_init ) cm_X3_init rfl rfl q34 q35 [1] (by rfl) (by decide) (fun _ _ h => h) (by decide) (by decide) (by decide) (Nat.le_of_ble_eq_true rfl) dX4_init_9 (fun v9 M9 hQ9 => ?_)
  obtain ⟨rfl, x1, x2, x3, rfl⟩ := hQ9
  try dsimp only [wb, LakeM, WaysM, WorldM, List.set_cons_succ, List.set_cons_zero, List.append_nil, List.nil_append, List.cons_append, Option.toList, Nat.sub_zero]
  refine v_put (pc := 12) 0 0 fp_X4_init_12 rfl rfl rfl (Nat.le_of_ble_eq_true rfl) dX4_init_12 ?_
  try dsimp only [wb, LakeM, WaysM, WorldM, List.set_cons_succ, List.set_cons_zero, List.append_nil, List.nil_append, List.cons_append, Option.toList, Nat.sub_zero]
  refine v_aload_nR (pc := 15) dX4_init_15 rfl rfl ?_
  refine v_new (pc := 16) (ci := 1) (fs := [.null, .null, .null, .null, .null, .null, .int 0]) rfl layX1 tyX1_ok q61 q62 q4 (fun j hj => by (have hj2 : j = 0 ∨ j = 1 ∨ j = 2 ∨ j = 3 ∨ j = 4 ∨ j = 5 ∨ j = 6 := by omega); rcases hj2 with rfl | rfl | rfl | rfl | rfl | rfl | rfl <;> rfl) (by decide) (by decide) dX4_init_16 (fun z16 => ?_)
  try dsimp only [wb, LakeM, WaysM, WorldM, List.set_cons_succ, List.set_cons_zero, List.append_nil, List.nil_append, List.cons_append, Option.toList, Nat.sub_zero]
  refine v_dup (pc := 19) dX4_init_19 rfl ?_
  refine v_callI0 (pc := 20) (c_X1_init ) cm_X1_init rfl rfl q63 q64 [5] (by rfl) (by decide) (fun _ _ h => h) (by decide) (by decide) (by decide) (Nat.le_of_ble_eq_true rfl) dX4_init_20 (fun v20 M20 hQ20 => ?_)
  obtain ⟨rfl, y1, y2, y3, y4, y5, y6, rfl⟩ := hQ20
  try dsimp only [wb, LakeM, WaysM, WorldM, List.set_cons_succ, List.set_cons_zero, List.append_nil, List.nil_append, List.cons_append, Option.toList, Nat.sub_zero]
  refine v_put (pc := 23) 1 0 fp_X4_init_21 rfl rfl rfl (Nat.le_of_ble_eq_true rfl) dX4_init_23 ?_
  try dsimp only [wb, LakeM, WaysM, WorldM, List.set_cons_succ, List.set_cons_zero, List.append_nil, List.nil_append, List.cons_append, Option.toList, Nat.sub_zero]
  refine v_aload_nR (pc := 26) dX4_init_26 rfl rfl ?_
  refine v_bipush (pc := 27) (v := 8) dX4_init_27 rfl ?_
  refine v_newa (pc := 29) (atype := .int) 0 (N := 8) (a0 := .inl (fun _ => 0)) q60 rfl (fun _ => rfl) (fun _ h => by cases h) (fun _ => rfl) (by decide) (by decide) (by decide) (by decide) (by decide) dX4_init_29 (fun z29 => ?_)
  try dsimp only [wb, LakeM, WaysM, WorldM, List.set_cons_succ, List.set_cons_zero, List.append_nil, List.nil_append, List.cons_append, Option.toList, Nat.sub_zero]
  refine v_put (pc := 31) 2 0 fp_X4_init_25 rfl rfl rfl (Nat.le_of_ble_eq_true rfl) dX4_init_31 ?_
  try dsimp only [wb, LakeM, WaysM, WorldM, List.set_cons_succ, List.set_cons_zero, List.append_nil, List.nil_append, List.cons_append, Option.toList, Nat.sub_zero]
  refine v_aload_nR (pc := 34) dX4_init_34 rfl rfl ?_
  refine v_iconst (pc := 35) (v := 5) dX4_init_35 rfl ?_
  refine v_newq (pc := 36) 3 (N := 5) q95 q96 (fun _ => rfl) (by decide) (by decide) (by decide) (by decide) (by decide) dX4_init_36 (fun z36 => ?_)
  try dsimp only [wb, LakeM, WaysM, WorldM, List.set_cons_succ, List.set_cons_zero, List.append_nil, List.nil_append, List.cons_append, Option.toList, Nat.sub_zero]
  refine v_put (pc := 39) 3 0 fp_X4_init_31 rfl rfl rfl (Nat.le_of_ble_eq_true rfl) dX4_init_39 ?_
  try dsimp only [wb, LakeM, WaysM, WorldM, List.set_cons_succ, List.set_cons_zero, List.append_nil, List.nil_append, List.cons_append, Option.toList, Nat.sub_zero]
  refine v_aload_nR (pc := 42) dX4_init_42 rfl rfl ?_
  refine v_bipush (pc := 43) (v := 40) dX4_init_43 rfl ?_
  refine v_newq (pc := 45) 4 (N := 40) q97 q98 (fun _ => rfl) (by decide) (by decide) (by decide) (by decide) (by decide) dX4_init_45 (fun z45 => ?_)
  try dsimp only [wb, LakeM, WaysM, WorldM, List.set_cons_succ, List.set_cons_zero, List.append_nil, List.nil_append, List.cons_append, Option.toList, Nat.sub_zero]
  refine v_put (pc := 48) 4 0 fp_X4_init_37 rfl rfl rfl (Nat.le_of_ble_eq_true rfl) dX4_init_48 ?_
  try dsimp only [wb, LakeM, WaysM, WorldM, List.set_cons_succ, List.set_cons_zero, List.append_nil, List.nil_append, List.cons_append, Option.toList, Nat.sub_zero]
  refine v_iconst (pc := 51) (v := 0) dX4_init_51 rfl ?_
  refine v_istore_n (pc := 52) dX4_init_52 rfl (by decide) rfl ?_
  refine v_fam0 2 9 ?_
  try dsimp only [wb, LakeM, WaysM, WorldM, List.set_cons_succ, List.set_cons_zero, List.append_nil, List.nil_append, List.cons_append, Option.toList, Nat.sub_zero]
  refine v_cgQ 13 (g := fun j => if j < 0 then some ((fun _ => 0 : Nat → Nat) j) else none) rfl (fun j hj => (if_neg (by omega)).symm) ?_
  try dsimp only [wb, LakeM, WaysM, WorldM, List.set_cons_succ, List.set_cons_zero, List.append_nil, List.nil_append, List.cons_append, Option.toList, Nat.sub_zero]
  refine v_room (ck' := 5 + 40) (sk' := 9 * 5 + 200) (by decide) (by decide) ?_
  exact lp_X4_is rfl 5 0 (by omega) (fun _ => 0)
set_option maxRecDepth 100000 in
set_option maxHeartbeats 4000000 in
theorem c_X5_init {G : Cx} {a0 : Nat} : Mt G Y_X5_init 3 120 3030 [.ref a0] [eO 5 a0 [.null, .null]] (fun v M' => v = none ∧ ∃ w u : Nat → Nat, M' = eO 5 a0 [.ref (w 0), .ref (u 0)] :: (WorldM w (fun _ => 0) (fun _ => 0) (fun _ => 0) 0 .null 0 0 (fun _ => 30) (fun _ => 1) (fun _ => 0) (fun _ => 0) (fun _ => 0) (fun _ => 5) 0 (fun _ => 0) (fun _ _ => 0) (fun _ _ => 0) 0 0 0 0 ++ WorldM u (fun _ => 0) (fun _ => 0) (fun _ => 0) 0 .null 0 0 (fun _ => 30) (fun _ => 1) (fun _ => 0) (fun _ => 0) (fun _ => 0) (fun _ => 5) 0 (fun _ => 0) (fun _ _ => 0) (fun _ _ => 0) 0 0 0 0)) noX := by
  refine Mt.of (L := [some (.ref a0)]) rfl (by decide) (by simp [lg_sl, Value.category]) ⟨rfl, trivial⟩ (fun sz => ?_)
  refine v_aload_nR (pc := 0) dX5_init_0 rfl rfl ?_
  refine v_objInit (pc := 1) q23 q24 q25 (by decide) (Nat.le_of_ble_eq_true rfl) dX5_init_1 ?_
  refine v_aload_nR (pc := 4) dX5_init_4 rfl rfl ?_
  refine v_new (pc := 5) (ci := 4) (fs := [.null, .null, .null, .null, .null, .int 0, .int 0, .int 0, .int 0]) rfl layX4 tyX4_ok q26 q27 q2 (fun j hj => by (have hj2 : j = 0 ∨ j = 1 ∨ j = 2 ∨ j = 3 ∨ j = 4 ∨ j = 5 ∨ j = 6 ∨ j = 7 ∨ j = 8 := by omega); rcases hj2 with rfl | rfl | rfl | rfl | rfl | rfl | rfl | rfl | rfl <;> rfl) (by decide) (by decide) dX5_init_5 (fun z5 => ?_)
  try dsimp only [wb, LakeM, WaysM, WorldM, List.set_cons_succ, List.set_cons_zero, List.append_nil, List.nil_append, List.cons_append, Option.toList, Nat.sub_zero]
  refine v_dup (pc := 8) dX5_init_8 rfl ?_
  refine v_callI0 (pc := 9) (c_X4_init ) cm_X4_init rfl rfl q28 q29 [1] (by rfl) (by decide) (fun _ _ h => h) (by decide) (by decide) (by decide) (Nat.le_of_ble_eq_true rfl) dX5_init_9 (fun v9 M9 hQ9 => ?_)
  obtain ⟨rfl, w9, hw9, rfl⟩ := hQ9
  try dsimp only [wb, LakeM, WaysM, WorldM, List.set_cons_succ, List.set_cons_zero, List.append_nil, List.nil_append, List.cons_append, Option.toList, Nat.sub_zero]
  subst hw9
  refine v_put (pc := 12) 0 0 fp_X5_init_10 rfl rfl rfl (Nat.le_of_ble_eq_true rfl) dX5_init_12 ?_
  try dsimp only [wb, LakeM, WaysM, WorldM, List.set_cons_succ, List.set_cons_zero, List.append_nil, List.nil_append, List.cons_append, Option.toList, Nat.sub_zero]
  refine v_aload_nR (pc := 15) dX5_init_15 rfl rfl ?_
  refine v_new (pc := 16) (ci := 4) (fs := [.null, .null, .null, .null, .null, .int 0, .int 0, .int 0, .int 0]) rfl layX4 tyX4_ok q26 q27 q2 (fun j hj => by (have hj2 : j = 0 ∨ j = 1 ∨ j = 2 ∨ j = 3 ∨ j = 4 ∨ j = 5 ∨ j = 6 ∨ j = 7 ∨ j = 8 := by omega); rcases hj2 with rfl | rfl | rfl | rfl | rfl | rfl | rfl | rfl | rfl <;> rfl) (by decide) (by decide) dX5_init_16 (fun z16 => ?_)
  try dsimp only [wb, LakeM, WaysM, WorldM, List.set_cons_succ, List.set_cons_zero, List.append_nil, List.nil_append, List.cons_append, Option.toList, Nat.sub_zero]
  refine v_dup (pc := 19) dX5_init_19 rfl ?_
  refine v_callI0 (pc := 20) (c_X4_init ) cm_X4_init rfl rfl q28 q29 [18] (by rfl) (by decide) (fun _ _ h => h) (by decide) (by decide) (by decide) (Nat.le_of_ble_eq_true rfl) dX5_init_20 (fun v20 M20 hQ20 => ?_)
  obtain ⟨rfl, w20, hw20, rfl⟩ := hQ20
  try dsimp only [wb, LakeM, WaysM, WorldM, List.set_cons_succ, List.set_cons_zero, List.append_nil, List.nil_append, List.cons_append, Option.toList, Nat.sub_zero]
  subst hw20
  refine v_put (pc := 23) 1 0 fp_X5_init_16 rfl rfl rfl (Nat.le_of_ble_eq_true rfl) dX5_init_23 ?_
  try dsimp only [wb, LakeM, WaysM, WorldM, List.set_cons_succ, List.set_cons_zero, List.append_nil, List.nil_append, List.cons_append, Option.toList, Nat.sub_zero]
  refine v_vret (pc := 26) rfl (Nat.le_of_ble_eq_true rfl) dX5_init_26 ?_
  exact ⟨rfl, w9, w20, rfl⟩
