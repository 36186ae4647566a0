/-! the law's own model: its start; posts, sleighs and bags that are added -/
theorem fill_up {f g : Nat → Int32} {i : Nat} {x : Int32} (hx : f i = x) : upd (fa_fill f g i) i x = fa_fill f g (i + 1) := by rw [← hx]; exact fa_fill_succ f g i
/-- references to the first i of a family -/
def frf (xs : Nat → Nat) (i : Nat) : Nat → Option Nat := fun j => if j < i then some (xs j) else none
theorem frf_0 (xs : Nat → Nat) : (fun _ => none) = frf xs 0 := funext fun j => (if_neg (Nat.not_lt_zero j)).symm
theorem frf_s (xs : Nat → Nat) (i : Nat) : va_up (frf xs i) i (some (xs i)) = frf xs (i + 1) := by
  funext j
  unfold frf va_up
  by_cases h : j = i
  · subst h
    rw [if_pos rfl, if_pos (by omega)]
  · rw [if_neg h]
    show (if j < i then some (xs j) else none) = _
    by_cases h2 : j < i
    · rw [if_pos h2, if_pos (by omega)]
    · rw [if_neg h2, if_neg (by omega)]
theorem frf_at {xs : Nat → Nat} {i j : Nat} (h : j < i) : frf xs i j = some (xs j) := if_pos h
theorem nI_s (n : Nat) : nI n + 1 = nI (n + 1) := nI_1 n
set_option maxRecDepth 100000 in
set_option maxHeartbeats 4000000 in
theorem lp_X6_post {G : Cx} {v xs bs : Nat → Nat} {hh : Nat} {T N S C O PC : Nat → Int32} {ps sc bc : Nat} {SF : Nat → Nat → Int32} {MX : Nat → Int32} {BF : Nat → Nat → Int32} {H D : Nat → Int32} (hps : ps ≤ 8) (hsc : sc ≤ 5) (hbc : bc ≤ 40) {sz : Nat} {Z : ZT} {z9 c : Nat} (K : V G Y_X6_post Z 1 0 0 36 [some (.ref (v 0)), some (.int (nI c)), some (.ref z9), some (.int (nI ps))] [] ((SimM v xs bs hh T N S C O PC ps sc bc SF MX BF H D ++ [eI z9 (ps + 1) (fa_fill PC (fun _ => 0) ps)]))) : ∀ (m i : Nat), m + i = ps → V G Y_X6_post Z 1 0 0 12 [some (.ref (v 0)), some (.int (nI c)), some (.ref z9), some (.int (nI i))] [] ((SimM v xs bs hh T N S C O PC ps sc bc SF MX BF H D ++ [eI z9 (ps + 1) (fa_fill PC (fun _ => 0) i)])) := by
  intro m
  induction m with
  | zero =>
    intro i hi
    have hi2 : i = ps := by omega
    refine v_iload_n (pc := 12) dX6_post_12 rfl rfl ?_
    refine v_aload_nR (pc := 13) dX6_post_13 rfl rfl ?_
    refine v_get (pc := 14) 6 0 fg_X6_26 rfl rfl dX6_post_14 ?_
    refine v_alen (pc := 17) 6 (v := nI ps) rfl (fun _ => rfl) rfl dX6_post_17 ?_
    refine v_icmp_ge (pc := 18) (tgt := 36) dX6_post_18 (by decide) (fun c18 => ?_) (fun c18 => absurd (nI_le (a := ps) (b := i) (by omega) (by omega)) c18)
    have c18 : ps ≤ i := (nI_leI (a := ps) (b := i) (by omega) (by omega)).mp c18
    rw [hi2]
    exact K
  | succ m ih =>
    intro i hi
    refine v_iload_n (pc := 12) dX6_post_12 rfl rfl ?_
    refine v_aload_nR (pc := 13) dX6_post_13 rfl rfl ?_
    refine v_get (pc := 14) 6 0 fg_X6_26 rfl rfl dX6_post_14 ?_
    refine v_alen (pc := 17) 6 (v := nI ps) rfl (fun _ => rfl) rfl dX6_post_17 ?_
    refine v_icmp_ge (pc := 18) (tgt := 36) dX6_post_18 (by decide) (fun c18 => absurd c18 (nI_ge (a := i) (b := ps) (by omega) (by omega))) (fun c18 => ?_)
    have c18 : ¬ ps ≤ i := fun h => c18 ((nI_leI (a := ps) (b := i) (by omega) (by omega)).mpr h)
    refine v_aload_nR (pc := 21) dX6_post_21 rfl rfl ?_
    refine v_iload_n (pc := 22) dX6_post_22 rfl rfl ?_
    refine v_aload_nR (pc := 23) dX6_post_23 rfl rfl ?_
    refine v_get (pc := 24) 6 0 fg_X6_26 rfl rfl dX6_post_24 ?_
    refine v_iload_n (pc := 27) dX6_post_27 rfl rfl ?_
    refine v_ialdN (pc := 28) 6 (k := i) rfl (by omega) (by omega) dX6_post_28 ?_
    refine v_iastN (pc := 29) 13 (k := i) rfl (by omega) (by omega) dX6_post_29 ?_
    try dsimp only [wb, SimM, List.set_cons_succ, List.set_cons_zero, List.append_nil, List.nil_append, List.cons_append, Option.toList, Nat.sub_zero]
    rw [fill_up rfl]
    refine v_iinc (pc := 30) (v := nI (i + 1)) dX6_post_30 rfl (nI_1 _) (by decide) rfl ?_
    refine v_goto (pc := 33) (tgt := 12) dX6_post_33 (by decide) ?_
    exact ih (i + 1) (by omega)
set_option maxRecDepth 100000 in
set_option maxHeartbeats 4000000 in
theorem c_X6_post {G : Cx} {v xs bs : Nat → Nat} {hh : Nat} {T N S C O PC : Nat → Int32} {ps sc bc : Nat} {SF : Nat → Nat → Int32} {MX : Nat → Int32} {BF : Nat → Nat → Int32} {H D : Nat → Int32} (hps : ps ≤ 8) (hsc : sc ≤ 5) (hbc : bc ≤ 40) {c : Nat} (hp8 : ps < 8) (hc : c < 160) : Mt G Y_X6_post 1 1 9 [.ref (v 0), .int (nI c)] (SimM v xs bs hh T N S C O PC ps sc bc SF MX BF H D) (fun v' M' => v' = none ∧ ∃ q, M' = SimM (upv v 6 q) xs bs hh (upd T c (-1)) N (upd S c 0) (upd C c 0) O (upd PC ps (nI c)) (ps + 1) sc bc SF MX BF H D) noX := by
  refine Mt.of (L := [some (.ref (v 0)), some (.int (nI c)), none, none]) rfl (by decide) (by simp [lg_sl, Value.category]) ⟨rfl, rfl, trivial⟩ (fun sz => ?_)
  refine v_aload_nR (pc := 0) dX6_post_0 rfl rfl ?_
  refine v_get (pc := 1) 6 0 fg_X6_26 rfl rfl dX6_post_1 ?_
  refine v_alen (pc := 4) 6 (v := nI ps) rfl (fun _ => rfl) rfl dX6_post_4 ?_
  refine v_iconst (pc := 5) (v := 1) dX6_post_5 rfl ?_
  refine v_iadd (pc := 6) dX6_post_6 ?_
  rw [nI_1]
  refine v_newa (pc := 7) (atype := .int) 0 (N := (ps + 1)) (a0 := .inl (fun _ => 0)) q60 rfl (fun _ => rfl) (fun _ h => by cases h) (fun _ => rfl) (nI_pos (by omega)) (nI_clamp (by omega)) (by show _ * 4 ≤ 536870912; omega) (by omega) (by omega) dX6_post_7 (fun z7 => ?_)
  try dsimp only [wb, SimM, List.set_cons_succ, List.set_cons_zero, List.append_nil, List.nil_append, List.cons_append, Option.toList, Nat.sub_zero]
  refine v_astore_nR (pc := 9) dX6_post_9 rfl (by decide) rfl ?_
  refine v_iconst (pc := 10) (v := 0) dX6_post_10 rfl ?_
  refine v_istore_n (pc := 11) dX6_post_11 rfl (by decide) rfl ?_
  rw [show (fun _ => (0 : Int32)) = (fa_fill PC (fun _ => 0) 0) from (fa_fill_0 _ _).symm]
  refine v_sub (L' := [some (.ref (v 0)), some (.int (nI c)), some (.ref z7), some (.int (nI 0))]) ⟨rfl, rfl, rfl, rfl, trivial⟩ ?_
  refine v_room (ck' := 0) (sk' := 0) (Nat.zero_le _) (Nat.zero_le _) ?_
  refine lp_X6_post (sz := 0) hps hsc hbc ?_ ps 0 (by omega)
  refine v_aload_nR (pc := 36) dX6_post_36 rfl rfl ?_
  refine v_aload_nR (pc := 37) dX6_post_37 rfl rfl ?_
  refine v_get (pc := 38) 6 0 fg_X6_26 rfl rfl dX6_post_38 ?_
  refine v_alen (pc := 41) 6 (v := nI ps) rfl (fun _ => rfl) rfl dX6_post_41 ?_
  refine v_iload_n (pc := 42) dX6_post_42 rfl rfl ?_
  refine v_iastN (pc := 43) 13 (k := ps) rfl (by omega) (by omega) dX6_post_43 ?_
  try dsimp only [wb, SimM, List.set_cons_succ, List.set_cons_zero, List.append_nil, List.nil_append, List.cons_append, Option.toList, Nat.sub_zero]
  refine v_aload_nR (pc := 44) dX6_post_44 rfl rfl ?_
  refine v_aload_nR (pc := 45) dX6_post_45 rfl rfl ?_
  refine v_put (pc := 46) 6 0 fp_X6_post_26 rfl rfl rfl (Nat.le_of_ble_eq_true rfl) dX6_post_46 ?_
  try dsimp only [wb, SimM, List.set_cons_succ, List.set_cons_zero, List.append_nil, List.nil_append, List.cons_append, Option.toList, Nat.sub_zero]
  refine v_aload_nR (pc := 49) dX6_post_49 rfl rfl ?_
  refine v_iload_n (pc := 50) dX6_post_50 rfl rfl ?_
  refine v_iconst (pc := 51) (v := -1) dX6_post_51 rfl ?_
  refine v_callV2 (pc := 52) (c_X6_ice (v := upv v 6 z7) (xs := xs) (bs := bs) (PC := upd (fa_fill PC (fun _ => 0) ps) ps (nI c)) (ps := ps + 1) (by omega) hsc hbc hc) cm_X6_ice q752 q712 q713 (ci := 6) rfl rfl (orcO 0 rfl) [0, 1, 2, 3, 4, 5, 13, 7, 8, 9, 10, 11, 12] (by rfl) (by decide) (fun _ _ h => h) (by omega) (by omega) (by decide) (Nat.le_of_ble_eq_true rfl) dX6_post_52 (fun v52 M52 hQ52 => ?_)
  obtain ⟨rfl, rfl⟩ := hQ52
  try dsimp only [wb, SimM, List.set_cons_succ, List.set_cons_zero, List.append_nil, List.nil_append, List.cons_append, Option.toList, Nat.sub_zero]
  refine v_cgI 13 (g := upd PC ps (nI c)) rfl (fun j hj => ?_) ?_
  · unfold upd
    by_cases h : j = ps
    · rw [if_pos h, if_pos h]
    · rw [if_neg h, if_neg h]
      exact fa_fill_in (by omega)
  try dsimp only [wb, SimM, List.set_cons_succ, List.set_cons_zero, List.append_nil, List.nil_append, List.cons_append, Option.toList, Nat.sub_zero]
  refine v_part [0, 1, 2, 3, 4, 5, 13, 7, 8, 9, 10, 11, 12] (M' := SimM (upv v 6 z7) xs bs hh (upd T c (-1)) N (upd S c 0) (upd C c 0) O (upd PC ps (nI c)) (ps + 1) sc bc SF MX BF H D) rfl (by decide) ?_
  refine v_vret (pc := 55) rfl (Nat.le_of_ble_eq_true rfl) dX6_post_55 ?_
  exact ⟨rfl, z7, rfl⟩
section VAAST
variable {G : Cx} {Y : MI} {Z : ZT} {d ck sk pc : Nat} {L : List (Option Value)} {st : List Value} {M : List ME}
theorem v_aastF (q0 qk : Nat) {t a n m w ci i j : Nat} {f : Nat → Option Nat} {sa : Nat → Nat} {s : Nat → Nat → Int32} {r : vw_C} (hM : M[q0]? = some (eQ t a n f)) (ht : ∀ z : Cx, (tysG z)[t]? = some (z.2.2.1 t, .object r.1)) (hMv : M[qk]? = some (eS ci sa m w s)) (hj : j < m) (hc : vwCl[ci]? = some r) (hi : i < n) (hn : n < 2 ^ 31) (hd : decode Y.2.1 pc = .ok (.aastore, 1))
    (kk : V G Y Z d ck sk (pc + 1) L st (M.set q0 (eQ t a n (va_up f i (some (sa j)))))) : V G Y Z d ck sk pc L (.ref (sa j) :: .int (nI i) :: .ref a :: st) M :=
  v_aastX q0 (qk := qk) (i0 := j) (vs := sF w s j) hM ht hMv (by show ((List.range m).map _)[j]? = _; rw [List.getElem?_map, List.getElem?_range hj]; rfl) hc (vp_in_nI hi hn) hd (by rw [nI_clamp (by omega)]; exact kk)
theorem v_aastN (q0 qk : Nat) {t a n ci i v : Nat} {f : Nat → Option Nat} {fs : List Value} {r : vw_C} (hM : M[q0]? = some (eQ t a n f)) (ht : ∀ z : Cx, (tysG z)[t]? = some (z.2.2.1 t, .object r.1)) (hMv : M[qk]? = some (eO ci v fs)) (hc : vwCl[ci]? = some r) (hi : i < n) (hn : n < 2 ^ 31) (hd : decode Y.2.1 pc = .ok (.aastore, 1))
    (kk : V G Y Z d ck sk (pc + 1) L st (M.set q0 (eQ t a n (va_up f i (some v))))) : V G Y Z d ck sk pc L (.ref v :: .int (nI i) :: .ref a :: st) M :=
  v_aastX q0 (qk := qk) (i0 := 0) hM ht hMv rfl hc (vp_in_nI hi hn) hd (by rw [nI_clamp (by omega)]; exact kk)
end VAAST
theorem sF7 (s : Nat → Nat → Int32) (j : Nat) : sF 7 s j = [.int (s j 0), .int (s j 1), .int (s j 2), .int (s j 3), .int (s j 4), .int (s j 5), .int (s j 6)] := rfl
theorem smX_beg {SF : Nat → Nat → Int32} {MX : Nat → Int32} {n : Nat} {q c r : Int32} (h2 : SF n 2 = 0) (h7 : SF n 7 = 0) : [.int r, .int 0, .int 0, .int c, .int q, .int 0, .int 0] = sF 7 (smX (begS SF n q c r) (upd MX n 0)) n := by
  rw [sF7, smX_g0, smX_g1, smX_g2, smX_g3, smX_g4, smX_g5, smX_g6, beg_0, beg_3, beg_4, beg_5, beg_k (k := 2) (by decide) (by decide) (by decide) (by decide) (by decide), beg_k (k := 7) (by decide) (by decide) (by decide) (by decide) (by decide), h2, h7]
  unfold upd
  rw [if_pos rfl]
theorem smX_bego {SF : Nat → Nat → Int32} {MX : Nat → Int32} {n : Nat} {q c r : Int32} (i k : Nat) (hi : i < n) : smX SF MX i k = smX (begS SF n q c r) (upd MX n 0) i k := by
  have e : ∀ k, begS SF n q c r i k = SF i k := fun k => beg_o (by omega)
  have e2 : upd MX n 0 i = MX i := if_neg (by omega)
  rcases k with _ | _ | _ | _ | _ | _ | _ | k <;> simp only [smX, e, e2]
theorem frf_up {xs : Nat → Nat} {n q : Nat} : ∀ j, j < n + 1 → va_up (frf xs n) n (some q) j = some (if j = n then q else xs j) := by
  intro j hj
  unfold va_up
  by_cases h : j = n
  · rw [if_pos h, if_pos h]
  · rw [if_neg h, if_neg h]
    exact frf_at (by omega)
theorem bag_row {BF : Nat → Nat → Int32} {n : Nat} {a b c : Int32} : ∀ j, j < 5 → upd (upd (upd (upd (upd (fun _ => 0) 0 c) 1 b) 2 0) 3 a) 4 (-1) j = begB BF n a b c n j := by
  intro j hj
  rcases (show j = 0 ∨ j = 1 ∨ j = 2 ∨ j = 3 ∨ j = 4 by omega) with rfl | rfl | rfl | rfl | rfl <;> simp [begB, upS, upd]
theorem bag_row_o {BF : Nat → Nat → Int32} {n : Nat} {a b c : Int32} (i k : Nat) (hi : i < n) : BF i k = begB BF n a b c i k := by
  unfold begB
  rw [upS_n _ _ (by omega), upS_n _ _ (by omega), upS_n _ _ (by omega), upS_n _ _ (by omega), upS_n _ _ (by omega)]
set_option maxRecDepth 100000 in
theorem c_X7_init {G : Cx} {q : Nat} {fs : List Value} : Mt G Y_X7_init 1 0 0 [.ref q] [eO 7 q fs] (fun v M' => v = none ∧ M' = [eO 7 q fs]) noX := by
  refine Mt.of (L := [some (.ref q)]) rfl (by decide) (by simp [lg_sl, Value.category]) ⟨rfl, trivial⟩ (fun sz => ?_)
  refine v_aload_nR (pc := 0) dX7_init_0 rfl rfl ?_
  refine v_objInit (pc := 1) q777 q24 q25 (by decide) (Nat.le_of_ble_eq_true rfl) dX7_init_1 ?_
  refine v_vret (pc := 4) rfl (Nat.le_of_ble_eq_true rfl) dX7_init_4 ?_
  exact ⟨rfl, rfl⟩
set_option maxRecDepth 100000 in
set_option maxHeartbeats 4000000 in
theorem lp_X6_come {G : Cx} {v xs bs : Nat → Nat} {hh : Nat} {T N S C O PC : Nat → Int32} {ps sc bc : Nat} {SF : Nat → Nat → Int32} {MX : Nat → Int32} {BF : Nat → Nat → Int32} {H D : Nat → Int32} (hps : ps ≤ 8) (hsc : sc ≤ 5) (hbc : bc ≤ 40) {sz : Nat} {Z : ZT} {z9 q : Nat} {r : Int32} (K : V G Y_X6_come Z 2 1 7 41 [some (.ref (v 0)), some (.int (nI q)), some (.int r), some (.ref z9), some (.int (nI sc))] [] ((SimM v xs bs hh T N S C O PC ps sc bc SF MX BF H D ++ [eQ 2 z9 (sc + 1) (frf xs sc)]))) : ∀ (m i : Nat), m + i = sc → V G Y_X6_come Z 2 1 7 14 [some (.ref (v 0)), some (.int (nI q)), some (.int r), some (.ref z9), some (.int (nI i))] [] ((SimM v xs bs hh T N S C O PC ps sc bc SF MX BF H D ++ [eQ 2 z9 (sc + 1) (frf xs i)])) := by
  intro m
  induction m with
  | zero =>
    intro i hi
    have hi2 : i = sc := by omega
    refine v_iload (pc := 14) dX6_come_14 rfl ?_
    refine v_aload_nR (pc := 16) dX6_come_16 rfl rfl ?_
    refine v_get (pc := 17) 7 0 fg_X6_31 rfl rfl dX6_come_17 ?_
    refine v_alen (pc := 20) 7 (v := nI sc) rfl (fun _ => rfl) rfl dX6_come_20 ?_
    refine v_icmp_ge (pc := 21) (tgt := 41) dX6_come_21 (by decide) (fun c21 => ?_) (fun c21 => absurd (nI_le (a := sc) (b := i) (by omega) (by omega)) c21)
    have c21 : sc ≤ i := (nI_leI (a := sc) (b := i) (by omega) (by omega)).mp c21
    rw [hi2]
    exact K
  | succ m ih =>
    intro i hi
    refine v_iload (pc := 14) dX6_come_14 rfl ?_
    refine v_aload_nR (pc := 16) dX6_come_16 rfl rfl ?_
    refine v_get (pc := 17) 7 0 fg_X6_31 rfl rfl dX6_come_17 ?_
    refine v_alen (pc := 20) 7 (v := nI sc) rfl (fun _ => rfl) rfl dX6_come_20 ?_
    refine v_icmp_ge (pc := 21) (tgt := 41) dX6_come_21 (by decide) (fun c21 => absurd c21 (nI_ge (a := i) (b := sc) (by omega) (by omega))) (fun c21 => ?_)
    have c21 : ¬ sc ≤ i := fun h => c21 ((nI_leI (a := sc) (b := i) (by omega) (by omega)).mpr h)
    refine v_aload_nR (pc := 24) dX6_come_24 rfl rfl ?_
    refine v_iload (pc := 25) dX6_come_25 rfl ?_
    refine v_aload_nR (pc := 27) dX6_come_27 rfl rfl ?_
    refine v_get (pc := 28) 7 0 fg_X6_31 rfl rfl dX6_come_28 ?_
    refine v_iload (pc := 31) dX6_come_31 rfl ?_
    refine v_aaldS (pc := 33) 7 (k := i) (by decide) rfl (by omega) (by omega) dX6_come_33 ?_
    refine v_aastF (pc := 34) 13 11 (i := i) rfl (fun _ => rfl) rfl (by omega) rfl (by omega) (by omega) dX6_come_34 ?_
    try dsimp only [wb, SimM, List.set_cons_succ, List.set_cons_zero, List.append_nil, List.nil_append, List.cons_append, Option.toList, Nat.sub_zero]
    rw [frf_s]
    refine v_iinc (pc := 35) (v := nI (i + 1)) dX6_come_35 rfl (nI_1 _) (by decide) rfl ?_
    refine v_goto (pc := 38) (tgt := 14) dX6_come_38 (by decide) ?_
    exact ih (i + 1) (by omega)
set_option maxRecDepth 100000 in
set_option maxHeartbeats 4000000 in
theorem c_X6_come {G : Cx} {v xs bs : Nat → Nat} {hh : Nat} {T N S C O PC : Nat → Int32} {ps sc bc : Nat} {SF : Nat → Nat → Int32} {MX : Nat → Int32} {BF : Nat → Nat → Int32} {H D : Nat → Int32} (hps : ps ≤ 8) (hsc : sc ≤ 5) (hbc : bc ≤ 40) {q : Nat} {r : Int32} (hs5 : sc < 5) (hq : q < ps) (h2 : SF sc 2 = 0) (h7 : SF sc 7 = 0) : Mt G Y_X6_come 2 2 12 [.ref (v 0), .int (nI q), .int r] (SimM v xs bs hh T N S C O PC ps sc bc SF MX BF H D) (fun v' M' => v' = none ∧ ∃ q7 z41, M' = SimM (upv v 7 q7) (fun j => if j = sc then z41 else xs j) bs hh T N S C O PC ps (sc + 1) bc (begS SF sc (nI q) (PC q) r) (upd MX sc 0) BF H D) noX := by
  refine Mt.of (L := [some (.ref (v 0)), some (.int (nI q)), some (.int r), none, none]) rfl (by decide) (by simp [lg_sl, Value.category]) ⟨rfl, rfl, rfl, trivial⟩ (fun sz => ?_)
  refine v_aload_nR (pc := 0) dX6_come_0 rfl rfl ?_
  refine v_get (pc := 1) 7 0 fg_X6_31 rfl rfl dX6_come_1 ?_
  refine v_alen (pc := 4) 7 (v := nI sc) rfl (fun _ => rfl) rfl dX6_come_4 ?_
  refine v_iconst (pc := 5) (v := 1) dX6_come_5 rfl ?_
  refine v_iadd (pc := 6) dX6_come_6 ?_
  rw [nI_1]
  refine v_newq (pc := 7) 2 (N := (sc + 1)) q635 q636 (fun _ => rfl) (nI_pos (by omega)) (nI_clamp (by omega)) (by omega) (by omega) (by omega) dX6_come_7 (fun z7 => ?_)
  try dsimp only [wb, SimM, List.set_cons_succ, List.set_cons_zero, List.append_nil, List.nil_append, List.cons_append, Option.toList, Nat.sub_zero]
  refine v_astore_nR (pc := 10) dX6_come_10 rfl (by decide) rfl ?_
  refine v_iconst (pc := 11) (v := 0) dX6_come_11 rfl ?_
  refine v_istore (pc := 12) dX6_come_12 (by decide) rfl ?_
  rw [frf_0 xs]
  refine v_sub (L' := [some (.ref (v 0)), some (.int (nI q)), some (.int r), some (.ref z7), some (.int (nI 0))]) ⟨rfl, rfl, rfl, rfl, rfl, trivial⟩ ?_
  refine v_room (ck' := 1) (sk' := 7) (by omega) (by omega) ?_
  refine lp_X6_come (sz := 0) hps hsc hbc ?_ sc 0 (by omega)
  refine v_new (pc := 41) (ci := 7) (fs := [.int 0, .int 0, .int 0, .int 0, .int 0, .int 0, .int 0]) rfl layX7 tyX7_ok q635 q773 q16 (fun j hj => by (have hj2 : j = 0 ∨ j = 1 ∨ j = 2 ∨ j = 3 ∨ j = 4 ∨ j = 5 ∨ j = 6 := by omega); rcases hj2 with rfl | rfl | rfl | rfl | rfl | rfl | rfl <;> rfl) (by decide) (by decide) dX6_come_41 (fun z41 => ?_)
  try dsimp only [wb, SimM, List.set_cons_succ, List.set_cons_zero, List.append_nil, List.nil_append, List.cons_append, Option.toList, Nat.sub_zero]
  refine v_dup (pc := 44) dX6_come_44 rfl ?_
  refine v_callIN0 (pc := 45) (c_X7_init ) cm_X7_init rfl rfl q774 q775 [14] (by rfl) (by decide) (fun _ _ h => h) (by decide) (by decide) (by decide) (Nat.le_of_ble_eq_true rfl) dX6_come_45 (fun v45 M45 hQ45 => ?_)
  obtain ⟨rfl, rfl⟩ := hQ45
  try dsimp only [wb, SimM, List.set_cons_succ, List.set_cons_zero, List.append_nil, List.nil_append, List.cons_append, Option.toList, Nat.sub_zero]
  refine v_astoreR (pc := 48) dX6_come_48 (by decide) rfl ?_
  refine v_aloadR (pc := 50) dX6_come_50 rfl ?_
  refine v_iload_n (pc := 52) dX6_come_52 rfl rfl ?_
  refine v_put (pc := 53) 0 14 fp_X6_come_68 rfl rfl rfl (Nat.le_of_ble_eq_true rfl) dX6_come_53 ?_
  try dsimp only [wb, SimM, List.set_cons_succ, List.set_cons_zero, List.append_nil, List.nil_append, List.cons_append, Option.toList, Nat.sub_zero]
  refine v_aloadR (pc := 56) dX6_come_56 rfl ?_
  refine v_aload_nR (pc := 58) dX6_come_58 rfl rfl ?_
  refine v_get (pc := 59) 6 0 fg_X6_26 rfl rfl dX6_come_59 ?_
  refine v_iload_n (pc := 62) dX6_come_62 rfl rfl ?_
  refine v_ialdN (pc := 63) 6 (k := q) rfl (by omega) (by omega) dX6_come_63 ?_
  refine v_put (pc := 64) 3 14 fp_X6_come_71 rfl rfl rfl (Nat.le_of_ble_eq_true rfl) dX6_come_64 ?_
  try dsimp only [wb, SimM, List.set_cons_succ, List.set_cons_zero, List.append_nil, List.nil_append, List.cons_append, Option.toList, Nat.sub_zero]
  refine v_aloadR (pc := 67) dX6_come_67 rfl ?_
  refine v_iload_n (pc := 69) dX6_come_69 rfl rfl ?_
  refine v_put (pc := 70) 4 14 fp_X6_come_74 rfl rfl rfl (Nat.le_of_ble_eq_true rfl) dX6_come_70 ?_
  try dsimp only [wb, SimM, List.set_cons_succ, List.set_cons_zero, List.append_nil, List.nil_append, List.cons_append, Option.toList, Nat.sub_zero]
  refine v_aload_nR (pc := 73) dX6_come_73 rfl rfl ?_
  refine v_aload_nR (pc := 74) dX6_come_74 rfl rfl ?_
  refine v_get (pc := 75) 7 0 fg_X6_31 rfl rfl dX6_come_75 ?_
  refine v_alen (pc := 78) 7 (v := nI sc) rfl (fun _ => rfl) rfl dX6_come_78 ?_
  refine v_aloadR (pc := 79) dX6_come_79 rfl ?_
  refine v_aastN (pc := 81) 13 14 (i := sc) rfl (fun _ => rfl) rfl rfl (by omega) (by omega) dX6_come_81 ?_
  try dsimp only [wb, SimM, List.set_cons_succ, List.set_cons_zero, List.append_nil, List.nil_append, List.cons_append, Option.toList, Nat.sub_zero]
  refine v_aload_nR (pc := 82) dX6_come_82 rfl rfl ?_
  refine v_aload_nR (pc := 83) dX6_come_83 rfl rfl ?_
  refine v_put (pc := 84) 7 0 fp_X6_come_31 rfl rfl rfl (Nat.le_of_ble_eq_true rfl) dX6_come_84 ?_
  try dsimp only [wb, SimM, List.set_cons_succ, List.set_cons_zero, List.append_nil, List.nil_append, List.cons_append, Option.toList, Nat.sub_zero]
  refine v_growS 11 (M1 := [eO 6 (v 0) [.int (nI hh), .ref (v 1), .ref (v 2), .ref (v 3), .ref (v 4), .ref (v 5), .ref (v 6), .ref z7, .ref (v 8), .ref (v 9), .ref (v 10)], eI (v 1) 160 T, eI (v 2) 160 N, eI (v 3) 160 S, eZ (v 4) 160 C, eI (v 5) 8 O, eI (v 6) ps PC, eQ 2 (v 7) sc (fun j => some (xs j)), eQ 5 (v 8) bc (fun j => some (bs j)), eI (v 9) 160 H, eZ (v 10) 160 D, eS 7 xs sc 7 (smX SF MX), eG bs bc 5 BF, eQ 2 z7 (sc + 1) (va_up (frf xs sc) sc (some z41))]) (n := sc) (t := smX (begS SF sc (nI q) (PC q) r) (upd MX sc 0)) rfl (smX_beg h2 h7) rfl (fun i k hi => smX_bego i k hi) ?_
  try dsimp only [wb, SimM, List.set_cons_succ, List.set_cons_zero, List.append_nil, List.nil_append, List.cons_append, Option.toList, Nat.sub_zero]
  refine v_cgQ 13 (g := fun j => some (if j = sc then z41 else xs j)) rfl frf_up ?_
  try dsimp only [wb, SimM, List.set_cons_succ, List.set_cons_zero, List.append_nil, List.nil_append, List.cons_append, Option.toList, Nat.sub_zero]
  refine v_part [0, 1, 2, 3, 4, 5, 6, 13, 8, 9, 10, 11, 12] (M' := SimM (upv v 7 z7) (fun j => if j = sc then z41 else xs j) bs hh T N S C O PC ps (sc + 1) bc (begS SF sc (nI q) (PC q) r) (upd MX sc 0) BF H D) rfl (by decide) ?_
  refine v_vret (pc := 87) rfl (Nat.le_of_ble_eq_true rfl) dX6_come_87 ?_
  exact ⟨rfl, z7, z41, rfl⟩
set_option maxRecDepth 100000 in
set_option maxHeartbeats 4000000 in
theorem lp_X6_bag {G : Cx} {v xs bs : Nat → Nat} {hh : Nat} {T N S C O PC : Nat → Int32} {ps sc bc : Nat} {SF : Nat → Nat → Int32} {MX : Nat → Int32} {BF : Nat → Nat → Int32} {H D : Nat → Int32} (hps : ps ≤ 8) (hsc : sc ≤ 5) (hbc : bc ≤ 40) {sz : Nat} {Z : ZT} {z9 : Nat} {a b c : Int32} (K : V G Y_X6_bag Z 0 1 5 43 [some (.ref (v 0)), some (.int a), some (.int b), some (.int c), some (.ref z9), some (.int (nI bc))] [] ((SimM v xs bs hh T N S C O PC ps sc bc SF MX BF H D ++ [eQ 5 z9 (bc + 1) (frf bs bc)]))) : ∀ (m i : Nat), m + i = bc → V G Y_X6_bag Z 0 1 5 15 [some (.ref (v 0)), some (.int a), some (.int b), some (.int c), some (.ref z9), some (.int (nI i))] [] ((SimM v xs bs hh T N S C O PC ps sc bc SF MX BF H D ++ [eQ 5 z9 (bc + 1) (frf bs i)])) := by
  intro m
  induction m with
  | zero =>
    intro i hi
    have hi2 : i = bc := by omega
    refine v_iload (pc := 15) dX6_bag_15 rfl ?_
    refine v_aload_nR (pc := 17) dX6_bag_17 rfl rfl ?_
    refine v_get (pc := 18) 8 0 fg_X6_36 rfl rfl dX6_bag_18 ?_
    refine v_alen (pc := 21) 8 (v := nI bc) rfl (fun _ => rfl) rfl dX6_bag_21 ?_
    refine v_icmp_ge (pc := 22) (tgt := 43) dX6_bag_22 (by decide) (fun c22 => ?_) (fun c22 => absurd (nI_le (a := bc) (b := i) (by omega) (by omega)) c22)
    have c22 : bc ≤ i := (nI_leI (a := bc) (b := i) (by omega) (by omega)).mp c22
    rw [hi2]
    exact K
  | succ m ih =>
    intro i hi
    refine v_iload (pc := 15) dX6_bag_15 rfl ?_
    refine v_aload_nR (pc := 17) dX6_bag_17 rfl rfl ?_
    refine v_get (pc := 18) 8 0 fg_X6_36 rfl rfl dX6_bag_18 ?_
    refine v_alen (pc := 21) 8 (v := nI bc) rfl (fun _ => rfl) rfl dX6_bag_21 ?_
    refine v_icmp_ge (pc := 22) (tgt := 43) dX6_bag_22 (by decide) (fun c22 => absurd c22 (nI_ge (a := i) (b := bc) (by omega) (by omega))) (fun c22 => ?_)
    have c22 : ¬ bc ≤ i := fun h => c22 ((nI_leI (a := bc) (b := i) (by omega) (by omega)).mpr h)
    refine v_aloadR (pc := 25) dX6_bag_25 rfl ?_
    refine v_iload (pc := 27) dX6_bag_27 rfl ?_
    refine v_aload_nR (pc := 29) dX6_bag_29 rfl rfl ?_
    refine v_get (pc := 30) 8 0 fg_X6_36 rfl rfl dX6_bag_30 ?_
    refine v_iload (pc := 33) dX6_bag_33 rfl ?_
    refine v_aaldS (pc := 35) 8 (k := i) (by decide) rfl (by omega) (by omega) dX6_bag_35 ?_
    refine v_aastG (pc := 36) 13 12 (i := i) rfl rfl (by omega) q638 (by omega) (by omega) dX6_bag_36 ?_
    try dsimp only [wb, SimM, List.set_cons_succ, List.set_cons_zero, List.append_nil, List.nil_append, List.cons_append, Option.toList, Nat.sub_zero]
    rw [frf_s]
    refine v_iinc (pc := 37) (v := nI (i + 1)) dX6_bag_37 rfl (nI_1 _) (by decide) rfl ?_
    refine v_goto (pc := 40) (tgt := 15) dX6_bag_40 (by decide) ?_
    exact ih (i + 1) (by omega)
set_option maxRecDepth 100000 in
set_option maxHeartbeats 4000000 in
theorem c_X6_bag {G : Cx} {v xs bs : Nat → Nat} {hh : Nat} {T N S C O PC : Nat → Int32} {ps sc bc : Nat} {SF : Nat → Nat → Int32} {MX : Nat → Int32} {BF : Nat → Nat → Int32} {H D : Nat → Int32} (hps : ps ≤ 8) (hsc : sc ≤ 5) (hbc : bc ≤ 40) {a b c : Int32} (hb8 : bc < 40) : Mt G Y_X6_bag 0 2 45 [.ref (v 0), .int a, .int b, .int c] (SimM v xs bs hh T N S C O PC ps sc bc SF MX BF H D) (fun v' M' => v' = none ∧ ∃ q8 z51, M' = SimM (upv v 8 q8) xs (fun j => if j = bc then z51 else bs j) hh T N S C O PC ps sc (bc + 1) SF MX (begB BF bc a b c) H D) noX := by
  refine Mt.of (L := [some (.ref (v 0)), some (.int a), some (.int b), some (.int c), none, none]) rfl (by decide) (by simp [lg_sl, Value.category]) ⟨rfl, rfl, rfl, rfl, trivial⟩ (fun sz => ?_)
  refine v_aload_nR (pc := 0) dX6_bag_0 rfl rfl ?_
  refine v_get (pc := 1) 8 0 fg_X6_36 rfl rfl dX6_bag_1 ?_
  refine v_alen (pc := 4) 8 (v := nI bc) rfl (fun _ => rfl) rfl dX6_bag_4 ?_
  refine v_iconst (pc := 5) (v := 1) dX6_bag_5 rfl ?_
  refine v_iadd (pc := 6) dX6_bag_6 ?_
  rw [nI_1]
  refine v_newA (pc := 7) (N := (bc + 1)) q637 q638 (nI_pos (by omega)) (nI_clamp (by omega)) (by omega) (by omega) (by omega) dX6_bag_7 (fun z7 => ?_)
  try dsimp only [wb, SimM, List.set_cons_succ, List.set_cons_zero, List.append_nil, List.nil_append, List.cons_append, Option.toList, Nat.sub_zero]
  refine v_astoreR (pc := 10) dX6_bag_10 (by decide) rfl ?_
  refine v_iconst (pc := 12) (v := 0) dX6_bag_12 rfl ?_
  refine v_istore (pc := 13) dX6_bag_13 (by decide) rfl ?_
  rw [frf_0 bs]
  refine v_sub (L' := [some (.ref (v 0)), some (.int a), some (.int b), some (.int c), some (.ref z7), some (.int (nI 0))]) ⟨rfl, rfl, rfl, rfl, rfl, rfl, trivial⟩ ?_
  refine v_room (ck' := 1) (sk' := 5) (by omega) (by omega) ?_
  refine lp_X6_bag (sz := 0) hps hsc hbc ?_ bc 0 (by omega)
  refine v_aloadR (pc := 43) dX6_bag_43 rfl ?_
  refine v_aload_nR (pc := 45) dX6_bag_45 rfl rfl ?_
  refine v_get (pc := 46) 8 0 fg_X6_36 rfl rfl dX6_bag_46 ?_
  refine v_alen (pc := 49) 8 (v := nI bc) rfl (fun _ => rfl) rfl dX6_bag_49 ?_
  refine v_iconst (pc := 50) (v := 5) dX6_bag_50 rfl ?_
  refine v_newa (pc := 51) (atype := .int) 0 (N := 5) (a0 := .inl (fun _ => 0)) q60 rfl (fun _ => rfl) (fun _ h => by cases h) (fun _ => rfl) (by decide) (by decide) (by decide) (by decide) (by decide) dX6_bag_51 (fun z51 => ?_)
  try dsimp only [wb, SimM, List.set_cons_succ, List.set_cons_zero, List.append_nil, List.nil_append, List.cons_append, Option.toList, Nat.sub_zero]
  refine v_dup (pc := 53) dX6_bag_53 rfl ?_
  refine v_iconst (pc := 54) (v := 0) dX6_bag_54 rfl ?_
  refine v_iload_n (pc := 55) dX6_bag_55 rfl rfl ?_
  refine v_iastN (pc := 56) 14 (k := 0) rfl (by omega) (by omega) dX6_bag_56 ?_
  try dsimp only [wb, SimM, List.set_cons_succ, List.set_cons_zero, List.append_nil, List.nil_append, List.cons_append, Option.toList, Nat.sub_zero]
  refine v_dup (pc := 57) dX6_bag_57 rfl ?_
  refine v_iconst (pc := 58) (v := 1) dX6_bag_58 rfl ?_
  refine v_iload_n (pc := 59) dX6_bag_59 rfl rfl ?_
  refine v_iastN (pc := 60) 14 (k := 1) rfl (by omega) (by omega) dX6_bag_60 ?_
  try dsimp only [wb, SimM, List.set_cons_succ, List.set_cons_zero, List.append_nil, List.nil_append, List.cons_append, Option.toList, Nat.sub_zero]
  refine v_dup (pc := 61) dX6_bag_61 rfl ?_
  refine v_iconst (pc := 62) (v := 2) dX6_bag_62 rfl ?_
  refine v_iconst (pc := 63) (v := 0) dX6_bag_63 rfl ?_
  refine v_iastN (pc := 64) 14 (k := 2) rfl (by omega) (by omega) dX6_bag_64 ?_
  try dsimp only [wb, SimM, List.set_cons_succ, List.set_cons_zero, List.append_nil, List.nil_append, List.cons_append, Option.toList, Nat.sub_zero]
  refine v_dup (pc := 65) dX6_bag_65 rfl ?_
  refine v_iconst (pc := 66) (v := 3) dX6_bag_66 rfl ?_
  refine v_iload_n (pc := 67) dX6_bag_67 rfl rfl ?_
  refine v_iastN (pc := 68) 14 (k := 3) rfl (by omega) (by omega) dX6_bag_68 ?_
  try dsimp only [wb, SimM, List.set_cons_succ, List.set_cons_zero, List.append_nil, List.nil_append, List.cons_append, Option.toList, Nat.sub_zero]
  refine v_dup (pc := 69) dX6_bag_69 rfl ?_
  refine v_iconst (pc := 70) (v := 4) dX6_bag_70 rfl ?_
  refine v_iconst (pc := 71) (v := -1) dX6_bag_71 rfl ?_
  refine v_iastN (pc := 72) 14 (k := 4) rfl (by omega) (by omega) dX6_bag_72 ?_
  try dsimp only [wb, SimM, List.set_cons_succ, List.set_cons_zero, List.append_nil, List.nil_append, List.cons_append, Option.toList, Nat.sub_zero]
  refine v_aastA (pc := 73) 13 14 (i := bc) rfl rfl q638 (by omega) (by omega) dX6_bag_73 ?_
  try dsimp only [wb, SimM, List.set_cons_succ, List.set_cons_zero, List.append_nil, List.nil_append, List.cons_append, Option.toList, Nat.sub_zero]
  refine v_aload_nR (pc := 74) dX6_bag_74 rfl rfl ?_
  refine v_aloadR (pc := 75) dX6_bag_75 rfl ?_
  refine v_put (pc := 77) 8 0 fp_X6_bag_36 rfl rfl rfl (Nat.le_of_ble_eq_true rfl) dX6_bag_77 ?_
  try dsimp only [wb, SimM, List.set_cons_succ, List.set_cons_zero, List.append_nil, List.nil_append, List.cons_append, Option.toList, Nat.sub_zero]
  refine v_growG 12 (M1 := [eO 6 (v 0) [.int (nI hh), .ref (v 1), .ref (v 2), .ref (v 3), .ref (v 4), .ref (v 5), .ref (v 6), .ref (v 7), .ref z7, .ref (v 9), .ref (v 10)], eI (v 1) 160 T, eI (v 2) 160 N, eI (v 3) 160 S, eZ (v 4) 160 C, eI (v 5) 8 O, eI (v 6) ps PC, eQ 2 (v 7) sc (fun j => some (xs j)), eQ 5 (v 8) bc (fun j => some (bs j)), eI (v 9) 160 H, eZ (v 10) 160 D, eS 7 xs sc 7 (smX SF MX), eG bs bc 5 BF, eQ 5 z7 (bc + 1) (va_up (frf bs bc) bc (some z51))]) (n := bc) (t := (begB BF bc a b c)) rfl bag_row rfl (fun i k hi => bag_row_o i k hi) ?_
  try dsimp only [wb, SimM, List.set_cons_succ, List.set_cons_zero, List.append_nil, List.nil_append, List.cons_append, Option.toList, Nat.sub_zero]
  refine v_cgQ 13 (g := fun j => some (if j = bc then z51 else bs j)) rfl frf_up ?_
  try dsimp only [wb, SimM, List.set_cons_succ, List.set_cons_zero, List.append_nil, List.nil_append, List.cons_append, Option.toList, Nat.sub_zero]
  refine v_part [0, 1, 2, 3, 4, 5, 6, 7, 13, 9, 10, 11, 12] (M' := SimM (upv v 8 z7) xs (fun j => if j = bc then z51 else bs j) hh T N S C O PC ps sc (bc + 1) SF MX (begB BF bc a b c) H D) rfl (by decide) ?_
  refine v_vret (pc := 80) rfl (Nat.le_of_ble_eq_true rfl) dX6_bag_80 ?_
  exact ⟨rfl, z7, z51, rfl⟩
