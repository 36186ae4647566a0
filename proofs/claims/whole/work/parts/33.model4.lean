/-! bags of a sleigh: lost, put down; what that does to weights; the reference sinks and comes on -/
theorem ifc {α : Type} {P Q : Prop} [Decidable P] [Decidable Q] {x y : α} (h : P ↔ Q) : (if P then x else y) = if Q then x else y := by
  by_cases hp : P
  · rw [if_pos hp, if_pos (h.mp hp)]
  · rw [if_neg hp, if_neg (fun q => hp (h.mpr q))]
theorem lsB_at {BF : Nat → Nat → Int32} {bc : Nat} {s : Int32} (b k : Nat) : ∀ n, lsB BF bc s n b k = if b < n ∧ b < bc ∧ BF b 2 = 1 ∧ BF b 3 = s then (if k = 3 then -1 else if k = 2 then 3 else BF b k) else BF b k
  | 0 => (if_neg (fun h => absurd h.1 (Nat.not_lt_zero _))).symm
  | n + 1 => by
    have e : ∀ k, lsB BF bc s n n k = BF n k := fun k => by
      rw [lsB_at n k n, if_neg (fun h => absurd h.1 (Nat.lt_irrefl _))]
    unfold lsB
    rw [e 2, e 3]
    by_cases h : n < bc ∧ BF n 2 = 1 ∧ BF n 3 = s
    · rw [if_pos h]
      by_cases hb : b = n
      · subst hb
        rw [if_pos ⟨Nat.lt_succ_self _, h⟩]
        by_cases h3 : k = 3
        · subst h3; rw [upS_s, if_pos rfl]
        · rw [if_neg h3, upS_n _ _ (fun q => h3 q.2)]
          by_cases h2 : k = 2
          · subst h2; rw [upS_s, if_pos rfl]
          · rw [if_neg h2, upS_n _ _ (fun q => h2 q.2), e]
      · rw [upS_n _ _ (fun q => hb q.1), upS_n _ _ (fun q => hb q.1), lsB_at b k n]
        exact ifc ⟨fun q => ⟨by omega, q.2⟩, fun q => ⟨by omega, q.2⟩⟩
    · rw [if_neg h, lsB_at b k n]
      refine ifc ⟨fun q => ⟨by omega, q.2⟩, fun q => ⟨?_, q.2⟩⟩
      have hb : ¬ b = n := fun e9 => h (by rw [← e9]; exact q.2)
      have := q.1
      omega
theorem lsB_to {BF : Nat → Nat → Int32} {bc n m : Nat} {s : Int32} (h : bc ≤ n) (hm : n ≤ m) : lsB BF bc s m = lsB BF bc s n := by
  funext b k
  rw [lsB_at, lsB_at]
  exact ifc ⟨fun q => ⟨by omega, q.2⟩, fun q => ⟨by omega, q.2⟩⟩
theorem upS_swap {B : Nat → Nat → Int32} {i j k l : Nat} {x y : Int32} (h : ¬ (i = j ∧ k = l)) : upS (upS B i k x) j l y = upS (upS B j l y) i k x := by
  funext a b
  unfold upS
  by_cases h1 : a = j ∧ b = l
  · rw [if_pos h1, if_neg (fun q => h ⟨q.1.symm.trans h1.1, q.2.symm.trans h1.2⟩), if_pos h1]
  · rw [if_neg h1]
    by_cases h2 : a = i ∧ b = k
    · rw [if_pos h2, if_pos h2]
    · rw [if_neg h2, if_neg h2, if_neg h1]
theorem pd_here {B : Nat → Nat → Int32} {i : Nat} {q h : Int32} (e : B i 1 = q) : upS (upS (upS B i 2 2) i 3 q) i 4 h = pdB B i q h := by
  unfold pdB
  rw [if_pos e.symm, upS_swap (show ¬ (i = i ∧ 2 = 3) by omega)]
theorem pd_there {B : Nat → Nat → Int32} {i : Nat} {q h : Int32} (e : ¬ B i 1 = q) : upS (upS B i 2 0) i 3 q = pdB B i q h := by
  unfold pdB
  rw [if_neg (fun x => e x.symm), upS_swap (show ¬ (i = i ∧ 2 = 3) by omega)]
theorem pdB_at {B : Nat → Nat → Int32} {i : Nat} {q h : Int32} (b k : Nat) : pdB B i q h b k = if b = i then (if k = 3 then q else if k = 2 then (if q = B i 1 then 2 else 0) else if k = 4 ∧ q = B i 1 then h else B i k) else B b k := by
  unfold pdB
  by_cases hq : q = B i 1
  · rw [if_pos hq]
    by_cases hb : b = i
    · subst hb
      rw [if_pos rfl]
      by_cases h3 : k = 3
      · subst h3; rw [if_pos rfl, upS_n _ _ (by omega), upS_n _ _ (by omega), upS_s]
      · rw [if_neg h3]
        by_cases h2 : k = 2
        · subst h2; rw [if_pos rfl, if_pos hq, upS_n _ _ (by omega), upS_s]
        · rw [if_neg h2]
          by_cases h4 : k = 4
          · subst h4; rw [if_pos ⟨rfl, hq⟩, upS_s]
          · rw [if_neg (fun x => h4 x.1), upS_n _ _ (fun x => h4 x.2), upS_n _ _ (fun x => h2 x.2), upS_n _ _ (fun x => h3 x.2)]
    · rw [if_neg hb, upS_n _ _ (fun x => hb x.1), upS_n _ _ (fun x => hb x.1), upS_n _ _ (fun x => hb x.1)]
  · rw [if_neg hq]
    by_cases hb : b = i
    · subst hb
      rw [if_pos rfl]
      by_cases h3 : k = 3
      · subst h3; rw [if_pos rfl, upS_n _ _ (by omega), upS_s]
      · rw [if_neg h3]
        by_cases h2 : k = 2
        · subst h2; rw [if_pos rfl, if_neg hq, upS_s]
        · rw [if_neg h2, if_neg (fun x => hq x.2), upS_n _ _ (fun x => h2 x.2), upS_n _ _ (fun x => h3 x.2)]
    · rw [if_neg hb, upS_n _ _ (fun x => hb x.1), upS_n _ _ (fun x => hb x.1)]
theorem pdB_2 {B : Nat → Nat → Int32} {i : Nat} {q h : Int32} : ¬ pdB B i q h i 2 = 1 := by
  rw [pdB_at]
  by_cases hq : q = B i 1
  · simp [hq]
  · simp [hq]
theorem ulB_at {BF : Nat → Nat → Int32} {bc : Nat} {s q h : Int32} (b k : Nat) : ∀ n, (ulB BF bc s q h n).1 b k = if b < n ∧ b < bc ∧ BF b 2 = 1 ∧ BF b 3 = s then pdB BF b q h b k else BF b k
  | 0 => (if_neg (fun h => absurd h.1 (Nat.not_lt_zero _))).symm
  | n + 1 => by
    have e : ∀ k, (ulB BF bc s q h n).1 n k = BF n k := fun k => by
      rw [ulB_at n k n, if_neg (fun h => absurd h.1 (Nat.lt_irrefl _))]
    unfold ulB
    rw [e 2, e 3]
    by_cases h0 : n < bc ∧ BF n 2 = 1 ∧ BF n 3 = s
    · rw [if_pos h0]
      show pdB (ulB BF bc s q h n).1 n q h b k = _
      by_cases hb : b = n
      · subst hb
        rw [if_pos ⟨Nat.lt_succ_self _, h0⟩, pdB_at, pdB_at, e 1, e k]
      · rw [pdB_at, if_neg hb, ulB_at b k n]
        exact ifc ⟨fun q => ⟨by omega, q.2⟩, fun q => ⟨by omega, q.2⟩⟩
    · rw [if_neg h0, ulB_at b k n]
      refine ifc ⟨fun q => ⟨by omega, q.2⟩, fun q => ⟨?_, q.2⟩⟩
      have hb : ¬ b = n := fun e9 => h0 (by rw [← e9]; exact q.2)
      have := q.1
      omega
theorem ulB_to {BF : Nat → Nat → Int32} {bc : Nat} {s q h : Int32} {n : Nat} (hn : bc ≤ n) : ∀ k, ulB BF bc s q h (n + k) = ulB BF bc s q h n
  | 0 => rfl
  | k + 1 => by
    have e : ulB BF bc s q h (n + k + 1) = ulB BF bc s q h (n + k) := if_neg (fun x => absurd x.1 (by omega))
    exact e.trans (ulB_to hn k)
/-- each sleigh's mail is what its bags weigh -/
def hWI (SF BF : Nat → Nat → Int32) (bc : Nat) : Prop := ∀ i, i < 5 → SF i 1 = sumN (wgF BF bc (nI i)) 40
theorem sum_cong {F E : Nat → Int32} : ∀ n, (∀ i, i < n → F i = E i) → sumN F n = sumN E n
  | 0, _ => rfl
  | n + 1, h => by
    show sumN F n + F n = sumN E n + E n
    rw [sum_cong n (fun i hi => h i (by omega)), h n (by omega)]
theorem sum_zero {F : Nat → Int32} : ∀ n, (∀ i, i < n → F i = 0) → sumN F n = 0
  | 0, _ => rfl
  | n + 1, h => by
    show sumN F n + F n = 0
    rw [sum_zero n (fun i hi => h i (by omega)), h n (by omega)]; rfl
theorem hWI.sk {SF BF : Nat → Nat → Int32} {bc n : Nat} (h : hWI SF BF bc) (hn : n < 5) (hbc : bc ≤ 40) : hWI (skS SF n) (lsB BF bc (nI n) 40) bc := by
  intro i hi
  by_cases e : i = n
  · subst e
    have e1 : skS SF i i 1 = 0 := by unfold skS; rw [upS_n _ _ (by omega), upS_n _ _ (by omega), upS_n _ _ (by omega), upS_s]
    rw [e1, sum_zero 40 (fun b hb => ?_)]
    unfold wgF
    rw [lsB_at, lsB_at]
    by_cases h4 : b < 40 ∧ b < bc ∧ BF b 2 = 1 ∧ BF b 3 = nI i
    · rw [if_pos h4, if_neg (fun q => absurd q.2.1 (show ¬ (3 : Int32) = 1 by decide))]
    · rw [if_neg h4, if_neg (fun q => h4 ⟨hb, q.1, q.2.1, by have h3 := q.2.2; rwa [if_neg h4] at h3⟩)]
  · have e1 : skS SF n i 1 = SF i 1 := by unfold skS; rw [upS_n _ _ (by omega), upS_n _ _ (by omega), upS_n _ _ (by omega), upS_n _ _ (by omega), upS_n _ _ (by omega)]
    rw [e1, h i hi]
    refine sum_cong 40 (fun b hb => ?_)
    have hne : ¬ nI n = nI i := fun q => e ((nI_eq (by omega) (by omega)).mp q).symm
    unfold wgF
    rw [lsB_at, lsB_at, lsB_at]
    by_cases h4 : b < 40 ∧ b < bc ∧ BF b 2 = 1 ∧ BF b 3 = nI n
    · rw [if_pos h4, if_pos h4, if_pos h4, if_neg (fun q => hne (h4.2.2.2.symm.trans q.2.2)), if_neg (fun q => absurd q.2.1 (show ¬ (3 : Int32) = 1 by decide))]
    · rw [if_neg h4, if_neg h4, if_neg h4]
theorem hWI.up {SF BF : Nat → Nat → Int32} {bc i k : Nat} {v : Int32} (h : hWI SF BF bc) (hk : ¬ k = 1) : hWI (upS SF i k v) BF bc := by
  intro j hj
  rw [upS_n _ _ (fun q => hk q.2.symm)]
  exact h j hj
theorem hWI.ul {SF BF : Nat → Nat → Int32} {bc n : Nat} {q hx : Int32} (h : hWI SF BF bc) (hn : n < 5) (hbc : bc ≤ 40) : hWI (upS SF n 1 0) (ulB BF bc (nI n) q hx 40).1 bc := by
  intro i hi
  by_cases e : i = n
  · subst e
    rw [upS_s, sum_zero 40 (fun b hb => ?_)]
    unfold wgF
    rw [ulB_at, ulB_at]
    by_cases h4 : b < 40 ∧ b < bc ∧ BF b 2 = 1 ∧ BF b 3 = nI i
    · rw [if_pos h4, if_neg (fun x => pdB_2 x.2.1)]
    · rw [if_neg h4, if_neg (fun q => h4 ⟨hb, q.1, q.2.1, by have h3 := q.2.2; rwa [if_neg h4] at h3⟩)]
  · rw [upS_n _ _ (fun q => e q.1), h i hi]
    refine sum_cong 40 (fun b hb => ?_)
    have hne : ¬ nI n = nI i := fun q => e ((nI_eq (by omega) (by omega)).mp q).symm
    unfold wgF
    rw [ulB_at, ulB_at, ulB_at]
    by_cases h4 : b < 40 ∧ b < bc ∧ BF b 2 = 1 ∧ BF b 3 = nI n
    · rw [if_pos h4, if_pos h4, if_pos h4, if_neg (fun q => hne (h4.2.2.2.symm.trans q.2.2)), if_neg (fun x => pdB_2 x.2.1)]
    · rw [if_neg h4, if_neg h4, if_neg h4]
theorem hWI.co {SF BF : Nat → Nat → Int32} {bc n : Nat} (h : hWI SF BF bc) : hWI (coS SF n) BF bc := by
  unfold coS
  split
  · exact h.up (by decide)
  · exact (((h.up (by decide)).up (by decide)).up (by decide)).up (by decide)
/-- the table of a sleigh that sinks, that comes on -/
theorem tbl_sk {SF : Nat → Nat → Int32} {MX : Nat → Int32} {s : Nat} : tblM (upS (upS (upS SF s 3 2) s 5 (-1)) s 7 0) MX = tblM (skS SF s) MX := by
  refine tblM_cong (fun i k hk => ?_)
  unfold skS upS
  rcases hk with rfl | rfl | rfl | rfl | rfl | rfl <;> simp
theorem tbl_co1 {SF : Nat → Nat → Int32} {MX : Nat → Int32} {s : Nat} (h : 0 < SF s 7 - 1) : upS SF s 7 (SF s 7 - 1) = coS SF s := by
  unfold coS
  rw [if_pos h]
theorem tbl_co2 {SF : Nat → Nat → Int32} {MX : Nat → Int32} {s : Nat} (h : ¬ 0 < SF s 7 - 1) (hX : MX s = SF s 6) : tblM (upS (upS (upS SF s 7 (SF s 7 - 1)) s 4 (MX s)) s 2 (if SF s 2 + 1 < 100 then SF s 2 + 1 else 100)) MX = tblM (coS SF s) MX := by
  unfold coS
  rw [if_neg h, hX]
  refine tblM_cong (fun i k hk => ?_)
  unfold upS
  rcases hk with rfl | rfl | rfl | rfl | rfl | rfl <;> simp
theorem tbl_co3 {SF : Nat → Nat → Int32} {MX : Nat → Int32} {s : Nat} (h : ¬ 0 < SF s 7 - 1) (hX : MX s = SF s 6) : tblM (upS (upS (upS (upS SF s 7 (SF s 7 - 1)) s 4 (MX s)) s 2 (if SF s 2 + 1 < 100 then SF s 2 + 1 else 100)) s 3 0) MX = tblM (rsS (coS SF s) s) MX := by
  unfold coS rsS
  rw [if_neg h, hX]
  refine tblM_cong (fun i k hk => ?_)
  unfold upS
  rcases hk with rfl | rfl | rfl | rfl | rfl | rfl <;> simp
theorem cw_4 {SF : Nat → Nat → Int32} {s : Nat} (h : ¬ 0 < SF s 7 - 1) : coS SF s s 4 = SF s 6 := by
  unfold coS
  rw [if_neg h, upS_n _ _ (by omega), upS_n _ _ (by omega), upS_s]
theorem cw_5 {SF : Nat → Nat → Int32} {s : Nat} : coS SF s s 5 = SF s 5 := by
  unfold coS
  split
  · rw [upS_n _ _ (by omega)]
  · rw [upS_n _ _ (by omega), upS_n _ _ (by omega), upS_n _ _ (by omega), upS_n _ _ (by omega)]
theorem rs_5 {SF : Nat → Nat → Int32} {s : Nat} : rsS (coS SF s) s s 5 = SF s 5 := by
  unfold rsS
  rw [upS_n _ _ (by omega), upS_n _ _ (by omega), cw_5]
set_option maxRecDepth 100000 in
set_option maxHeartbeats 4000000 in
theorem lp_X6_sink {G : Cx} {z : Nat → Nat} {th : Int32} {N O PC T S C : Nat → Int32} {ps sc bc hh : Nat} {SF BF : Nat → Nat → Int32} {MX H W : Nat → Int32} (hps : ps ≤ 8) (hsc : sc ≤ 5) (hbc : bc ≤ 40) {sz : Nat} {s : Nat} {M0 : List ME} (hM0 : M0.length = 12) : ∀ (m i : Nat), m + i = bc → V G Y_X6_sink (ZM G M0 sz (fun v M' => v = none ∧ M' = ModelM z th N O PC ps sc bc T S C SF MX (lsB BF bc (nI s) 40) hh H W) noX) 2 0 0 24 [some (.ref (z 0)), some (.int (nI s)), some (.int (nI i))] [] (ModelM z th N O PC ps sc bc T S C SF MX (lsB BF bc (nI s) i) hh H W) := by
  intro m
  induction m with
  | zero =>
    intro i hi
    have hi2 : i = bc := by omega
    refine v_iload_n (pc := 24) dX6_sink_24 rfl rfl ?_
    refine v_aload_nR (pc := 25) dX6_sink_25 rfl rfl ?_
    refine v_get (pc := 26) 6 0 fg_X6_90 rfl rfl dX6_sink_26 ?_
    refine v_icmp_ge (pc := 29) (tgt := 54) dX6_sink_29 (by decide) (fun c29 => ?_) (fun c29 => absurd (nI_le (a := bc) (b := i) (by omega) (by omega)) c29)
    have c29 : bc ≤ i := (nI_leI (a := bc) (b := i) (by omega) (by omega)).mp c29
    refine v_vret (pc := 54) rfl (by rw [hM0]; exact Nat.le_of_ble_eq_true rfl) dX6_sink_54 ?_
    exact ⟨rfl, by rw [lsB_to (m := 40) (n := i) (by omega) (by omega)]⟩
  | succ m ih =>
    intro i hi
    refine v_iload_n (pc := 24) dX6_sink_24 rfl rfl ?_
    refine v_aload_nR (pc := 25) dX6_sink_25 rfl rfl ?_
    refine v_get (pc := 26) 6 0 fg_X6_90 rfl rfl dX6_sink_26 ?_
    refine v_icmp_ge (pc := 29) (tgt := 54) dX6_sink_29 (by decide) (fun c29 => absurd c29 (nI_ge (a := i) (b := bc) (by omega) (by omega))) (fun c29 => ?_)
    have c29 : ¬ bc ≤ i := fun h => c29 ((nI_leI (a := bc) (b := i) (by omega) (by omega)).mpr h)
    refine v_aload_nR (pc := 32) dX6_sink_32 rfl rfl ?_
    refine v_iload_n (pc := 33) dX6_sink_33 rfl rfl ?_
    refine v_iload_n (pc := 34) dX6_sink_34 rfl rfl ?_
    refine v_callV2 (pc := 35) (c_X6_isOn hps hsc hbc (by omega)) cm_X6_isOn q931 q933 qs26 (ci := 6) rfl rfl (orcO 0 rfl) [0, 1, 2, 3, 4, 5, 6, 7, 8, 9, 10, 11] (by rfl) (by decide) (fun _ _ h => h) (by decide) (by decide) (by decide) (Nat.le_of_ble_eq_true rfl) dX6_sink_35 (fun v35 M35 hQ35 => ?_)
    obtain ⟨rfl, rfl⟩ := hQ35
    try dsimp only [wb, ModelM, List.set_cons_succ, List.set_cons_zero, List.append_nil, List.nil_append, List.cons_append, Option.toList, Nat.sub_zero]
    refine v_if_eq (pc := 38) (tgt := 48) dX6_sink_38 (by decide) (fun c38 => ?_) (fun c38 => ?_)
    · have c38 := bI_0.mp c38
      refine v_iinc (pc := 48) (v := nI (i + 1)) dX6_sink_48 rfl (nI_1 _) (by decide) rfl ?_
      refine v_goto (pc := 51) (tgt := 24) dX6_sink_51 (by decide) ?_
      have e : (lsB BF bc (nI s) i) = (lsB BF bc (nI s) (i + 1)) := (if_neg (fun h => c38 h.2)).symm
      rw [e]
      exact ih (i + 1) (by omega)
    · have c38 := bI_n.mp c38
      refine v_aload_nR (pc := 41) dX6_sink_41 rfl rfl ?_
      refine v_iload_n (pc := 42) dX6_sink_42 rfl rfl ?_
      refine v_iconst (pc := 43) (v := 3) dX6_sink_43 rfl ?_
      refine v_iconst (pc := 44) (v := -1) dX6_sink_44 rfl ?_
      refine v_callV3 (pc := 45) (c_X6_setBa hps hsc hbc (by omega)) cm_X6_setBa q923 q925 qs24 (ci := 6) rfl rfl (orcO 0 rfl) [0, 1, 2, 3, 4, 5, 6, 7, 8, 9, 10, 11] (by rfl) (by decide) (fun _ _ h => h) (by decide) (by decide) (by decide) (Nat.le_of_ble_eq_true rfl) dX6_sink_45 (fun v45 M45 hQ45 => ?_)
      obtain ⟨rfl, rfl⟩ := hQ45
      try dsimp only [wb, ModelM, List.set_cons_succ, List.set_cons_zero, List.append_nil, List.nil_append, List.cons_append, Option.toList, Nat.sub_zero]
      refine v_iinc (pc := 48) (v := nI (i + 1)) dX6_sink_48 rfl (nI_1 _) (by decide) rfl ?_
      refine v_goto (pc := 51) (tgt := 24) dX6_sink_51 (by decide) ?_
      have e : (lsB BF bc (nI s) (i + 1)) = _ := if_pos ⟨by omega, c38⟩
      rw [← e]
      exact ih (i + 1) (by omega)
set_option maxRecDepth 100000 in
set_option maxHeartbeats 4000000 in
theorem c_X6_sink {G : Cx} {z : Nat → Nat} {th : Int32} {N O PC T S C : Nat → Int32} {ps sc bc hh : Nat} {SF BF : Nat → Nat → Int32} {MX H W : Nat → Int32} (hps : ps ≤ 8) (hsc : sc ≤ 5) (hbc : bc ≤ 40) {s : Nat} (hs : s < 5) : Mt G Y_X6_sink 2 0 0 [.ref (z 0), .int (nI s)] (ModelM z th N O PC ps sc bc T S C SF MX BF hh H W) (fun v M' => v = none ∧ M' = ModelM z th N O PC ps sc bc T S C (skS SF s) MX (lsB BF bc (nI s) 40) hh H W) noX := by
  refine Mt.of (L := [some (.ref (z 0)), some (.int (nI s)), none]) rfl (by decide) (by simp [lg_sl, Value.category]) ⟨rfl, rfl, trivial⟩ (fun sz => ?_)
  refine v_aload_nR (pc := 0) dX6_sink_0 rfl rfl ?_
  refine v_iload_n (pc := 1) dX6_sink_1 rfl rfl ?_
  refine v_iconst (pc := 2) (v := 2) dX6_sink_2 rfl ?_
  refine v_iconst (pc := 3) (v := 2) dX6_sink_3 rfl ?_
  refine v_callV3 (pc := 4) (c_X6_set2 hps hsc hbc (by omega)) cm_X6_set q939 q941 qs27 (ci := 6) rfl rfl (orcO 0 rfl) [0, 1, 2, 3, 4, 5, 6, 7, 8, 9, 10, 11] (by rfl) (by decide) (fun _ _ h => h) (by decide) (by decide) (by decide) (Nat.le_of_ble_eq_true rfl) dX6_sink_4 (fun v4 M4 hQ4 => ?_)
  obtain ⟨rfl, rfl⟩ := hQ4
  try dsimp only [wb, ModelM, List.set_cons_succ, List.set_cons_zero, List.append_nil, List.nil_append, List.cons_append, Option.toList, Nat.sub_zero]
  refine v_aload_nR (pc := 7) dX6_sink_7 rfl rfl ?_
  refine v_iload_n (pc := 8) dX6_sink_8 rfl rfl ?_
  refine v_iconst (pc := 9) (v := 4) dX6_sink_9 rfl ?_
  refine v_iconst (pc := 10) (v := -1) dX6_sink_10 rfl ?_
  refine v_callV3 (pc := 11) (c_X6_set4 hps hsc hbc (by omega)) cm_X6_set q939 q941 qs27 (ci := 6) rfl rfl (orcO 0 rfl) [0, 1, 2, 3, 4, 5, 6, 7, 8, 9, 10, 11] (by rfl) (by decide) (fun _ _ h => h) (by decide) (by decide) (by decide) (Nat.le_of_ble_eq_true rfl) dX6_sink_11 (fun v11 M11 hQ11 => ?_)
  obtain ⟨rfl, rfl⟩ := hQ11
  try dsimp only [wb, ModelM, List.set_cons_succ, List.set_cons_zero, List.append_nil, List.nil_append, List.cons_append, Option.toList, Nat.sub_zero]
  refine v_aload_nR (pc := 14) dX6_sink_14 rfl rfl ?_
  refine v_iload_n (pc := 15) dX6_sink_15 rfl rfl ?_
  refine v_bipush (pc := 16) (v := 6) dX6_sink_16 rfl ?_
  refine v_iconst (pc := 18) (v := 0) dX6_sink_18 rfl ?_
  refine v_callV3 (pc := 19) (c_X6_set6 hps hsc hbc (by omega)) cm_X6_set q939 q941 qs27 (ci := 6) rfl rfl (orcO 0 rfl) [0, 1, 2, 3, 4, 5, 6, 7, 8, 9, 10, 11] (by rfl) (by decide) (fun _ _ h => h) (by decide) (by decide) (by decide) (Nat.le_of_ble_eq_true rfl) dX6_sink_19 (fun v19 M19 hQ19 => ?_)
  obtain ⟨rfl, rfl⟩ := hQ19
  try dsimp only [wb, ModelM, List.set_cons_succ, List.set_cons_zero, List.append_nil, List.nil_append, List.cons_append, Option.toList, Nat.sub_zero]
  refine v_iconst (pc := 22) (v := 0) dX6_sink_22 rfl ?_
  refine v_istore_n (pc := 23) dX6_sink_23 rfl (by decide) rfl ?_
  rw [tbl_sk]
  refine v_sub (L' := [some (.ref (z 0)), some (.int (nI s)), some (.int (nI 0))]) ⟨rfl, rfl, rfl, trivial⟩ ?_
  exact lp_X6_sink (SF := skS SF s) hps hsc hbc rfl bc 0 (by omega)
set_option maxRecDepth 100000 in
set_option maxHeartbeats 4000000 in
theorem lp_X6_goOn {G : Cx} {z : Nat → Nat} {th : Int32} {N O PC T S C : Nat → Int32} {ps sc bc hh : Nat} {SF BF : Nat → Nat → Int32} {MX H W : Nat → Int32} (hps : ps ≤ 8) (hsc : sc ≤ 5) (hbc : bc ≤ 40) {sz : Nat} {s q : Nat} {M0 : List ME} (hM0 : M0.length = 12) : ∀ (m i : Nat), m + i = bc → V G Y_X6_goOn (ZM G M0 sz (fun v M' => v = some (.int (ulB BF bc (nI s) (nI q) (nI hh) 40).2) ∧ M' = ModelM z th N O PC ps sc bc T S C SF MX (ulB BF bc (nI s) (nI q) (nI hh) 40).1 hh H W) noX) 2 0 0 117 [some (.ref (z 0)), some (.int (nI s)), some (.int (nI q)), some (.int (ulB BF bc (nI s) (nI q) (nI hh) i).2), some (.int (nI i)), none] [] (ModelM z th N O PC ps sc bc T S C SF MX (ulB BF bc (nI s) (nI q) (nI hh) i).1 hh H W) := by
  intro m
  induction m with
  | zero =>
    intro i hi
    have hi2 : i = bc := by omega
    refine v_iload (pc := 117) dX6_goOn_117 rfl ?_
    refine v_aload_nR (pc := 119) dX6_goOn_119 rfl rfl ?_
    refine v_get (pc := 120) 6 0 fg_X6_90 rfl rfl dX6_goOn_120 ?_
    refine v_icmp_ge (pc := 123) (tgt := 208) dX6_goOn_123 (by decide) (fun c123 => ?_) (fun c123 => absurd (nI_le (a := bc) (b := i) (by omega) (by omega)) c123)
    have c123 : bc ≤ i := (nI_leI (a := bc) (b := i) (by omega) (by omega)).mp c123
    refine v_iload_n (pc := 208) dX6_goOn_208 rfl rfl ?_
    refine v_iret (pc := 209) rfl rfl (by rw [hM0]; exact Nat.le_of_ble_eq_true rfl) dX6_goOn_209 ?_
    rw [show 40 = i + (40 - i) by omega, ulB_to (by omega)]
    exact ⟨rfl, rfl⟩
  | succ m ih =>
    intro i hi
    refine v_iload (pc := 117) dX6_goOn_117 rfl ?_
    refine v_aload_nR (pc := 119) dX6_goOn_119 rfl rfl ?_
    refine v_get (pc := 120) 6 0 fg_X6_90 rfl rfl dX6_goOn_120 ?_
    refine v_icmp_ge (pc := 123) (tgt := 208) dX6_goOn_123 (by decide) (fun c123 => absurd c123 (nI_ge (a := i) (b := bc) (by omega) (by omega))) (fun c123 => ?_)
    have c123 : ¬ bc ≤ i := fun h => c123 ((nI_leI (a := bc) (b := i) (by omega) (by omega)).mpr h)
    refine v_aload_nR (pc := 126) dX6_goOn_126 rfl rfl ?_
    refine v_iload (pc := 127) dX6_goOn_127 rfl ?_
    refine v_iload_n (pc := 129) dX6_goOn_129 rfl rfl ?_
    refine v_callV2 (pc := 130) (c_X6_isOn hps hsc hbc (by omega)) cm_X6_isOn q931 q933 qs26 (ci := 6) rfl rfl (orcO 0 rfl) [0, 1, 2, 3, 4, 5, 6, 7, 8, 9, 10, 11] (by rfl) (by decide) (fun _ _ h => h) (by decide) (by decide) (by decide) (Nat.le_of_ble_eq_true rfl) dX6_goOn_130 (fun v130 M130 hQ130 => ?_)
    obtain ⟨rfl, rfl⟩ := hQ130
    try dsimp only [wb, ModelM, List.set_cons_succ, List.set_cons_zero, List.append_nil, List.nil_append, List.cons_append, Option.toList, Nat.sub_zero]
    refine v_if_ne (pc := 133) (tgt := 139) dX6_goOn_133 (by decide) (fun c133 => ?_) (fun c133 => ?_)
    · have c133 := bI_n.mp c133
      refine v_aload_nR (pc := 139) dX6_goOn_139 rfl rfl ?_
      refine v_iload (pc := 140) dX6_goOn_140 rfl ?_
      refine v_iconst (pc := 142) (v := 1) dX6_goOn_142 rfl ?_
      refine v_callV2 (pc := 143) (c_X6_ba1 hps hsc hbc (by omega)) cm_X6_ba q919 q921 qs23 (ci := 6) rfl rfl (orcO 0 rfl) [0, 1, 2, 3, 4, 5, 6, 7, 8, 9, 10, 11] (by rfl) (by decide) (fun _ _ h => h) (by decide) (by decide) (by decide) (Nat.le_of_ble_eq_true rfl) dX6_goOn_143 (fun v143 M143 hQ143 => ?_)
      obtain ⟨rfl, rfl⟩ := hQ143
      try dsimp only [wb, ModelM, List.set_cons_succ, List.set_cons_zero, List.append_nil, List.nil_append, List.cons_append, Option.toList, Nat.sub_zero]
      refine v_iload_n (pc := 146) dX6_goOn_146 rfl rfl ?_
      refine v_icmp_ne (pc := 147) (tgt := 154) dX6_goOn_147 (by decide) (fun c147 => ?_) (fun c147 => ?_)
      · refine v_iconst (pc := 154) (v := 0) dX6_goOn_154 rfl ?_
        refine v_istore (pc := 155) dX6_goOn_155 (by decide) rfl ?_
        refine v_aload_nR (pc := 157) dX6_goOn_157 rfl rfl ?_
        refine v_iload (pc := 158) dX6_goOn_158 rfl ?_
        refine v_iload (pc := 160) dX6_goOn_160 rfl ?_
        refine v_if_eq (pc := 162) (tgt := 169) dX6_goOn_162 (by decide) (fun c162 => ?_) (fun c162 => absurd c162 (by decide))
        refine v_iconst (pc := 169) (v := 0) dX6_goOn_169 rfl ?_
        refine v_iload_n (pc := 170) dX6_goOn_170 rfl rfl ?_
        refine v_callV3 (pc := 171) (c_X6_setBa hps hsc hbc (by omega)) cm_X6_setBa q923 q925 qs24 (ci := 6) rfl rfl (orcO 0 rfl) [0, 1, 2, 3, 4, 5, 6, 7, 8, 9, 10, 11] (by rfl) (by decide) (fun _ _ h => h) (by decide) (by decide) (by decide) (Nat.le_of_ble_eq_true rfl) dX6_goOn_171 (fun v171 M171 hQ171 => ?_)
        obtain ⟨rfl, rfl⟩ := hQ171
        try dsimp only [wb, ModelM, List.set_cons_succ, List.set_cons_zero, List.append_nil, List.nil_append, List.cons_append, Option.toList, Nat.sub_zero]
        refine v_iload (pc := 174) dX6_goOn_174 rfl ?_
        refine v_if_ne (pc := 176) (tgt := 182) dX6_goOn_176 (by decide) (fun c176 => absurd c176 (by decide)) (fun c176 => ?_)
        refine v_goto (pc := 179) (tgt := 202) dX6_goOn_179 (by decide) ?_
        refine v_iinc (pc := 202) (v := nI (i + 1)) dX6_goOn_202 rfl (nI_1 _) (by decide) rfl ?_
        refine v_goto (pc := 205) (tgt := 117) dX6_goOn_205 (by decide) ?_
        have e : (ulB BF bc (nI s) (nI q) (nI hh) (i + 1)) = (pdB (ulB BF bc (nI s) (nI q) (nI hh) i).1 i (nI q) (nI hh), (ulB BF bc (nI s) (nI q) (nI hh) i).2 + 0) := by
          show (if _ then _ else _) = _
          rw [if_pos ⟨by omega, c133⟩, if_neg (fun h => c147 h.symm)]
        rw [pd_there (h := nI hh) c147]
        have k9 := ih (i + 1) (by omega)
        rw [e] at k9
        rw [Int32.add_zero] at k9
        refine v_sub ?_ k9
        exact ⟨rfl, rfl, rfl, rfl, rfl, trivial⟩
      · refine v_iconst (pc := 150) (v := 1) dX6_goOn_150 rfl ?_
        refine v_goto (pc := 151) (tgt := 155) dX6_goOn_151 (by decide) ?_
        refine v_istore (pc := 155) dX6_goOn_155 (by decide) rfl ?_
        refine v_aload_nR (pc := 157) dX6_goOn_157 rfl rfl ?_
        refine v_iload (pc := 158) dX6_goOn_158 rfl ?_
        refine v_iload (pc := 160) dX6_goOn_160 rfl ?_
        refine v_if_eq (pc := 162) (tgt := 169) dX6_goOn_162 (by decide) (fun c162 => absurd c162 (by decide)) (fun c162 => ?_)
        refine v_iconst (pc := 165) (v := 2) dX6_goOn_165 rfl ?_
        refine v_goto (pc := 166) (tgt := 170) dX6_goOn_166 (by decide) ?_
        refine v_iload_n (pc := 170) dX6_goOn_170 rfl rfl ?_
        refine v_callV3 (pc := 171) (c_X6_setBa hps hsc hbc (by omega)) cm_X6_setBa q923 q925 qs24 (ci := 6) rfl rfl (orcO 0 rfl) [0, 1, 2, 3, 4, 5, 6, 7, 8, 9, 10, 11] (by rfl) (by decide) (fun _ _ h => h) (by decide) (by decide) (by decide) (Nat.le_of_ble_eq_true rfl) dX6_goOn_171 (fun v171 M171 hQ171 => ?_)
        obtain ⟨rfl, rfl⟩ := hQ171
        try dsimp only [wb, ModelM, List.set_cons_succ, List.set_cons_zero, List.append_nil, List.nil_append, List.cons_append, Option.toList, Nat.sub_zero]
        refine v_iload (pc := 174) dX6_goOn_174 rfl ?_
        refine v_if_ne (pc := 176) (tgt := 182) dX6_goOn_176 (by decide) (fun c176 => ?_) (fun c176 => absurd c176 (by decide))
        refine v_aload_nR (pc := 182) dX6_goOn_182 rfl rfl ?_
        refine v_get (pc := 183) 11 0 fg_X6_31 rfl rfl dX6_goOn_183 ?_
        refine v_iconst (pc := 186) (v := 5) dX6_goOn_186 rfl ?_
        refine v_iload (pc := 187) dX6_goOn_187 rfl ?_
        refine v_imul (pc := 189) dX6_goOn_189 ?_
        refine v_iconst (pc := 190) (v := 4) dX6_goOn_190 rfl ?_
        refine v_iadd (pc := 191) dX6_goOn_191 ?_
        rw [show (5 : Int32) * nI i + 4 = nI (5 * i + 4) by rw [show (5 : Int32) * nI i = nI (5 * i) from pk_mul 5 i]; exact nI_add _ 4]
        refine v_aload_nR (pc := 192) dX6_goOn_192 rfl rfl ?_
        refine v_get (pc := 193) 12 0 fg_X6_34 rfl rfl dX6_goOn_193 ?_
        refine v_iconst (pc := 196) (v := 0) dX6_goOn_196 rfl ?_
        refine v_ialdN (pc := 197) 9 (k := 0) rfl (by omega) (by decide) dX6_goOn_197 ?_
        refine v_iastN (pc := 198) 8 (k := (5*i+4)) rfl (by omega) (by decide) dX6_goOn_198 ?_
        try dsimp only [wb, ModelM, List.set_cons_succ, List.set_cons_zero, List.append_nil, List.nil_append, List.cons_append, Option.toList, Nat.sub_zero]
        rw [malM_set (by decide)]
        refine v_iinc (pc := 199) dX6_goOn_199 rfl rfl (by decide) rfl ?_
        refine v_iinc (pc := 202) (v := nI (i + 1)) dX6_goOn_202 rfl (nI_1 _) (by decide) rfl ?_
        refine v_goto (pc := 205) (tgt := 117) dX6_goOn_205 (by decide) ?_
        have e : (ulB BF bc (nI s) (nI q) (nI hh) (i + 1)) = (pdB (ulB BF bc (nI s) (nI q) (nI hh) i).1 i (nI q) (nI hh), (ulB BF bc (nI s) (nI q) (nI hh) i).2 + 1) := by
          show (if _ then _ else _) = _
          rw [if_pos ⟨by omega, c133⟩, if_pos c147.symm]
        rw [pd_here c147]
        have k9 := ih (i + 1) (by omega)
        rw [e] at k9
        refine v_sub ?_ k9
        exact ⟨rfl, rfl, rfl, rfl, rfl, trivial⟩
    · have c133 := bI_0.mp c133
      refine v_goto (pc := 136) (tgt := 202) dX6_goOn_136 (by decide) ?_
      refine v_iinc (pc := 202) (v := nI (i + 1)) dX6_goOn_202 rfl (nI_1 _) (by decide) rfl ?_
      refine v_goto (pc := 205) (tgt := 117) dX6_goOn_205 (by decide) ?_
      have e : (ulB BF bc (nI s) (nI q) (nI hh) i) = (ulB BF bc (nI s) (nI q) (nI hh) (i + 1)) := (if_neg (fun h => c133 h.2)).symm
      rw [e]
      exact ih (i + 1) (by omega)
set_option maxRecDepth 100000 in
set_option maxHeartbeats 4000000 in
theorem c_X6_goOn {G : Cx} {z : Nat → Nat} {th : Int32} {N O PC T S C : Nat → Int32} {ps sc bc hh : Nat} {SF BF : Nat → Nat → Int32} {MX H W : Nat → Int32} (hps : ps ≤ 8) (hsc : sc ≤ 5) (hbc : bc ≤ 40) {s : Nat} (hs : s < sc) (h7 : SF s 3 = 1 → 0 ≤ SF s 7) (hX : SF s 3 = 1 → 0 < SF s 7 → MX s = SF s 6) (h5 : SF s 3 = 1 → 0 ≤ SF s 5 ∧ SF s 5 < nI ps) : Mt G Y_X6_goOn 2 0 0 [.ref (z 0), .int (nI s)] (ModelM z th N O PC ps sc bc T S C SF MX BF hh H W) (fun v M' => v = some (.int (mvT PC ps sc bc hh s (SF, BF, 0)).2.2) ∧ M' = ModelM z th N O PC ps sc bc T S C (mvT PC ps sc bc hh s (SF, BF, 0)).1 MX (mvT PC ps sc bc hh s (SF, BF, 0)).2.1 hh H W) noX := by
  refine Mt.of (L := [some (.ref (z 0)), some (.int (nI s)), none, none, none, none]) rfl (by decide) (by simp [lg_sl, Value.category]) ⟨rfl, rfl, trivial⟩ (fun sz => ?_)
  refine v_aload_nR (pc := 0) dX6_goOn_0 rfl rfl ?_
  refine v_iload_n (pc := 1) dX6_goOn_1 rfl rfl ?_
  refine v_iconst (pc := 2) (v := 2) dX6_goOn_2 rfl ?_
  refine v_callV2 (pc := 3) (c_X6_sl2 hps hsc hbc (by omega)) cm_X6_sl q874 q876 qs19 (ci := 6) rfl rfl (orcO 0 rfl) [0, 1, 2, 3, 4, 5, 6, 7, 8, 9, 10, 11] (by rfl) (by decide) (fun _ _ h => h) (by decide) (by decide) (by decide) (Nat.le_of_ble_eq_true rfl) dX6_goOn_3 (fun v3 M3 hQ3 => ?_)
  obtain ⟨rfl, rfl⟩ := hQ3
  try dsimp only [wb, ModelM, List.set_cons_succ, List.set_cons_zero, List.append_nil, List.nil_append, List.cons_append, Option.toList, Nat.sub_zero]
  refine v_iconst (pc := 6) (v := 1) dX6_goOn_6 rfl ?_
  refine v_icmp_ne (pc := 7) (tgt := 20) dX6_goOn_7 (by decide) (fun c7 => ?_) (fun c7 => ?_)
  · refine v_iconst (pc := 20) (v := 0) dX6_goOn_20 rfl ?_
    refine v_iret (pc := 21) rfl rfl (Nat.le_of_ble_eq_true rfl) dX6_goOn_21 ?_
    have e : mvT PC ps sc bc hh s (SF, BF, 0) = (SF, BF, 0) := if_neg (fun h => c7 h.2.1)
    rw [e]
    exact ⟨rfl, rfl⟩
  · refine v_aload_nR (pc := 10) dX6_goOn_10 rfl rfl ?_
    refine v_iload_n (pc := 11) dX6_goOn_11 rfl rfl ?_
    refine v_bipush (pc := 12) (v := 6) dX6_goOn_12 rfl ?_
    refine v_callV2 (pc := 14) (c_X6_sl6 hps hsc hbc (by omega)) cm_X6_sl q874 q876 qs19 (ci := 6) rfl rfl (orcO 0 rfl) [0, 1, 2, 3, 4, 5, 6, 7, 8, 9, 10, 11] (by rfl) (by decide) (fun _ _ h => h) (by decide) (by decide) (by decide) (Nat.le_of_ble_eq_true rfl) dX6_goOn_14 (fun v14 M14 hQ14 => ?_)
    obtain ⟨rfl, rfl⟩ := hQ14
    try dsimp only [wb, ModelM, List.set_cons_succ, List.set_cons_zero, List.append_nil, List.nil_append, List.cons_append, Option.toList, Nat.sub_zero]
    refine v_if_ne (pc := 17) (tgt := 22) dX6_goOn_17 (by decide) (fun c17 => ?_) (fun c17 => ?_)
    · have hp : 0 < SF s 7 := by
        have h0 := h7 c7
        rw [i_le, i_0] at h0
        rw [i_lt, i_0]
        rw [i_eq, i_0] at c17
        omega
      have hx := hX c7 hp
      obtain ⟨q, hq, hq5⟩ := kOf (h5 c7) (by omega)
      refine v_aload_nR (pc := 22) dX6_goOn_22 rfl rfl ?_
      refine v_iload_n (pc := 23) dX6_goOn_23 rfl rfl ?_
      refine v_bipush (pc := 24) (v := 6) dX6_goOn_24 rfl ?_
      refine v_aload_nR (pc := 26) dX6_goOn_26 rfl rfl ?_
      refine v_iload_n (pc := 27) dX6_goOn_27 rfl rfl ?_
      refine v_bipush (pc := 28) (v := 6) dX6_goOn_28 rfl ?_
      refine v_callV2 (pc := 30) (c_X6_sl6 hps hsc hbc (by omega)) cm_X6_sl q874 q876 qs19 (ci := 6) rfl rfl (orcO 0 rfl) [0, 1, 2, 3, 4, 5, 6, 7, 8, 9, 10, 11] (by rfl) (by decide) (fun _ _ h => h) (by decide) (by decide) (by decide) (Nat.le_of_ble_eq_true rfl) dX6_goOn_30 (fun v30 M30 hQ30 => ?_)
      obtain ⟨rfl, rfl⟩ := hQ30
      try dsimp only [wb, ModelM, List.set_cons_succ, List.set_cons_zero, List.append_nil, List.nil_append, List.cons_append, Option.toList, Nat.sub_zero]
      refine v_iconst (pc := 33) (v := 1) dX6_goOn_33 rfl ?_
      refine v_isub (pc := 34) dX6_goOn_34 ?_
      refine v_callV3 (pc := 35) (c_X6_set6 hps hsc hbc (by omega)) cm_X6_set q939 q941 qs27 (ci := 6) rfl rfl (orcO 0 rfl) [0, 1, 2, 3, 4, 5, 6, 7, 8, 9, 10, 11] (by rfl) (by decide) (fun _ _ h => h) (by decide) (by decide) (by decide) (Nat.le_of_ble_eq_true rfl) dX6_goOn_35 (fun v35 M35 hQ35 => ?_)
      obtain ⟨rfl, rfl⟩ := hQ35
      try dsimp only [wb, ModelM, List.set_cons_succ, List.set_cons_zero, List.append_nil, List.nil_append, List.cons_append, Option.toList, Nat.sub_zero]
      refine v_aload_nR (pc := 38) dX6_goOn_38 rfl rfl ?_
      refine v_iload_n (pc := 39) dX6_goOn_39 rfl rfl ?_
      refine v_bipush (pc := 40) (v := 6) dX6_goOn_40 rfl ?_
      refine v_callV2 (pc := 42) (c_X6_sl6 hps hsc hbc (by omega)) cm_X6_sl q874 q876 qs19 (ci := 6) rfl rfl (orcO 0 rfl) [0, 1, 2, 3, 4, 5, 6, 7, 8, 9, 10, 11] (by rfl) (by decide) (fun _ _ h => h) (by decide) (by decide) (by decide) (Nat.le_of_ble_eq_true rfl) dX6_goOn_42 (fun v42 M42 hQ42 => ?_)
      obtain ⟨rfl, rfl⟩ := hQ42
      try dsimp only [wb, ModelM, List.set_cons_succ, List.set_cons_zero, List.append_nil, List.nil_append, List.cons_append, Option.toList, Nat.sub_zero]
      rw [upS_s]
      refine v_if_le (pc := 45) (tgt := 50) dX6_goOn_45 (by decide) (fun c45 => ?_) (fun c45 => ?_)
      · have hn := Int32.not_lt.mpr c45
        refine v_aload_nR (pc := 50) dX6_goOn_50 rfl rfl ?_
        refine v_iload_n (pc := 51) dX6_goOn_51 rfl rfl ?_
        refine v_iconst (pc := 52) (v := 3) dX6_goOn_52 rfl ?_
        refine v_aload_nR (pc := 53) dX6_goOn_53 rfl rfl ?_
        refine v_iload_n (pc := 54) dX6_goOn_54 rfl rfl ?_
        refine v_iconst (pc := 55) (v := 5) dX6_goOn_55 rfl ?_
        refine v_callV2 (pc := 56) (c_X6_sl5 hps hsc hbc (by omega)) cm_X6_sl q874 q876 qs19 (ci := 6) rfl rfl (orcO 0 rfl) [0, 1, 2, 3, 4, 5, 6, 7, 8, 9, 10, 11] (by rfl) (by decide) (fun _ _ h => h) (by decide) (by decide) (by decide) (Nat.le_of_ble_eq_true rfl) dX6_goOn_56 (fun v56 M56 hQ56 => ?_)
        obtain ⟨rfl, rfl⟩ := hQ56
        try dsimp only [wb, ModelM, List.set_cons_succ, List.set_cons_zero, List.append_nil, List.nil_append, List.cons_append, Option.toList, Nat.sub_zero]
        refine v_callV3 (pc := 59) (c_X6_set3 hps hsc hbc (by omega)) cm_X6_set q939 q941 qs27 (ci := 6) rfl rfl (orcO 0 rfl) [0, 1, 2, 3, 4, 5, 6, 7, 8, 9, 10, 11] (by rfl) (by decide) (fun _ _ h => h) (by decide) (by decide) (by decide) (Nat.le_of_ble_eq_true rfl) dX6_goOn_59 (fun v59 M59 hQ59 => ?_)
        obtain ⟨rfl, rfl⟩ := hQ59
        try dsimp only [wb, ModelM, List.set_cons_succ, List.set_cons_zero, List.append_nil, List.nil_append, List.cons_append, Option.toList, Nat.sub_zero]
        refine v_aload_nR (pc := 62) dX6_goOn_62 rfl rfl ?_
        refine v_iload_n (pc := 63) dX6_goOn_63 rfl rfl ?_
        refine v_iconst (pc := 64) (v := 1) dX6_goOn_64 rfl ?_
        refine v_bipush (pc := 65) (v := 100) dX6_goOn_65 rfl ?_
        refine v_aload_nR (pc := 67) dX6_goOn_67 rfl rfl ?_
        refine v_iload_n (pc := 68) dX6_goOn_68 rfl rfl ?_
        refine v_iconst (pc := 69) (v := 1) dX6_goOn_69 rfl ?_
        refine v_callV2 (pc := 70) (c_X6_sl1 hps hsc hbc (by omega)) cm_X6_sl q874 q876 qs19 (ci := 6) rfl rfl (orcO 0 rfl) [0, 1, 2, 3, 4, 5, 6, 7, 8, 9, 10, 11] (by rfl) (by decide) (fun _ _ h => h) (by decide) (by decide) (by decide) (Nat.le_of_ble_eq_true rfl) dX6_goOn_70 (fun v70 M70 hQ70 => ?_)
        obtain ⟨rfl, rfl⟩ := hQ70
        try dsimp only [wb, ModelM, List.set_cons_succ, List.set_cons_zero, List.append_nil, List.nil_append, List.cons_append, Option.toList, Nat.sub_zero]
        refine v_iconst (pc := 73) (v := 1) dX6_goOn_73 rfl ?_
        refine v_iadd (pc := 74) dX6_goOn_74 ?_
        refine v_mmin (pc := 75) q991 q651 q16 q652 (by decide) (Nat.le_of_ble_eq_true rfl) dX6_goOn_75 ?_
        refine v_callV3 (pc := 78) (c_X6_set1 hps hsc hbc (by omega)) cm_X6_set q939 q941 qs27 (ci := 6) rfl rfl (orcO 0 rfl) [0, 1, 2, 3, 4, 5, 6, 7, 8, 9, 10, 11] (by rfl) (by decide) (fun _ _ h => h) (by decide) (by decide) (by decide) (Nat.le_of_ble_eq_true rfl) dX6_goOn_78 (fun v78 M78 hQ78 => ?_)
        obtain ⟨rfl, rfl⟩ := hQ78
        try dsimp only [wb, ModelM, List.set_cons_succ, List.set_cons_zero, List.append_nil, List.nil_append, List.cons_append, Option.toList, Nat.sub_zero]
        refine v_aload_nR (pc := 81) dX6_goOn_81 rfl rfl ?_
        refine v_iload_n (pc := 82) dX6_goOn_82 rfl rfl ?_
        refine v_iconst (pc := 83) (v := 4) dX6_goOn_83 rfl ?_
        refine v_callV2 (pc := 84) (c_X6_sl4 hps hsc hbc (by omega)) cm_X6_sl q874 q876 qs19 (ci := 6) rfl rfl (orcO 0 rfl) [0, 1, 2, 3, 4, 5, 6, 7, 8, 9, 10, 11] (by rfl) (by decide) (fun _ _ h => h) (by decide) (by decide) (by decide) (Nat.le_of_ble_eq_true rfl) dX6_goOn_84 (fun v84 M84 hQ84 => ?_)
        obtain ⟨rfl, rfl⟩ := hQ84
        try dsimp only [wb, ModelM, List.set_cons_succ, List.set_cons_zero, List.append_nil, List.nil_append, List.cons_append, Option.toList, Nat.sub_zero]
        rw [upS_n _ _ (by omega : ¬ (s = s ∧ 5 = 2)), upS_n _ _ (by omega : ¬ (s = s ∧ 5 = 4)), upS_n _ _ (by omega : ¬ (s = s ∧ 5 = 7)), hq5]
        refine v_istore_n (pc := 87) dX6_goOn_87 rfl (by decide) rfl ?_
        refine v_aload_nR (pc := 88) dX6_goOn_88 rfl rfl ?_
        refine v_iload_n (pc := 89) dX6_goOn_89 rfl rfl ?_
        refine v_iconst (pc := 90) (v := 3) dX6_goOn_90 rfl ?_
        refine v_callV2 (pc := 91) (c_X6_sl3 hps hsc hbc (by omega)) cm_X6_sl q874 q876 qs19 (ci := 6) rfl rfl (orcO 0 rfl) [0, 1, 2, 3, 4, 5, 6, 7, 8, 9, 10, 11] (by rfl) (by decide) (fun _ _ h => h) (by decide) (by decide) (by decide) (Nat.le_of_ble_eq_true rfl) dX6_goOn_91 (fun v91 M91 hQ91 => ?_)
        obtain ⟨rfl, rfl⟩ := hQ91
        try dsimp only [wb, ModelM, List.set_cons_succ, List.set_cons_zero, List.append_nil, List.nil_append, List.cons_append, Option.toList, Nat.sub_zero]
        refine v_aload_nR (pc := 94) dX6_goOn_94 rfl rfl ?_
        refine v_get (pc := 95) 4 0 fg_X6_16 rfl rfl dX6_goOn_95 ?_
        refine v_iload_n (pc := 98) dX6_goOn_98 rfl rfl ?_
        refine v_ialdN (pc := 99) 3 (k := q) rfl (by omega) (by decide) dX6_goOn_99 ?_
        rw [upS_n _ _ (by omega : ¬ (s = s ∧ 4 = 2)), upS_s]
        refine v_icmp_eq (pc := 100) (tgt := 105) dX6_goOn_100 (by decide) (fun c100 => ?_) (fun c100 => ?_)
        · refine v_aload_nR (pc := 105) dX6_goOn_105 rfl rfl ?_
          refine v_iload_n (pc := 106) dX6_goOn_106 rfl rfl ?_
          refine v_iconst (pc := 107) (v := 2) dX6_goOn_107 rfl ?_
          refine v_iconst (pc := 108) (v := 0) dX6_goOn_108 rfl ?_
          refine v_callV3 (pc := 109) (c_X6_set2 hps hsc hbc (by omega)) cm_X6_set q939 q941 qs27 (ci := 6) rfl rfl (orcO 0 rfl) [0, 1, 2, 3, 4, 5, 6, 7, 8, 9, 10, 11] (by rfl) (by decide) (fun _ _ h => h) (by decide) (by decide) (by decide) (Nat.le_of_ble_eq_true rfl) dX6_goOn_109 (fun v109 M109 hQ109 => ?_)
          obtain ⟨rfl, rfl⟩ := hQ109
          try dsimp only [wb, ModelM, List.set_cons_succ, List.set_cons_zero, List.append_nil, List.nil_append, List.cons_append, Option.toList, Nat.sub_zero]
          refine v_iconst (pc := 112) (v := 0) dX6_goOn_112 rfl ?_
          refine v_istore_n (pc := 113) dX6_goOn_113 rfl (by decide) rfl ?_
          refine v_iconst (pc := 114) (v := 0) dX6_goOn_114 rfl ?_
          refine v_istore (pc := 115) dX6_goOn_115 (by decide) rfl ?_
          rw [upS_n _ _ (by omega : ¬ (s = s ∧ 2 = 4)), upS_n _ _ (by omega : ¬ (s = s ∧ 2 = 7)), tbl_co3 hn hx]
          have e : mvT PC ps sc bc hh s (SF, BF, 0) = (rsS (coS SF s) s, (ulB BF bc (nI s) (nI q) (nI hh) 40).1, 0 + (ulB BF bc (nI s) (nI q) (nI hh) 40).2) := by
            unfold mvT
            rw [if_pos (show s < sc ∧ (SF s 3 = 1 ∧ 0 < SF s 7) from ⟨hs, c7, hp⟩)]
            dsimp only
            rw [if_pos ⟨hn, by rw [cw_4 hn, cw_5, hq5, cop_k hq hps, ← hx]; exact c100⟩, rs_5, hq5]
          rw [e, Int32.zero_add]
          refine v_sub (L' := [some (.ref (z 0)), some (.int (nI s)), some (.int (nI q)), some (.int (ulB BF bc (nI s) (nI q) (nI hh) 0).2), some (.int (nI 0)), none]) ?_ ?_
          · exact ⟨rfl, rfl, rfl, rfl, rfl, trivial⟩
          · exact lp_X6_goOn (SF := rsS (coS SF s) s) hps hsc hbc rfl bc 0 (by omega)
        · refine v_iconst (pc := 103) (v := 0) dX6_goOn_103 rfl ?_
          refine v_iret (pc := 104) rfl rfl (Nat.le_of_ble_eq_true rfl) dX6_goOn_104 ?_
          have e : mvT PC ps sc bc hh s (SF, BF, 0) = (coS SF s, BF, 0) := by
            unfold mvT
            rw [if_pos (show s < sc ∧ (SF s 3 = 1 ∧ 0 < SF s 7) from ⟨hs, c7, hp⟩)]
            dsimp only
            rw [if_neg (fun h => c100 (by rw [hx, ← cw_4 hn, h.2, cw_5, hq5, cop_k hq hps]))]
          rw [e]
          rw [upS_n _ _ (by omega : ¬ (s = s ∧ 2 = 4)), upS_n _ _ (by omega : ¬ (s = s ∧ 2 = 7)), tbl_co2 hn hx]
          exact ⟨rfl, rfl⟩
      · refine v_iconst (pc := 48) (v := 0) dX6_goOn_48 rfl ?_
        refine v_iret (pc := 49) rfl rfl (Nat.le_of_ble_eq_true rfl) dX6_goOn_49 ?_
        have e : mvT PC ps sc bc hh s (SF, BF, 0) = (coS SF s, BF, 0) := by
          unfold mvT
          rw [if_pos (show s < sc ∧ (SF s 3 = 1 ∧ 0 < SF s 7) from ⟨hs, c7, hp⟩)]
          dsimp only
          rw [if_neg (fun h => h.1 (Int32.not_le.mp c45))]
        rw [e]
        rw [tbl_co1 (MX := MX) (Int32.not_le.mp c45)]
        exact ⟨rfl, rfl⟩
    · refine v_iconst (pc := 20) (v := 0) dX6_goOn_20 rfl ?_
      refine v_iret (pc := 21) rfl rfl (Nat.le_of_ble_eq_true rfl) dX6_goOn_21 ?_
      have e : mvT PC ps sc bc hh s (SF, BF, 0) = (SF, BF, 0) := if_neg (fun h => absurd h.2.2 (show ¬ 0 < SF s 7 by rw [c17]; decide))
      rw [e]
      exact ⟨rfl, rfl⟩
