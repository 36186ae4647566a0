/-! what an hour does to the world -/
/-- what the walks need of the sleighs -/
def sOK (SF : Nat → Nat → Int32) (sc : Nat) : Prop := ∀ i, i < sc → (1 ≤ (SF i 0).toInt ∧ (SF i 0).toInt ≤ 6) ∧ (0 ≤ SF i 4 ∧ SF i 4 < 160) ∧ (0 < SF i 7 → 0 ≤ SF i 6 ∧ SF i 6 < 160)
theorem sOK.up {SF : Nat → Nat → Int32} {sc i k : Nat} {v : Int32} (h : sOK SF sc) (h0 : k = 1 ∨ k = 2 ∨ k = 3 ∨ k = 5 ∨ k = 8) : sOK (upS SF i k v) sc := by
  intro j hj
  have := h j hj
  have e : ∀ b, ¬ b = k → upS SF i k v j b = SF j b := fun b hb => upS_n _ _ (fun q => hb q.2)
  rw [e 0 (by omega), e 4 (by omega), e 6 (by omega), e 7 (by omega)]
  exact this
theorem sOK.next {SF : Nat → Nat → Int32} {sc i : Nat} {a b : Int32} (h : sOK SF sc) (h6 : 0 < b → 0 ≤ a ∧ a < 160) : sOK (upS (upS SF i 6 a) i 7 b) sc := by
  intro j hj
  have h1 := h j hj
  have e : ∀ c, ¬ c = 6 → ¬ c = 7 → upS (upS SF i 6 a) i 7 b j c = SF j c := fun c hc hc2 => by rw [upS_n _ _ (fun q => hc2 q.2), upS_n _ _ (fun q => hc q.2)]
  rw [e 0 (by omega) (by omega), e 4 (by omega) (by omega)]
  refine ⟨h1.1, h1.2.1, ?_⟩
  by_cases hi : j = i
  · subst hi
    rw [upS_s, upS_n _ _ (by omega), upS_s]; exact h6
  · rw [upS_n _ _ (fun q => hi q.1), upS_n _ _ (fun q => hi q.1), upS_n _ _ (fun q => hi q.1), upS_n _ _ (fun q => hi q.1)]; exact h1.2.2
theorem sOK.stop {SF : Nat → Nat → Int32} {sc i : Nat} {a b : Int32} (h : sOK SF sc) (h6 : ¬ 0 < b) : sOK (upS (upS SF i 6 a) i 7 b) sc := h.next (fun q => absurd q h6)
/-- the sleighs that sink -/
def skS (S : Nat → Nat → Int32) (i : Nat) : Nat → Nat → Int32 := upS (upS (upS (upS (upS S i 3 2) i 1 0) i 5 (-1)) i 6 (-1)) i 7 0
abbrev SB := (Nat → Nat → Int32) × (Nat → Nat → Int32)
def skT (T C : Nat → Int32) (sc bc n : Nat) (x : SB) : SB := if n < sc ∧ ¬ x.1 n 3 = 2 ∧ ¬ hoB T C (cN (x.1 n 4)) (slN x.1 n) = true then (skS x.1 n, lsB x.2 bc (nI n) 40) else x
def skL (T C : Nat → Int32) (sc bc : Nat) : Nat → Nat → SB → SB
  | 0, _, x => x
  | m + 1, i, x => skL T C sc bc m (i + 1) (skT T C sc bc i x)
theorem skS_ok {S : Nat → Nat → Int32} {sc i : Nat} (h : sOK S sc) : sOK (skS S i) sc := (((h.up (by omega)).up (by omega)).up (by omega)).stop (by decide)
theorem skT_ok {T C : Nat → Int32} {sc bc n : Nat} {x : SB} (h : sOK x.1 sc) : sOK (skT T C sc bc n x).1 sc := by
  unfold skT
  split
  · exact skS_ok h
  · exact h
theorem skL_ok {T C : Nat → Int32} {sc bc : Nat} : ∀ m i {x : SB}, sOK x.1 sc → sOK (skL T C sc bc m i x).1 sc
  | 0, _, _, h => h
  | m + 1, i, _, h => skL_ok m (i + 1) (skT_ok h)
/-- the sleighs that come on -/
def rsS (S : Nat → Nat → Int32) (i : Nat) : Nat → Nat → Int32 := upS (upS S i 3 0) i 1 0
abbrev SBC := (Nat → Nat → Int32) × (Nat → Nat → Int32) × Int32
def mvT (PC : Nat → Int32) (ps sc bc hh n : Nat) (x : SBC) : SBC := if n < sc ∧ (x.1 n 3 = 1 ∧ 0 < x.1 n 7) then (if ¬ 0 < x.1 n 7 - 1 ∧ coS x.1 n n 4 = cop PC ps (coS x.1 n n 5) then (rsS (coS x.1 n) n, (ulB x.2.1 bc (nI n) (rsS (coS x.1 n) n n 5) (nI hh) 40).1, x.2.2 + (ulB x.2.1 bc (nI n) (rsS (coS x.1 n) n n 5) (nI hh) 40).2) else (coS x.1 n, x.2)) else x
def mvL (PC : Nat → Int32) (ps sc bc hh : Nat) : Nat → Nat → SBC → SBC
  | 0, _, x => x
  | m + 1, i, x => mvL PC ps sc bc hh m (i + 1) (mvT PC ps sc bc hh i x)
theorem coS_ok {S : Nat → Nat → Int32} {sc i : Nat} (hi : i < sc) (h1 : 0 < S i 7) (h : sOK S sc) : sOK (coS S i) sc := by
  have h6 := (h i hi).2.2 h1
  unfold coS
  split
  · intro j hj
    have h2 := h j hj
    have e : ∀ c, ¬ c = 7 → upS S i 7 (S i 7 - 1) j c = S j c := fun c hc => upS_n _ _ (fun q => hc q.2)
    rw [e 0 (by omega), e 4 (by omega), e 6 (by omega)]
    refine ⟨h2.1, h2.2.1, fun q => ?_⟩
    by_cases hji : j = i
    · subst hji; exact h6
    · rw [upS_n _ _ (fun q => hji q.1)] at q; exact h2.2.2 q
  · rename_i h7
    refine sOK.up ?_ (by omega)
    intro j hj
    have h2 := h j hj
    by_cases hji : j = i
    · subst hji
      refine ⟨?_, ?_, ?_⟩
      · rw [upS_n _ _ (by omega), upS_n _ _ (by omega), upS_n _ _ (by omega)]; exact h2.1
      · rw [upS_n _ _ (by omega), upS_s]; exact h6
      · rw [upS_n _ _ (by omega), upS_n _ _ (by omega), upS_s]; exact fun q => absurd q h7
    · rw [upS_n _ _ (fun q => hji q.1), upS_n _ _ (fun q => hji q.1), upS_n _ _ (fun q => hji q.1), upS_n _ _ (fun q => hji q.1), upS_n _ _ (fun q => hji q.1), upS_n _ _ (fun q => hji q.1), upS_n _ _ (fun q => hji q.1), upS_n _ _ (fun q => hji q.1), upS_n _ _ (fun q => hji q.1), upS_n _ _ (fun q => hji q.1), upS_n _ _ (fun q => hji q.1), upS_n _ _ (fun q => hji q.1)]
      exact h2
theorem mvT_ok {PC : Nat → Int32} {ps sc bc hh n : Nat} {x : SBC} (h : sOK x.1 sc) : sOK (mvT PC ps sc bc hh n x).1 sc := by
  unfold mvT
  split
  · rename_i h1
    split
    · exact ((coS_ok h1.1 h1.2.2 h).up (by omega)).up (by omega)
    · exact coS_ok h1.1 h1.2.2 h
  · exact h
theorem mvL_ok {PC : Nat → Int32} {ps sc bc hh : Nat} : ∀ m i {x : SBC}, sOK x.1 sc → sOK (mvL PC ps sc bc hh m i x).1 sc
  | 0, _, _, h => h
  | m + 1, i, _, h => mvL_ok m (i + 1) (mvT_ok h)
/-- the sleighs that rest -/
def reT (sc n : Nat) (x : Nat → Nat → Int32) : Nat → Nat → Int32 := if n < sc ∧ x n 3 = 0 then upS x n 2 (if 0 < x n 2 - 2 then x n 2 - 2 else 0) else x
def reL (sc : Nat) : Nat → Nat → (Nat → Nat → Int32) → Nat → Nat → Int32
  | 0, _, x => x
  | m + 1, i, x => reL sc m (i + 1) (reT sc i x)
theorem reL_ok {sc : Nat} : ∀ m i {x : Nat → Nat → Int32}, sOK x sc → sOK (reL sc m i x) sc
  | 0, _, _, h => h
  | m + 1, i, x, h => reL_ok m (i + 1) (by unfold reT; split; exact h.up (by omega); exact h)
/-- the sleighs that set out: sleighs, the search's own, its lake, need, drag; strain, cracks, changes -/
abbrev SO := (Nat → Nat → Int32) × QS × Value × Int32 × Int32 × (Nat → Int32) × (Nat → Int32) × Int32
def cpo (PC : Nat → Int32) (ps : Nat) (q : Int32) : Option Nat := if 0 ≤ q ∧ q < nI ps then some (cN (PC (cN q))) else none
theorem cpo_eq {PC : Nat → Int32} {ps : Nat} {q : Int32} (hp : ps ≤ 8) (h : ∀ k, k < 8 → 0 ≤ PC k ∧ PC k < 160) : cop PC ps q = oI (cpo PC ps q) := by
  unfold cop cpo
  split
  · rename_i h1
    obtain ⟨k, hk, rfl⟩ := kOf h1 (by omega)
    rw [cN_nI (by omega)]
    exact (cN_of (h k (by omega))).1
  · rfl
theorem cpo_lt {PC : Nat → Int32} {ps : Nat} {q : Int32} (hp : ps ≤ 8) (h : ∀ k, k < 8 → 0 ≤ PC k ∧ PC k < 160) : ∀ j, cpo PC ps q = some j → j < 160 := by
  intro j hj
  unfold cpo at hj
  split at hj
  · rename_i h1
    obtain ⟨k, hk, rfl⟩ := kOf h1 (by omega)
    rw [cN_nI (by omega)] at hj
    cases hj
    exact (cN_of (h k (by omega))).2
  · cases hj
abbrev soH (T : Nat → Int32) (n : Nat) (x : SO) : Nat → Bool := fun k => hoB T x.2.2.2.2.2.2.1 k (slN x.1 n)
def soQ (T N PC : Nat → Int32) (ps n : Nat) (x : SO) : QS := lkq (soH T n x) N (slD x.1 n) (cN (x.1 n 4)) (cpo PC ps (x.1 n 5)) x.2.1.2.2.1
def soX (T N PC : Nat → Int32) (ps n : Nat) (x : SO) : Option Nat := ffq (soH T n x) N (slD x.1 n) (soQ T N PC ps n x).1 (cN (x.1 n 4))
def soT (l5 : Value) (T N PC : Nat → Int32) (ps sc n : Nat) (x : SO) : SO :=
  if n < sc ∧ x.1 n 3 = 1 ∧ ¬ 0 < x.1 n 7 ∧ ¬ x.1 n 8 = x.2.2.2.2.2.2.2 then
    match soX T N PC ps n x with
    | none => (upS x.1 n 8 x.2.2.2.2.2.2.2, soQ T N PC ps n x, l5, slN x.1 n, slD x.1 n, x.2.2.2.2.2)
    | some j => (upS (upS x.1 n 6 (nI j)) n 7 (N j + slD x.1 n), soQ T N PC ps n x, l5, slN x.1 n, slD x.1 n, stU T x.2.2.2.2.2.1 x.2.2.2.2.2.2.1 (cN (x.1 n 4)) (slN x.1 n) x.2.2.2.2.2.2.2)
  else x
def soL (l5 : Value) (T N PC : Nat → Int32) (ps sc : Nat) : Nat → Nat → SO → SO
  | 0, _, x => x
  | m + 1, i, x => soL l5 T N PC ps sc m (i + 1) (soT l5 T N PC ps sc i x)
theorem soT_ok {l5 : Value} {T N PC : Nat → Int32} {ps sc n : Nat} {x : SO} (h : sOK x.1 sc) : sOK (soT l5 T N PC ps sc n x).1 sc := by
  unfold soT
  split
  · rename_i h1
    split
    · exact h.up (by omega)
    · rename_i j hj
      have hc := (cN_of (h n h1.1).2.1).2
      have := ffq_lt hc hj
      exact h.next (fun _ => ⟨nI_pos' (by omega), nI_lt (b := 160) this (by decide)⟩)
  · exact h
theorem soL_ok {l5 : Value} {T N PC : Nat → Int32} {ps sc : Nat} : ∀ m i {x : SO}, sOK x.1 sc → sOK (soL l5 T N PC ps sc m i x).1 sc
  | 0, _, _, h => h
  | m + 1, i, _, h => soL_ok m (i + 1) (soT_ok h)
theorem oI_m1 {o : Option Nat} (h : ∀ j, o = some j → j < 160) : oI o = -1 ↔ o = none := by
  cases o with
  | none => exact ⟨fun _ => rfl, fun _ => rfl⟩
  | some j =>
    refine ⟨fun q => ?_, fun q => by cases q⟩
    have : j < 160 := h j rfl
    have h2 : (nI j).toInt = -1 := by rw [show nI j = -1 from q]; decide
    rw [nI_toInt (by omega)] at h2
    omega
set_option maxRecDepth 100000 in
set_option maxHeartbeats 4000000 in
theorem lp_X4_rest {G : Cx} {w : Nat → Nat} {a b f : Nat → Int32} {wa : Int32} {lr : Value} {nd dg : Int32} {T N S C B O : Nat → Int32} {ch : Int32} {PC : Nat → Int32} {SF BF : Nat → Nat → Int32} {ps sc bc hh : Nat} (hps : ps ≤ 8) (hsc : sc ≤ 5) (hbc : bc ≤ 40) {sz : Nat} : ∀ (m i : Nat), m + i = 5 → ∀ (x0 x r : Nat → Nat → Int32), reL sc m i x = r → V G Y_X4_restSleighs (ZM G (WorldM w a b f wa lr nd dg T N S C B O ch PC x0 BF ps sc bc hh) sz (fun v M' => v = none ∧ M' = WorldM w a b f wa lr nd dg T N S C B O ch PC r BF ps sc bc hh) noX) 2 0 0 2 [some (.ref (w 0)), some (.int (nI i)), none] [] (WorldM w a b f wa lr nd dg T N S C B O ch PC x BF ps sc bc hh) := by
  intro m
  induction m with
  | zero =>
    intro i hi
    obtain rfl : i = 5 := by omega
    intro x0 x r hr
    obtain rfl : x = r := hr
    refine v_iload_n (pc := 2) dX4_restSleighs_2 rfl rfl ?_
    refine v_iconst (pc := 3) (v := 5) dX4_restSleighs_3 rfl ?_
    refine v_icmp_ge (pc := 4) (tgt := 34) dX4_restSleighs_4 (by decide) (fun c4 => ?_) (fun c4 => absurd (nI_le (a := 5) (b := 5) (Nat.le_refl _) (by decide)) c4)
    have c4 : 5 ≤ 5 := (nI_leI (a := 5) (b := 5) (by omega) (by omega)).mp c4
    refine v_vret (pc := 34) rfl (Nat.le_of_ble_eq_true rfl) dX4_restSleighs_34 ?_
    exact ⟨rfl, rfl⟩
  | succ m ih =>
    intro i hi
    intro x0 x r hr
    refine v_iload_n (pc := 2) dX4_restSleighs_2 rfl rfl ?_
    refine v_iconst (pc := 3) (v := 5) dX4_restSleighs_3 rfl ?_
    refine v_icmp_ge (pc := 4) (tgt := 34) dX4_restSleighs_4 (by decide) (fun c4 => absurd c4 (nI_ge (a := i) (b := 5) (by omega) (by decide))) (fun c4 => ?_)
    have c4 : ¬ 5 ≤ i := fun h => c4 ((nI_leI (a := 5) (b := i) (by omega) (by omega)).mpr h)
    refine v_aload_nR (pc := 7) dX4_restSleighs_7 rfl rfl ?_
    refine v_iload_n (pc := 8) dX4_restSleighs_8 rfl rfl ?_
    by_cases c9 : i < sc
    · refine v_callV1 (pc := 9) (c_X4_sleighAt_k hps hsc hbc c9) cm_X4_sleighAt q319 q320 q321 (ci := 4) rfl rfl (orcO 0 rfl) [0, 1, 2, 3, 4, 5, 6, 7, 8, 9, 10, 11, 12, 13, 14, 15, 16] (by rfl) (by decide) (fun _ _ h => h) (by decide) (by decide) (by decide) (Nat.le_of_ble_eq_true rfl) dX4_restSleighs_9 (fun v9 M9 hQ9 => ?_)
      obtain ⟨rfl, rfl⟩ := hQ9
      try dsimp only [wb, LakeM, WaysM, WorldM, List.set_cons_succ, List.set_cons_zero, List.append_nil, List.nil_append, List.cons_append, Option.toList, Nat.sub_zero]
      refine v_astore_nR (pc := 12) dX4_restSleighs_12 rfl (by decide) rfl ?_
      refine v_aload_nR (pc := 13) dX4_restSleighs_13 rfl rfl ?_
      refine v_ifnullR (pc := 14) dX4_restSleighs_14 ?_
      refine v_aload_nR (pc := 17) dX4_restSleighs_17 rfl rfl ?_
      refine v_getS (pc := 18) 3 15 fg_X4_101 rfl (by omega) (by decide) dX4_restSleighs_18 ?_
      refine v_if_ne (pc := 21) (tgt := 28) dX4_restSleighs_21 (by decide) (fun c21 => ?_) (fun c21 => ?_)
      · refine v_iinc (pc := 28) (v := nI (i + 1)) dX4_restSleighs_28 rfl (nI_1 _) (by decide) rfl ?_
        refine v_goto (pc := 31) (tgt := 2) dX4_restSleighs_31 (by decide) ?_
        have e : reT sc i x = x := if_neg (fun h => c21 h.2)
        unfold reL at hr
        rw [e] at hr
        have k9 := ih (i + 1) (by omega) x0 _ r hr
        refine v_sub ?_ k9
        exact ⟨rfl, rfl, trivial⟩
      · refine v_aload_nR (pc := 24) dX4_restSleighs_24 rfl rfl ?_
        refine v_callV0 (pc := 25) (c_X2_recover (n := 5) (i := i) (by omega)) cm_X2_recover q520 q521 q522 (ci := 2) rfl rfl (orcF 15 rfl (by omega)) [15] (by rfl) (by decide) (fun _ _ h => h) (by decide) (by decide) (by decide) (Nat.le_of_ble_eq_true rfl) dX4_restSleighs_25 (fun v25 M25 hQ25 => ?_)
        obtain ⟨rfl, rfl⟩ := hQ25
        try dsimp only [wb, LakeM, WaysM, WorldM, List.set_cons_succ, List.set_cons_zero, List.append_nil, List.nil_append, List.cons_append, Option.toList, Nat.sub_zero]
        refine v_iinc (pc := 28) (v := nI (i + 1)) dX4_restSleighs_28 rfl (nI_1 _) (by decide) rfl ?_
        refine v_goto (pc := 31) (tgt := 2) dX4_restSleighs_31 (by decide) ?_
        have e : reT sc i x = _ := if_pos ⟨c9, c21⟩
        unfold reL at hr
        rw [e] at hr
        have k9 := ih (i + 1) (by omega) x0 _ r hr
        refine v_sub ?_ k9
        exact ⟨rfl, rfl, trivial⟩
    · refine v_callV1 (pc := 9) (c_X4_sleighAt_n hps hsc hbc (nk_no c9 (by omega) (by omega))) cm_X4_sleighAt q319 q320 q321 (ci := 4) rfl rfl (orcO 0 rfl) [0, 1, 2, 3, 4, 5, 6, 7, 8, 9, 10, 11, 12, 13, 14, 15, 16] (by rfl) (by decide) (fun _ _ h => h) (by decide) (by decide) (by decide) (Nat.le_of_ble_eq_true rfl) dX4_restSleighs_9 (fun v9 M9 hQ9 => ?_)
      obtain ⟨rfl, rfl⟩ := hQ9
      try dsimp only [wb, LakeM, WaysM, WorldM, List.set_cons_succ, List.set_cons_zero, List.append_nil, List.nil_append, List.cons_append, Option.toList, Nat.sub_zero]
      refine v_astore_nN (pc := 12) dX4_restSleighs_12 rfl (by decide) rfl ?_
      refine v_aload_nN (pc := 13) dX4_restSleighs_13 rfl rfl ?_
      refine v_ifnullN (pc := 14) (tgt := 28) dX4_restSleighs_14 (by decide) ?_
      refine v_iinc (pc := 28) (v := nI (i + 1)) dX4_restSleighs_28 rfl (nI_1 _) (by decide) rfl ?_
      refine v_goto (pc := 31) (tgt := 2) dX4_restSleighs_31 (by decide) ?_
      have e : reT sc i x = x := if_neg (fun h => c9 h.1)
      unfold reL at hr
      rw [e] at hr
      have k9 := ih (i + 1) (by omega) x0 _ r hr
      refine v_sub ?_ k9
      exact ⟨rfl, rfl, trivial⟩
set_option maxRecDepth 100000 in
set_option maxHeartbeats 4000000 in
theorem c_X4_restSleighs {G : Cx} {w : Nat → Nat} {a b f : Nat → Int32} {wa : Int32} {lr : Value} {nd dg : Int32} {T N S C B O : Nat → Int32} {ch : Int32} {PC : Nat → Int32} {SF BF : Nat → Nat → Int32} {ps sc bc hh : Nat} (hps : ps ≤ 8) (hsc : sc ≤ 5) (hbc : bc ≤ 40) : Mt G Y_X4_restSleighs 2 0 0 [.ref (w 0)] (WorldM w a b f wa lr nd dg T N S C B O ch PC SF BF ps sc bc hh) (fun v M' => v = none ∧ M' = WorldM w a b f wa lr nd dg T N S C B O ch PC (reL sc 5 0 SF) BF ps sc bc hh) noX := by
  refine Mt.of (L := [some (.ref (w 0)), none, none]) rfl (by decide) (by simp [lg_sl, Value.category]) ⟨rfl, trivial⟩ (fun sz => ?_)
  refine v_iconst (pc := 0) (v := 0) dX4_restSleighs_0 rfl ?_
  refine v_istore_n (pc := 1) dX4_restSleighs_1 rfl (by decide) rfl ?_
  refine v_sub ?_ (lp_X4_rest (a := a) (b := b) (f := f) (wa := wa) (lr := lr) (nd := nd) (dg := dg) (T := T) (N := N) (S := S) (C := C) (B := B) (O := O) (ch := ch) (PC := PC) (SF := SF) (BF := BF) (ps := ps) (sc := sc) (bc := bc) (hh := hh) hps hsc hbc 5 0 (by omega) SF SF _ rfl)
  exact ⟨rfl, rfl, trivial⟩
set_option maxRecDepth 100000 in
set_option maxHeartbeats 4000000 in
theorem lp_X4_sink {G : Cx} {w : Nat → Nat} {a b f : Nat → Int32} {wa : Int32} {lr : Value} {nd dg : Int32} {T N S C B O : Nat → Int32} {ch : Int32} {PC : Nat → Int32} {SF BF : Nat → Nat → Int32} {ps sc bc hh : Nat} (hps : ps ≤ 8) (hsc : sc ≤ 5) (hbc : bc ≤ 40) {sz : Nat} : ∀ (m i : Nat), m + i = 5 → ∀ (x0 x r : SB), sOK x.1 sc → skL T C sc bc m i x = r → V G Y_X4_sinkSleighs (ZM G (WorldM w a b f wa lr nd dg T N S C B O ch PC x0.1 x0.2 ps sc bc hh) sz (fun v M' => v = none ∧ M' = WorldM w a b f wa lr nd dg T N S C B O ch PC r.1 r.2 ps sc bc hh) noX) 2 0 0 2 [some (.ref (w 0)), some (.int (nI i)), none] [] (WorldM w a b f wa lr nd dg T N S C B O ch PC x.1 x.2 ps sc bc hh) := by
  intro m
  induction m with
  | zero =>
    intro i hi
    obtain rfl : i = 5 := by omega
    intro x0 x r hx hr
    obtain rfl : x = r := hr
    refine v_iload_n (pc := 2) dX4_sinkSleighs_2 rfl rfl ?_
    refine v_iconst (pc := 3) (v := 5) dX4_sinkSleighs_3 rfl ?_
    refine v_icmp_ge (pc := 4) (tgt := 58) dX4_sinkSleighs_4 (by decide) (fun c4 => ?_) (fun c4 => absurd (nI_le (a := 5) (b := 5) (Nat.le_refl _) (by decide)) c4)
    have c4 : 5 ≤ 5 := (nI_leI (a := 5) (b := 5) (by omega) (by omega)).mp c4
    refine v_vret (pc := 58) rfl (Nat.le_of_ble_eq_true rfl) dX4_sinkSleighs_58 ?_
    exact ⟨rfl, rfl⟩
  | succ m ih =>
    intro i hi
    intro x0 x r hx hr
    refine v_iload_n (pc := 2) dX4_sinkSleighs_2 rfl rfl ?_
    refine v_iconst (pc := 3) (v := 5) dX4_sinkSleighs_3 rfl ?_
    refine v_icmp_ge (pc := 4) (tgt := 58) dX4_sinkSleighs_4 (by decide) (fun c4 => absurd c4 (nI_ge (a := i) (b := 5) (by omega) (by decide))) (fun c4 => ?_)
    have c4 : ¬ 5 ≤ i := fun h => c4 ((nI_leI (a := 5) (b := i) (by omega) (by omega)).mpr h)
    refine v_aload_nR (pc := 7) dX4_sinkSleighs_7 rfl rfl ?_
    refine v_iload_n (pc := 8) dX4_sinkSleighs_8 rfl rfl ?_
    by_cases c9 : i < sc
    · refine v_callV1 (pc := 9) (c_X4_sleighAt_k hps hsc hbc c9) cm_X4_sleighAt q319 q320 q321 (ci := 4) rfl rfl (orcO 0 rfl) [0, 1, 2, 3, 4, 5, 6, 7, 8, 9, 10, 11, 12, 13, 14, 15, 16] (by rfl) (by decide) (fun _ _ h => h) (by decide) (by decide) (by decide) (Nat.le_of_ble_eq_true rfl) dX4_sinkSleighs_9 (fun v9 M9 hQ9 => ?_)
      obtain ⟨rfl, rfl⟩ := hQ9
      try dsimp only [wb, LakeM, WaysM, WorldM, List.set_cons_succ, List.set_cons_zero, List.append_nil, List.nil_append, List.cons_append, Option.toList, Nat.sub_zero]
      refine v_astore_nR (pc := 12) dX4_sinkSleighs_12 rfl (by decide) rfl ?_
      refine v_aload_nR (pc := 13) dX4_sinkSleighs_13 rfl rfl ?_
      refine v_ifnullR (pc := 14) dX4_sinkSleighs_14 ?_
      refine v_aload_nR (pc := 17) dX4_sinkSleighs_17 rfl rfl ?_
      refine v_getS (pc := 18) 3 15 fg_X4_101 rfl (by omega) (by decide) dX4_sinkSleighs_18 ?_
      refine v_iconst (pc := 21) (v := 2) dX4_sinkSleighs_21 rfl ?_
      refine v_icmp_eq (pc := 22) (tgt := 52) dX4_sinkSleighs_22 (by decide) (fun c22 => ?_) (fun c22 => ?_)
      · refine v_iinc (pc := 52) (v := nI (i + 1)) dX4_sinkSleighs_52 rfl (nI_1 _) (by decide) rfl ?_
        refine v_goto (pc := 55) (tgt := 2) dX4_sinkSleighs_55 (by decide) ?_
        have e : skT T C sc bc i x = x := if_neg (fun h => h.2.1 c22)
        unfold skL at hr
        rw [e] at hr
        have k9 := ih (i + 1) (by omega) x0 _ r hx hr
        refine v_sub ?_ k9
        exact ⟨rfl, rfl, trivial⟩
      · refine v_aload_nR (pc := 25) dX4_sinkSleighs_25 rfl rfl ?_
        refine v_get (pc := 26) 1 0 fg_X4_21 rfl rfl dX4_sinkSleighs_26 ?_
        refine v_aload_nR (pc := 29) dX4_sinkSleighs_29 rfl rfl ?_
        refine v_getS (pc := 30) 4 15 fg_X4_104 rfl (by omega) (by decide) dX4_sinkSleighs_30 ?_
        refine v_aload_nR (pc := 33) dX4_sinkSleighs_33 rfl rfl ?_
        refine v_callV0 (pc := 34) (c_X2_need (n := 5) (i := i) (by omega)) cm_X2_need q337 q338 q339 (ci := 2) rfl rfl (orcF 15 rfl (by omega)) [15] (by rfl) (by decide) (fun _ _ h => h) (by decide) (by decide) (by decide) (Nat.le_of_ble_eq_true rfl) dX4_sinkSleighs_34 (fun v34 M34 hQ34 => ?_)
        obtain ⟨rfl, rfl⟩ := hQ34
        try dsimp only [wb, LakeM, WaysM, WorldM, List.set_cons_succ, List.set_cons_zero, List.append_nil, List.nil_append, List.cons_append, Option.toList, Nat.sub_zero]
        refine v_callV2 (pc := 37) (c_X1_holdsX (hx i c9).2.1) cm_X1_holds q427 q428 q429 (ci := 1) rfl rfl (orcO 5 rfl) [5, 6, 7, 8, 9, 10, 11] (by rfl) (by decide) (fun _ _ h => h) (by decide) (by decide) (by decide) (Nat.le_of_ble_eq_true rfl) dX4_sinkSleighs_37 (fun v37 M37 hQ37 => ?_)
        obtain ⟨rfl, rfl⟩ := hQ37
        try dsimp only [wb, LakeM, WaysM, WorldM, List.set_cons_succ, List.set_cons_zero, List.append_nil, List.nil_append, List.cons_append, Option.toList, Nat.sub_zero]
        refine v_if_ne (pc := 40) (tgt := 52) dX4_sinkSleighs_40 (by decide) (fun c40 => ?_) (fun c40 => ?_)
        · have c40 := bI_n.mp c40
          refine v_iinc (pc := 52) (v := nI (i + 1)) dX4_sinkSleighs_52 rfl (nI_1 _) (by decide) rfl ?_
          refine v_goto (pc := 55) (tgt := 2) dX4_sinkSleighs_55 (by decide) ?_
          have e : skT T C sc bc i x = x := if_neg (fun h => h.2.2 c40)
          unfold skL at hr
          rw [e] at hr
          have k9 := ih (i + 1) (by omega) x0 _ r hx hr
          refine v_sub ?_ k9
          exact ⟨rfl, rfl, trivial⟩
        · have c40 := bI_0.mp c40
          refine v_aload_nR (pc := 43) dX4_sinkSleighs_43 rfl rfl ?_
          refine v_callV0 (pc := 44) (c_X2_sink (n := 5) (i := i) (by omega)) cm_X2_sink q431 q432 q433 (ci := 2) rfl rfl (orcF 15 rfl (by omega)) [15] (by rfl) (by decide) (fun _ _ h => h) (by decide) (by decide) (by decide) (Nat.le_of_ble_eq_true rfl) dX4_sinkSleighs_44 (fun v44 M44 hQ44 => ?_)
          obtain ⟨rfl, rfl⟩ := hQ44
          try dsimp only [wb, LakeM, WaysM, WorldM, List.set_cons_succ, List.set_cons_zero, List.append_nil, List.nil_append, List.cons_append, Option.toList, Nat.sub_zero]
          refine v_aload_nR (pc := 47) dX4_sinkSleighs_47 rfl rfl ?_
          refine v_iload_n (pc := 48) dX4_sinkSleighs_48 rfl rfl ?_
          refine v_callV1 (pc := 49) (c_X4_loseMailOf hps hsc hbc) cm_X4_loseMailOf q435 q437 qs6 (ci := 4) rfl rfl (orcO 0 rfl) [0, 1, 2, 3, 4, 5, 6, 7, 8, 9, 10, 11, 12, 13, 14, 15, 16] (by rfl) (by decide) (fun _ _ h => h) (by decide) (by decide) (by decide) (Nat.le_of_ble_eq_true rfl) dX4_sinkSleighs_49 (fun v49 M49 hQ49 => ?_)
          obtain ⟨rfl, rfl⟩ := hQ49
          try dsimp only [wb, LakeM, WaysM, WorldM, List.set_cons_succ, List.set_cons_zero, List.append_nil, List.nil_append, List.cons_append, Option.toList, Nat.sub_zero]
          refine v_iinc (pc := 52) (v := nI (i + 1)) dX4_sinkSleighs_52 rfl (nI_1 _) (by decide) rfl ?_
          refine v_goto (pc := 55) (tgt := 2) dX4_sinkSleighs_55 (by decide) ?_
          have e : skT T C sc bc i x = (skS x.1 i, lsB x.2 bc (nI i) 40) := if_pos ⟨c9, c22, c40⟩
          have hy := skT_ok (T := T) (C := C) (bc := bc) (n := i) hx
          unfold skL at hr
          rw [e] at hr hy
          have k9 := ih (i + 1) (by omega) x0 _ r hy hr
          refine v_sub ?_ k9
          exact ⟨rfl, rfl, trivial⟩
    · refine v_callV1 (pc := 9) (c_X4_sleighAt_n hps hsc hbc (nk_no c9 (by omega) (by omega))) cm_X4_sleighAt q319 q320 q321 (ci := 4) rfl rfl (orcO 0 rfl) [0, 1, 2, 3, 4, 5, 6, 7, 8, 9, 10, 11, 12, 13, 14, 15, 16] (by rfl) (by decide) (fun _ _ h => h) (by decide) (by decide) (by decide) (Nat.le_of_ble_eq_true rfl) dX4_sinkSleighs_9 (fun v9 M9 hQ9 => ?_)
      obtain ⟨rfl, rfl⟩ := hQ9
      try dsimp only [wb, LakeM, WaysM, WorldM, List.set_cons_succ, List.set_cons_zero, List.append_nil, List.nil_append, List.cons_append, Option.toList, Nat.sub_zero]
      refine v_astore_nN (pc := 12) dX4_sinkSleighs_12 rfl (by decide) rfl ?_
      refine v_aload_nN (pc := 13) dX4_sinkSleighs_13 rfl rfl ?_
      refine v_ifnullN (pc := 14) (tgt := 52) dX4_sinkSleighs_14 (by decide) ?_
      refine v_iinc (pc := 52) (v := nI (i + 1)) dX4_sinkSleighs_52 rfl (nI_1 _) (by decide) rfl ?_
      refine v_goto (pc := 55) (tgt := 2) dX4_sinkSleighs_55 (by decide) ?_
      have e : skT T C sc bc i x = x := if_neg (fun h => c9 h.1)
      unfold skL at hr
      rw [e] at hr
      have k9 := ih (i + 1) (by omega) x0 _ r hx hr
      refine v_sub ?_ k9
      exact ⟨rfl, rfl, trivial⟩
set_option maxRecDepth 100000 in
set_option maxHeartbeats 4000000 in
theorem c_X4_sinkSleighs {G : Cx} {w : Nat → Nat} {a b f : Nat → Int32} {wa : Int32} {lr : Value} {nd dg : Int32} {T N S C B O : Nat → Int32} {ch : Int32} {PC : Nat → Int32} {SF BF : Nat → Nat → Int32} {ps sc bc hh : Nat} (hps : ps ≤ 8) (hsc : sc ≤ 5) (hbc : bc ≤ 40) (hx : sOK SF sc) : Mt G Y_X4_sinkSleighs 2 0 0 [.ref (w 0)] (WorldM w a b f wa lr nd dg T N S C B O ch PC SF BF ps sc bc hh) (fun v M' => v = none ∧ M' = WorldM w a b f wa lr nd dg T N S C B O ch PC (skL T C sc bc 5 0 (SF, BF)).1 (skL T C sc bc 5 0 (SF, BF)).2 ps sc bc hh) noX := by
  refine Mt.of (L := [some (.ref (w 0)), none, none]) rfl (by decide) (by simp [lg_sl, Value.category]) ⟨rfl, trivial⟩ (fun sz => ?_)
  refine v_iconst (pc := 0) (v := 0) dX4_sinkSleighs_0 rfl ?_
  refine v_istore_n (pc := 1) dX4_sinkSleighs_1 rfl (by decide) rfl ?_
  refine v_sub ?_ (lp_X4_sink (a := a) (b := b) (f := f) (wa := wa) (lr := lr) (nd := nd) (dg := dg) (T := T) (N := N) (S := S) (C := C) (B := B) (O := O) (ch := ch) (PC := PC) (SF := SF) (BF := BF) (ps := ps) (sc := sc) (bc := bc) (hh := hh) hps hsc hbc 5 0 (by omega) (SF, BF) (SF, BF) _ hx rfl)
  exact ⟨rfl, rfl, trivial⟩
set_option maxRecDepth 100000 in
set_option maxHeartbeats 4000000 in
theorem lp_X4_move {G : Cx} {w : Nat → Nat} {a b f : Nat → Int32} {wa : Int32} {lr : Value} {nd dg : Int32} {T N S C B O : Nat → Int32} {ch : Int32} {PC : Nat → Int32} {SF BF : Nat → Nat → Int32} {ps sc bc hh : Nat} (hps : ps ≤ 8) (hsc : sc ≤ 5) (hbc : bc ≤ 40) {sz : Nat} : ∀ (m i : Nat), m + i = 5 → ∀ (x0 x r : SBC), sOK x.1 sc → mvL PC ps sc bc hh m i x = r → V G Y_X4_moveSleighs (ZM G (WorldM w a b f wa lr nd dg T N S C B O ch PC x0.1 x0.2.1 ps sc bc hh) sz (fun v M' => v = some (.int r.2.2) ∧ M' = WorldM w a b f wa lr nd dg T N S C B O ch PC r.1 r.2.1 ps sc bc hh) noX) 2 0 0 4 [some (.ref (w 0)), some (.int x.2.2), some (.int (nI i)), none] [] (WorldM w a b f wa lr nd dg T N S C B O ch PC x.1 x.2.1 ps sc bc hh) := by
  intro m
  induction m with
  | zero =>
    intro i hi
    obtain rfl : i = 5 := by omega
    intro x0 x r hx hr
    obtain rfl : x = r := hr
    refine v_iload_n (pc := 4) dX4_moveSleighs_4 rfl rfl ?_
    refine v_iconst (pc := 5) (v := 5) dX4_moveSleighs_5 rfl ?_
    refine v_icmp_ge (pc := 6) (tgt := 70) dX4_moveSleighs_6 (by decide) (fun c6 => ?_) (fun c6 => absurd (nI_le (a := 5) (b := 5) (Nat.le_refl _) (by decide)) c6)
    have c6 : 5 ≤ 5 := (nI_leI (a := 5) (b := 5) (by omega) (by omega)).mp c6
    refine v_iload_n (pc := 70) dX4_moveSleighs_70 rfl rfl ?_
    refine v_iret (pc := 71) rfl rfl (Nat.le_of_ble_eq_true rfl) dX4_moveSleighs_71 ?_
    exact ⟨rfl, rfl⟩
  | succ m ih =>
    intro i hi
    intro x0 x r hx hr
    refine v_iload_n (pc := 4) dX4_moveSleighs_4 rfl rfl ?_
    refine v_iconst (pc := 5) (v := 5) dX4_moveSleighs_5 rfl ?_
    refine v_icmp_ge (pc := 6) (tgt := 70) dX4_moveSleighs_6 (by decide) (fun c6 => absurd c6 (nI_ge (a := i) (b := 5) (by omega) (by decide))) (fun c6 => ?_)
    have c6 : ¬ 5 ≤ i := fun h => c6 ((nI_leI (a := 5) (b := i) (by omega) (by omega)).mpr h)
    refine v_aload_nR (pc := 9) dX4_moveSleighs_9 rfl rfl ?_
    refine v_iload_n (pc := 10) dX4_moveSleighs_10 rfl rfl ?_
    by_cases c11 : i < sc
    · refine v_callV1 (pc := 11) (c_X4_sleighAt_k hps hsc hbc c11) cm_X4_sleighAt q319 q320 q321 (ci := 4) rfl rfl (orcO 0 rfl) [0, 1, 2, 3, 4, 5, 6, 7, 8, 9, 10, 11, 12, 13, 14, 15, 16] (by rfl) (by decide) (fun _ _ h => h) (by decide) (by decide) (by decide) (Nat.le_of_ble_eq_true rfl) dX4_moveSleighs_11 (fun v11 M11 hQ11 => ?_)
      obtain ⟨rfl, rfl⟩ := hQ11
      try dsimp only [wb, LakeM, WaysM, WorldM, List.set_cons_succ, List.set_cons_zero, List.append_nil, List.nil_append, List.cons_append, Option.toList, Nat.sub_zero]
      refine v_astore_nR (pc := 14) dX4_moveSleighs_14 rfl (by decide) rfl ?_
      refine v_aload_nR (pc := 15) dX4_moveSleighs_15 rfl rfl ?_
      refine v_ifnullR (pc := 16) dX4_moveSleighs_16 ?_
      refine v_aload_nR (pc := 19) dX4_moveSleighs_19 rfl rfl ?_
      refine v_callV0 (pc := 20) (c_X2_isBetween (n := 5) (i := i) (by omega)) cm_X2_isBetween q447 q448 q449 (ci := 2) rfl rfl (orcF 15 rfl (by omega)) [15] (by rfl) (by decide) (fun _ _ h => h) (by decide) (by decide) (by decide) (Nat.le_of_ble_eq_true rfl) dX4_moveSleighs_20 (fun v20 M20 hQ20 => ?_)
      obtain ⟨rfl, rfl⟩ := hQ20
      try dsimp only [wb, LakeM, WaysM, WorldM, List.set_cons_succ, List.set_cons_zero, List.append_nil, List.nil_append, List.cons_append, Option.toList, Nat.sub_zero]
      refine v_if_eq (pc := 23) (tgt := 64) dX4_moveSleighs_23 (by decide) (fun c23 => ?_) (fun c23 => ?_)
      · have c23 := bI_0.mp c23
        refine v_iinc (pc := 64) (v := nI (i + 1)) dX4_moveSleighs_64 rfl (nI_1 _) (by decide) rfl ?_
        refine v_goto (pc := 67) (tgt := 4) dX4_moveSleighs_67 (by decide) ?_
        have e : mvT PC ps sc bc hh i x = x := if_neg (fun h => c23 h.2)
        unfold mvL at hr
        rw [e] at hr
        have k9 := ih (i + 1) (by omega) x0 _ r hx hr
        refine v_sub ?_ k9
        exact ⟨rfl, rfl, rfl, trivial⟩
      · have c23 := bI_n.mp c23
        refine v_aload_nR (pc := 26) dX4_moveSleighs_26 rfl rfl ?_
        refine v_callV0 (pc := 27) (c_X2_comesOn (n := 5) (i := i) (by omega)) cm_X2_comesOn q451 q452 q453 (ci := 2) rfl rfl (orcF 15 rfl (by omega)) [15] (by rfl) (by decide) (fun _ _ h => h) (by decide) (by decide) (by decide) (Nat.le_of_ble_eq_true rfl) dX4_moveSleighs_27 (fun v27 M27 hQ27 => ?_)
        obtain ⟨rfl, rfl⟩ := hQ27
        try dsimp only [wb, LakeM, WaysM, WorldM, List.set_cons_succ, List.set_cons_zero, List.append_nil, List.nil_append, List.cons_append, Option.toList, Nat.sub_zero]
        refine v_if_eq (pc := 30) (tgt := 64) dX4_moveSleighs_30 (by decide) (fun c30 => ?_) (fun c30 => ?_)
        · have c30 := bI_0.mp c30
          refine v_iinc (pc := 64) (v := nI (i + 1)) dX4_moveSleighs_64 rfl (nI_1 _) (by decide) rfl ?_
          refine v_goto (pc := 67) (tgt := 4) dX4_moveSleighs_67 (by decide) ?_
          have e : mvT PC ps sc bc hh i x = (coS x.1 i, x.2) := by
            unfold mvT
            rw [if_pos ⟨c11, c23⟩, if_neg (fun h => c30 h.1)]
          have hy := mvT_ok (PC := PC) (ps := ps) (sc := sc) (bc := bc) (hh := hh) (n := i) hx
          unfold mvL at hr
          rw [e] at hr hy
          have k9 := ih (i + 1) (by omega) x0 _ r hy hr
          refine v_sub ?_ k9
          exact ⟨rfl, rfl, rfl, trivial⟩
        · have c30 := bI_n.mp c30
          refine v_aload_nR (pc := 33) dX4_moveSleighs_33 rfl rfl ?_
          refine v_getS (pc := 34) 4 15 fg_X4_104 rfl (by omega) (by decide) dX4_moveSleighs_34 ?_
          refine v_aload_nR (pc := 37) dX4_moveSleighs_37 rfl rfl ?_
          refine v_aload_nR (pc := 38) dX4_moveSleighs_38 rfl rfl ?_
          refine v_getS (pc := 39) 5 15 fg_X4_114 rfl (by omega) (by decide) dX4_moveSleighs_39 ?_
          refine v_callV1 (pc := 42) (c_X4_cellOfPost hps hsc hbc) cm_X4_cellOfPost q456 q457 q458 (ci := 4) rfl rfl (orcO 0 rfl) [0, 1, 2, 3, 4, 5, 6, 7, 8, 9, 10, 11, 12, 13, 14, 15, 16] (by rfl) (by decide) (fun _ _ h => h) (by decide) (by decide) (by decide) (Nat.le_of_ble_eq_true rfl) dX4_moveSleighs_42 (fun v42 M42 hQ42 => ?_)
          obtain ⟨rfl, rfl⟩ := hQ42
          try dsimp only [wb, LakeM, WaysM, WorldM, List.set_cons_succ, List.set_cons_zero, List.append_nil, List.nil_append, List.cons_append, Option.toList, Nat.sub_zero]
          refine v_icmp_ne (pc := 45) (tgt := 64) dX4_moveSleighs_45 (by decide) (fun c45 => ?_) (fun c45 => ?_)
          · refine v_iinc (pc := 64) (v := nI (i + 1)) dX4_moveSleighs_64 rfl (nI_1 _) (by decide) rfl ?_
            refine v_goto (pc := 67) (tgt := 4) dX4_moveSleighs_67 (by decide) ?_
            have e : mvT PC ps sc bc hh i x = (coS x.1 i, x.2) := by
              unfold mvT
              rw [if_pos ⟨c11, c23⟩, if_neg (fun h => c45 h.2)]
            have hy := mvT_ok (PC := PC) (ps := ps) (sc := sc) (bc := bc) (hh := hh) (n := i) hx
            unfold mvL at hr
            rw [e] at hr hy
            have k9 := ih (i + 1) (by omega) x0 _ r hy hr
            refine v_sub ?_ k9
            exact ⟨rfl, rfl, rfl, trivial⟩
          · refine v_aload_nR (pc := 48) dX4_moveSleighs_48 rfl rfl ?_
            refine v_callV0 (pc := 49) (c_X2_restAtGoal (n := 5) (i := i) (by omega)) cm_X2_restAtGoal q464 q465 q466 (ci := 2) rfl rfl (orcF 15 rfl (by omega)) [15] (by rfl) (by decide) (fun _ _ h => h) (by decide) (by decide) (by decide) (Nat.le_of_ble_eq_true rfl) dX4_moveSleighs_49 (fun v49 M49 hQ49 => ?_)
            obtain ⟨rfl, rfl⟩ := hQ49
            try dsimp only [wb, LakeM, WaysM, WorldM, List.set_cons_succ, List.set_cons_zero, List.append_nil, List.nil_append, List.cons_append, Option.toList, Nat.sub_zero]
            refine v_iload_n (pc := 52) dX4_moveSleighs_52 rfl rfl ?_
            refine v_aload_nR (pc := 53) dX4_moveSleighs_53 rfl rfl ?_
            refine v_iload_n (pc := 54) dX4_moveSleighs_54 rfl rfl ?_
            refine v_aload_nR (pc := 55) dX4_moveSleighs_55 rfl rfl ?_
            refine v_getS (pc := 56) 5 15 fg_X4_114 rfl (by omega) (by decide) dX4_moveSleighs_56 ?_
            refine v_callV2 (pc := 59) (c_X4_unload hps hsc hbc) cm_X4_unload q468 q470 qs8 (ci := 4) rfl rfl (orcO 0 rfl) [0, 1, 2, 3, 4, 5, 6, 7, 8, 9, 10, 11, 12, 13, 14, 15, 16] (by rfl) (by decide) (fun _ _ h => h) (by decide) (by decide) (by decide) (Nat.le_of_ble_eq_true rfl) dX4_moveSleighs_59 (fun v59 M59 hQ59 => ?_)
            obtain ⟨rfl, rfl⟩ := hQ59
            try dsimp only [wb, LakeM, WaysM, WorldM, List.set_cons_succ, List.set_cons_zero, List.append_nil, List.nil_append, List.cons_append, Option.toList, Nat.sub_zero]
            refine v_iadd (pc := 62) dX4_moveSleighs_62 ?_
            refine v_istore_n (pc := 63) dX4_moveSleighs_63 rfl (by decide) rfl ?_
            refine v_iinc (pc := 64) (v := nI (i + 1)) dX4_moveSleighs_64 rfl (nI_1 _) (by decide) rfl ?_
            refine v_goto (pc := 67) (tgt := 4) dX4_moveSleighs_67 (by decide) ?_
            have e : mvT PC ps sc bc hh i x = (rsS (coS x.1 i) i, (ulB x.2.1 bc (nI i) (rsS (coS x.1 i) i i 5) (nI hh) 40).1, x.2.2 + (ulB x.2.1 bc (nI i) (rsS (coS x.1 i) i i 5) (nI hh) 40).2) := by
              unfold mvT
              rw [if_pos ⟨c11, c23⟩, if_pos ⟨c30, c45⟩]
            have hy := mvT_ok (PC := PC) (ps := ps) (sc := sc) (bc := bc) (hh := hh) (n := i) hx
            unfold mvL at hr
            rw [e] at hr hy
            have k9 := ih (i + 1) (by omega) x0 _ r hy hr
            refine v_sub ?_ k9
            exact ⟨rfl, rfl, rfl, trivial⟩
    · refine v_callV1 (pc := 11) (c_X4_sleighAt_n hps hsc hbc (nk_no c11 (by omega) (by omega))) cm_X4_sleighAt q319 q320 q321 (ci := 4) rfl rfl (orcO 0 rfl) [0, 1, 2, 3, 4, 5, 6, 7, 8, 9, 10, 11, 12, 13, 14, 15, 16] (by rfl) (by decide) (fun _ _ h => h) (by decide) (by decide) (by decide) (Nat.le_of_ble_eq_true rfl) dX4_moveSleighs_11 (fun v11 M11 hQ11 => ?_)
      obtain ⟨rfl, rfl⟩ := hQ11
      try dsimp only [wb, LakeM, WaysM, WorldM, List.set_cons_succ, List.set_cons_zero, List.append_nil, List.nil_append, List.cons_append, Option.toList, Nat.sub_zero]
      refine v_astore_nN (pc := 14) dX4_moveSleighs_14 rfl (by decide) rfl ?_
      refine v_aload_nN (pc := 15) dX4_moveSleighs_15 rfl rfl ?_
      refine v_ifnullN (pc := 16) (tgt := 64) dX4_moveSleighs_16 (by decide) ?_
      refine v_iinc (pc := 64) (v := nI (i + 1)) dX4_moveSleighs_64 rfl (nI_1 _) (by decide) rfl ?_
      refine v_goto (pc := 67) (tgt := 4) dX4_moveSleighs_67 (by decide) ?_
      have e : mvT PC ps sc bc hh i x = x := if_neg (fun h => c11 h.1)
      unfold mvL at hr
      rw [e] at hr
      have k9 := ih (i + 1) (by omega) x0 _ r hx hr
      refine v_sub ?_ k9
      exact ⟨rfl, rfl, rfl, trivial⟩
set_option maxRecDepth 100000 in
set_option maxHeartbeats 4000000 in
theorem c_X4_moveSleighs {G : Cx} {w : Nat → Nat} {a b f : Nat → Int32} {wa : Int32} {lr : Value} {nd dg : Int32} {T N S C B O : Nat → Int32} {ch : Int32} {PC : Nat → Int32} {SF BF : Nat → Nat → Int32} {ps sc bc hh : Nat} (hps : ps ≤ 8) (hsc : sc ≤ 5) (hbc : bc ≤ 40) (hx : sOK SF sc) : Mt G Y_X4_moveSleighs 2 0 0 [.ref (w 0)] (WorldM w a b f wa lr nd dg T N S C B O ch PC SF BF ps sc bc hh) (fun v M' => v = some (.int (mvL PC ps sc bc hh 5 0 (SF, BF, 0)).2.2) ∧ M' = WorldM w a b f wa lr nd dg T N S C B O ch PC (mvL PC ps sc bc hh 5 0 (SF, BF, 0)).1 (mvL PC ps sc bc hh 5 0 (SF, BF, 0)).2.1 ps sc bc hh) noX := by
  refine Mt.of (L := [some (.ref (w 0)), none, none, none]) rfl (by decide) (by simp [lg_sl, Value.category]) ⟨rfl, trivial⟩ (fun sz => ?_)
  refine v_iconst (pc := 0) (v := 0) dX4_moveSleighs_0 rfl ?_
  refine v_istore_n (pc := 1) dX4_moveSleighs_1 rfl (by decide) rfl ?_
  refine v_iconst (pc := 2) (v := 0) dX4_moveSleighs_2 rfl ?_
  refine v_istore_n (pc := 3) dX4_moveSleighs_3 rfl (by decide) rfl ?_
  refine v_sub ?_ (lp_X4_move (a := a) (b := b) (f := f) (wa := wa) (lr := lr) (nd := nd) (dg := dg) (T := T) (N := N) (S := S) (C := C) (B := B) (O := O) (ch := ch) (PC := PC) (SF := SF) (BF := BF) (ps := ps) (sc := sc) (bc := bc) (hh := hh) hps hsc hbc 5 0 (by omega) (SF, BF, 0) (SF, BF, 0) _ hx rfl)
  exact ⟨rfl, rfl, rfl, trivial⟩
set_option maxRecDepth 100000 in
set_option maxHeartbeats 4000000 in
theorem lp_X4_setOut {G : Cx} {w : Nat → Nat} {a b f : Nat → Int32} {wa : Int32} {lr : Value} {nd dg : Int32} {T N S C B O : Nat → Int32} {ch : Int32} {PC : Nat → Int32} {SF BF : Nat → Nat → Int32} {ps sc bc hh : Nat} (hps : ps ≤ 8) (hsc : sc ≤ 5) (hbc : bc ≤ 40) {sz : Nat} (hPC : ∀ k, k < 8 → 0 ≤ PC k ∧ PC k < 160) : ∀ (m i : Nat), m + i = 5 → ∀ (x0 x r : SO), sOK x.1 sc → soL (.ref (w 5)) T N PC ps sc m i x = r → V G Y_X4_setOutSleighs (ZM G (WorldM w x0.2.1.1 x0.2.1.2.1 x0.2.1.2.2.1 x0.2.1.2.2.2 x0.2.2.1 x0.2.2.2.1 x0.2.2.2.2.1 T N x0.2.2.2.2.2.1 x0.2.2.2.2.2.2.1 B O x0.2.2.2.2.2.2.2 PC x0.1 BF ps sc bc hh) sz (fun v M' => v = none ∧ M' = WorldM w r.2.1.1 r.2.1.2.1 r.2.1.2.2.1 r.2.1.2.2.2 r.2.2.1 r.2.2.2.1 r.2.2.2.2.1 T N r.2.2.2.2.2.1 r.2.2.2.2.2.2.1 B O r.2.2.2.2.2.2.2 PC r.1 BF ps sc bc hh) noX) 4 0 0 2 [some (.ref (w 0)), some (.int (nI i)), none, none, none, none] [] (WorldM w x.2.1.1 x.2.1.2.1 x.2.1.2.2.1 x.2.1.2.2.2 x.2.2.1 x.2.2.2.1 x.2.2.2.2.1 T N x.2.2.2.2.2.1 x.2.2.2.2.2.2.1 B O x.2.2.2.2.2.2.2 PC x.1 BF ps sc bc hh) := by
  intro m
  induction m with
  | zero =>
    intro i hi
    obtain rfl : i = 5 := by omega
    intro x0 x r hx hr
    obtain rfl : x = r := hr
    refine v_iload_n (pc := 2) dX4_setOutSleighs_2 rfl rfl ?_
    refine v_iconst (pc := 3) (v := 5) dX4_setOutSleighs_3 rfl ?_
    refine v_icmp_ge (pc := 4) (tgt := 153) dX4_setOutSleighs_4 (by decide) (fun c4 => ?_) (fun c4 => absurd (nI_le (a := 5) (b := 5) (Nat.le_refl _) (by decide)) c4)
    have c4 : 5 ≤ 5 := (nI_leI (a := 5) (b := 5) (by omega) (by omega)).mp c4
    refine v_vret (pc := 153) rfl (Nat.le_of_ble_eq_true rfl) dX4_setOutSleighs_153 ?_
    exact ⟨rfl, rfl⟩
  | succ m ih =>
    intro i hi
    intro x0 x r hx hr
    refine v_iload_n (pc := 2) dX4_setOutSleighs_2 rfl rfl ?_
    refine v_iconst (pc := 3) (v := 5) dX4_setOutSleighs_3 rfl ?_
    refine v_icmp_ge (pc := 4) (tgt := 153) dX4_setOutSleighs_4 (by decide) (fun c4 => absurd c4 (nI_ge (a := i) (b := 5) (by omega) (by decide))) (fun c4 => ?_)
    have c4 : ¬ 5 ≤ i := fun h => c4 ((nI_leI (a := 5) (b := i) (by omega) (by omega)).mpr h)
    refine v_aload_nR (pc := 7) dX4_setOutSleighs_7 rfl rfl ?_
    refine v_iload_n (pc := 8) dX4_setOutSleighs_8 rfl rfl ?_
    by_cases c9 : i < sc
    · refine v_callV1 (pc := 9) (c_X4_sleighAt_k hps hsc hbc c9) cm_X4_sleighAt q319 q320 q321 (ci := 4) rfl rfl (orcO 0 rfl) [0, 1, 2, 3, 4, 5, 6, 7, 8, 9, 10, 11, 12, 13, 14, 15, 16] (by rfl) (by decide) (fun _ _ h => h) (by decide) (by decide) (by decide) (Nat.le_of_ble_eq_true rfl) dX4_setOutSleighs_9 (fun v9 M9 hQ9 => ?_)
      obtain ⟨rfl, rfl⟩ := hQ9
      try dsimp only [wb, LakeM, WaysM, WorldM, List.set_cons_succ, List.set_cons_zero, List.append_nil, List.nil_append, List.cons_append, Option.toList, Nat.sub_zero]
      refine v_astore_nR (pc := 12) dX4_setOutSleighs_12 rfl (by decide) rfl ?_
      refine v_aload_nR (pc := 13) dX4_setOutSleighs_13 rfl rfl ?_
      refine v_ifnullR (pc := 14) dX4_setOutSleighs_14 ?_
      refine v_aload_nR (pc := 17) dX4_setOutSleighs_17 rfl rfl ?_
      refine v_getS (pc := 18) 3 15 fg_X4_101 rfl (by omega) (by decide) dX4_setOutSleighs_18 ?_
      refine v_iconst (pc := 21) (v := 1) dX4_setOutSleighs_21 rfl ?_
      refine v_icmp_ne (pc := 22) (tgt := 147) dX4_setOutSleighs_22 (by decide) (fun c22 => ?_) (fun c22 => ?_)
      · refine v_iinc (pc := 147) (v := nI (i + 1)) dX4_setOutSleighs_147 rfl (nI_1 _) (by decide) rfl ?_
        refine v_goto (pc := 150) (tgt := 2) dX4_setOutSleighs_150 (by decide) ?_
        have e : soT (.ref (w 5)) T N PC ps sc i x = x := if_neg (fun h => c22 h.2.1)
        unfold soL at hr
        rw [e] at hr
        have k9 := ih (i + 1) (by omega) x0 _ r hx hr
        refine v_sub ?_ k9
        exact ⟨rfl, rfl, trivial⟩
      · refine v_aload_nR (pc := 25) dX4_setOutSleighs_25 rfl rfl ?_
        refine v_callV0 (pc := 26) (c_X2_isBetween (n := 5) (i := i) (by omega)) cm_X2_isBetween q447 q448 q449 (ci := 2) rfl rfl (orcF 15 rfl (by omega)) [15] (by rfl) (by decide) (fun _ _ h => h) (by decide) (by decide) (by decide) (Nat.le_of_ble_eq_true rfl) dX4_setOutSleighs_26 (fun v26 M26 hQ26 => ?_)
        obtain ⟨rfl, rfl⟩ := hQ26
        try dsimp only [wb, LakeM, WaysM, WorldM, List.set_cons_succ, List.set_cons_zero, List.append_nil, List.nil_append, List.cons_append, Option.toList, Nat.sub_zero]
        refine v_if_ne (pc := 29) (tgt := 147) dX4_setOutSleighs_29 (by decide) (fun c29 => ?_) (fun c29 => ?_)
        · have c29 := bI_n.mp c29
          refine v_iinc (pc := 147) (v := nI (i + 1)) dX4_setOutSleighs_147 rfl (nI_1 _) (by decide) rfl ?_
          refine v_goto (pc := 150) (tgt := 2) dX4_setOutSleighs_150 (by decide) ?_
          have e : soT (.ref (w 5)) T N PC ps sc i x = x := if_neg (fun h => h.2.2.1 c29.2)
          unfold soL at hr
          rw [e] at hr
          have k9 := ih (i + 1) (by omega) x0 _ r hx hr
          refine v_sub ?_ k9
          exact ⟨rfl, rfl, trivial⟩
        · have c29 := bI_0.mp c29
          refine v_aload_nR (pc := 32) dX4_setOutSleighs_32 rfl rfl ?_
          refine v_getS (pc := 33) 8 15 fg_X4_173 rfl (by omega) (by decide) dX4_setOutSleighs_33 ?_
          refine v_aload_nR (pc := 36) dX4_setOutSleighs_36 rfl rfl ?_
          refine v_get (pc := 37) 1 0 fg_X4_21 rfl rfl dX4_setOutSleighs_37 ?_
          refine v_get (pc := 40) 6 5 fg_X4_176 rfl rfl dX4_setOutSleighs_40 ?_
          refine v_icmp_eq (pc := 43) (tgt := 147) dX4_setOutSleighs_43 (by decide) (fun c43 => ?_) (fun c43 => ?_)
          · refine v_iinc (pc := 147) (v := nI (i + 1)) dX4_setOutSleighs_147 rfl (nI_1 _) (by decide) rfl ?_
            refine v_goto (pc := 150) (tgt := 2) dX4_setOutSleighs_150 (by decide) ?_
            have e : soT (.ref (w 5)) T N PC ps sc i x = x := if_neg (fun h => h.2.2.2 c43)
            unfold soL at hr
            rw [e] at hr
            have k9 := ih (i + 1) (by omega) x0 _ r hx hr
            refine v_sub ?_ k9
            exact ⟨rfl, rfl, trivial⟩
          · refine v_aload_nR (pc := 46) dX4_setOutSleighs_46 rfl rfl ?_
            refine v_callV0 (pc := 47) (c_X2_need (n := 5) (i := i) (by omega)) cm_X2_need q337 q338 q339 (ci := 2) rfl rfl (orcF 15 rfl (by omega)) [15] (by rfl) (by decide) (fun _ _ h => h) (by decide) (by decide) (by decide) (Nat.le_of_ble_eq_true rfl) dX4_setOutSleighs_47 (fun v47 M47 hQ47 => ?_)
            obtain ⟨rfl, rfl⟩ := hQ47
            try dsimp only [wb, LakeM, WaysM, WorldM, List.set_cons_succ, List.set_cons_zero, List.append_nil, List.nil_append, List.cons_append, Option.toList, Nat.sub_zero]
            refine v_istore_n (pc := 50) dX4_setOutSleighs_50 rfl (by decide) rfl ?_
            refine v_aload_nR (pc := 51) dX4_setOutSleighs_51 rfl rfl ?_
            refine v_callV0 (pc := 52) (c_X2_ownDrag (n := 5) (i := i) (by omega) (hx i c9).1) cm_X2_ownDrag q480 q481 q482 (ci := 2) rfl rfl (orcF 15 rfl (by omega)) [15] (by rfl) (by decide) (fun _ _ h => h) (by decide) (by decide) (by decide) (Nat.le_of_ble_eq_true rfl) dX4_setOutSleighs_52 (fun v52 M52 hQ52 => ?_)
            obtain ⟨rfl, rfl⟩ := hQ52
            try dsimp only [wb, LakeM, WaysM, WorldM, List.set_cons_succ, List.set_cons_zero, List.append_nil, List.nil_append, List.cons_append, Option.toList, Nat.sub_zero]
            refine v_istore (pc := 55) dX4_setOutSleighs_55 (by decide) rfl ?_
            refine v_aload_nR (pc := 57) dX4_setOutSleighs_57 rfl rfl ?_
            refine v_get (pc := 58) 0 0 fg_X4_12 rfl rfl dX4_setOutSleighs_58 ?_
            refine v_aload_nR (pc := 61) dX4_setOutSleighs_61 rfl rfl ?_
            refine v_get (pc := 62) 1 0 fg_X4_21 rfl rfl dX4_setOutSleighs_62 ?_
            refine v_aload_nR (pc := 65) dX4_setOutSleighs_65 rfl rfl ?_
            refine v_getS (pc := 66) 4 15 fg_X4_104 rfl (by omega) (by decide) dX4_setOutSleighs_66 ?_
            refine v_aload_nR (pc := 69) dX4_setOutSleighs_69 rfl rfl ?_
            refine v_aload_nR (pc := 70) dX4_setOutSleighs_70 rfl rfl ?_
            refine v_getS (pc := 71) 5 15 fg_X4_114 rfl (by omega) (by decide) dX4_setOutSleighs_71 ?_
            refine v_callV1 (pc := 74) (c_X4_cellOfPost hps hsc hbc) cm_X4_cellOfPost q456 q457 q458 (ci := 4) rfl rfl (orcO 0 rfl) [0, 1, 2, 3, 4, 5, 6, 7, 8, 9, 10, 11, 12, 13, 14, 15, 16] (by rfl) (by decide) (fun _ _ h => h) (by decide) (by decide) (by decide) (Nat.le_of_ble_eq_true rfl) dX4_setOutSleighs_74 (fun v74 M74 hQ74 => ?_)
            obtain ⟨rfl, rfl⟩ := hQ74
            try dsimp only [wb, LakeM, WaysM, WorldM, List.set_cons_succ, List.set_cons_zero, List.append_nil, List.nil_append, List.cons_append, Option.toList, Nat.sub_zero]
            rw [cpo_eq hps hPC]
            refine v_iload_n (pc := 77) dX4_setOutSleighs_77 rfl rfl ?_
            refine v_iload (pc := 78) dX4_setOutSleighs_78 rfl ?_
            refine v_callV5 (pc := 80) (c_X3_lookX (hx i c9).2.1 (cpo_lt hps hPC)) cm_X3_look q487 q488 q489 (ci := 3) rfl rfl (orcO 1 rfl) [1, 2, 3, 4, 5, 6, 7, 8, 9, 10, 11] (by rfl) (by decide) (fun _ _ h => h) (by decide) (by decide) (by decide) (Nat.le_of_ble_eq_true rfl) dX4_setOutSleighs_80 (fun v80 M80 hQ80 => ?_)
            obtain ⟨rfl, rfl⟩ := hQ80
            try dsimp only [wb, LakeM, WaysM, WorldM, List.set_cons_succ, List.set_cons_zero, List.append_nil, List.nil_append, List.cons_append, Option.toList, Nat.sub_zero]
            refine v_pop (pc := 83) dX4_setOutSleighs_83 rfl ?_
            refine v_aload_nR (pc := 84) dX4_setOutSleighs_84 rfl rfl ?_
            refine v_get (pc := 85) 0 0 fg_X4_12 rfl rfl dX4_setOutSleighs_85 ?_
            refine v_aload_nR (pc := 88) dX4_setOutSleighs_88 rfl rfl ?_
            refine v_getS (pc := 89) 4 15 fg_X4_104 rfl (by omega) (by decide) dX4_setOutSleighs_89 ?_
            refine v_callV1 (pc := 92) (c_X3_firstFromX (hx i c9).2.1) cm_X3_firstFrom q504 q505 q506 (ci := 3) rfl rfl (orcO 1 rfl) [1, 2, 3, 4, 5, 6, 7, 8, 9, 10, 11] (by rfl) (by decide) (fun _ _ h => h) (by decide) (by decide) (by decide) (Nat.le_of_ble_eq_true rfl) dX4_setOutSleighs_92 (fun v92 M92 hQ92 => ?_)
            obtain ⟨rfl, rfl⟩ := hQ92
            try dsimp only [wb, LakeM, WaysM, WorldM, List.set_cons_succ, List.set_cons_zero, List.append_nil, List.nil_append, List.cons_append, Option.toList, Nat.sub_zero]
            show V _ _ _ _ _ _ _ _ (.int (oI (soX T N PC ps i x)) :: _) _
            have hlt : ∀ j, soX T N PC ps i x = some j → j < 160 := fun j hj => ffq_lt (cN_of (hx i c9).2.1).2 hj
            generalize hj : soX T N PC ps i x = o at hlt ⊢
            refine v_istore (pc := 95) dX4_setOutSleighs_95 (by decide) rfl ?_
            refine v_iload (pc := 97) dX4_setOutSleighs_97 rfl ?_
            refine v_iconst (pc := 99) (v := -1) dX4_setOutSleighs_99 rfl ?_
            refine v_icmp_ne (pc := 100) (tgt := 117) dX4_setOutSleighs_100 (by decide) (fun c100 => ?_) (fun c100 => ?_)
            · obtain ⟨j, ej⟩ : ∃ j, o = some j := by
                cases o with
                | none => exact absurd rfl c100
                | some j => exact ⟨j, rfl⟩
              subst ej
              rw [show oI (some j) = nI j from rfl]
              refine v_aload_nR (pc := 117) dX4_setOutSleighs_117 rfl rfl ?_
              refine v_iload (pc := 118) dX4_setOutSleighs_118 rfl ?_
              refine v_aload_nR (pc := 120) dX4_setOutSleighs_120 rfl rfl ?_
              refine v_get (pc := 121) 1 0 fg_X4_21 rfl rfl dX4_setOutSleighs_121 ?_
              refine v_iload (pc := 124) dX4_setOutSleighs_124 rfl ?_
              refine v_callV1 (pc := 126) (c_X1_snowOf (hlt j rfl)) cm_X1_snowOf q299 q300 q301 (ci := 1) rfl rfl (orcO 5 rfl) [5, 6, 7, 8, 9, 10, 11] (by rfl) (by decide) (fun _ _ h => h) (by decide) (by decide) (by decide) (Nat.le_of_ble_eq_true rfl) dX4_setOutSleighs_126 (fun v126 M126 hQ126 => ?_)
              obtain ⟨rfl, rfl⟩ := hQ126
              try dsimp only [wb, LakeM, WaysM, WorldM, List.set_cons_succ, List.set_cons_zero, List.append_nil, List.nil_append, List.cons_append, Option.toList, Nat.sub_zero]
              refine v_iload (pc := 129) dX4_setOutSleighs_129 rfl ?_
              refine v_iadd (pc := 131) dX4_setOutSleighs_131 ?_
              refine v_callV2 (pc := 132) (c_X2_beginToGo (n := 5) (i := i) (by omega)) cm_X2_beginToGo q508 q509 q510 (ci := 2) rfl rfl (orcF 15 rfl (by omega)) [15] (by rfl) (by decide) (fun _ _ h => h) (by decide) (by decide) (by decide) (Nat.le_of_ble_eq_true rfl) dX4_setOutSleighs_132 (fun v132 M132 hQ132 => ?_)
              obtain ⟨rfl, rfl⟩ := hQ132
              try dsimp only [wb, LakeM, WaysM, WorldM, List.set_cons_succ, List.set_cons_zero, List.append_nil, List.nil_append, List.cons_append, Option.toList, Nat.sub_zero]
              refine v_aload_nR (pc := 135) dX4_setOutSleighs_135 rfl rfl ?_
              refine v_get (pc := 136) 1 0 fg_X4_21 rfl rfl dX4_setOutSleighs_136 ?_
              refine v_aload_nR (pc := 139) dX4_setOutSleighs_139 rfl rfl ?_
              refine v_getS (pc := 140) 4 15 fg_X4_104 rfl (by omega) (by decide) dX4_setOutSleighs_140 ?_
              have e4 : upS (upS x.1 i 6 (nI j)) i 7 (N j + slD x.1 i) i 4 = x.1 i 4 := by rw [upS_n _ _ (by omega : ¬ (i = i ∧ 4 = 7)), upS_n _ _ (by omega : ¬ (i = i ∧ 4 = 6))]
              rw [e4]
              refine v_iload_n (pc := 143) dX4_setOutSleighs_143 rfl rfl ?_
              refine v_callV2 (pc := 144) (c_X1_strainUnderX (hx i c9).2.1) cm_X1_strainUnder q512 q513 q514 (ci := 1) rfl rfl (orcO 5 rfl) [5, 6, 7, 8, 9, 10, 11] (by rfl) (by decide) (fun _ _ h => h) (by decide) (by decide) (by decide) (Nat.le_of_ble_eq_true rfl) dX4_setOutSleighs_144 (fun v144 M144 hQ144 => ?_)
              obtain ⟨rfl, rfl⟩ := hQ144
              try dsimp only [wb, LakeM, WaysM, WorldM, List.set_cons_succ, List.set_cons_zero, List.append_nil, List.nil_append, List.cons_append, Option.toList, Nat.sub_zero]
              refine v_iinc (pc := 147) (v := nI (i + 1)) dX4_setOutSleighs_147 rfl (nI_1 _) (by decide) rfl ?_
              refine v_goto (pc := 150) (tgt := 2) dX4_setOutSleighs_150 (by decide) ?_
              have e : soT (.ref (w 5)) T N PC ps sc i x = (upS (upS x.1 i 6 (nI j)) i 7 (N j + slD x.1 i), soQ T N PC ps i x, .ref (w 5), slN x.1 i, slD x.1 i, stU T x.2.2.2.2.2.1 x.2.2.2.2.2.2.1 (cN (x.1 i 4)) (slN x.1 i) x.2.2.2.2.2.2.2) := by
                unfold soT
                rw [if_pos ⟨c9, c22, fun q => c29 ⟨c22, q⟩, c43⟩, hj]
              have hy := soT_ok (l5 := .ref (w 5)) (T := T) (N := N) (PC := PC) (ps := ps) (sc := sc) (n := i) hx
              unfold soL at hr
              rw [e] at hr hy
              have k9 := ih (i + 1) (by omega) x0 _ r hy hr
              refine v_sub ?_ k9
              exact ⟨rfl, rfl, trivial⟩
            · refine v_aload_nR (pc := 103) dX4_setOutSleighs_103 rfl rfl ?_
              refine v_aload_nR (pc := 104) dX4_setOutSleighs_104 rfl rfl ?_
              refine v_get (pc := 105) 1 0 fg_X4_21 rfl rfl dX4_setOutSleighs_105 ?_
              refine v_get (pc := 108) 6 5 fg_X4_176 rfl rfl dX4_setOutSleighs_108 ?_
              refine v_putS (pc := 111) 8 15 fp_X4_setOutSleighs_173 rfl (by omega) (by decide) dX4_setOutSleighs_111 ?_
              refine v_goto (pc := 114) (tgt := 147) dX4_setOutSleighs_114 (by decide) ?_
              refine v_iinc (pc := 147) (v := nI (i + 1)) dX4_setOutSleighs_147 rfl (nI_1 _) (by decide) rfl ?_
              refine v_goto (pc := 150) (tgt := 2) dX4_setOutSleighs_150 (by decide) ?_
              obtain rfl := (oI_m1 hlt).mp c100
              have e : soT (.ref (w 5)) T N PC ps sc i x = (upS x.1 i 8 x.2.2.2.2.2.2.2, soQ T N PC ps i x, .ref (w 5), slN x.1 i, slD x.1 i, x.2.2.2.2.2) := by
                unfold soT
                rw [if_pos ⟨c9, c22, fun q => c29 ⟨c22, q⟩, c43⟩, hj]
              have hy := soT_ok (l5 := .ref (w 5)) (T := T) (N := N) (PC := PC) (ps := ps) (sc := sc) (n := i) hx
              unfold soL at hr
              rw [e] at hr hy
              have k9 := ih (i + 1) (by omega) x0 _ r hy hr
              refine v_sub ?_ k9
              exact ⟨rfl, rfl, trivial⟩
    · refine v_callV1 (pc := 9) (c_X4_sleighAt_n hps hsc hbc (nk_no c9 (by omega) (by omega))) cm_X4_sleighAt q319 q320 q321 (ci := 4) rfl rfl (orcO 0 rfl) [0, 1, 2, 3, 4, 5, 6, 7, 8, 9, 10, 11, 12, 13, 14, 15, 16] (by rfl) (by decide) (fun _ _ h => h) (by decide) (by decide) (by decide) (Nat.le_of_ble_eq_true rfl) dX4_setOutSleighs_9 (fun v9 M9 hQ9 => ?_)
      obtain ⟨rfl, rfl⟩ := hQ9
      try dsimp only [wb, LakeM, WaysM, WorldM, List.set_cons_succ, List.set_cons_zero, List.append_nil, List.nil_append, List.cons_append, Option.toList, Nat.sub_zero]
      refine v_astore_nN (pc := 12) dX4_setOutSleighs_12 rfl (by decide) rfl ?_
      refine v_aload_nN (pc := 13) dX4_setOutSleighs_13 rfl rfl ?_
      refine v_ifnullN (pc := 14) (tgt := 147) dX4_setOutSleighs_14 (by decide) ?_
      refine v_iinc (pc := 147) (v := nI (i + 1)) dX4_setOutSleighs_147 rfl (nI_1 _) (by decide) rfl ?_
      refine v_goto (pc := 150) (tgt := 2) dX4_setOutSleighs_150 (by decide) ?_
      have e : soT (.ref (w 5)) T N PC ps sc i x = x := if_neg (fun h => c9 h.1)
      unfold soL at hr
      rw [e] at hr
      have k9 := ih (i + 1) (by omega) x0 _ r hx hr
      refine v_sub ?_ k9
      exact ⟨rfl, rfl, trivial⟩
set_option maxRecDepth 100000 in
set_option maxHeartbeats 4000000 in
theorem c_X4_setOutSleighs {G : Cx} {w : Nat → Nat} {a b f : Nat → Int32} {wa : Int32} {lr : Value} {nd dg : Int32} {T N S C B O : Nat → Int32} {ch : Int32} {PC : Nat → Int32} {SF BF : Nat → Nat → Int32} {ps sc bc hh : Nat} (hps : ps ≤ 8) (hsc : sc ≤ 5) (hbc : bc ≤ 40) (hPC : ∀ k, k < 8 → 0 ≤ PC k ∧ PC k < 160) (hx : sOK SF sc) : Mt G Y_X4_setOutSleighs 4 0 0 [.ref (w 0)] (WorldM w a b f wa lr nd dg T N S C B O ch PC SF BF ps sc bc hh) (fun v M' => v = none ∧ M' = WorldM w (soL (.ref (w 5)) T N PC ps sc 5 0 (SF, (a, b, f, wa), lr, nd, dg, S, C, ch)).2.1.1 (soL (.ref (w 5)) T N PC ps sc 5 0 (SF, (a, b, f, wa), lr, nd, dg, S, C, ch)).2.1.2.1 (soL (.ref (w 5)) T N PC ps sc 5 0 (SF, (a, b, f, wa), lr, nd, dg, S, C, ch)).2.1.2.2.1 (soL (.ref (w 5)) T N PC ps sc 5 0 (SF, (a, b, f, wa), lr, nd, dg, S, C, ch)).2.1.2.2.2 (soL (.ref (w 5)) T N PC ps sc 5 0 (SF, (a, b, f, wa), lr, nd, dg, S, C, ch)).2.2.1 (soL (.ref (w 5)) T N PC ps sc 5 0 (SF, (a, b, f, wa), lr, nd, dg, S, C, ch)).2.2.2.1 (soL (.ref (w 5)) T N PC ps sc 5 0 (SF, (a, b, f, wa), lr, nd, dg, S, C, ch)).2.2.2.2.1 T N (soL (.ref (w 5)) T N PC ps sc 5 0 (SF, (a, b, f, wa), lr, nd, dg, S, C, ch)).2.2.2.2.2.1 (soL (.ref (w 5)) T N PC ps sc 5 0 (SF, (a, b, f, wa), lr, nd, dg, S, C, ch)).2.2.2.2.2.2.1 B O (soL (.ref (w 5)) T N PC ps sc 5 0 (SF, (a, b, f, wa), lr, nd, dg, S, C, ch)).2.2.2.2.2.2.2 PC (soL (.ref (w 5)) T N PC ps sc 5 0 (SF, (a, b, f, wa), lr, nd, dg, S, C, ch)).1 BF ps sc bc hh) noX := by
  refine Mt.of (L := [some (.ref (w 0)), none, none, none, none, none]) rfl (by decide) (by simp [lg_sl, Value.category]) ⟨rfl, trivial⟩ (fun sz => ?_)
  refine v_iconst (pc := 0) (v := 0) dX4_setOutSleighs_0 rfl ?_
  refine v_istore_n (pc := 1) dX4_setOutSleighs_1 rfl (by decide) rfl ?_
  refine v_sub ?_ (lp_X4_setOut (a := a) (b := b) (f := f) (wa := wa) (lr := lr) (nd := nd) (dg := dg) (T := T) (N := N) (S := S) (C := C) (B := B) (O := O) (ch := ch) (PC := PC) (SF := SF) (BF := BF) (ps := ps) (sc := sc) (bc := bc) (hh := hh) hps hsc hbc hPC 5 0 (by omega) (SF, (a, b, f, wa), lr, nd, dg, S, C, ch) (SF, (a, b, f, wa), lr, nd, dg, S, C, ch) _ hx rfl)
  exact ⟨rfl, rfl, trivial⟩
