/-! what is borne; looking ahead -/
def RchB (T C : Nat → Int32) (g k w : Nat) : Prop := ∃ n, Rch (fun c => hoB T C c (8 + nI w / 12)) g n k
def bsB (T C : Nat → Int32) (g k : Nat) (v : Int32) : Prop := (v = -1 ∧ ¬ RchB T C g k 1) ∨ ∃ m, v = nI m ∧ 1 ≤ m ∧ m ≤ 2000 ∧ RchB T C g k m ∧ ∀ m', m < m' → m' ≤ 2000 → ¬ RchB T C g k m'
theorem Rch.mono {Hb Hb' : Nat → Bool} {g : Nat} (h : ∀ c, Hb' c = true → Hb c = true) : ∀ {n c : Nat}, Rch Hb' g n c → Rch Hb g n c
  | 0, _, q => q
  | n + 1, c, q => by
    obtain ⟨c', i, h1, h2, h3, h4, h5⟩ := q
    exact ⟨c', i, h1, h2, h3, Rch.mono h h4, h c' h5⟩
theorem hoB_mono {T C : Nat → Int32} {c a b : Nat} (hab : a ≤ b) (hb : b < 2 ^ 29) (h : hoB T C c (nI b) = true) : hoB T C c (nI a) = true := by
  rw [hoB_iff] at h ⊢
  rcases h with h | h
  · exact Or.inl h
  · right
    split at h
    · rename_i h0
      rw [if_pos h0]
      exact (fa_le _ _).mpr (by
        have h1 := (fa_le _ _).mp h
        rw [nI_toInt (by omega)] at h1
        rw [nI_toInt (by omega)]
        omega)
    · rename_i h0
      rw [if_neg h0]
      rw [show (2 : Int32) * nI b = nI (2 * b) from pk_mul 2 b] at h
      rw [show (2 : Int32) * nI a = nI (2 * a) from pk_mul 2 a]
      exact (fa_le _ _).mpr (by
        have h1 := (fa_le _ _).mp h
        rw [nI_toInt (by omega)] at h1
        rw [nI_toInt (by omega)]
        omega)
theorem nd_nI {w : Nat} (hw : w < 2 ^ 20) : (8 : Int32) + nI w / 12 = nI (8 + w / 12) := by
  rw [show nI w / (12 : Int32) = nI (w / 12) from pk_div (d := 12) (by omega) (by decide) (by decide)]
  exact nI_add 8 _
theorem RchB.mono {T C : Nat → Int32} {g k w w' : Nat} (h : RchB T C g k w') (hw : w ≤ w') (hb : w' < 2 ^ 20) : RchB T C g k w := by
  obtain ⟨n, h⟩ := h
  refine ⟨n, h.mono (fun c hc => ?_)⟩
  have hc : hoB T C c (8 + nI w' / 12) = true := hc
  show hoB T C c (8 + nI w / 12) = true
  rw [nd_nI (by omega)] at hc ⊢
  exact hoB_mono (by have := Nat.div_le_div_right (c := 12) hw; omega) (by have := Nat.div_le_self w' 12; omega) hc
theorem bsB.one {T C : Nat → Int32} {g k : Nat} {v v' : Int32} (h : bsB T C g k v) (h' : bsB T C g k v') : v = v' := by
  rcases h with ⟨h1, h2⟩ | ⟨m, h1, h2, h3, h4, h5⟩ <;> rcases h' with ⟨h1', h2'⟩ | ⟨m', h1', h2', h3', h4', h5'⟩
  · rw [h1, h1']
  · exact absurd (h4'.mono h2' (by omega)) h2
  · exact absurd (h4.mono h2 (by omega)) h2'
  · have e : m = m' := by
      rcases Nat.lt_trichotomy m m' with q | q | q
      · exact absurd h4' (h5 m' q h3')
      · exact q
      · exact absurd h4 (h5' m q h3)
    rw [h1, h1', e]
theorem cst_0 {N : Nat → Int32} (hN : nOK N) : ∀ j, j < 160 → N j + 0 = nI (cN (N j + 0)) ∧ 1 ≤ cN (N j + 0) ∧ cN (N j + 0) ≤ 43 := by
  intro j hj
  have hNj := hN j hj
  obtain ⟨a, ha, ea⟩ := nI_mk (x := N j) (n := 10) (by omega) (by omega) (by decide)
  rw [Int32.add_zero, ea, cN_nI (by omega)]
  rw [ea, nI_toInt (by omega)] at hNj
  exact ⟨rfl, by omega, by omega⟩
theorem bears_iff {T C N : Nat → Int32} {g k w : Nat} {f : Nat → Int32} (hN : nOK N) (hg : g < 160) (hk : k < 160) : ¬ (lkq (fun c => hoB T C c (8 + nI w / 12)) N 0 k (some g) f).1 k = -1 ↔ RchB T C g k w := by
  have hL := lkq_spec (Hb := fun c => hoB T C c (8 + nI w / 12)) (cst_0 hN) hg hk f
  constructor
  · intro h
    obtain ⟨m, n, h1, h2, h3⟩ := hL.1 k hk |>.resolve_left h
    exact ⟨n, h3.rch⟩
  · rintro ⟨n, h⟩ e
    obtain ⟨m, hw⟩ := Rch.way (cst := fun j => cN (N j + 0)) h
    exact hL.2.1 e n m hw
def foL (n5 : Nat) (l5 : Value) (N O PC : Nat → Int32) (ps sc i : Nat) : Nat → Nat → HW → HW
  | 0, _, x => x
  | n + 1, hh, x => if x.1 i 3 = 2 then x else foL n5 l5 N O PC ps sc i n (hh + 1) (hrW n5 l5 N O PC ps sc 0 hh x)
def foV (i : Nat) (x : HW) : Int32 := if x.1 i 3 = 2 then -1 else x.1 i 4
def arL (n5 : Nat) (l5 : Value) (N O PC : Nat → Int32) (ps sc i : Nat) : Nat → Nat → HW → Nat × HW
  | 0, hh, x => (hh, x)
  | n + 1, hh, x => if ¬ x.1 i 3 = 1 then (hh, x) else arL n5 l5 N O PC ps sc i n (hh + 1) (hrW n5 l5 N O PC ps sc 0 hh x)
def arV (i : Nat) (x : Nat × HW) : Int32 := if x.2.1 i 3 = 0 then nI x.1 - 1 else -1
theorem cpN_at {S U : Nat → Nat → Int32} {sc i k : Nat} (hi : i < sc) (hk : ¬ k = 8) : cpN S U sc i k = U i k := by
  unfold cpN
  rw [if_pos hi, if_neg hk]
theorem cpN_ok {S U : Nat → Nat → Int32} {sc : Nat} (h : sOK U sc) : sOK (cpN S U sc) sc := by
  intro i hi
  rw [cpN_at hi (show ¬ 0 = 8 by decide), cpN_at hi (show ¬ 4 = 8 by decide), cpN_at hi (show ¬ 6 = 8 by decide), cpN_at hi (show ¬ 7 = 8 by decide)]
  exact h i hi
theorem soT_ch {l5 : Value} {T N PC : Nat → Int32} {ps sc n : Nat} {x : SO} : (soT l5 T N PC ps sc n x).2.2.2.2.2.2.2 = x.2.2.2.2.2.2.2 := by
  unfold soT
  split
  · split
    · rfl
    · exact stU_ch
  · rfl
theorem soL_ch {l5 : Value} {T N PC : Nat → Int32} {ps sc : Nat} : ∀ (m i : Nat) {x : SO}, (soL l5 T N PC ps sc m i x).2.2.2.2.2.2.2 = x.2.2.2.2.2.2.2
  | 0, _, _ => rfl
  | m + 1, i, _ => (soL_ch m (i + 1)).trans soT_ch
theorem hrW_ch {n5 : Nat} {l5 : Value} {N O PC : Nat → Int32} {ps sc bc hh B : Nat} {x : HW} (h : chB x.2.2.2.2.2.2.2.2.2.2 B) (hB : B < 2 ^ 30) : chB (hrW n5 l5 N O PC ps sc bc hh x).2.2.2.2.2.2.2.2.2.2 (B + 1) := by
  have e : (hrW n5 l5 N O PC ps sc bc hh x).2.2.2.2.2.2.2.2.2.2 = (hrA O hh x).2.2.2.2.2.2.2.2.2.2 := soL_ch n5 0 (x := ((hrC n5 PC ps sc bc hh (hrB n5 sc bc (hrA O hh x))).1, (hrC n5 PC ps sc bc hh (hrB n5 sc bc (hrA O hh x))).2.2.2.2))
  rw [e]
  unfold hrA
  split
  · show chB (dH _ x.2.2.2.2.2.2.2.2.2.2) (B + 1)
    unfold dH
    split
    · exact (h.next hB).1
    · exact h.up (by omega)
  · exact h.up (by omega)
theorem foL_ch {n5 : Nat} {l5 : Value} {N O PC : Nat → Int32} {ps sc i : Nat} : ∀ (n hh : Nat) {x : HW} {B : Nat}, chB x.2.2.2.2.2.2.2.2.2.2 B → B + n < 2 ^ 30 → chB (foL n5 l5 N O PC ps sc i n hh x).2.2.2.2.2.2.2.2.2.2 (B + n)
  | 0, _, _, _, h, _ => h
  | n + 1, hh, x, B, h, hB => by
    have e : foL n5 l5 N O PC ps sc i (n + 1) hh x = if x.1 i 3 = 2 then x else foL n5 l5 N O PC ps sc i n (hh + 1) (hrW n5 l5 N O PC ps sc 0 hh x) := rfl
    rw [e]
    by_cases h2 : x.1 i 3 = 2
    · rw [if_pos h2]
      exact h.up (by omega)
    · rw [if_neg h2]
      exact (foL_ch n (hh + 1) (hrW_ch (ps := ps) (bc := 0) h (by omega)) (by omega)).up (by omega)
theorem arL_ch {n5 : Nat} {l5 : Value} {N O PC : Nat → Int32} {ps sc i : Nat} : ∀ (n hh : Nat) {x : HW} {B : Nat}, chB x.2.2.2.2.2.2.2.2.2.2 B → B + n < 2 ^ 30 → chB (arL n5 l5 N O PC ps sc i n hh x).2.2.2.2.2.2.2.2.2.2.2 (B + n)
  | 0, _, _, _, h, _ => h
  | n + 1, hh, x, B, h, hB => by
    have e : arL n5 l5 N O PC ps sc i (n + 1) hh x = if ¬ x.1 i 3 = 1 then (hh, x) else arL n5 l5 N O PC ps sc i n (hh + 1) (hrW n5 l5 N O PC ps sc 0 hh x) := rfl
    rw [e]
    by_cases h2 : ¬ x.1 i 3 = 1
    · rw [if_pos h2]
      exact h.up (by omega)
    · rw [if_neg h2]
      exact (arL_ch n (hh + 1) (hrW_ch (ps := ps) (bc := 0) h (by omega)) (by omega)).up (by omega)
theorem isP_lt {sc : Nat} {s : Int32} (hsc : sc ≤ 5) (h : isP sc s) : cN s < sc := by
  obtain ⟨i, hi, rfl⟩ := kOf h (by omega)
  rw [cN_nI (by omega)]
  exact hi
theorem cN_le {q : Int32} (h : 1 ≤ q ∧ q ≤ 200) : cN q ≤ 200 := by
  obtain ⟨n, hn, rfl⟩ := le_nI 200 (by decide) ⟨i_le.mpr (by have := h.1; rw [i_le, i_1] at this; rw [i_0]; omega), h.2⟩
  rw [cN_nI (by omega)]
  exact hn
set_option maxRecDepth 100000 in
set_option maxHeartbeats 4000000 in
theorem lp_X5_foresee {G : Cx} {g0 : Nat} {u : Nat → Nat} {w : Nat → Nat} {a b f : Nat → Int32} {wa : Int32} {lr : Value} {nd dg : Int32} {T N S C B O : Nat → Int32} {ch : Int32} {PC : Nat → Int32} {SF BF : Nat → Nat → Int32} {ps sc bc hh : Nat} (hps : ps ≤ 8) (hsc : sc ≤ 5) (hbc : bc ≤ 40) {n5 : Nat} (h5 : n5 = 5) {sz n si : Nat} {cc : Prop} (hcc : cc) {M0 : List ME} (hM0 : M0.length = 35) {XX : String → List ME → Prop} {r : HW} (hi : si < sc) (hhh : hh + n < 2 ^ 31 - 1) (hPC : ∀ k, k < 8 → 0 ≤ PC k ∧ PC k < 160) : ∀ (m i : Nat), m + i = n → ∀ x : HW, sOK x.1 sc → cOK x.2.2.2.2.2.2.2.2.2.1 → foL n5 (.ref (u 5)) N O PC ps sc si m (hh + i) x = r → V G Y_X5_foresee (ZM G M0 sz (fun v M' => cc ∧ v = some (.int (foV si r)) ∧ ∃ (h' : Nat), M' = eO 5 g0 [.ref (w 0), .ref (u 0)] :: (WorldM w a b f wa lr nd dg T N S C B O ch PC SF BF ps sc bc hh ++ WH u N O PC ps sc 0 h' r)) XX) 7 1 6 65 [some (.ref g0), some (.int (nI si)), some (.int (nI n)), some (.ref (sS u si)), some (.int (nI i))] [] (eO 5 g0 [.ref (w 0), .ref (u 0)] :: (WorldM w a b f wa lr nd dg T N S C B O ch PC SF BF ps sc bc hh ++ WH u N O PC ps sc 0 (hh + i) x)) := by
  intro m
  induction m with
  | zero =>
    intro i hj
    have hi2 : i = n := by omega
    intro x hx hC hr
    obtain rfl : x = r := hr
    refine v_aload_nR (pc := 65) dX5_foresee_65 rfl rfl ?_
    refine v_ifnullR (pc := 66) dX5_foresee_66 ?_
    refine v_iload (pc := 69) dX5_foresee_69 rfl ?_
    refine v_iload_n (pc := 71) dX5_foresee_71 rfl rfl ?_
    refine v_icmp_ge (pc := 72) (tgt := 97) dX5_foresee_72 (by decide) (fun c72 => ?_) (fun c72 => absurd (nI_le (a := n) (b := i) (by omega) (by omega)) c72)
    have c72 : n ≤ i := (nI_leI (a := n) (b := i) (by omega) (by omega)).mp c72
    refine v_aload_nR (pc := 97) dX5_foresee_97 rfl rfl ?_
    refine v_ifnullR (pc := 98) dX5_foresee_98 ?_
    refine v_aload_nR (pc := 101) dX5_foresee_101 rfl rfl ?_
    refine v_getS (pc := 102) 3 33 fg_X5_141 rfl (by omega) (by decide) dX5_foresee_102 ?_
    refine v_iconst (pc := 105) (v := 2) dX5_foresee_105 rfl ?_
    refine v_icmp_ne (pc := 106) (tgt := 113) dX5_foresee_106 (by decide) (fun c106 => ?_) (fun c106 => ?_)
    · refine v_aload_nR (pc := 113) dX5_foresee_113 rfl rfl ?_
      refine v_getS (pc := 114) 4 33 fg_X5_225 rfl (by omega) (by decide) dX5_foresee_114 ?_
      refine v_iret (pc := 117) rfl rfl (by rw [hM0]; exact Nat.le_of_ble_eq_true rfl) dX5_foresee_117 ?_
      exact ⟨hcc, by unfold foV; rw [if_neg c106], _, rfl⟩
    · refine v_iconst (pc := 109) (v := -1) dX5_foresee_109 rfl ?_
      refine v_goto (pc := 110) (tgt := 117) dX5_foresee_110 (by decide) ?_
      refine v_iret (pc := 117) rfl rfl (by rw [hM0]; exact Nat.le_of_ble_eq_true rfl) dX5_foresee_117 ?_
      exact ⟨hcc, by unfold foV; rw [if_pos c106], _, rfl⟩
  | succ m ih =>
    intro i hj
    intro x hx hC hr
    unfold foL at hr
    refine v_aload_nR (pc := 65) dX5_foresee_65 rfl rfl ?_
    refine v_ifnullR (pc := 66) dX5_foresee_66 ?_
    refine v_iload (pc := 69) dX5_foresee_69 rfl ?_
    refine v_iload_n (pc := 71) dX5_foresee_71 rfl rfl ?_
    refine v_icmp_ge (pc := 72) (tgt := 97) dX5_foresee_72 (by decide) (fun c72 => absurd c72 (nI_ge (a := i) (b := n) (by omega) (by omega))) (fun c72 => ?_)
    have c72 : ¬ n ≤ i := fun h => c72 ((nI_leI (a := n) (b := i) (by omega) (by omega)).mpr h)
    refine v_aload_nR (pc := 75) dX5_foresee_75 rfl rfl ?_
    refine v_getS (pc := 76) 3 33 fg_X5_141 rfl (by omega) (by decide) dX5_foresee_76 ?_
    refine v_iconst (pc := 79) (v := 2) dX5_foresee_79 rfl ?_
    refine v_icmp_eq (pc := 80) (tgt := 97) dX5_foresee_80 (by decide) (fun c80 => ?_) (fun c80 => ?_)
    · rw [if_pos c80] at hr
      subst hr
      refine v_aload_nR (pc := 97) dX5_foresee_97 rfl rfl ?_
      refine v_ifnullR (pc := 98) dX5_foresee_98 ?_
      refine v_aload_nR (pc := 101) dX5_foresee_101 rfl rfl ?_
      refine v_getS (pc := 102) 3 33 fg_X5_141 rfl (by omega) (by decide) dX5_foresee_102 ?_
      refine v_iconst (pc := 105) (v := 2) dX5_foresee_105 rfl ?_
      refine v_icmp_ne (pc := 106) (tgt := 113) dX5_foresee_106 (by decide) (fun c106 => ?_) (fun c106 => ?_)
      · refine v_aload_nR (pc := 113) dX5_foresee_113 rfl rfl ?_
        refine v_getS (pc := 114) 4 33 fg_X5_225 rfl (by omega) (by decide) dX5_foresee_114 ?_
        refine v_iret (pc := 117) rfl rfl (by rw [hM0]; exact Nat.le_of_ble_eq_true rfl) dX5_foresee_117 ?_
        exact ⟨hcc, by unfold foV; rw [if_neg c106], _, rfl⟩
      · refine v_iconst (pc := 109) (v := -1) dX5_foresee_109 rfl ?_
        refine v_goto (pc := 110) (tgt := 117) dX5_foresee_110 (by decide) ?_
        refine v_iret (pc := 117) rfl rfl (by rw [hM0]; exact Nat.le_of_ble_eq_true rfl) dX5_foresee_117 ?_
        exact ⟨hcc, by unfold foV; rw [if_pos c106], _, rfl⟩
    · refine v_aload_nR (pc := 83) dX5_foresee_83 rfl rfl ?_
      refine v_get (pc := 84) 1 0 fg_X5_16 rfl rfl dX5_foresee_84 ?_
      refine v_callV0 (pc := 87) (c_X4_goOneHour (w := u) (N := N) (O := O) (hh := hh + i) (x := x) h5 hps hsc (Nat.zero_le 40) (by omega) hPC hx hC) cm_X4_goOneHour q387 q388 q389 (ci := 4) rfl rfl (orcO 18 rfl) [18, 19, 20, 21, 22, 23, 24, 25, 26, 27, 28, 29, 30, 31, 32, 33, 34] (by rfl) (by decide) (fun _ _ h => h) (by decide) (by decide) (by decide) (Nat.le_of_ble_eq_true rfl) dX5_foresee_87 (fun v87 M87 hQ87 => ?_)
      obtain ⟨rfl, rfl⟩ := hQ87
      try dsimp only [wb, LakeM, WaysM, WorldM, List.set_cons_succ, List.set_cons_zero, List.append_nil, List.nil_append, List.cons_append, Option.toList, Nat.sub_zero]
      refine v_pop (pc := 90) dX5_foresee_90 rfl ?_
      refine v_iinc (pc := 91) (v := nI (i + 1)) dX5_foresee_91 rfl (nI_1 _) (by decide) rfl ?_
      refine v_goto (pc := 94) (tgt := 65) dX5_foresee_94 (by decide) ?_
      rw [if_neg c80] at hr
      exact ih (i + 1) (by omega) _ (hrW_ok hx) (hrW_cok hC) hr
set_option maxRecDepth 100000 in
set_option maxHeartbeats 4000000 in
theorem c_X5_foresee_n {G : Cx} {w : Nat → Nat} {a b f : Nat → Int32} {wa : Int32} {lr : Value} {nd dg : Int32} {T N S C B O : Nat → Int32} {ch : Int32} {PC : Nat → Int32} {SF BF : Nat → Nat → Int32} {ps sc bc hh : Nat} {g0 : Nat} {u : Nat → Nat} {a2 b2 f2 : Nat → Int32} {wa2 : Int32} {lr2 : Value} {nd2 dg2 : Int32} {T2 N2 S2 C2 B2 O2 : Nat → Int32} {ch2 : Int32} {PC2 : Nat → Int32} {SF2 BF2 : Nat → Nat → Int32} {ps2 sc2 hh2 : Nat} (hps : ps ≤ 8) (hsc : sc ≤ 5) (hbc : bc ≤ 40) {n5 : Nat} (h5 : n5 = 5)  {s q : Int32} (hn : ¬ isP sc s) : Mt G Y_X5_foresee 7 1 6 [.ref g0, .int s, .int q] (eO 5 g0 [.ref (w 0), .ref (u 0)] :: (WorldM w a b f wa lr nd dg T N S C B O ch PC SF BF ps sc bc hh ++ WorldM u a2 b2 f2 wa2 lr2 nd2 dg2 T2 N2 S2 C2 B2 O2 ch2 PC2 SF2 BF2 ps2 sc2 0 hh2)) (fun v M' => (isP sc s ∧ (1 ≤ q ∧ q ≤ 200)) ∧ v = some (.int (foV (cN s) (foL n5 (.ref (u 5)) N O PC ps sc (cN s) (cN q) hh (cpN SF2 SF sc, BF2, T, B2, (a2, b2, f2, wa2), lr2, nd2, dg2, S, C, ch2)))) ∧ ∃ (h' : Nat), M' = eO 5 g0 [.ref (w 0), .ref (u 0)] :: (WorldM w a b f wa lr nd dg T N S C B O ch PC SF BF ps sc bc hh ++ WH u N O PC ps sc 0 h' (foL n5 (.ref (u 5)) N O PC ps sc (cN s) (cN q) hh (cpN SF2 SF sc, BF2, T, B2, (a2, b2, f2, wa2), lr2, nd2, dg2, S, C, ch2)))) (fun E M' => M' = eO 5 g0 [.ref (w 0), .ref (u 0)] :: (WorldM w a b f wa lr nd dg T N S C B O ch PC SF BF ps sc bc hh ++ WorldM u a2 b2 f2 wa2 lr2 nd2 dg2 T2 N2 S2 C2 B2 O2 ch2 PC2 SF2 BF2 ps2 sc2 0 hh2) ∧ ((E = IOX ∧ ¬ isP sc s) ∨ (E = IAX ∧ isP sc s ∧ ¬ (1 ≤ q ∧ q ≤ 200)))) := by
  refine Mt.of (L := [some (.ref g0), some (.int s), some (.int q), none, none]) rfl (by decide) (by simp [lg_sl, Value.category]) ⟨rfl, rfl, rfl, trivial⟩ (fun sz => ?_)
  refine v_aload_nR (pc := 0) dX5_foresee_0 rfl rfl ?_
  refine v_get (pc := 1) 0 0 fg_X5_10 rfl rfl dX5_foresee_1 ?_
  refine v_iload_n (pc := 4) dX5_foresee_4 rfl rfl ?_
  refine v_callV1 (pc := 5) (c_X4_sleighAt_n hps hsc hbc hn) cm_X4_sleighAt q327 q320 q321 (ci := 4) rfl rfl (orcO 1 rfl) [1, 2, 3, 4, 5, 6, 7, 8, 9, 10, 11, 12, 13, 14, 15, 16, 17] (by rfl) (by decide) (fun _ _ h => h) (by decide) (by decide) (by decide) (Nat.le_of_ble_eq_true rfl) dX5_foresee_5 (fun v5 M5 hQ5 => ?_)
  obtain ⟨rfl, rfl⟩ := hQ5
  try dsimp only [wb, LakeM, WaysM, WorldM, List.set_cons_succ, List.set_cons_zero, List.append_nil, List.nil_append, List.cons_append, Option.toList, Nat.sub_zero]
  refine v_ifnonnullN (pc := 8) dX5_foresee_8 ?_
  exact v_throw (pc := 11) (names := ["java/lang/RuntimeException", "java/lang/Exception"]) tw_X5_60_219_64 rfl (Nat.le_of_ble_eq_true rfl) dX5_foresee_11 dX5_foresee_14 dX5_foresee_15 dX5_foresee_17 dX5_foresee_20 (by decide) (Nat.le_of_ble_eq_true rfl) (by decide) (by decide) ⟨rfl, Or.inl ⟨rfl, hn⟩⟩
set_option maxRecDepth 100000 in
set_option maxHeartbeats 4000000 in
theorem c_X5_foresee_k {G : Cx} {w : Nat → Nat} {a b f : Nat → Int32} {wa : Int32} {lr : Value} {nd dg : Int32} {T N S C B O : Nat → Int32} {ch : Int32} {PC : Nat → Int32} {SF BF : Nat → Nat → Int32} {ps sc bc hh : Nat} {g0 : Nat} {u : Nat → Nat} {a2 b2 f2 : Nat → Int32} {wa2 : Int32} {lr2 : Value} {nd2 dg2 : Int32} {T2 N2 S2 C2 B2 O2 : Nat → Int32} {ch2 : Int32} {PC2 : Nat → Int32} {SF2 BF2 : Nat → Nat → Int32} {ps2 sc2 hh2 : Nat} (hps : ps ≤ 8) (hsc : sc ≤ 5) (hbc : bc ≤ 40) {n5 : Nat} (h5 : n5 = 5)  {q : Int32} {i : Nat} (hi : i < sc) (hPC : ∀ k, k < 8 → 0 ≤ PC k ∧ PC k < 160) (hx : sOK SF sc) (hC : cOK C) (hhh : hh + 300 < 2 ^ 31 - 1) : Mt G Y_X5_foresee 7 1 6 [.ref g0, .int (nI i), .int q] (eO 5 g0 [.ref (w 0), .ref (u 0)] :: (WorldM w a b f wa lr nd dg T N S C B O ch PC SF BF ps sc bc hh ++ WorldM u a2 b2 f2 wa2 lr2 nd2 dg2 T2 N2 S2 C2 B2 O2 ch2 PC2 SF2 BF2 ps2 sc2 0 hh2)) (fun v M' => (isP sc (nI i) ∧ (1 ≤ q ∧ q ≤ 200)) ∧ v = some (.int (foV (cN (nI i)) (foL n5 (.ref (u 5)) N O PC ps sc (cN (nI i)) (cN q) hh (cpN SF2 SF sc, BF2, T, B2, (a2, b2, f2, wa2), lr2, nd2, dg2, S, C, ch2)))) ∧ ∃ (h' : Nat), M' = eO 5 g0 [.ref (w 0), .ref (u 0)] :: (WorldM w a b f wa lr nd dg T N S C B O ch PC SF BF ps sc bc hh ++ WH u N O PC ps sc 0 h' (foL n5 (.ref (u 5)) N O PC ps sc (cN (nI i)) (cN q) hh (cpN SF2 SF sc, BF2, T, B2, (a2, b2, f2, wa2), lr2, nd2, dg2, S, C, ch2)))) (fun E M' => M' = eO 5 g0 [.ref (w 0), .ref (u 0)] :: (WorldM w a b f wa lr nd dg T N S C B O ch PC SF BF ps sc bc hh ++ WorldM u a2 b2 f2 wa2 lr2 nd2 dg2 T2 N2 S2 C2 B2 O2 ch2 PC2 SF2 BF2 ps2 sc2 0 hh2) ∧ ((E = IOX ∧ ¬ isP sc (nI i)) ∨ (E = IAX ∧ isP sc (nI i) ∧ ¬ (1 ≤ q ∧ q ≤ 200)))) := by
  refine Mt.of (L := [some (.ref g0), some (.int (nI i)), some (.int q), none, none]) rfl (by decide) (by simp [lg_sl, Value.category]) ⟨rfl, rfl, rfl, trivial⟩ (fun sz => ?_)
  refine v_aload_nR (pc := 0) dX5_foresee_0 rfl rfl ?_
  refine v_get (pc := 1) 0 0 fg_X5_10 rfl rfl dX5_foresee_1 ?_
  refine v_iload_n (pc := 4) dX5_foresee_4 rfl rfl ?_
  refine v_callV1 (pc := 5) (c_X4_sleighAt_k hps hsc hbc hi) cm_X4_sleighAt q327 q320 q321 (ci := 4) rfl rfl (orcO 1 rfl) [1, 2, 3, 4, 5, 6, 7, 8, 9, 10, 11, 12, 13, 14, 15, 16, 17] (by rfl) (by decide) (fun _ _ h => h) (by decide) (by decide) (by decide) (Nat.le_of_ble_eq_true rfl) dX5_foresee_5 (fun v5 M5 hQ5 => ?_)
  obtain ⟨rfl, rfl⟩ := hQ5
  try dsimp only [wb, LakeM, WaysM, WorldM, List.set_cons_succ, List.set_cons_zero, List.append_nil, List.nil_append, List.cons_append, Option.toList, Nat.sub_zero]
  refine v_ifnonnullR (pc := 8) (tgt := 21) dX5_foresee_8 (by decide) ?_
  refine v_iload_n (pc := 21) dX5_foresee_21 rfl rfl ?_
  refine v_iconst (pc := 22) (v := 1) dX5_foresee_22 rfl ?_
  refine v_sipush (pc := 23) (v := 200) dX5_foresee_23 rfl ?_
  refine v_callS3 (pc := 26) (c_X5_isWithin ) cm_X5_isWithin q214 q215 [] (by rfl) (by decide) (fun _ _ h => h) (by decide) (by decide) (by decide) (Nat.le_of_ble_eq_true rfl) dX5_foresee_26 (fun v26 M26 hQ26 => ?_)
  obtain ⟨rfl, rfl⟩ := hQ26
  try dsimp only [wb, LakeM, WaysM, WorldM, List.set_cons_succ, List.set_cons_zero, List.append_nil, List.nil_append, List.cons_append, Option.toList, Nat.sub_zero]
  refine v_if_ne (pc := 29) (tgt := 42) dX5_foresee_29 (by decide) (fun c29 => ?_) (fun c29 => ?_)
  · have c29 := bI_n.mp c29
    refine v_aload_nR (pc := 42) dX5_foresee_42 rfl rfl ?_
    refine v_get (pc := 43) 1 0 fg_X5_16 rfl rfl dX5_foresee_43 ?_
    refine v_aload_nR (pc := 46) dX5_foresee_46 rfl rfl ?_
    refine v_get (pc := 47) 0 0 fg_X5_10 rfl rfl dX5_foresee_47 ?_
    refine v_callV1 (pc := 50) (c_X4_copyWithoutBags hps hsc (Nat.zero_le 40) hbc hC) cm_X4_copyWithoutBags q555 q556 q557 (ci := 4) rfl rfl (orcO 18 rfl) [18, 19, 20, 21, 22, 23, 24, 25, 26, 27, 28, 29, 30, 31, 32, 33, 34, 1, 2, 3, 4, 5, 6, 7, 8, 9, 10, 11, 12, 13, 14, 15, 16, 17] (by rfl) (by decide) (fun _ _ h => h) (by decide) (by decide) (by decide) (Nat.le_of_ble_eq_true rfl) dX5_foresee_50 (fun v50 M50 hQ50 => ?_)
    obtain ⟨rfl, rfl⟩ := hQ50
    try dsimp only [wb, LakeM, WaysM, WorldM, List.set_cons_succ, List.set_cons_zero, List.append_nil, List.nil_append, List.cons_append, Option.toList, Nat.sub_zero]
    refine v_aload_nR (pc := 53) dX5_foresee_53 rfl rfl ?_
    refine v_get (pc := 54) 1 0 fg_X5_16 rfl rfl dX5_foresee_54 ?_
    refine v_iload_n (pc := 57) dX5_foresee_57 rfl rfl ?_
    refine v_callV1 (pc := 58) (c_X4_sleighAt_k hps hsc (Nat.zero_le 40) hi) cm_X4_sleighAt q327 q320 q321 (ci := 4) rfl rfl (orcO 18 rfl) [18, 19, 20, 21, 22, 23, 24, 25, 26, 27, 28, 29, 30, 31, 32, 33, 34] (by rfl) (by decide) (fun _ _ h => h) (by decide) (by decide) (by decide) (Nat.le_of_ble_eq_true rfl) dX5_foresee_58 (fun v58 M58 hQ58 => ?_)
    obtain ⟨rfl, rfl⟩ := hQ58
    try dsimp only [wb, LakeM, WaysM, WorldM, List.set_cons_succ, List.set_cons_zero, List.append_nil, List.nil_append, List.cons_append, Option.toList, Nat.sub_zero]
    refine v_astore_nR (pc := 61) dX5_foresee_61 rfl (by decide) rfl ?_
    refine v_iconst (pc := 62) (v := 0) dX5_foresee_62 rfl ?_
    refine v_istore (pc := 63) dX5_foresee_63 (by decide) rfl ?_
    obtain ⟨n, hn, rfl⟩ := le_nI 200 (by decide) ⟨i_le.mpr (by have := c29.1; rw [i_le, i_1] at this; rw [i_0]; omega), c29.2⟩
    rw [cN_nI (show i < 2 ^ 31 by omega), cN_nI (show n < 2 ^ 31 by omega)]
    refine v_sub (L' := [some (.ref g0), some (.int (nI i)), some (.int (nI n)), some (.ref (sS u i)), some (.int (nI 0))]) ⟨rfl, rfl, rfl, rfl, rfl, trivial⟩ ?_
    exact lp_X5_foresee (n := n) (w := w) (hh := hh) (cc := isP sc (nI i) ∧ (1 ≤ nI n ∧ nI n ≤ 200)) hps hsc hbc h5 ⟨isP_k hi (by omega), c29⟩ (by rfl) hi (by omega) hPC n 0 (by omega) (cpN SF2 SF sc, BF2, T, B2, (a2, b2, f2, wa2), lr2, nd2, dg2, S, C, ch2) (cpN_ok hx) hC rfl
  · have c29 := bI_0.mp c29
    exact v_throw (pc := 32) (names := ["java/lang/RuntimeException", "java/lang/Exception"]) tw_X5_27_185_31 rfl (Nat.le_of_ble_eq_true rfl) dX5_foresee_32 dX5_foresee_35 dX5_foresee_36 dX5_foresee_38 dX5_foresee_41 (by decide) (Nat.le_of_ble_eq_true rfl) (by decide) (by decide) ⟨rfl, Or.inr ⟨rfl, isP_k hi (by omega), c29⟩⟩
theorem c_X5_foresee {G : Cx} {w : Nat → Nat} {a b f : Nat → Int32} {wa : Int32} {lr : Value} {nd dg : Int32} {T N S C B O : Nat → Int32} {ch : Int32} {PC : Nat → Int32} {SF BF : Nat → Nat → Int32} {ps sc bc hh : Nat} {g0 : Nat} {u : Nat → Nat} {a2 b2 f2 : Nat → Int32} {wa2 : Int32} {lr2 : Value} {nd2 dg2 : Int32} {T2 N2 S2 C2 B2 O2 : Nat → Int32} {ch2 : Int32} {PC2 : Nat → Int32} {SF2 BF2 : Nat → Nat → Int32} {ps2 sc2 hh2 : Nat} (hps : ps ≤ 8) (hsc : sc ≤ 5) (hbc : bc ≤ 40) {n5 : Nat} (h5 : n5 = 5) {s q : Int32} (hPC : ∀ k, k < 8 → 0 ≤ PC k ∧ PC k < 160) (hx : sOK SF sc) (hC : cOK C) (hhh : hh + 300 < 2 ^ 31 - 1) : Mt G Y_X5_foresee 7 1 6 [.ref g0, .int s, .int q] (eO 5 g0 [.ref (w 0), .ref (u 0)] :: (WorldM w a b f wa lr nd dg T N S C B O ch PC SF BF ps sc bc hh ++ WorldM u a2 b2 f2 wa2 lr2 nd2 dg2 T2 N2 S2 C2 B2 O2 ch2 PC2 SF2 BF2 ps2 sc2 0 hh2)) (fun v M' => (isP sc s ∧ (1 ≤ q ∧ q ≤ 200)) ∧ v = some (.int (foV (cN s) (foL n5 (.ref (u 5)) N O PC ps sc (cN s) (cN q) hh (cpN SF2 SF sc, BF2, T, B2, (a2, b2, f2, wa2), lr2, nd2, dg2, S, C, ch2)))) ∧ ∃ (h' : Nat), M' = eO 5 g0 [.ref (w 0), .ref (u 0)] :: (WorldM w a b f wa lr nd dg T N S C B O ch PC SF BF ps sc bc hh ++ WH u N O PC ps sc 0 h' (foL n5 (.ref (u 5)) N O PC ps sc (cN s) (cN q) hh (cpN SF2 SF sc, BF2, T, B2, (a2, b2, f2, wa2), lr2, nd2, dg2, S, C, ch2)))) (fun E M' => M' = eO 5 g0 [.ref (w 0), .ref (u 0)] :: (WorldM w a b f wa lr nd dg T N S C B O ch PC SF BF ps sc bc hh ++ WorldM u a2 b2 f2 wa2 lr2 nd2 dg2 T2 N2 S2 C2 B2 O2 ch2 PC2 SF2 BF2 ps2 sc2 0 hh2) ∧ ((E = IOX ∧ ¬ isP sc s) ∨ (E = IAX ∧ isP sc s ∧ ¬ (1 ≤ q ∧ q ≤ 200)))) := by
  by_cases h : isP sc s
  · obtain ⟨i, hi, rfl⟩ := kOf h (by omega)
    exact c_X5_foresee_k hps hsc hbc h5 hi hPC hx hC hhh
  · exact c_X5_foresee_n hps hsc hbc h5 h
