/-! the law: its world; what it writes down ahead of an hour -/
abbrev YL (nm : String) (hd : List (Nat × Nat × Nat × Nat)) : MI := (⟨RL, nm, "([I)Z"⟩, cL_law, 26, some (.boolean), hd)
abbrev LawM (g0 : Nat) (w u v xs bs : Nat → Nat) (a b f : Nat → Int32) (wa : Int32) (lr : Value) (nd dg : Int32) (T N S C B O : Nat → Int32) (ch : Int32) (PC : Nat → Int32) (SF BF : Nat → Nat → Int32) (ps sc bc hh : Nat) (a2 b2 f2 : Nat → Int32) (wa2 : Int32) (lr2 : Value) (nd2 dg2 : Int32) (T2 N2 S2 C2 B2 O2 : Nat → Int32) (ch2 : Int32) (PC2 : Nat → Int32) (SF2 BF2 : Nat → Nat → Int32) (ps2 sc2 hh2 : Nat) (MX H D : Nat → Int32) : List ME :=
  eO 5 g0 [.ref (w 0), .ref (u 0)] :: (WorldM w a b f wa lr nd dg T N S C B O ch PC SF BF ps sc bc hh ++ (WorldM u a2 b2 f2 wa2 lr2 nd2 dg2 T2 N2 S2 C2 B2 O2 ch2 PC2 SF2 BF2 ps2 sc2 0 hh2 ++ SimM v xs bs hh T N S C O PC ps sc bc SF MX BF H D))
theorem tlS_0 {SF BF : Nat → Nat → Int32} {bc i : Nat} : tlS SF BF bc i 0 = SF i 0 := rfl
theorem tlS_1 {SF BF : Nat → Nat → Int32} {bc i : Nat} : tlS SF BF bc i 1 = slW SF i := rfl
theorem tlS_2 {SF BF : Nat → Nat → Int32} {bc i : Nat} : tlS SF BF bc i 2 = SF i 2 := rfl
theorem tlS_3 {SF BF : Nat → Nat → Int32} {bc i : Nat} : tlS SF BF bc i 3 = SF i 3 := rfl
theorem tlS_4 {SF BF : Nat → Nat → Int32} {bc i : Nat} : tlS SF BF bc i 4 = SF i 4 := rfl
theorem tlS_5 {SF BF : Nat → Nat → Int32} {bc i : Nat} : tlS SF BF bc i 5 = SF i 5 := rfl
theorem tlS_6 {SF BF : Nat → Nat → Int32} {bc i : Nat} : tlS SF BF bc i 6 = SF i 7 := rfl
theorem tlS_7 {SF BF : Nat → Nat → Int32} {bc i : Nat} : tlS SF BF bc i 7 = slN SF i := rfl
theorem tlS_8 {SF BF : Nat → Nat → Int32} {bc i : Nat} : tlS SF BF bc i 8 = sumN (bgF BF bc (nI i)) 40 := rfl
theorem tlC_0 {T N S C PC : Nat → Int32} {SF : Nat → Nat → Int32} {ps sc k : Nat} : tlC T N S C PC SF ps sc k 0 = T k := rfl
theorem tlC_1 {T N S C PC : Nat → Int32} {SF : Nat → Nat → Int32} {ps sc k : Nat} : tlC T N S C PC SF ps sc k 1 = N k := rfl
theorem tlC_2 {T N S C PC : Nat → Int32} {SF : Nat → Nat → Int32} {ps sc k : Nat} : tlC T N S C PC SF ps sc k 2 = S k := rfl
theorem tlC_3 {T N S C PC : Nat → Int32} {SF : Nat → Nat → Int32} {ps sc k : Nat} : tlC T N S C PC SF ps sc k 3 = bI (¬ C k = 0) := rfl
def upTo (N K : Nat) (F g : Nat → Nat → Int32) : Prop := ∀ c, c < N → ∀ k, k < K → F c k = g c k
theorem upTo_0 {K : Nat} {F g : Nat → Nat → Int32} : upTo 0 K F g := fun c h => absurd h (Nat.not_lt_zero c)
theorem upTo_s {i K : Nat} {F g : Nat → Nat → Int32} (h : upTo i K F g) (h2 : ∀ k, k < K → F i k = g i k) : upTo (i + 1) K F g := fun c hc k hk => by
  by_cases e : c = i
  · rw [e]; exact h2 k hk
  · exact h c (by omega) k hk
theorem upTo_u {i K j : Nat} {F g : Nat → Nat → Int32} {v : Int32} (h : upTo i K F g) : upTo i K (upS F i j v) g := fun c hc k hk => by
  rw [upS_n _ _ (fun z => by have := z.1; omega)]
  exact h c hc k hk
theorem row_u {i j : Nat} {F g : Nat → Nat → Int32} {v : Int32} (h : ∀ k, k < j → F i k = g i k) (hv : v = g i j) : ∀ k, k < j + 1 → upS F i j v i k = g i k := fun k hk => by
  by_cases e : k = j
  · rw [e, upS_s]; exact hv
  · rw [upS_n _ _ (fun z => e z.2)]
    exact h k (by omega)
set_option maxRecDepth 100000 in
set_option maxHeartbeats 4000000 in
theorem lw_cei {G : Cx} {nm : String} {hd9 : List (Nat × Nat × Nat × Nat)} {Z : ZT} {ck sk : Nat} {g0 : Nat} {w u v xs bs : Nat → Nat} {a b f : Nat → Int32} {wa : Int32} {lr : Value} {nd dg : Int32} {T N S C B O : Nat → Int32} {ch : Int32} {PC : Nat → Int32} {SF BF : Nat → Nat → Int32} {ps sc bc hh : Nat} {a2 b2 f2 : Nat → Int32} {wa2 : Int32} {lr2 : Value} {nd2 dg2 : Int32} {T2 N2 S2 C2 B2 O2 : Nat → Int32} {ch2 : Int32} {PC2 : Nat → Int32} {SF2 BF2 : Nat → Nat → Int32} {ps2 sc2 hh2 : Nat} {MX H D : Nat → Int32} (hps : ps ≤ 8) (hsc : sc ≤ 5) (hbc : bc ≤ 40) {q7 : Nat} {t0 : Nat} {x6 : Int32} {r : Nat → Nat} {i : Nat} (hi : i < 160) (Kc : ∀ F : Nat → Nat → Int32, upTo (i + 1) 4 F (tlC T N S C PC SF ps sc) → V G (YL nm hd9) Z 9 (ck) (sk) 140 [some (.ref G.2.2.2.1), some (.ref g0), some (.ref (v 0)), some (.int (nI sc)), some (.int (nI bc)), some (.int (nI t0)), some (.int x6), some (.ref q7), some (.int (nI i)), none, none, none, none, none, none, none, none, none, none, none, none, none, none, none, none, none] [] (LawM g0 w u v xs bs a b f wa lr nd dg T N S C B O ch PC SF BF ps sc bc hh a2 b2 f2 wa2 lr2 nd2 dg2 T2 N2 S2 C2 B2 O2 ch2 PC2 SF2 BF2 ps2 sc2 hh2 MX H D ++ [eQ 5 q7 160 (fun j => some (r j)), eG r 160 4 F])) : ∀ (m j : Nat), m + j = 4 → ∀ F : Nat → Nat → Int32, upTo i 4 F (tlC T N S C PC SF ps sc) → (∀ k, k < j → F i k = (tlC T N S C PC SF ps sc) i k) → V G (YL nm hd9) Z 9 (ck + m) (sk + 6 * m) 104 [some (.ref G.2.2.2.1), some (.ref g0), some (.ref (v 0)), some (.int (nI sc)), some (.int (nI bc)), some (.int (nI t0)), some (.int x6), some (.ref q7), some (.int (nI i)), some (.int (nI j)), none, none, none, none, none, none, none, none, none, none, none, none, none, none, none, none] [] (LawM g0 w u v xs bs a b f wa lr nd dg T N S C B O ch PC SF BF ps sc bc hh a2 b2 f2 wa2 lr2 nd2 dg2 T2 N2 S2 C2 B2 O2 ch2 PC2 SF2 BF2 ps2 sc2 hh2 MX H D ++ [eQ 5 q7 160 (fun j => some (r j)), eG r 160 4 F]) := by
  intro m
  induction m with
  | zero =>
    intro j hj F h1 h2
    refine v_iload (pc := 104) dL_law_104 rfl ?_
    refine v_iconst (pc := 106) (v := 4) dL_law_106 rfl ?_
    refine v_icmp_ge (pc := 107) (tgt := 140) dL_law_107 (by decide) (fun c107 => ?_) (fun c107 => absurd (nI_le (a := 4) (b := j) (by omega) (by omega)) c107)
    have c107 : 4 ≤ j := (nI_leI (a := 4) (b := j) (by omega) (by omega)).mp c107
    refine v_room (ck' := ck) (sk' := sk) (by omega) (by omega) ?_
    refine v_sub (L' := [some (.ref G.2.2.2.1), some (.ref g0), some (.ref (v 0)), some (.int (nI sc)), some (.int (nI bc)), some (.int (nI t0)), some (.int x6), some (.ref q7), some (.int (nI i)), none, none, none, none, none, none, none, none, none, none, none, none, none, none, none, none, none]) ⟨rfl, rfl, rfl, rfl, rfl, rfl, rfl, rfl, rfl, trivial⟩ ?_
    exact Kc F (upTo_s h1 (fun k hk => h2 k (by omega)))
  | succ m ih =>
    intro j hj F h1 h2
    refine v_iload (pc := 104) dL_law_104 rfl ?_
    refine v_iconst (pc := 106) (v := 4) dL_law_106 rfl ?_
    refine v_icmp_ge (pc := 107) (tgt := 140) dL_law_107 (by decide) (fun c107 => absurd c107 (nI_ge (a := j) (b := 4) (by omega) (by omega))) (fun c107 => ?_)
    have c107 : ¬ 4 ≤ j := fun h => c107 ((nI_leI (a := 4) (b := j) (by omega) (by omega)).mpr h)
    refine v_aloadR (pc := 110) dL_law_110 rfl ?_
    refine v_iload (pc := 112) dL_law_112 rfl ?_
    refine v_aaldS (pc := 114) 48 (k := i) (by decide) rfl (by omega) (by omega) dL_law_114 ?_
    refine v_iload (pc := 115) dL_law_115 rfl ?_
    refine v_aload_nR (pc := 117) dL_law_117 rfl rfl ?_
    refine v_iload (pc := 118) dL_law_118 rfl ?_
    refine v_bipush (pc := 120) (v := 16) dL_law_120 rfl ?_
    refine v_irem (pc := 122) dL_law_122 (by decide) ?_
    rw [show nI i - nI i / 16 * 16 = nI (i % 16) from pk_rem (d := 16) (by omega) (by decide) (by decide)]
    refine v_iload (pc := 123) dL_law_123 rfl ?_
    refine v_bipush (pc := 125) (v := 16) dL_law_125 rfl ?_
    refine v_idiv (pc := 127) dL_law_127 (by decide) ?_
    rw [show nI i / 16 = nI (i / 16) from pk_div (d := 16) (by omega) (by decide) (by decide)]
    refine v_iload (pc := 128) dL_law_128 rfl ?_
    refine v_callV3 (pc := 130) (c7_cell hps hsc hbc (c := i) (e9 := j) (by omega) (by omega)) cm_X5_cell q207 q208 q209 (ci := 5) rfl rfl (orcO 0 rfl) [0, 1, 2, 3, 4, 5, 6, 7, 8, 9, 10, 11, 12, 13, 14, 15, 16, 17] (by rfl) (by decide) (fun _ _ h => h) (by omega) (by omega) (by decide) (Nat.le_of_ble_eq_true rfl) dL_law_130 (fun v130 M130 hQ130 => ?_)
    obtain ⟨rfl, rfl⟩ := hQ130
    try dsimp only [wb, LawM, LakeM, WaysM, WorldM, SimM, List.set_cons_succ, List.set_cons_zero, List.append_nil, List.nil_append, List.cons_append, Option.toList, Nat.sub_zero]
    refine v_iastGN (pc := 133) 49 (j := j) rfl (by omega) (by omega) (by decide) dL_law_133 ?_
    try dsimp only [wb, LawM, LakeM, WaysM, WorldM, SimM, List.set_cons_succ, List.set_cons_zero, List.append_nil, List.nil_append, List.cons_append, Option.toList, Nat.sub_zero]
    refine v_iinc (pc := 134) (v := nI (j + 1)) dL_law_134 rfl (nI_1 _) (by show _ < 26; decide) rfl ?_
    refine v_goto (pc := 137) (tgt := 104) dL_law_137 (by decide) ?_
    refine v_room (ck' := ck + m) (sk' := sk + 6 * m) (by omega) (by omega) ?_
    have k9 := ih (j + 1) (by omega) _ (upTo_u h1) (row_u h2 rfl)
    refine v_sub ?_ k9
    exact ⟨rfl, rfl, rfl, rfl, rfl, rfl, rfl, rfl, rfl, rfl, trivial⟩
set_option maxRecDepth 100000 in
set_option maxHeartbeats 4000000 in
theorem lw_ce {G : Cx} {nm : String} {hd9 : List (Nat × Nat × Nat × Nat)} {Z : ZT} {ck sk : Nat} {g0 : Nat} {w u v xs bs : Nat → Nat} {a b f : Nat → Int32} {wa : Int32} {lr : Value} {nd dg : Int32} {T N S C B O : Nat → Int32} {ch : Int32} {PC : Nat → Int32} {SF BF : Nat → Nat → Int32} {ps sc bc hh : Nat} {a2 b2 f2 : Nat → Int32} {wa2 : Int32} {lr2 : Value} {nd2 dg2 : Int32} {T2 N2 S2 C2 B2 O2 : Nat → Int32} {ch2 : Int32} {PC2 : Nat → Int32} {SF2 BF2 : Nat → Nat → Int32} {ps2 sc2 hh2 : Nat} {MX H D : Nat → Int32} (hps : ps ≤ 8) (hsc : sc ≤ 5) (hbc : bc ≤ 40) {q7 : Nat} {t0 : Nat} {x6 : Int32} {r : Nat → Nat} (K : ∀ F : Nat → Nat → Int32, upTo 160 4 F (tlC T N S C PC SF ps sc) → V G (YL nm hd9) Z 9 (ck) (sk) 146 [some (.ref G.2.2.2.1), some (.ref g0), some (.ref (v 0)), some (.int (nI sc)), some (.int (nI bc)), some (.int (nI t0)), some (.int x6), some (.ref q7), none, none, none, none, none, none, none, none, none, none, none, none, none, none, none, none, none, none] [] (LawM g0 w u v xs bs a b f wa lr nd dg T N S C B O ch PC SF BF ps sc bc hh a2 b2 f2 wa2 lr2 nd2 dg2 T2 N2 S2 C2 B2 O2 ch2 PC2 SF2 BF2 ps2 sc2 hh2 MX H D ++ [eQ 5 q7 160 (fun j => some (r j)), eG r 160 4 F])) : ∀ (m i : Nat), m + i = 160 → ∀ F : Nat → Nat → Int32, upTo i 4 F (tlC T N S C PC SF ps sc) → V G (YL nm hd9) Z 9 (ck + 4 * m) (sk + 6 * 4 * m) 93 [some (.ref G.2.2.2.1), some (.ref g0), some (.ref (v 0)), some (.int (nI sc)), some (.int (nI bc)), some (.int (nI t0)), some (.int x6), some (.ref q7), some (.int (nI i)), none, none, none, none, none, none, none, none, none, none, none, none, none, none, none, none, none] [] (LawM g0 w u v xs bs a b f wa lr nd dg T N S C B O ch PC SF BF ps sc bc hh a2 b2 f2 wa2 lr2 nd2 dg2 T2 N2 S2 C2 B2 O2 ch2 PC2 SF2 BF2 ps2 sc2 hh2 MX H D ++ [eQ 5 q7 160 (fun j => some (r j)), eG r 160 4 F]) := by
  intro m
  induction m with
  | zero =>
    intro i hi F h1
    refine v_iload (pc := 93) dL_law_93 rfl ?_
    refine v_sipush (pc := 95) (v := 160) dL_law_95 rfl ?_
    refine v_icmp_ge (pc := 98) (tgt := 146) dL_law_98 (by decide) (fun c98 => ?_) (fun c98 => absurd (nI_le (a := 160) (b := i) (by omega) (by omega)) c98)
    have c98 : 160 ≤ i := (nI_leI (a := 160) (b := i) (by omega) (by omega)).mp c98
    refine v_room (ck' := ck) (sk' := sk) (by omega) (by omega) ?_
    refine v_sub (L' := [some (.ref G.2.2.2.1), some (.ref g0), some (.ref (v 0)), some (.int (nI sc)), some (.int (nI bc)), some (.int (nI t0)), some (.int x6), some (.ref q7), none, none, none, none, none, none, none, none, none, none, none, none, none, none, none, none, none, none]) ⟨rfl, rfl, rfl, rfl, rfl, rfl, rfl, rfl, trivial⟩ ?_
    exact K F (fun c hc => h1 c (by omega))
  | succ m ih =>
    intro i hi F h1
    refine v_iload (pc := 93) dL_law_93 rfl ?_
    refine v_sipush (pc := 95) (v := 160) dL_law_95 rfl ?_
    refine v_icmp_ge (pc := 98) (tgt := 146) dL_law_98 (by decide) (fun c98 => absurd c98 (nI_ge (a := i) (b := 160) (by omega) (by omega))) (fun c98 => ?_)
    have c98 : ¬ 160 ≤ i := fun h => c98 ((nI_leI (a := 160) (b := i) (by omega) (by omega)).mpr h)
    refine v_iconst (pc := 101) (v := 0) dL_law_101 rfl ?_
    refine v_istore (pc := 102) dL_law_102 (by show _ < 26; decide) rfl ?_
    refine v_room (ck' := (ck + 4 * m) + 4) (sk' := (sk + 6 * 4 * m) + 6 * 4) (by omega) (by omega) ?_
    refine v_sub (L' := [some (.ref G.2.2.2.1), some (.ref g0), some (.ref (v 0)), some (.int (nI sc)), some (.int (nI bc)), some (.int (nI t0)), some (.int x6), some (.ref q7), some (.int (nI i)), some (.int (nI 0)), none, none, none, none, none, none, none, none, none, none, none, none, none, none, none, none]) ⟨rfl, rfl, rfl, rfl, rfl, rfl, rfl, rfl, rfl, rfl, trivial⟩ ?_
    refine lw_cei hps hsc hbc (i := i) (by omega) (fun F h1 => ?_) 4 0 (by omega) F h1 (fun k hk => absurd hk (Nat.not_lt_zero k))
    refine v_iinc (pc := 140) (v := nI (i + 1)) dL_law_140 rfl (nI_1 _) (by show _ < 26; decide) rfl ?_
    refine v_goto (pc := 143) (tgt := 93) dL_law_143 (by decide) ?_
    exact ih (i + 1) (by omega) F h1
set_option maxRecDepth 100000 in
set_option maxHeartbeats 4000000 in
theorem lw_wai {G : Cx} {nm : String} {hd9 : List (Nat × Nat × Nat × Nat)} {Z : ZT} {ck sk : Nat} {g0 : Nat} {w u v xs bs : Nat → Nat} {a b f : Nat → Int32} {wa : Int32} {lr : Value} {nd dg : Int32} {T N S C B O : Nat → Int32} {ch : Int32} {PC : Nat → Int32} {SF BF : Nat → Nat → Int32} {ps sc bc hh : Nat} {a2 b2 f2 : Nat → Int32} {wa2 : Int32} {lr2 : Value} {nd2 dg2 : Int32} {T2 N2 S2 C2 B2 O2 : Nat → Int32} {ch2 : Int32} {PC2 : Nat → Int32} {SF2 BF2 : Nat → Nat → Int32} {ps2 sc2 hh2 : Nat} {MX H D : Nat → Int32} (hps : ps ≤ 8) (hsc : sc ≤ 5) (hbc : bc ≤ 40) {e48 : ME} {e49 : ME} {q7 q8 : Nat} {t0 : Nat} {x6 : Int32} {r : Nat → Nat} {i : Nat} (hi : i < sc) (Kc : ∀ F : Nat → Nat → Int32, upTo (i + 1) 9 F (tlS SF BF bc) → V G (YL nm hd9) Z 9 (ck) (sk) 196 [some (.ref G.2.2.2.1), some (.ref g0), some (.ref (v 0)), some (.int (nI sc)), some (.int (nI bc)), some (.int (nI t0)), some (.int x6), some (.ref q7), some (.ref q8), some (.int (nI i)), none, none, none, none, none, none, none, none, none, none, none, none, none, none, none, none] [] (LawM g0 w u v xs bs a b f wa lr nd dg T N S C B O ch PC SF BF ps sc bc hh a2 b2 f2 wa2 lr2 nd2 dg2 T2 N2 S2 C2 B2 O2 ch2 PC2 SF2 BF2 ps2 sc2 hh2 MX H D ++ [e48, e49, eQ 5 q8 sc (fun j => some (r j)), eG r sc 9 F])) : ∀ (m j : Nat), m + j = 9 → ∀ F : Nat → Nat → Int32, upTo i 9 F (tlS SF BF bc) → (∀ k, k < j → F i k = (tlS SF BF bc) i k) → V G (YL nm hd9) Z 9 (ck + m) (sk + 6 * m) 167 [some (.ref G.2.2.2.1), some (.ref g0), some (.ref (v 0)), some (.int (nI sc)), some (.int (nI bc)), some (.int (nI t0)), some (.int x6), some (.ref q7), some (.ref q8), some (.int (nI i)), some (.int (nI j)), none, none, none, none, none, none, none, none, none, none, none, none, none, none, none] [] (LawM g0 w u v xs bs a b f wa lr nd dg T N S C B O ch PC SF BF ps sc bc hh a2 b2 f2 wa2 lr2 nd2 dg2 T2 N2 S2 C2 B2 O2 ch2 PC2 SF2 BF2 ps2 sc2 hh2 MX H D ++ [e48, e49, eQ 5 q8 sc (fun j => some (r j)), eG r sc 9 F]) := by
  intro m
  induction m with
  | zero =>
    intro j hj F h1 h2
    refine v_iload (pc := 167) dL_law_167 rfl ?_
    refine v_bipush (pc := 169) (v := 9) dL_law_169 rfl ?_
    refine v_icmp_ge (pc := 171) (tgt := 196) dL_law_171 (by decide) (fun c171 => ?_) (fun c171 => absurd (nI_le (a := 9) (b := j) (by omega) (by omega)) c171)
    have c171 : 9 ≤ j := (nI_leI (a := 9) (b := j) (by omega) (by omega)).mp c171
    refine v_room (ck' := ck) (sk' := sk) (by omega) (by omega) ?_
    refine v_sub (L' := [some (.ref G.2.2.2.1), some (.ref g0), some (.ref (v 0)), some (.int (nI sc)), some (.int (nI bc)), some (.int (nI t0)), some (.int x6), some (.ref q7), some (.ref q8), some (.int (nI i)), none, none, none, none, none, none, none, none, none, none, none, none, none, none, none, none]) ⟨rfl, rfl, rfl, rfl, rfl, rfl, rfl, rfl, rfl, rfl, trivial⟩ ?_
    exact Kc F (upTo_s h1 (fun k hk => h2 k (by omega)))
  | succ m ih =>
    intro j hj F h1 h2
    refine v_iload (pc := 167) dL_law_167 rfl ?_
    refine v_bipush (pc := 169) (v := 9) dL_law_169 rfl ?_
    refine v_icmp_ge (pc := 171) (tgt := 196) dL_law_171 (by decide) (fun c171 => absurd c171 (nI_ge (a := j) (b := 9) (by omega) (by omega))) (fun c171 => ?_)
    have c171 : ¬ 9 ≤ j := fun h => c171 ((nI_leI (a := 9) (b := j) (by omega) (by omega)).mpr h)
    refine v_aloadR (pc := 174) dL_law_174 rfl ?_
    refine v_iload (pc := 176) dL_law_176 rfl ?_
    refine v_aaldS (pc := 178) 50 (k := i) (by decide) rfl (by omega) (by omega) dL_law_178 ?_
    refine v_iload (pc := 179) dL_law_179 rfl ?_
    refine v_aload_nR (pc := 181) dL_law_181 rfl rfl ?_
    refine v_iload (pc := 182) dL_law_182 rfl ?_
    refine v_iload (pc := 184) dL_law_184 rfl ?_
    refine v_callV2 (pc := 186) (c7_sleigh hps hsc hbc (s := i) (q := j) (by omega) (by omega)) cm_X5_sleigh q323 q324 q325 (ci := 5) rfl rfl (orcO 0 rfl) [0, 1, 2, 3, 4, 5, 6, 7, 8, 9, 10, 11, 12, 13, 14, 15, 16, 17] (by rfl) (by decide) (fun _ _ h => h) (by omega) (by omega) (by decide) (Nat.le_of_ble_eq_true rfl) dL_law_186 (fun v186 M186 hQ186 => ?_)
    obtain ⟨rfl, rfl⟩ := hQ186
    try dsimp only [wb, LawM, LakeM, WaysM, WorldM, SimM, List.set_cons_succ, List.set_cons_zero, List.append_nil, List.nil_append, List.cons_append, Option.toList, Nat.sub_zero]
    refine v_iastGN (pc := 189) 51 (j := j) rfl (by omega) (by omega) (by decide) dL_law_189 ?_
    try dsimp only [wb, LawM, LakeM, WaysM, WorldM, SimM, List.set_cons_succ, List.set_cons_zero, List.append_nil, List.nil_append, List.cons_append, Option.toList, Nat.sub_zero]
    refine v_iinc (pc := 190) (v := nI (j + 1)) dL_law_190 rfl (nI_1 _) (by show _ < 26; decide) rfl ?_
    refine v_goto (pc := 193) (tgt := 167) dL_law_193 (by decide) ?_
    refine v_room (ck' := ck + m) (sk' := sk + 6 * m) (by omega) (by omega) ?_
    have k9 := ih (j + 1) (by omega) _ (upTo_u h1) (row_u h2 rfl)
    refine v_sub ?_ k9
    exact ⟨rfl, rfl, rfl, rfl, rfl, rfl, rfl, rfl, rfl, rfl, rfl, trivial⟩
set_option maxRecDepth 100000 in
set_option maxHeartbeats 4000000 in
theorem lw_wa {G : Cx} {nm : String} {hd9 : List (Nat × Nat × Nat × Nat)} {Z : ZT} {ck sk : Nat} {g0 : Nat} {w u v xs bs : Nat → Nat} {a b f : Nat → Int32} {wa : Int32} {lr : Value} {nd dg : Int32} {T N S C B O : Nat → Int32} {ch : Int32} {PC : Nat → Int32} {SF BF : Nat → Nat → Int32} {ps sc bc hh : Nat} {a2 b2 f2 : Nat → Int32} {wa2 : Int32} {lr2 : Value} {nd2 dg2 : Int32} {T2 N2 S2 C2 B2 O2 : Nat → Int32} {ch2 : Int32} {PC2 : Nat → Int32} {SF2 BF2 : Nat → Nat → Int32} {ps2 sc2 hh2 : Nat} {MX H D : Nat → Int32} (hps : ps ≤ 8) (hsc : sc ≤ 5) (hbc : bc ≤ 40) {e48 : ME} {e49 : ME} {q7 q8 : Nat} {t0 : Nat} {x6 : Int32} {r : Nat → Nat} (K : ∀ F : Nat → Nat → Int32, upTo sc 9 F (tlS SF BF bc) → V G (YL nm hd9) Z 9 (ck) (sk) 202 [some (.ref G.2.2.2.1), some (.ref g0), some (.ref (v 0)), some (.int (nI sc)), some (.int (nI bc)), some (.int (nI t0)), some (.int x6), some (.ref q7), some (.ref q8), none, none, none, none, none, none, none, none, none, none, none, none, none, none, none, none, none] [] (LawM g0 w u v xs bs a b f wa lr nd dg T N S C B O ch PC SF BF ps sc bc hh a2 b2 f2 wa2 lr2 nd2 dg2 T2 N2 S2 C2 B2 O2 ch2 PC2 SF2 BF2 ps2 sc2 hh2 MX H D ++ [e48, e49, eQ 5 q8 sc (fun j => some (r j)), eG r sc 9 F])) : ∀ (m i : Nat), m + i = sc → ∀ F : Nat → Nat → Int32, upTo i 9 F (tlS SF BF bc) → V G (YL nm hd9) Z 9 (ck + 9 * m) (sk + 6 * 9 * m) 158 [some (.ref G.2.2.2.1), some (.ref g0), some (.ref (v 0)), some (.int (nI sc)), some (.int (nI bc)), some (.int (nI t0)), some (.int x6), some (.ref q7), some (.ref q8), some (.int (nI i)), none, none, none, none, none, none, none, none, none, none, none, none, none, none, none, none] [] (LawM g0 w u v xs bs a b f wa lr nd dg T N S C B O ch PC SF BF ps sc bc hh a2 b2 f2 wa2 lr2 nd2 dg2 T2 N2 S2 C2 B2 O2 ch2 PC2 SF2 BF2 ps2 sc2 hh2 MX H D ++ [e48, e49, eQ 5 q8 sc (fun j => some (r j)), eG r sc 9 F]) := by
  intro m
  induction m with
  | zero =>
    intro i hi F h1
    refine v_iload (pc := 158) dL_law_158 rfl ?_
    refine v_iload_n (pc := 160) dL_law_160 rfl rfl ?_
    refine v_icmp_ge (pc := 161) (tgt := 202) dL_law_161 (by decide) (fun c161 => ?_) (fun c161 => absurd (nI_le (a := sc) (b := i) (by omega) (by omega)) c161)
    have c161 : sc ≤ i := (nI_leI (a := sc) (b := i) (by omega) (by omega)).mp c161
    refine v_room (ck' := ck) (sk' := sk) (by omega) (by omega) ?_
    refine v_sub (L' := [some (.ref G.2.2.2.1), some (.ref g0), some (.ref (v 0)), some (.int (nI sc)), some (.int (nI bc)), some (.int (nI t0)), some (.int x6), some (.ref q7), some (.ref q8), none, none, none, none, none, none, none, none, none, none, none, none, none, none, none, none, none]) ⟨rfl, rfl, rfl, rfl, rfl, rfl, rfl, rfl, rfl, trivial⟩ ?_
    exact K F (fun c hc => h1 c (by omega))
  | succ m ih =>
    intro i hi F h1
    refine v_iload (pc := 158) dL_law_158 rfl ?_
    refine v_iload_n (pc := 160) dL_law_160 rfl rfl ?_
    refine v_icmp_ge (pc := 161) (tgt := 202) dL_law_161 (by decide) (fun c161 => absurd c161 (nI_ge (a := i) (b := sc) (by omega) (by omega))) (fun c161 => ?_)
    have c161 : ¬ sc ≤ i := fun h => c161 ((nI_leI (a := sc) (b := i) (by omega) (by omega)).mpr h)
    refine v_iconst (pc := 164) (v := 0) dL_law_164 rfl ?_
    refine v_istore (pc := 165) dL_law_165 (by show _ < 26; decide) rfl ?_
    refine v_room (ck' := (ck + 9 * m) + 9) (sk' := (sk + 6 * 9 * m) + 6 * 9) (by omega) (by omega) ?_
    refine v_sub (L' := [some (.ref G.2.2.2.1), some (.ref g0), some (.ref (v 0)), some (.int (nI sc)), some (.int (nI bc)), some (.int (nI t0)), some (.int x6), some (.ref q7), some (.ref q8), some (.int (nI i)), some (.int (nI 0)), none, none, none, none, none, none, none, none, none, none, none, none, none, none, none]) ⟨rfl, rfl, rfl, rfl, rfl, rfl, rfl, rfl, rfl, rfl, rfl, trivial⟩ ?_
    refine lw_wai hps hsc hbc (i := i) (by omega) (fun F h1 => ?_) 9 0 (by omega) F h1 (fun k hk => absurd hk (Nat.not_lt_zero k))
    refine v_iinc (pc := 196) (v := nI (i + 1)) dL_law_196 rfl (nI_1 _) (by show _ < 26; decide) rfl ?_
    refine v_goto (pc := 199) (tgt := 158) dL_law_199 (by decide) ?_
    exact ih (i + 1) (by omega) F h1
set_option maxRecDepth 100000 in
set_option maxHeartbeats 4000000 in
theorem lw_bai {G : Cx} {nm : String} {hd9 : List (Nat × Nat × Nat × Nat)} {Z : ZT} {ck sk : Nat} {g0 : Nat} {w u v xs bs : Nat → Nat} {a b f : Nat → Int32} {wa : Int32} {lr : Value} {nd dg : Int32} {T N S C B O : Nat → Int32} {ch : Int32} {PC : Nat → Int32} {SF BF : Nat → Nat → Int32} {ps sc bc hh : Nat} {a2 b2 f2 : Nat → Int32} {wa2 : Int32} {lr2 : Value} {nd2 dg2 : Int32} {T2 N2 S2 C2 B2 O2 : Nat → Int32} {ch2 : Int32} {PC2 : Nat → Int32} {SF2 BF2 : Nat → Nat → Int32} {ps2 sc2 hh2 : Nat} {MX H D : Nat → Int32} (hps : ps ≤ 8) (hsc : sc ≤ 5) (hbc : bc ≤ 40) {e48 : ME} {e49 : ME} {e50 : ME} {e51 : ME} {q7 q8 q9 : Nat} {t0 : Nat} {x6 : Int32} {r : Nat → Nat} {i : Nat} (hi : i < bc) (Kc : ∀ F : Nat → Nat → Int32, upTo (i + 1) 5 F (BF) → V G (YL nm hd9) Z 9 (ck) (sk) 252 [some (.ref G.2.2.2.1), some (.ref g0), some (.ref (v 0)), some (.int (nI sc)), some (.int (nI bc)), some (.int (nI t0)), some (.int x6), some (.ref q7), some (.ref q8), some (.ref q9), some (.int (nI i)), none, none, none, none, none, none, none, none, none, none, none, none, none, none, none] [] (LawM g0 w u v xs bs a b f wa lr nd dg T N S C B O ch PC SF BF ps sc bc hh a2 b2 f2 wa2 lr2 nd2 dg2 T2 N2 S2 C2 B2 O2 ch2 PC2 SF2 BF2 ps2 sc2 hh2 MX H D ++ [e48, e49, e50, e51, eQ 5 q9 bc (fun j => some (r j)), eG r bc 5 F])) : ∀ (m j : Nat), m + j = 5 → ∀ F : Nat → Nat → Int32, upTo i 5 F (BF) → (∀ k, k < j → F i k = (BF) i k) → V G (YL nm hd9) Z 9 (ck + m) (sk + 6 * m) 224 [some (.ref G.2.2.2.1), some (.ref g0), some (.ref (v 0)), some (.int (nI sc)), some (.int (nI bc)), some (.int (nI t0)), some (.int x6), some (.ref q7), some (.ref q8), some (.ref q9), some (.int (nI i)), some (.int (nI j)), none, none, none, none, none, none, none, none, none, none, none, none, none, none] [] (LawM g0 w u v xs bs a b f wa lr nd dg T N S C B O ch PC SF BF ps sc bc hh a2 b2 f2 wa2 lr2 nd2 dg2 T2 N2 S2 C2 B2 O2 ch2 PC2 SF2 BF2 ps2 sc2 hh2 MX H D ++ [e48, e49, e50, e51, eQ 5 q9 bc (fun j => some (r j)), eG r bc 5 F]) := by
  intro m
  induction m with
  | zero =>
    intro j hj F h1 h2
    refine v_iload (pc := 224) dL_law_224 rfl ?_
    refine v_iconst (pc := 226) (v := 5) dL_law_226 rfl ?_
    refine v_icmp_ge (pc := 227) (tgt := 252) dL_law_227 (by decide) (fun c227 => ?_) (fun c227 => absurd (nI_le (a := 5) (b := j) (by omega) (by omega)) c227)
    have c227 : 5 ≤ j := (nI_leI (a := 5) (b := j) (by omega) (by omega)).mp c227
    refine v_room (ck' := ck) (sk' := sk) (by omega) (by omega) ?_
    refine v_sub (L' := [some (.ref G.2.2.2.1), some (.ref g0), some (.ref (v 0)), some (.int (nI sc)), some (.int (nI bc)), some (.int (nI t0)), some (.int x6), some (.ref q7), some (.ref q8), some (.ref q9), some (.int (nI i)), none, none, none, none, none, none, none, none, none, none, none, none, none, none, none]) ⟨rfl, rfl, rfl, rfl, rfl, rfl, rfl, rfl, rfl, rfl, rfl, trivial⟩ ?_
    exact Kc F (upTo_s h1 (fun k hk => h2 k (by omega)))
  | succ m ih =>
    intro j hj F h1 h2
    refine v_iload (pc := 224) dL_law_224 rfl ?_
    refine v_iconst (pc := 226) (v := 5) dL_law_226 rfl ?_
    refine v_icmp_ge (pc := 227) (tgt := 252) dL_law_227 (by decide) (fun c227 => absurd c227 (nI_ge (a := j) (b := 5) (by omega) (by omega))) (fun c227 => ?_)
    have c227 : ¬ 5 ≤ j := fun h => c227 ((nI_leI (a := 5) (b := j) (by omega) (by omega)).mpr h)
    refine v_aloadR (pc := 230) dL_law_230 rfl ?_
    refine v_iload (pc := 232) dL_law_232 rfl ?_
    refine v_aaldS (pc := 234) 52 (k := i) (by decide) rfl (by omega) (by omega) dL_law_234 ?_
    refine v_iload (pc := 235) dL_law_235 rfl ?_
    refine v_aload_nR (pc := 237) dL_law_237 rfl rfl ?_
    refine v_iload (pc := 238) dL_law_238 rfl ?_
    refine v_iload (pc := 240) dL_law_240 rfl ?_
    refine v_callV2 (pc := 242) (c7_bag hps hsc hbc (b9 := i) (q := j) (by omega) (by omega)) cm_X5_bag q357 q358 q359 (ci := 5) rfl rfl (orcO 0 rfl) [0, 1, 2, 3, 4, 5, 6, 7, 8, 9, 10, 11, 12, 13, 14, 15, 16, 17] (by rfl) (by decide) (fun _ _ h => h) (by omega) (by omega) (by decide) (Nat.le_of_ble_eq_true rfl) dL_law_242 (fun v242 M242 hQ242 => ?_)
    obtain ⟨rfl, rfl⟩ := hQ242
    try dsimp only [wb, LawM, LakeM, WaysM, WorldM, SimM, List.set_cons_succ, List.set_cons_zero, List.append_nil, List.nil_append, List.cons_append, Option.toList, Nat.sub_zero]
    refine v_iastGN (pc := 245) 53 (j := j) rfl (by omega) (by omega) (by decide) dL_law_245 ?_
    try dsimp only [wb, LawM, LakeM, WaysM, WorldM, SimM, List.set_cons_succ, List.set_cons_zero, List.append_nil, List.nil_append, List.cons_append, Option.toList, Nat.sub_zero]
    refine v_iinc (pc := 246) (v := nI (j + 1)) dL_law_246 rfl (nI_1 _) (by show _ < 26; decide) rfl ?_
    refine v_goto (pc := 249) (tgt := 224) dL_law_249 (by decide) ?_
    refine v_room (ck' := ck + m) (sk' := sk + 6 * m) (by omega) (by omega) ?_
    have k9 := ih (j + 1) (by omega) _ (upTo_u h1) (row_u h2 rfl)
    refine v_sub ?_ k9
    exact ⟨rfl, rfl, rfl, rfl, rfl, rfl, rfl, rfl, rfl, rfl, rfl, rfl, trivial⟩
set_option maxRecDepth 100000 in
set_option maxHeartbeats 4000000 in
theorem lw_ba {G : Cx} {nm : String} {hd9 : List (Nat × Nat × Nat × Nat)} {Z : ZT} {ck sk : Nat} {g0 : Nat} {w u v xs bs : Nat → Nat} {a b f : Nat → Int32} {wa : Int32} {lr : Value} {nd dg : Int32} {T N S C B O : Nat → Int32} {ch : Int32} {PC : Nat → Int32} {SF BF : Nat → Nat → Int32} {ps sc bc hh : Nat} {a2 b2 f2 : Nat → Int32} {wa2 : Int32} {lr2 : Value} {nd2 dg2 : Int32} {T2 N2 S2 C2 B2 O2 : Nat → Int32} {ch2 : Int32} {PC2 : Nat → Int32} {SF2 BF2 : Nat → Nat → Int32} {ps2 sc2 hh2 : Nat} {MX H D : Nat → Int32} (hps : ps ≤ 8) (hsc : sc ≤ 5) (hbc : bc ≤ 40) {e48 : ME} {e49 : ME} {e50 : ME} {e51 : ME} {q7 q8 q9 : Nat} {t0 : Nat} {x6 : Int32} {r : Nat → Nat} (K : ∀ F : Nat → Nat → Int32, upTo bc 5 F (BF) → V G (YL nm hd9) Z 9 (ck) (sk) 258 [some (.ref G.2.2.2.1), some (.ref g0), some (.ref (v 0)), some (.int (nI sc)), some (.int (nI bc)), some (.int (nI t0)), some (.int x6), some (.ref q7), some (.ref q8), some (.ref q9), none, none, none, none, none, none, none, none, none, none, none, none, none, none, none, none] [] (LawM g0 w u v xs bs a b f wa lr nd dg T N S C B O ch PC SF BF ps sc bc hh a2 b2 f2 wa2 lr2 nd2 dg2 T2 N2 S2 C2 B2 O2 ch2 PC2 SF2 BF2 ps2 sc2 hh2 MX H D ++ [e48, e49, e50, e51, eQ 5 q9 bc (fun j => some (r j)), eG r bc 5 F])) : ∀ (m i : Nat), m + i = bc → ∀ F : Nat → Nat → Int32, upTo i 5 F (BF) → V G (YL nm hd9) Z 9 (ck + 5 * m) (sk + 6 * 5 * m) 214 [some (.ref G.2.2.2.1), some (.ref g0), some (.ref (v 0)), some (.int (nI sc)), some (.int (nI bc)), some (.int (nI t0)), some (.int x6), some (.ref q7), some (.ref q8), some (.ref q9), some (.int (nI i)), none, none, none, none, none, none, none, none, none, none, none, none, none, none, none] [] (LawM g0 w u v xs bs a b f wa lr nd dg T N S C B O ch PC SF BF ps sc bc hh a2 b2 f2 wa2 lr2 nd2 dg2 T2 N2 S2 C2 B2 O2 ch2 PC2 SF2 BF2 ps2 sc2 hh2 MX H D ++ [e48, e49, e50, e51, eQ 5 q9 bc (fun j => some (r j)), eG r bc 5 F]) := by
  intro m
  induction m with
  | zero =>
    intro i hi F h1
    refine v_iload (pc := 214) dL_law_214 rfl ?_
    refine v_iload (pc := 216) dL_law_216 rfl ?_
    refine v_icmp_ge (pc := 218) (tgt := 258) dL_law_218 (by decide) (fun c218 => ?_) (fun c218 => absurd (nI_le (a := bc) (b := i) (by omega) (by omega)) c218)
    have c218 : bc ≤ i := (nI_leI (a := bc) (b := i) (by omega) (by omega)).mp c218
    refine v_room (ck' := ck) (sk' := sk) (by omega) (by omega) ?_
    refine v_sub (L' := [some (.ref G.2.2.2.1), some (.ref g0), some (.ref (v 0)), some (.int (nI sc)), some (.int (nI bc)), some (.int (nI t0)), some (.int x6), some (.ref q7), some (.ref q8), some (.ref q9), none, none, none, none, none, none, none, none, none, none, none, none, none, none, none, none]) ⟨rfl, rfl, rfl, rfl, rfl, rfl, rfl, rfl, rfl, rfl, trivial⟩ ?_
    exact K F (fun c hc => h1 c (by omega))
  | succ m ih =>
    intro i hi F h1
    refine v_iload (pc := 214) dL_law_214 rfl ?_
    refine v_iload (pc := 216) dL_law_216 rfl ?_
    refine v_icmp_ge (pc := 218) (tgt := 258) dL_law_218 (by decide) (fun c218 => absurd c218 (nI_ge (a := i) (b := bc) (by omega) (by omega))) (fun c218 => ?_)
    have c218 : ¬ bc ≤ i := fun h => c218 ((nI_leI (a := bc) (b := i) (by omega) (by omega)).mpr h)
    refine v_iconst (pc := 221) (v := 0) dL_law_221 rfl ?_
    refine v_istore (pc := 222) dL_law_222 (by show _ < 26; decide) rfl ?_
    refine v_room (ck' := (ck + 5 * m) + 5) (sk' := (sk + 6 * 5 * m) + 6 * 5) (by omega) (by omega) ?_
    refine v_sub (L' := [some (.ref G.2.2.2.1), some (.ref g0), some (.ref (v 0)), some (.int (nI sc)), some (.int (nI bc)), some (.int (nI t0)), some (.int x6), some (.ref q7), some (.ref q8), some (.ref q9), some (.int (nI i)), some (.int (nI 0)), none, none, none, none, none, none, none, none, none, none, none, none, none, none]) ⟨rfl, rfl, rfl, rfl, rfl, rfl, rfl, rfl, rfl, rfl, rfl, rfl, trivial⟩ ?_
    refine lw_bai hps hsc hbc (i := i) (by omega) (fun F h1 => ?_) 5 0 (by omega) F h1 (fun k hk => absurd hk (Nat.not_lt_zero k))
    refine v_iinc (pc := 252) (v := nI (i + 1)) dL_law_252 rfl (nI_1 _) (by show _ < 26; decide) rfl ?_
    refine v_goto (pc := 255) (tgt := 214) dL_law_255 (by decide) ?_
    exact ih (i + 1) (by omega) F h1
