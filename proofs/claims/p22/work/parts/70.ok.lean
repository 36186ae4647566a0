/-! the class's own calls where they are allowed: nothing is thrown -/
theorem Mt.imp {G : Cx} {Y : MI} {d mc ms : Nat} {vs : List Value} {M : List ME} {Q Q' : Option Value → List ME → Prop} {X X' : String → List ME → Prop} (h : Mt G Y d mc ms vs M Q X) (hQ : ∀ v M', Q v M' → Q' v M') (hX : ∀ E M', X E M' → X' E M') : Mt G Y d mc ms vs M Q' X' := fun sz =>
  Jvm.Free.MetFree.mono (h sz) (fun _ _ q => q) (fun _ _ _ _ _ q => q) (fun a s o s' _ hq => by
    rcases hq with ⟨⟨v, M', ho, hq, r1⟩, r2⟩ | ⟨q, hq, E, ce, L, ⟨M', hx, r1⟩, r2⟩
    · exact Or.inl ⟨⟨v, M', ho, hQ v M' hq, r1⟩, r2⟩
    · exact Or.inr ⟨q, hq, E, ce, L, ⟨M', hX E M' hx, r1⟩, r2⟩)
theorem onM_c {c : Nat} (hc : c < 160) : onM (nI (c % 16)) (nI (c / 16)) := by
  refine ⟨⟨nI_pos' (by omega), ?_⟩, nI_pos' (by omega), ?_⟩
  · exact (nI_leI (a := c % 16) (b := 15) (by omega) (by decide)).mpr (by omega)
  · exact (nI_leI (a := c / 16) (b := 9) (by omega) (by decide)).mpr (by omega)
theorem cell_c {c : Nat} : nI (c % 16) + 16 * nI (c / 16) = nI c := by
  rw [kf_cell, show c % 16 + 16 * (c / 16) = c by omega]
theorem rng_c {k n : Nat} (h : k ≤ n) (hn : n < 2 ^ 31) : 0 ≤ nI k ∧ nI k ≤ nI n := ⟨nI_pos' (by omega), (nI_leI (a := k) (b := n) (by omega) hn).mpr h⟩
theorem isP_c {k n : Nat} (h : k < n) (hn : n < 2 ^ 31) : isP n (nI k) := ⟨nI_pos' (by omega), nI_lt (b := n) h hn⟩
theorem c7_cell {G : Cx} {w : Nat → Nat} {a b f : Nat → Int32} {wa : Int32} {lr : Value} {nd dg : Int32} {T N S C B O : Nat → Int32} {ch : Int32} {PC : Nat → Int32} {SF BF : Nat → Nat → Int32} {ps sc bc hh : Nat} {g0 u0 : Nat} (hps : ps ≤ 8) (hsc : sc ≤ 5) (hbc : bc ≤ 40) {c e9 : Nat} (hc : c < 160) (he : e9 ≤ 5) : Mt G Y_X5_cell 7 1 6 [.ref g0, .int (nI (c % 16)), .int (nI (c / 16)), .int (nI e9)] (eO 5 g0 [.ref (w 0), .ref u0] :: WorldM w a b f wa lr nd dg T N S C B O ch PC SF BF ps sc bc hh) (fun v M' => v = some (.int (tlC T N S C PC SF ps sc c e9)) ∧ M' = eO 5 g0 [.ref (w 0), .ref u0] :: WorldM w a b f wa lr nd dg T N S C B O ch PC SF BF ps sc bc hh) noX := by
  have e : rCe T N S C PC SF ps sc (nI (c % 16)) (nI (c / 16)) (nI e9) = (0, tlC T N S C PC SF ps sc c e9) := by
    unfold rCe
    rw [if_pos ⟨onM_c hc, rng_c he (by decide)⟩, cell_c, cN_nI (by omega), cN_nI (by omega)]
  refine Mt.imp (c_X5_cell hps hsc hbc) (fun v M' h => ?_) (fun E M' h => ?_)
  · obtain ⟨-, h1, h2⟩ := h
    rw [e] at h1
    try rw [e] at h2
    exact ⟨h1, h2⟩
  · obtain ⟨-, -, h⟩ := h
    rw [e] at h
    exact absurd (show (0 : Int32) = 1 from h) (by decide)
theorem c7_sleigh {G : Cx} {w : Nat → Nat} {a b f : Nat → Int32} {wa : Int32} {lr : Value} {nd dg : Int32} {T N S C B O : Nat → Int32} {ch : Int32} {PC : Nat → Int32} {SF BF : Nat → Nat → Int32} {ps sc bc hh : Nat} {g0 u0 : Nat} (hps : ps ≤ 8) (hsc : sc ≤ 5) (hbc : bc ≤ 40) {s q : Nat} (hs : s < sc) (hq : q ≤ 8) : Mt G Y_X5_sleigh 7 1 6 [.ref g0, .int (nI s), .int (nI q)] (eO 5 g0 [.ref (w 0), .ref u0] :: WorldM w a b f wa lr nd dg T N S C B O ch PC SF BF ps sc bc hh) (fun v M' => v = some (.int (tlS SF BF bc s q)) ∧ M' = eO 5 g0 [.ref (w 0), .ref u0] :: WorldM w a b f wa lr nd dg T N S C B O ch PC SF BF ps sc bc hh) noX := by
  have e : rSl SF BF sc bc (nI s) (nI q) = (0, tlS SF BF bc s q) := by
    unfold rSl
    rw [if_pos ⟨isP_c hs (by omega), rng_c hq (by decide)⟩, cN_nI (by omega), cN_nI (by omega)]
  refine Mt.imp (c_X5_sleigh hps hsc hbc) (fun v M' h => ?_) (fun E M' h => ?_)
  · obtain ⟨-, h1, h2⟩ := h
    rw [e] at h1
    try rw [e] at h2
    exact ⟨h1, h2⟩
  · obtain ⟨-, -, h⟩ := h
    rw [e] at h
    exact absurd (show (0 : Int32) = 1 from h) (by decide)
theorem c7_bag {G : Cx} {w : Nat → Nat} {a b f : Nat → Int32} {wa : Int32} {lr : Value} {nd dg : Int32} {T N S C B O : Nat → Int32} {ch : Int32} {PC : Nat → Int32} {SF BF : Nat → Nat → Int32} {ps sc bc hh : Nat} {g0 u0 : Nat} (hps : ps ≤ 8) (hsc : sc ≤ 5) (hbc : bc ≤ 40) {b9 q : Nat} (hb : b9 < bc) (hq : q ≤ 4) : Mt G Y_X5_bag 7 1 6 [.ref g0, .int (nI b9), .int (nI q)] (eO 5 g0 [.ref (w 0), .ref u0] :: WorldM w a b f wa lr nd dg T N S C B O ch PC SF BF ps sc bc hh) (fun v M' => v = some (.int (BF b9 q)) ∧ M' = eO 5 g0 [.ref (w 0), .ref u0] :: WorldM w a b f wa lr nd dg T N S C B O ch PC SF BF ps sc bc hh) noX := by
  have e : rBg BF bc (nI b9) (nI q) = (0, BF b9 q) := by
    unfold rBg
    rw [if_pos ⟨isP_c hb (by omega), rng_c hq (by decide)⟩, cN_nI (by omega), cN_nI (by omega)]
  refine Mt.imp (c_X5_bag hps hsc hbc) (fun v M' h => ?_) (fun E M' h => ?_)
  · obtain ⟨-, h1, h2⟩ := h
    rw [e] at h1
    try rw [e] at h2
    exact ⟨h1, h2⟩
  · obtain ⟨-, -, h⟩ := h
    rw [e] at h
    exact absurd (show (0 : Int32) = 1 from h) (by decide)
theorem c7_count {G : Cx} {w : Nat → Nat} {a b f : Nat → Int32} {wa : Int32} {lr : Value} {nd dg : Int32} {T N S C B O : Nat → Int32} {ch : Int32} {PC : Nat → Int32} {SF BF : Nat → Nat → Int32} {ps sc bc hh : Nat} {g0 u0 : Nat} (hps : ps ≤ 8) (hsc : sc ≤ 5) (hbc : bc ≤ 40) {q : Nat} (hq : q ≤ 8) : Mt G Y_X5_count 7 1 6 [.ref g0, .int (nI q)] (eO 5 g0 [.ref (w 0), .ref u0] :: WorldM w a b f wa lr nd dg T N S C B O ch PC SF BF ps sc bc hh) (fun v M' => v = some (.int (tlN T C SF BF ps sc bc hh q)) ∧ M' = eO 5 g0 [.ref (w 0), .ref u0] :: WorldM w a b f wa lr nd dg T N S C B O ch PC SF BF ps sc bc hh) noX := by
  have e : rCn T C SF BF ps sc bc hh (nI q) = (0, tlN T C SF BF ps sc bc hh q) := by
    unfold rCn
    rw [if_pos (show 0 ≤ nI q ∧ nI q ≤ 8 from rng_c (n := 8) hq (by decide)), cN_nI (by omega)]
  refine Mt.imp (c_X5_count hps hsc hbc) (fun v M' h => ?_) (fun E M' h => ?_)
  · obtain ⟨-, h1, h2⟩ := h
    rw [e] at h1
    try rw [e] at h2
    exact ⟨h1, h2⟩
  · obtain ⟨-, -, h⟩ := h
    rw [e] at h
    exact absurd (show (0 : Int32) = 1 from h) (by decide)
theorem c7_setSnow {G : Cx} {w : Nat → Nat} {a b f : Nat → Int32} {wa : Int32} {lr : Value} {nd dg : Int32} {T N S C B O : Nat → Int32} {ch : Int32} {PC : Nat → Int32} {SF BF : Nat → Nat → Int32} {ps sc bc hh : Nat} {g0 u0 : Nat} (hps : ps ≤ 8) (hsc : sc ≤ 5) (hbc : bc ≤ 40) {c s : Nat} (hc : c < 160) (hs1 : 1 ≤ s) (hs9 : s ≤ 9) : Mt G Y_X5_setSnow 7 1 6 [.ref g0, .int (nI (c % 16)), .int (nI (c / 16)), .int (nI s)] (eO 5 g0 [.ref (w 0), .ref u0] :: WorldM w a b f wa lr nd dg T N S C B O ch PC SF BF ps sc bc hh) (fun v M' => v = some (.int (N c)) ∧ M' = eO 5 g0 [.ref (w 0), .ref u0] :: WorldM w a b f wa lr nd dg T (upd N c (nI s)) S C B O ch PC SF BF ps sc bc hh) noX := by
  have e : rSn N (nI (c % 16)) (nI (c / 16)) (nI s) = (0, N c, upd N c (nI s)) := by
    unfold rSn
    rw [if_pos (onM_c hc), if_pos ⟨(nI_leI (a := 1) (b := s) (by decide) (by omega)).mpr hs1, (nI_leI (a := s) (b := 9) (by omega) (by decide)).mpr hs9⟩, cell_c, cN_nI (by omega)]
  refine Mt.imp (c_X5_setSnow hps hsc hbc) (fun v M' h => ?_) (fun E M' h => ?_)
  · obtain ⟨-, h1, h2⟩ := h
    rw [e] at h1
    try rw [e] at h2
    exact ⟨h1, h2⟩
  · obtain ⟨-, ⟨-, h⟩ | ⟨-, h⟩⟩ := h
    · rw [e] at h
      exact absurd (show (0 : Int32) = 1 from h) (by decide)
    · rw [e] at h
      exact absurd (show (0 : Int32) = 2 from h) (by decide)
theorem c7_setCold {G : Cx} {w : Nat → Nat} {a b f : Nat → Int32} {wa : Int32} {lr : Value} {nd dg : Int32} {T N S C B O : Nat → Int32} {ch : Int32} {PC : Nat → Int32} {SF BF : Nat → Nat → Int32} {ps sc bc hh : Nat} {g0 u0 : Nat} (hps : ps ≤ 8) (hsc : sc ≤ 5) (hbc : bc ≤ 40) {q : Nat} {c : Int32} (hq : q < 8) (hc : -9 ≤ c ∧ c ≤ 9) : Mt G Y_X5_setCold 7 1 6 [.ref g0, .int (nI q), .int c] (eO 5 g0 [.ref (w 0), .ref u0] :: WorldM w a b f wa lr nd dg T N S C B O ch PC SF BF ps sc bc hh) (fun v M' => v = some (.int (O q)) ∧ M' = eO 5 g0 [.ref (w 0), .ref u0] :: WorldM w a b f wa lr nd dg T N S C B (upd O q c) ch PC SF BF ps sc bc hh) noX := by
  have e : rCo O (nI q) c = (0, O q, upd O q c) := by
    unfold rCo
    rw [if_pos (show 0 ≤ nI q ∧ nI q ≤ 7 from rng_c (n := 7) (by omega) (by decide)), if_pos hc, cN_nI (by omega)]
  refine Mt.imp (c_X5_setCold hps hsc hbc) (fun v M' h => ?_) (fun E M' h => ?_)
  · obtain ⟨-, h1, h2⟩ := h
    rw [e] at h1
    try rw [e] at h2
    exact ⟨h1, h2⟩
  · obtain ⟨-, ⟨-, h⟩ | ⟨-, h⟩⟩ := h
    · rw [e] at h
      exact absurd (show (0 : Int32) = 1 from h) (by decide)
    · rw [e] at h
      exact absurd (show (0 : Int32) = 2 from h) (by decide)
theorem c7_addPost {G : Cx} {w : Nat → Nat} {a b f : Nat → Int32} {wa : Int32} {lr : Value} {nd dg : Int32} {T N S C B O : Nat → Int32} {ch : Int32} {PC : Nat → Int32} {SF BF : Nat → Nat → Int32} {ps sc bc hh : Nat} {g0 u0 : Nat} (hps : ps ≤ 8) (hsc : sc ≤ 5) (hbc : bc ≤ 40) {c : Nat} (hc : c < 160) (hp8 : ps < 8) (hn : pOn PC ps (nI c) 8 0 = none) : Mt G Y_X5_addPost 7 1 6 [.ref g0, .int (nI (c % 16)), .int (nI (c / 16))] (eO 5 g0 [.ref (w 0), .ref u0] :: WorldM w a b f wa lr nd dg T N S C B O ch PC SF BF ps sc bc hh) (fun v M' => v = some (.int (nI ps)) ∧ M' = eO 5 g0 [.ref (w 0), .ref u0] :: WorldM w a b f wa lr nd dg (upd T c (-1)) N (upd S c 0) (upd C c 0) B O (ch + 1) (upd PC ps (nI c)) SF BF (ps + 1) sc bc hh) noX := by
  have e : rAP T S C PC ps ch (nI (c % 16)) (nI (c / 16)) = (0, nI ps, upd T c (-1), upd S c 0, upd C c 0, upd PC ps (nI c), ps + 1, ch + 1) := by
    unfold rAP
    rw [if_pos (onM_c hc), cell_c, if_pos ⟨hn, hp8⟩, cN_nI (by omega)]
  refine Mt.imp (c_X5_addPost hps hsc hbc) (fun v M' h => ?_) (fun E M' h => ?_)
  · obtain ⟨-, h1, h2⟩ := h
    rw [e] at h1
    try rw [e] at h2
    exact ⟨h1, h2⟩
  · obtain ⟨-, ⟨-, h⟩ | ⟨-, h⟩⟩ := h
    · rw [e] at h
      exact absurd (show (0 : Int32) = 1 from h) (by decide)
    · rw [e] at h
      exact absurd (show (0 : Int32) = 2 from h) (by decide)
theorem c7_addSleigh {G : Cx} {w : Nat → Nat} {a b f : Nat → Int32} {wa : Int32} {lr : Value} {nd dg : Int32} {T N S C B O : Nat → Int32} {ch : Int32} {PC : Nat → Int32} {SF BF : Nat → Nat → Int32} {ps sc bc hh : Nat} {g0 u0 : Nat} (hps : ps ≤ 8) (hsc : sc ≤ 5) (hbc : bc ≤ 40) {q r : Nat} (hq : q < ps) (hr1 : 1 ≤ r) (hr6 : r ≤ 6) (hs5 : sc < 5) : Mt G Y_X5_addSleigh 7 1 6 [.ref g0, .int (nI q), .int (nI r)] (eO 5 g0 [.ref (w 0), .ref u0] :: WorldM w a b f wa lr nd dg T N S C B O ch PC SF BF ps sc bc hh) (fun v M' => v = some (.int (nI sc)) ∧ M' = eO 5 g0 [.ref (w 0), .ref u0] :: WorldM w a b f wa lr nd dg T N S C B O ch PC (begS SF sc (nI q) (PC q) (nI r)) BF ps (sc + 1) bc hh) noX := by
  have e : rAS PC SF ps sc (nI q) (nI r) = (0, nI sc, begS SF sc (nI q) (PC q) (nI r), sc + 1) := by
    unfold rAS
    rw [if_pos (isP_c hq (by omega)), if_pos ⟨(nI_leI (a := 1) (b := r) (by decide) (by omega)).mpr hr1, (nI_leI (a := r) (b := 6) (by omega) (by decide)).mpr hr6⟩, if_pos hs5, cop_k hq hps]
  refine Mt.imp (c_X5_addSleigh hps hsc hbc) (fun v M' h => ?_) (fun E M' h => ?_)
  · obtain ⟨-, h1, h2⟩ := h
    rw [e] at h1
    try rw [e] at h2
    exact ⟨h1, h2⟩
  · obtain ⟨-, ⟨-, h⟩ | ⟨-, h⟩ | ⟨-, h⟩⟩ := h
    · rw [e] at h
      exact absurd (show (0 : Int32) = 1 from h) (by decide)
    · rw [e] at h
      exact absurd (show (0 : Int32) = 2 from h) (by decide)
    · rw [e] at h
      exact absurd (show (0 : Int32) = 3 from h) (by decide)
theorem c7_addBag {G : Cx} {w : Nat → Nat} {a b f : Nat → Int32} {wa : Int32} {lr : Value} {nd dg : Int32} {T N S C B O : Nat → Int32} {ch : Int32} {PC : Nat → Int32} {SF BF : Nat → Nat → Int32} {ps sc bc hh : Nat} {g0 u0 : Nat} (hps : ps ≤ 8) (hsc : sc ≤ 5) (hbc : bc ≤ 40) {x y z : Nat} (hx : x < ps) (hy : y < ps) (hxy : ¬ x = y) (hz1 : 1 ≤ z) (hz : z ≤ 30) (hb8 : bc < 40) : Mt G Y_X5_addBag 7 1 6 [.ref g0, .int (nI x), .int (nI y), .int (nI z)] (eO 5 g0 [.ref (w 0), .ref u0] :: WorldM w a b f wa lr nd dg T N S C B O ch PC SF BF ps sc bc hh) (fun v M' => v = some (.int (nI bc)) ∧ M' = eO 5 g0 [.ref (w 0), .ref u0] :: WorldM w a b f wa lr nd dg T N S C B O ch PC SF (begB BF bc (nI x) (nI y) (nI z)) ps sc (bc + 1) hh) noX := by
  have e : rAB BF ps bc (nI x) (nI y) (nI z) = (0, nI bc, begB BF bc (nI x) (nI y) (nI z), bc + 1) := by
    unfold rAB
    rw [if_pos ⟨isP_c hx (by omega), isP_c hy (by omega)⟩, if_pos ⟨fun q => hxy ((nI_eq (by omega) (by omega)).mp q), (nI_leI (a := 1) (b := z) (by decide) (by omega)).mpr hz1, (nI_leI (a := z) (b := 30) (by omega) (by decide)).mpr hz⟩, if_pos hb8]
  refine Mt.imp (c_X5_addBag hps hsc hbc) (fun v M' h => ?_) (fun E M' h => ?_)
  · obtain ⟨-, h1, h2⟩ := h
    rw [e] at h1
    try rw [e] at h2
    exact ⟨h1, h2⟩
  · obtain ⟨-, ⟨-, h⟩ | ⟨-, h⟩ | ⟨-, h⟩⟩ := h
    · rw [e] at h
      exact absurd (show (0 : Int32) = 1 from h) (by decide)
    · rw [e] at h
      exact absurd (show (0 : Int32) = 2 from h) (by decide)
    · rw [e] at h
      exact absurd (show (0 : Int32) = 3 from h) (by decide)
theorem c7_load {G : Cx} {w : Nat → Nat} {a b f : Nat → Int32} {wa : Int32} {lr : Value} {nd dg : Int32} {T N S C B O : Nat → Int32} {ch : Int32} {PC : Nat → Int32} {SF BF : Nat → Nat → Int32} {ps sc bc hh : Nat} {g0 u0 : Nat} (hps : ps ≤ 8) (hsc : sc ≤ 5) (hbc : bc ≤ 40) {s b9 : Nat} (hs : s < sc) (hb : b9 < bc) (h2 : BF b9 2 = 0) (h3 : SF s 3 = 0) (h5 : SF s 5 = BF b9 3) : Mt G Y_X5_load 7 1 6 [.ref g0, .int (nI s), .int (nI b9)] (eO 5 g0 [.ref (w 0), .ref u0] :: WorldM w a b f wa lr nd dg T N S C B O ch PC SF BF ps sc bc hh) (fun v M' => v = some (.int (slW (upS SF s 1 (SF s 1 + BF b9 0)) s)) ∧ M' = eO 5 g0 [.ref (w 0), .ref u0] :: WorldM w a b f wa lr nd dg T N S C B O ch PC (upS SF s 1 (SF s 1 + BF b9 0)) (upS (upS BF b9 2 1) b9 3 (nI s)) ps sc bc hh) noX := by
  have e : rLd SF BF sc bc (nI s) (nI b9) = (0, slW (upS SF s 1 (SF s 1 + BF b9 0)) s, (upS SF s 1 (SF s 1 + BF b9 0)), (upS (upS BF b9 2 1) b9 3 (nI s))) := by
    unfold rLd
    rw [if_pos ⟨isP_c hs (by omega), isP_c hb (by omega)⟩, cN_nI (by omega), cN_nI (by omega), if_pos ⟨h2, h3, h5⟩]
  refine Mt.imp (c_X5_load hps hsc hbc) (fun v M' h => ?_) (fun E M' h => ?_)
  · obtain ⟨-, h1, h2⟩ := h
    rw [e] at h1
    try rw [e] at h2
    exact ⟨h1, h2⟩
  · obtain ⟨-, ⟨-, h⟩ | ⟨-, h⟩⟩ := h
    · rw [e] at h
      exact absurd (show (0 : Int32) = 1 from h) (by decide)
    · rw [e] at h
      exact absurd (show (0 : Int32) = 2 from h) (by decide)
theorem c7_send {G : Cx} {w : Nat → Nat} {a b f : Nat → Int32} {wa : Int32} {lr : Value} {nd dg : Int32} {T N S C B O : Nat → Int32} {ch : Int32} {PC : Nat → Int32} {SF BF : Nat → Nat → Int32} {ps sc bc hh : Nat} {g0 u0 : Nat} (hps : ps ≤ 8) (hsc : sc ≤ 5) (hbc : bc ≤ 40) {s q : Nat} (hs : s < sc) (hq : q < ps) (h3 : SF s 3 = 0) (h5 : ¬ SF s 5 = nI q) (hPC : ∀ k, k < 8 → 0 ≤ PC k ∧ PC k < 160) (hx : sOK SF sc) : Mt G Y_X5_send 7 1 6 [.ref g0, .int (nI s), .int (nI q)] (eO 5 g0 [.ref (w 0), .ref u0] :: WorldM w a b f wa lr nd dg T N S C B O ch PC SF BF ps sc bc hh) (fun v M' => v = some (.int ((hgQ T N C PC (dpS SF s (nI q)) ps s f).1 (cN (SF s 4)))) ∧ ∃ (a' b' f' : Nat → Int32) (wa' : Int32) (lr' : Value) (nd' dg' : Int32), M' = eO 5 g0 [.ref (w 0), .ref u0] :: WorldM w a' b' f' wa' lr' nd' dg' T N S C B O ch PC (dpS SF s (nI q)) BF ps sc bc hh) noX := by
  have e : rSe T N C PC SF ps sc f (nI s) (nI q) = (0, (hgQ T N C PC (dpS SF s (nI q)) ps s f).1 (cN (SF s 4)), (dpS SF s (nI q))) := by
    unfold rSe
    rw [if_pos ⟨isP_c hs (by omega), isP_c hq (by omega)⟩, cN_nI (by omega), if_neg (fun h => h5 h.2), if_neg (fun h => h h3)]
    rw [show (dpS SF s (nI q)) s 4 = SF s 4 by unfold dpS; rw [upS_n _ _ (by omega), upS_n _ _ (by omega), upS_n _ _ (by omega)]]
  refine Mt.imp (c_X5_send hps hsc hbc hPC hx) (fun v M' h => ?_) (fun E M' h => ?_)
  · obtain ⟨-, h1, a1x, b1x, f1x, wax, lrx, ndx, dgx, h2⟩ := h
    rw [e] at h1
    try rw [e] at h2
    exact ⟨h1, a1x, b1x, f1x, wax, lrx, ndx, dgx, h2⟩
  · obtain ⟨-, ⟨-, h⟩ | ⟨-, h⟩ | ⟨-, h⟩⟩ := h
    · rw [e] at h
      exact absurd (show (0 : Int32) = 1 from h) (by decide)
    · rw [e] at h
      exact absurd (show (0 : Int32) = 2 from h) (by decide)
    · rw [e] at h
      exact absurd (show (0 : Int32) = 3 from h) (by decide)
theorem c7_setIce {G : Cx} {w : Nat → Nat} {a b f : Nat → Int32} {wa : Int32} {lr : Value} {nd dg : Int32} {T N S C B O : Nat → Int32} {ch : Int32} {PC : Nat → Int32} {SF BF : Nat → Nat → Int32} {ps sc bc hh : Nat} {g0 u0 : Nat} (hps : ps ≤ 8) (hsc : sc ≤ 5) (hbc : bc ≤ 40) {x y wd dp : Nat} {t : Int32} (hx : x + wd ≤ 16) (hy : y + dp ≤ 10) (hw1 : 1 ≤ wd) (hd1 : 1 ≤ dp) (ht : -1 ≤ t ∧ t ≤ 200) (hps0 : ps = 0) (hsc0 : sc = 0) : Mt G Y_X5_setIce 7 1 6 [.ref g0, .int (nI x), .int (nI y), .int (nI wd), .int (nI dp), .int t] (eO 5 g0 [.ref (w 0), .ref u0] :: WorldM w a b f wa lr nd dg T N S C B O ch PC SF BF ps sc bc hh) (fun v M' => v = some (.int (nI wd * nI dp)) ∧ M' = eO 5 g0 [.ref (w 0), .ref u0] :: WorldM w a b f wa lr nd dg (lyU T t (cel x y wd) (dp * wd)) N (lyU S 0 (cel x y wd) (dp * wd)) (lyU C 0 (cel x y wd) (dp * wd)) B O (ch + nI (dp * wd)) PC SF BF ps sc bc hh) noX := by
  have e : rIc T S C PC SF ps sc ch (nI x) (nI y) (nI wd) (nI dp) t = (0, nI wd * nI dp, (lyU T t (cel x y wd) (dp * wd)), (lyU S 0 (cel x y wd) (dp * wd)), (lyU C 0 (cel x y wd) (dp * wd)), ch + nI (dp * wd)) := by
    subst hps0
    subst hsc0
    have h1 : onM (nI x) (nI y) := ⟨rng_c (n := 15) (by omega) (by decide), rng_c (n := 9) (by omega) (by decide)⟩
    have h2 : 1 ≤ nI wd ∧ nI wd ≤ 16 - nI x := ⟨(nI_leI (a := 1) (b := wd) (by decide) (by omega)).mpr hw1, by rw [show (16 : Int32) - nI x = nI (16 - x) from pk_sub (a := 16) (by omega)]; exact (nI_leI (a := wd) (b := 16 - x) (by omega) (by omega)).mpr (by omega)⟩
    have h3 : 1 ≤ nI dp ∧ nI dp ≤ 10 - nI y := ⟨(nI_leI (a := 1) (b := dp) (by decide) (by omega)).mpr hd1, by rw [show (10 : Int32) - nI y = nI (10 - y) from pk_sub (a := 10) (by omega)]; exact (nI_leI (a := dp) (b := 10 - y) (by omega) (by omega)).mpr (by omega)⟩
    have hno : ¬ tkL PC SF 0 0 (cN (nI x)) (cN (nI y)) (cN (nI wd)) (cN (nI dp)) = true := fun q => by
      have h0 : ∀ k, tkP PC SF 0 0 k = false := fun k => by
        unfold tkP
        rw [pOn_stop 8 0 (Nat.le_refl 0), sum_to (F := onF SF 0 (nI k)) (n := 0) (m := 5) (by omega) (fun j h1 h2 => if_neg (fun q => absurd q.1 (by omega)))]
        rfl
      have h1 : tkL PC SF 0 0 (cN (nI x)) (cN (nI y)) (cN (nI wd)) (cN (nI dp)) = false := (tkL_all _).mpr (fun m _ => (tkC_all _).mpr (fun m _ => h0 _))
      rw [h1] at q
      exact Bool.noConfusion q
    unfold rIc
    rw [if_pos ⟨⟨h1, h2, h3⟩, ht⟩, if_neg (fun q => hno q.2), cN_nI (by omega), cN_nI (by omega), cN_nI (by omega), cN_nI (by omega)]
  refine Mt.imp (c_X5_setIce hps hsc hbc) (fun v M' h => ?_) (fun E M' h => ?_)
  · obtain ⟨-, h1, h2⟩ := h
    rw [e] at h1
    try rw [e] at h2
    exact ⟨h1, h2⟩
  · obtain ⟨-, ⟨-, h⟩ | ⟨-, h⟩⟩ := h
    · rw [e] at h
      exact absurd (show (0 : Int32) = 1 from h) (by decide)
    · rw [e] at h
      exact absurd (show (0 : Int32) = 2 from h) (by decide)
theorem c7_pass {G : Cx} {w : Nat → Nat} {a b f : Nat → Int32} {wa : Int32} {lr : Value} {nd dg : Int32} {T N S C B O : Nat → Int32} {ch : Int32} {PC : Nat → Int32} {SF BF : Nat → Nat → Int32} {ps sc bc hh : Nat} {g0 u0 : Nat} (hps : ps ≤ 8) (hsc : sc ≤ 5) (hbc : bc ≤ 40) {n5 : Nat} (h5 : n5 = 5) (hhh : hh + 200 < 2 ^ 31 - 1) (hPC : ∀ k, k < 8 → 0 ≤ PC k ∧ PC k < 160) (hx : sOK SF sc) (hC : cOK C) : Mt G Y_X5_pass 7 1 6 [.ref g0, .int 1] (eO 5 g0 [.ref (w 0), .ref u0] :: WorldM w a b f wa lr nd dg T N S C B O ch PC SF BF ps sc bc hh) (fun v M' => v = some (.int (hrN n5 O PC ps sc bc hh (SF, BF, T, B, (a, b, f, wa), lr, nd, dg, S, C, ch))) ∧ M' = eO 5 g0 [.ref (w 0), .ref u0] :: WH w N O PC ps sc bc (hh + 1) (hrW n5 (.ref (w 5)) N O PC ps sc bc hh (SF, BF, T, B, (a, b, f, wa), lr, nd, dg, S, C, ch))) noX := by
  have e : rPs n5 (.ref (w 5)) N O PC ps sc bc hh (SF, BF, T, B, (a, b, f, wa), lr, nd, dg, S, C, ch) 1 = (0, 0 + hrN n5 O PC ps sc bc hh (SF, BF, T, B, (a, b, f, wa), lr, nd, dg, S, C, ch), (hrW n5 (.ref (w 5)) N O PC ps sc bc hh (SF, BF, T, B, (a, b, f, wa), lr, nd, dg, S, C, ch)), hh + 1) := by
    unfold rPs
    rw [if_pos ⟨by decide, by decide⟩]
    rfl
  refine Mt.imp (c_X5_pass (w := w) (x := (SF, BF, T, B, (a, b, f, wa), lr, nd, dg, S, C, ch)) hps hsc hbc h5 hhh hPC hx hC) (fun v M' h => ?_) (fun E M' h => ?_)
  · obtain ⟨-, h1, h2⟩ := h
    rw [e] at h1 h2
    rw [show (0, 0 + hrN n5 O PC ps sc bc hh (SF, BF, T, B, (a, b, f, wa), lr, nd, dg, S, C, ch), (hrW n5 (.ref (w 5)) N O PC ps sc bc hh (SF, BF, T, B, (a, b, f, wa), lr, nd, dg, S, C, ch)), hh + 1).2.1 = hrN n5 O PC ps sc bc hh (SF, BF, T, B, (a, b, f, wa), lr, nd, dg, S, C, ch) from Int32.zero_add _] at h1
    exact ⟨h1, h2⟩
  · obtain ⟨-, -, h⟩ := h
    rw [e] at h
    exact absurd (show (0 : Int32) = 1 from h) (by decide)
theorem c7_foresee {G : Cx} {w : Nat → Nat} {a b f : Nat → Int32} {wa : Int32} {lr : Value} {nd dg : Int32} {T N S C B O : Nat → Int32} {ch : Int32} {PC : Nat → Int32} {SF BF : Nat → Nat → Int32} {ps sc bc hh : Nat} {g0 : Nat} {u : Nat → Nat} {a2 b2 f2 : Nat → Int32} {wa2 : Int32} {lr2 : Value} {nd2 dg2 : Int32} {T2 N2 S2 C2 B2 O2 : Nat → Int32} {ch2 : Int32} {PC2 : Nat → Int32} {SF2 BF2 : Nat → Nat → Int32} {ps2 sc2 hh2 : Nat} (hps : ps ≤ 8) (hsc : sc ≤ 5) (hbc : bc ≤ 40) {n5 : Nat} (h5 : n5 = 5) {s : Nat} (hs : s < sc) (hPC : ∀ k, k < 8 → 0 ≤ PC k ∧ PC k < 160) (hx : sOK SF sc) (hC : cOK C) (hhh : hh + 300 < 2 ^ 31 - 1) : Mt G Y_X5_foresee 7 1 6 [.ref g0, .int (nI s), .int 1] (eO 5 g0 [.ref (w 0), .ref (u 0)] :: (WorldM w a b f wa lr nd dg T N S C B O ch PC SF BF ps sc bc hh ++ WorldM u a2 b2 f2 wa2 lr2 nd2 dg2 T2 N2 S2 C2 B2 O2 ch2 PC2 SF2 BF2 ps2 sc2 0 hh2)) (fun v M' => v = some (.int (foV s (foL n5 (.ref (u 5)) N O PC ps sc s 1 hh (cpN SF2 SF sc, BF2, T, B2, (a2, b2, f2, wa2), lr2, nd2, dg2, S, C, ch2)))) ∧ ∃ (h' : Nat) (z : HW), M' = eO 5 g0 [.ref (w 0), .ref (u 0)] :: (WorldM w a b f wa lr nd dg T N S C B O ch PC SF BF ps sc bc hh ++ WH u N O PC ps sc 0 h' z)) noX := by
  have hP : isP sc (nI s) := isP_c hs (by omega)
  refine Mt.imp (c_X5_foresee (w := w) (u := u) hps hsc hbc h5 (s := nI s) (q := 1) hPC hx hC hhh) (fun v M' h => ?_) (fun E M' h => ?_)
  · obtain ⟨-, h1, h', h2⟩ := h
    rw [cN_nI (by omega), show cN (1 : Int32) = 1 from rfl] at h1 h2
    exact ⟨h1, h', _, h2⟩
  · obtain ⟨-, ⟨-, h⟩ | ⟨-, -, h⟩⟩ := h
    · exact absurd hP h
    · exact absurd (show (1 : Int32) ≤ 1 ∧ (1 : Int32) ≤ 200 from ⟨by decide, by decide⟩) h
theorem and_max (z : Int32) : 0 ≤ z &&& 2147483647 := by
  rw [i_le, i_0]
  have h1 : (z &&& 2147483647).toBitVec = z.toBitVec &&& 2147483647#32 := rfl
  have h2 : (z &&& 2147483647).toBitVec.toNat < 2 ^ 31 := by
    rw [h1, BitVec.toNat_and]
    exact Nat.lt_of_le_of_lt Nat.and_le_right (by decide)
  have h3 : (z &&& 2147483647).toInt = ((z &&& 2147483647).toBitVec.toNat : Int) := by
    show (z &&& 2147483647).toBitVec.toInt = _
    exact BitVec.toInt_eq_toNat_of_lt (by omega)
  rw [h3]
  exact Int.natCast_nonneg _
set_option maxRecDepth 100000 in
set_option maxHeartbeats 4000000 in
theorem c_L_below {G : Cx} {z : Int32} {n : Nat} (hn : 0 < n) (hn2 : n < 2 ^ 31) : Mt G Y_L_below 0 0 0 [.int z, .int (nI n)] [] (fun v M' => ∃ r, r < n ∧ v = some (.int (nI r)) ∧ M' = []) noX := by
  refine Mt.of (L := [some (.int z), some (.int (nI n))]) rfl (by decide) (by simp [lg_sl, Value.category]) ⟨rfl, rfl, trivial⟩ (fun sz => ?_)
  refine v_iload_n (pc := 0) dL_below_0 rfl rfl ?_
  refine v_ldc (pc := 1) q621 dL_below_1 ?_
  refine v_iand (pc := 3) dL_below_3 ?_
  obtain ⟨m9, hm9, em9⟩ := nI_of (x := z &&& 2147483647) (Int32.not_lt.mpr (and_max z))
  rw [em9]
  refine v_iload_n (pc := 4) dL_below_4 rfl rfl ?_
  refine v_irem (pc := 5) dL_below_5 (fun q => by have := (nI_eq (a := n) (b := 0) hn2 (by decide)).mp q; omega) ?_
  rw [show nI m9 - nI m9 / nI n * nI n = nI (m9 % n) from pk_rem hm9 hn hn2]
  refine v_iret (pc := 6) rfl rfl (Nat.le_of_ble_eq_true rfl) dL_below_6 ?_
  exact ⟨m9 % n, Nat.mod_lt _ hn, rfl, rfl⟩
