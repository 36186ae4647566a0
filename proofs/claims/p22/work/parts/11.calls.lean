/-! answers, calls -/
section VRET
variable {G : Cx} {Y : MI} {d ck sk pc : Nat} {L : List (Option Value)} {M M0 : List ME} {sz : Nat} {Q : Option Value → List ME → Prop} {X : String → List ME → Prop}
theorem v_end {st : List Value} (k : ∀ (p : Program) (e : Env) (R : Room) (s : State) (m : MethodId) (args : Array Value) (below : List Frame) (meth : Method) (c : Code) (H : Heap) (locs : List Loc) (ls : Array Slot),
    p.tables.exec = Jvm.exec → c.code = Y.2.1 → meth.sig.returnType = Y.2.2.2.1 → meth.locks = false → (∀ z ∈ locs, AM M0 sz z.base) → (∀ (v : Option Value), Q v M → ∀ t : State, t.heap = H → s.WarmedH t.vm → Qc G M0 sz Q args s (.returned v) t) → W p G.1 e R s m args below meth c H locs R.cells R.slots (MQ below (Qc G M0 sz Q) args s R.cells R.slots (AM M0 sz)) (F0 m pc ls st)) (hlen : M0.length ≤ M.length) : V G Y (ZM G M0 sz Q X) d ck sk pc L st M := by
  intro p e R s m args below meth c H locs cells slots ls C hl
  refine W.widen (k := R.cells) (n := R.slots) (by have := C.2.1.2.2.2.2.1; omega) (by have := C.2.1.2.2.2.2.2; omega) ?_
  refine vx_ret (XC := XC G M0 sz X) ?_
  exact k p e R s m args below meth c H locs ls C.1.1 C.1.2.1 C.1.2.2.2.1 C.1.2.2.2.2.1 C.2.2.2.2.1.2.2 (fun v hq t ht hW => ⟨v, M, rfl, hq, hlen, by rw [ht]; exact C.2.2.1, C.2.2.2.1, C.2.2.2.2.1.F ht⟩)
theorem v_iret {x : Int32} {ty : FieldType} (hr : Y.2.2.2.1 = some ty) (hn : narrow ty (.int x) = .int x) (hlen : M0.length ≤ M.length) (hd : decode Y.2.1 pc = .ok (.ireturn, 1)) (hq : Q (some (.int x)) M) : V G Y (ZM G M0 sz Q X) d ck sk pc L [.int x] M :=
  v_end (fun p e R s m args below meth c H locs ls hx hb hret hlk hf hQ => W.zret hx hb (hret.trans hr) hn (hQ _ hq) hf hd hlk) hlen
theorem v_lret {x : Int64} (hr : Y.2.2.2.1 = some .long) (hlen : M0.length ≤ M.length) (hd : decode Y.2.1 pc = .ok (.lreturn, 1)) (hq : Q (some (.long x)) M) : V G Y (ZM G M0 sz Q X) d ck sk pc L [.long x] M :=
  v_end (fun p e R s m args below meth c H locs ls hx hb hret hlk hf hQ => W.lret hx hb (hret.trans hr) (hQ _ hq) hf hd hlk) hlen
theorem v_dret {x : UInt64} (hr : Y.2.2.2.1 = some .double) (hlen : M0.length ≤ M.length) (hd : decode Y.2.1 pc = .ok (.dreturn, 1)) (hq : Q (some (.double x)) M) : V G Y (ZM G M0 sz Q X) d ck sk pc L [.double x] M :=
  v_end (fun p e R s m args below meth c H locs ls hx hb hret hlk hf hQ => W.dret hx hb (hret.trans hr) (hQ _ hq) hf hd hlk) hlen
theorem v_vret (hr : Y.2.2.2.1 = none) (hlen : M0.length ≤ M.length) (hd : decode Y.2.1 pc = .ok (.return_, 1)) (hq : Q none M) : V G Y (ZM G M0 sz Q X) d ck sk pc L [] M :=
  v_end (fun p e R s m args below meth c H locs ls hx hb hret hlk hf hQ => W.vret hx hb (hret.trans hr) (hQ _ hq) hf hd hlk) hlen
theorem v_aret {v : Value} {rt : FieldType} (hr : Y.2.2.2.1 = some rt) (hrt : (∃ n, rt = .object n) ∨ ∃ t, rt = .array t) (hv : v = .null ∨ ∃ a, v = .ref a) (hlen : M0.length ≤ M.length) (hd : decode Y.2.1 pc = .ok (.areturn, 1)) (hq : Q (some v) M) : V G Y (ZM G M0 sz Q X) d ck sk pc L [v] M :=
  v_end (fun p e R s m args below meth c H locs ls hx hb hret hlk hf hQ => W.aret hx hb (hret.trans hr) hrt hv (hQ _ hq) hf hd hlk) hlen
end VRET
section VCALL
variable {G : Cx} {Y Y' : MI} {Z : ZT} {d ck sk pc : Nat} {L : List (Option Value)} {st0 rest : List Value} {M Mc : List ME} {d' mc ms : Nat} {As : List Value} {Q : Option Value → List ME → Prop} {X : String → List ME → Prop} {ps : List Nat}
variable {p : Program} {e : Env} {R : Room} {s : State} {m : MethodId} {args : Array Value} {below : List Frame} {meth : Method} {c : Code} {H : Heap} {locs : List Loc} {cells slots : Nat} {ls : Array Slot}
/-- the caller goes on behind a call that comes back -/
theorem v_go {a : Array Value} (C : CX G Y Z d ck sk M p R s m args meth c H locs cells slots) (hl : lvl ls Y.2.2.1 L) (hpt : isPart M Mc ps) (hn : ps.Nodup) (hX : ∀ E M', ¬ X E M') (hmc : mc ≤ ck) (hms : ms ≤ sk)
    (hr : vx_Run p G.1 e R s m args below meth c H locs cells slots mc ms (F0 m pc ls st0) rest (Qc G Mc H.size Q a) (XC G Mc H.size X) (AM Mc H.size))
    (k : ∀ (v : Option Value) (M' : List ME), Q v M' → V G Y Z d (ck - mc) (sk - ms) (pc + 3) L (v.toList ++ rest) (wb ps M' M)) : W p G.1 e R s m args below meth c H locs cells slots (Z.2.2 below args s R) (F0 m pc ls st0) := by
  intro T hT X9
  rcases hr T hT X9 with ⟨v, st₀, t, T', L9, h0, X', hL, e1, e2, ⟨v', M', ho, hQ, hlen, hP1, hD1, hF⟩, go⟩ | ⟨q, st₀, t, T', L9, E, ce, h0, X', hL, e1, e2, ⟨M', hx, -⟩, -⟩
  · cases ho
    have hA : ∀ q, AM Mc H.size q → AM Z.1 Z.2.1 q := by
      intro q hq
      rcases hq with ⟨i, e9, hi, hm⟩ | hq
      · obtain ⟨p9, -, h2⟩ := hpt.at hi
        exact C.2.2.2.1.2.2 p9 e9 q h2 hm
      · exact Or.inr (by rw [← C.2.1.1]; exact Nat.le_trans C.2.2.2.2.1.1 hq)
    obtain ⟨k1, k2, k3⟩ := vx_keep h0 e1 C.2.2.2.2.1 (fun q _ h => hA q h) hA hL hF
    obtain ⟨w1, w2⟩ := wb_world C.2.2.1 C.2.2.2.1 hpt hn (by rw [hpt.len]; exact hlen) k2 (fun q hq => hA q (Or.inr hq)) (by rw [e1]; exact hP1) hD1
    obtain ⟨t2, a1, b1⟩ := k v M' hQ p e R s m args below meth c T'.heap (locs ++ L9) (cells + mc) (slots + ms) ls
      ⟨C.1, ⟨C.2.1.1, C.2.1.2.1, C.2.1.2.2.1, C.2.1.2.2.2.1, by have := C.2.1.2.2.2.2.1; omega, by have := C.2.1.2.2.2.2.2; omega⟩, w1, w2, k3, C.2.2.2.2.2⟩ hl T' rfl X'
    exact ⟨t2, go t2 a1, b1⟩
  · exact absurd hx (hX E M')
/-- what the callee asks of the world at the call -/
theorem v_pc {vs : List Value} (C : CX G Y Z d ck sk M p R s m args meth c H locs cells slots) (hpt : isPart M Mc ps) (hn : ps.Nodup) : ∀ U : State, U.heap = H → s.WarmedH U.vm → Pc G vs Mc H.size vs.toArray U := by
  intro U hU hW
  refine ⟨rfl, by rw [hU], by rw [hU]; exact hpt.PM C.2.2.1, hpt.DM hn (C.2.2.2.1.weaken C.2.2.2.2.2), KW.to C.1.2.2.2.2.2.2.2.1 hW (fun q h1 h2 => by rw [hU]; exact C.2.2.2.2.1.2.1 q h1 (fun h => h2 (C.2.2.2.2.2 q h))), ?_⟩
  have := C.2.2.2.2.1.1
  have h2 := C.2.1.2.1
  rw [C.2.1.1] at this
  omega
theorem gw_in (c0 : Cond) (Y' : MI) (h : hdW Y' ∈ GW) : GoodIn (c0 :: GW) (hdW Y' :: GW) := fun w hw => by
  have hg : ∀ w ∈ GW, (w.onTables && w.keeps) = true ∨ ∃ ty, w = .arrayClass ty := fun w h => good_of_word (GW_good w h)
  rcases List.mem_cons.mp hw with rfl | hw
  · exact ⟨List.mem_cons_of_mem _ h, hg _ h⟩
  · exact ⟨List.mem_cons_of_mem _ hw, hg _ hw⟩
theorem gw_in2 (Y' : MI) (h : hdW Y' ∈ GW) : GoodIn GW (hdW Y' :: GW) := fun w hw => by
  have hg : ∀ w ∈ GW, (w.onTables && w.keeps) = true ∨ ∃ ty, w = .arrayClass ty := fun w h => good_of_word (GW_good w h)
  rcases List.mem_cons.mp hw with rfl | hw
  · exact ⟨h, hg _ h⟩
  · exact ⟨hw, hg _ hw⟩
/-- what the tables say of a callee: it is a method of ours without handlers -/
def cM (Y' : MI) (n : Nat) : Prop := Y'.2.2.2.2 = [] ∧ hdW Y' ∈ GW ∧ Cond.initialized Y'.1.cls ∈ GW ∧ (Y'.1.cls ≠ "java/lang/invoke/MethodHandle" ∧ Y'.1.cls ≠ "java/lang/invoke/VarHandle" ∧ (parseMethodDescriptor Y'.1.desc).map (fun d => d.parameters.length) = some n) ∧ Y'.2.2.1 ≤ 19
theorem cM.hd {Y' : MI} {n : Nat} (h : cM Y' n) : hdW Y' = .code Y'.1 Y'.2.1 Y'.2.2.1 Y'.2.2.2.1 := by unfold hdW; rw [h.1]
/-- an object of the class ci stands at b in the world -/
def orc (M : List ME) (b ci : Nat) : Prop := (∃ (k : Nat) (fs : List Value), M[k]? = some (eO ci b fs)) ∨ ∃ (k : Nat) (sa : Nat → Nat) (n i : Nat) (F : Nat → List Value), M[k]? = some (eF ci sa n F) ∧ i < n ∧ b = sa i
theorem orcO (k : Nat) {b ci : Nat} {fs : List Value} (h : M[k]? = some (eO ci b fs)) : orc M b ci := Or.inl ⟨k, fs, h⟩
theorem orcF (k : Nat) {ci n i : Nat} {sa : Nat → Nat} {F : Nat → List Value} (h : M[k]? = some (eF ci sa n F)) (hi : i < n) : orc M (sa i) ci := Or.inr ⟨k, sa, n, i, F, h, hi, rfl⟩
theorem orc.cell {b ci : Nat} {r : vw_C} (h : orc M b ci) (hc : vwCl[ci]? = some r) (hP : PM G M H) (hK : KW G s) : ∃ cell : Cell, H[b]? = some cell ∧ cell.vm.isStatics = false ∧ s.vm.findClass r.1 = some cell.cls := by
  have key : ∀ fs, va_at G.2.1 vwCl (b, .inr (ci, fs)) H → ∃ cell : Cell, H[b]? = some cell ∧ cell.vm.isStatics = false ∧ s.vm.findClass r.1 = some cell.cls := by
    intro fs h
    obtain ⟨q', h1, cell, g1, g2, g3, -⟩ := h
    exact ⟨cell, g1, by rw [g3]; rfl, by rw [g2]; exact (hK.1.1 ci r hc).2.1⟩
  rcases h with ⟨k, fs, h⟩ | ⟨k, sa, n, i, F, h, hi, rfl⟩
  · exact key fs (hP k _ h)
  · exact key (F i) (hP k _ h i hi)
theorem v_callV {index ci b : Nat} {r : vw_C} (hM : Mt G Y' d' mc ms (.ref b :: As) Mc Q X) (hcM : cM Y' As.length) (hlink : Cond.methodLink Y.1.cls index Y'.1 ∈ GW) (hin : Cond.instanceMethod Y'.1 ∈ GW) (hse : Cond.selects Y'.1.cls Y'.1 Y'.1 ∈ GW) (hc : vwCl[ci]? = some r) (hrc : r.1 = Y'.1.cls) (ho : orc M b ci)
    (ps : List Nat) (hpt : isPart M Mc ps) (hn : ps.Nodup) (hX : ∀ E M', ¬ X E M') (hmc : mc ≤ ck) (hms : ms ≤ sk) (hdd : d' + 1 ≤ d) (hW : (rest.map fun v => v.category).sum ≤ 8) (hd : decode Y.2.1 pc = .ok (.invokevirtual index, 3))
    (k : ∀ (v : Option Value) (M' : List ME), Q v M' → V G Y Z d (ck - mc) (sk - ms) (pc + 3) L (v.toList ++ rest) (wb ps M' M)) : V G Y Z d ck sk pc L (As.reverse ++ .ref b :: rest) M := by
  intro p e R s m args below meth c H locs cells slots ls C hl
  obtain ⟨as, q1, -⟩ := id hl
  have hts := C.1.2.2.2.2.2.2.1
  have hcode : hdW Y' = .code Y'.1 Y'.2.1 Y'.2.2.1 Y'.2.2.2.1 := hcM.hd
  have hroom : d' + 1 ≤ R.frames ∧ 8 + (Y'.2.2.1 + 11) + 38 * d' ≤ R.locals := ⟨Nat.le_trans hdd C.2.1.2.2.1, Nat.le_trans (by have := hcM.2.2.2.2; omega) C.2.1.2.2.2.1⟩
  refine v_go C hl hpt hn hX hmc hms (vx_runV (As := As) (rest := rest) (Ts := GW) (own := Y.1.cls) (C := Y'.1.cls) (nL := Y.2.2.1) ⟨C.1.1, C.1.2.1, C.1.2.2.1, C.1.2.2.2.2.2.1, hts⟩ (hM H.size)
    ⟨callB_of As.length hts (gw_in2 Y' hcM.2.1) (by rw [hcode]) rfl rfl (hts _ hcM.2.2.1) (hts _ hlink) hcM.2.2.2.1 hroom, hts _ hin, hts _ hse⟩
    ⟨Pc.blind, ?_, v_pc C hpt hn⟩ rfl rfl q1.1 rfl (by show 2 * 0 + _ ≤ 8; omega) hd ⟨by have := C.2.1.2.2.2.2.1; omega, by have := C.2.1.2.2.2.2.2; omega⟩) k
  rw [← hrc]
  exact ho.cell hc C.2.2.1 C.1.2.2.2.2.2.2.2.1
theorem v_callS {index : Nat} (hM : Mt G Y' d' mc ms As Mc Q X) (hcM : cM Y' As.length) (hlink : Cond.methodLink Y.1.cls index Y'.1 ∈ GW) (hst : Cond.static Y'.1 ∈ GW)
    (ps : List Nat) (hpt : isPart M Mc ps) (hn : ps.Nodup) (hX : ∀ E M', ¬ X E M') (hmc : mc ≤ ck) (hms : ms ≤ sk) (hdd : d' + 1 ≤ d) (hW : (rest.map fun v => v.category).sum ≤ 8) (hd : decode Y.2.1 pc = .ok (.invokestatic index, 3))
    (k : ∀ (v : Option Value) (M' : List ME), Q v M' → V G Y Z d (ck - mc) (sk - ms) (pc + 3) L (v.toList ++ rest) (wb ps M' M)) : V G Y Z d ck sk pc L (As.reverse ++ rest) M := by
  intro p e R s m args below meth c H locs cells slots ls C hl
  obtain ⟨as, q1, -⟩ := id hl
  have hts := C.1.2.2.2.2.2.2.1
  have hcode : hdW Y' = .code Y'.1 Y'.2.1 Y'.2.2.1 Y'.2.2.2.1 := hcM.hd
  have hroom : d' + 1 ≤ R.frames ∧ 8 + (Y'.2.2.1 + 11) + 38 * d' ≤ R.locals := ⟨Nat.le_trans hdd C.2.1.2.2.1, Nat.le_trans (by have := hcM.2.2.2.2; omega) C.2.1.2.2.2.1⟩
  exact v_go C hl hpt hn hX hmc hms (vx_runS (As := As) (rest := rest) (Ts := GW) (own := Y.1.cls) (nL := Y.2.2.1) ⟨C.1.1, C.1.2.1, C.1.2.2.1, C.1.2.2.2.2.2.1, hts⟩ (hM H.size)
    ⟨callB_of As.length hts (gw_in2 Y' hcM.2.1) (by rw [hcode]) rfl rfl (hts _ hcM.2.2.1) (hts _ hlink) hcM.2.2.2.1 hroom, hts _ hst⟩
    ⟨Pc.blind, v_pc C hpt hn⟩ rfl rfl q1.1 rfl (by show 2 * 0 + _ ≤ 8; omega) hd ⟨by have := C.2.1.2.2.2.2.1; omega, by have := C.2.1.2.2.2.2.2; omega⟩) k
/-- a private static across the nest -/
theorem v_callSN {index : Nat} {host : String} (hM : Mt G Y' d' mc ms As Mc Q X) (hcM : cM Y' As.length) (hlink : Cond.methodLinkNest Y.1.cls index Y'.1 host ∈ NW) (hst : Cond.static Y'.1 ∈ GW)
    (ps : List Nat) (hpt : isPart M Mc ps) (hn : ps.Nodup) (hX : ∀ E M', ¬ X E M') (hmc : mc ≤ ck) (hms : ms ≤ sk) (hdd : d' + 1 ≤ d) (hW : (rest.map fun v => v.category).sum ≤ 8) (hd : decode Y.2.1 pc = .ok (.invokestatic index, 3))
    (k : ∀ (v : Option Value) (M' : List ME), Q v M' → V G Y Z d (ck - mc) (sk - ms) (pc + 3) L (v.toList ++ rest) (wb ps M' M)) : V G Y Z d ck sk pc L (As.reverse ++ rest) M := by
  intro p e R s m args below meth c H locs cells slots ls C hl
  obtain ⟨as, q1, -⟩ := id hl
  have hts := C.1.2.2.2.2.2.2.1
  have hcode : hdW Y' = .code Y'.1 Y'.2.1 Y'.2.2.1 Y'.2.2.2.1 := hcM.hd
  have hroom : d' + 1 ≤ R.frames ∧ 8 + (Y'.2.2.1 + 11) + 38 * d' ≤ R.locals := ⟨Nat.le_trans hdd C.2.1.2.2.1, Nat.le_trans (by have := hcM.2.2.2.2; omega) C.2.1.2.2.2.1⟩
  exact v_go C hl hpt hn hX hmc hms (vx_runSN (As := As) (rest := rest) (Ts := GW) (own := Y.1.cls) (host := host) (nL := Y.2.2.1) ⟨C.1.1, C.1.2.1, C.1.2.2.1, C.1.2.2.2.2.2.1, hts⟩ (hM H.size)
    ⟨va_cnB As.length hts (gw_in2 Y' hcM.2.1) (by rw [hcode]) rfl rfl (C.1.2.2.2.2.2.2.2.1.2.1 _ hlink) (hts _ hcM.2.2.1) hcM.2.2.2.1 hroom, hts _ hst, trivial⟩
    ⟨Pc.blind, v_pc C hpt hn⟩ rfl rfl q1.1 rfl (by show 2 * 0 + _ ≤ 8; omega) hd ⟨by have := C.2.1.2.2.2.2.1; omega, by have := C.2.1.2.2.2.2.2; omega⟩) k
theorem v_callI {index b : Nat} (hM : Mt G Y' d' mc ms (.ref b :: As) Mc Q X) (hcM : cM Y' As.length) (hret : Y'.2.2.2.1 = none) (hini : Y'.1.name = "<init>") (hlink : Cond.methodLink Y.1.cls index Y'.1 ∈ GW) (hin : Cond.instanceMethod Y'.1 ∈ GW)
    (ps : List Nat) (hpt : isPart M Mc ps) (hn : ps.Nodup) (hX : ∀ E M', ¬ X E M') (hmc : mc ≤ ck) (hms : ms ≤ sk) (hdd : d' + 1 ≤ d) (hW : (rest.map fun v => v.category).sum ≤ 8) (hd : decode Y.2.1 pc = .ok (.invokespecial index, 3))
    (k : ∀ (v : Option Value) (M' : List ME), Q v M' → V G Y Z d (ck - mc) (sk - ms) (pc + 3) L (v.toList ++ rest) (wb ps M' M)) : V G Y Z d ck sk pc L (As.reverse ++ .ref b :: rest) M := by
  intro p e R s m args below meth c H locs cells slots ls C hl
  obtain ⟨as, q1, -⟩ := id hl
  have hts := C.1.2.2.2.2.2.2.1
  have hcode : hdW Y' = .code Y'.1 Y'.2.1 Y'.2.2.1 none := by rw [hcM.hd, hret]
  have hroom : d' + 1 ≤ R.frames ∧ 8 + (Y'.2.2.1 + 11) + 38 * d' ≤ R.locals := ⟨Nat.le_trans hdd C.2.1.2.2.1, Nat.le_trans (by have := hcM.2.2.2.2; omega) C.2.1.2.2.2.1⟩
  exact v_go C hl hpt hn hX hmc hms (vx_runI (As := As) (rest := rest) (Ts := GW) (own := Y.1.cls) (nL := Y.2.2.1) ⟨C.1.1, C.1.2.1, C.1.2.2.1, C.1.2.2.2.2.2.1, hts⟩ (hM H.size)
    ⟨callB_of As.length hts (gw_in2 Y' hcM.2.1) (by rw [hcode]) rfl rfl (hts _ hcM.2.2.1) (hts _ hlink) hcM.2.2.2.1 hroom, hini, hts _ hin⟩
    ⟨Pc.blind, v_pc C hpt hn⟩ rfl rfl q1.1 rfl (by show 2 * 0 + _ ≤ 8; omega) hd ⟨by have := C.2.1.2.2.2.2.1; omega, by have := C.2.1.2.2.2.2.2; omega⟩) k
theorem v_callIN {index b : Nat} {host : String} (hM : Mt G Y' d' mc ms (.ref b :: As) Mc Q X) (hcM : cM Y' As.length) (hret : Y'.2.2.2.1 = none) (hini : Y'.1.name = "<init>") (hlink : Cond.methodLinkNest Y.1.cls index Y'.1 host ∈ NW) (hin : Cond.instanceMethod Y'.1 ∈ GW)
    (ps : List Nat) (hpt : isPart M Mc ps) (hn : ps.Nodup) (hX : ∀ E M', ¬ X E M') (hmc : mc ≤ ck) (hms : ms ≤ sk) (hdd : d' + 1 ≤ d) (hW : (rest.map fun v => v.category).sum ≤ 8) (hd : decode Y.2.1 pc = .ok (.invokespecial index, 3))
    (k : ∀ (v : Option Value) (M' : List ME), Q v M' → V G Y Z d (ck - mc) (sk - ms) (pc + 3) L (v.toList ++ rest) (wb ps M' M)) : V G Y Z d ck sk pc L (As.reverse ++ .ref b :: rest) M := by
  intro p e R s m args below meth c H locs cells slots ls C hl
  obtain ⟨as, q1, -⟩ := id hl
  have hts := C.1.2.2.2.2.2.2.1
  have hcode : hdW Y' = .code Y'.1 Y'.2.1 Y'.2.2.1 none := by rw [hcM.hd, hret]
  have hroom : d' + 1 ≤ R.frames ∧ 8 + (Y'.2.2.1 + 11) + 38 * d' ≤ R.locals := ⟨Nat.le_trans hdd C.2.1.2.2.1, Nat.le_trans (by have := hcM.2.2.2.2; omega) C.2.1.2.2.2.1⟩
  exact v_go C hl hpt hn hX hmc hms (vx_runIN (As := As) (rest := rest) (Ts := GW) (own := Y.1.cls) (host := host) (nL := Y.2.2.1) ⟨C.1.1, C.1.2.1, C.1.2.2.1, C.1.2.2.2.2.2.1, hts⟩ (hM H.size)
    ⟨va_cnB As.length hts (gw_in2 Y' hcM.2.1) (by rw [hcode]) rfl rfl (C.1.2.2.2.2.2.2.2.1.2.1 _ hlink) (hts _ hcM.2.2.1) hcM.2.2.2.1 hroom, hini, hts _ hin⟩
    ⟨Pc.blind, v_pc C hpt hn⟩ rfl rfl q1.1 rfl (by show 2 * 0 + _ ≤ 8; omega) hd ⟨by have := C.2.1.2.2.2.2.1; omega, by have := C.2.1.2.2.2.2.2; omega⟩) k
end VCALL
