/-! exceptions: thrown by 'new E(text)', caught by the law's own methods -/
theorem NW_use {w : Cond} {U : State} {A : Array Value} (hw : w ∈ NW) (h : va_Nw w U) : w.before A U = true := by
  have hg : ngW w = true := (List.mem_filter.mp hw).2
  cases w with
  | fieldLinkNest a i b n d h9 => exact va_Nw.use rfl h
  | methodLinkNest a i x h9 => exact va_Nw.use rfl h
  | castable a b => exact va_Nw.use rfl h
  | declares x => exact va_Nw.use rfl h
  | arrayOver ty => exact h
  | _ => cases hg
/-- what the tables say of a 'throw new E(text)' -/
def tW (own : String) (ik is ic : Nat) (cls text : String) (names : List String) : Prop :=
  Bundle.fit cls = true ∧ (∀ n ∈ names, Bundle.fit n = true) ∧ Cond.classLink own ik cls ∈ GW ∧ Cond.initialized cls ∈ GW ∧ (own, is, text) ∈ STR ∧ (∀ w ∈ vx_atS own ic cls names, w ∈ GW ∨ w ∈ NW) ∧ (∀ w ∈ Cond.classLink own ik cls :: Cond.initialized cls :: vx_atS own ic cls names, vx_ot w = true)
section VTHROW
variable {G : Cx} {Y : MI} {d ck sk pc : Nat} {L : List (Option Value)} {M M0 : List ME} {sz : Nat} {Q : Option Value → List ME → Prop} {X : String → List ME → Prop}
theorem v_throw {cls text : String} {names : List String} {ik is ic : Nat} {rest : List Value} (hw : tW Y.1.cls ik is ic cls text names) (hT : Y.2.2.2.2 = []) (hlen : M0.length ≤ M.length)
    (d0 : decode Y.2.1 pc = .ok (.new ik, 3)) (d3 : decode Y.2.1 (pc + 3) = .ok (.dup, 1)) (d4 : decode Y.2.1 (pc + 4) = .ok (.ldc is, 2)) (d6 : decode Y.2.1 (pc + 6) = .ok (.invokespecial ic, 3)) (d9 : decode Y.2.1 (pc + 9) = .ok (.athrow, 1))
    (hfr : names.length + 3 < d) (hlo : (rest.map fun v => v.category).sum + (13 * (names.length + 1) + 43) ≤ 38 * d) (hck : 1 ≤ ck) (hsk : 6 ≤ sk) (hX : X cls M) : V G Y (ZM G M0 sz Q X) d ck sk pc L rest M := by
  intro p e R s m args below meth c H locs cells slots ls C hl
  obtain ⟨w1, w2, w3, w4, w5, w6, w7⟩ := hw
  obtain ⟨sa, hsa⟩ := C.1.2.2.2.2.2.2.2.1.2.2.1 _ w5
  have hts := C.1.2.2.2.2.2.2.1
  have hls : ls.size = c.maxLocals := by obtain ⟨as, q1, -⟩ := hl; rw [q1.1]; exact C.1.2.2.1.symm
  refine vx_throwS (A := AM M0 sz) (own := Y.1.cls) (names := names) C.1.1 C.1.2.1 C.1.2.2.2.2.2.2.2.1.2.2.2.2.2.2.2.1 C.1.2.2.2.2.2.1 w1 w2 (hts _ w3) (hts _ w4) hsa (fun w hw => ?_) w7
    (C.1.2.2.2.2.2.2.2.1.2.2.2.1.narrow C.2.2.2.2.2) (C.1.2.2.2.2.2.2.2.1.2.2.2.2.1.narrow C.2.2.2.2.2) C.2.2.2.2.1 hls d0 d3 d4 d6 d9 (fun x hx => ?_) (Nat.lt_of_lt_of_le hfr C.2.1.2.2.1) (Nat.le_trans hlo C.2.1.2.2.2.1) (by have := C.2.1.2.2.2.2.1; omega) (by have := C.2.1.2.2.2.2.2; omega) C.1.2.2.2.2.1
    (fun t hal hsz hq => ?_) C.2.2.2.2.1.2.2 (by have := C.2.1.2.2.2.2.1; omega) (by have := C.2.1.2.2.2.2.2; omega)
  · rcases w6 w hw with h | h
    · exact hts _ h
    · exact NW_use h (C.1.2.2.2.2.2.2.2.1.2.1 _ h)
  · rw [C.1.2.2.2.2.2.2.2.2.1, hT] at hx
    cases hx
  · refine ⟨M, hX, hlen, C.2.2.1.kept (fun q k e9 hk hm => hq q (mh_lt (C.2.2.1 k e9 hk) hm)), C.2.2.2.1, Nat.le_trans C.2.2.2.2.1.1 hsz, fun q h1 h2 => ?_⟩
    rw [hq q (Nat.lt_of_lt_of_le h1 C.2.2.2.2.1.1)]
    exact C.2.2.2.2.1.2.1 q h1 h2
end VTHROW
/-- an exception of the class E has come to pc -/
def VX (G : Cx) (Y : MI) (Z : ZT) (d ck sk pc : Nat) (L : List (Option Value)) (rest : List Value) (E : String) (M : List ME) : Prop :=
  ∀ (p : Program) (e : Env) (R : Room) (s : State) (m : MethodId) (args : Array Value) (below : List Frame) (meth : Method) (c : Code) (H : Heap) (locs : List Loc) (cells slots : Nat) (ls : Array Slot) (q : Nat) (ce : Cell),
    CX G Y Z d ck sk M p R s m args meth c H locs cells slots → lvl ls Y.2.2.1 L → H[q]? = some ce → ce.vm = .none → s.vm.findClass E = some ce.cls → vx_W p G.1 e R s m args below meth c H locs cells slots (Z.2.2 below args s R) (F0 m pc ls rest) q
section VCATCH
variable {G : Cx} {Y Y' : MI} {Z : ZT} {d ck sk pc : Nat} {L : List (Option Value)} {st0 rest : List Value} {M Mc : List ME} {d' mc ms : Nat} {As : List Value} {Q : Option Value → List ME → Prop} {X : String → List ME → Prop}
theorem v_catch {E name : String} (pre : List ExceptionTableEntry) (x : ExceptionTableEntry) (suf : List ExceptionTableEntry) (hsplit : tableOf Y.2.2.2.2 = pre ++ x :: suf) (hpass : ∀ z ∈ pre, z.catchType ≠ 0 ∧ ∃ nm : String, Cond.classLink Y.1.cls z.catchType nm ∈ GW ∧ (E, nm) ∈ NC) (hx : covers x pc = true) (h0 : x.catchType ≠ 0)
    (hlink : Cond.classLink Y.1.cls x.catchType name ∈ GW) (hcast : Cond.castable E name ∈ NW) (k : ∀ q : Nat, V G Y Z d ck sk x.handlerPc L [.ref q] M) : VX G Y Z d ck sk pc L rest E M := by
  intro p e R s m args below meth c H locs cells slots ls q ce C hl hq hv hcl
  have hts := C.1.2.2.2.2.2.2.1
  refine vx_catch (own := Y.1.cls) C.1.2.2.2.2.2.1 pre x suf (by rw [C.1.2.2.2.2.2.2.2.2.1]; exact hsplit) (fun z hz => ?_) hx h0 (hts _ hlink) (NW_use hcast (C.1.2.2.2.2.2.2.2.1.2.1 _ hcast)) hq hv hcl (k q p e R s m args below meth c H locs cells slots ls C hl)
  obtain ⟨z1, nm, z2, z3⟩ := hpass z hz
  exact Or.inr ⟨z1, nm, hts _ z2, C.1.2.2.2.2.2.2.2.1.2.2.2.2.2.2.2.2 _ z3⟩
variable {p : Program} {e : Env} {R : Room} {s : State} {m : MethodId} {args : Array Value} {below : List Frame} {meth : Method} {c : Code} {H : Heap} {locs : List Loc} {cells slots : Nat} {ls : Array Slot} {ps : List Nat}
/-- behind a call that comes back or throws -/
theorem v_goX {a : Array Value} (C : CX G Y Z d ck sk M p R s m args meth c H locs cells slots) (hl : lvl ls Y.2.2.1 L) (hpt : isPart M Mc ps) (hn : ps.Nodup) (hmc : mc ≤ ck) (hms : ms ≤ sk)
    (hr : vx_Run p G.1 e R s m args below meth c H locs cells slots mc ms (F0 m pc ls st0) rest (Qc G Mc H.size Q a) (XC G Mc H.size X) (AM Mc H.size))
    (k : ∀ (v : Option Value) (M' : List ME), Q v M' → V G Y Z d (ck - mc) (sk - ms) (pc + 3) L (v.toList ++ rest) (wb ps M' M))
    (kx : ∀ (E : String) (M' : List ME), X E M' → VX G Y Z d (ck - mc) (sk - ms) pc L rest E (wb ps M' M)) : W p G.1 e R s m args below meth c H locs cells slots (Z.2.2 below args s R) (F0 m pc ls st0) := by
  intro T hT X9
  have hA : ∀ q, AM Mc H.size q → AM Z.1 Z.2.1 q := by
    intro q hq
    rcases hq with ⟨i, e9, hi, hm⟩ | hq
    · obtain ⟨p9, -, h2⟩ := hpt.at hi
      exact C.2.2.2.1.2.2 p9 e9 q h2 hm
    · exact Or.inr (by rw [← C.2.1.1]; exact Nat.le_trans C.2.2.2.2.1.1 hq)
  rcases hr T hT X9 with ⟨v, st₀, t, T', L9, h0, X', hL, e1, e2, ⟨v', M', ho, hQ, hlen, hP1, hD1, hF⟩, go⟩ | ⟨q, st₀, t, T', L9, E, ce, h0, X', hL, e1, e2, ⟨M', hx, hlen, hP1, hD1, hF⟩, hce, hcv, hcl, go⟩
  · cases ho
    obtain ⟨k1, k2, k3⟩ := vx_keep h0 e1 C.2.2.2.2.1 (fun q _ h => hA q h) hA hL hF
    obtain ⟨w1, w2⟩ := wb_world C.2.2.1 C.2.2.2.1 hpt hn (by rw [hpt.len]; exact hlen) k2 (fun q hq => hA q (Or.inr hq)) (by rw [e1]; exact hP1) hD1
    obtain ⟨t2, a1, b1⟩ := k v M' hQ p e R s m args below meth c T'.heap (locs ++ L9) (cells + mc) (slots + ms) ls
      ⟨C.1, ⟨C.2.1.1, C.2.1.2.1, C.2.1.2.2.1, C.2.1.2.2.2.1, by have := C.2.1.2.2.2.2.1; omega, by have := C.2.1.2.2.2.2.2; omega⟩, w1, w2, k3, C.2.2.2.2.2⟩ hl T' rfl X'
    exact ⟨t2, go t2 a1, b1⟩
  · obtain ⟨k1, k2, k3⟩ := vx_keep h0 e1 C.2.2.2.2.1 (fun q _ h => hA q h) hA hL hF
    obtain ⟨w1, w2⟩ := wb_world C.2.2.1 C.2.2.2.1 hpt hn (by rw [hpt.len]; exact hlen) k2 (fun q hq => hA q (Or.inr hq)) (by rw [e1]; exact hP1) hD1
    obtain ⟨t2, a1, b1⟩ := kx E M' hx p e R s m args below meth c T'.heap (locs ++ L9) (cells + mc) (slots + ms) ls q ce
      ⟨C.1, ⟨C.2.1.1, C.2.1.2.1, C.2.1.2.2.1, C.2.1.2.2.2.1, by have := C.2.1.2.2.2.2.1; omega, by have := C.2.1.2.2.2.2.2; omega⟩, w1, w2, k3, C.2.2.2.2.2⟩ hl (by rw [e1]; exact hce) hcv hcl T' rfl X'
    exact ⟨t2, go.trans a1, b1⟩
theorem v_callVX {index ci b : Nat} {r : vw_C} (hM : Mt G Y' d' mc ms (.ref b :: As) Mc Q X) (hcM : cM Y' As.length) (hlink : Cond.methodLink Y.1.cls index Y'.1 ∈ GW) (hin : Cond.instanceMethod Y'.1 ∈ GW) (hse : Cond.selects Y'.1.cls Y'.1 Y'.1 ∈ GW) (hc : vwCl[ci]? = some r) (hrc : r.1 = Y'.1.cls) (ho : orc M b ci)
    (ps : List Nat) (hpt : isPart M Mc ps) (hn : ps.Nodup) (hmc : mc ≤ ck) (hms : ms ≤ sk) (hdd : d' + 1 ≤ d) (hW : (rest.map fun v => v.category).sum ≤ 8) (hd : decode Y.2.1 pc = .ok (.invokevirtual index, 3))
    (k : ∀ (v : Option Value) (M' : List ME), Q v M' → V G Y Z d (ck - mc) (sk - ms) (pc + 3) L (v.toList ++ rest) (wb ps M' M))
    (kx : ∀ (E : String) (M' : List ME), X E M' → VX G Y Z d (ck - mc) (sk - ms) pc L rest E (wb ps M' M)) : V G Y Z d ck sk pc L (As.reverse ++ .ref b :: rest) M := by
  intro p e R s m args below meth c H locs cells slots ls C hl
  obtain ⟨as, q1, -⟩ := id hl
  have hts := C.1.2.2.2.2.2.2.1
  have hcode : hdW Y' = .code Y'.1 Y'.2.1 Y'.2.2.1 Y'.2.2.2.1 := hcM.hd
  have hroom : d' + 1 ≤ R.frames ∧ 8 + (Y'.2.2.1 + 11) + 38 * d' ≤ R.locals := ⟨Nat.le_trans hdd C.2.1.2.2.1, Nat.le_trans (by have := hcM.2.2.2.2; omega) C.2.1.2.2.2.1⟩
  refine v_goX C hl hpt hn hmc hms (vx_runV (As := As) (rest := rest) (Ts := GW) (own := Y.1.cls) (C := Y'.1.cls) (nL := Y.2.2.1) ⟨C.1.1, C.1.2.1, C.1.2.2.1, C.1.2.2.2.2.2.1, hts⟩ (hM H.size)
    ⟨callB_of As.length hts (gw_in2 Y' hcM.2.1) (by rw [hcode]) rfl rfl (hts _ hcM.2.2.1) (hts _ hlink) hcM.2.2.2.1 hroom, hts _ hin, hts _ hse⟩
    ⟨Pc.blind, ?_, v_pc C hpt hn⟩ rfl rfl q1.1 rfl (by show 2 * 0 + _ ≤ 8; omega) hd ⟨by have := C.2.1.2.2.2.2.1; omega, by have := C.2.1.2.2.2.2.2; omega⟩) k kx
  rw [← hrc]
  exact ho.cell hc C.2.2.1 C.1.2.2.2.2.2.2.2.1
/-- what the tables say of a callee with handlers of its own -/
def cH (Y' : MI) (n : Nat) : Prop := hdW Y' = .codeWith Y'.1 Y'.2.1 Y'.2.2.1 Y'.2.2.2.1 Y'.2.2.2.2 ∧ hdW Y' ∈ GW ∧ Cond.initialized Y'.1.cls ∈ GW ∧ (Y'.1.cls ≠ "java/lang/invoke/MethodHandle" ∧ Y'.1.cls ≠ "java/lang/invoke/VarHandle" ∧ (parseMethodDescriptor Y'.1.desc).map (fun d => d.parameters.length) = some n) ∧ Y'.2.2.1 ≤ 19
theorem v_callSH {index : Nat} (hM : Mt G Y' d' mc ms As Mc Q X) (hcM : cH Y' As.length) (hlink : Cond.methodLink Y.1.cls index Y'.1 ∈ GW) (hst : Cond.static Y'.1 ∈ GW)
    (ps : List Nat) (hpt : isPart M Mc ps) (hn : ps.Nodup) (hX : ∀ E M', ¬ X E M') (hmc : mc ≤ ck) (hms : ms ≤ sk) (hdd : d' + 1 ≤ d) (hW : (rest.map fun v => v.category).sum ≤ 8) (hd : decode Y.2.1 pc = .ok (.invokestatic index, 3))
    (k : ∀ (v : Option Value) (M' : List ME), Q v M' → V G Y Z d (ck - mc) (sk - ms) (pc + 3) L (v.toList ++ rest) (wb ps M' M)) : V G Y Z d ck sk pc L (As.reverse ++ rest) M := by
  intro p e R s m args below meth c H locs cells slots ls C hl
  obtain ⟨as, q1, -⟩ := id hl
  have hts := C.1.2.2.2.2.2.2.1
  have hroom : d' + 1 ≤ R.frames ∧ 8 + (Y'.2.2.1 + 11) + 38 * d' ≤ R.locals := ⟨Nat.le_trans hdd C.2.1.2.2.1, Nat.le_trans (by have := hcM.2.2.2.2; omega) C.2.1.2.2.2.1⟩
  have hG : GoodIn GW (va_wsS Y.1.cls index Y'.1 (hdW Y' :: GW)) := by
    intro w hw
    have hg : ∀ w ∈ GW, (w.onTables && w.keeps) = true ∨ ∃ ty, w = .arrayClass ty := fun w h => good_of_word (GW_good w h)
    rcases List.mem_append.mp hw with hw | hw
    · simp only [List.mem_cons, List.not_mem_nil, or_false] at hw
      rcases hw with rfl | rfl | rfl
      · exact ⟨hlink, hg _ hlink⟩
      · exact ⟨hst, hg _ hst⟩
      · exact ⟨hcM.2.2.1, hg _ hcM.2.2.1⟩
    · exact gw_in2 Y' hcM.2.1 w hw
  exact v_go C hl hpt hn hX hmc hms (vx_runSX (As := As) (rest := rest) (Ts := GW) (own := Y.1.cls) (nL := Y.2.2.1) ⟨C.1.1, C.1.2.1, C.1.2.2.1, C.1.2.2.2.2.2.1, hts⟩ (hM H.size)
    (vx_cwSW As.length hts hG (by rw [hcM.1]) rfl rfl hcM.2.2.2.1 hroom)
    ⟨Pc.blind, v_pc C hpt hn⟩ rfl rfl q1.1 rfl (by show 2 * 0 + _ ≤ 8; omega) hd ⟨by have := C.2.1.2.2.2.2.1; omega, by have := C.2.1.2.2.2.2.2; omega⟩) k
end VCATCH
/-- a contract out of the walk of its body, with handlers -/
theorem Mt.ofH {G : Cx} {Y : MI} {d mc ms : Nat} {vs : List Value} {M : List ME} {Q : Option Value → List ME → Prop} {X : String → List ME → Prop} {L : List (Option Value)} (hT : hdW Y = .codeWith Y.1 Y.2.1 Y.2.2.1 Y.2.2.2.1 Y.2.2.2.2) (hy : plainName Y.1.cls = true) (hn : (lg_sl vs).length ≤ Y.2.2.1) (hL : lsub (entL vs ++ List.replicate Y.2.2.1 none) L)
    (body : ∀ sz : Nat, V G Y (ZM G M sz Q X) d mc ms 0 L [] M) : Mt G Y d mc ms vs M Q X := by
  intro sz
  refine vx_ofWH (cc := Y.2.1) (maxL := Y.2.2.1) (ret := Y.2.2.2.1) (hh := Y.2.2.2.2) (ws' := GW) hy (by rw [hT]) ?_
  intro p e s m args below meth c s₁ B hml hv
  obtain ⟨rfl, hsz, hP, hD, hK, hb⟩ := hv
  have hts := atoms_spec (ws := hdW Y :: GW) B.pre
  have htab : c.exceptionTable.toList = tableOf Y.2.2.2.2 := vx_table (x := Y.1) (y := Y.1) B (by have := hts _ List.mem_cons_self; rwa [hT] at this)
  rw [lg_entry_eq]
  refine body sz p e _ s m _ below meth c s.heap [] 0 0 _ ⟨⟨B.exec, B.bytes, hml, B.returns, B.notSynchronized, findClass_of_methodNamed B.named, fun w hw => hts w (List.mem_cons_of_mem _ hw), hK, htab, (name_of_methodNamed B.named B.method).1⟩, ⟨hsz, hb, Nat.le_refl _, Nat.le_refl _, by show 0 + mc ≤ mc; omega, by show 0 + ms ≤ ms; omega⟩, hP, hD.self sz, va_S.rf, ?_⟩ ((lvl_entry vs hn).sub hL.get)
  intro q hq
  rcases hq with ⟨k, e9, hk, hm⟩ | hq
  · exact hD.2.2 k e9 q hk hm
  · exact Nat.le_trans hb hq
