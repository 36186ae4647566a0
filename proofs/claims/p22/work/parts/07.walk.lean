def STR : List (String × Nat × String) := [("SleighPost", 82, "no such cell or question"), ("SleighPost", 175, "no such sleigh or question"), ("SleighPost", 180, "no such bag or question"), ("SleighPost", 185, "hours are 1 to 200"), ("SleighPost", 190, "no such question"), ("SleighPost", 219, "no such sleigh"), ("SleighPost", 29, "no such rectangle or thickness"), ("SleighPost", 39, "a post or a sleigh is there"), ("SleighPost", 62, "no such cell"), ("SleighPost", 65, "snow is 1 to 9"), ("SleighPost", 74, "no such day"), ("SleighPost", 76, "cold is -9 to 9"), ("SleighPost", 94, "a post is there, or there are 8"), ("SleighPost", 103, "no such post"), ("SleighPost", 105, "reindeer are 1 to 6"), ("SleighPost", 110, "there are 5 sleighs"), ("SleighPost", 115, "the same post, or a weight that is not 1 to 30"), ("SleighPost", 120, "there are 40 bags"), ("SleighPost", 161, "no such sleigh or post"), ("SleighPost", 163, "it rests there"), ("SleighPost", 165, "it does not rest"), ("SleighPost", 134, "no such sleigh or bag"), ("SleighPost", 150, "the bag does not wait where the sleigh rests")]

/-- pairs of exception classes of which the one is no case of the other -/
def NC : List (String × String) := []
def KW (G : Cx) (U : State) : Prop :=
  va_K G.2.1 vwCl (tysG G) U ∧ (∀ w ∈ NW, va_Nw w U) ∧ (∀ q ∈ STR, ∃ a : Nat, vk_R q.1 q.2.1 q.2.2 a U) ∧
  vx_Zq Bundle.tN "UNASSIGNED_STACK" Bundle.steD (fun q => cxB G ≤ q) U U.heap ∧ vx_Zq Bundle.tN "SUPPRESSED_SENTINEL" Bundle.listD (fun q => cxB G ≤ q) U U.heap ∧
  va_X G.2.2.2.1 G.2.2.2.2.2.1 G.2.2.2.2.2.2 U U.heap ∧ G.2.2.2.1 < cxB G ∧ G.1.stackTraces = false ∧ ∀ q ∈ NC, va_Nc q.1 q.2 U
theorem aoA_moved {t : FieldType} {u U : State} (hvm : u.vm.Alike U.vm) (h : va_Nw (.arrayOver (.array t)) u) : va_Nw (.arrayOver (.array t)) U := by
  obtain ⟨comp, c, k, h1, h2, h3, h4, h5⟩ := arrayOverA_spec h
  obtain ⟨k', hk', he⟩ := hvm.2.2 _ _ h3
  have hi : (U.vm.classes.findIdx? fun (x : Class) => match x.kind with | .array component _ => component == comp | _ => false) = some c := by
    refine (va_idx_bare U.vm comp).symm.trans ?_
    first | rw [hvm.bare_eq] | rw [← hvm.bare_eq]
    exact (va_idx_bare u.vm comp).trans h2
  have hkind : k'.kind = .array comp (.array t) := by rw [he]; exact h4
  have f1 : U.vm.findClass (FieldType.array t).toString = some comp := by rw [hvm.findClass]; exact h1
  have f2 : U.vm.findClass ("[" ++ (FieldType.array t).toString) = some c := by rw [hvm.findClass]; exact h5
  unfold va_Nw Cond.before Cond.holds
  simp only [Cond.value]
  rw [f1, Option.bind_some]
  refine (congrArg (fun o : Option Nat => (o.bind (fun c => (U.vm.classes[c]?).map fun (k : Class) => match k.kind with | .array _ ty => decide (ty = FieldType.array t) && decide (U.vm.findClass ("[" ++ (FieldType.array t).toString) = some c) | _ => false) == some true)) hi).trans ?_
  simp [hk', hkind, f2]
theorem NW_ao : ∀ w ∈ NW, ∀ ty, w = Cond.arrayOver ty → (∃ C, ty = .object C) ∨ ∃ t, ty = .array t := by
  have h : NW.all (fun w => match w with | .arrayOver (.object _) => true | .arrayOver (.array _) => true | .arrayOver _ => false | _ => true) = true := by decide +kernel
  intro w hw ty e
  have h1 := List.all_eq_true.mp h w hw
  subst e
  cases ty <;> first | exact Or.inl ⟨_, rfl⟩ | exact Or.inr ⟨_, rfl⟩ | cases h1
theorem NW_warm {s U : State} (hW : s.WarmedH U.vm) (h : ∀ w ∈ NW, va_Nw w s) : ∀ w ∈ NW, va_Nw w U := by
  intro w hw
  have hg : ngW w = true := (List.mem_filter.mp hw).2
  have h0 := h w hw
  cases w with
  | fieldLinkNest a i b n d h9 => exact va_Nw.warmF hW h0
  | methodLinkNest a i x h9 => exact va_Nw.warmM hW h0
  | castable a b => exact va_Nw.warmC hW h0
  | declares x => exact va_Nw.warmD hW h0
  | arrayOver ty =>
    rcases NW_ao _ hw ty rfl with ⟨C, rfl⟩ | ⟨t, rfl⟩
    · exact va_AO.moved hW.alike h0
    · exact aoA_moved hW.alike h0
  | _ => cases hg
theorem KW.to {G : Cx} {s U : State} (h : KW G s) (hW : s.WarmedH U.vm) (hH : ∀ q : Nat, q < s.heap.size → ¬ cxB G ≤ q → U.heap[q]? = s.heap[q]?) : KW G U := by
  obtain ⟨h1, h2, h3, h4, h5, h6, h7, h8, h9⟩ := h
  have hb : U.heap[G.2.2.2.1]? = s.heap[G.2.2.2.1]? := by
    obtain ⟨scr, hs, -⟩ := id h6
    exact hH _ (Array.getElem?_eq_some_iff.mp hs).1 (Nat.not_le.mpr h7)
  exact ⟨h1.moved hW.alike, NW_warm hW h2, fun q hq => (h3 q hq).imp (fun a ha => ha.warm hW), (h4.kept hH).moved hW.alike, (h5.kept hH).moved hW.alike, (h6.moved hW.alike).kept hb, h7, h8, fun q hq => (h9 q hq).moved hW.alike⟩
/-- a method: its name, its bytes, its locals, its answer's type, its handlers -/
abbrev MI : Type := MethodName × ByteArray × Nat × Option FieldType × List (Nat × Nat × Nat × Nat)
def hdW (Y : MI) : Cond := match Y.2.2.2.2 with
  | [] => .code Y.1 Y.2.1 Y.2.2.1 Y.2.2.2.1
  | x :: t => .codeWith Y.1 Y.2.1 Y.2.2.1 Y.2.2.2.1 (x :: t)
abbrev ZT : Type := List ME × Nat × (List Frame → Array Value → State → Room → State → Prop)
/-- where a walk stands: the machine and the method; room; the world -/
def CX (G : Cx) (Y : MI) (Z : ZT) (d ck sk : Nat) (M : List ME) (p : Program) (R : Room) (s : State) (m : MethodId) (args : Array Value) (meth : Method) (c : Code) (H : Heap) (locs : List Loc) (cells slots : Nat) : Prop :=
  (p.tables.exec = Jvm.exec ∧ c.code = Y.2.1 ∧ c.maxLocals = Y.2.2.1 ∧ meth.sig.returnType = Y.2.2.2.1 ∧ meth.locks = false ∧ s.vm.findClass Y.1.cls = some m.cls ∧ (∀ w ∈ GW, w.before args s = true) ∧ KW G s ∧ c.exceptionTable.toList = tableOf Y.2.2.2.2 ∧ meth.name = Y.1.name) ∧
  (s.heap.size = Z.2.1 ∧ cxB G ≤ Z.2.1 ∧ d ≤ R.frames ∧ 38 * d ≤ R.locals ∧ cells + ck ≤ R.cells ∧ slots + sk ≤ R.slots) ∧
  PM G M H ∧ DM M (AM Z.1 Z.2.1) ∧ va_S (AM Z.1 Z.2.1) s.heap H locs ∧ ∀ q, AM Z.1 Z.2.1 q → cxB G ≤ q
/-- the locals that are known -/
def lvl (ls : Array Slot) (n : Nat) (L : List (Option Value)) : Prop := ∃ as : List (Nat × Value), lv_has ls n as ∧ ∀ (i : Nat) (v : Value), L[i]? = some (some v) → (i, v) ∈ as
/-- THE WALK's OWN JUDGEMENT: from pc, with these locals, this operand stack, this world, this room -/
def V (G : Cx) (Y : MI) (Z : ZT) (d ck sk pc : Nat) (L : List (Option Value)) (st : List Value) (M : List ME) : Prop :=
  ∀ (p : Program) (e : Env) (R : Room) (s : State) (m : MethodId) (args : Array Value) (below : List Frame) (meth : Method) (c : Code) (H : Heap) (locs : List Loc) (cells slots : Nat) (ls : Array Slot),
    CX G Y Z d ck sk M p R s m args meth c H locs cells slots → lvl ls Y.2.2.1 L → W p G.1 e R s m args below meth c H locs cells slots (Z.2.2 below args s R) (F0 m pc ls st)
def Qc (G : Cx) (M : List ME) (sz : Nat) (Q : Option Value → List ME → Prop) : Array Value → State → Outcome → State → Prop := fun _ st o t =>
  ∃ (v : Option Value) (M' : List ME), o = .returned v ∧ Q v M' ∧ M.length ≤ M'.length ∧ PM G M' t.heap ∧ DM M' (AM M sz) ∧ va_F (AM M sz) st t
def XC (G : Cx) (M : List ME) (sz : Nat) (X : String → List ME → Prop) : String → State → State → Prop := fun E st t =>
  ∃ M' : List ME, X E M' ∧ M.length ≤ M'.length ∧ PM G M' t.heap ∧ DM M' (AM M sz) ∧ va_F (AM M sz) st t
def Pc (G : Cx) (vs : List Value) (M : List ME) (sz : Nat) : Array Value → State → Prop := fun args U =>
  args = vs.toArray ∧ U.heap.size = sz ∧ PM G M U.heap ∧ DM M (fun q => cxB G ≤ q) ∧ KW G U ∧ cxB G ≤ sz
/-- a method's contract: room in frames, cells and slots; its arguments and world; what it answers and leaves; what it throws -/
def Mt (G : Cx) (Y : MI) (d mc ms : Nat) (vs : List Value) (M : List ME) (Q : Option Value → List ME → Prop) (X : String → List ME → Prop) : Prop :=
  ∀ sz : Nat, vx_Met G.1 Y.1 (hdW Y :: GW) { frames := d, cells := mc, slots := ms, locals := 38 * d } (Pc G vs M sz) (Qc G M sz Q) (XC G M sz X) mc ms (AM M sz)
abbrev noX : String → List ME → Prop := fun _ _ => False
def ZM (G : Cx) (M : List ME) (sz : Nat) (Q : Option Value → List ME → Prop) (X : String → List ME → Prop) : ZT :=
  (M, sz, fun below args s R => vx_MQ below (Qc G M sz Q) (XC G M sz X) args s R.cells R.slots (AM M sz))
theorem Pc.blind {G : Cx} {vs : List Value} {M : List ME} {sz : Nat} : FrameBlind (Pc G vs M sz) := fun a U g mk h =>
  ⟨h.1, h.2.1, h.2.2.1, h.2.2.2.1, KW.to (s := U) h.2.2.2.2.1 (State.WarmedH.refl U) (fun _ _ _ => rfl), h.2.2.2.2.2⟩
def entL : List Value → List (Option Value)
  | [] => []
  | v :: vs => if v.category = 2 then some v :: none :: entL vs else some v :: entL vs
theorem entL_args : ∀ (vs : List Value) (n i : Nat) (v : Value), (entL vs)[i]? = some (some v) → (n + i, v) ∈ lv_args n vs
  | [], n, i, v, h => by simp [entL] at h
  | w :: vs, n, i, v, h => by
    unfold entL at h
    unfold lv_args
    split at h
    · rename_i hc
      rw [if_pos hc]
      rcases i with _ | _ | i
      · cases h; exact List.mem_cons_self
      · cases h
      · have := entL_args vs (n + 2) i v h
        rw [show n + (i + 1 + 1) = n + 2 + i by omega]
        exact List.mem_cons_of_mem _ this
    · rename_i hc
      rw [if_neg hc]
      rcases i with _ | i
      · cases h; exact List.mem_cons_self
      · have := entL_args vs (n + 1) i v h
        rw [show n + (i + 1) = n + 1 + i by omega]
        exact List.mem_cons_of_mem _ this
theorem lvl_entry (vs : List Value) {n : Nat} (h : (lg_sl vs).length ≤ n) : lvl ((lg_sl vs ++ List.replicate (n - (lg_sl vs).length) Slot.unset).toArray) n (entL vs ++ List.replicate n none) := by
  refine ⟨lv_args 0 vs, lv_entry vs h, fun i v hi => ?_⟩
  by_cases hl : i < (entL vs).length
  · rw [List.getElem?_append_left hl] at hi
    have := entL_args vs 0 i v hi
    rwa [Nat.zero_add] at this
  · rw [List.getElem?_append_right (by omega), List.getElem?_replicate] at hi
    split at hi <;> cases hi
theorem lvl.sub {ls : Array Slot} {n : Nat} {L L' : List (Option Value)} (h : lvl ls n L) (hs : ∀ (i : Nat) (v : Value), L'[i]? = some (some v) → L[i]? = some (some v)) : lvl ls n L' := by
  obtain ⟨as, h1, h2⟩ := h
  exact ⟨as, h1, fun i v hi => h2 i v (hs i v hi)⟩
theorem lvl.get {ls : Array Slot} {n : Nat} {L : List (Option Value)} (h : lvl ls n L) {i : Nat} {v : Value} (hi : L[i]? = some (some v)) : ls[i]? = some (.val v) := by
  obtain ⟨as, h1, h2⟩ := h
  exact h1.2.2 (i, v) (h2 i v hi)
/-- L' says less than L -/
def lsub : List (Option Value) → List (Option Value) → Prop
  | _, [] => True
  | [], _ :: _ => False
  | _ :: L, none :: L' => lsub L L'
  | a :: L, some v :: L' => a = some v ∧ lsub L L'
theorem lsub.get : ∀ {L L' : List (Option Value)}, lsub L L' → ∀ (i : Nat) (v : Value), L'[i]? = some (some v) → L[i]? = some (some v)
  | _, [], _, i, v, h => by simp at h
  | [], _ :: _, hs, _, _, _ => hs.elim
  | a :: L, none :: L', hs, i, v, h => by
    rcases i with _ | i
    · cases h
    · exact lsub.get (L := L) (L' := L') hs i v h
  | a :: L, some w :: L', hs, i, v, h => by
    rcases i with _ | i
    · have h : some (some w) = some (some v) := h
      cases h
      exact congrArg some hs.1
    · exact lsub.get (L := L) (L' := L') hs.2 i v h
theorem v_sub {G : Cx} {Y : MI} {Z : ZT} {d ck sk pc : Nat} {L L' : List (Option Value)} {st : List Value} {M : List ME} (hs : lsub L L') (k : V G Y Z d ck sk pc L' st M) : V G Y Z d ck sk pc L st M :=
  fun p e R s m args below meth c H locs cells slots ls C hl => k p e R s m args below meth c H locs cells slots ls C (hl.sub hs.get)
/-- as vx_ofW, for a method that no entry of the machine's own stands for -/
theorem vx_ofWF {l : Launch} {y : MethodName} {ws ws' : List Cond} {rm : Room} {P0 : Array Value → State → Prop} {Q0 : Array Value → State → Outcome → State → Prop} {X0 : String → State → State → Prop} {mc ms : Nat} {free : Addr → Prop} {cc : ByteArray} {maxL : Nat} {ret : Option FieldType}
    (hy : plainFor y = true) (hw : ws = Cond.code y cc maxL ret :: ws')
    (body : ∀ p e s m args below meth c s₁, BodyLoose p l y (headSpec ws rm) cc maxL ret e s m args below meth c s₁ → c.maxLocals = maxL → (∀ x ∈ c.exceptionTable.toList, False) → P0 args s →
      W p l e (headSpec ws rm).room s m args below meth c s.heap [] 0 0 (vx_MQ below Q0 X0 args s mc ms free) (entryFrame m args maxL)) : vx_Met l y ws rm P0 Q0 X0 mc ms free := by
  refine MetFree.of_bodySF (code := cc) (maxLocals := maxL) (ret := ret) hy ?_ ?_
  · intro args s m h hn
    obtain ⟨meth, c, h1, h2, h3, h4, h5, h6, -, -⟩ := Cond.code_spec hn (atoms_spec (ws := ws) h _ (by rw [hw]; exact List.mem_cons_self))
    exact ⟨meth, c, h1, h2, h3, h4, h5, h6⟩
  · intro p e s m args below meth c s₁ B hml hP _
    have hh0 : s₁.heap = s.heap := by rw [B.state]; rfl
    have ht : ∀ x ∈ c.exceptionTable.toList, False := by
      obtain ⟨meth9, c9, h1, h2, -, -, -, -, h7, -⟩ := Cond.code_spec B.named (atoms_spec (ws := ws) B.pre _ (by rw [hw]; exact List.mem_cons_self))
      cases Option.some.inj (h1.symm.trans B.method)
      cases Option.some.inj (h2.symm.trans (Stand.of_body B).code)
      intro x hx
      rw [Array.isEmpty_iff.mp h7] at hx
      cases hx
    obtain ⟨t, a1, o, b1, b2, b3⟩ := body p e s m args below meth c s₁ B hml ht hP s₁ hh0 (Stand.of_body B)
    exact ⟨t, o, a1, b1, b2, b3⟩
/-- a contract out of the walk of its body: no handlers -/
theorem Mt.of {G : Cx} {Y : MI} {d mc ms : Nat} {vs : List Value} {M : List ME} {Q : Option Value → List ME → Prop} {X : String → List ME → Prop} {L : List (Option Value)} (hT : Y.2.2.2.2 = []) (hy : plainFor Y.1 = true) (hn : (lg_sl vs).length ≤ Y.2.2.1) (hL : lsub (entL vs ++ List.replicate Y.2.2.1 none) L)
    (body : ∀ sz : Nat, V G Y (ZM G M sz Q X) d mc ms 0 L [] M) : Mt G Y d mc ms vs M Q X := by
  intro sz
  have hh : hdW Y = .code Y.1 Y.2.1 Y.2.2.1 Y.2.2.2.1 := by unfold hdW; rw [hT]
  refine vx_ofWF (cc := Y.2.1) (maxL := Y.2.2.1) (ret := Y.2.2.2.1) (ws' := GW) hy (by rw [hh]) ?_
  intro p e s m args below meth c s₁ B hml ht hv
  obtain ⟨rfl, hsz, hP, hD, hK, hb⟩ := hv
  have hts := atoms_spec (ws := hdW Y :: GW) B.pre
  rw [lg_entry_eq]
  refine body sz p e _ s m _ below meth c s.heap [] 0 0 _ ⟨⟨B.exec, B.bytes, hml, B.returns, B.notSynchronized, findClass_of_methodNamed B.named, fun w hw => hts w (List.mem_cons_of_mem _ hw), hK, ?_, (name_of_methodNamed B.named B.method).1⟩, ⟨hsz, hb, Nat.le_refl _, Nat.le_refl _, by show 0 + mc ≤ mc; omega, by show 0 + ms ≤ ms; omega⟩, hP, hD.self sz, va_S.rf, ?_⟩ ((lvl_entry vs hn).sub hL.get)
  · rw [hT]
    cases hq : c.exceptionTable.toList with
    | nil => rfl
    | cons x t => exact (ht x (by rw [hq]; exact List.mem_cons_self)).elim
  · intro q hq
    rcases hq with ⟨k, e9, hk, hm⟩ | hq
    · exact hD.2.2 k e9 q hk hm
    · exact Nat.le_trans hb hq
