/-! THE CLAIM OUT OF ONE WALK OF THE LAW'S BODY. Your part is whole_start (and what it stands on); all else here is the same for every law, but numbers. -/
def R_law : String := "SleighPostLaw"
def lw_P (b : Addr) (xs : List Int32) (args : Array Value) (s : State) : Prop := args = #[.ref b] ∧ s.IntsAt b xs ∧ xs.length ≤ 3072 ∧ (Jvm.Cond.and given_1 narrow_1).before args s = true
/-- what a walk over the start with the record d0 says of its end, said of the start itself -/
theorem lw_closed {s t : State} {o : Outcome} {d0 : Drawn} {L : List Loc} {k n : Nat} (hd0 : s.drawn.sameBut d0 lw_cs) (hv : ∃ v, o = .returned v) (hW : (s.setDrawn d0).WarmedH t.vm) (hs : (s.setDrawn d0).sameButNew ({ t with vm := s.vm } : State) L k n) : State.butDraws s t lw_cs (fun t1 => Framed s o t1 L k n) := by
  have h2 : t.drawn = d0 := congrArg State.drawn hs.1
  refine ⟨⟨hv, hW, State.sameButNew.setDrawn hs s.drawn⟩, ?_, by decide⟩
  rw [h2]
  exact hd0
def lw_Q (_ : Array Value) (s : State) (o : Outcome) (t : State) : Prop := o = .returned (some (.int 1)) ∧ State.butDraws s t lw_cs (fun t1 => Framed s o t1 [] 601024 7293034)
def lw_Z (below : List Frame) (a : Array Value) (s : State) : State → Prop := fun t => ∃ o, t.status = .running ∧ Ended t below o ∧ lw_Q a s o t
/-- the law's own end, with 1 on the stack, nothing written that was there before, its room as the claim has it; d0: the record of draws at this point (at the entry s.drawn: begin with 'refine W.base ?_' and 'have hd0 := Drawn.sameBut.refl s.drawn lw_cs') -/
theorem lw_ret {p : Program} {l : Launch} {e : Env} {s : State} {m : MethodId} {below : List Frame} {meth : Method} {c : Code} {b : Nat} {d0 : Drawn} (hd0 : s.drawn.sameBut d0 lw_cs) (hx : p.tables.exec = Jvm.exec) (hb : c.code = code) (hr : meth.sig.returnType = ret) (hlocks : meth.locks = false) {pc : Nat} {H : Heap} {ls : Array Slot} (hdg : decode code pc = .ok (.ireturn, 1)) : W p l e room_1 (s.setDrawn d0) m #[Value.ref b] below meth c H [] 601024 7293034 (lw_Z below #[Value.ref b] s) (F0 m pc ls [.int 1]) := by
  intro T hT X
  obtain ⟨fs, hret, hrun, hended, hW, hframe⟩ := X.leave (v := some (.int 1)) (hlocks := hlocks) (fun h => by rw [hr] at h; cases h)
  have hmeth' : T.vm.method? m = some meth := X.method'
  refine ⟨T.setFrames fs, ?_, .returned (some (.int 1)), hrun, hended, rfl, lw_closed hd0 ⟨_, rfl⟩ hW hframe⟩
  jvm_step X.here [X.here.top, hx, hb, hdg, hmeth', hr, ret, narrow_b1]
  (try refine ⟨rfl, ?_⟩); (try refine ⟨rfl, ?_⟩)
  first | (intro acts; rw [hret _ acts rfl rfl rfl]) | rw [hret _ _ rfl rfl rfl]
  exact Steps.refl _
/-- what holds at the law's entry: the machine, the code, the tables' words (any of lw_tbl by 'hts w (by decide +kernel)'), the script of L ints xs at the cell b, what the Statement gives of the start (any of its parts by flat_of_before) -/
def lw_At (p : Program) (s : State) (m : MethodId) (meth : Method) (c : Code) (b L : Nat) (xs : Nat → Int32) : Prop :=
  p.tables.exec = Jvm.exec ∧ c.code = code ∧ meth.sig.returnType = ret ∧ c.maxLocals = 9 ∧ s.vm.findClass R_law = some m.cls ∧ (∀ w ∈ lw_tbl, w.before #[Value.ref b] s = true) ∧ va_X b L xs s s.heap ∧ b < s.heap.size ∧ meth.locks = false ∧ (Jvm.Cond.and given_1 narrow_1).before #[Value.ref b] s = true
/-! the law's own rows: its script, its world -/
section VSCR
variable {G : Cx} {Y : MI} {Z : ZT} {d ck sk pc : Nat} {L : List (Option Value)} {st : List Value} {M : List ME}
theorem v_slen (hd : decode Y.2.1 pc = .ok (.arraylength, 1)) (kk : V G Y Z d ck sk (pc + 1) L (.int (Int32.ofNat G.2.2.2.2.2.1) :: st) M) : V G Y Z d ck sk pc L (.ref G.2.2.2.1 :: st) M := by
  intro p e2 R s m args below meth c H locs cells slots ls C hl
  have hK := C.1.2.2.2.2.2.2.2.1
  have hb := hK.2.2.2.2.2.2.1
  refine va_slen (A := AM Z.1 Z.2.1) C.1.1 C.1.2.1 hK.2.2.2.2.2.1 (Nat.lt_of_lt_of_le hb (by rw [C.2.1.1]; exact C.2.1.2.1)) (fun q => absurd (C.2.2.2.2.2 _ q) (Nat.not_le.mpr hb)) C.2.2.2.2.1 hd (kk p e2 R s m args below meth c H locs cells slots ls C hl)
theorem v_sld {k : Nat} (hk : k < G.2.2.2.2.2.1) (hn : G.2.2.2.2.2.1 < 2 ^ 31) (hd : decode Y.2.1 pc = .ok (.iaload, 1)) (kk : V G Y Z d ck sk (pc + 1) L (.int (G.2.2.2.2.2.2 k) :: st) M) : V G Y Z d ck sk pc L (.int (nI k) :: .ref G.2.2.2.1 :: st) M := by
  intro p e2 R s m args below meth c H locs cells slots ls C hl
  have hK := C.1.2.2.2.2.2.2.2.1
  have hb := hK.2.2.2.2.2.2.1
  refine va_sld (A := AM Z.1 Z.2.1) C.1.1 C.1.2.1 hK.2.2.2.2.2.1 (Nat.lt_of_lt_of_le hb (by rw [C.2.1.1]; exact C.2.1.2.1)) (fun q => absurd (C.2.2.2.2.2 _ q) (Nat.not_le.mpr hb)) C.2.2.2.2.1 (vp_in_nI hk hn) hd ?_
  rw [nI_clamp (Nat.lt_trans hk hn)]
  exact kk p e2 R s m args below meth c H locs cells slots ls C hl
end VSCR
abbrev YL (nm : String) (hd : List (Nat × Nat × Nat × Nat)) : MI := (⟨RL, nm, "([I)Z"⟩, cL_law, 9, some (.boolean), hd)
theorem lgc (x : Int64) : lg_cmp x x = 0 := by
  unfold lg_cmp
  first | (rw [if_neg (Int64.lt_irrefl x), if_pos rfl]) | simp
abbrev LawM (g0 y0 : Nat) (w u z : Nat → Nat) (a b f : Nat → Int32) (wa : Int32) (lr : Value) (nd dg : Int32) (B : Nat → Int32) (T N S C O : Nat → Int32) (ch : Int32) (PC : Nat → Int32) (SF BF : Nat → Nat → Int32) (ps sc bc hh : Nat) (a2 b2 f2 : Nat → Int32) (wa2 : Int32) (lr2 : Value) (nd2 dg2 : Int32) (T2 N2 S2 C2 B2 O2 : Nat → Int32) (ch2 : Int32) (PC2 : Nat → Int32) (SF2 BF2 : Nat → Nat → Int32) (ps2 sc2 hh2 : Nat) (th : Int32) (MX H W : Nat → Int32) (o : Nat → Int64) : List ME :=
  eO 5 g0 [.ref (w 0), .ref (u 0)] :: (WorldM w a b f wa lr nd dg T N S C B O ch PC SF BF ps sc bc hh ++ (WorldM u a2 b2 f2 wa2 lr2 nd2 dg2 T2 N2 S2 C2 B2 O2 ch2 PC2 SF2 BF2 ps2 sc2 0 hh2 ++ (ModelM z th N O PC ps sc bc T S C SF MX BF hh H W ++ [eJ y0 1 o])))
