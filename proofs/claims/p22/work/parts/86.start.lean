/-! THE CLAIM OUT OF ONE WALK OF THE LAW'S BODY. Your part is whole_start (and what it stands on); all else here is the same for every law, but numbers. -/
def R_law : String := "SleighPostLaw"
def lw_P (b : Addr) (xs : List Int32) (args : Array Value) (s : State) : Prop := args = #[.ref b] ∧ s.IntsAt b xs ∧ xs.length ≤ 260 ∧ (Jvm.Cond.and given_1 narrow_1).before args s = true
def lw_Q (_ : Array Value) (s : State) (o : Outcome) (t : State) : Prop := o = .returned (some (.int 1)) ∧ Framed s o t [] 967469 6199290
def lw_Z (below : List Frame) (a : Array Value) (s : State) : State → Prop := fun t => ∃ o, t.status = .running ∧ Ended t below o ∧ lw_Q a s o t
/-- the law's own end, with 1 on the stack, nothing written that was there before, its room as the claim has it -/
theorem lw_ret {p : Program} {l : Launch} {e : Env} {s : State} {m : MethodId} {below : List Frame} {meth : Method} {c : Code} {b : Nat} (hx : p.tables.exec = Jvm.exec) (hb : c.code = code) (hr : meth.sig.returnType = ret) (hlocks : meth.locks = false) {pc : Nat} {H : Heap} {ls : Array Slot} (hdg : decode code pc = .ok (.ireturn, 1)) : W p l e room_1 s m #[Value.ref b] below meth c H [] 967469 6199290 (lw_Z below #[Value.ref b] s) (F0 m pc ls [.int 1]) := by
  intro T hT X
  obtain ⟨fs, hret, hrun, hended, hW, hframe⟩ := X.leave (v := some (.int 1)) (hlocks := hlocks) (fun h => by rw [hr] at h; cases h)
  have hmeth' : T.vm.method? m = some meth := X.method'
  refine ⟨T.setFrames fs, ?_, .returned (some (.int 1)), hrun, hended, rfl, ⟨_, rfl⟩, hW, hframe⟩
  jvm_step X.here [X.here.top, hx, hb, hdg, hmeth', hr, ret, narrow_b1]
  (try refine ⟨rfl, ?_⟩); (try refine ⟨rfl, ?_⟩)
  first | (intro acts; rw [hret _ acts rfl rfl rfl]) | rw [hret _ _ rfl rfl rfl]
  exact Steps.refl _
/-- what holds at the law's entry: the machine, the code, the tables' words (any of lw_tbl by 'hts w (by decide +kernel)'), the script of L ints xs at the cell b, what the Statement gives of the start (any of its parts by flat_of_before) -/
def lw_At (p : Program) (s : State) (m : MethodId) (meth : Method) (c : Code) (b L : Nat) (xs : Nat → Int32) : Prop :=
  p.tables.exec = Jvm.exec ∧ c.code = code ∧ meth.sig.returnType = ret ∧ c.maxLocals = 26 ∧ s.vm.findClass R_law = some m.cls ∧ (∀ w ∈ lw_tbl, w.before #[Value.ref b] s = true) ∧ va_X b L xs s s.heap ∧ b < s.heap.size ∧ meth.locks = false ∧ (Jvm.Cond.and given_1 narrow_1).before #[Value.ref b] s = true
/-! the law, from its entry -/
set_option maxRecDepth 100000 in
set_option maxHeartbeats 4000000 in
theorem lw_body {G : Cx} {nm : String} {hd9 : List (Nat × Nat × Nat × Nat)} {sz : Nat} (hL31 : G.2.2.2.2.2.1 < 2 ^ 31) : V G (YL nm hd9) (ZM G [] sz (fun v _ => v = some (.int 1)) noX) 9 (967469) (6199290) 0 [some (.ref G.2.2.2.1), none, none, none, none, none, none, none, none, none, none, none, none, none, none, none, none, none, none, none, none, none, none, none, none, none] [] ([]) := by
  refine v_new (pc := 0) (ci := 5) (fs := [.null, .null]) rfl layX5 tyX5_ok q18 q19 q1 (fun j hj => by (have hj2 : j = 0 ∨ j = 1 := by omega); rcases hj2 with rfl | rfl <;> rfl) (by omega) (by omega) dL_law_0 (fun z0 => ?_)
  try dsimp only [wb, WH, tlS_0, tlS_1, tlS_2, tlS_3, tlS_4, tlS_5, tlS_6, tlS_7, tlS_8, tlC_0, tlC_1, tlC_2, tlC_3, LawM, LakeM, WaysM, WorldM, SimM, List.set_cons_succ, List.set_cons_zero, List.append_nil, List.nil_append, List.cons_append, Option.toList, Nat.sub_zero, List.take_succ_cons, List.take_zero]
  refine v_dup (pc := 3) dL_law_3 rfl ?_
  refine v_callI0 (pc := 4) (c_X5_init ) cm_X5_init rfl rfl q20 q21 [0] (by rfl) (by decide) (fun _ _ h => h) (by omega) (by omega) (by decide) (Nat.le_of_ble_eq_true rfl) dL_law_4 (fun v4 M4 hQ4 => ?_)
  obtain ⟨rfl, w4, u4, rfl⟩ := hQ4
  try dsimp only [wb, WH, tlS_0, tlS_1, tlS_2, tlS_3, tlS_4, tlS_5, tlS_6, tlS_7, tlS_8, tlC_0, tlC_1, tlC_2, tlC_3, LawM, LakeM, WaysM, WorldM, SimM, List.set_cons_succ, List.set_cons_zero, List.append_nil, List.nil_append, List.cons_append, Option.toList, Nat.sub_zero, List.take_succ_cons, List.take_zero]
  refine v_astore_nR (pc := 7) dL_law_7 rfl (by show _ < 26; decide) rfl ?_
  refine v_aload_nR (pc := 8) dL_law_8 rfl rfl ?_
  refine v_aload_nR (pc := 9) dL_law_9 rfl rfl ?_
  refine v_callS2 (pc := 10) (c_L_build hL31) cm_L_build q626 q627 [0, 1, 2, 3, 4, 5, 6, 7, 8, 9, 10, 11, 12, 13, 14, 15, 16, 17] (by rfl) (by decide) (fun _ _ h => h) (by omega) (by omega) (by decide) (Nat.le_of_ble_eq_true rfl) dL_law_10 (fun v10 M10 hQ10 => ?_)
  obtain ⟨v10, xs10, bs10, T9, N9, S9, C9, O9, ch9, PC9, SF9, BF9, ps, sc, bc, MX9, H9, D9, rfl, ⟨hp1, hs14, hb8⟩, hI, rfl⟩ := hQ10
  try dsimp only [wb, WH, tlS_0, tlS_1, tlS_2, tlS_3, tlS_4, tlS_5, tlS_6, tlS_7, tlS_8, tlC_0, tlC_1, tlC_2, tlC_3, LawM, LakeM, WaysM, WorldM, SimM, List.set_cons_succ, List.set_cons_zero, List.append_nil, List.nil_append, List.cons_append, Option.toList, Nat.sub_zero, List.take_succ_cons, List.take_zero]
  refine v_astore_nR (pc := 13) dL_law_13 rfl (by show _ < 26; decide) rfl ?_
  refine v_aload_nR (pc := 14) dL_law_14 rfl rfl ?_
  refine v_ifnonnullR (pc := 15) (tgt := 20) dL_law_15 (by decide) ?_
  refine v_aload_nR (pc := 20) dL_law_20 rfl rfl ?_
  refine v_get (pc := 21) 7 35 fg_L_78 rfl rfl dL_law_21 ?_
  refine v_alen (pc := 24) 42 (v := nI sc) rfl (fun _ => rfl) rfl dL_law_24 ?_
  refine v_istore_n (pc := 25) dL_law_25 rfl (by show _ < 26; decide) rfl ?_
  refine v_aload_nR (pc := 26) dL_law_26 rfl rfl ?_
  refine v_get (pc := 27) 8 35 fg_L_107 rfl rfl dL_law_27 ?_
  refine v_alen (pc := 30) 43 (v := nI bc) rfl (fun _ => rfl) rfl dL_law_30 ?_
  refine v_istore (pc := 31) dL_law_31 (by show _ < 26; decide) rfl ?_
  refine v_iconst (pc := 33) (v := 0) dL_law_33 rfl ?_
  refine v_istore (pc := 34) dL_law_34 (by show _ < 26; decide) rfl ?_
  refine v_room (ck' := 3000 * 48) (sk' := 20000 * 48) (by omega) (by omega) ?_
  have k9 := lw_loop (G := G) (sz := sz) (nm := nm) (hd9 := hd9) (g0 := z0) (w := w4) (u := u4) (v := v10) (xs := xs10) (bs := bs10) (n5 := 5) rfl hL31 48 0 (fun _ => 0) (fun _ => 0) (fun _ => 0) 0 .null 0 0 T9 N9 S9 C9 (fun _ => 0) O9 ch9 PC9 SF9 BF9 ps sc bc (fun _ => 0) (fun _ => 0) (fun _ => 0) 0 .null 0 0 (fun _ => 30) (fun _ => 1) (fun _ => 0) (fun _ => 0) (fun _ => 0) (fun _ => 5) 0 (fun _ => 0) (fun _ _ => 0) (fun _ _ => 0) 0 0 0 MX9 H9 D9 (by omega) ⟨hp1, hs14, hb8⟩ (hI.more (by omega))
  refine v_sub ?_ k9
  exact ⟨rfl, rfl, rfl, rfl, rfl, rfl, trivial⟩
def K8 {α : Type} (a b c d e f g h : α) : Nat → α
  | 0 => a
  | 1 => b
  | 2 => c
  | 3 => d
  | 4 => e
  | 5 => f
  | 6 => g
  | _ => h
theorem nw_of {A : Array Value} {U : State} {w : Cond} (hw : w ∈ NW) (h : w.before A U = true) : va_Nw w U := by
  have hg : ngW w = true := (List.mem_filter.mp hw).2
  cases w with
  | fieldLinkNest a i b n d h9 => exact va_Nw.of rfl h
  | methodLinkNest a i x h9 => exact va_Nw.of rfl h
  | castable a b => exact va_Nw.of rfl h
  | declares x => exact va_Nw.of rfl h
  | arrayOver ty => exact h
  | _ => cases hg
theorem str_tab : ∀ q ∈ STR, Cond.stringRef q.1 q.2.1 q.2.2 ∈ lw_tbl ∧ q.1 = "SleighPost" := by decide +kernel
theorem nc_tab : ∀ q ∈ NC, Cond.not (.castable q.1 q.2) ∈ flatC (Jvm.Cond.and given_1 narrow_1) := by decide +kernel
theorem arr_of {args : Array Value} {s : State} {ty : FieldType} (h : (Cond.arrayClass ty).before args s = true) : ∃ c : ClassId, ArrOfT s c ty ∧ s.vm.findClass ("[" ++ ty.toString) = some c := by
  obtain ⟨c, k, comp, h1, h2, h3⟩ := Cond.arrayClass_spec h
  exact ⟨c, fun n z => ⟨fun k h => (by cases h), k, h2, comp, h3⟩, h1⟩
theorem arr_ob {args : Array Value} {s : State} {C : String} (h : (Cond.arrayOver (.object C)).before args s = true) : ∃ c : ClassId, ArrOfT s c (.object C) ∧ va_RA s c (.object C) := by
  obtain ⟨comp, c, k, h1, h2, h3, h4, h5⟩ := Cond.arrayOver_spec h
  exact ⟨c, fun n z => ⟨fun k h => (by cases h), k, h3, comp, h4⟩, k, comp, h3, h4, h1, h5⟩
theorem arr_ar {args : Array Value} {s : State} (h : (Cond.arrayOver (.array .int)).before args s = true) : ∃ c : ClassId, ArrOfT s c (.array .int) ∧ s.vm.findClass ("[" ++ (FieldType.array .int).toString) = some c := by
  obtain ⟨comp, c, k, h1, h2, h3, h4, h5⟩ := arrayOverA_spec h
  exact ⟨c, fun n z => ⟨fun k h => (by cases h), k, h3, comp, h4⟩, h5⟩
set_option maxRecDepth 100000 in
theorem lw_known {s : State} {b L : Nat} {xs : Nat → Int32} (l : Launch) (hflags : l.flags = flags0) (hts : ∀ w ∈ lw_tbl, w.before #[Value.ref b] s = true) (hX : va_X b L xs s s.heap) (hbl : b < s.heap.size) (hgv : (Jvm.Cond.and given_1 narrow_1).before #[Value.ref b] s = true) :
    ∃ (D : va_G) (ids : Nat → ClassId), KW (l, D, ids, b, s.heap.size, L, xs) s := by
  have hG : ∀ w ∈ GW, w.before #[Value.ref b] s = true := fun w hw => hts w (List.mem_filter.mp hw).1
  have hN : ∀ w ∈ NW, w.before #[Value.ref b] s = true := fun w hw => hts w (List.mem_append_right _ (List.mem_filter.mp hw).1)
  have hfl := flat_of_before _ hgv
  obtain ⟨d0, e0, k0⟩ := u_known (n := 5) hG layX0 (hG _ q143)
  obtain ⟨d1, e1, k1⟩ := u_known (n := 7) hG layX1 (hG _ q62)
  obtain ⟨d2, e2, k2⟩ := u_known (n := 9) hG layX2 (hG _ q99)
  obtain ⟨d3, e3, k3⟩ := u_known (n := 7) hG layX3 (hG _ q33)
  obtain ⟨d4, e4, k4⟩ := u_known (n := 9) hG layX4 (hG _ q27)
  obtain ⟨d5, e5, k5⟩ := u_known (n := 2) hG layX5 (hG _ q19)
  obtain ⟨d6, e6, k6⟩ := u_known (n := 11) hG layX6 (hG _ q630)
  obtain ⟨d7, e7, k7⟩ := u_known (n := 7) hG layX7 (hG _ q773)
  obtain ⟨c0, t0, f0⟩ := arr_of (hG _ q60)
  obtain ⟨c1, t1, f1⟩ := arr_of (hG _ q94)
  obtain ⟨c2, t2, f2⟩ := arr_ob (hN _ q636)
  obtain ⟨c3, t3, f3⟩ := arr_ob (hN _ q96)
  obtain ⟨c4, t4, f4⟩ := arr_ob (hN _ q98)
  obtain ⟨c5, t5, f5⟩ := arr_ar (hN _ q638)
  refine ⟨(K8 d0 d1 d2 d3 d4 d5 d6 d7, K8 e0 e1 e2 e3 e4 e5 e6 e7), K8 c0 c1 c2 c3 c4 c5 0 0, ⟨fun c q hq => ?_, fun k q hq => ?_⟩, fun w hw => nw_of hw (hN w hw), fun q hq => ?_, ?_, ?_, hX, hbl, ?_, fun q hq => va_Nc.of (hfl _ (nc_tab q hq))⟩
  · match c, hq with
    | 0, hq => cases hq; exact k0
    | 1, hq => cases hq; exact k1
    | 2, hq => cases hq; exact k2
    | 3, hq => cases hq; exact k3
    | 4, hq => cases hq; exact k4
    | 5, hq => cases hq; exact k5
    | 6, hq => cases hq; exact k6
    | 7, hq => cases hq; exact k7
    | n + 8, hq => cases hq
  · match k, hq with
    | 0, hq => cases hq; exact ⟨t0, f0⟩
    | 1, hq => cases hq; exact ⟨t1, f1⟩
    | 2, hq => cases hq; exact ⟨t2, f2⟩
    | 3, hq => cases hq; exact ⟨t3, f3⟩
    | 4, hq => cases hq; exact ⟨t4, f4⟩
    | 5, hq => cases hq; exact ⟨t5, f5⟩
    | n + 6, hq => cases hq
  · obtain ⟨hm, ho⟩ := str_tab q hq
    have h1 : (Cond.stringRef q.1 q.2.1 q.2.2).before #[] s = true := hts _ hm
    have hc : s.vm.findClass q.1 = some d5 := by
      rw [ho]
      exact k5.2.1
    obtain ⟨kk, cf, i, a, -, -, -, -, -, h6⟩ := Cond.stringRef_spec hc h1
    exact ⟨a, vk_R.of h1 h6⟩
  · exact vx_Zqof (hts _ (by decide +kernel)) (hts _ (by decide +kernel)) (hfl _ (by decide +kernel)) (fun a ha => Nat.not_le.mpr ha)
  · exact vx_Zqof (hts _ (by decide +kernel)) (hts _ (by decide +kernel)) (hfl _ (by decide +kernel)) (fun a ha => Nat.not_le.mpr ha)
  · show l.stackTraces = false
    unfold Launch.stackTraces
    rw [hflags]
    decide +kernel
theorem tab_self (l : List ExceptionTableEntry) : l = tableOf (l.map fun e => (e.startPc, e.endPc, e.handlerPc, e.catchType)) := by
  unfold tableOf
  rw [List.map_map]
  exact (List.map_id l).symm
set_option maxRecDepth 100000 in
theorem whole_start {p : Program} {e : Env} {s : State} {m : MethodId} {below : List Frame} {meth : Method} {c : Code} (l : Launch) (hflags : l.flags = flags0) {b L : Nat} {xs : Nat → Int32} (hL : L ≤ 260) (C0 : lw_At p s m meth c b L xs) : W p l e room_1 s m #[Value.ref b] below meth c s.heap [] 0 0 (lw_Z below #[Value.ref b] s) (entryFrame m ([Value.ref b] : List Value).toArray 26) := by
  obtain ⟨hx, hb, hr, hml, hown, hts, hX, hbl, hlocks, hgv⟩ := id C0
  obtain ⟨D, ids, hK⟩ := lw_known l hflags hts hX hbl hgv
  have hV := lw_body (G := (l, D, ids, b, s.heap.size, L, xs)) (nm := meth.name) (hd9 := c.exceptionTable.toList.map fun e => (e.startPc, e.endPc, e.handlerPc, e.catchType)) (sz := s.heap.size) (Nat.lt_of_le_of_lt hL (by decide))
  rw [lg_entry_eq]
  have hl := lvl_entry ([.ref b]) (n := 26) (Nat.le_of_ble_eq_true rfl)
  have hD : DM [] (AM [] s.heap.size) := ⟨(fun i j e e' q h => by cases h), (fun k e h => by cases h), (fun k e q h => by cases h)⟩
  have hA : ∀ q, AM [] s.heap.size q → s.heap.size ≤ q := by
    intro q hq
    rcases hq with ⟨k, e9, hk, -⟩ | hq
    · cases hk
    · exact hq
  have hP : PM (l, D, ids, b, s.heap.size, L, xs) [] s.heap := by
    intro k e h
    cases h
  have hls : lsub (entL [Value.ref b] ++ List.replicate 26 none) [some (.ref b), none, none, none, none, none, none, none, none, none, none, none, none, none, none, none, none, none, none, none, none, none, none, none, none, none] := ⟨rfl, trivial⟩
  have hW := hV p e room_1 s m #[Value.ref b] below meth c s.heap [] 0 0 _ ⟨⟨hx, hb, hml, hr, hlocks, hown, fun w hw => hts w (List.mem_filter.mp hw).1, hK, tab_self _, rfl⟩, ⟨rfl, Nat.le_refl _, Nat.le_of_ble_eq_true rfl, Nat.le_of_ble_eq_true rfl, Nat.le_of_ble_eq_true rfl, Nat.le_of_ble_eq_true rfl⟩, hP, hD, va_S.rf, hA⟩ (hl.sub hls.get)
  intro T hT X9
  obtain ⟨t, a1, o, b1, b2, b3⟩ := hW T hT X9
  refine ⟨t, a1, o, b1, b2, ?_⟩
  rcases b3 with ⟨⟨v, M', ho, hQ, -⟩, L9, hF, hfr⟩ | ⟨q, hq, E, ce, L9, ⟨M', hfalse, -⟩, -⟩
  · have ho2 : o = .returned (some (.int 1)) := by rw [ho, hQ]
    refine ⟨ho2, ⟨_, ho2⟩, hF.2.1, State.sameButNew.drop_fresh (L := []) (J := L9) hF.2.2 (fun z hz => ?_)⟩
    exact hA _ (hfr z hz)
  · exact absurd hfalse id
