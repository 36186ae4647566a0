/-! the law, from its entry -/
def K7 {α : Type} (a b c d e f g : α) : Nat → α
  | 0 => a
  | 1 => b
  | 2 => c
  | 3 => d
  | 4 => e
  | 5 => f
  | _ => g
theorem nw_of {A : Array Value} {U : State} {w : Cond} (hw : w ∈ NW) (h : w.before A U = true) : va_Nw w U := by
  have hg : ngW w = true := (List.mem_filter.mp hw).2
  cases w with
  | fieldLinkNest a i b n d h9 => exact va_Nw.of rfl h
  | methodLinkNest a i x h9 => exact va_Nw.of rfl h
  | castable a b => exact va_Nw.of rfl h
  | declares x => exact va_Nw.of rfl h
  | arrayOver ty => exact h
  | _ => cases hg
theorem str_tab : ∀ q ∈ STR, Cond.stringRef q.1 q.2.1 q.2.2 ∈ lw_tbl ∧ q.1 = "SleighPost" := by decide +kernel
theorem nc_tab : ∀ q ∈ NC, Cond.not (.castable q.1 q.2) ∈ flatC (Jvm.Cond.and given_1 narrow_1) := by decide +kernel
theorem arr_of {args : Array Value} {s : State} {ty : FieldType} (h : (Cond.arrayClass ty).before args s = true) : ∃ c : ClassId, ArrOfT s c ty ∧ s.vm.findClass ("[" ++ ty.toString) = some c := by
  obtain ⟨c, k, comp, h1, h2, h3⟩ := Cond.arrayClass_spec h
  exact ⟨c, fun n z => ⟨fun k h => (by cases h), k, h2, comp, h3⟩, h1⟩
theorem arr_ob {args : Array Value} {s : State} {C : String} (h : (Cond.arrayOver (.object C)).before args s = true) : ∃ c : ClassId, ArrOfT s c (.object C) ∧ va_RA s c (.object C) := by
  obtain ⟨comp, c, k, h1, h2, h3, h4, h5⟩ := Cond.arrayOver_spec h
  exact ⟨c, fun n z => ⟨fun k h => (by cases h), k, h3, comp, h4⟩, k, comp, h3, h4, h1, h5⟩
theorem arr_ar {args : Array Value} {s : State} (h : (Cond.arrayOver (.array .int)).before args s = true) : ∃ c : ClassId, ArrOfT s c (.array .int) ∧ s.vm.findClass ("[" ++ (FieldType.array .int).toString) = some c := by
  obtain ⟨comp, c, k, h1, h2, h3, h4, h5⟩ := arrayOverA_spec h
  exact ⟨c, fun n z => ⟨fun k h => (by cases h), k, h3, comp, h4⟩, h5⟩
set_option maxRecDepth 100000 in
theorem lw_known {s : State} {b L : Nat} {xs : Nat → Int32} (l : Launch) (hflags : l.flags = flags0) (hts : ∀ w ∈ lw_tbl, w.before #[Value.ref b] s = true) (hX : va_X b L xs s s.heap) (hbl : b < s.heap.size) (hgv : (Jvm.Cond.and given_1 narrow_1).before #[Value.ref b] s = true) :
    ∃ (D : va_G) (ids : Nat → ClassId), KW (l, D, ids, b, s.heap.size, L, xs) s := by
  have hG : ∀ w ∈ GW, w.before #[Value.ref b] s = true := fun w hw => hts w (List.mem_filter.mp hw).1
  have hN : ∀ w ∈ NW, w.before #[Value.ref b] s = true := fun w hw => hts w (List.mem_append_right _ (List.mem_filter.mp hw).1)
  have hfl := flat_of_before _ hgv
  obtain ⟨d0, e0, k0⟩ := u_known (n := 5) hG layX0 (hG _ q142)
  obtain ⟨d1, e1, k1⟩ := u_known (n := 7) hG layX1 (hG _ q61)
  obtain ⟨d2, e2, k2⟩ := u_known (n := 9) hG layX2 (hG _ q98)
  obtain ⟨d3, e3, k3⟩ := u_known (n := 7) hG layX3 (hG _ q32)
  obtain ⟨d4, e4, k4⟩ := u_known (n := 9) hG layX4 (hG _ q26)
  obtain ⟨d5, e5, k5⟩ := u_known (n := 2) hG layX5 (hG _ q18)
  obtain ⟨d6, e6, k6⟩ := u_known (n := 15) hG layX6 (hG _ q797)
  obtain ⟨c0, t0, f0⟩ := arr_of (hG _ q59)
  obtain ⟨c1, t1, f1⟩ := arr_of (hG _ q93)
  obtain ⟨c2, t2, f2⟩ := arr_of (hG _ q1067)
  obtain ⟨c3, t3, f3⟩ := arr_ob (hN _ q95)
  obtain ⟨c4, t4, f4⟩ := arr_ob (hN _ q97)
  obtain ⟨c5, t5, f5⟩ := arr_ar (hN _ q1042)
  refine ⟨(K7 d0 d1 d2 d3 d4 d5 d6, K7 e0 e1 e2 e3 e4 e5 e6), K7 c0 c1 c2 c3 c4 c5 0, ⟨fun c q hq => ?_, fun k q hq => ?_⟩, fun w hw => nw_of hw (hN w hw), fun q hq => ?_, ?_, ?_, hX, hbl, ?_, fun q hq => va_Nc.of (hfl _ (nc_tab q hq))⟩
  · match c, hq with
    | 0, hq => cases hq; exact k0
    | 1, hq => cases hq; exact k1
    | 2, hq => cases hq; exact k2
    | 3, hq => cases hq; exact k3
    | 4, hq => cases hq; exact k4
    | 5, hq => cases hq; exact k5
    | 6, hq => cases hq; exact k6
    | n + 7, hq => cases hq
  · match k, hq with
    | 0, hq => cases hq; exact ⟨t0, f0⟩
    | 1, hq => cases hq; exact ⟨t1, f1⟩
    | 2, hq => cases hq; exact ⟨t2, f2⟩
    | 3, hq => cases hq; exact ⟨t3, f3⟩
    | 4, hq => cases hq; exact ⟨t4, f4⟩
    | 5, hq => cases hq; exact ⟨t5, f5⟩
    | n + 6, hq => cases hq
  · obtain ⟨hm, ho⟩ := str_tab q hq
    have h1 : (Cond.stringRef q.1 q.2.1 q.2.2).before #[] s = true := hts _ hm
    have hc : s.vm.findClass q.1 = some d5 := by
      rw [ho]
      exact k5.2.1
    obtain ⟨kk, cf, i, a, -, -, -, -, -, h6⟩ := Cond.stringRef_spec hc h1
    exact ⟨a, vk_R.of h1 h6⟩
  · exact vx_Zqof (hts _ (by decide +kernel)) (hts _ (by decide +kernel)) (hfl _ (by decide +kernel)) (fun a ha => Nat.not_le.mpr ha)
  · exact vx_Zqof (hts _ (by decide +kernel)) (hts _ (by decide +kernel)) (hfl _ (by decide +kernel)) (fun a ha => Nat.not_le.mpr ha)
  · show l.stackTraces = false
    unfold Launch.stackTraces
    rw [hflags]
    decide +kernel
theorem tab_self (l : List ExceptionTableEntry) : l = tableOf (l.map fun e => (e.startPc, e.endPc, e.handlerPc, e.catchType)) := by
  unfold tableOf
  rw [List.map_map]
  exact (List.map_id l).symm
set_option maxRecDepth 100000 in
theorem whole_start {p : Program} {e : Env} {s : State} {m : MethodId} {below : List Frame} {meth : Method} {c : Code} (l : Launch) (hflags : l.flags = flags0) {b L : Nat} {xs : Nat → Int32} (hL : L ≤ 3072) (C0 : lw_At p s m meth c b L xs) : W p l e room_1 s m #[Value.ref b] below meth c s.heap [] 0 0 (lw_Z below #[Value.ref b] s) (entryFrame m ([Value.ref b] : List Value).toArray 9) := by
  obtain ⟨hx, hb, hr, hml, hown, hts, hX, hbl, hlocks, hgv⟩ := id C0
  obtain ⟨D, ids, hK⟩ := lw_known l hflags hts hX hbl hgv
  have hV := lw_body (G := (l, D, ids, b, s.heap.size, L, xs)) (nm := meth.name) (hd9 := c.exceptionTable.toList.map fun e => (e.startPc, e.endPc, e.handlerPc, e.catchType)) (sz := s.heap.size) hL (Nat.lt_of_le_of_lt hL (by decide))
  rw [lg_entry_eq]
  have hl := lvl_entry ([.ref b]) (n := 9) (Nat.le_of_ble_eq_true rfl)
  have hD : DM [] (AM [] s.heap.size) := ⟨(fun i j e e' q h => by cases h), (fun k e h => by cases h), (fun k e q h => by cases h)⟩
  have hA : ∀ q, AM [] s.heap.size q → s.heap.size ≤ q := by
    intro q hq
    rcases hq with ⟨k, e9, hk, -⟩ | hq
    · cases hk
    · exact hq
  have hP : PM (l, D, ids, b, s.heap.size, L, xs) [] s.heap := by
    intro k e h
    cases h
  have hls : lsub (entL [Value.ref b] ++ List.replicate 9 none) [some (.ref b), none, none, none, none, none, none, none, none] := ⟨rfl, trivial⟩
  have hW := hV p e room_1 s m #[Value.ref b] below meth c s.heap [] 0 0 _ ⟨⟨hx, hb, hml, hr, hlocks, hown, fun w hw => hts w (List.mem_filter.mp hw).1, hK, tab_self _, rfl⟩, ⟨rfl, Nat.le_refl _, Nat.le_of_ble_eq_true rfl, Nat.le_of_ble_eq_true rfl, Nat.le_of_ble_eq_true rfl, Nat.le_of_ble_eq_true rfl⟩, hP, hD, va_S.rf, hA⟩ (hl.sub hls.get)
  intro T hT X9
  obtain ⟨t, a1, o, b1, b2, b3⟩ := hW T hT X9
  refine ⟨t, a1, o, b1, b2, ?_⟩
  rcases b3 with ⟨⟨v, M', ho, hQ, -⟩, L9, hF, hfr⟩ | ⟨q, hq, E, ce, L9, ⟨M', hfalse, -⟩, -⟩
  · have ho2 : o = .returned (some (.int 1)) := by rw [ho, hQ]
    refine ⟨ho2, lw_closed (d0 := s.drawn) (Drawn.sameBut.refl s.drawn lw_cs) ⟨_, ho2⟩ hF.2.1 (State.sameButNew.drop_fresh (L := []) (J := L9) hF.2.2 (fun z hz => ?_))⟩
    exact hA _ (hfr z hz)
  · exact absurd hfalse id
