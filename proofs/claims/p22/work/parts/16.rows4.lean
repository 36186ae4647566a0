/-! arrays of arrays, families of int arrays, clones, families that grow; shifts, Math.abs -/
theorem tsI : FieldType.int.toString = "I" := by decide +kernel
theorem tsAI : (FieldType.array .int).toString = "[I" := by decide +kernel
/-! the entries of a family of arrays -/
theorem exG_at (G : Cx) {sa : Nat → Nat} {n k i : Nat} {F : Nat → Nat → Int32} (hi : i < n) : (ex G (eG sa n k F))[i]? = some (sa i, .inl (G.2.2.1 0, k, .inl (F i))) := by
  show ((List.range n).map _)[i]? = _
  rw [List.getElem?_map, List.getElem?_range hi]
  rfl
theorem upG_row (F : Nat → Nat → Int32) (i j : Nat) (x : Int32) : upS F i j x i = upd (F i) j x := by
  funext b
  unfold upS upd
  by_cases h : b = j
  · rw [if_pos ⟨rfl, h⟩, if_pos h]
  · rw [if_neg (fun q => h q.2), if_neg h]
theorem upG_other (F : Nat → Nat → Int32) {i a : Nat} (j : Nat) (x : Int32) (h : ¬ a = i) : upS F i j x a = F a := funext fun _ => if_neg (fun q => h q.1)
theorem ex_upG (G : Cx) (sa : Nat → Nat) {n k i j : Nat} (F : Nat → Nat → Int32) (x : Int32) : ex G (eG sa n k (upS F i j x)) = (ex G (eG sa n k F)).set i (sa i, .inl (G.2.2.1 0, k, .inl (upd (F i) j x))) := by
  refine List.ext_getElem? (fun m => ?_)
  show ((List.range n).map (fun a => ((sa a, .inl (G.2.2.1 0, k, .inl (upS F i j x a))) : Nat × va_E)))[m]? = (((List.range n).map (fun a => ((sa a, .inl (G.2.2.1 0, k, .inl (F a))) : Nat × va_E))).set i (sa i, .inl (G.2.2.1 0, k, .inl (upd (F i) j x))))[m]?
  rw [List.getElem?_set, List.getElem?_map]
  by_cases hm : m < n
  · rw [List.getElem?_range hm]
    by_cases him : i = m
    · subst him
      rw [if_pos rfl, if_pos (by simpa using hm), ← upG_row]
      rfl
    · rw [if_neg him, List.getElem?_map, List.getElem?_range hm]
      show some ((sa m, .inl (G.2.2.1 0, k, .inl (upS F i j x m))) : Nat × va_E) = some (sa m, .inl (G.2.2.1 0, k, .inl (F m)))
      rw [upG_other F j x (fun q => him q.symm)]
  · have h0 : (List.range n)[m]? = none := by simp; omega
    rw [h0]
    by_cases him : i = m
    · subst him
      rw [if_pos rfl, if_neg (by simpa using hm)]
      rfl
    · rw [if_neg him, List.getElem?_map, h0]
      rfl
/-! a world out of its flat list -/
theorem ex_has {G : Cx} {e : ME} {q : Nat} (h : ma e q) : ∃ (j : Nat) (y : Nat × va_E), (ex G e)[j]? = some y ∧ y.1 = q := by
  rcases e with ⟨a, t, y⟩ | ⟨a, ci, fs⟩ | ⟨sa, n, F⟩
  · exact ⟨0, _, rfl, h.symm⟩
  · exact ⟨0, _, rfl, h.symm⟩
  · obtain ⟨i, hi, rfl⟩ := h
    have hi : i < n := hi
    refine ⟨i, (sa i, cv G (F i)), ?_, rfl⟩
    show ((List.range n).map (fun i => ((sa i, cv G (F i)) : Nat × va_E)))[i]? = _
    rw [List.getElem?_map, List.getElem?_range hi]
    rfl
theorem mi_of {G : Cx} {e : ME} (h : ∀ (i j : Nat) (x y : Nat × va_E), (ex G e)[i]? = some x → (ex G e)[j]? = some y → x.1 = y.1 → i = j) : mi e := by
  rcases e with ⟨a, t, y⟩ | ⟨a, ci, fs⟩ | ⟨sa, n, F⟩
  · exact trivial
  · exact trivial
  · intro i j hi hj hij
    have at_ : ∀ i, i < n → (ex G (.inr (.inr (sa, n, F))))[i]? = some (sa i, cv G (F i)) := fun i hi => by
      show ((List.range n).map (fun i => ((sa i, cv G (F i)) : Nat × va_E)))[i]? = _
      rw [List.getElem?_map, List.getElem?_range hi]
      rfl
    exact h i j _ _ (at_ i hi) (at_ j hj) hij
theorem DM_cons {e : ME} {M : List ME} {A : Nat → Prop} (h0 : mi e) (hA : ∀ q, ma e q → A q) (hn : ∀ (q k : Nat) (x : ME), M[k]? = some x → ma x q → ¬ ma e q) (h : DM M A) : DM (e :: M) A := by
  refine ⟨fun i j x y q hi hj h1 h2 => ?_, fun k x hk => ?_, fun k x q hk h1 => ?_⟩
  · cases i with
    | zero =>
      cases j with
      | zero => rfl
      | succ j =>
        cases hi
        exact absurd h1 (hn q j y hj h2)
    | succ i =>
      cases j with
      | zero =>
        cases hj
        exact absurd h2 (hn q i x hi h1)
      | succ j => exact congrArg Nat.succ (h.1 i j x y q hi hj h1 h2)
  · cases k with
    | zero => cases hk; exact h0
    | succ k => exact h.2.1 k x hk
  · cases k with
    | zero => cases hk; exact hA q h1
    | succ k => exact h.2.2 k x q hk h1
theorem DM_of_fl {G : Cx} {A : Nat → Prop} : ∀ {M : List ME}, va_D A (fl G M) → DM M A
  | [], _ => ⟨fun i j x y q hi => by simp at hi, fun k x hk => by simp at hk, fun k x q hk => by simp at hk⟩
  | e :: M, h => by
    have h : va_D A (ex G e ++ fl G M) := h
    have hl : ∀ (i : Nat) (x : Nat × va_E), (ex G e)[i]? = some x → (ex G e ++ fl G M)[i]? = some x := fun i x hx => by
      rw [List.getElem?_append_left (List.getElem?_eq_some_iff.mp hx).1]
      exact hx
    have hr : ∀ (i : Nat) (x : Nat × va_E), (fl G M)[i]? = some x → (ex G e ++ fl G M)[(ex G e).length + i]? = some x := fun i x hx => by
      rw [List.getElem?_append_right (by omega), Nat.add_sub_cancel_left]
      exact hx
    refine DM_cons (mi_of (G := G) (fun i j x y hi hj hxy => h.1 i j x y (hl i x hi) (hl j y hj) hxy)) (fun q hq => ?_) (fun q k x hk hx hq => ?_) (DM_of_fl ⟨fun i j x y hi hj hxy => ?_, fun k x hk => h.2 _ x (hr k x hk)⟩)
    · obtain ⟨j, y, hj, rfl⟩ := ex_has (G := G) hq
      exact h.2 j y (hl j y hj)
    · obtain ⟨j, y, hj, hy⟩ := ex_has (G := G) hq
      obtain ⟨j2, y2, hj2, hy2⟩ := ex_has (G := G) hx
      obtain ⟨j3, hj3⟩ := List.getElem?_of_mem (fl_in hk (List.mem_of_getElem? hj2))
      have h9 := h.1 j _ y y2 (hl j y hj) (hr j3 y2 hj3) (by rw [hy, hy2])
      have := (List.getElem?_eq_some_iff.mp hj).1
      omega
    · have := h.1 _ _ x y (hr i x hi) (hr j y hj) hxy
      omega
section VARR
variable {G : Cx} {Y : MI} {Z : ZT} {d ck sk pc : Nat} {L : List (Option Value)} {st : List Value} {M : List ME}
theorem v_ishr {x y : Int32} (hd : decode Y.2.1 pc = .ok (.ishr, 1)) (k : V G Y Z d ck sk (pc + 1) L (.int (x >>> (y &&& 31)) :: st) M) : V G Y Z d ck sk pc L (.int y :: .int x :: st) M :=
  fun p e R s m args below meth c H locs cells slots ls C hl => lv_ishr C.1.1 C.1.2.1 hd (k p e R s m args below meth c H locs cells slots ls C hl)
theorem v_mabs {index : Nat} {x : Int32} (hlink : Cond.methodLink Y.1.cls index Lib.Math.abs.name ∈ GW) (hstat : Cond.static Lib.Math.abs.name ∈ GW) (hini : Cond.initialized "java/lang/Math" ∈ GW) (hcode : Cond.code Lib.Math.abs.name Lib.Math.abs.code 1 (some .int) ∈ GW) (hfr : 1 ≤ d) (hlo : (st.map fun v => v.category).sum + 13 ≤ 38 * d) (hd : decode Y.2.1 pc = .ok (.invokestatic index, 3))
    (kk : V G Y Z d ck sk (pc + 3) L (.int (if 0 ≤ x then x else 0 - x) :: st) M) : V G Y Z d ck sk pc L (.int x :: st) M := by
  intro p e2 R s m args below meth c H locs cells slots ls C hl
  have hml : c.maxLocals = ls.size := by obtain ⟨as, q1, -⟩ := hl; rw [q1.1]; exact C.1.2.2.1
  exact va_mabs C.1.1 C.1.2.1 hml C.1.2.2.2.2.2.1 (C.1.2.2.2.2.2.2.1 _ hlink) (C.1.2.2.2.2.2.2.1 _ hstat) (C.1.2.2.2.2.2.2.1 _ hini) (C.1.2.2.2.2.2.2.1 _ hcode) (Nat.le_trans hfr C.2.1.2.2.1) (Nat.le_trans hlo C.2.1.2.2.2.1) (by have := C.2.1.2.2.2.2.1; omega) (by have := C.2.1.2.2.2.2.2; omega) hd (kk p e2 R s m args below meth c H locs cells slots ls C hl)
theorem v_newA {index : Nat} {n : Int32} {N : Nat} (hcl : Cond.classLink Y.1.cls index "[I" ∈ GW) (hov : Cond.arrayOver (.array .int) ∈ NW) (hn : ¬ n < 0) (hN : n.toNatClampNeg = N) (hb : N * 4 ≤ 536870912) (hck : 1 ≤ ck) (hsk : N ≤ sk) (hd : decode Y.2.1 pc = .ok (.anewarray index, 3))
    (kk : ∀ q : Nat, V G Y Z d (ck - 1) (sk - N) (pc + 3) L (.ref q :: st) (M ++ [eQ 5 q N (fun _ => none)])) : V G Y Z d ck sk pc L (.int n :: st) M := by
  intro p e2 R s m args below meth c H locs cells slots ls C hl
  subst hN
  refine W.anewA (t := .int) C.1.1 C.1.2.1 C.1.2.2.2.2.2.1 (by rw [tsAI]; exact C.1.2.2.2.2.2.2.1 _ hcl) (NW_use hov (C.1.2.2.2.2.2.2.2.1.2.1 _ hov)) rfl hd rfl hn hb (by have := C.2.1.2.2.2.2.1; omega) (by have := C.2.1.2.2.2.2.2; omega) fun cA kA comp f1 f2 f3 f4 => ?_
  have hKr : va_RA s (G.2.2.1 5) (.array .int) := (C.1.2.2.2.2.2.2.2.1.1.2 5 (G.2.2.1 5, .array .int) rfl).2
  have hcA : cA = G.2.2.1 5 := Option.some.inj (f1.symm.trans hKr)
  subst hcA
  have hP := PM_fl C.2.2.1
  have hS := C.2.2.2.2.1
  generalize hH1 : H.push ({ cls := G.2.2.1 5, slots := Array.replicate n.toNatClampNeg .null, vm := .none } : Cell) = H1
  have z1 : H1.size = H.size + 1 := by rw [← hH1, Array.size_push]
  have e1 : H1[H.size]? = some (arrV (G.2.2.1 5) n.toNatClampNeg (fun _ => .null)) := by rw [← hH1, Array.getElem?_push_size, ← arrV_new]
  have o1 : ∀ q : Nat, q < H.size → H1[q]? = H[q]? := fun q hq => by rw [← hH1, Array.getElem?_push, if_neg (Nat.ne_of_lt hq)]
  have hk : ∀ (k : Nat) (x : Nat × va_E), (fl G M)[k]? = some x → H1[x.1]? = H[x.1]? := fun k x hx => o1 x.1 ((hP k x hx).lt)
  refine kk H.size p e2 R s m args below meth c H1 locs (cells + 1) (slots + n.toNatClampNeg) ls (C.new (w := .inl (G.2.2.1 5, n.toNatClampNeg, .inr (.inr (.inr (.inr (fun _ => none)))))) hck hsk trivial rfl (fun _ h => h) ((hP.kept hk).app (fun k x hx => ?_)) ((DM_fl C.2.2.2.1).push hP rfl (Or.inr (by rw [← C.2.1.1]; exact hS.1))) ⟨Nat.le_trans hS.1 (by omega), fun x h1 h2 => (o1 x (Nat.lt_of_lt_of_le h1 hS.1)).trans (hS.2.1 x h1 h2), hS.2.2⟩) hl
  have hz : k < 1 := (List.getElem?_eq_some_iff.mp hx).1
  rw [show k = 0 by omega] at hx
  cases hx
  show H1[H.size]? = some (vp_cell _ _)
  rw [vp_cell_q]
  exact e1
/-- a boolean array's clone -/
theorem v_cloneZ (q0 : Nat) {index a n : Nat} {f : Nat → Int32} (hM : M[q0]? = some (eZ a n f)) (hz : ∀ j, f j = 0 ∨ f j = 1) (hlink : Cond.methodLink Y.1.cls index ⟨"[Z", "clone", "()Ljava/lang/Object;"⟩ ∈ GW) (hsame : Cond.sameMethod "[Z" "java/lang/Object" "clone" "()Ljava/lang/Object;" ∈ GW) (hnat : Cond.native ⟨"java/lang/Object", "clone", "()Ljava/lang/Object;"⟩ ∈ GW) (hinst : Cond.instanceMethod ⟨"java/lang/Object", "clone", "()Ljava/lang/Object;"⟩ ∈ GW)
    (hsel : Cond.selects "[Z" ⟨"[Z", "clone", "()Ljava/lang/Object;"⟩ ⟨"java/lang/Object", "clone", "()Ljava/lang/Object;"⟩ ∈ GW) (hcl : Cond.castable "[Z" "java/lang/Cloneable" ∈ NW) (hfr : 1 ≤ d) (hlo : (st.map fun v => v.category).sum + 14 ≤ 38 * d) (hck : 1 ≤ ck) (hsk : n ≤ sk) (hd : decode Y.2.1 pc = .ok (.invokevirtual index, 3))
    (kk : ∀ q : Nat, V G Y Z d (ck - 1) (sk - n) (pc + 3) L (.ref q :: st) (M ++ [eZ q n f])) : V G Y Z d ck sk pc L (.ref a :: st) M := by
  intro p e2 R s m args below meth c H locs cells slots ls C hl
  obtain ⟨o, ho, -⟩ := fl_at G hM
  have hml : c.maxLocals = ls.size := by obtain ⟨as, q1, -⟩ := hl; rw [q1.1]; exact C.1.2.2.1
  have hts := C.1.2.2.2.2.2.2.1
  refine va_clone C.1.1 C.1.2.1 hml C.1.2.2.2.2.2.1 (hts _ hlink) (hts _ hsame) (hts _ hnat) (hts _ hinst) (hts _ hsel) (C.1.2.2.2.2.2.2.2.1.2.1 _ hcl) C.1.2.2.2.2.2.2.2.1.1 (PM_fl C.2.2.1) (DM_fl C.2.2.2.1) C.2.2.2.2.1 (fun q hq => Or.inr (by rw [← C.2.1.1]; exact hq)) (o + 0) 1 (x := (n, .inl f)) (ty := .boolean) (ho 0 _ rfl) rfl
    (va_nm_boolean (C.1.2.2.2.2.2.2.2.1.1.2 1 (G.2.2.1 1, .boolean) rfl).2) (fun i v hv => by rw [vp_cell_i] at hv; exact va_fit (fun j _ => by rcases hz j with h9 | h9 <;> rw [h9] <;> rfl) i v hv) (Nat.le_trans hfr C.2.1.2.2.1) (Nat.le_trans hlo C.2.1.2.2.2.1) (by have := C.2.1.2.2.2.2.1; omega) (by have h9 := C.2.1.2.2.2.2.2; show slots + n ≤ R.slots; omega) hd (fun q H1 _ hP hD hS => ?_)
  exact kk q p e2 R s m args below meth c H1 locs (cells + 1) (slots + n) ls (C.new hck hsk trivial rfl (fun _ h => h) hP hD hS) hl
theorem v_castZ (q0 : Nat) {index a n : Nat} {f : Nat → Int32} (hM : M[q0]? = some (eZ a n f)) (hlink : Cond.classLink Y.1.cls index "[Z" ∈ GW) (hd : decode Y.2.1 pc = .ok (.checkcast index, 3)) (kk : V G Y Z d ck sk (pc + 3) L (.ref a :: st) M) : V G Y Z d ck sk pc L (.ref a :: st) M := by
  intro p e2 R s m args below meth c H locs cells slots ls C hl
  obtain ⟨o, ho, -⟩ := fl_at G hM
  exact va_castA C.1.1 C.1.2.1 C.1.2.2.2.2.2.1 (C.1.2.2.2.2.2.2.1 _ hlink) (PM_fl C.2.2.1) (o + 0) (ho 0 _ rfl) (va_nm_boolean (C.1.2.2.2.2.2.2.2.1.1.2 1 (G.2.2.1 1, .boolean) rfl).2) hd (kk p e2 R s m args below meth c H locs cells slots ls C hl)
/-- a reference to an array of ints is stored -/
theorem v_aastAX (q0 qk : Nat) {a n v n' i0 : Nat} {e : ME} {f : Nat → Option Nat} {g : Nat → Int32} {i : Int32} (hM : M[q0]? = some (eQ 5 a n f)) (hMv : M[qk]? = some e) (hev : (ex G e)[i0]? = some (v, .inl (G.2.2.1 0, n', .inl g))) (hov : Cond.arrayOver (.array .int) ∈ NW) (hin : vp_in i n) (hd : decode Y.2.1 pc = .ok (.aastore, 1))
    (kk : V G Y Z d ck sk (pc + 1) L st (M.set q0 (eQ 5 a n (va_up f i.toNatClampNeg (some v))))) : V G Y Z d ck sk pc L (.ref v :: .int i :: .ref a :: st) M := by
  intro p e2 R s m args below meth c H locs cells slots ls C hl
  obtain ⟨o, ho, ho2⟩ := fl_at G hM
  obtain ⟨o', ho', -⟩ := fl_at G hMv
  have hP := PM_fl C.2.2.1
  have hD := DM_fl (G := G) C.2.2.2.1
  have hKr : va_RA s (G.2.2.1 5) (.array .int) := (C.1.2.2.2.2.2.2.2.1.1.2 5 (G.2.2.1 5, .array .int) rfl).2
  have hK0 := va_nm_int (C.1.2.2.2.2.2.2.2.1.1.2 0 (G.2.2.1 0, .int) rfl).2
  obtain ⟨-, kI, hkI, -⟩ := (C.1.2.2.2.2.2.2.2.1.1.2 0 (G.2.2.1 0, .int) rfl).1 0 (fun _ => .null)
  obtain ⟨comp, c5, k5, h1, h2, h3, h4, h5⟩ := arrayOverA_spec (NW_use (A := args) hov (C.1.2.2.2.2.2.2.2.1.2.1 _ hov))
  have ec5 : c5 = G.2.2.1 5 := Option.some.inj (h5.symm.trans hKr)
  subst ec5
  rw [tsAI] at h1
  have ecomp : comp = G.2.2.1 0 := Option.some.inj (h1.symm.trans hK0)
  subst ecomp
  have hcell : H[a]? = some (vp_cell (G.2.2.1 5) (n, .inr (.inr (.inr (.inr f))))) := C.2.2.1 q0 _ hM
  have hcv : H[v]? = some (vp_cell (G.2.2.1 0) (n', .inl g)) := hP (o' + i0) _ (ho' i0 _ hev)
  have hlt : i.toNatClampNeg < n := Nat.not_le.mp fun q => hin (Or.inr q)
  have h0 : ¬ i < 0 := fun q => hin (Or.inl q)
  have ha := ho 0 _ rfl
  refine W.aast C.1.1 C.1.2.1 hcell (fun q h => by cases h) (fun h => by cases h) h3 h4 rfl hkI ⟨h0, by show _ < (arrV _ _ _).slots.size; rw [arrV_size]; exact hlt⟩ hcv (fun q h => by cases h) hkI (va_asg _ _) rfl rfl hd fun H1 e z oq => ?_
  refine kk p e2 R s m args below meth c H1 _ cells slots ls (C.put (e1 := eQ 5 a n (va_up f i.toNatClampNeg (some v))) hM trivial (fun _ h => h) ?_ (C.2.2.2.2.1.put z oq (hD.2 (o + 0) _ ha))) hl
  rw [← ho2 0 (a, .inl (G.2.2.1 5, n, .inr (.inr (.inr (.inr (va_up f i.toNatClampNeg (some v))))))) (eQ 5 a n (va_up f i.toNatClampNeg (some v))) Nat.zero_lt_one rfl]
  refine hP.set hD ha ?_ oq
  show H1[a]? = some (vp_cell _ _)
  rw [e]
  rw [vp_cell_q, vp_cell_q, arrV_store]
  congr 2
  funext q
  by_cases hq : q = i.toNatClampNeg
  · subst hq
    simp [updV, va_up, va_rf]
  · simp [updV, va_up, hq]
/-- .. one that stands alone, one of a family; at a small place -/
theorem v_aastA (q0 qk : Nat) {a n v n' i : Nat} {f : Nat → Option Nat} {g : Nat → Int32} (hM : M[q0]? = some (eQ 5 a n f)) (hMv : M[qk]? = some (eI v n' g)) (hov : Cond.arrayOver (.array .int) ∈ NW) (hi : i < n) (hn : n < 2 ^ 31) (hd : decode Y.2.1 pc = .ok (.aastore, 1))
    (kk : V G Y Z d ck sk (pc + 1) L st (M.set q0 (eQ 5 a n (va_up f i (some v))))) : V G Y Z d ck sk pc L (.ref v :: .int (nI i) :: .ref a :: st) M :=
  v_aastAX q0 qk (i0 := 0) hM hMv rfl hov (vp_in_nI hi hn) hd (by rw [nI_clamp (by omega)]; exact kk)
theorem v_aastG (q0 qk : Nat) {a n m k i j : Nat} {f : Nat → Option Nat} {sa : Nat → Nat} {F : Nat → Nat → Int32} (hM : M[q0]? = some (eQ 5 a n f)) (hMv : M[qk]? = some (eG sa m k F)) (hj : j < m) (hov : Cond.arrayOver (.array .int) ∈ NW) (hi : i < n) (hn : n < 2 ^ 31) (hd : decode Y.2.1 pc = .ok (.aastore, 1))
    (kk : V G Y Z d ck sk (pc + 1) L st (M.set q0 (eQ 5 a n (va_up f i (some (sa j)))))) : V G Y Z d ck sk pc L (.ref (sa j) :: .int (nI i) :: .ref a :: st) M :=
  v_aastAX q0 qk (i0 := j) hM hMv (exG_at G hj) hov (vp_in_nI hi hn) hd (by rw [nI_clamp (by omega)]; exact kk)
/-! an array of a family is read, written, measured -/
theorem v_ialdG (q0 : Nat) {n k i : Nat} {sa : Nat → Nat} {F : Nat → Nat → Int32} {j : Int32} (hM : M[q0]? = some (eG sa n k F)) (hi : i < n) (hin : vp_in j k) (hd : decode Y.2.1 pc = .ok (.iaload, 1)) (kk : V G Y Z d ck sk (pc + 1) L (.int (F i j.toNatClampNeg) :: st) M) : V G Y Z d ck sk pc L (.int j :: .ref (sa i) :: st) M := by
  intro p e2 R s m args below meth c H locs cells slots ls C hl
  obtain ⟨o, ho, -⟩ := fl_at G hM
  exact va_iald C.1.1 C.1.2.1 C.1.2.2.2.2.2.2.2.1.1 (PM_fl C.2.2.1) (o + i) 0 (ho i _ (exG_at G hi)) rfl hin hd (kk p e2 R s m args below meth c H locs cells slots ls C hl)
theorem v_iastG (q0 : Nat) {n k i : Nat} {sa : Nat → Nat} {F : Nat → Nat → Int32} {j x : Int32} (hM : M[q0]? = some (eG sa n k F)) (hi : i < n) (hin : vp_in j k) (hd : decode Y.2.1 pc = .ok (.iastore, 1)) (kk : V G Y Z d ck sk (pc + 1) L st (M.set q0 (eG sa n k (upS F i j.toNatClampNeg x)))) : V G Y Z d ck sk pc L (.int x :: .int j :: .ref (sa i) :: st) M := by
  intro p e2 R s m args below meth c H locs cells slots ls C hl
  obtain ⟨o, ho, ho2⟩ := fl_at G hM
  have he := exG_at G (sa := sa) (k := k) (F := F) hi
  refine va_iast C.1.1 C.1.2.1 C.1.2.2.2.2.2.2.2.1.1 (PM_fl C.2.2.1) (DM_fl C.2.2.2.1) C.2.2.2.2.1 (o + i) 0 (ho i _ he) rfl hin hd (fun H1 locs1 hP1 _ hS1 => ?_)
  rw [ho2 i _ (eG sa n k (upS F i j.toNatClampNeg x)) (List.getElem?_eq_some_iff.mp he).1 (ex_upG G sa F x)] at hP1
  exact kk p e2 R s m args below meth c H1 locs1 cells slots ls (C.put hM (show mi (eG sa n k F) from C.2.2.2.1.2.1 q0 _ hM) (fun _ h => h) hP1 hS1) hl
theorem v_ialdGN (q0 : Nat) {n k i j : Nat} {sa : Nat → Nat} {F : Nat → Nat → Int32} (hM : M[q0]? = some (eG sa n k F)) (hi : i < n) (hj : j < k) (hk : k < 2 ^ 31) (hd : decode Y.2.1 pc = .ok (.iaload, 1)) (kk : V G Y Z d ck sk (pc + 1) L (.int (F i j) :: st) M) : V G Y Z d ck sk pc L (.int (nI j) :: .ref (sa i) :: st) M :=
  v_ialdG q0 hM hi (vp_in_nI hj hk) hd (by rw [nI_clamp (by omega)]; exact kk)
theorem v_iastGN (q0 : Nat) {n k i j : Nat} {sa : Nat → Nat} {F : Nat → Nat → Int32} {x : Int32} (hM : M[q0]? = some (eG sa n k F)) (hi : i < n) (hj : j < k) (hk : k < 2 ^ 31) (hd : decode Y.2.1 pc = .ok (.iastore, 1)) (kk : V G Y Z d ck sk (pc + 1) L st (M.set q0 (eG sa n k (upS F i j x)))) : V G Y Z d ck sk pc L (.int x :: .int (nI j) :: .ref (sa i) :: st) M :=
  v_iastG q0 hM hi (vp_in_nI hj hk) hd (by rw [nI_clamp (by omega)]; exact kk)
/-- new int[n][k] -/
theorem v_newG {index : Nat} {n k : Int32} {N K : Nat} (hcl : Cond.classLink Y.1.cls index "[[I" ∈ GW) (hov : Cond.arrayOver (.array .int) ∈ NW) (hac : Cond.arrayClass .int ∈ GW) (hn : ¬ n < 0) (hk : ¬ k < 0) (hN : n.toNatClampNeg = N) (hK : k.toNatClampNeg = K) (hb : N * 4 ≤ 536870912) (hb2 : K * 4 ≤ 536870912) (hck : 1 + N ≤ ck) (hsk : N + N * K ≤ sk) (hd : decode Y.2.1 pc = .ok (.multianewarray index 2, 4))
    (kk : ∀ (q : Nat) (r : Nat → Nat), V G Y Z d (ck - (1 + N)) (sk - (N + N * K)) (pc + 4) L (.ref q :: st) (M ++ [eQ 5 q N (fun i => if i < N then some (r i) else none), eG r N K (fun _ _ => 0)])) : V G Y Z d ck sk pc L (.int k :: .int n :: st) M := by
  intro p e2 R s m args below meth c H locs cells slots ls C hl
  subst hN
  subst hK
  intro T hT Xs
  have hKr : va_RA s (G.2.2.1 5) (.array .int) := (C.1.2.2.2.2.2.2.2.1.1.2 5 (G.2.2.1 5, .array .int) rfl).2
  have hK0 := va_nm_int (C.1.2.2.2.2.2.2.2.1.1.2 0 (G.2.2.1 0, .int) rfl).2
  obtain ⟨vm₁, cA, comp, -, fA, fC, hO, -, X', step⟩ := Xs.multianewarray2F C.1.1 (ty := .int) C.1.2.2.2.2.2.1 (by rw [show "[" ++ (FieldType.array .int).toString = "[[I" by decide +kernel]; exact C.1.2.2.2.2.2.2.1 _ hcl) (NW_use hov (C.1.2.2.2.2.2.2.2.1.2.1 _ hov)) (C.1.2.2.2.2.2.2.1 _ hac) (g := F0 m pc ls (.int k :: .int n :: st)) rfl (by rw [C.1.2.1]; exact hd) rfl hn hk hb (by show _ * 4 ≤ _; exact hb2) (by omega) rfl rfl (by have := C.2.1.2.2.2.2.1; omega) (by have := C.2.1.2.2.2.2.2; omega)
  have hcA : cA = G.2.2.1 5 := Option.some.inj (fA.symm.trans hKr)
  have hco : comp = G.2.2.1 0 := by rw [tsAI] at fC; exact Option.some.inj (fC.symm.trans hK0)
  subst hcA
  subst hco
  generalize hF : Jvm.Free.Multi.fill (T.setVm vm₁) (G.2.2.1 5) (G.2.2.1 0) n.toNatClampNeg k.toNatClampNeg (defaultValue .int) n.toNatClampNeg = F at X' step
  have hTh : (T.setVm vm₁).heap = H := hT
  obtain ⟨f1, f2, -, -⟩ := Jvm.Free.Multi.fill_facts (T.setVm vm₁) (G.2.2.1 5) (G.2.2.1 0) n.toNatClampNeg k.toNatClampNeg (defaultValue .int) n.toNatClampNeg
  rw [hF, hTh] at f1 f2
  have hold : ∀ x : Nat, x < H.size → F.heap[x]? = H[x]? := fun x hx => by
    have := Jvm.Free.Multi.fill_old (T.setVm vm₁) (G.2.2.1 5) (G.2.2.1 0) n.toNatClampNeg k.toNatClampNeg (defaultValue .int) (a := x) (by rw [hTh]; exact hx) n.toNatClampNeg
    rw [hF, hTh] at this
    exact this
  have hrow : ∀ j : Nat, j < n.toNatClampNeg → F.heap[H.size + 1 + j]? = some (vp_cell (G.2.2.1 0) (k.toNatClampNeg, .inl (fun _ => 0))) := fun j hj => by
    have := Jvm.Free.Multi.fill_inner (T.setVm vm₁) (G.2.2.1 5) (G.2.2.1 0) n.toNatClampNeg k.toNatClampNeg (defaultValue .int) n.toNatClampNeg j hj
    rw [hF, hTh] at this
    rw [this, vp_cell_i]
    exact congrArg some (arrV_new _ _ _)
  rw [mG_outer] at f2
  have hP := PM_fl C.2.2.1
  have hD := DM_fl (G := G) C.2.2.2.1
  have hS := C.2.2.2.2.1
  have hlt : ∀ (i : Nat) (x : Nat × va_E), (fl G M)[i]? = some x → x.1 < H.size := fun i x hx => (hP i x hx).lt
  have hfl : fl G (M ++ [eQ 5 H.size n.toNatClampNeg (fun i => if i < n.toNatClampNeg then some (H.size + 1 + i) else none), eG (fun i => H.size + 1 + i) n.toNatClampNeg k.toNatClampNeg (fun _ _ => 0)]) = fl G M ++ ([(H.size, .inl (G.2.2.1 5, n.toNatClampNeg, .inr (.inr (.inr (.inr (fun i => if i < n.toNatClampNeg then some (H.size + 1 + i) else none))))))] ++ (List.range n.toNatClampNeg).map (fun i => ((H.size + 1 + i, .inl (G.2.2.1 0, k.toNatClampNeg, .inl (fun _ => 0))) : Nat × va_E))) := by
    rw [fl_app]
    show fl G M ++ (_ ++ (_ ++ [])) = _
    rw [List.append_nil]
    rfl
  have hnew : ∀ (i : Nat) (x : Nat × va_E), ((List.range n.toNatClampNeg).map (fun i => ((H.size + 1 + i, .inl (G.2.2.1 0, k.toNatClampNeg, .inl (fun _ => 0))) : Nat × va_E)))[i]? = some x → i < n.toNatClampNeg ∧ x = (H.size + 1 + i, .inl (G.2.2.1 0, k.toNatClampNeg, .inl (fun _ => 0))) := fun i x hx => by
    have h9 : i < n.toNatClampNeg := by simpa using (List.getElem?_eq_some_iff.mp hx).1
    rw [List.getElem?_map, List.getElem?_range h9] at hx
    cases hx
    exact ⟨h9, rfl⟩
  have hq1 : ∀ (i : Nat) (x : Nat × va_E), ([(H.size, .inl (G.2.2.1 5, n.toNatClampNeg, .inr (.inr (.inr (.inr (fun i => if i < n.toNatClampNeg then some (H.size + 1 + i) else none))))))] : va_W)[i]? = some x → i = 0 ∧ x = (H.size, .inl (G.2.2.1 5, n.toNatClampNeg, .inr (.inr (.inr (.inr (fun i => if i < n.toNatClampNeg then some (H.size + 1 + i) else none)))))) := fun i x hx => by
    have h9 : i < 1 := (List.getElem?_eq_some_iff.mp hx).1
    obtain rfl : i = 0 := by omega
    cases hx
    exact ⟨rfl, rfl⟩
  have hA : ∀ q : Nat, H.size ≤ q → AM Z.1 Z.2.1 q := fun q hq => Or.inr (by rw [← C.2.1.1]; exact Nat.le_trans hS.1 hq)
  have hP' : va_P G.2.1 vwCl (fl G (M ++ [eQ 5 H.size n.toNatClampNeg (fun i => if i < n.toNatClampNeg then some (H.size + 1 + i) else none), eG (fun i => H.size + 1 + i) n.toNatClampNeg k.toNatClampNeg (fun _ _ => 0)])) F.heap := by
    rw [hfl]
    refine (hP.kept (fun i x hx => hold x.1 (hlt i x hx))).app (va_P.app (fun i x hx => ?_) (fun i x hx => ?_))
    · obtain ⟨-, rfl⟩ := hq1 i x hx
      show F.heap[H.size]? = some (vp_cell _ _)
      rw [vp_cell_q]
      exact f2
    · obtain ⟨h9, rfl⟩ := hnew i x hx
      exact hrow i h9
  have hD' : va_D (AM Z.1 Z.2.1) (fl G (M ++ [eQ 5 H.size n.toNatClampNeg (fun i => if i < n.toNatClampNeg then some (H.size + 1 + i) else none), eG (fun i => H.size + 1 + i) n.toNatClampNeg k.toNatClampNeg (fun _ _ => 0)])) := by
    rw [hfl]
    refine va_D.app hD (va_D.app ⟨fun i j x y hi hj _ => ?_, fun i x hx => ?_⟩ ⟨fun i j x y hi hj hxy => ?_, fun i x hx => ?_⟩ (fun i j x y hi hj hxy => ?_)) (fun i j x y hi hj hxy => ?_)
    · rw [(hq1 i x hi).1, (hq1 j y hj).1]
    · rw [(hq1 i x hx).2]
      exact hA _ (Nat.le_refl _)
    · rw [(hnew i x hi).2, (hnew j y hj).2] at hxy
      have hxy : H.size + 1 + i = H.size + 1 + j := hxy
      omega
    · rw [(hnew i x hx).2]
      exact hA _ (by show H.size ≤ H.size + 1 + i; omega)
    · rw [(hq1 i x hi).2, (hnew j y hj).2] at hxy
      have hxy : H.size = H.size + 1 + j := hxy
      omega
    · have h8 := hlt i x hi
      rcases List.mem_append.mp (List.mem_of_getElem? hj) with h9 | h9
      · obtain ⟨j2, hj2⟩ := List.getElem?_of_mem h9
        rw [(hq1 j2 y hj2).2] at hxy
        have hxy : x.1 = H.size := hxy
        omega
      · obtain ⟨j2, hj2⟩ := List.getElem?_of_mem h9
        rw [(hnew j2 y hj2).2] at hxy
        have hxy : x.1 = H.size + 1 + j2 := hxy
        omega
  have hS' : va_S (AM Z.1 Z.2.1) s.heap F.heap locs := ⟨by rw [f1]; have := hS.1; omega, fun x h1 h2 => (hold x (Nat.lt_of_lt_of_le h1 hS.1)).trans (hS.2.1 x h1 h2), hS.2.2⟩
  obtain ⟨t, a1, b1⟩ := kk H.size (fun i => H.size + 1 + i) p e2 R s m args below meth c F.heap locs (cells + 1 + n.toNatClampNeg) (slots + n.toNatClampNeg + n.toNatClampNeg * k.toNatClampNeg) ls ⟨C.1, ⟨C.2.1.1, C.2.1.2.1, C.2.1.2.2.1, C.2.1.2.2.2.1, by have := C.2.1.2.2.2.2.1; omega, by have := C.2.1.2.2.2.2.2; omega⟩, PM_of_fl hP', DM_of_fl hD', hS', C.2.2.2.2.2⟩ hl F rfl X'
  refine ⟨t, step t ?_, b1⟩
  have e : T.heap.size = H.size := by rw [hT]
  rw [e]
  exact a1
/-- a new cell joins a family -/
theorem v_grow (p0 : Nat) {M1 : List ME} {e9 : ME} {n q : Nat} {sa sb : Nat → Nat} {F F' : Nat → CE} (hM : M = M1 ++ [e9]) (h9 : ∀ z, ma e9 z ↔ z = q) (hc9 : ∀ H, mh G e9 H → va_at G.2.1 vwCl (q, cv G (F' n)) H) (hp : M1[p0]? = some (.inr (.inr (sa, n, F)))) (hb : ∀ i, i < n → sb i = sa i) (hbn : sb n = q) (hF : ∀ i, i < n → F' i = F i) (k : V G Y Z d ck sk pc L st (M1.set p0 (.inr (.inr (sb, n + 1, F'))))) : V G Y Z d ck sk pc L st M := by
  subst hM
  intro p e R s m args below meth c H locs cells slots ls C hl
  have hlen : p0 < M1.length := (List.getElem?_eq_some_iff.mp hp).1
  have hlast : (M1 ++ [e9])[M1.length]? = some e9 := by
    rw [List.getElem?_append_right (Nat.le_refl _), Nat.sub_self]; rfl
  have up : ∀ (i : Nat) (x : ME), M1[i]? = some x → (M1 ++ [e9])[i]? = some x := by
    intro i x h
    rw [List.getElem?_append_left (List.getElem?_eq_some_iff.mp h).1]
    exact h
  have hP := C.2.2.1
  have hD := C.2.2.2.1
  have hne : ∀ i, i < n → sa i ≠ q := by
    intro i hi h
    have := hD.1 p0 M1.length _ _ q (up p0 _ hp) hlast ⟨i, hi, h.symm⟩ ((h9 q).mpr rfl)
    omega
  have hma : ∀ x, ma (.inr (.inr (sb, n + 1, F'))) x → ma (.inr (.inr (sa, n, F))) x ∨ x = q := by
    rintro x ⟨i, hi, rfl⟩
    have hi : i < n + 1 := hi
    by_cases h : i = n
    · subst h
      exact Or.inr hbn
    · exact Or.inl ⟨i, by show i < n; omega, hb i (by omega)⟩
  have gs : ∀ (i : Nat) (x : ME), (M1.set p0 (.inr (.inr (sb, n + 1, F'))))[i]? = some x → (i = p0 ∧ x = .inr (.inr (sb, n + 1, F'))) ∨ (i ≠ p0 ∧ M1[i]? = some x) := by
    intro i x hi
    by_cases h : p0 = i
    · subst h
      rw [List.getElem?_set_self hlen] at hi
      cases hi
      exact Or.inl ⟨rfl, rfl⟩
    · rw [List.getElem?_set_ne h] at hi
      exact Or.inr ⟨fun e => h e.symm, hi⟩
  have lt : ∀ (i : Nat) (x : ME), M1[i]? = some x → i < M1.length := fun i x h => (List.getElem?_eq_some_iff.mp h).1
  refine k p e R s m args below meth c H locs cells slots ls ⟨C.1, C.2.1, fun i x hi => ?_, ⟨fun i j x y z hi hj h1 h2 => ?_, fun i x hi => ?_, fun i x z hi h1 => ?_⟩, C.2.2.2.2⟩ hl
  · rcases gs i x hi with ⟨rfl, rfl⟩ | ⟨-, hi⟩
    · intro j hj
      have hj : j < n + 1 := hj
      by_cases h : j = n
      · subst h
        show va_at G.2.1 vwCl (sb j, cv G (F' j)) H
        rw [hbn]
        exact hc9 H (hP M1.length _ hlast)
      · show va_at G.2.1 vwCl (sb j, cv G (F' j)) H
        rw [hb j (by omega), hF j (by omega)]
        exact hP i _ (up i _ hp) j (by show j < n; omega)
    · exact hP i x (up i x hi)
  · rcases gs i x hi with ⟨rfl, rfl⟩ | ⟨hne1, hx⟩ <;> rcases gs j y hj with ⟨rfl, rfl⟩ | ⟨hne2, hy⟩
    · rfl
    · rcases hma z h1 with h | h
      · exact hD.1 i j _ y z (up i _ hp) (up j y hy) h h2
      · have h9' := hD.1 M1.length j _ y z hlast (up j y hy) ((h9 z).mpr h) h2
        have h8 := lt j y hy
        omega
    · rcases hma z h2 with h | h
      · exact hD.1 i j x _ z (up i x hx) (up j _ hp) h1 h
      · have h9' := hD.1 i M1.length x _ z (up i x hx) hlast h1 ((h9 z).mpr h)
        have h8 := lt i x hx
        omega
    · exact hD.1 i j x y z (up i x hx) (up j y hy) h1 h2
  · rcases gs i x hi with ⟨rfl, rfl⟩ | ⟨-, hi⟩
    · intro a b ha hb' hab
      have ha : a < n + 1 := ha
      have hb' : b < n + 1 := hb'
      have hab2 : sb a = sb b := hab
      by_cases h1 : a = n
      · by_cases h2 : b = n
        · omega
        · rw [h1, hbn, hb b (by omega)] at hab2
          exact absurd hab2.symm (hne b (by omega))
      · by_cases h2 : b = n
        · rw [h2, hbn, hb a (by omega)] at hab2
          exact absurd hab2 (hne a (by omega))
        · rw [hb a (by omega), hb b (by omega)] at hab2
          exact hD.2.1 i _ (up i _ hp) a b (by show a < n; omega) (by show b < n; omega) hab2
    · exact hD.2.1 i x (up i x hi)
  · rcases gs i x hi with ⟨rfl, rfl⟩ | ⟨-, hi⟩
    · rcases hma z h1 with h | h
      · exact hD.2.2 i _ z (up i _ hp) h
      · exact hD.2.2 M1.length _ z hlast ((h9 z).mpr h)
    · exact hD.2.2 i x z (up i x hi) h1
theorem v_growS (p0 : Nat) {M1 : List ME} {ci n w q : Nat} {sa : Nat → Nat} {s t : Nat → Nat → Int32} {fs : List Value} (hM : M = M1 ++ [eO ci q fs]) (hfs : fs = sF w t n) (hp : M1[p0]? = some (eS ci sa n w s)) (hs : ∀ i k, i < n → s i k = t i k) (k : V G Y Z d ck sk pc L st (M1.set p0 (eS ci (fun j => if j = n then q else sa j) (n + 1) w t))) : V G Y Z d ck sk pc L st M := by
  subst hfs
  refine v_grow p0 (q := q) (sb := fun j => if j = n then q else sa j) (F' := fun i => .inr (ci, sF w t i)) hM (fun z => Iff.rfl) (fun H h => h) hp (fun i hi => if_neg (by omega)) (if_pos rfl) (fun i hi => ?_) k
  show (Sum.inr (ci, sF w t i) : CE) = .inr (ci, sF w s i)
  unfold sF
  rw [show (fun k => Value.int (s i k)) = (fun k => Value.int (t i k)) from funext fun k => by rw [hs i k hi]]
theorem v_growG (p0 : Nat) {M1 : List ME} {n w q : Nat} {sa : Nat → Nat} {s t : Nat → Nat → Int32} {f : Nat → Int32} (hM : M = M1 ++ [eI q w f]) (hf : ∀ j, j < w → f j = t n j) (hp : M1[p0]? = some (eG sa n w s)) (hs : ∀ i k, i < n → s i k = t i k) (k : V G Y Z d ck sk pc L st (M1.set p0 (eG (fun j => if j = n then q else sa j) (n + 1) w t))) : V G Y Z d ck sk pc L st M := by
  refine v_grow p0 (q := q) (sb := fun j => if j = n then q else sa j) (F' := fun i => .inl (0, w, .inl (t i))) hM (fun z => Iff.rfl) (fun H h => ?_) hp (fun i hi => if_neg (by omega)) (if_pos rfl) (fun i hi => ?_) k
  · have h : H[q]? = some (vp_cell (G.2.2.1 0) (w, .inl f)) := h
    show H[q]? = some (vp_cell (G.2.2.1 0) (w, .inl (t n)))
    rw [h, vp_cell_congI _ hf]
  · show (Sum.inl (0, w, .inl (t i)) : CE) = .inl (0, w, .inl (s i))
    rw [show s i = t i from funext fun k => hs i k hi]
theorem v_fam0G (w : Nat) (k : V G Y Z d ck sk pc L st (M ++ [eG (fun _ => 0) 0 w (fun _ _ => 0)])) : V G Y Z d ck sk pc L st M := by
  intro p e R s m args below meth c H locs cells slots ls C hl
  refine k p e R s m args below meth c H locs cells slots ls ⟨C.1, C.2.1, C.2.2.1.push (fun i hi => absurd hi (Nat.not_lt_zero _)), C.2.2.2.1.push (fun i j hi => absurd hi (Nat.not_lt_zero _)) (fun q hq => ?_) (fun q k x _ _ hq => ?_), C.2.2.2.2⟩ hl
  · obtain ⟨i, hi, -⟩ := hq
    exact absurd hi (Nat.not_lt_zero _)
  · obtain ⟨i, hi, -⟩ := hq
    exact absurd hi (Nat.not_lt_zero _)
/-- what a family of arrays holds matters only where it has places -/
theorem v_cgG (q0 : Nat) {n w : Nat} {sa : Nat → Nat} {s t : Nat → Nat → Int32} (hM : M[q0]? = some (eG sa n w s)) (h : ∀ i k, i < n → k < w → s i k = t i k) (k : V G Y Z d ck sk pc L st (M.set q0 (eG sa n w t))) : V G Y Z d ck sk pc L st M := by
  intro p e2 R st0 m args below meth c H locs cells slots ls C hl
  have hinj := C.2.2.2.1.2.1 q0 _ hM
  refine v_cg q0 (e1 := eG sa n w t) hM hinj (fun _ h => h) (fun H hm => ?_) k p e2 R st0 m args below meth c H locs cells slots ls C hl
  intro i hi
  have hi : i < n := hi
  have h0 : H[sa i]? = some (vp_cell (G.2.2.1 0) (w, .inl (s i))) := hm i hi
  show H[sa i]? = some (vp_cell (G.2.2.1 0) (w, .inl (t i)))
  rw [h0, vp_cell_congI _ (fun j hj => h i j hi hj)]
end VARR
