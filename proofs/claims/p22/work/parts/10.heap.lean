/-! fields, arrays, new cells -/
def upF (F : Nat → List Value) (i : Nat) (x : List Value) : Nat → List Value := fun j => if j = i then x else F j
theorem upF_s (F : Nat → List Value) (i : Nat) (x : List Value) : upF F i x i = x := if_pos rfl
theorem upF_n (F : Nat → List Value) {i j : Nat} (x : List Value) (h : j ≠ i) : upF F i x j = F j := if_neg h
theorem ex_upF (G : Cx) (ci : Nat) (sa : Nat → Nat) {n i : Nat} (F : Nat → List Value) (x : List Value) : ex G (eF ci sa n (upF F i x)) = (ex G (eF ci sa n F)).set i (sa i, .inr (ci, x)) := by
  refine List.ext_getElem? (fun j => ?_)
  show ((List.range n).map (fun j => ((sa j, .inr (ci, upF F i x j)) : Nat × va_E)))[j]? = (((List.range n).map (fun j => ((sa j, .inr (ci, F j)) : Nat × va_E))).set i (sa i, .inr (ci, x)))[j]?
  rw [List.getElem?_set, List.getElem?_map]
  by_cases hj : j < n
  · rw [List.getElem?_range hj]
    by_cases hij : i = j
    · subst hij
      rw [if_pos rfl, if_pos (by simpa using hj)]
      simp [upF]
    · rw [if_neg hij, List.getElem?_map, List.getElem?_range hj]
      simp [upF, Ne.symm hij]
  · have h0 : (List.range n)[j]? = none := by simp; omega
    rw [h0]
    by_cases hij : i = j
    · subst hij
      rw [if_pos rfl, if_neg (by simpa using hj)]
      rfl
    · rw [if_neg hij, List.getElem?_map, h0]
      rfl
def fLink (own : String) (index : Nat) (T : u_T) (k : Nat) : Prop := Cond.fieldLink own index (T k).1 (T k).2.1 (T k).2.2.1 ∈ GW ∨ ∃ host : String, Cond.fieldLinkNest own index (T k).1 (T k).2.1 (T k).2.2.1 host ∈ NW
def fL (own : String) (index ci k : Nat) : Prop := ∃ (C : String) (T : u_T) (N : Nat), vwCl[ci]? = some (C, T, N) ∧ (∀ w ∈ u_ws C T N, w ∈ GW) ∧ k < N ∧ fLink own index T k
/-- a field that may be written: not final, or by its own class's constructor -/
def fS (Y : MI) (index ci k : Nat) (ty : FieldType) : Prop := ∃ (C : String) (T : u_T) (N : Nat) (ty0 : Nat → FieldType), vwCl[ci]? = some (C, T, N) ∧ (∀ w ∈ u_ws C T N, w ∈ GW) ∧ k < N ∧
  (∀ j, j < N → parseFieldDescriptor (T j).2.2.1 = some (ty0 j)) ∧ (∀ a, a < N → ∀ b, b < N → a ≠ b → (T a).2.1 ≠ (T b).2.1) ∧ parseFieldDescriptor (T k).2.2.1 = some ty ∧
  (((T k).2.2.2 = false ∧ fLink Y.1.cls index T k) ∨ ((T k).2.2.2 = true ∧ Y.1.name = "<init>" ∧ (T k).1 = Y.1.cls ∧ Cond.fieldLink Y.1.cls index (T k).1 (T k).2.1 (T k).2.2.1 ∈ GW))
section VHEAP
variable {G : Cx} {Y : MI} {Z : ZT} {d ck sk pc : Nat} {L : List (Option Value)} {st : List Value} {M : List ME}
theorem v_getX {index ci k q0 i a : Nat} {e : ME} {fs : List Value} {v : Value} (hF : fL Y.1.cls index ci k) (hM : M[q0]? = some e) (he : (ex G e)[i]? = some (a, .inr (ci, fs))) (hv : fs[k]? = some v) (hd : decode Y.2.1 pc = .ok (.getfield index, 3))
    (kk : V G Y Z d ck sk (pc + 3) L (v :: st) M) : V G Y Z d ck sk pc L (.ref a :: st) M := by
  intro p e2 R s m args below meth c H locs cells slots ls C hl
  obtain ⟨Cn, T, N, hc, hin, hk, hlink⟩ := hF
  obtain ⟨o, ho, -⟩ := fl_at G hM
  rcases hlink with hlink | ⟨host, hlink⟩
  · exact va_get C.1.1 C.1.2.1 C.1.2.2.2.2.2.2.1 hin C.1.2.2.2.2.2.1 C.1.2.2.2.2.2.2.2.1.1 (PM_fl C.2.2.1) (o + i) (ho i _ he) hc k hk (C.1.2.2.2.2.2.2.1 _ hlink) (fun _ h => h) hv hd (kk p e2 R s m args below meth c H locs cells slots ls C hl)
  · exact va_getN C.1.1 C.1.2.1 C.1.2.2.2.2.2.2.1 hin C.1.2.2.2.2.2.1 C.1.2.2.2.2.2.2.2.1.1 (PM_fl C.2.2.1) (o + i) (ho i _ he) hc k hk (va_Nw.use rfl (C.1.2.2.2.2.2.2.2.1.2.1 _ hlink)) (fun _ h => h) hv hd (kk p e2 R s m args below meth c H locs cells slots ls C hl)
theorem v_get {index ci : Nat} (k q0 : Nat) {a : Nat} {fs : List Value} {v : Value} (hF : fL Y.1.cls index ci k) (hM : M[q0]? = some (eO ci a fs)) (hv : fs[k]? = some v) (hd : decode Y.2.1 pc = .ok (.getfield index, 3))
    (kk : V G Y Z d ck sk (pc + 3) L (v :: st) M) : V G Y Z d ck sk pc L (.ref a :: st) M := v_getX (i := 0) hF hM rfl hv hd kk
theorem v_getF {index ci : Nat} (k q0 : Nat) {i n : Nat} {sa : Nat → Nat} {F : Nat → List Value} {v : Value} (hF : fL Y.1.cls index ci k) (hM : M[q0]? = some (eF ci sa n F)) (hi : i < n) (hv : (F i)[k]? = some v) (hd : decode Y.2.1 pc = .ok (.getfield index, 3))
    (kk : V G Y Z d ck sk (pc + 3) L (v :: st) M) : V G Y Z d ck sk pc L (.ref (sa i) :: st) M :=
  v_getX (i := i) (fs := F i) hF hM (by show ((List.range n).map _)[i]? = _; rw [List.getElem?_map, List.getElem?_range hi]; rfl) hv hd kk
theorem v_putX {index ci k q0 i a : Nat} {e e1 : ME} {fs : List Value} {v : Value} {ty : FieldType} (hF : fS Y index ci k ty) (hM : M[q0]? = some e) (he : (ex G e)[i]? = some (a, .inr (ci, fs))) (h1 : mi e1) (hs : ∀ q, ma e1 q → ma e q) (he1 : ex G e1 = (ex G e).set i (a, .inr (ci, fs.set k v)))
    (hn : narrow ty v = v) (hf : fits ty v = true) (hk : k < fs.length) (hd : decode Y.2.1 pc = .ok (.putfield index, 3)) (kk : V G Y Z d ck sk (pc + 3) L st (M.set q0 e1)) : V G Y Z d ck sk pc L (v :: .ref a :: st) M := by
  intro p e2 R s m args below meth c H locs cells slots ls C hl
  obtain ⟨Cn, T, N, ty0, hc, hin, hkN, hty, hnm, hd9, hm⟩ := hF
  obtain ⟨o, ho, ho2⟩ := fl_at G hM
  have hil : i < (ex G e).length := (List.getElem?_eq_some_iff.mp he).1
  have fin : ∀ (H1 : Heap) (locs1 : List Loc), va_P G.2.1 vwCl ((fl G M).set (o + i) (a, .inr (ci, fs.set k v))) H1 → va_D (AM Z.1 Z.2.1) ((fl G M).set (o + i) (a, .inr (ci, fs.set k v))) → va_S (AM Z.1 Z.2.1) s.heap H1 locs1 → W p G.1 e2 R s m args below meth c H1 locs1 cells slots (Z.2.2 below args s R) (F0 m (pc + 3) ls st) := by
    intro H1 locs1 hP1 _ hS1
    rw [ho2 i _ e1 hil he1] at hP1
    exact kk p e2 R s m args below meth c H1 locs1 cells slots ls (C.put hM h1 hs hP1 hS1) hl
  rcases hm with ⟨hfin, hlink | ⟨host, hlink⟩⟩ | ⟨hfin, hini, hdecl, hlink⟩
  · exact va_put C.1.1 C.1.2.1 C.1.2.2.2.2.2.2.1 hin ty0 hty hnm C.1.2.2.2.2.2.1 C.1.2.2.2.2.2.2.2.1.1 (PM_fl C.2.2.1) (DM_fl C.2.2.2.1) C.2.2.2.2.1 (o + i) (ho i _ he) hc k hkN (C.1.2.2.2.2.2.2.1 _ hlink) (fun _ h => h) hfin hd9 hn hf hk hd fin
  · exact va_putN C.1.1 C.1.2.1 C.1.2.2.2.2.2.2.1 hin ty0 hty hnm C.1.2.2.2.2.2.1 C.1.2.2.2.2.2.2.2.1.1 (PM_fl C.2.2.1) (DM_fl C.2.2.2.1) C.2.2.2.2.1 (o + i) (ho i _ he) hc k hkN (va_Nw.use rfl (C.1.2.2.2.2.2.2.2.1.2.1 _ hlink)) (fun _ h => h) hfin hd9 hn hf hk hd fin
  · exact va_putF C.1.1 C.1.2.1 C.1.2.2.2.2.2.2.1 hin ty0 hty hnm C.1.2.2.2.2.2.1 C.1.2.2.2.2.2.2.2.1.1 (PM_fl C.2.2.1) (DM_fl C.2.2.2.1) C.2.2.2.2.1 (o + i) (ho i _ he) hc k hkN (C.1.2.2.2.2.2.2.1 _ hlink) (fun _ h => h) hfin (C.1.2.2.2.2.2.2.2.2.2.trans hini) hdecl hd9 hn hf hk hd fin
theorem v_put {index ci : Nat} (k q0 : Nat) {a : Nat} {fs : List Value} {v : Value} {ty : FieldType} (hF : fS Y index ci k ty) (hM : M[q0]? = some (eO ci a fs)) (hn : narrow ty v = v) (hf : fits ty v = true) (hk : k < fs.length) (hd : decode Y.2.1 pc = .ok (.putfield index, 3))
    (kk : V G Y Z d ck sk (pc + 3) L st (M.set q0 (eO ci a (fs.set k v)))) : V G Y Z d ck sk pc L (v :: .ref a :: st) M :=
  v_putX (i := 0) (e1 := eO ci a (fs.set k v)) hF hM rfl trivial (fun _ h => h) rfl hn hf hk hd kk
theorem v_putF {index ci : Nat} (k q0 : Nat) {i n : Nat} {sa : Nat → Nat} {F : Nat → List Value} {v : Value} {ty : FieldType} (hF : fS Y index ci k ty) (hM : M[q0]? = some (eF ci sa n F)) (hi : i < n) (hinj : ∀ i j, i < n → j < n → sa i = sa j → i = j) (hn : narrow ty v = v) (hf : fits ty v = true) (hk : k < (F i).length) (hd : decode Y.2.1 pc = .ok (.putfield index, 3))
    (kk : V G Y Z d ck sk (pc + 3) L st (M.set q0 (eF ci sa n (upF F i ((F i).set k v))))) : V G Y Z d ck sk pc L (v :: .ref (sa i) :: st) M :=
  v_putX (i := i) (fs := F i) (e1 := eF ci sa n (upF F i ((F i).set k v))) hF hM (by show ((List.range n).map _)[i]? = _; rw [List.getElem?_map, List.getElem?_range hi]; rfl) hinj (fun _ h => h) (ex_upF G ci sa F _) hn hf hk hd kk
/-- the family's addresses are apart -/
theorem v_inj {ci q0 n : Nat} {sa : Nat → Nat} {F : Nat → List Value} (hM : M[q0]? = some (eF ci sa n F)) (k : (∀ i j, i < n → j < n → sa i = sa j → i = j) → V G Y Z d ck sk pc L st M) : V G Y Z d ck sk pc L st M :=
  fun p e R s m args below meth c H locs cells slots ls C hl => k (C.2.2.2.1.2.1 q0 _ hM) p e R s m args below meth c H locs cells slots ls C hl
/-! arrays -/
theorem v_iald (q0 : Nat) {a n : Nat} {f : Nat → Int32} {i : Int32} (hM : M[q0]? = some (eI a n f)) (hin : vp_in i n) (hd : decode Y.2.1 pc = .ok (.iaload, 1)) (kk : V G Y Z d ck sk (pc + 1) L (.int (f i.toNatClampNeg) :: st) M) : V G Y Z d ck sk pc L (.int i :: .ref a :: st) M := by
  intro p e2 R s m args below meth c H locs cells slots ls C hl
  obtain ⟨o, ho, -⟩ := fl_at G hM
  exact va_iald C.1.1 C.1.2.1 C.1.2.2.2.2.2.2.2.1.1 (PM_fl C.2.2.1) (o + 0) 0 (ho 0 _ rfl) rfl hin hd (kk p e2 R s m args below meth c H locs cells slots ls C hl)
theorem v_zald (q0 : Nat) {a n : Nat} {f : Nat → Int32} {i : Int32} (hM : M[q0]? = some (eZ a n f)) (hin : vp_in i n) (hd : decode Y.2.1 pc = .ok (.baload, 1)) (kk : V G Y Z d ck sk (pc + 1) L (.int (f i.toNatClampNeg) :: st) M) : V G Y Z d ck sk pc L (.int i :: .ref a :: st) M := by
  intro p e2 R s m args below meth c H locs cells slots ls C hl
  obtain ⟨o, ho, -⟩ := fl_at G hM
  exact va_zald C.1.1 C.1.2.1 C.1.2.2.2.2.2.2.2.1.1 (PM_fl C.2.2.1) (o + 0) 1 (ho 0 _ rfl) rfl hin hd (kk p e2 R s m args below meth c H locs cells slots ls C hl)
theorem v_aald (q0 : Nat) {t a n : Nat} {ty : FieldType} {f : Nat → Option Nat} {i : Int32} {v : Value} (hM : M[q0]? = some (eQ t a n f)) (ht : ∀ z : Cx, (tysG z)[t]? = some (z.2.2.1 t, ty)) (hr : ty.isReference = true) (hin : vp_in i n) (hv : va_rf (f i.toNatClampNeg) = v) (hd : decode Y.2.1 pc = .ok (.aaload, 1)) (kk : V G Y Z d ck sk (pc + 1) L (v :: st) M) : V G Y Z d ck sk pc L (.int i :: .ref a :: st) M := by
  intro p e2 R s m args below meth c H locs cells slots ls C hl
  have hc : H[a]? = some (vp_cell (G.2.2.1 t) (n, .inr (.inr (.inr (.inr f))))) := C.2.2.1 q0 _ hM
  have hlt : i.toNatClampNeg < n := Nat.not_le.mp fun q => hin (Or.inr q)
  subst hv
  exact W.aald (v := va_rf (f i.toNatClampNeg)) (ty := ty) C.1.1 C.1.2.1 hc ((C.1.2.2.2.2.2.2.2.1.1.2 t _ (ht G)).1 n (fun j => va_rf (f j))) hr (fun q => by cases q) (by show ¬ (i < 0 ∨ (arrV _ _ _).slots.size ≤ _); rw [arrV_size]; exact hin) (by show (arrV _ _ _).slots[_]? = _; rw [arrV_read _ _ hlt]) rfl rfl hd (kk p e2 R s m args below meth c H locs cells slots ls C hl)
theorem v_alen (q0 : Nat) {t a n : Nat} {ty : FieldType} {x : (Nat → Int32) ⊕ (Nat → Int64) ⊕ (Nat → UInt32) ⊕ (Nat → UInt64) ⊕ (Nat → Option Nat)} {v : Int32} (hM : M[q0]? = some (.inl (a, t, n, x))) (ht : ∀ z : Cx, (tysG z)[t]? = some (z.2.2.1 t, ty)) (hv : Int32.ofNat n = v) (hd : decode Y.2.1 pc = .ok (.arraylength, 1)) (kk : V G Y Z d ck sk (pc + 1) L (.int v :: st) M) : V G Y Z d ck sk pc L (.ref a :: st) M := by
  intro p e2 R s m args below meth c H locs cells slots ls C hl
  obtain ⟨o, ho, -⟩ := fl_at G hM
  exact va_alen C.1.1 C.1.2.1 C.1.2.2.2.2.2.2.2.1.1 (PM_fl C.2.2.1) (o + 0) t (ho 0 _ rfl) (ht G) hv hd (kk p e2 R s m args below meth c H locs cells slots ls C hl)
theorem v_iast (q0 : Nat) {a n : Nat} {f : Nat → Int32} {i x : Int32} (hM : M[q0]? = some (eI a n f)) (hin : vp_in i n) (hd : decode Y.2.1 pc = .ok (.iastore, 1)) (kk : V G Y Z d ck sk (pc + 1) L st (M.set q0 (eI a n (upd f i.toNatClampNeg x)))) : V G Y Z d ck sk pc L (.int x :: .int i :: .ref a :: st) M := by
  intro p e2 R s m args below meth c H locs cells slots ls C hl
  obtain ⟨o, ho, ho2⟩ := fl_at G hM
  refine va_iast C.1.1 C.1.2.1 C.1.2.2.2.2.2.2.2.1.1 (PM_fl C.2.2.1) (DM_fl C.2.2.2.1) C.2.2.2.2.1 (o + 0) 0 (ho 0 _ rfl) rfl hin hd (fun H1 locs1 hP1 _ hS1 => ?_)
  rw [ho2 0 _ (eI a n (upd f i.toNatClampNeg x)) (Nat.zero_lt_one) rfl] at hP1
  exact kk p e2 R s m args below meth c H1 locs1 cells slots ls (C.put hM trivial (fun _ h => h) hP1 hS1) hl
theorem v_zast (q0 : Nat) {a n : Nat} {f : Nat → Int32} {i x : Int32} (hM : M[q0]? = some (eZ a n f)) (hin : vp_in i n) (hx : vp_nar .boolean x = x) (hd : decode Y.2.1 pc = .ok (.bastore, 1)) (kk : V G Y Z d ck sk (pc + 1) L st (M.set q0 (eZ a n (upd f i.toNatClampNeg x)))) : V G Y Z d ck sk pc L (.int x :: .int i :: .ref a :: st) M := by
  intro p e2 R s m args below meth c H locs cells slots ls C hl
  obtain ⟨o, ho, ho2⟩ := fl_at G hM
  refine va_zast C.1.1 C.1.2.1 C.1.2.2.2.2.2.2.2.1.1 (PM_fl C.2.2.1) (DM_fl C.2.2.2.1) C.2.2.2.2.1 (o + 0) 1 (ho 0 _ rfl) rfl hin hd (fun H1 locs1 hP1 _ hS1 => ?_)
  rw [hx, ho2 0 _ (eZ a n (upd f i.toNatClampNeg x)) (Nat.zero_lt_one) rfl] at hP1
  exact kk p e2 R s m args below meth c H1 locs1 cells slots ls (C.put hM trivial (fun _ h => h) hP1 hS1) hl
/-- a new object -/
theorem v_new {index ci : Nat} {Cn : String} {T : u_T} {N : Nat} {ty0 : Nat → FieldType} {fs : List Value} (hc : vwCl[ci]? = some (Cn, T, N)) (hin : ∀ w ∈ u_ws Cn T N, w ∈ GW) (hty : ∀ k, k < N → parseFieldDescriptor (T k).2.2.1 = some (ty0 k)) (hcl : Cond.classLink Y.1.cls index Cn ∈ GW) (hinst : Cond.instantiable Cn N ∈ GW) (hini : Cond.initialized Cn ∈ GW)
    (hfs : ∀ j, j < N → defaultValue (ty0 j) = vp_V fs j) (hck : 1 ≤ ck) (hsk : N ≤ sk) (hd : decode Y.2.1 pc = .ok (.new index, 3)) (kk : ∀ q : Nat, V G Y Z d (ck - 1) (sk - N) (pc + 3) L (.ref q :: st) (M ++ [eO ci q fs])) : V G Y Z d ck sk pc L st M := by
  intro p e2 R s m args below meth c H locs cells slots ls C hl
  refine va_new C.1.1 C.1.2.1 C.1.2.2.2.2.2.2.1 hin ty0 hty C.1.2.2.2.2.2.1 (C.1.2.2.2.2.2.2.1 _ hcl) (C.1.2.2.2.2.2.2.1 _ hinst) (C.1.2.2.2.2.2.2.1 _ hini) C.1.2.2.2.2.2.2.2.1.1 (PM_fl C.2.2.1) (DM_fl C.2.2.2.1) C.2.2.2.2.1 (fun q hq => Or.inr (by rw [← C.2.1.1]; exact hq)) hc hfs (by have := C.2.1.2.2.2.2.1; omega) (by have := C.2.1.2.2.2.2.2; omega) hd (fun q H1 hP hD hS => ?_)
  exact kk q p e2 R s m args below meth c H1 locs (cells + 1) (slots + N) ls (C.new hck hsk trivial rfl (fun _ h => h) hP hD hS) hl
/-- a new array of ints or booleans (t: its kind), of longs -/
theorem v_newa {atype : ArrayType} {ty : FieldType} (t : Nat) {n : Int32} {N : Nat} {a0 : (Nat → Int32) ⊕ (Nat → Int64) ⊕ (Nat → UInt32) ⊕ (Nat → UInt64) ⊕ (Nat → Option Nat)} (hw : Cond.arrayClass (newarray.typeOf atype) ∈ GW) (hty : newarray.typeOf atype = ty) (ht : ∀ z : Cx, (tysG z)[t]? = some (z.2.2.1 t, ty)) (hob : ∀ C, ty ≠ .object C)
    (ha : ∀ cA : ClassId, vp_cell cA (N, a0) = arrV cA N (fun _ => defaultValue ty)) (hn : ¬ n < 0) (hN : n.toNatClampNeg = N) (hb : N * componentBytes ty ≤ 536870912) (hck : 1 ≤ ck) (hsk : N ≤ sk) (hd : decode Y.2.1 pc = .ok (.newarray atype, 2))
    (kk : ∀ q : Nat, V G Y Z d (ck - 1) (sk - N) (pc + 2) L (.ref q :: st) (M ++ [.inl (q, t, N, a0)])) : V G Y Z d ck sk pc L (.int n :: st) M := by
  intro p e2 R s m args below meth c H locs cells slots ls C hl
  refine va_newa (a0 := (N, a0)) C.1.1 C.1.2.1 (C.1.2.2.2.2.2.2.1 _ hw) hty C.1.2.2.2.2.2.2.2.1.1 (PM_fl C.2.2.1) (DM_fl C.2.2.2.1) C.2.2.2.2.1 (fun q hq => Or.inr (by rw [← C.2.1.1]; exact hq)) ha hn hN hb (by have := C.2.1.2.2.2.2.1; omega) (by have := C.2.1.2.2.2.2.2; omega) hd (fun q cA H1 hK hP hD hS => ?_)
  have h1 := (hK.2 (tysG G).length (cA, ty) (by rw [List.getElem?_append_right (Nat.le_refl _), Nat.sub_self]; rfl)).2
  have h2 := (C.1.2.2.2.2.2.2.2.1.1.2 t _ (ht G)).2
  have hcA : cA = G.2.2.1 t := by
    cases ty with
    | object Cn => exact absurd rfl (hob Cn)
    | _ => exact Option.some.inj (h1.symm.trans h2)
  subst hcA
  exact kk q p e2 R s m args below meth c H1 locs (cells + 1) (slots + N) ls (C.new hck hsk trivial rfl (fun _ h => h) hP hD hS) hl
/-- a new array of objects of one of our classes -/
theorem v_newq {index : Nat} (t : Nat) {Cn : String} {n : Int32} {N : Nat} (hcl : Cond.classLink Y.1.cls index Cn ∈ GW) (hov : Cond.arrayOver (.object Cn) ∈ NW) (ht : ∀ z : Cx, (tysG z)[t]? = some (z.2.2.1 t, .object Cn)) (hn : ¬ n < 0) (hN : n.toNatClampNeg = N) (hb : N * 4 ≤ 536870912) (hck : 1 ≤ ck) (hsk : N ≤ sk) (hd : decode Y.2.1 pc = .ok (.anewarray index, 3))
    (kk : ∀ q : Nat, V G Y Z d (ck - 1) (sk - N) (pc + 3) L (.ref q :: st) (M ++ [eQ t q N (fun _ => none)])) : V G Y Z d ck sk pc L (.int n :: st) M := by
  intro p e2 R s m args below meth c H locs cells slots ls C hl
  refine va_newq C.1.1 C.1.2.1 C.1.2.2.2.2.2.1 (C.1.2.2.2.2.2.2.1 _ hcl) (C.1.2.2.2.2.2.2.2.1.2.1 _ hov) C.1.2.2.2.2.2.2.2.1.1 (PM_fl C.2.2.1) (DM_fl C.2.2.2.1) C.2.2.2.2.1 (fun q hq => Or.inr (by rw [← C.2.1.1]; exact hq)) hn hN hb (by have := C.2.1.2.2.2.2.1; omega) (by have := C.2.1.2.2.2.2.2; omega) hd (fun q cA H1 hK hP hD hS => ?_)
  obtain ⟨k1, c1, -, -, -, h1⟩ := (hK.2 (tysG G).length (cA, .object Cn) (by rw [List.getElem?_append_right (Nat.le_refl _), Nat.sub_self]; rfl)).2
  obtain ⟨k2, c2, -, -, -, h2⟩ := (C.1.2.2.2.2.2.2.2.1.1.2 t _ (ht G)).2
  have hcA : cA = G.2.2.1 t := Option.some.inj (h1.symm.trans h2)
  subst hcA
  exact kk q p e2 R s m args below meth c H1 locs (cells + 1) (slots + N) ls (C.new hck hsk trivial rfl (fun _ h => h) hP hD hS) hl
/-- a reference to an object of ours is stored -/
theorem v_aastX (q0 : Nat) {qk ci i0 t a n v : Nat} {e : ME} {vs : List Value} {r : vw_C} {f : Nat → Option Nat} {i : Int32} (hM : M[q0]? = some (eQ t a n f)) (ht : ∀ z : Cx, (tysG z)[t]? = some (z.2.2.1 t, .object r.1)) (hMv : M[qk]? = some e) (hev : (ex G e)[i0]? = some (v, .inr (ci, vs))) (hc : vwCl[ci]? = some r) (hin : vp_in i n) (hd : decode Y.2.1 pc = .ok (.aastore, 1))
    (kk : V G Y Z d ck sk (pc + 1) L st (M.set q0 (eQ t a n (va_up f i.toNatClampNeg (some v))))) : V G Y Z d ck sk pc L (.ref v :: .int i :: .ref a :: st) M := by
  intro p e2 R s m args below meth c H locs cells slots ls C hl
  obtain ⟨o, ho, ho2⟩ := fl_at G hM
  obtain ⟨o', ho', -⟩ := fl_at G hMv
  refine va_astq C.1.1 C.1.2.1 C.1.2.2.2.2.2.2.2.1.1 (PM_fl C.2.2.1) (DM_fl C.2.2.2.1) C.2.2.2.2.1 (o + 0) t (o' + i0) ci (ho 0 _ rfl) (ht G) (ho' i0 _ hev) hc hin hd (fun H1 locs1 hP1 _ hS1 => ?_)
  rw [ho2 0 _ (eQ t a n (va_up f i.toNatClampNeg (some v))) (Nat.zero_lt_one) rfl] at hP1
  exact kk p e2 R s m args below meth c H1 locs1 cells slots ls (C.put hM trivial (fun _ h => h) hP1 hS1) hl
/-- System.arraycopy between int arrays -/
theorem v_copyi (qs qd : Nat) {index a0 n0 a1 n1 : Nat} {f g : Nat → Int32} {sp dp n : Int32} (hs : M[qs]? = some (eI a0 n0 f)) (hM : M[qd]? = some (eI a1 n1 g)) (hlink : Cond.methodLink Y.1.cls index arraycopyName ∈ GW) (hnat : Cond.native arraycopyName ∈ GW) (hstat : Cond.static arraycopyName ∈ GW) (hini : Cond.initialized "java/lang/System" ∈ GW)
    (h1 : ¬ sp < 0) (h2 : ¬ dp < 0) (h3 : ¬ n < 0) (h4 : sp.toNatClampNeg + n.toNatClampNeg ≤ n0) (h5 : dp.toNatClampNeg + n.toNatClampNeg ≤ n1) (hfr : 1 ≤ d) (hlo : (st.map fun v => v.category).sum + (nativeFrameWords "java/lang/System" "arraycopy" 5 + 11) ≤ 38 * d) (hd : decode Y.2.1 pc = .ok (.invokestatic index, 3))
    (kk : V G Y Z d ck sk (pc + 3) L st (M.set qd (eI a1 n1 (va_cpy f g sp.toNatClampNeg dp.toNatClampNeg n.toNatClampNeg)))) : V G Y Z d ck sk pc L (.int n :: .int dp :: .ref a1 :: .int sp :: .ref a0 :: st) M := by
  intro p e2 R s m args below meth c H locs cells slots ls C hl
  obtain ⟨o, ho, ho2⟩ := fl_at G hM
  obtain ⟨o', ho', -⟩ := fl_at G hs
  have hml : c.maxLocals = ls.size := by obtain ⟨as, q1, -⟩ := hl; rw [q1.1]; exact C.1.2.2.1
  refine va_copyi C.1.1 C.1.2.1 hml C.1.2.2.2.2.2.1 (C.1.2.2.2.2.2.2.1 _ hlink) (C.1.2.2.2.2.2.2.1 _ hnat) (C.1.2.2.2.2.2.2.1 _ hstat) (C.1.2.2.2.2.2.2.1 _ hini) C.1.2.2.2.2.2.2.2.1.1 (PM_fl C.2.2.1) (DM_fl C.2.2.2.1) C.2.2.2.2.1 (o' + 0) (o + 0) 0 0 (ty := .int) (ho' 0 _ rfl) (ho 0 _ rfl) rfl rfl rfl h1 h2 h3 h4 h5 (fun _ _ => rfl) (Nat.le_trans hfr C.2.1.2.2.1) (Nat.le_trans hlo C.2.1.2.2.2.1) hd (fun H1 locs1 hP1 _ hS1 => ?_)
  rw [ho2 0 _ (eI a1 n1 (va_cpy f g sp.toNatClampNeg dp.toNatClampNeg n.toNatClampNeg)) (Nat.zero_lt_one) rfl] at hP1
  exact kk p e2 R s m args below meth c H1 locs1 cells slots ls (C.put hM trivial (fun _ h => h) hP1 hS1) hl
/-- Math.max, Math.min of ints -/
theorem v_mmax {index : Nat} {x y : Int32} (hlink : Cond.methodLink Y.1.cls index Lib.Math.max.name ∈ GW) (hstat : Cond.static Lib.Math.max.name ∈ GW) (hini : Cond.initialized "java/lang/Math" ∈ GW) (hcode : Cond.code Lib.Math.max.name Lib.Math.max.code 2 (some .int) ∈ GW) (hfr : 1 ≤ d) (hlo : (st.map fun v => v.category).sum + 13 ≤ 38 * d) (hd : decode Y.2.1 pc = .ok (.invokestatic index, 3))
    (kk : V G Y Z d ck sk (pc + 3) L (.int (if x < y then y else x) :: st) M) : V G Y Z d ck sk pc L (.int y :: .int x :: st) M := by
  intro p e2 R s m args below meth c H locs cells slots ls C hl
  have hml : c.maxLocals = ls.size := by obtain ⟨as, q1, -⟩ := hl; rw [q1.1]; exact C.1.2.2.1
  exact va_mmax C.1.1 C.1.2.1 hml C.1.2.2.2.2.2.1 (C.1.2.2.2.2.2.2.1 _ hlink) (C.1.2.2.2.2.2.2.1 _ hstat) (C.1.2.2.2.2.2.2.1 _ hini) (C.1.2.2.2.2.2.2.1 _ hcode) (Nat.le_trans hfr C.2.1.2.2.1) (Nat.le_trans hlo C.2.1.2.2.2.1) (by have := C.2.1.2.2.2.2.1; omega) (by have := C.2.1.2.2.2.2.2; omega) hd (kk p e2 R s m args below meth c H locs cells slots ls C hl)
theorem v_mmin {index : Nat} {x y : Int32} (hlink : Cond.methodLink Y.1.cls index Lib.Math.min.name ∈ GW) (hstat : Cond.static Lib.Math.min.name ∈ GW) (hini : Cond.initialized "java/lang/Math" ∈ GW) (hcode : Cond.code Lib.Math.min.name Lib.Math.min.code 2 (some .int) ∈ GW) (hfr : 1 ≤ d) (hlo : (st.map fun v => v.category).sum + 13 ≤ 38 * d) (hd : decode Y.2.1 pc = .ok (.invokestatic index, 3))
    (kk : V G Y Z d ck sk (pc + 3) L (.int (if y < x then y else x) :: st) M) : V G Y Z d ck sk pc L (.int y :: .int x :: st) M := by
  intro p e2 R s m args below meth c H locs cells slots ls C hl
  have hml : c.maxLocals = ls.size := by obtain ⟨as, q1, -⟩ := hl; rw [q1.1]; exact C.1.2.2.1
  exact va_mmin C.1.1 C.1.2.1 hml C.1.2.2.2.2.2.1 (C.1.2.2.2.2.2.2.1 _ hlink) (C.1.2.2.2.2.2.2.1 _ hstat) (C.1.2.2.2.2.2.2.1 _ hini) (C.1.2.2.2.2.2.2.1 _ hcode) (Nat.le_trans hfr C.2.1.2.2.1) (Nat.le_trans hlo C.2.1.2.2.2.1) (by have := C.2.1.2.2.2.2.1; omega) (by have := C.2.1.2.2.2.2.2; omega) hd (kk p e2 R s m args below meth c H locs cells slots ls C hl)
theorem v_ldc {index : Nat} {v : Int32} (hw : Cond.constant Y.1.cls index v ∈ GW) (hd : decode Y.2.1 pc = .ok (.ldc index, 2)) (kk : V G Y Z d ck sk (pc + 2) L (.int v :: st) M) : V G Y Z d ck sk pc L st M := fun p e2 R s m args below meth c H locs cells slots ls C hl =>
  lv_ldc C.1.1 C.1.2.1 C.1.2.2.2.2.2.1 (C.1.2.2.2.2.2.2.1 _ hw) hd (kk p e2 R s m args below meth c H locs cells slots ls C hl)
theorem v_ldc2 {index : Nat} {v : Int64} (hw : Cond.constantLong Y.1.cls index v ∈ GW) (hd : decode Y.2.1 pc = .ok (.ldc2_w index, 3)) (kk : V G Y Z d ck sk (pc + 3) L (.long v :: st) M) : V G Y Z d ck sk pc L st M := fun p e2 R s m args below meth c H locs cells slots ls C hl =>
  lv_ldc2 C.1.1 C.1.2.1 C.1.2.2.2.2.2.1 (C.1.2.2.2.2.2.2.1 _ hw) hd (kk p e2 R s m args below meth c H locs cells slots ls C hl)
/-- Object.<init> -/
theorem v_objInit {index a : Nat} (hlink : Cond.methodLink Y.1.cls index objectInit ∈ GW) (hin : Cond.instanceMethod objectInit ∈ GW) (hcode : Cond.code objectInit ⟨#[0xb1]⟩ 1 none ∈ GW) (hfr : 1 ≤ d) (hlo : (st.map fun v => v.category).sum + 12 ≤ 38 * d) (hd : decode Y.2.1 pc = .ok (.invokespecial index, 3))
    (kk : V G Y Z d ck sk (pc + 3) L st M) : V G Y Z d ck sk pc L (.ref a :: st) M := by
  intro p e2 R s m args below meth c H locs cells slots ls C hl
  have hml : c.maxLocals = ls.size := by obtain ⟨as, q1, -⟩ := hl; rw [q1.1]; exact C.1.2.2.1
  refine W.objInit C.1.1 C.1.2.1 C.1.2.2.2.2.2.1 (C.1.2.2.2.2.2.2.1 _ hlink) (C.1.2.2.2.2.2.2.1 _ hin) (C.1.2.2.2.2.2.2.1 _ hcode) rfl (by rw [hml]) rfl hd (Nat.le_trans hfr C.2.1.2.2.1) (Nat.le_trans (by show 2 * 0 + _ + 12 ≤ 38 * d; omega) C.2.1.2.2.2.1) ?_
  exact kk p e2 R s m args below meth c H locs cells slots ls C hl
end VHEAP
