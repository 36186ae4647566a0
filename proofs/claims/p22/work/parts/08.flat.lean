/-! the entries laid flat: the kit's own list of cells -/
def ex (G : Cx) (e : ME) : va_W := match e with
  | .inl x => [(x.1, .inl (G.2.2.1 x.2.1, x.2.2))]
  | .inr (.inl x) => [(x.1, .inr (x.2.1, x.2.2))]
  | .inr (.inr x) => (List.range x.2.1).map (fun i => (x.1 i, cv G (x.2.2 i)))
def fl (G : Cx) : List ME → va_W
  | [] => []
  | e :: M => ex G e ++ fl G M
theorem fl_app (G : Cx) : ∀ M N : List ME, fl G (M ++ N) = fl G M ++ fl G N
  | [], N => rfl
  | e :: M, N => by
    show ex G e ++ fl G (M ++ N) = ex G e ++ fl G M ++ fl G N
    rw [fl_app G M N, List.append_assoc]
theorem at_split {α : Type} : ∀ {M : List α} {p : Nat} {e : α}, M[p]? = some e → ∃ pre suf : List α, M = pre ++ e :: suf ∧ pre.length = p
  | [], p, e, h => by simp at h
  | x :: M, 0, e, h => by
    have h : some x = some e := h
    cases h
    exact ⟨[], M, rfl, rfl⟩
  | x :: M, p + 1, e, h => by
    have h : M[p]? = some e := h
    obtain ⟨pre, suf, h1, h2⟩ := at_split h
    exact ⟨x :: pre, suf, by rw [h1]; rfl, by simp [h2]⟩
theorem set_split {α : Type} : ∀ (pre suf : List α) (e e1 : α), (pre ++ e :: suf).set pre.length e1 = pre ++ e1 :: suf
  | [], suf, e, e1 => rfl
  | x :: pre, suf, e, e1 => by
    show x :: (pre ++ e :: suf).set pre.length e1 = x :: (pre ++ e1 :: suf)
    rw [set_split pre suf e e1]
/-- where an entry's cells lie in the flat list, and what a write there does -/
theorem fl_at (G : Cx) {M : List ME} {p : Nat} {e : ME} (h : M[p]? = some e) : ∃ o : Nat, (∀ (j : Nat) (x : Nat × va_E), (ex G e)[j]? = some x → (fl G M)[o + j]? = some x) ∧
    ∀ (j : Nat) (x : Nat × va_E) (e1 : ME), j < (ex G e).length → ex G e1 = (ex G e).set j x → (fl G M).set (o + j) x = fl G (M.set p e1) := by
  obtain ⟨pre, suf, rfl, rfl⟩ := at_split h
  refine ⟨(fl G pre).length, fun j x hx => ?_, fun j x e1 hj he => ?_⟩
  · rw [fl_app, List.getElem?_append_right (by omega), Nat.add_sub_cancel_left]
    show (ex G e ++ fl G suf)[j]? = some x
    rw [List.getElem?_append_left (List.getElem?_eq_some_iff.mp hx).1]
    exact hx
  · rw [set_split, fl_app, fl_app]
    show (fl G pre ++ (ex G e ++ fl G suf)).set ((fl G pre).length + j) x = fl G pre ++ (ex G e1 ++ fl G suf)
    rw [List.set_append_right _ _ (by omega), Nat.add_sub_cancel_left, List.set_append_left _ _ hj, he]
theorem ex_mem {G : Cx} {e : ME} {x : Nat × va_E} (h : x ∈ ex G e) : ma e x.1 ∧ ∀ H, mh G e H → va_at G.2.1 vwCl x H := by
  rcases e with ⟨a, t, y⟩ | ⟨a, ci, fs⟩ | ⟨sa, n, F⟩
  · cases List.mem_singleton.mp h
    exact ⟨rfl, fun H h => h⟩
  · cases List.mem_singleton.mp h
    exact ⟨rfl, fun H h => h⟩
  · obtain ⟨i, hi, rfl⟩ := List.mem_map.mp h
    exact ⟨⟨i, List.mem_range.mp hi, rfl⟩, fun H h => h i (List.mem_range.mp hi)⟩
theorem ex_of {G : Cx} {e : ME} {H : Heap} (h : ∀ x ∈ ex G e, va_at G.2.1 vwCl x H) : mh G e H := by
  rcases e with ⟨a, t, y⟩ | ⟨a, ci, fs⟩ | ⟨sa, n, F⟩
  · exact h _ (List.mem_singleton.mpr rfl)
  · exact h _ (List.mem_singleton.mpr rfl)
  · exact fun i hi => h _ (List.mem_map.mpr ⟨i, List.mem_range.mpr hi, rfl⟩)
theorem ex_inj {G : Cx} {e : ME} (h : mi e) {i j : Nat} {x y : Nat × va_E} (hi : (ex G e)[i]? = some x) (hj : (ex G e)[j]? = some y) (hxy : x.1 = y.1) : i = j := by
  rcases e with ⟨a, t, z⟩ | ⟨a, ci, fs⟩ | ⟨sa, n, F⟩
  · have h1 : i < 1 := (List.getElem?_eq_some_iff.mp hi).1
    have h2 : j < 1 := (List.getElem?_eq_some_iff.mp hj).1
    omega
  · have h1 : i < 1 := (List.getElem?_eq_some_iff.mp hi).1
    have h2 : j < 1 := (List.getElem?_eq_some_iff.mp hj).1
    omega
  · have hi : ((List.range n).map (fun i => ((sa i, cv G (F i)) : Nat × va_E)))[i]? = some x := hi
    have hj : ((List.range n).map (fun i => ((sa i, cv G (F i)) : Nat × va_E)))[j]? = some y := hj
    have h1 : i < n := by simpa using (List.getElem?_eq_some_iff.mp hi).1
    have h2 : j < n := by simpa using (List.getElem?_eq_some_iff.mp hj).1
    rw [List.getElem?_map, List.getElem?_range h1] at hi
    rw [List.getElem?_map, List.getElem?_range h2] at hj
    cases hi; cases hj
    exact h i j h1 h2 hxy
theorem fl_mem {G : Cx} : ∀ {M : List ME} {x : Nat × va_E}, x ∈ fl G M → ∃ (k : Nat) (e : ME), M[k]? = some e ∧ x ∈ ex G e
  | [], x, h => by cases h
  | e :: M, x, h => by
    rcases List.mem_append.mp h with h | h
    · exact ⟨0, e, rfl, h⟩
    · obtain ⟨k, e', h1, h2⟩ := fl_mem h
      exact ⟨k + 1, e', h1, h2⟩
theorem fl_in {G : Cx} : ∀ {M : List ME} {k : Nat} {e : ME} {x : Nat × va_E}, M[k]? = some e → x ∈ ex G e → x ∈ fl G M
  | [], k, e, x, h, _ => by simp at h
  | y :: M, 0, e, x, h, hx => by
    have h : some y = some e := h
    cases h
    exact List.mem_append_left _ hx
  | y :: M, k + 1, e, x, h, hx => List.mem_append_right _ (fl_in (M := M) (k := k) h hx)
theorem PM_fl {G : Cx} {M : List ME} {H : Heap} (h : PM G M H) : va_P G.2.1 vwCl (fl G M) H := fun i x hx => by
  obtain ⟨k, e, h1, h2⟩ := fl_mem (List.mem_of_getElem? hx)
  exact (ex_mem h2).2 H (h k e h1)
theorem PM_of_fl {G : Cx} {M : List ME} {H : Heap} (h : va_P G.2.1 vwCl (fl G M) H) : PM G M H := fun k e hk => ex_of (fun x hx => by
  obtain ⟨i, hi⟩ := List.getElem?_of_mem (fl_in hk hx)
  exact h i x hi)
theorem DM.tail {e : ME} {M : List ME} {A : Nat → Prop} (h : DM (e :: M) A) : DM M A :=
  ⟨fun i j x y q hi hj h1 h2 => Nat.succ.inj (h.1 (i + 1) (j + 1) x y q hi hj h1 h2), fun k x hk => h.2.1 (k + 1) x hk, fun k x q hk h1 => h.2.2 (k + 1) x q hk h1⟩
theorem DM_fl {G : Cx} {A : Nat → Prop} : ∀ {M : List ME}, DM M A → va_D A (fl G M)
  | [], _ => ⟨fun i j x y hi => by simp [fl] at hi, fun k x hk => by simp [fl] at hk⟩
  | e :: M, h => by
    have ih := DM_fl (G := G) (DM.tail h)
    have h0 : va_D A (ex G e) := ⟨fun i j x y hi hj hxy => ex_inj (h.2.1 0 e rfl) hi hj hxy, fun k x hk => h.2.2 0 e x.1 rfl (ex_mem (List.mem_of_getElem? hk)).1⟩
    refine va_D.app h0 ih (fun i j x y hi hj hxy => ?_)
    obtain ⟨k, e', h1, h2⟩ := fl_mem (List.mem_of_getElem? hj)
    have := h.1 0 (k + 1) e e' x.1 rfl h1 (ex_mem (List.mem_of_getElem? hi)).1 (by rw [hxy]; exact (ex_mem h2).1)
    omega
/-- what a new cell's address is not -/
theorem DM_fresh {G : Cx} {M : List ME} {A : Nat → Prop} {q : Nat} {w : va_E} (h : va_D A (fl G M ++ [(q, w)])) : A q ∧ ∀ (z k : Nat) (x : ME), M[k]? = some x → ma x z → ¬ z = q := by
  have hlast : (fl G M ++ [(q, w)])[(fl G M).length]? = some (q, w) := by
    rw [List.getElem?_append_right (Nat.le_refl _), Nat.sub_self]; rfl
  refine ⟨h.2 _ _ hlast, fun z k x hk hm hz => ?_⟩
  have : ∃ y : Nat × va_E, y ∈ ex G x ∧ y.1 = z := by
    rcases x with ⟨a, t, y⟩ | ⟨a, ci, fs⟩ | ⟨sa, n, F⟩
    · exact ⟨_, List.mem_singleton.mpr rfl, hm.symm⟩
    · exact ⟨_, List.mem_singleton.mpr rfl, hm.symm⟩
    · obtain ⟨i, hi, rfl⟩ := hm
      exact ⟨_, List.mem_map.mpr ⟨i, List.mem_range.mpr hi, rfl⟩, rfl⟩
  obtain ⟨y, hy, hy2⟩ := this
  obtain ⟨i, hi⟩ := List.getElem?_of_mem (fl_in hk hy)
  have hil : i < (fl G M).length := (List.getElem?_eq_some_iff.mp hi).1
  have := h.1 i (fl G M).length y (q, w) (by rw [List.getElem?_append_left hil]; exact hi) hlast (by rw [hy2, hz])
  omega
/-! the world behind a write to one cell, behind a new cell -/
section CXS
variable {G : Cx} {Y : MI} {Z : ZT} {d ck sk : Nat} {M : List ME} {p : Program} {R : Room} {s : State} {m : MethodId} {args : Array Value} {meth : Method} {c : Code} {H : Heap} {locs : List Loc} {cells slots : Nat}
theorem CX.put {pl : Nat} {e0 e1 : ME} {H1 : Heap} {locs1 : List Loc} (C : CX G Y Z d ck sk M p R s m args meth c H locs cells slots) (hp : M[pl]? = some e0) (h1 : mi e1) (hs : ∀ q, ma e1 q → ma e0 q)
    (hP : va_P G.2.1 vwCl (fl G (M.set pl e1)) H1) (hS : va_S (AM Z.1 Z.2.1) s.heap H1 locs1) : CX G Y Z d ck sk (M.set pl e1) p R s m args meth c H1 locs1 cells slots :=
  ⟨C.1, C.2.1, PM_of_fl hP, C.2.2.2.1.set hp h1 hs, hS, C.2.2.2.2.2⟩
theorem CX.new {e : ME} {q n : Nat} {w : va_E} {H1 : Heap} (C : CX G Y Z d ck sk M p R s m args meth c H locs cells slots) (hc : 1 ≤ ck) (hn : n ≤ sk) (h1 : mi e) (he : ex G e = [(q, w)]) (hs : ∀ z, ma e z → z = q)
    (hP : va_P G.2.1 vwCl (fl G M ++ [(q, w)]) H1) (hD : va_D (AM Z.1 Z.2.1) (fl G M ++ [(q, w)])) (hS : va_S (AM Z.1 Z.2.1) s.heap H1 locs) : CX G Y Z d (ck - 1) (sk - n) (M ++ [e]) p R s m args meth c H1 locs (cells + 1) (slots + n) := by
  obtain ⟨f1, f2⟩ := DM_fresh hD
  have hfl : fl G (M ++ [e]) = fl G M ++ [(q, w)] := by
    rw [fl_app]
    show fl G M ++ (ex G e ++ []) = _
    rw [he, List.append_nil]
  refine ⟨C.1, ⟨C.2.1.1, C.2.1.2.1, C.2.1.2.2.1, C.2.1.2.2.2.1, ?_, ?_⟩, PM_of_fl (by rw [hfl]; exact hP), C.2.2.2.1.push h1 (fun z hz => by rw [hs z hz]; exact f1) (fun z k x hk hm hz => f2 z k x hk hm (hs z hz)), hS, C.2.2.2.2.2⟩
  · have := C.2.1.2.2.2.2.1; omega
  · have := C.2.1.2.2.2.2.2; omega
end CXS
