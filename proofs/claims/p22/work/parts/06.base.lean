/-! the world of a method: entries (an array, an object, or a family of objects of one class), and what all contracts share -/
/-- a cell: an array of a kind, or an object of a class -/
abbrev CE : Type := (Nat × vp_A) ⊕ (Nat × List Value)
abbrev ME : Type := (Nat × Nat × vp_A) ⊕ ((Nat × Nat × List Value) ⊕ ((Nat → Nat) × Nat × (Nat → CE)))
abbrev eI (a n : Nat) (f : Nat → Int32) : ME := .inl (a, 0, n, .inl f)
abbrev eZ (a n : Nat) (f : Nat → Int32) : ME := .inl (a, 1, n, .inl f)
abbrev eQ (t a n : Nat) (f : Nat → Option Nat) : ME := .inl (a, t, n, .inr (.inr (.inr (.inr f))))
abbrev eO (ci a : Nat) (fs : List Value) : ME := .inr (.inl (a, ci, fs))
abbrev eF (ci : Nat) (sa : Nat → Nat) (n : Nat) (F : Nat → List Value) : ME := .inr (.inr (sa, n, fun i => .inr (ci, F i)))
/-- a family of int arrays, each of k places -/
abbrev eG (sa : Nat → Nat) (n k : Nat) (F : Nat → Nat → Int32) : ME := .inr (.inr (sa, n, fun i => .inl (0, k, .inl (F i))))
/-- launch, class numbers and slots, array classes, the script's address, the first address of ours, the script's length and ints -/
abbrev Cx : Type := Launch × va_G × (Nat → ClassId) × Nat × Nat × Nat × (Nat → Int32)
abbrev cxB (G : Cx) : Nat := G.2.2.2.2.1
def tyG : List FieldType := [.int, .boolean, .object "SleighPostLaw$Sleigh", .object "SleighPost$Sleigh", .object "SleighPost$Bag", .array .int]
def tysG (G : Cx) : List (ClassId × FieldType) := [(G.2.2.1 0, .int), (G.2.2.1 1, .boolean), (G.2.2.1 2, .object "SleighPostLaw$Sleigh"), (G.2.2.1 3, .object "SleighPost$Sleigh"), (G.2.2.1 4, .object "SleighPost$Bag"), (G.2.2.1 5, .array .int)]
def cv (G : Cx) (x : CE) : va_E := match x with
  | .inl q => .inl (G.2.2.1 q.1, q.2)
  | .inr q => .inr q
def mh (G : Cx) (e : ME) (H : Heap) : Prop := match e with
  | .inl q => H[q.1]? = some (vp_cell (G.2.2.1 q.2.1) q.2.2)
  | .inr (.inl q) => va_at G.2.1 vwCl (q.1, .inr (q.2.1, q.2.2)) H
  | .inr (.inr q) => ∀ i, i < q.2.1 → va_at G.2.1 vwCl (q.1 i, cv G (q.2.2 i)) H
def ma (e : ME) (q : Nat) : Prop := match e with
  | .inl x => q = x.1
  | .inr (.inl x) => q = x.1
  | .inr (.inr x) => ∃ i, i < x.2.1 ∧ q = x.1 i
def mi (e : ME) : Prop := match e with
  | .inl _ => True
  | .inr (.inl _) => True
  | .inr (.inr x) => ∀ i j, i < x.2.1 → j < x.2.1 → x.1 i = x.1 j → i = j
def PM (G : Cx) (M : List ME) (H : Heap) : Prop := ∀ (k : Nat) (e : ME), M[k]? = some e → mh G e H
def DM (M : List ME) (A : Nat → Prop) : Prop := (∀ (i j : Nat) (e e' : ME) (q : Nat), M[i]? = some e → M[j]? = some e' → ma e q → ma e' q → i = j) ∧ (∀ (k : Nat) (e : ME), M[k]? = some e → mi e) ∧ ∀ (k : Nat) (e : ME) (q : Nat), M[k]? = some e → ma e q → A q
abbrev AM (M : List ME) (sz : Nat) : Nat → Prop := fun q => (∃ (k : Nat) (e : ME), M[k]? = some e ∧ ma e q) ∨ sz ≤ q
theorem mh_lt {G : Cx} {e : ME} {H : Heap} {q : Nat} (h : mh G e H) (hq : ma e q) : q < H.size := by
  rcases e with ⟨a, t, x⟩ | ⟨a, ci, fs⟩ | ⟨sa, n, F⟩
  · have hq : q = a := hq
    subst hq
    exact (Array.getElem?_eq_some_iff.mp h).1
  · have hq : q = a := hq
    subst hq
    have h : va_at G.2.1 vwCl (q, .inr (ci, fs)) H := h
    exact va_at.lt h
  · obtain ⟨i, hi, rfl⟩ := hq
    have h : va_at G.2.1 vwCl (sa i, cv G (F i)) H := h i hi
    exact va_at.lt h
theorem mh_kept {G : Cx} {e : ME} {H H1 : Heap} (h : mh G e H) (hq : ∀ q, ma e q → H1[q]? = H[q]?) : mh G e H1 := by
  rcases e with ⟨a, t, x⟩ | ⟨a, ci, fs⟩ | ⟨sa, n, F⟩
  · exact (hq a rfl).trans h
  · have h : va_at G.2.1 vwCl (a, .inr (ci, fs)) H := h
    exact va_at.kept h (hq a rfl)
  · exact fun i hi => va_at.kept (h i hi) (hq (sa i) ⟨i, hi, rfl⟩)
theorem PM.kept {G : Cx} {M : List ME} {H H1 : Heap} (h : PM G M H) (hq : ∀ (q k : Nat) (e : ME), M[k]? = some e → ma e q → H1[q]? = H[q]?) : PM G M H1 :=
  fun k e hk => mh_kept (h k e hk) (fun q hm => hq q k e hk hm)
theorem PM.set {G : Cx} {M : List ME} {H H1 : Heap} {A : Nat → Prop} {p : Nat} {e0 e1 : ME} (h : PM G M H) (hD : DM M A) (hp : M[p]? = some e0) (h1 : mh G e1 H1) (ho : ∀ q, ¬ ma e0 q → H1[q]? = H[q]?) : PM G (M.set p e1) H1 := by
  intro k e hk
  rw [List.getElem?_set] at hk
  split at hk
  · split at hk
    · cases hk; exact h1
    · cases hk
  · rename_i hne
    exact mh_kept (h k e hk) (fun q hm => ho q (fun h0 => hne (hD.1 p k e0 e q hp hk h0 hm)))
theorem DM.set {M : List ME} {A : Nat → Prop} {p : Nat} {e0 e1 : ME} (hD : DM M A) (hp : M[p]? = some e0) (h1 : mi e1) (hs : ∀ q, ma e1 q → ma e0 q) : DM (M.set p e1) A := by
  have key : ∀ (k : Nat) (e : ME), (M.set p e1)[k]? = some e → ∃ e', M[k]? = some e' ∧ (∀ q, ma e q → ma e' q) ∧ mi e := by
    intro k e hk
    rw [List.getElem?_set] at hk
    split at hk
    · split at hk
      · cases hk
        rename_i hpk _
        exact ⟨e0, by rw [← hpk]; exact hp, hs, h1⟩
      · cases hk
    · exact ⟨e, hk, fun q h => h, hD.2.1 k e hk⟩
  refine ⟨fun i j e e' q hi hj h2 h3 => ?_, fun k e hk => ?_, fun k e q hk h2 => ?_⟩
  · obtain ⟨x, hx, hx2, -⟩ := key i e hi
    obtain ⟨y, hy, hy2, -⟩ := key j e' hj
    exact hD.1 i j x y q hx hy (hx2 q h2) (hy2 q h3)
  · obtain ⟨x, hx, hx2, h⟩ := key k e hk
    exact h
  · obtain ⟨x, hx, hx2, -⟩ := key k e hk
    exact hD.2.2 k x q hx (hx2 q h2)
theorem PM.push {G : Cx} {M : List ME} {H : Heap} {e : ME} (h : PM G M H) (h1 : mh G e H) : PM G (M ++ [e]) H := by
  intro k x hk
  by_cases hl : k < M.length
  · rw [List.getElem?_append_left hl] at hk
    exact h k x hk
  · rw [List.getElem?_append_right (by omega)] at hk
    have hz : k - M.length < 1 := (List.getElem?_eq_some_iff.mp hk).1
    rw [show k - M.length = 0 by omega] at hk
    cases hk; exact h1
theorem DM.push {M : List ME} {A : Nat → Prop} {e : ME} (hD : DM M A) (h1 : mi e) (hA : ∀ q, ma e q → A q) (hn : ∀ (q k : Nat) (x : ME), M[k]? = some x → ma x q → ¬ ma e q) : DM (M ++ [e]) A := by
  have key : ∀ (k : Nat) (x : ME), (M ++ [e])[k]? = some x → (k < M.length ∧ M[k]? = some x) ∨ (k = M.length ∧ x = e) := by
    intro k x hk
    by_cases hl : k < M.length
    · rw [List.getElem?_append_left hl] at hk
      exact Or.inl ⟨hl, hk⟩
    · rw [List.getElem?_append_right (by omega)] at hk
      have hz : k - M.length < 1 := (List.getElem?_eq_some_iff.mp hk).1
      rw [show k - M.length = 0 by omega] at hk
      cases hk; exact Or.inr ⟨by omega, rfl⟩
  refine ⟨fun i j x y q hi hj h2 h3 => ?_, fun k x hk => ?_, fun k x q hk h2 => ?_⟩
  · rcases key i x hi with ⟨a1, a2⟩ | ⟨a1, rfl⟩ <;> rcases key j y hj with ⟨b1, b2⟩ | ⟨b1, rfl⟩
    · exact hD.1 i j x y q a2 b2 h2 h3
    · exact absurd h3 (hn q i x a2 h2)
    · exact absurd h2 (hn q j y b2 h3)
    · omega
  · rcases key k x hk with ⟨a1, a2⟩ | ⟨a1, rfl⟩
    · exact hD.2.1 k x a2
    · exact h1
  · rcases key k x hk with ⟨a1, a2⟩ | ⟨a1, rfl⟩
    · exact hD.2.2 k x q a2 h2
    · exact hA q h2
theorem DM.weaken {M : List ME} {A B : Nat → Prop} (hD : DM M A) (h : ∀ q, A q → B q) : DM M B := ⟨hD.1, hD.2.1, fun k e q hk hq => h q (hD.2.2 k e q hk hq)⟩
theorem DM.self {M : List ME} {A : Nat → Prop} (hD : DM M A) (sz : Nat) : DM M (AM M sz) := ⟨hD.1, hD.2.1, fun k e q hk hq => Or.inl ⟨k, e, hk, hq⟩⟩
/-- a callee's entries put back at their places, new ones at the end -/
def wb : List Nat → List ME → List ME → List ME
  | [], N, M => M ++ N
  | p :: ps, N, M => match N with
    | [] => M
    | e :: N => wb ps N (M.set p e)
/-- where each entry of 'wb' comes from -/
theorem wb_from : ∀ (ps : List Nat) (M N : List ME) (len : Nat), M.length = len → (∀ p ∈ ps, p < len) → ps.Nodup → ps.length ≤ N.length →
    ∀ (k : Nat) (e : ME), (wb ps N M)[k]? = some e → (k ∉ ps ∧ M[k]? = some e) ∨ ∃ i, N[i]? = some e ∧ (ps[i]? = some k ∨ (ps.length ≤ i ∧ k = len + (i - ps.length)))
  | [], M, N, len, hl, _, _, _, k, e, h => by
    have h : (M ++ N)[k]? = some e := h
    by_cases hk : k < M.length
    · rw [List.getElem?_append_left hk] at h
      exact Or.inl ⟨List.not_mem_nil, h⟩
    · rw [List.getElem?_append_right (by omega)] at h
      exact Or.inr ⟨k - M.length, h, Or.inr ⟨Nat.zero_le _, by simp; omega⟩⟩
  | p :: ps, M, [], len, _, _, _, hN, k, e, h => by simp at hN
  | p :: ps, M, x :: N, len, hl, hp, hn, hN, k, e, h => by
    have h : (wb ps N (M.set p x))[k]? = some e := h
    have hn' := List.nodup_cons.mp hn
    rcases wb_from ps (M.set p x) N len (by rw [List.length_set]; exact hl) (fun q hq => hp q (List.mem_cons_of_mem _ hq)) hn'.2 (by simp at hN; omega) k e h with ⟨h1, h2⟩ | ⟨i, h1, h2⟩
    · rw [List.getElem?_set] at h2
      split at h2
      · rename_i hpk
        split at h2
        · cases h2
          exact Or.inr ⟨0, rfl, Or.inl (by rw [← hpk]; rfl)⟩
        · cases h2
      · rename_i hpk
        exact Or.inl ⟨fun hm => (List.mem_cons.mp hm).elim (fun z => hpk z.symm) h1, h2⟩
    · refine Or.inr ⟨i + 1, h1, ?_⟩
      rcases h2 with h2 | ⟨h2, h3⟩
      · exact Or.inl h2
      · exact Or.inr ⟨by simp; omega, by simp; omega⟩
/-- which words the callee's world Mc has among M -/
def isPart (M Mc : List ME) (ps : List Nat) : Prop := ps.map (fun k => M[k]?) = Mc.map some
theorem isPart.at {M Mc : List ME} {ps : List Nat} (h : isPart M Mc ps) {i : Nat} {e : ME} (hi : Mc[i]? = some e) : ∃ p, ps[i]? = some p ∧ M[p]? = some e := by
  have h1 : (ps.map (fun k => M[k]?))[i]? = some (some e) := by rw [h, List.getElem?_map, hi]; rfl
  rw [List.getElem?_map] at h1
  cases hp : ps[i]? with
  | none => rw [hp] at h1; cases h1
  | some p => rw [hp] at h1; exact ⟨p, rfl, Option.some.inj h1⟩
theorem isPart.len {M Mc : List ME} {ps : List Nat} (h : isPart M Mc ps) : ps.length = Mc.length := by
  have := congrArg List.length h
  simpa using this
theorem isPart.lt {M Mc : List ME} {ps : List Nat} (h : isPart M Mc ps) : ∀ p ∈ ps, p < M.length := by
  intro p hp
  obtain ⟨i, hi⟩ := List.getElem?_of_mem hp
  have hl := h.len
  have hi2 : i < Mc.length := by rw [← hl]; exact (List.getElem?_eq_some_iff.mp hi).1
  obtain ⟨q, h1, h2⟩ := h.at (List.getElem?_eq_getElem hi2)
  cases hi.symm.trans h1
  exact (List.getElem?_eq_some_iff.mp h2).1
theorem nd_inj : ∀ {l : List Nat}, l.Nodup → ∀ {i j a : Nat}, l[i]? = some a → l[j]? = some a → i = j
  | [], _, i, j, a, hi, _ => by simp at hi
  | x :: l, hl, 0, 0, a, _, _ => rfl
  | x :: l, hl, 0, j + 1, a, hi, hj => by
    have hi : x = a := Option.some.inj hi
    have hj : l[j]? = some a := hj
    exact absurd (List.mem_of_getElem? hj) (by rw [← hi]; exact (List.nodup_cons.mp hl).1)
  | x :: l, hl, i + 1, 0, a, hi, hj => by
    have hj : x = a := Option.some.inj hj
    have hi : l[i]? = some a := hi
    exact absurd (List.mem_of_getElem? hi) (by rw [← hj]; exact (List.nodup_cons.mp hl).1)
  | x :: l, hl, i + 1, j + 1, a, hi, hj => by
    have hi : l[i]? = some a := hi
    have hj : l[j]? = some a := hj
    rw [nd_inj (List.nodup_cons.mp hl).2 hi hj]
theorem isPart.PM {G : Cx} {M Mc : List ME} {ps : List Nat} {H : Heap} (h : isPart M Mc ps) (hP : PM G M H) : PM G Mc H := fun i e hi => by
  obtain ⟨p, -, h2⟩ := h.at hi
  exact hP p e h2
theorem isPart.DM {M Mc : List ME} {ps : List Nat} {A : Nat → Prop} (h : isPart M Mc ps) (hn : ps.Nodup) (hD : DM M A) : DM Mc A := by
  refine ⟨fun i j e e' q hi hj h1 h2 => ?_, fun i e hi => ?_, fun i e q hi h1 => ?_⟩
  · obtain ⟨p, hp, h3⟩ := h.at hi
    obtain ⟨p', hp', h4⟩ := h.at hj
    have := hD.1 p p' e e' q h3 h4 h1 h2
    subst this
    exact nd_inj hn hp hp'
  · obtain ⟨p, hp, h3⟩ := h.at hi
    exact hD.2.1 p e h3
  · obtain ⟨p, hp, h3⟩ := h.at hi
    exact hD.2.2 p e q h3 h1
/-- behind a call: the callee's world is back among the caller's -/
theorem wb_world {G : Cx} {M Mc N : List ME} {ps : List Nat} {A : Nat → Prop} {H H1 : Heap} (hP : PM G M H) (hD : DM M A) (hpt : isPart M Mc ps) (hn : ps.Nodup) (hlen : ps.length ≤ N.length)
    (hk : ∀ q : Nat, q < H.size → ¬ AM Mc H.size q → H1[q]? = H[q]?) (hA : ∀ q, H.size ≤ q → A q) (hP1 : PM G N H1) (hD1 : DM N (AM Mc H.size)) : PM G (wb ps N M) H1 ∧ DM (wb ps N M) A := by
  have fr := wb_from ps M N M.length rfl hpt.lt hn hlen
  have hAc : ∀ q, AM Mc H.size q → A q := by
    intro q hq
    rcases hq with ⟨i, e, hi, hm⟩ | hq
    · obtain ⟨p, -, h2⟩ := hpt.at hi
      exact hD.2.2 p e q h2 hm
    · exact hA q hq
  have off : ∀ (k : Nat) (e : ME) (q : Nat), k ∉ ps → M[k]? = some e → ma e q → q < H.size ∧ ¬ AM Mc H.size q := by
    intro k e q hkp hk2 hm
    have hlt := mh_lt (hP k e hk2) hm
    refine ⟨hlt, fun h => ?_⟩
    rcases h with ⟨i, e2, hi, hm2⟩ | h
    · obtain ⟨p, hp, h2⟩ := hpt.at hi
      have := hD.1 k p e e2 q hk2 h2 hm hm2
      subst this
      exact hkp (List.mem_of_getElem? hp)
    · omega
  refine ⟨fun k e hk2 => ?_, fun i j e e' q hi hj h1 h2 => ?_, fun k e hk2 => ?_, fun k e q hk2 hm => ?_⟩
  · rcases fr k e hk2 with ⟨h1, h2⟩ | ⟨i, h1, -⟩
    · exact mh_kept (hP k e h2) (fun q hm => hk q (off k e q h1 h2 hm).1 (off k e q h1 h2 hm).2)
    · exact hP1 i e h1
  · rcases fr i e hi with ⟨a1, a2⟩ | ⟨x, a1, a2⟩ <;> rcases fr j e' hj with ⟨b1, b2⟩ | ⟨y, b1, b2⟩
    · exact hD.1 i j e e' q a2 b2 h1 h2
    · exact absurd (hD1.2.2 y e' q b1 h2) (off i e q a1 a2 h1).2
    · exact absurd (hD1.2.2 x e q a1 h1) (off j e' q b1 b2 h2).2
    · have hxy := hD1.1 x y e e' q a1 b1 h1 h2
      subst hxy
      rcases a2 with a2 | ⟨a2, a3⟩ <;> rcases b2 with b2 | ⟨b2, b3⟩
      · exact Option.some.inj (a2.symm.trans b2)
      · have := (List.getElem?_eq_some_iff.mp a2).1
        omega
      · have := (List.getElem?_eq_some_iff.mp b2).1
        omega
      · omega
  · rcases fr k e hk2 with ⟨h1, h2⟩ | ⟨i, h1, -⟩
    · exact hD.2.1 k e h2
    · exact hD1.2.1 i e h1
  · rcases fr k e hk2 with ⟨h1, h2⟩ | ⟨i, h1, -⟩
    · exact hD.2.2 k e q h2 hm
    · exact hAc q (hD1.2.2 i e q h1 hm)
