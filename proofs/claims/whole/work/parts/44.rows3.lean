/-! arrays of arrays; an array's clone -/
theorem tsI : FieldType.int.toString = "I" := by decide +kernel
theorem tsAI : (FieldType.array .int).toString = "[I" := by decide +kernel
section VARR
variable {G : Cx} {Y : MI} {Z : ZT} {d ck sk pc : Nat} {L : List (Option Value)} {st : List Value} {M : List ME}
theorem v_newA {index : Nat} {n : Int32} {N : Nat} (hcl : Cond.classLink Y.1.cls index "[I" ∈ GW) (hov : Cond.arrayOver (.array .int) ∈ NW) (hn : ¬ n < 0) (hN : n.toNatClampNeg = N) (hb : N * 4 ≤ 536870912) (hck : 1 ≤ ck) (hsk : N ≤ sk) (hd : decode Y.2.1 pc = .ok (.anewarray index, 3))
    (kk : ∀ q : Nat, V G Y Z d (ck - 1) (sk - N) (pc + 3) L (.ref q :: st) (M ++ [eQ 5 q N (fun _ => none)])) : V G Y Z d ck sk pc L (.int n :: st) M := by
  intro p e2 R s m args below meth c H locs cells slots ls C hl
  subst hN
  refine W.anewA (t := .int) C.1.1 C.1.2.1 C.1.2.2.2.2.2.1 (by rw [tsAI]; exact C.1.2.2.2.2.2.2.1 _ hcl) (NW_use hov (C.1.2.2.2.2.2.2.2.1.2.1 _ hov)) rfl hd rfl hn hb (by have := C.2.1.2.2.2.2.1; omega) (by have := C.2.1.2.2.2.2.2; omega) fun cA kA comp f1 f2 f3 f4 => ?_
  have hKr : va_RA s (G.2.2.1 5) (.array .int) := (C.1.2.2.2.2.2.2.2.1.1.2 5 (G.2.2.1 5, .array .int) rfl).2
  have hcA : cA = G.2.2.1 5 := Option.some.inj (f1.symm.trans hKr)
  subst hcA
  have hP := PM_fl C.2.2.1
  have hS := C.2.2.2.2.1
  generalize hH1 : H.push ({ cls := G.2.2.1 5, slots := Array.replicate n.toNatClampNeg .null, vm := .none } : Cell) = H1
  have z1 : H1.size = H.size + 1 := by rw [← hH1, Array.size_push]
  have e1 : H1[H.size]? = some (arrV (G.2.2.1 5) n.toNatClampNeg (fun _ => .null)) := by rw [← hH1, Array.getElem?_push_size, ← arrV_new]
  have o1 : ∀ q : Nat, q < H.size → H1[q]? = H[q]? := fun q hq => by rw [← hH1, Array.getElem?_push, if_neg (Nat.ne_of_lt hq)]
  have hk : ∀ (k : Nat) (x : Nat × va_E), (fl G M)[k]? = some x → H1[x.1]? = H[x.1]? := fun k x hx => o1 x.1 ((hP k x hx).lt)
  refine kk H.size p e2 R s m args below meth c H1 locs (cells + 1) (slots + n.toNatClampNeg) ls (C.new (w := .inl (G.2.2.1 5, n.toNatClampNeg, .inr (.inr (.inr (.inr (fun _ => none)))))) hck hsk trivial rfl (fun _ h => h) ((hP.kept hk).app (fun k x hx => ?_)) ((DM_fl C.2.2.2.1).push hP rfl (Or.inr (by rw [← C.2.1.1]; exact hS.1))) ⟨Nat.le_trans hS.1 (by omega), fun x h1 h2 => (o1 x (Nat.lt_of_lt_of_le h1 hS.1)).trans (hS.2.1 x h1 h2), hS.2.2⟩) hl
  have hz : k < 1 := (List.getElem?_eq_some_iff.mp hx).1
  rw [show k = 0 by omega] at hx
  cases hx
  show H1[H.size]? = some (vp_cell _ _)
  rw [vp_cell_q]
  exact e1
theorem v_clone (q0 : Nat) {index a n : Nat} {f : Nat → Int32} (hM : M[q0]? = some (eI a n f)) (hlink : Cond.methodLink Y.1.cls index ⟨"[I", "clone", "()Ljava/lang/Object;"⟩ ∈ GW) (hsame : Cond.sameMethod "[I" "java/lang/Object" "clone" "()Ljava/lang/Object;" ∈ GW) (hnat : Cond.native ⟨"java/lang/Object", "clone", "()Ljava/lang/Object;"⟩ ∈ GW) (hinst : Cond.instanceMethod ⟨"java/lang/Object", "clone", "()Ljava/lang/Object;"⟩ ∈ GW)
    (hsel : Cond.selects "[I" ⟨"[I", "clone", "()Ljava/lang/Object;"⟩ ⟨"java/lang/Object", "clone", "()Ljava/lang/Object;"⟩ ∈ GW) (hcl : Cond.castable "[I" "java/lang/Cloneable" ∈ NW) (hfr : 1 ≤ d) (hlo : (st.map fun v => v.category).sum + 14 ≤ 38 * d) (hck : 1 ≤ ck) (hsk : n ≤ sk) (hd : decode Y.2.1 pc = .ok (.invokevirtual index, 3))
    (kk : ∀ q : Nat, V G Y Z d (ck - 1) (sk - n) (pc + 3) L (.ref q :: st) (M ++ [eI q n f])) : V G Y Z d ck sk pc L (.ref a :: st) M := by
  intro p e2 R s m args below meth c H locs cells slots ls C hl
  obtain ⟨o, ho, -⟩ := fl_at G hM
  have hml : c.maxLocals = ls.size := by obtain ⟨as, q1, -⟩ := hl; rw [q1.1]; exact C.1.2.2.1
  have hts := C.1.2.2.2.2.2.2.1
  refine va_clone C.1.1 C.1.2.1 hml C.1.2.2.2.2.2.1 (hts _ hlink) (hts _ hsame) (hts _ hnat) (hts _ hinst) (hts _ hsel) (C.1.2.2.2.2.2.2.2.1.2.1 _ hcl) C.1.2.2.2.2.2.2.2.1.1 (PM_fl C.2.2.1) (DM_fl C.2.2.2.1) C.2.2.2.2.1 (fun q hq => Or.inr (by rw [← C.2.1.1]; exact hq)) (o + 0) 0 (x := (n, .inl f)) (ty := .int) (ho 0 _ rfl) rfl
    (va_nm_int (C.1.2.2.2.2.2.2.2.1.1.2 0 (G.2.2.1 0, .int) rfl).2) (fun i v hv => by rw [vp_cell_i] at hv; exact va_fit (fun _ _ => rfl) i v hv) (Nat.le_trans hfr C.2.1.2.2.1) (Nat.le_trans hlo C.2.1.2.2.2.1) (by have := C.2.1.2.2.2.2.1; omega) (by have h9 := C.2.1.2.2.2.2.2; show slots + n ≤ R.slots; omega) hd (fun q H1 _ hP hD hS => ?_)
  exact kk q p e2 R s m args below meth c H1 locs (cells + 1) (slots + n) ls (C.new hck hsk trivial rfl (fun _ h => h) hP hD hS) hl
theorem v_castA (q0 : Nat) {index a n : Nat} {f : Nat → Int32} (hM : M[q0]? = some (eI a n f)) (hlink : Cond.classLink Y.1.cls index "[I" ∈ GW) (hd : decode Y.2.1 pc = .ok (.checkcast index, 3)) (kk : V G Y Z d ck sk (pc + 3) L (.ref a :: st) M) : V G Y Z d ck sk pc L (.ref a :: st) M := by
  intro p e2 R s m args below meth c H locs cells slots ls C hl
  obtain ⟨o, ho, -⟩ := fl_at G hM
  exact va_castA C.1.1 C.1.2.1 C.1.2.2.2.2.2.1 (C.1.2.2.2.2.2.2.1 _ hlink) (PM_fl C.2.2.1) (o + 0) (ho 0 _ rfl) (va_nm_int (C.1.2.2.2.2.2.2.2.1.1.2 0 (G.2.2.1 0, .int) rfl).2) hd (kk p e2 R s m args below meth c H locs cells slots ls C hl)
/-- a reference to an array of ints is stored -/
theorem v_aastA (q0 qk : Nat) {a n v n' : Nat} {f : Nat → Option Nat} {g : Nat → Int32} {i : Int32} (hM : M[q0]? = some (eQ 5 a n f)) (hMv : M[qk]? = some (eI v n' g)) (hov : Cond.arrayOver (.array .int) ∈ NW) (hin : vp_in i n) (hd : decode Y.2.1 pc = .ok (.aastore, 1))
    (kk : V G Y Z d ck sk (pc + 1) L st (M.set q0 (eQ 5 a n (va_up f i.toNatClampNeg (some v))))) : V G Y Z d ck sk pc L (.ref v :: .int i :: .ref a :: st) M := by
  intro p e2 R s m args below meth c H locs cells slots ls C hl
  obtain ⟨o, ho, ho2⟩ := fl_at G hM
  have hP := PM_fl C.2.2.1
  have hD := DM_fl (G := G) C.2.2.2.1
  have hKr : va_RA s (G.2.2.1 5) (.array .int) := (C.1.2.2.2.2.2.2.2.1.1.2 5 (G.2.2.1 5, .array .int) rfl).2
  have hK0 := va_nm_int (C.1.2.2.2.2.2.2.2.1.1.2 0 (G.2.2.1 0, .int) rfl).2
  obtain ⟨-, kI, hkI, -⟩ := (C.1.2.2.2.2.2.2.2.1.1.2 0 (G.2.2.1 0, .int) rfl).1 0 (fun _ => .null)
  obtain ⟨comp, c5, k5, h1, h2, h3, h4, h5⟩ := arrayOverA_spec (NW_use (A := args) hov (C.1.2.2.2.2.2.2.2.1.2.1 _ hov))
  have ec5 : c5 = G.2.2.1 5 := Option.some.inj (h5.symm.trans hKr)
  subst ec5
  rw [tsAI] at h1
  have ecomp : comp = G.2.2.1 0 := Option.some.inj (h1.symm.trans hK0)
  subst ecomp
  have hcell : H[a]? = some (vp_cell (G.2.2.1 5) (n, .inr (.inr (.inr (.inr f))))) := C.2.2.1 q0 _ hM
  have hcv : H[v]? = some (vp_cell (G.2.2.1 0) (n', .inl g)) := C.2.2.1 qk _ hMv
  have hlt : i.toNatClampNeg < n := Nat.not_le.mp fun q => hin (Or.inr q)
  have h0 : ¬ i < 0 := fun q => hin (Or.inl q)
  have ha := ho 0 _ rfl
  refine W.aast C.1.1 C.1.2.1 hcell (fun q h => by cases h) (fun h => by cases h) h3 h4 rfl hkI ⟨h0, by show _ < (arrV _ _ _).slots.size; rw [arrV_size]; exact hlt⟩ hcv (fun q h => by cases h) hkI (va_asg _ _) rfl rfl hd fun H1 e z oq => ?_
  refine kk p e2 R s m args below meth c H1 _ cells slots ls (C.put (e1 := eQ 5 a n (va_up f i.toNatClampNeg (some v))) hM trivial (fun _ h => h) ?_ (C.2.2.2.2.1.put z oq (hD.2 (o + 0) _ ha))) hl
  rw [← ho2 0 (a, .inl (G.2.2.1 5, n, .inr (.inr (.inr (.inr (va_up f i.toNatClampNeg (some v))))))) (eQ 5 a n (va_up f i.toNatClampNeg (some v))) Nat.zero_lt_one rfl]
  refine hP.set hD ha ?_ oq
  show H1[a]? = some (vp_cell _ _)
  rw [e]
  rw [vp_cell_q, vp_cell_q, arrV_store]
  congr 2
  funext q
  by_cases hq : q = i.toNatClampNeg
  · subst hq
    simp [updV, va_up, va_rf]
  · simp [updV, va_up, hq]
theorem v_aaldA (q0 : Nat) {a n b : Nat} {f : Nat → Option Nat} {i : Int32} (hM : M[q0]? = some (eQ 5 a n f)) (hin : vp_in i n) (hv : f i.toNatClampNeg = some b) (hd : decode Y.2.1 pc = .ok (.aaload, 1)) (kk : V G Y Z d ck sk (pc + 1) L (.ref b :: st) M) : V G Y Z d ck sk pc L (.int i :: .ref a :: st) M :=
  v_aald q0 (ty := .array .int) hM (fun _ => rfl) rfl hin (by rw [hv]; rfl) hd kk
end VARR
def kpF (q0 q1 q2 q3 q4 q5 : Nat) : Nat → Option Nat
  | 0 => some q0
  | 1 => some q1
  | 2 => some q2
  | 3 => some q3
  | 4 => some q4
  | 5 => some q5
  | _ => none
theorem kpF_up {q0 q1 q2 q3 q4 q5 : Nat} : ∀ j, j < 6 → va_up (va_up (va_up (va_up (va_up (va_up (fun _ => none) 0 (some q0)) 1 (some q1)) 2 (some q2)) 3 (some q3)) 4 (some q4)) 5 (some q5) j = kpF q0 q1 q2 q3 q4 q5 j := by
  intro j hj
  rcases (show j = 0 ∨ j = 1 ∨ j = 2 ∨ j = 3 ∨ j = 4 ∨ j = 5 by omega) with rfl | rfl | rfl | rfl | rfl | rfl <;> rfl
theorem cl0 : (0 : Int32).toNatClampNeg = 0 := by decide
theorem cl1 : (1 : Int32).toNatClampNeg = 1 := by decide
theorem cl2 : (2 : Int32).toNatClampNeg = 2 := by decide
theorem cl3 : (3 : Int32).toNatClampNeg = 3 := by decide
theorem cl4 : (4 : Int32).toNatClampNeg = 4 := by decide
theorem cl5 : (5 : Int32).toNatClampNeg = 5 := by decide
