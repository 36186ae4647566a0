/-! the search for ways: what its queues hold, and what it finds -/
def Way (Hb : Nat → Bool) (cst : Nat → Nat) (g : Nat) : Nat → Nat → Nat → Prop
  | 0, c, k => c = g ∧ k = 0
  | n + 1, c, k => ∃ c' i k', i < 4 ∧ c' < 160 ∧ nbr c' i = some c ∧ Way Hb cst g n c' k' ∧ Hb c' = true ∧ k = k' + cst c'
def chl (f : Nat → Int32) : List Nat → Int32 → Prop
  | [], c => ¬ (0 ≤ c ∧ c < 160)
  | x :: l, c => c = nI x ∧ x < 160 ∧ chl f l (f x)
theorem chl_cong {f f' : Nat → Int32} : ∀ {l : List Nat} {c : Int32}, (∀ x ∈ l, f' x = f x) → chl f l c → chl f' l c
  | [], _, _, h => h
  | x :: l, c, he, h => ⟨h.1, h.2.1, by
      rw [he x List.mem_cons_self]
      exact chl_cong (fun y hy => he y (List.mem_cons_of_mem _ hy)) h.2.2⟩
def fnd (a : Nat → Int32) : Nat := fb_sm (fun c => if a c = -1 then 0 else 1) 160
theorem fnd_le (a : Nat → Int32) : fnd a ≤ 160 := by
  have := fb_sm_bound (f := fun c => if a c = -1 then 0 else 1) (c := 1) (n := 160) (fun k _ => by split <;> omega)
  unfold fnd
  omega
theorem nI_nem1 {n : Nat} (h : n < 2 ^ 31) : ¬ nI n = -1 := by
  intro q
  have h2 : (nI n).toInt = -1 := by rw [q]; decide
  rw [nI_toInt h] at h2
  omega
theorem fnd_upd {a : Nat → Int32} {j : Nat} {h : Int32} (hj : j < 160) (h1 : a j = -1) (h2 : ¬ h = -1) : fnd (upd a j h) = fnd a + 1 := by
  unfold fnd
  have e := fb_sm_upd (fun c => if a c = -1 then 0 else 1) 1 (i := j) (n := 160) hj
  have e2 : fb_sm (fun k => if k = j then 1 else (fun c => if a c = -1 then 0 else 1) k) 160 = fb_sm (fun c => if upd a j h c = -1 then 0 else 1) 160 := by
    refine fb_sm_cong (fun k _ => ?_)
    by_cases hk : k = j
    · subst hk
      rw [if_pos rfl, pk_us, if_neg h2]
    · rw [if_neg hk, pk_un hk]
  rw [← e2]
  simp only [h1, if_true] at e
  omega
/-- what holds between hours, and while the queue of an hour is gone through: l is what is left of it, ex the cell in hand -/
def ckI (Hb : Nat → Bool) (cst : Nat → Nat) (g T : Nat) (l : List Nat) (QL : Nat → List Nat) (ex : Nat) (s : QS) : Prop :=
  (∀ c, c < 160 → s.1 c = -1 ∨ ∃ k n, s.1 c = nI k ∧ (k < T ∨ k = 0) ∧ k + 43 ≤ 43 * fnd s.1 ∧ Way Hb cst g n c k) ∧
  (∀ q, q < 64 → chl s.2.2.1 (QL q) (s.2.1 q)) ∧
  (∀ q, q < 64 → ∀ x ∈ QL q, x < 160 ∧ ∃ k, s.1 x = nI k ∧ k < 10000 ∧ Hb x = true ∧ T ≤ k + cst x ∧ k + cst x < T + 63 ∧ (k + cst x) % 64 = q) ∧
  (∀ c k, c < 160 → s.1 c = nI k → k < 10000 → Hb c = true → c = ex ∨ c ∈ l ∨ (∃ q, q < 64 ∧ c ∈ QL q) ∨ (k + cst c < T ∧ ∀ i o, i < 4 → nbr c i = some o → ∃ k2, s.1 o = nI k2 ∧ k2 ≤ k + cst c)) ∧
  (∀ x ∈ l, x < 160 ∧ ∃ k, s.1 x = nI k ∧ k < 10000 ∧ Hb x = true ∧ k + cst x + 1 = T) ∧
  (s.2.2.2 = nI (fb_sm (fun q => (QL q).length) 64 + l.length) ∧ fb_sm (fun q => (QL q).length) 64 + l.length ≤ fnd s.1) ∧
  s.1 g = nI 0
section SEARCH
variable {Hb : Nat → Bool} {cst : Nat → Nat} {g : Nat} {N : Nat → Int32} {dg : Int32}
theorem ckI.small {T : Nat} {l : List Nat} {QL : Nat → List Nat} {ex : Nat} {s : QS} (K : ckI Hb cst g T l QL ex s) {c : Nat} (hc : c < 160) (h : ¬ s.1 c = -1) : ∃ k n, s.1 c = nI k ∧ (k < T ∨ k = 0) ∧ k ≤ 6837 ∧ k + 43 ≤ 43 * fnd s.1 ∧ Way Hb cst g n c k := by
  rcases K.1 c hc with h1 | ⟨k, n, h1, h2, h3, h4⟩
  · exact absurd h1 h
  · have := fnd_le s.1
    exact ⟨k, n, h1, h2, by omega, h3, h4⟩
theorem qx_nI {n : Nat} (h : n < 2 ^ 31) : qx (nI n) = n % 64 := by
  unfold qx
  have : (nI n).toBitVec.toNat = n := by
    show (BitVec.ofNat 32 n).toNat = n
    rw [BitVec.toNat_ofNat, Nat.mod_eq_of_lt (by omega)]
  rw [this]
/-- a cell beside the one in hand is reached -/
theorem rc_step (hC : ∀ j, j < 160 → N j + dg = nI (cst j) ∧ 1 ≤ cst j ∧ cst j ≤ 43) {t x i j kx : Nat} {l : List Nat} {QL : Nat → List Nat} {s : QS} (ht : t < 10240) (hx : x < 160) (hi : i < 4) (hn : nbr x i = some j) (h1 : s.1 x = nI kx) (h2 : Hb x = true) (h3 : kx + cst x = t) (K : ckI Hb cst g (t + 1) l QL x s) :
    ∃ QL', ckI Hb cst g (t + 1) l QL' x (rc Hb N dg (nI t) (some j) s) ∧ (∃ k2, (rc Hb N dg (nI t) (some j) s).1 j = nI k2 ∧ k2 ≤ t) ∧
      (∀ c, ¬ s.1 c = -1 → (rc Hb N dg (nI t) (some j) s).1 c = s.1 c) ∧ (∀ c, ¬ s.1 c = -1 → (rc Hb N dg (nI t) (some j) s).2.2.1 c = s.2.2.1 c) := by
  have hj := nbr_lt hx hn
  have hCx := hC x hx
  by_cases hj0 : s.1 j = -1
  · obtain ⟨kx', nx, e1, -, e3, e4, e5⟩ := K.small hx (by rw [h1]; exact nI_nem1 (by omega))
    have hkk : kx' = kx := by
      have hb := fnd_le s.1
      rw [h1] at e1
      exact ((nI_eq (by omega) (by omega)).mp e1).symm
    subst hkk
    have hW : Way Hb cst g (nx + 1) j t := ⟨x, i, kx', hi, hx, hn, e5, h2, h3.symm⟩
    have hnt : ¬ nI t = -1 := nI_nem1 (by omega)
    have hF := fnd_upd (a := s.1) (h := nI t) hj hj0 hnt
    have hne : ∀ c k, s.1 c = nI k → k < 10000 → ¬ c = j := fun c k hc hk e => by
      subst e
      rw [hj0] at hc
      exact nI_nem1 (by omega) hc.symm
    have keep : ∀ c, ¬ s.1 c = -1 → upd s.1 j (nI t) c = s.1 c := fun c hc => pk_un (fun e => hc (by rw [e]; exact hj0))
    have k1 : ∀ c, c < 160 → upd s.1 j (nI t) c = -1 ∨ ∃ k n, upd s.1 j (nI t) c = nI k ∧ (k < t + 1 ∨ k = 0) ∧ k + 43 ≤ 43 * fnd (upd s.1 j (nI t)) ∧ Way Hb cst g n c k := by
      intro c hc
      by_cases hcj : c = j
      · subst hcj
        exact Or.inr ⟨t, nx + 1, pk_us, Or.inl (by omega), by rw [hF]; omega, hW⟩
      · rw [pk_un hcj]
        rcases K.1 c hc with h | ⟨k, n, a1, a2, a3, a4⟩
        · exact Or.inl h
        · exact Or.inr ⟨k, n, a1, a2, by rw [hF]; omega, a4⟩
    have hg : upd s.1 j (nI t) g = nI 0 := by
      rw [keep g (by rw [K.2.2.2.2.2.2]; decide)]
      exact K.2.2.2.2.2.2
    have k5 : ∀ y ∈ l, y < 160 ∧ ∃ k, upd s.1 j (nI t) y = nI k ∧ k < 10000 ∧ Hb y = true ∧ k + cst y + 1 = t + 1 := by
      intro y hy
      obtain ⟨b1, k, b2, b3, b4, b5⟩ := K.2.2.2.2.1 y hy
      exact ⟨b1, k, by rw [pk_un (hne y k b2 b3)]; exact b2, b3, b4, b5⟩
    have k3 : ∀ q, q < 64 → ∀ y ∈ QL q, y < 160 ∧ ∃ k, upd s.1 j (nI t) y = nI k ∧ k < 10000 ∧ Hb y = true ∧ t + 1 ≤ k + cst y ∧ k + cst y < t + 1 + 63 ∧ (k + cst y) % 64 = q := by
      intro q hq y hy
      obtain ⟨b1, k, b2, b3, b4⟩ := K.2.2.1 q hq y hy
      exact ⟨b1, k, by rw [pk_un (hne y k b2 b3)]; exact b2, b3, b4⟩
    have k4 : ∀ c k, c < 160 → ¬ c = j → upd s.1 j (nI t) c = nI k → k < 10000 → Hb c = true → c = x ∨ c ∈ l ∨ (∃ q, q < 64 ∧ c ∈ QL q) ∨ (k + cst c < t + 1 ∧ ∀ i o, i < 4 → nbr c i = some o → ∃ k2, upd s.1 j (nI t) o = nI k2 ∧ k2 ≤ k + cst c) := by
      intro c k hc hcj b1 b2 b3
      rw [pk_un hcj] at b1
      have hcc := hC c hc
      rcases K.2.2.2.1 c k hc b1 b2 b3 with h | h | h | ⟨h, h'⟩
      · exact Or.inl h
      · exact Or.inr (Or.inl h)
      · exact Or.inr (Or.inr (Or.inl h))
      · refine Or.inr (Or.inr (Or.inr ⟨h, fun i2 o hi2 ho => ?_⟩))
        obtain ⟨k2, d1, d2⟩ := h' i2 o hi2 ho
        exact ⟨k2, by rw [keep o (by rw [d1]; exact nI_nem1 (by omega))]; exact d1, d2⟩
    by_cases hH : Hb j = true
    · rw [rc_new hj0 hH]
      have hCj := hC j hj
      have hq : qx (nI t + N j + dg) = (t + cst j) % 64 := by
        rw [Int32.add_assoc, hCj.1, nI_add, qx_nI (by omega)]
      rw [hq]
      generalize hq0 : (t + cst j) % 64 = q0
      have hq64 : q0 < 64 := by rw [← hq0]; exact Nat.mod_lt _ (by decide)
      have memj : ∀ q, q < 64 → ∀ y ∈ QL q, ¬ y = j := fun q hq y hy => by
        obtain ⟨b1, k, b2, b3, b4⟩ := K.2.2.1 q hq y hy
        exact hne y k b2 b3
      have hS : fb_sm (fun q => ((fun q => if q = q0 then j :: QL q0 else QL q) q).length) 64 = fb_sm (fun q => (QL q).length) 64 + 1 := by
        have e := fb_sm_upd (fun q => (QL q).length) ((QL q0).length + 1) (i := q0) (n := 64) hq64
        have e2 : fb_sm (fun k => if k = q0 then (QL q0).length + 1 else (fun q => (QL q).length) k) 64 = fb_sm (fun q => ((fun q => if q = q0 then j :: QL q0 else QL q) q).length) 64 := by
          refine fb_sm_cong (fun k _ => ?_)
          by_cases hk : k = q0
          · subst hk; simp
          · simp [hk]
        rw [e2] at e
        have e3 : fb_sm (fun q => ((fun q => if q = q0 then j :: QL q0 else QL q) q).length) 64 + (QL q0).length = fb_sm (fun q => (QL q).length) 64 + ((QL q0).length + 1) := e
        omega
      refine ⟨fun q => if q = q0 then j :: QL q0 else QL q, ⟨k1, ?_, ?_, ?_, k5, ⟨?_, ?_⟩, hg⟩, ⟨t, pk_us, Nat.le_refl t⟩, keep, fun c hc => pk_un (fun e => hc (by rw [e]; exact hj0))⟩
      · intro q hq
        by_cases hqq : q = q0
        · subst hqq
          show chl (upd s.2.2.1 j (s.2.1 q)) (if q = q then j :: QL q else QL q) (upd s.2.1 q (nI j) q)
          rw [if_pos rfl, pk_us]
          refine ⟨rfl, hj, ?_⟩
          rw [pk_us]
          exact chl_cong (fun y hy => pk_un (memj q hq y hy)) (K.2.1 q hq)
        · show chl (upd s.2.2.1 j (s.2.1 q0)) (if q = q0 then j :: QL q0 else QL q) (upd s.2.1 q0 (nI j) q)
          rw [if_neg hqq, pk_un hqq]
          exact chl_cong (fun y hy => pk_un (memj q hq y hy)) (K.2.1 q hq)
      · intro q hq y hy
        have hy : y ∈ (if q = q0 then j :: QL q0 else QL q) := hy
        by_cases hqq : q = q0
        · subst hqq
          rw [if_pos rfl] at hy
          rcases List.mem_cons.mp hy with h | h
          · subst h
            exact ⟨hj, t, pk_us, by omega, hH, by omega, by omega, hq0⟩
          · exact k3 q hq y h
        · rw [if_neg hqq] at hy
          exact k3 q hq y hy
      · intro c k hc b1 b2 b3
        by_cases hcj : c = j
        · subst hcj
          exact Or.inr (Or.inr (Or.inl ⟨q0, hq64, by show c ∈ (if q0 = q0 then c :: QL q0 else QL q0); rw [if_pos rfl]; exact List.mem_cons_self⟩))
        · rcases k4 c k hc hcj b1 b2 b3 with h | h | ⟨q, h, h'⟩ | h
          · exact Or.inl h
          · exact Or.inr (Or.inl h)
          · refine Or.inr (Or.inr (Or.inl ⟨q, h, ?_⟩))
            show c ∈ (if q = q0 then j :: QL q0 else QL q)
            by_cases hqq : q = q0
            · subst hqq
              rw [if_pos rfl]; exact List.mem_cons_of_mem _ h'
            · rw [if_neg hqq]; exact h'
          · exact Or.inr (Or.inr (Or.inr h))
      · show s.2.2.2 + 1 = _
        rw [K.2.2.2.2.2.1.1, nI_1, hS]
        exact congrArg nI (by omega)
      · have := K.2.2.2.2.2.1.2
        show _ ≤ fnd (upd s.1 j (nI t))
        rw [hS, hF]
        omega
    · rw [rc_dry hj0 hH]
      refine ⟨QL, ⟨k1, K.2.1, k3, fun c k hc b1 b2 b3 => ?_, k5, ⟨K.2.2.2.2.2.1.1, ?_⟩, hg⟩, ⟨t, pk_us, Nat.le_refl t⟩, keep, fun c hc => rfl⟩
      · by_cases hcj : c = j
        · subst hcj
          exact absurd b3 hH
        · exact k4 c k hc hcj b1 b2 b3
      · have := K.2.2.2.2.2.1.2
        show _ ≤ fnd (upd s.1 j (nI t))
        rw [hF]
        omega
  · rw [rc_old hj0]
    obtain ⟨k, n, b1, b2, b3, -, -⟩ := K.small hj hj0
    exact ⟨QL, K, ⟨k, b1, by omega⟩, fun c _ => rfl, fun c _ => rfl⟩
theorem sp4_step (hC : ∀ j, j < 160 → N j + dg = nI (cst j) ∧ 1 ≤ cst j ∧ cst j ≤ 43) {t x kx : Nat} {l : List Nat} {s : QS} (ht : t < 10240) (hx : x < 160) (h1 : s.1 x = nI kx) (h2 : Hb x = true) (h3 : kx + cst x = t) : ∀ (n : Nat) (QL : Nat → List Nat), n ≤ 4 → ckI Hb cst g (t + 1) l QL x s →
    ∃ QL', ckI Hb cst g (t + 1) l QL' x (sp4 Hb N dg (nI t) x n s) ∧ (∀ i o, i < n → nbr x i = some o → ∃ k2, (sp4 Hb N dg (nI t) x n s).1 o = nI k2 ∧ k2 ≤ t) ∧
      (∀ c, ¬ s.1 c = -1 → (sp4 Hb N dg (nI t) x n s).1 c = s.1 c) ∧ (∀ c, ¬ s.1 c = -1 → (sp4 Hb N dg (nI t) x n s).2.2.1 c = s.2.2.1 c)
  | 0, QL, _, K => ⟨QL, K, fun i o hi => absurd hi (Nat.not_lt_zero _), fun c _ => rfl, fun c _ => rfl⟩
  | n + 1, QL, hn, K => by
    obtain ⟨QL1, K1, a1, a2, a3⟩ := sp4_step hC ht hx h1 h2 h3 n QL (by omega) K
    have hx1 : (sp4 Hb N dg (nI t) x n s).1 x = nI kx := by
      rw [a2 x (by rw [h1]; exact nI_nem1 (by omega))]; exact h1
    cases hj : nbr x n with
    | none =>
      have e : sp4 Hb N dg (nI t) x (n + 1) s = sp4 Hb N dg (nI t) x n s := by
        show rc Hb N dg (nI t) (nbr x n) _ = _
        rw [hj]; rfl
      rw [e]
      refine ⟨QL1, K1, fun i o hi ho => ?_, a2, a3⟩
      by_cases hin : i = n
      · subst hin
        rw [hj] at ho
        cases ho
      · exact a1 i o (by omega) ho
    | some j =>
      have e : sp4 Hb N dg (nI t) x (n + 1) s = rc Hb N dg (nI t) (some j) (sp4 Hb N dg (nI t) x n s) := by
        show rc Hb N dg (nI t) (nbr x n) _ = _
        rw [hj]
      rw [e]
      obtain ⟨QL2, K2, b1, b2, b3⟩ := rc_step hC ht hx (i := n) (by omega) hj hx1 h2 h3 K1
      refine ⟨QL2, K2, fun i o hi ho => ?_, fun c hc => ?_, fun c hc => ?_⟩
      · by_cases hin : i = n
        · subst hin
          rw [hj] at ho
          cases ho
          exact b1
        · obtain ⟨k2, d1, d2⟩ := a1 i o (by omega) ho
          exact ⟨k2, by rw [b2 o (by rw [d1]; exact nI_nem1 (by omega))]; exact d1, d2⟩
      · rw [b2 c (by rw [a2 c hc]; exact hc), a2 c hc]
      · rw [b3 c (by rw [a2 c hc]; exact hc), a3 c hc]
theorem spl_step (hC : ∀ j, j < 160 → N j + dg = nI (cst j) ∧ 1 ≤ cst j ∧ cst j ≤ 43) {t : Nat} (ht : t < 10240) : ∀ (m : Nat) (l : List Nat) (c : Int32) (s : QS) (QL : Nat → List Nat), ckI Hb cst g (t + 1) l QL 160 s → chl s.2.2.1 l c → l.length ≤ m →
    ∃ QL', ckI Hb cst g (t + 1) [] QL' 160 (spl Hb N dg (nI t) m c s)
  | 0, [], c, s, QL, K, _, _ => ⟨QL, K⟩
  | 0, x :: l, c, s, QL, K, _, hl => absurd hl (by simp)
  | m + 1, [], c, s, QL, K, hc, _ => by
    have hc : ¬ (0 ≤ c ∧ c < 160) := hc
    have e : spl Hb N dg (nI t) (m + 1) c s = s := if_neg hc
    rw [e]
    exact ⟨QL, K⟩
  | m + 1, x :: l, c, s, QL, K, hc, hl => by
    obtain ⟨rfl, hx, hch⟩ := hc
    have hcx : cN (nI x) = x := cN_nI (by omega)
    obtain ⟨-, kx, h1, hkx, h2, h3⟩ := K.2.2.2.2.1 x List.mem_cons_self
    have e : spl Hb N dg (nI t) (m + 1) (nI x) s = spl Hb N dg (nI t) m ((sp4 Hb N dg (nI t) x 4 (s.1, s.2.1, s.2.2.1, s.2.2.2 - 1)).2.2.1 x) (sp4 Hb N dg (nI t) x 4 (s.1, s.2.1, s.2.2.1, s.2.2.2 - 1)) := by
      have h0 : spl Hb N dg (nI t) (m + 1) (nI x) s = if 0 ≤ nI x ∧ nI x < 160 then _ else s := rfl
      rw [h0, if_pos (isCell_k hx), hcx]
    rw [e]
    have K1 : ckI Hb cst g (t + 1) l QL x (s.1, s.2.1, s.2.2.1, s.2.2.2 - 1) := by
      refine ⟨K.1, K.2.1, K.2.2.1, fun c k hc b1 b2 b3 => ?_, fun y hy => K.2.2.2.2.1 y (List.mem_cons_of_mem _ hy), ⟨?_, ?_⟩, K.2.2.2.2.2.2⟩
      · rcases K.2.2.2.1 c k hc b1 b2 b3 with h | h | h | h
        · omega
        · rcases List.mem_cons.mp h with h | h
          · exact Or.inl h
          · exact Or.inr (Or.inl h)
        · exact Or.inr (Or.inr (Or.inl h))
        · exact Or.inr (Or.inr (Or.inr h))
      · show s.2.2.2 - 1 = _
        rw [K.2.2.2.2.2.1.1]
        exact nI_p1
      · have h9 := K.2.2.2.2.2.1.2
        rw [List.length_cons] at h9
        show _ ≤ fnd s.1
        omega
    obtain ⟨QL2, K2, a1, a2, a3⟩ := sp4_step hC ht hx (s := (s.1, s.2.1, s.2.2.1, s.2.2.2 - 1)) h1 h2 (by omega) 4 QL (Nat.le_refl _) K1
    have hx1 : ¬ s.1 x = -1 := by rw [h1]; exact nI_nem1 (by omega)
    refine spl_step hC ht m l _ _ QL2 ?_ ?_ (by rw [List.length_cons] at hl; omega)
    · refine ⟨K2.1, K2.2.1, K2.2.2.1, fun c k hc b1 b2 b3 => ?_, K2.2.2.2.2⟩
      rcases K2.2.2.2.1 c k hc b1 b2 b3 with h | h | h | h
      · subst h
        refine Or.inr (Or.inr (Or.inr ?_))
        have hk : k = kx := by
          rw [a2 c hx1] at b1
          have b1 : s.1 c = nI k := b1
          rw [h1] at b1
          exact ((nI_eq (by omega) (by omega)).mp b1).symm
        subst hk
        refine ⟨by omega, fun i o hi ho => ?_⟩
        obtain ⟨k2, d1, d2⟩ := a1 i o hi ho
        exact ⟨k2, d1, by omega⟩
      · exact Or.inr (Or.inl h)
      · exact Or.inr (Or.inr (Or.inl h))
      · exact Or.inr (Or.inr (Or.inr h))
    · rw [a3 x hx1]
      refine chl_cong (fun y hy => ?_) hch
      obtain ⟨-, k, d1, d2, -⟩ := K.2.2.2.2.1 y (List.mem_cons_of_mem _ hy)
      exact a3 y (by show ¬ s.1 y = -1; rw [d1]; exact nI_nem1 (by omega))
theorem spr_step (hC : ∀ j, j < 160 → N j + dg = nI (cst j) ∧ 1 ≤ cst j ∧ cst j ≤ 43) {t : Nat} (ht : t < 10240) {s : QS} {QL : Nat → List Nat} (K : ckI Hb cst g t [] QL 160 s) : ∃ QL', ckI Hb cst g (t + 1) [] QL' 160 (spr Hb N dg (nI t) s) := by
  unfold spr
  rw [qx_nI (by omega)]
  generalize hq0 : t % 64 = q0
  have hq64 : q0 < 64 := by rw [← hq0]; exact Nat.mod_lt _ (by decide)
  have hS : fb_sm (fun q => ((fun q => if q = q0 then [] else QL q) q).length) 64 + (QL q0).length = fb_sm (fun q => (QL q).length) 64 := by
    have e := fb_sm_upd (fun q => (QL q).length) 0 (i := q0) (n := 64) hq64
    have e2 : fb_sm (fun k => if k = q0 then 0 else (fun q => (QL q).length) k) 64 = fb_sm (fun q => ((fun q => if q = q0 then [] else QL q) q).length) 64 := by
      refine fb_sm_cong (fun k _ => ?_)
      by_cases hk : k = q0
      · subst hk; simp
      · simp [hk]
    rw [e2] at e
    have e3 : fb_sm (fun q => ((fun q => if q = q0 then [] else QL q) q).length) 64 + (QL q0).length = fb_sm (fun q => (QL q).length) 64 + 0 := e
    omega
  have hK6 := K.2.2.2.2.2.1
  rw [List.length_nil, Nat.add_zero] at hK6
  have hf := fnd_le s.1
  refine spl_step hC ht 160 (QL q0) _ _ (fun q => if q = q0 then [] else QL q) ⟨fun c hc => ?_, fun q hq => ?_, fun q hq x hx => ?_, fun c k hc b1 b2 b3 => ?_, fun x hx => ?_, ⟨?_, ?_⟩, K.2.2.2.2.2.2⟩ ?_ ?_
  · rcases K.1 c hc with h | ⟨k, n, a1, a2, a3⟩
    · exact Or.inl h
    · exact Or.inr ⟨k, n, a1, by omega, a3⟩
  · show chl s.2.2.1 (if q = q0 then [] else QL q) (upd s.2.1 q0 (-1) q)
    by_cases hqq : q = q0
    · subst hqq
      rw [if_pos rfl, pk_us]
      exact fun h => absurd h.1 (by decide)
    · rw [if_neg hqq, pk_un hqq]
      exact K.2.1 q hq
  · have hx : x ∈ (if q = q0 then [] else QL q) := hx
    by_cases hqq : q = q0
    · rw [if_pos hqq] at hx
      cases hx
    · rw [if_neg hqq] at hx
      obtain ⟨b1, k, b2, b3, b4, b5, b6, b7⟩ := K.2.2.1 q hq x hx
      refine ⟨b1, k, b2, b3, b4, ?_, by omega, b7⟩
      rcases Nat.lt_or_ge t (k + cst x) with h | h
      · exact h
      · have h9 : k + cst x = t := by omega
        rw [h9, hq0] at b7
        exact absurd b7.symm hqq
  · rcases K.2.2.2.1 c k hc b1 b2 b3 with h | h | ⟨q, h, h'⟩ | ⟨h, h'⟩
    · exact Or.inl h
    · cases h
    · by_cases hqq : q = q0
      · subst hqq
        exact Or.inr (Or.inl h')
      · refine Or.inr (Or.inr (Or.inl ⟨q, h, ?_⟩))
        show c ∈ (if q = q0 then [] else QL q)
        rw [if_neg hqq]; exact h'
    · exact Or.inr (Or.inr (Or.inr ⟨by omega, h'⟩))
  · obtain ⟨b1, k, b2, b3, b4, b5, b6, b7⟩ := K.2.2.1 q0 hq64 x hx
    exact ⟨b1, k, b2, b3, b4, by omega⟩
  · show s.2.2.2 = _
    rw [hK6.1, hS]
  · show _ ≤ fnd s.1
    rw [hS]
    exact hK6.2
  · exact K.2.1 q0 hq64
  · omega
theorem lok_step (hC : ∀ j, j < 160 → N j + dg = nI (cst j) ∧ 1 ≤ cst j ∧ cst j ≤ 43) {k : Nat} : ∀ (m t : Nat) (s : QS) (QL : Nat → List Nat), t + m = 10240 → ckI Hb cst g t [] QL 160 s →
    ∃ T QL', ckI Hb cst g T [] QL' 160 (lok Hb N dg k m t s) ∧ (¬ (lok Hb N dg k m t s).1 k = -1 ∨ ¬ 0 < (lok Hb N dg k m t s).2.2.2 ∨ T = 10240)
  | 0, t, s, QL, h, K => ⟨t, QL, K, Or.inr (Or.inr (by omega))⟩
  | m + 1, t, s, QL, h, K => by
    have e : lok Hb N dg k (m + 1) t s = if 0 < s.2.2.2 ∧ s.1 k = -1 then lok Hb N dg k m (t + 1) (spr Hb N dg (nI t) s) else s := rfl
    by_cases hc : 0 < s.2.2.2 ∧ s.1 k = -1
    · rw [e, if_pos hc]
      obtain ⟨QL1, K1⟩ := spr_step hC (by omega) K
      exact lok_step hC m (t + 1) _ QL1 (by omega) K1
    · rw [e, if_neg hc]
      refine ⟨t, QL, K, ?_⟩
      by_cases h1 : s.1 k = -1
      · exact Or.inr (Or.inl (fun h2 => hc ⟨h2, h1⟩))
      · exact Or.inl h1
/-- what a search has found -/
def LSp (Hb : Nat → Bool) (cst : Nat → Nat) (g : Nat) (a : Nat → Int32) (k : Nat) : Prop :=
  (∀ c, c < 160 → a c = -1 ∨ ∃ m n, a c = nI m ∧ m ≤ 6837 ∧ Way Hb cst g n c m) ∧
  (a k = -1 → ∀ n m, ¬ Way Hb cst g n k m) ∧
  (∀ m, a k = nI m → m < 10000 → ∀ n c m', c < 160 → Way Hb cst g n c m' → m' ≤ m → ∃ m2, m2 ≤ m' ∧ a c = nI m2)
theorem Way.lt (hg : g < 160) : ∀ {n c m : Nat}, Way Hb cst g n c m → c < 160
  | 0, c, m, h => by
    have h1 : c = g := h.1
    omega
  | n + 1, c, m, h => by
    obtain ⟨c', i, k', -, h2, h3, -⟩ := h
    exact nbr_lt h2 h3
theorem ckI.closed (hC : ∀ j, j < 160 → N j + dg = nI (cst j) ∧ 1 ≤ cst j ∧ cst j ≤ 43) {T : Nat} {QL : Nat → List Nat} {s : QS} (K : ckI Hb cst g T [] QL 160 s) : ∀ (n c m : Nat), Way Hb cst g n c m → (m < T ∨ m = 0 ∨ ∀ q, q < 64 → QL q = []) → ∃ m2, m2 ≤ m ∧ s.1 c = nI m2 ∧ m2 ≤ 6837
  | 0, c, m, h, _ => by
    obtain ⟨rfl, rfl⟩ := h
    exact ⟨0, Nat.le_refl 0, K.2.2.2.2.2.2, by omega⟩
  | n + 1, c, m, h, hm => by
    obtain ⟨c', i, k', h1, h2, h3, h4, h5, rfl⟩ := h
    have hc := hC c' h2
    obtain ⟨m2, a1, a2, a3⟩ := K.closed hC n c' k' h4 (by rcases hm with h | h | h; exact Or.inl (by omega); omega; exact Or.inr (Or.inr h))
    rcases K.2.2.2.1 c' m2 h2 a2 (by omega) h5 with b | b | ⟨q, b, b'⟩ | ⟨b, b'⟩
    · omega
    · cases b
    · rcases hm with h | h | h
      · obtain ⟨-, k, d1, d2, -, d4, -⟩ := K.2.2.1 q b c' b'
        have hk : m2 = k := by
          rw [a2] at d1
          exact (nI_eq (by omega) (by omega)).mp d1
        omega
      · omega
      · rw [h q b] at b'
        cases b'
    · obtain ⟨k2, d1, d2⟩ := b' i c h1 h3
      obtain ⟨k3, n3, f1, -, f3, -⟩ := K.small (nbr_lt h2 h3) (by rw [d1]; exact nI_nem1 (by omega))
      have hk : k2 = k3 := by
        rw [d1] at f1
        exact (nI_eq (by omega) (by omega)).mp f1
      exact ⟨k2, by omega, d1, by omega⟩
theorem lkq_spec (hC : ∀ j, j < 160 → N j + dg = nI (cst j) ∧ 1 ≤ cst j ∧ cst j ≤ 43) (hg : g < 160) {k : Nat} (hk : k < 160) (F : Nat → Int32) : LSp Hb cst g (lkq Hb N dg k (some g) F).1 k := by
  have hinit : ∃ QL, ckI Hb cst g 0 [] QL 160 (rc Hb N dg 0 (some g) (fun _ => -1, fun _ => -1, F, 0)) := by
    have hF : fnd (upd (fun _ => -1) g 0) = 1 := by
      rw [fnd_upd hg rfl (by decide)]
      have : fnd (fun _ => (-1 : Int32)) = 0 := by
        have := fb_sm_const 0 160
        unfold fnd
        rw [fb_sm_cong (g := fun _ => 0) (fun k _ => if_pos rfl)]
        omega
      omega
    have k1 : ∀ c, c < 160 → upd (fun _ => (-1 : Int32)) g 0 c = -1 ∨ ∃ k n, upd (fun _ => (-1 : Int32)) g 0 c = nI k ∧ (k < 0 ∨ k = 0) ∧ k + 43 ≤ 43 * fnd (upd (fun _ => -1) g 0) ∧ Way Hb cst g n c k := by
      intro c hc
      by_cases h : c = g
      · subst h
        exact Or.inr ⟨0, 0, pk_us, Or.inr rfl, by rw [hF]; omega, rfl, rfl⟩
      · exact Or.inl (pk_un h)
    have only : ∀ c k, upd (fun _ => (-1 : Int32)) g 0 c = nI k → k < 10000 → c = g ∧ k = 0 := by
      intro c k h hk
      by_cases e : c = g
      · subst e
        rw [pk_us] at h
        exact ⟨rfl, ((nI_eq (a := 0) (b := k) (by omega) (by omega)).mp h).symm⟩
      · rw [pk_un e] at h
        exact absurd h.symm (nI_nem1 (by omega))
    have z0 : fb_sm (fun _ => 0) 64 = 0 := by
      have := fb_sm_const 0 64
      omega
    by_cases hH : Hb g = true
    · rw [rc_new rfl hH]
      have hCg := hC g hg
      have hq : qx (0 + N g + dg) = cst g := by
        rw [Int32.add_assoc, hCg.1, show (0 : Int32) = nI 0 from rfl, nI_add, Nat.zero_add, qx_nI (by omega), Nat.mod_eq_of_lt (by omega)]
      rw [hq]
      have hS : fb_sm (fun q => (if q = cst g then [g] else ([] : List Nat)).length) 64 = 1 := by
        have e := fb_sm_upd (fun _ => 0) 1 (i := cst g) (n := 64) (by omega)
        rw [fb_sm_cong (g := fun q => if q = cst g then 1 else 0) (fun q _ => by by_cases h : q = cst g <;> simp [h])]
        have e3 : fb_sm (fun q => if q = cst g then 1 else 0) 64 + 0 = fb_sm (fun _ => 0) 64 + 1 := e
        omega
      refine ⟨fun q => if q = cst g then [g] else [], k1, fun q hq => ?_, fun q hq x hx => ?_, fun c k hc b1 b2 b3 => ?_, fun x hx => (by cases hx), ⟨?_, ?_⟩, pk_us⟩
      · show chl (upd F g ((fun _ => -1) (cst g))) (if q = cst g then [g] else []) (upd (fun _ => -1) (cst g) (nI g) q)
        by_cases h : q = cst g
        · subst h
          rw [if_pos rfl, pk_us]
          refine ⟨rfl, hg, ?_⟩
          rw [pk_us]
          exact fun h => absurd h.1 (show ¬ (0 : Int32) ≤ -1 by decide)
        · rw [if_neg h, pk_un h]
          exact fun h => absurd h.1 (by decide)
      · have hx : x ∈ (if q = cst g then [g] else []) := hx
        by_cases h : q = cst g
        · rw [if_pos h] at hx
          obtain rfl := List.mem_singleton.mp hx
          exact ⟨hg, 0, pk_us, by omega, hH, by omega, by omega, by rw [h, Nat.zero_add, Nat.mod_eq_of_lt (by omega)]⟩
        · rw [if_neg h] at hx
          cases hx
      · obtain ⟨rfl, rfl⟩ := only c k b1 b2
        exact Or.inr (Or.inr (Or.inl ⟨cst c, by omega, by show c ∈ (if cst c = cst c then [c] else []); rw [if_pos rfl]; exact List.mem_singleton.mpr rfl⟩))
      · show (0 : Int32) + 1 = nI (_ + 0)
        rw [hS]; rfl
      · show _ + 0 ≤ fnd (upd (fun _ => -1) g 0)
        rw [hS, hF]
        omega
    · rw [rc_dry rfl hH]
      refine ⟨fun _ => [], k1, fun q hq => fun h => absurd h.1 (show ¬ (0 : Int32) ≤ -1 by decide), fun q hq x hx => (by cases hx), fun c k hc b1 b2 b3 => ?_, fun x hx => (by cases hx), ⟨?_, ?_⟩, pk_us⟩
      · obtain ⟨rfl, rfl⟩ := only c k b1 b2
        exact absurd b3 hH
      · show (0 : Int32) = nI (fb_sm (fun _ => 0) 64 + 0)
        rw [z0]; rfl
      · show fb_sm (fun _ => 0) 64 + 0 ≤ _
        rw [z0]
        exact Nat.zero_le _
  obtain ⟨QL0, K0⟩ := hinit
  obtain ⟨T, QL, K, hex⟩ := lok_step hC (k := k) 10240 0 _ QL0 (by omega) K0
  have er : lkq Hb N dg k (some g) F = lok Hb N dg k 10240 0 (rc Hb N dg 0 (some g) (fun _ => -1, fun _ => -1, F, 0)) := rfl
  rw [← er] at K hex
  generalize lkq Hb N dg k (some g) F = s at K hex ⊢
  refine ⟨fun c hc => ?_, fun h n m hw => ?_, fun m h1 h2 n c m' hc hw hm => ?_⟩
  · by_cases h : s.1 c = -1
    · exact Or.inl h
    · obtain ⟨k1, n1, b1, -, b3, -, b5⟩ := K.small hc h
      exact Or.inr ⟨k1, n1, b1, b3, b5⟩
  · have hK6 := K.2.2.2.2.2.1
    rw [List.length_nil, Nat.add_zero] at hK6
    have hf := fnd_le s.1
    have hnil : ∀ q, q < 64 → QL q = [] := by
      intro q hq
      cases hql : QL q with
      | nil => rfl
      | cons x l' =>
        exfalso
        have hx : x ∈ QL q := by rw [hql]; exact List.mem_cons_self
        obtain ⟨b1, k1, b2, b3, b4, b5, -⟩ := K.2.2.1 q hq x hx
        have hCx := hC x b1
        obtain ⟨k3, n3, f1, -, f3, -⟩ := K.small b1 (by rw [b2]; exact nI_nem1 (by omega))
        have hkk : k1 = k3 := by
          rw [b2] at f1
          exact (nI_eq (by omega) (by omega)).mp f1
        rcases hex with hex | hex | hex
        · exact hex h
        · apply hex
          rw [hK6.1]
          have hp := fb_sm_part (fun q => (QL q).length) hq
          have h0 : 0 < (QL q).length := by rw [hql]; simp
          have hp : _ + (QL q).length ≤ fb_sm (fun q => (QL q).length) 64 := hp
          exact nI_lt (a := 0) (by omega) (by omega)
        · omega
    obtain ⟨m2, -, a2, a3⟩ := K.closed hC n k m hw (Or.inr (Or.inr hnil))
    rw [a2] at h
    exact nI_nem1 (by omega) h
  · obtain ⟨k1, n1, b1, b2, b3, -⟩ := K.small hk (by rw [h1]; exact nI_nem1 (by omega))
    have hkk : m = k1 := by
      rw [h1] at b1
      exact (nI_eq (by omega) (by omega)).mp b1
    obtain ⟨m2, a1, a2, -⟩ := K.closed hC n c m' hw (by omega)
    exact ⟨m2, a1, a2⟩
end SEARCH

