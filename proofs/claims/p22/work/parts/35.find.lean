/-! the reference's search: hours are handed on till nothing changes -/
abbrev RS := (Nat → Int32) × Int32
def rl1 (P : Nat → Int32) (c : Nat) : Option Nat → RS → RS
  | none, s => s
  | some j, s => if s.1 j ≤ s.1 c + P c then s else (upd s.1 j (s.1 c + P c), 1)
def rl4 (P : Nat → Int32) (c : Nat) : Nat → RS → RS
  | 0, s => s
  | n + 1, s => rl1 P c (nbr c n) (rl4 P c n s)
def rlc (Hb : Nat → Bool) (P : Nat → Int32) (c : Nat) (s : RS) : RS := if s.1 c = 1000000 ∨ ¬ Hb c = true then s else rl4 P c 4 s
def ckk (n : Nat) : Nat := if n < 160 then n else 319 - n
def swp (Hb : Nat → Bool) (P : Nat → Int32) : Nat → RS → RS
  | 0, s => s
  | n + 1, s => rlc Hb P (ckk n) (swp Hb P n s)
/-- what a search of the reference has found -/
def FDs (Hb : Nat → Bool) (cst : Nat → Nat) (g : Nat) (h : Nat → Int32) : Prop :=
  (∀ c, c < 160 → h c = nI 1000000 ∨ ∃ m n, h c = nI m ∧ m < 1000000 ∧ Way Hb cst g n c m) ∧
  (∀ n c m, Way Hb cst g n c m → m < 1000000 → ∃ m2, m2 ≤ m ∧ h c = nI m2)
def Jh (Hb : Nat → Bool) (cst : Nat → Nat) (g : Nat) (h : Nat → Int32) : Prop :=
  (∀ c, c < 160 → ∃ m, h c = nI m ∧ m ≤ 1000000 ∧ (m < 1000000 → ∃ n, Way Hb cst g n c m)) ∧ h g = nI 0
def clo (Hb : Nat → Bool) (cst : Nat → Nat) (h : Nat → Int32) (c : Nat) : Prop := ∀ m, h c = nI m → m < 1000000 → Hb c = true → ∀ i o, i < 4 → nbr c i = some o → ∃ m2, h o = nI m2 ∧ m2 ≤ m + cst c
def meas (h : Nat → Int32) : Nat := fb_sm (fun c => cN (h c)) 160
theorem nbr_ne {k s j : Nat} (h : nbr k s = some j) : ¬ j = k := by
  unfold nbr at h
  split at h <;> split at h <;> cases h <;> omega
theorem nI_inj {a b : Nat} (ha : a < 2 ^ 31) (hb : b < 2 ^ 31) (h : nI a = nI b) : a = b := (nI_eq ha hb).mp h
theorem meas_upd {h : Nat → Int32} {j a b : Nat} (hj : j < 160) (h1 : h j = nI b) (hb : b < 2 ^ 31) (hab : a < b) : meas (upd h j (nI a)) < meas h := by
  unfold meas
  have e := fb_sm_upd (fun c => cN (h c)) a (i := j) (n := 160) hj
  have e2 : fb_sm (fun k => if k = j then a else (fun c => cN (h c)) k) 160 = fb_sm (fun c => cN (upd h j (nI a) c)) 160 := by
    refine fb_sm_cong (fun k _ => ?_)
    by_cases hk : k = j
    · subst hk
      rw [if_pos rfl, pk_us, cN_nI (by omega)]
    · rw [if_neg hk, pk_un hk]
  rw [e2] at e
  have e3 : fb_sm (fun c => cN (upd h j (nI a) c)) 160 + cN (h j) = fb_sm (fun c => cN (h c)) 160 + a := e
  rw [h1, cN_nI hb] at e3
  omega
section FIND
variable {Hb : Nat → Bool} {cst : Nat → Nat} {g : Nat} {P : Nat → Int32}
theorem FDs.of {h : Nat → Int32} (hg : g < 160) (hC : ∀ j, j < 160 → P j = nI (cst j) ∧ 1 ≤ cst j ∧ cst j ≤ 43) (J : Jh Hb cst g h) (hc : ∀ c, c < 160 → clo Hb cst h c) : FDs Hb cst g h := by
  refine ⟨fun c hcc => ?_, fun n => ?_⟩
  · obtain ⟨m, a1, a2, a3⟩ := J.1 c hcc
    rcases Nat.lt_or_ge m 1000000 with h1 | h1
    · obtain ⟨n, a4⟩ := a3 h1
      exact Or.inr ⟨m, n, a1, h1, a4⟩
    · exact Or.inl (by rw [a1, show m = 1000000 by omega])
  · induction n with
    | zero =>
      intro c m hw _
      obtain ⟨rfl, rfl⟩ := hw
      exact ⟨0, Nat.le_refl 0, J.2⟩
    | succ n ih =>
      intro c m hw hm
      obtain ⟨c', i, k', h1, h2, h3, h4, h5, rfl⟩ := hw
      obtain ⟨m2, b1, b2⟩ := ih c' k' h4 (by omega)
      obtain ⟨m3, b3, b4⟩ := hc c' h2 m2 b2 (by omega) h5 i c h1 h3
      exact ⟨m3, by omega, b3⟩
theorem rl4_ps (hC : ∀ j, j < 160 → P j = nI (cst j) ∧ 1 ≤ cst j ∧ cst j ≤ 43) {c m : Nat} {h : Nat → Int32} {q : Int32} (hc : c < 160) (J : Jh Hb cst g h) (h1 : h c = nI m) (h2 : m < 1000000) (h3 : Hb c = true) : ∀ n, n ≤ 4 →
    Jh Hb cst g (rl4 P c n (h, q)).1 ∧ (rl4 P c n (h, q)).1 c = nI m ∧
      ((rl4 P c n (h, q) = (h, q) ∧ ∀ i o, i < n → nbr c i = some o → ∃ m2, h o = nI m2 ∧ m2 ≤ m + cst c) ∨ ((rl4 P c n (h, q)).2 = 1 ∧ meas (rl4 P c n (h, q)).1 < meas h))
  | 0, _ => ⟨J, h1, Or.inl ⟨rfl, fun i o hi => absurd hi (Nat.not_lt_zero _)⟩⟩
  | n + 1, hn => by
    obtain ⟨a1, a2, a3⟩ := rl4_ps hC hc J h1 h2 h3 n (by omega)
    have e : rl4 P c (n + 1) (h, q) = rl1 P c (nbr c n) (rl4 P c n (h, q)) := rfl
    cases hj : nbr c n with
    | none =>
      rw [e, hj]
      refine ⟨a1, a2, ?_⟩
      rcases a3 with ⟨b1, b2⟩ | b
      · refine Or.inl ⟨b1, fun i o hi ho => ?_⟩
        by_cases hin : i = n
        · subst hin
          rw [hj] at ho
          cases ho
        · exact b2 i o (by omega) ho
      · exact Or.inr b
    | some j =>
      rw [e, hj]
      generalize rl4 P c n (h, q) = r at a1 a2 a3 ⊢
      have hjl := nbr_lt hc hj
      have hCc := hC c hc
      obtain ⟨mj, c1, c2, c3⟩ := a1.1 j hjl
      have er : rl1 P c (some j) r = if r.1 j ≤ r.1 c + P c then r else (upd r.1 j (r.1 c + P c), 1) := rfl
      rw [er, a2, hCc.1, nI_add, c1]
      by_cases hle : nI mj ≤ nI (m + cst c)
      · rw [if_pos hle]
        refine ⟨a1, a2, ?_⟩
        rcases a3 with ⟨b1, b2⟩ | b
        · refine Or.inl ⟨b1, fun i o hi ho => ?_⟩
          by_cases hin : i = n
          · subst hin
            rw [hj] at ho
            cases ho
            refine ⟨mj, ?_, (nI_leI (by omega) (by omega)).mp hle⟩
            rw [b1] at c1
            exact c1
          · exact b2 i o (by omega) ho
        · exact Or.inr b
      · rw [if_neg hle]
        have hlt : m + cst c < mj := by
          rcases Nat.lt_or_ge (m + cst c) mj with h9 | h9
          · exact h9
          · exact absurd ((nI_leI (by omega) (by omega)).mpr h9) hle
        have hne := nbr_ne hj
        have hM := meas_upd hjl c1 (by omega) hlt
        refine ⟨⟨fun d hd => ?_, ?_⟩, ?_, Or.inr ⟨rfl, ?_⟩⟩
        · by_cases hdj : d = j
          · subst hdj
            refine ⟨m + cst c, pk_us, by omega, fun _ => ?_⟩
            obtain ⟨m', f1, f2, f3⟩ := a1.1 c hc
            have hmm : m = m' := nI_inj (by omega) (by omega) (a2.symm.trans f1)
            obtain ⟨nw, hw⟩ := f3 (by omega)
            exact ⟨nw + 1, c, n, m, by omega, hc, hj, by rw [hmm]; exact hw, h3, rfl⟩
          · show ∃ m0, upd r.1 j (nI (m + cst c)) d = nI m0 ∧ _
            rw [pk_un hdj]
            exact a1.1 d hd
        · show upd r.1 j (nI (m + cst c)) g = nI 0
          by_cases hgj : g = j
          · subst hgj
            have := nI_inj (by omega) (by omega) (a1.2.symm.trans c1)
            omega
          · rw [pk_un hgj]; exact a1.2
        · show upd r.1 j (nI (m + cst c)) c = nI m
          rw [pk_un (fun x => hne x.symm)]
          exact a2
        · show meas (upd r.1 j (nI (m + cst c))) < meas h
          rcases a3 with ⟨b1, -⟩ | ⟨-, b2⟩
          · rw [b1] at hM ⊢
            exact hM
          · omega
theorem rlc_ps (hC : ∀ j, j < 160 → P j = nI (cst j) ∧ 1 ≤ cst j ∧ cst j ≤ 43) {c : Nat} {h : Nat → Int32} {q : Int32} (hc : c < 160) (J : Jh Hb cst g h) :
    Jh Hb cst g (rlc Hb P c (h, q)).1 ∧ ((rlc Hb P c (h, q) = (h, q) ∧ clo Hb cst h c) ∨ ((rlc Hb P c (h, q)).2 = 1 ∧ meas (rlc Hb P c (h, q)).1 < meas h)) := by
  unfold rlc
  by_cases h0 : h c = 1000000 ∨ ¬ Hb c = true
  · rw [if_pos h0]
    refine ⟨J, Or.inl ⟨rfl, fun m h1 h2 h3 => ?_⟩⟩
    rcases h0 with h0 | h0
    · have : (1000000 : Int32) = nI 1000000 := rfl
      rw [this] at h0
      have := nI_inj (by omega) (by omega) (h1.symm.trans h0)
      omega
    · exact absurd h3 h0
  · rw [if_neg h0]
    obtain ⟨m, a1, a2, -⟩ := J.1 c hc
    have hm : m < 1000000 := by
      rcases Nat.lt_or_ge m 1000000 with h9 | h9
      · exact h9
      · exfalso
        apply h0
        left
        rw [a1, show m = 1000000 by omega]
        rfl
    have hH : Hb c = true := Classical.byContradiction fun h9 => h0 (Or.inr h9)
    obtain ⟨b1, -, b3⟩ := rl4_ps hC (q := q) hc J a1 hm hH 4 (Nat.le_refl _)
    refine ⟨b1, ?_⟩
    rcases b3 with ⟨b4, b5⟩ | b4
    · refine Or.inl ⟨b4, fun m' h1 h2 h3 i o hi ho => ?_⟩
      have := nI_inj (by omega) (by omega) (a1.symm.trans h1)
      subst this
      exact b5 i o hi ho
    · exact Or.inr b4
theorem ckk_lt {n : Nat} (h : n < 320) : ckk n < 160 := by
  unfold ckk
  split <;> omega
theorem swp_ps (hC : ∀ j, j < 160 → P j = nI (cst j) ∧ 1 ≤ cst j ∧ cst j ≤ 43) {h : Nat → Int32} (J : Jh Hb cst g h) : ∀ n, n ≤ 320 →
    Jh Hb cst g (swp Hb P n (h, 0)).1 ∧ ((swp Hb P n (h, 0) = (h, 0) ∧ ∀ i, i < n → clo Hb cst h (ckk i)) ∨ ((swp Hb P n (h, 0)).2 = 1 ∧ meas (swp Hb P n (h, 0)).1 < meas h))
  | 0, _ => ⟨J, Or.inl ⟨rfl, fun i hi => absurd hi (Nat.not_lt_zero _)⟩⟩
  | n + 1, hn => by
    obtain ⟨a1, a2⟩ := swp_ps hC J n (by omega)
    have e : swp Hb P (n + 1) (h, 0) = rlc Hb P (ckk n) ((swp Hb P n (h, 0)).1, (swp Hb P n (h, 0)).2) := rfl
    obtain ⟨b1, b2⟩ := rlc_ps hC (q := (swp Hb P n (h, 0)).2) (ckk_lt (n := n) (by omega)) a1
    rw [e]
    refine ⟨b1, ?_⟩
    rcases a2 with ⟨a3, a4⟩ | ⟨a3, a4⟩
    · rw [a3] at b2 ⊢
      rcases b2 with ⟨b3, b4⟩ | b3
      · refine Or.inl ⟨b3, fun i hi => ?_⟩
        by_cases hin : i = n
        · subst hin; exact b4
        · exact a4 i (by omega)
      · exact Or.inr b3
    · refine Or.inr ?_
      rcases b2 with ⟨b3, b4⟩ | ⟨b3, b4⟩
      · rw [b3]; exact ⟨a3, a4⟩
      · exact ⟨b3, by omega⟩
end FIND
def mpc (N : Nat → Int32) (x r t : Int32) : Nat → Int32 := fun c => N c + x / (60 * r) + (if 50 ≤ t then 1 else 0)
theorem sw_all {Q : Nat → Prop} (h : ∀ i, i < 320 → Q (ckk i)) : ∀ c, c < 160 → Q c := fun c hc => by
  have h1 := h c (by omega)
  have e : ckk c = c := if_pos hc
  rwa [e] at h1
