/-! the law's own search: the nearest cell that is not done is done next; what it holds at each of its steps -/
def far9 (H : Nat → Int32) (c : Nat) : Int32 := if H c = 9999 then 1000000 else H c
def cD (D : Nat → Int32) : Nat := fb_ct (fun c => decide (D c = 1)) 160
def DI (Hb : Nat → Bool) (cst : Nat → Nat) (g : Nat) (H D : Nat → Int32) : Prop :=
  ∃ f : Nat → Nat, (∀ c, c < 160 → H c = nI (f c)) ∧ (∀ c, c < 160 → f c = 9999 ∨ (f c ≤ 43 * cD D ∧ ∃ q, Way Hb cst g q c (f c))) ∧ f g = 0 ∧
    (∀ c, c < 160 → D c = 0 ∨ (D c = 1 ∧ f c < 9999 ∧ (Hb c = true → ∀ i o, i < 4 → nbr c i = some o → f o ≤ f c + cst c))) ∧
    (∀ a b, a < 160 → b < 160 → D a = 1 → D b = 0 → f a ≤ f b)
/-- the best of the first i cells -/
def bst (H D : Nat → Int32) (i : Nat) (b : Int32) : Prop := (b = -1 ∧ ∀ c, c < i → D c = 0 → ¬ H c < 9999) ∨ ∃ k, b = nI k ∧ k < i ∧ D k = 0 ∧ H k < 9999 ∧ ∀ c, c < i → D c = 0 → H c < 9999 → H k ≤ H c
theorem bst_0 {H D : Nat → Int32} : bst H D 0 (-1) := Or.inl ⟨rfl, fun c hc => absurd hc (Nat.not_lt_zero c)⟩
theorem bst.pos {H D : Nat → Int32} {i : Nat} {b : Int32} (h : bst H D i b) (hb : ¬ b < 0) : ∃ k, b = nI k ∧ k < i ∧ D k = 0 ∧ H k < 9999 ∧ ∀ c, c < i → D c = 0 → H c < 9999 → H k ≤ H c := by
  rcases h with ⟨rfl, -⟩ | h
  · exact absurd (by decide) hb
  · exact h
theorem bst.neg {H D : Nat → Int32} {i : Nat} {b : Int32} (hi : i ≤ 160) (h : bst H D i b) (hb : b < 0) : b = -1 ∧ ∀ c, c < i → D c = 0 → ¬ H c < 9999 := by
  rcases h with h | ⟨k, rfl, hk, -⟩
  · exact h
  · exact absurd hb (nI_pos (by omega))
theorem bst.skip {H D : Nat → Int32} {i : Nat} {b : Int32} (h : bst H D i b) (hs : ¬ D i = 0 ∨ ¬ H i < 9999) : bst H D (i + 1) b := by
  rcases h with ⟨h1, h2⟩ | ⟨k, h1, h2, h3, h4, h5⟩
  · refine Or.inl ⟨h1, fun c hc h0 h9 => ?_⟩
    by_cases e : c = i
    · subst e
      exact hs.elim (fun q => q h0) (fun q => q h9)
    · exact h2 c (by omega) h0 h9
  · refine Or.inr ⟨k, h1, by omega, h3, h4, fun c hc h0 h9 => ?_⟩
    by_cases e : c = i
    · subst e
      exact (hs.elim (fun q => q h0) (fun q => q h9)).elim
    · exact h5 c (by omega) h0 h9
theorem bst.worse {H D : Nat → Int32} {i k : Nat} (h : k < i ∧ D k = 0 ∧ H k < 9999 ∧ ∀ c, c < i → D c = 0 → H c < 9999 → H k ≤ H c) (hw : H k ≤ H i) : bst H D (i + 1) (nI k) := by
  obtain ⟨h2, h3, h4, h5⟩ := h
  refine Or.inr ⟨k, rfl, by omega, h3, h4, fun c hc h0 h9 => ?_⟩
  by_cases e : c = i
  · subst e; exact hw
  · exact h5 c (by omega) h0 h9
theorem bst.first {H D : Nat → Int32} {i : Nat} {b : Int32} (hi : i ≤ 160) (h : bst H D i b) (hb : b < 0) (h0 : D i = 0) (h9 : H i < 9999) : bst H D (i + 1) (nI i) := by
  obtain ⟨-, h2⟩ := h.neg hi hb
  refine Or.inr ⟨i, rfl, by omega, h0, h9, fun c hc h0' h9' => ?_⟩
  by_cases e : c = i
  · subst e; exact Int32.le_refl _
  · exact absurd h9' (h2 c (by omega) h0')
theorem bst.better {H D : Nat → Int32} {i k : Nat} (h : k < i ∧ D k = 0 ∧ H k < 9999 ∧ ∀ c, c < i → D c = 0 → H c < 9999 → H k ≤ H c) (h0 : D i = 0) (h9 : H i < 9999) (hw : ¬ H k ≤ H i) : bst H D (i + 1) (nI i) := by
  obtain ⟨h2, h3, h4, h5⟩ := h
  refine Or.inr ⟨i, rfl, by omega, h0, h9, fun c hc h0' h9' => ?_⟩
  by_cases e : c = i
  · subst e; exact Int32.le_refl _
  · have h6 := h5 c (by omega) h0' h9'
    have h7 := Int32.not_le.mp hw
    rw [i_le] at h6 ⊢
    rw [i_lt] at h7
    omega
/-- a cell beside is brought nearer -/
def rlx (H : Nat → Int32) (o : Option Nat) (m : Int32) : Nat → Int32 := match o with
  | some j => upd H j (if m < H j then m else H j)
  | none => H
/-- what the relaxing of some sides does -/
def rlR (f : Nat → Nat) (k m n : Nat) (s : Nat → Bool) (f' : Nat → Nat) : Prop :=
  (∀ c, c < 160 → f' c = f c ∨ (f' c = m ∧ m < f c ∧ ∃ i, i < 4 ∧ nbr k i = some c)) ∧ ∀ i o, i < 4 → s i = true → nbr k i = some o → f' o ≤ m
theorem nI9 {a : Nat} (h : a < 2 ^ 31) : nI a < 9999 ↔ a < 9999 := nI_ltI (a := a) (b := 9999) h (by decide)
theorem rlR_0 {f : Nat → Nat} {k m n : Nat} : rlR f k m n (fun _ => false) f := ⟨fun c _ => Or.inl rfl, fun i o _ h => Bool.noConfusion h⟩
theorem rlR_s {f f' : Nat → Nat} {k m n i : Nat} {s : Nat → Bool} {H : Nat → Int32} (hi : i < 4) (hk : k < 160) (hm : m < 10000) (hf : ∀ c, c < 160 → f' c ≤ 9999) (hH : ∀ c, c < 160 → H c = nI (f' c)) (h : rlR f k m n s f') :
    ∃ f2, rlR f k m n (fun j => if j = i then true else s j) f2 ∧ (∀ c, c < 160 → rlx H (nbr k i) (nI m) c = nI (f2 c)) ∧ ∀ c, c < 160 → f2 c ≤ 9999 := by
  cases hn : nbr k i with
  | none =>
    refine ⟨f', ⟨h.1, fun a o ha hs ho => ?_⟩, hH, hf⟩
    by_cases e : a = i
    · subst e
      rw [hn] at ho
      cases ho
    · have hs : (if a = i then true else s a) = true := hs
      rw [if_neg e] at hs
      exact h.2 a o ha hs ho
  | some j =>
    have hj : j < 160 := nbr_lt hk hn
    refine ⟨fun c => if c = j then (if m < f' j then m else f' j) else f' c, ⟨fun c hc => ?_, fun a o ha hs ho => ?_⟩, fun c hc => ?_, fun c hc => ?_⟩
    · show (if c = j then (if m < f' j then m else f' j) else f' c) = f c ∨ ((if c = j then (if m < f' j then m else f' j) else f' c) = m ∧ _)
      by_cases e : c = j
      · subst e
        rw [if_pos rfl]
        by_cases h2 : m < f' c
        · rw [if_pos h2]
          rcases h.1 c hc with h3 | ⟨h3, h4, h5⟩
          · exact Or.inr ⟨rfl, by omega, i, hi, hn⟩
          · omega
        · rw [if_neg h2]
          exact h.1 c hc
      · rw [if_neg e]
        exact h.1 c hc
    · show (if o = j then (if m < f' j then m else f' j) else f' o) ≤ m
      by_cases e : o = j
      · rw [if_pos e]
        split <;> omega
      · rw [if_neg e]
        have hs : (if a = i then true else s a) = true := hs
        by_cases e2 : a = i
        · subst e2
          rw [hn] at ho
          cases ho
          exact absurd rfl e
        · rw [if_neg e2] at hs
          exact h.2 a o ha hs ho
    · show upd H j (if nI m < H j then nI m else H j) c = nI (if c = j then (if m < f' j then m else f' j) else f' c)
      unfold upd
      by_cases e : c = j
      · rw [if_pos e, if_pos e, hH j hj]
        have h9 := hf j hj
        by_cases h2 : m < f' j
        · rw [if_pos h2, if_pos ((nI_ltI (a := m) (b := f' j) (by omega) (by omega)).mpr h2)]
        · rw [if_neg h2, if_neg (fun q => h2 ((nI_ltI (a := m) (b := f' j) (by omega) (by omega)).mp q))]
      · rw [if_neg e, if_neg e]
        exact hH c hc
    · show (if c = j then (if m < f' j then m else f' j) else f' c) ≤ 9999
      have := hf j hj
      have := hf c hc
      split
      · split <;> omega
      · omega
theorem cD_up {D : Nat → Int32} {k : Nat} (hk : k < 160) (h0 : D k = 0) : cD (upd D k 1) = cD D + 1 := by
  have h := fb_ct_upd (fun c => decide (D c = 1)) true hk
  have e : fb_ct (fun c => if c = k then true else decide (D c = 1)) 160 = cD (upd D k 1) := by
    refine fb_ct_cong (fun c _ => ?_)
    show (if c = k then true else decide (D c = 1)) = decide (upd D k 1 c = 1)
    unfold upd
    by_cases e : c = k
    · rw [if_pos e, if_pos e]; rfl
    · rw [if_neg e, if_neg e]
  rw [e] at h
  have h2 : (if decide (D k = 1) = true then 1 else 0) = 0 := by rw [h0]; rfl
  have h3 : (if (true : Bool) = true then 1 else 0) = 1 := rfl
  have h : cD (upd D k 1) + (if decide (D k = 1) = true then 1 else 0) = cD D + (if (true : Bool) = true then 1 else 0) := h
  omega
theorem cD_le {D : Nat → Int32} {k : Nat} (hk : k < 160) (h0 : D k = 0) : cD D + 1 ≤ 160 := by
  rw [← cD_up hk h0]
  exact fb_ct_le _ 160
theorem DI_0 {Hb : Nat → Bool} {cst : Nat → Nat} {g : Nat} : DI Hb cst g (fun c => if c = g then 0 else 9999) (fun _ => 0) := by
  refine ⟨fun c => if c = g then 0 else 9999, fun c _ => ?_, fun c _ => ?_, if_pos rfl, fun c _ => Or.inl rfl, fun a b _ _ h => absurd (show (0 : Int32) = 1 from h) (by decide)⟩
  · show (if c = g then (0 : Int32) else 9999) = nI (if c = g then 0 else 9999)
    split <;> rfl
  · show (if c = g then 0 else 9999) = 9999 ∨ ((if c = g then 0 else 9999) ≤ _ ∧ ∃ q, Way Hb cst g q c (if c = g then 0 else 9999))
    by_cases e : c = g
    · rw [if_pos e]
      exact Or.inr ⟨Nat.zero_le _, 0, e, rfl⟩
    · rw [if_neg e]
      exact Or.inl rfl
section DSTEP
variable {Hb : Nat → Bool} {cst : Nat → Nat} {g : Nat} {H D : Nat → Int32} {k : Nat}
theorem DI.le (h : DI Hb cst g H D) : ∀ c, c < 160 → 0 ≤ (H c).toInt ∧ (H c).toInt ≤ 9999 := by
  obtain ⟨f, h1, h2, -⟩ := h
  intro c hc
  have hd : cD D ≤ 160 := fb_ct_le _ 160
  have h4 : f c ≤ 9999 := by
    rcases h2 c hc with e | ⟨e, -⟩ <;> omega
  rw [h1 c hc, nI_toInt (by omega)]
  omega
/-- one that doesn't bear is done -/
theorem DI.mark (h : DI Hb cst g H D) (hk : k < 160) (h0 : D k = 0) (h9 : H k < 9999) (hm : ∀ c, c < 160 → D c = 0 → H c < 9999 → H k ≤ H c) (hb : ¬ Hb k = true) : DI Hb cst g H (upd D k 1) := by
  obtain ⟨f, h1, h2, h3, h4, h5⟩ := h
  have hd : cD D ≤ 160 := fb_ct_le _ 160
  have hf : ∀ c, c < 160 → f c ≤ 9999 := fun c hc => by
    rcases h2 c hc with e | ⟨e, -⟩ <;> omega
  have hk9 : f k < 9999 := by
    rw [h1 k hk] at h9
    exact (nI9 (by have := hf k hk; omega)).mp h9
  have hmin : ∀ c, c < 160 → D c = 0 → f k ≤ f c := fun c hc hc0 => by
    by_cases e : f c < 9999
    · have h8 := hm c hc hc0 (by rw [h1 c hc]; exact (nI9 (by omega)).mpr e)
      rw [h1 k hk, h1 c hc] at h8
      exact (nI_leI (a := f k) (b := f c) (by omega) (by omega)).mp h8
    · omega
  have up : ∀ c, ¬ c = k → upd D k 1 c = D c := fun c hc => if_neg hc
  refine ⟨f, h1, fun c hc => ?_, h3, fun c hc => ?_, fun a b ha hb' h6 h7 => ?_⟩
  · rw [cD_up hk h0]
    rcases h2 c hc with e | ⟨e, e2⟩
    · exact Or.inl e
    · exact Or.inr ⟨by omega, e2⟩
  · by_cases e : c = k
    · subst e
      exact Or.inr ⟨if_pos rfl, hk9, fun q => absurd q hb⟩
    · rw [up c e]
      exact h4 c hc
  · have hbk : ¬ b = k := fun e => by
      rw [e] at h7
      have h7 : (if k = k then (1 : Int32) else D k) = 0 := h7
      rw [if_pos rfl] at h7
      exact absurd h7 (by decide)
    rw [up b hbk] at h7
    by_cases e : a = k
    · rw [e]
      exact hmin b hb' h7
    · rw [up a e] at h6
      exact h5 a b ha hb' h6 h7
/-- one that bears is done, and its sides are brought nearer -/
theorem DI.relax (hg : g < 160) (hC : ∀ j, j < 160 → 1 ≤ cst j ∧ cst j ≤ 43) (h : DI Hb cst g H D) (hk : k < 160) (h0 : D k = 0) (h9 : H k < 9999) (hm : ∀ c, c < 160 → D c = 0 → H c < 9999 → H k ≤ H c) (hb : Hb k = true) :
    DI Hb cst g (rlx (rlx (rlx (rlx H (nbr k 0) (H k + nI (cst k))) (nbr k 3) (H k + nI (cst k))) (nbr k 1) (H k + nI (cst k))) (nbr k 2) (H k + nI (cst k))) (upd D k 1) := by
  obtain ⟨f, h1, h2, h3, h4, h5⟩ := h
  have hd : cD D + 1 ≤ 160 := cD_le hk h0
  have hf : ∀ c, c < 160 → f c ≤ 9999 := fun c hc => by
    rcases h2 c hc with e | ⟨e, -⟩ <;> omega
  have hk9 : f k < 9999 := by
    rw [h1 k hk] at h9
    exact (nI9 (by have := hf k hk; omega)).mp h9
  have hk3 : f k ≤ 43 * cD D ∧ ∃ q, Way Hb cst g q k (f k) := (h2 k hk).resolve_left (by omega)
  have hck := hC k hk
  have hmin : ∀ c, c < 160 → D c = 0 → f k ≤ f c := fun c hc hc0 => by
    by_cases e : f c < 9999
    · have h8 := hm c hc hc0 (by rw [h1 c hc]; exact (nI9 (by omega)).mpr e)
      rw [h1 k hk, h1 c hc] at h8
      exact (nI_leI (a := f k) (b := f c) (by omega) (by omega)).mp h8
    · omega
  have em : H k + nI (cst k) = nI (f k + cst k) := by rw [h1 k hk]; exact nI_add _ _
  rw [em]
  obtain ⟨f1, r1, e1, l1⟩ := rlR_s (i := 0) (n := 0) (m := f k + cst k) (by decide) hk (by omega) hf h1 (rlR_0 (f := f))
  obtain ⟨f2, r2, e2, l2⟩ := rlR_s (i := 3) (by decide) hk (by omega) l1 e1 r1
  obtain ⟨f3, r3, e3, l3⟩ := rlR_s (i := 1) (by decide) hk (by omega) l2 e2 r2
  obtain ⟨f4, r4, e4, l4⟩ := rlR_s (i := 2) (by decide) hk (by omega) l3 e3 r3
  have hcl : ∀ i o, i < 4 → nbr k i = some o → f4 o ≤ f k + cst k := fun i o hi ho => by
    refine r4.2 i o hi ?_ ho
    rcases (show i = 0 ∨ i = 1 ∨ i = 2 ∨ i = 3 by omega) with rfl | rfl | rfl | rfl <;> rfl
  have hle : ∀ c, c < 160 → f4 c ≤ f c := fun c hc => by
    rcases r4.1 c hc with e | ⟨e, e2, -⟩ <;> omega
  have hek : f4 k = f k := by
    rcases r4.1 k hk with e | ⟨e, e2, -⟩
    · exact e
    · omega
  have hdone : ∀ c, c < 160 → D c = 1 → f4 c = f c := fun c hc hc1 => by
    have h8 := h5 c k hc hk hc1 h0
    rcases r4.1 c hc with e | ⟨e, e2, -⟩
    · exact e
    · omega
  have up : ∀ c, ¬ c = k → upd D k 1 c = D c := fun c hc => if_neg hc
  refine ⟨f4, e4, fun c hc => ?_, ?_, fun c hc => ?_, fun a b ha hb' h6 h7 => ?_⟩
  · rw [cD_up hk h0]
    rcases r4.1 c hc with e | ⟨e, -, i, hi, hn⟩
    · rw [e]
      rcases h2 c hc with e9 | ⟨e9, e8⟩
      · exact Or.inl e9
      · exact Or.inr ⟨by omega, e8⟩
    · rw [e]
      obtain ⟨q, hq⟩ := hk3.2
      exact Or.inr ⟨by omega, q + 1, k, i, f k, hi, hk, hn, hq, hb, rfl⟩
  · have := hle g hg
    omega
  · by_cases e : c = k
    · subst e
      exact Or.inr ⟨if_pos rfl, by omega, fun _ i o hi ho => by rw [hek]; exact hcl i o hi ho⟩
    · rw [up c e]
      rcases h4 c hc with e1 | ⟨e1, e2, e3⟩
      · exact Or.inl e1
      · refine Or.inr ⟨e1, by rw [hdone c hc e1]; exact e2, fun q i o hi ho => ?_⟩
        rw [hdone c hc e1]
        exact Nat.le_trans (hle o (nbr_lt hc ho)) (e3 q i o hi ho)
  · have hbk : ¬ b = k := fun e => by
      rw [e] at h7
      have h7 : (if k = k then (1 : Int32) else D k) = 0 := h7
      rw [if_pos rfl] at h7
      exact absurd h7 (by decide)
    rw [up b hbk] at h7
    have h8 : f k ≤ f4 b := by
      have := hmin b hb' h7
      rcases r4.1 b hb' with e | ⟨e, -, -⟩ <;> omega
    by_cases e : a = k
    · rw [e, hek]
      exact h8
    · rw [up a e] at h6
      rw [hdone a ha h6]
      have := h5 a k ha hk h6 h0
      omega
/-- when nothing is left: the hours of all cells, as the other search's rows say it -/
theorem DI.fin {P : Nat → Int32} (hg : g < 160) (hC : ∀ j, j < 160 → P j = nI (cst j) ∧ 1 ≤ cst j ∧ cst j ≤ 43) (h : DI Hb cst g H D) (hn : ∀ c, c < 160 → D c = 0 → ¬ H c < 9999) : FDs Hb cst g (far9 H) := by
  obtain ⟨f, h1, h2, h3, h4, h5⟩ := h
  have hd : cD D ≤ 160 := fb_ct_le _ 160
  have hf : ∀ c, c < 160 → f c ≤ 9999 := fun c hc => by
    rcases h2 c hc with e | ⟨e, -⟩ <;> omega
  have e9 : ∀ c, c < 160 → f c = 9999 → far9 H c = nI 1000000 := fun c hc e => by
    unfold far9
    rw [h1 c hc, e]
    rfl
  have en : ∀ c, c < 160 → f c < 9999 → far9 H c = nI (f c) := fun c hc e => by
    unfold far9
    rw [h1 c hc]
    exact if_neg (fun q => by
      have := (nI_eq (a := f c) (b := 9999) (by omega) (by decide)).mp q
      omega)
  refine FDs.of hg hC ⟨fun c hc => ?_, ?_⟩ (fun c hc m hm hlt hb i o hi ho => ?_)
  · rcases h2 c hc with e | ⟨e, q⟩
    · exact ⟨1000000, e9 c hc e, Nat.le_refl _, fun q => absurd q (Nat.lt_irrefl _)⟩
    · exact ⟨f c, en c hc (by omega), by omega, fun _ => q⟩
  · have := en g hg (by omega)
    rw [h3] at this
    exact this
  · have hc9 : f c < 9999 := Classical.byContradiction fun q => by
      have hz := hf c hc
      have := e9 c hc (by omega)
      rw [this] at hm
      have := (nI_eq (a := 1000000) (b := m) (by decide) (by omega)).mp hm
      omega
    rw [en c hc hc9] at hm
    have hm2 : f c = m := (nI_eq (a := f c) (b := m) (by omega) (by omega)).mp hm
    have ho2 : o < 160 := nbr_lt hc ho
    have hD : ¬ D c = 0 := fun q => hn c hc q (by rw [h1 c hc]; exact (nI9 (by omega)).mpr hc9)
    obtain ⟨-, -, e3⟩ := (h4 c hc).resolve_left hD
    have h8 := e3 hb i o hi ho
    have hcs := (hC c hc).2
    have h7 : f c ≤ 43 * cD D := by
      rcases h2 c hc with e | ⟨e, -⟩ <;> omega
    exact ⟨f o, en o ho2 (by omega), by omega⟩
end DSTEP
