/-! a quotient of small whole numbers is no NaN -/
theorem fl_enc {s : Bool} {c : Nat} {q : Int} (hc : c < 9007199254740992) (hq : q ≤ 971) : FP.Core.encode FP.Core.b64 (.fin s c q) % 9223372036854775808 < 9218868437227405312 := by
  have e : FP.Core.encode FP.Core.b64 (.fin s c q) = if c < 4503599627370496 then (s.toNat * 2048 + 0) * 4503599627370496 + c else (s.toNat * 2048 + ((q - -1074).toNat + 1)) * 4503599627370496 + (c - 4503599627370496) := rfl
  rw [e]
  have hs : s.toNat = 0 ∨ s.toNat = 1 := by cases s <;> simp
  generalize s.toNat = t at hs
  split
  · rcases hs with rfl | rfl <;> omega
  · have hq2 : (q - -1074).toNat ≤ 2045 := by omega
    generalize (q - -1074).toNat = u at hq2
    rcases hs with rfl | rfl <;> omega
theorem fl_inf {s : Bool} : FP.Core.encode FP.Core.b64 (.inf s) % 9223372036854775808 = 9218868437227405312 := by
  have e : FP.Core.encode FP.Core.b64 (.inf s) = (s.toNat * 2048 + 2047) * 4503599627370496 + 0 := rfl
  rw [e]
  have hs : s.toNat = 0 ∨ s.toNat = 1 := by cases s <;> simp
  generalize s.toNat = t at hs
  rcases hs with rfl | rfl <;> omega
theorem fl_lt {D : FP.Core.Datum} (h : (∃ s c q, D = .fin s c q ∧ c < 9007199254740992 ∧ q ≤ 971) ∨ ∃ s, D = .inf s) : FP.Core.encode FP.Core.b64 D < 18446744073709551616 := by
  rcases h with ⟨s, c, q, rfl, hc, hq⟩ | ⟨s, rfl⟩
  · have e : FP.Core.encode FP.Core.b64 (.fin s c q) = if c < 4503599627370496 then (s.toNat * 2048 + 0) * 4503599627370496 + c else (s.toNat * 2048 + ((q - -1074).toNat + 1)) * 4503599627370496 + (c - 4503599627370496) := rfl
    rw [e]
    have hs : s.toNat = 0 ∨ s.toNat = 1 := by cases s <;> simp
    generalize s.toNat = t at hs
    split
    · rcases hs with rfl | rfl <;> omega
    · have hq2 : (q - -1074).toNat ≤ 2045 := by omega
      generalize (q - -1074).toNat = u at hq2
      rcases hs with rfl | rfl <;> omega
  · have e : FP.Core.encode FP.Core.b64 (.inf s) = (s.toNat * 2048 + 2047) * 4503599627370496 + 0 := rfl
    rw [e]
    have hs : s.toNat = 0 ∨ s.toNat = 1 := by cases s <;> simp
    generalize s.toNat = t at hs
    rcases hs with rfl | rfl <;> omega
theorem fl_mod {D : FP.Core.Datum} (h : (∃ s c q, D = .fin s c q ∧ c < 9007199254740992 ∧ q ≤ 971) ∨ ∃ s, D = .inf s) : FP.Core.encode FP.Core.b64 D % 9223372036854775808 ≤ 9218868437227405312 := by
  rcases h with ⟨s, c, q, rfl, hc, hq⟩ | ⟨s, rfl⟩
  · exact Nat.le_of_lt (fl_enc hc hq)
  · rw [fl_inf]
    exact Nat.le_refl _
theorem fl_settle {s : Bool} {c : Nat} {q : Int} : (∃ s' c' q', FP.Core.settle FP.Core.b64 s c q = .fin s' c' q' ∧ c' < 9007199254740992 ∧ q' ≤ 971) ∨ ∃ s', FP.Core.settle FP.Core.b64 s c q = .inf s' := by
  have e : FP.Core.settle FP.Core.b64 s c q = if c < 9007199254740992 then (if q ≤ 971 then .fin s c q else .inf s) else (if q + 1 ≤ 971 then .fin s 4503599627370496 (q + 1) else .inf s) := rfl
  rw [e]
  split
  · rename_i h
    split
    · rename_i h2
      exact Or.inl ⟨s, c, q, rfl, h, h2⟩
    · exact Or.inr ⟨s, rfl⟩
  · split
    · rename_i h2
      exact Or.inl ⟨s, 4503599627370496, q + 1, rfl, by decide, h2⟩
    · exact Or.inr ⟨s, rfl⟩
theorem fl_settle_fin {s : Bool} {c : Nat} {q : Int} (hq : q < 971) : ∃ s' c' q', FP.Core.settle FP.Core.b64 s c q = .fin s' c' q' ∧ c' < 9007199254740992 ∧ q' ≤ 971 := by
  have e : FP.Core.settle FP.Core.b64 s c q = if c < 9007199254740992 then (if q ≤ 971 then .fin s c q else .inf s) else (if q + 1 ≤ 971 then .fin s 4503599627370496 (q + 1) else .inf s) := rfl
  rw [e]
  split
  · rename_i h
    rw [if_pos (by omega)]
    exact ⟨s, c, q, rfl, h, by omega⟩
  · rw [if_pos (by omega)]
    exact ⟨s, 4503599627370496, q + 1, rfl, by decide, by omega⟩
theorem fl_ratio {s : Bool} {a b : Nat} {q : Int} : (∃ s' c' q', FP.Core.roundRatio FP.Core.b64 s a b q = .fin s' c' q' ∧ c' < 9007199254740992 ∧ q' ≤ 971) ∨ ∃ s', FP.Core.roundRatio FP.Core.b64 s a b q = .inf s' := by
  unfold FP.Core.roundRatio
  split
  · exact Or.inl ⟨s, 0, _, rfl, by decide, by decide⟩
  · exact fl_settle
theorem fl_i2d {m : Nat} (hm : m < 32768) : ∃ s c q, FP.Core.round FP.Core.b64 (FP.Core.ofInt (m : Int)) = .fin s c q ∧ c < 9007199254740992 ∧ q ≤ 971 := by
  have e : FP.Core.round FP.Core.b64 (FP.Core.ofInt (m : Int)) = FP.Core.roundRatio FP.Core.b64 (decide ((m : Int) < 0)) m 1 0 := rfl
  rw [e]
  unfold FP.Core.roundRatio
  split
  · exact ⟨_, 0, _, rfl, by decide, by decide⟩
  · rename_i h0
    refine fl_settle_fin ?_
    have hl : FP.Core.leading m 1 ≤ 14 := by
      have h1 : Nat.log2 m < 15 := (Nat.log2_lt h0).mpr hm
      have h2 : Nat.log2 1 = 0 := by decide
      unfold FP.Core.leading
      rw [h2]
      dsimp only
      split <;> omega
    have e2 : FP.Core.quantum FP.Core.b64 m 1 0 = max (-1074) (FP.Core.leading m 1 + 0 - (53 - 1)) := rfl
    rw [e2]
    omega
theorem fl_dec {n : Nat} (h : n % 9223372036854775808 < 9218868437227405312) : ∃ s c q, FP.Core.decode FP.Core.b64 n = .fin s c q := by
  have e : FP.Core.decode FP.Core.b64 n = if n / 4503599627370496 % 2048 = 2047 then (if n % 4503599627370496 = 0 then .inf (FP.Core.fieldS FP.Core.b64 n) else .nan) else if n / 4503599627370496 % 2048 = 0 then .fin (FP.Core.fieldS FP.Core.b64 n) (n % 4503599627370496) (-1074) else .fin (FP.Core.fieldS FP.Core.b64 n) (4503599627370496 + n % 4503599627370496) (-1074 + (((n / 4503599627370496 % 2048 : Nat) : Int) - 1)) := rfl
  rw [e, if_neg (by omega)]
  split
  · exact ⟨_, _, _, rfl⟩
  · exact ⟨_, _, _, rfl⟩
theorem fl_nn {n : Nat} (h : n % 9223372036854775808 ≤ 9218868437227405312) : FP.Core.decode FP.Core.b64 n ≠ .nan := by
  have e : FP.Core.decode FP.Core.b64 n = if n / 4503599627370496 % 2048 = 2047 then (if n % 4503599627370496 = 0 then .inf (FP.Core.fieldS FP.Core.b64 n) else .nan) else if n / 4503599627370496 % 2048 = 0 then .fin (FP.Core.fieldS FP.Core.b64 n) (n % 4503599627370496) (-1074) else .fin (FP.Core.fieldS FP.Core.b64 n) (4503599627370496 + n % 4503599627370496) (-1074 + (((n / 4503599627370496 % 2048 : Nat) : Int) - 1)) := rfl
  rw [e]
  split
  · rw [if_pos (by omega)]
    exact fun h => by cases h
  · split
    · exact fun h => by cases h
    · exact fun h => by cases h
theorem fl_toNat {n : Nat} (h : n < 18446744073709551616) : (UInt64.ofNat n).toNat = n := by
  rw [UInt64.toNat_ofNat']
  exact Nat.mod_eq_of_lt h
theorem n64_iff {r : UInt64} : vf_n64 r ↔ r.toNat % 9223372036854775808 ≤ 9218868437227405312 := by
  unfold vf_n64
  rw [UInt64.le_iff_toNat_le, UInt64.toNat_and]
  show r.toNat &&& (2 ^ 63 - 1) ≤ 9218868437227405312 ↔ _
  rw [Nat.and_two_pow_sub_one_eq_mod]
theorem dcmp_eq {r : UInt64} (h : vf_n64 r) : FP.dcmp r r = some .eq := by
  have h1 := fl_nn (n64_iff.mp h)
  show FP.Core.order (FP.Core.decode FP.Core.b64 r.toNat) (FP.Core.decode FP.Core.b64 r.toNat) = some .eq
  cases hd : FP.Core.decode FP.Core.b64 r.toNat with
  | nan => exact absurd hd h1
  | inf s =>
    show some (compare (FP.Core.signed s 1) (FP.Core.signed s 1)) = some .eq
    cases s <;> decide
  | fin s c q =>
    show some (compare (FP.Core.signed s (FP.Core.inUnits c q (min q q))) (FP.Core.signed s (FP.Core.inUnits c q (min q q)))) = some .eq
    generalize FP.Core.signed s (FP.Core.inUnits c q (min q q)) = z
    have : compare z z = .eq := by
      unfold compare
      simp [instOrdInt, compareOfLessAndEq]
    rw [this]
theorem fl_den0 : ∀ b : Fin 160, (match FP.Core.decode FP.Core.b64 (FP.i2d (nI (b.val + 1))).toNat with | .fin _ c _ => c != 0 | _ => false) = true := by decide +kernel
theorem i2d_dec {m : Nat} (hm : m < 32768) : ∃ s c q, FP.Core.decode FP.Core.b64 (FP.i2d (nI m)).toNat = .fin s c q := by
  obtain ⟨s, c, q, h1, h2, h3⟩ := fl_i2d hm
  have e : (FP.i2d (nI m)).toNat = FP.Core.encode FP.Core.b64 (.fin s c q) := by
    show (UInt64.ofNat (FP.Core.encode FP.Core.b64 (FP.Core.round FP.Core.b64 (FP.Core.ofInt (nI m).toInt)))).toNat = _
    rw [nI_toInt (by omega), h1, fl_toNat (fl_lt (Or.inl ⟨s, c, q, rfl, h2, h3⟩))]
  rw [e]
  exact fl_dec (fl_enc h2 h3)
theorem ddiv_n64 {m b : Nat} (hm : m < 32768) (h1 : 1 ≤ b) (h2 : b ≤ 160) : vf_n64 (FP.ddiv (FP.i2d (nI m)) (FP.i2d (nI b))) := by
  rw [n64_iff]
  obtain ⟨s, c, q, hd⟩ := i2d_dec hm
  have hb := fl_den0 ⟨b - 1, by omega⟩
  have eb : b - 1 + 1 = b := by omega
  simp only [eb] at hb
  show (UInt64.ofNat (FP.Core.encode FP.Core.b64 (FP.Core.quotient FP.Core.b64 (FP.Core.decode FP.Core.b64 (FP.i2d (nI m)).toNat) (FP.Core.decode FP.Core.b64 (FP.i2d (nI b)).toNat)))).toNat % _ ≤ _
  rw [hd]
  cases hx : FP.Core.decode FP.Core.b64 (FP.i2d (nI b)).toNat with
  | nan => rw [hx] at hb; cases hb
  | inf t => rw [hx] at hb; cases hb
  | fin t d r =>
    rw [hx] at hb
    have hd0 : ¬ d = 0 := by simpa using hb
    have e : FP.Core.quotient FP.Core.b64 (.fin s c q) (.fin t d r) = FP.Core.roundRatio FP.Core.b64 (s != t) c d (q - r) := by
      show (if d = 0 then _ else _) = _
      rw [if_neg hd0]
    rw [e, fl_toNat (fl_lt fl_ratio)]
    exact fl_mod fl_ratio
theorem n64_0 : vf_n64 FP.dconst0 := by unfold vf_n64; decide
/-- the mean thickness -/
def mnD (T : Nat → Int32) : UInt64 := if sumN (fun j => if T j < 0 then 0 else 1) 160 < 1 then FP.dconst0 else FP.ddiv (FP.i2d (sumN (fun j => if 0 < T j then T j else 0) 160)) (FP.i2d (sumN (fun j => if T j < 0 then 0 else 1) 160))
theorem sum_ice (T : Nat → Int32) : ∀ n, ∃ m, m ≤ n ∧ sumN (fun j => if T j < 0 then 0 else 1) n = nI m
  | 0 => ⟨0, Nat.le_refl _, rfl⟩
  | n + 1 => by
    obtain ⟨m, h1, h2⟩ := sum_ice T n
    have e : sumN (fun j => if T j < 0 then 0 else 1) (n + 1) = nI m + (if T n < 0 then 0 else 1) := by rw [← h2]; rfl
    rw [e]
    split
    · exact ⟨m, by omega, Int32.add_zero _⟩
    · exact ⟨m + 1, by omega, nI_1 m⟩
theorem sum_thk {T : Nat → Int32} (hT : tOK T) : ∀ n, n ≤ 160 → ∃ m, m ≤ 200 * n ∧ sumN (fun j => if 0 < T j then T j else 0) n = nI m
  | 0, _ => ⟨0, Nat.le_refl _, rfl⟩
  | n + 1, hn => by
    obtain ⟨m, h1, h2⟩ := sum_thk hT n (by omega)
    have e : sumN (fun j => if 0 < T j then T j else 0) (n + 1) = nI m + (if 0 < T n then T n else 0) := by rw [← h2]; rfl
    rw [e]
    have hb := hT n (by omega)
    split
    · rename_i h3
      obtain ⟨t, ht, et⟩ := nI_mk (x := T n) (n := 201) (by rw [i_lt, i_0] at h3; omega) (by have := hb.2; rw [i_le, i_200] at this; omega) (by decide)
      exact ⟨m + t, by omega, by rw [et, nI_add]⟩
    · exact ⟨m, by omega, Int32.add_zero _⟩
theorem mean_n64 {T : Nat → Int32} (hT : tOK T) (h : ¬ sumN (fun j => if T j < 0 then 0 else 1) 160 < 1) : vf_n64 (FP.ddiv (FP.i2d (sumN (fun j => if 0 < T j then T j else 0) 160)) (FP.i2d (sumN (fun j => if T j < 0 then 0 else 1) 160))) := by
  obtain ⟨c, h1, h2⟩ := sum_ice T 160
  obtain ⟨m, h3, h4⟩ := sum_thk hT 160 (Nat.le_refl _)
  rw [h2, h4]
  refine ddiv_n64 (by omega) ?_ h1
  rw [h2] at h
  rcases Nat.eq_zero_or_pos c with rfl | h5
  · exact absurd (by decide) h
  · exact h5
theorem mnD_n64 {T : Nat → Int32} (hT : tOK T) : vf_n64 (mnD T) := by
  unfold mnD
  split
  · exact n64_0
  · exact mean_n64 hT (by assumption)
