/-! what holds while the lake is chosen -/
section LI79
variable {N O PC T S C MX : Nat → Int32} {ps sc bc B : Nat} {ch : Int32} {SF BF : Nat → Nat → Int32}
theorem LI.more {B' : Nat} (h : LI N O PC ps sc bc T S C ch SF BF MX B) (hB : B ≤ B') : LI N O PC ps sc bc T S C ch SF BF MX B' := ⟨h.1.more hB, h.2⟩
theorem LI_0 : LI (fun _ => 1) (fun _ => 5) (fun _ => 0) 0 0 0 (fun _ => 30) (fun _ => 0) (fun _ => 0) 0 (fun _ _ => 0) (fun _ _ => 0) (fun _ => 0) 0 := by
  refine ⟨gI_init, ⟨fun i hi => absurd hi (Nat.not_lt_zero i), fun i hi => absurd hi (Nat.not_lt_zero i)⟩, fun k hk => ?_, fun c hc h => rfl, fun i hi => absurd hi (Nat.not_lt_zero i), fun b hb => absurd hb (Nat.not_lt_zero b)⟩
  exact ⟨(by decide : 0 ≤ (0 : Int32).toInt), (by decide : (0 : Int32).toInt ≤ 9)⟩
theorem lyU_S {S : Nat → Int32} {c : Nat → Nat} (h : sTK S) : ∀ n, sTK (lyU S 0 c n)
  | 0 => h
  | n + 1 => fun k hk => by
    have ih := lyU_S (c := c) h n k hk
    show 0 ≤ (upd (lyU S 0 c n) (c n) 0 k).toInt ∧ (upd (lyU S 0 c n) (c n) 0 k).toInt ≤ 9
    by_cases e : k = c n
    · rw [e, pk_us]
      exact ⟨(by decide : 0 ≤ (0 : Int32).toInt), (by decide : (0 : Int32).toInt ≤ 9)⟩
    · rw [pk_un e]
      exact ih
theorem lyU_l {T S : Nat → Int32} {c : Nat → Nat} {t : Int32} (h : laS T S) : ∀ n, laS (lyU T t c n) (lyU S 0 c n)
  | 0 => h
  | n + 1 => fun k hk hT => by
    have ih := lyU_l (c := c) (t := t) h n k hk
    have hT : upd (lyU T t c n) (c n) t k < 0 := hT
    show upd (lyU S 0 c n) (c n) 0 k = 0
    by_cases e : k = c n
    · rw [e, pk_us]
    · rw [pk_un e] at hT ⊢
      exact ih hT
theorem LI.ice {x y wd dp : Nat} {t : Int32} (h : LI N O PC ps sc bc T S C ch SF BF MX B) (hB : B < 2 ^ 30) (hx : x + wd ≤ 16) (hy : y + dp ≤ 10) (hw1 : 1 ≤ wd) (hd1 : 1 ≤ dp) (ht : -1 ≤ t ∧ t ≤ 200) (hps0 : ps = 0) (hsc0 : sc = 0) : LI N O PC ps sc bc (lyU T t (cel x y wd) (dp * wd)) (lyU S 0 (cel x y wd) (dp * wd)) (lyU C 0 (cel x y wd) (dp * wd)) (ch + nI (dp * wd)) SF BF MX (B + 160) := by
  have e : rIc T S C PC SF ps sc ch (nI x) (nI y) (nI wd) (nI dp) t = (0, nI wd * nI dp, lyU T t (cel x y wd) (dp * wd), lyU S 0 (cel x y wd) (dp * wd), lyU C 0 (cel x y wd) (dp * wd), ch + nI (dp * wd)) := by
    subst hps0
    subst hsc0
    have h1 : onM (nI x) (nI y) := ⟨rng_c (n := 15) (by omega) (by decide), rng_c (n := 9) (by omega) (by decide)⟩
    have h2 : 1 ≤ nI wd ∧ nI wd ≤ 16 - nI x := ⟨(nI_leI (a := 1) (b := wd) (by decide) (by omega)).mpr hw1, by rw [show (16 : Int32) - nI x = nI (16 - x) from pk_sub (a := 16) (by omega)]; exact (nI_leI (a := wd) (b := 16 - x) (by omega) (by omega)).mpr (by omega)⟩
    have h3 : 1 ≤ nI dp ∧ nI dp ≤ 10 - nI y := ⟨(nI_leI (a := 1) (b := dp) (by decide) (by omega)).mpr hd1, by rw [show (10 : Int32) - nI y = nI (10 - y) from pk_sub (a := 10) (by omega)]; exact (nI_leI (a := dp) (b := 10 - y) (by omega) (by omega)).mpr (by omega)⟩
    have hno : ¬ tkL PC SF 0 0 (cN (nI x)) (cN (nI y)) (cN (nI wd)) (cN (nI dp)) = true := fun q => by
      have h0 : ∀ k, tkP PC SF 0 0 k = false := fun k => by
        unfold tkP
        rw [pOn_stop 8 0 (Nat.le_refl 0), sum_to (F := onF SF 0 (nI k)) (n := 0) (m := 5) (by omega) (fun j h1 h2 => if_neg (fun q => absurd q.1 (by omega)))]
        rfl
      have h1 : tkL PC SF 0 0 (cN (nI x)) (cN (nI y)) (cN (nI wd)) (cN (nI dp)) = false := (tkL_all _).mpr (fun m _ => (tkC_all _).mpr (fun m _ => h0 _))
      rw [h1] at q
      exact Bool.noConfusion q
    unfold rIc
    rw [if_pos ⟨⟨h1, h2, h3⟩, ht⟩, if_neg (fun q => hno q.2), cN_nI (by omega), cN_nI (by omega), cN_nI (by omega), cN_nI (by omega)]
  obtain ⟨g, j, k, l, a, b⟩ := h
  have g2 := gI.ic (S := S) (x := nI x) (y := nI y) (w := nI wd) (h9 := nI dp) (t := t) g hB
  rw [e] at g2
  exact ⟨g2, j, lyU_S k _, lyU_l l _, a, b⟩
theorem LI.post {c : Nat} (h : LI N O PC ps sc bc T S C ch SF BF MX B) (hB : B < 2 ^ 30) (hc : c < 160) (hp8 : ps < 8) (hn : pOn PC ps (nI c) 8 0 = none) : LI N O (upd PC ps (nI c)) (ps + 1) sc bc (upd T c (-1)) (upd S c 0) (upd C c 0) (ch + 1) SF BF MX (B + 1) := by
  have e : rAP T S C PC ps ch (nI (c % 16)) (nI (c / 16)) = (0, nI ps, upd T c (-1), upd S c 0, upd C c 0, upd PC ps (nI c), ps + 1, ch + 1) := by
    unfold rAP
    rw [if_pos (onM_c hc), cell_c, if_pos ⟨hn, hp8⟩, cN_nI (by omega)]
  obtain ⟨g, j, k, l, a, b⟩ := h
  have g2 := gI.ap (S := S) (x := nI (c % 16)) (y := nI (c / 16)) g hB
  rw [e] at g2
  refine ⟨g2, j, fun m hm => ?_, fun m hm hT => ?_, a, b⟩
  · by_cases e : m = c
    · rw [e, pk_us]
      exact ⟨(by decide : 0 ≤ (0 : Int32).toInt), (by decide : (0 : Int32).toInt ≤ 9)⟩
    · rw [pk_un e]
      exact k m hm
  · by_cases e : m = c
    · rw [e, pk_us]
    · rw [pk_un e] at hT ⊢
      exact l m hm hT
theorem begS_0 {S : Nat → Nat → Int32} {i : Nat} {a b c : Int32} : (∀ j k, ¬ j = i → begS S i a b c j k = S j k) ∧ begS S i a b c i 2 = S i 2 ∧ begS S i a b c i 7 = S i 7 ∧ begS S i a b c i 3 = 0 := by
  unfold begS
  refine ⟨fun j k h => ?_, ?_, ?_, ?_⟩
  · rw [upS_n _ _ (fun z => h z.1), upS_n _ _ (fun z => h z.1), upS_n _ _ (fun z => h z.1), upS_n _ _ (fun z => h z.1), upS_n _ _ (fun z => h z.1)]
  · rw [upS_n _ _ (by omega), upS_n _ _ (by omega), upS_n _ _ (by omega), upS_n _ _ (by omega), upS_n _ _ (by omega)]
  · rw [upS_n _ _ (by omega), upS_n _ _ (by omega), upS_n _ _ (by omega), upS_n _ _ (by omega), upS_n _ _ (by omega)]
  · rw [upS_n _ _ (by omega), upS_n _ _ (by omega), upS_n _ _ (by omega), upS_s]
theorem LI.addS {q r : Nat} (h : LI N O PC ps sc bc T S C ch SF BF MX B) (hq : q < ps) (hr1 : 1 ≤ r) (hr6 : r ≤ 6) (hs5 : sc < 5) : LI N O PC ps (sc + 1) bc T S C ch (begS SF sc (nI q) (PC q) (nI r)) BF (upd MX sc 0) B := by
  obtain ⟨g, j, k, l, a, b⟩ := h
  obtain ⟨hb1, hb2, hb3⟩ := g.1
  have hz := g.2.2.2.2.2.1 sc (Nat.le_refl sc)
  have e : rAS PC SF ps sc (nI q) (nI r) = (0, nI sc, begS SF sc (nI q) (PC q) (nI r), sc + 1) := by
    unfold rAS
    rw [if_pos (isP_c hq (by omega)), if_pos ⟨(nI_leI (a := 1) (b := r) (by decide) (by omega)).mpr hr1, (nI_leI (a := r) (b := 6) (by omega) (by decide)).mpr hr6⟩, if_pos hs5, cop_k hq hb1]
  have g2 := gI.as (q := nI q) (r := nI r) (MY := upd MX sc 0) g (fun i hi => pk_un hi)
  rw [e] at g2
  obtain ⟨v0, v2, v7, v3⟩ := begS_0 (S := SF) (i := sc) (a := nI q) (b := PC q) (c := nI r)
  refine ⟨g2, ⟨fun i hi => ?_, fun i hi h3 => ?_⟩, k, l, fun i hi h3 h7 => ?_, fun m hm => ?_⟩
  · by_cases e : i = sc
    · rw [e, v2, hz.1]
      exact ⟨(by decide : 0 ≤ (0 : Int32).toInt), (by decide : (0 : Int32).toInt ≤ 100)⟩
    · rw [v0 i 2 e]
      exact j.1 i (by omega)
  · by_cases e : i = sc
    · rw [e, v7]
      exact hz.2
    · rw [v0 i 3 e] at h3
      rw [v0 i 7 e]
      exact j.2 i (by omega) h3
  · by_cases e : i = sc
    · rw [e, v3] at h3
      exact absurd h3 (by decide)
    · rw [v0 i 3 e] at h3
      rw [v0 i 7 e] at h7
      rw [v0 i 4 e, v0 i 6 e]
      exact a i (by omega) h3 h7
  · obtain ⟨b1, b2, b3, b4⟩ := b m hm
    refine ⟨b1, fun q => ?_, b3, b4⟩
    obtain ⟨n, n1, n2, n3⟩ := b2 q
    exact ⟨n, by omega, n2, by rw [v0 n 3 (by omega)]; exact n3⟩
theorem LI.addB {x y z : Nat} (h : LI N O PC ps sc bc T S C ch SF BF MX B) (hx : x < ps) (hy : y < ps) (hxy : ¬ x = y) (hz1 : 1 ≤ z) (hz : z ≤ 30) (hb8 : bc < 40) : LI N O PC ps sc (bc + 1) T S C ch SF (begB BF bc (nI x) (nI y) (nI z)) MX B := by
  obtain ⟨g, j, k, l, a, b⟩ := h
  obtain ⟨hb1, hb2, hb3⟩ := g.1
  have e : rAB BF ps bc (nI x) (nI y) (nI z) = (0, nI bc, begB BF bc (nI x) (nI y) (nI z), bc + 1) := by
    unfold rAB
    rw [if_pos ⟨isP_c hx (by omega), isP_c hy (by omega)⟩, if_pos ⟨fun q => hxy ((nI_eq (by omega) (by omega)).mp q), (nI_leI (a := 1) (b := z) (by decide) (by omega)).mpr hz1, (nI_leI (a := z) (b := 30) (by omega) (by decide)).mpr hz⟩, if_pos hb8]
  have g2 := gI.ab (a := nI x) (b := nI y) (c := nI z) g
  rw [e] at g2
  refine ⟨g2, j, k, l, a, fun m hm => ?_⟩
  by_cases e : m = bc
  · subst e
    have v2 : begB BF m (nI x) (nI y) (nI z) m 2 = 0 := by
      unfold begB
      rw [upS_n _ _ (by omega), upS_n _ _ (by omega), upS_s]
    have v3 : begB BF m (nI x) (nI y) (nI z) m 3 = nI x := by
      unfold begB
      rw [upS_n _ _ (by omega), upS_s]
    have v4 : begB BF m (nI x) (nI y) (nI z) m 4 = -1 := by
      unfold begB
      rw [upS_s]
    rw [v2, v3, v4]
    exact ⟨Or.inl rfl, fun q => absurd q (by decide), ⟨fun q => absurd q (by decide), fun q => absurd q (by decide)⟩, ⟨fun q => absurd q (by decide), fun q => absurd q (Int32.not_lt.mpr (nI_pos' (by omega)))⟩⟩
  · have v : ∀ k, begB BF bc (nI x) (nI y) (nI z) m k = BF m k := fun k => by
      unfold begB
      rw [upS_n _ _ (fun z => e z.1), upS_n _ _ (fun z => e z.1), upS_n _ _ (fun z => e z.1), upS_n _ _ (fun z => e z.1), upS_n _ _ (fun z => e z.1)]
    rw [v 2, v 3, v 4]
    exact b m (by omega)
end LI79
theorem mod_ne {a d n : Nat} (ha : a < n) (h1 : 1 ≤ d) (h2 : d < n) : ¬ a = (a + d) % n ∧ (a + d) % n < n := by
  refine ⟨?_, Nat.mod_lt _ (by omega)⟩
  by_cases h : a + d < n
  · rw [Nat.mod_eq_of_lt h]
    omega
  · rw [Nat.mod_eq_sub_mod (by omega), Nat.mod_eq_of_lt (by omega)]
    omega
theorem min159 {c : Nat} (hc : c < 2 ^ 30) : ∃ c9, c9 < 160 ∧ (if (159 : Int32) < nI c then 159 else nI c) = nI c9 := by
  by_cases h : (159 : Int32) < nI c
  · exact ⟨159, by decide, if_pos h⟩
  · refine ⟨c, ?_, if_neg h⟩
    exact Nat.lt_of_not_le (fun q => h ((nI_ltI (a := 159) (b := c) (by decide) (by omega)).mpr q))
theorem oI_neg {o : Option Nat} (h : oI o < 0) (h2 : ∀ j, o = some j → j < 2 ^ 31) : o = none := by
  cases o with
  | none => rfl
  | some j => exact absurd h (Int32.not_lt.mpr (nI_pos' (h2 j rfl)))
