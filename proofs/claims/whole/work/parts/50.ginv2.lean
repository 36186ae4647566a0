/-! each call keeps it, second half -/
theorem beg_o {S : Nat → Nat → Int32} {n : Nat} {a b c : Int32} {i k : Nat} (hi : ¬ i = n) : begS S n a b c i k = S i k := by
  unfold begS
  rw [upS_n _ _ (fun q => hi q.1), upS_n _ _ (fun q => hi q.1), upS_n _ _ (fun q => hi q.1), upS_n _ _ (fun q => hi q.1), upS_n _ _ (fun q => hi q.1)]
theorem beg_k {S : Nat → Nat → Int32} {n : Nat} {a b c : Int32} {i k : Nat} (h0 : ¬ k = 0) (h3 : ¬ k = 3) (h4 : ¬ k = 4) (h5 : ¬ k = 5) (h6 : ¬ k = 6) : begS S n a b c i k = S i k := by
  unfold begS
  rw [upS_n _ _ (fun q => h6 q.2), upS_n _ _ (fun q => h5 q.2), upS_n _ _ (fun q => h4 q.2), upS_n _ _ (fun q => h3 q.2), upS_n _ _ (fun q => h0 q.2)]
theorem beg_0 {S : Nat → Nat → Int32} {n : Nat} {a b c : Int32} : begS S n a b c n 0 = c := by
  unfold begS
  rw [upS_n _ _ (by omega), upS_n _ _ (by omega), upS_n _ _ (by omega), upS_n _ _ (by omega), upS_s]
theorem beg_3 {S : Nat → Nat → Int32} {n : Nat} {a b c : Int32} : begS S n a b c n 3 = 0 := by
  unfold begS
  rw [upS_n _ _ (by omega), upS_n _ _ (by omega), upS_n _ _ (by omega), upS_s]
theorem beg_4 {S : Nat → Nat → Int32} {n : Nat} {a b c : Int32} : begS S n a b c n 4 = b := by
  unfold begS
  rw [upS_n _ _ (by omega), upS_n _ _ (by omega), upS_s]
theorem beg_5 {S : Nat → Nat → Int32} {n : Nat} {a b c : Int32} : begS S n a b c n 5 = a := by
  unfold begS
  rw [upS_n _ _ (by omega), upS_s]
theorem lyU_c {c : Nat → Nat} : ∀ (n k : Nat), (∀ A v, lyU A v c n k = v) ∨ (∀ A v, lyU A v c n k = A k)
  | 0, _ => Or.inr (fun _ _ => rfl)
  | n + 1, k => by
    by_cases e : k = c n
    · left
      intro A v
      show upd (lyU A v c n) (c n) v k = v
      rw [e, pk_us]
    · rcases lyU_c n k with h | h
      · left
        intro A v
        show upd (lyU A v c n) (c n) v k = v
        rw [pk_un e]
        exact h A v
      · right
        intro A v
        show upd (lyU A v c n) (c n) v k = A k
        rw [pk_un e]
        exact h A v
theorem chB.add {ch : Int32} {B n : Nat} (h : chB ch B) (hB : B < 2 ^ 30) (h1 : 1 ≤ n) (hn : n ≤ 160) : chB (ch + nI n) (B + 160) ∧ ch < ch + nI n := by
  have e : (ch + nI n).toInt = ch.toInt + n := by
    have := h.1
    have := h.2
    rw [fb_addI (by rw [nI_toInt (by omega)]; omega) (by rw [nI_toInt (by omega)]; omega), nI_toInt (by omega)]
  unfold chB at h ⊢
  rw [i_lt, e]
  omega
section GI2
variable {N O PC T S C : Nat → Int32} {ps sc bc B : Nat} {ch : Int32} {SF BF : Nat → Nat → Int32} {MX MY : Nat → Int32}
theorem gI.as {q r : Int32} (h : gI N O PC ps sc bc T C ch SF BF MX B) (hm : ∀ i, ¬ i = sc → MY i = MX i) : gI N O PC ps (rAS PC SF ps sc q r).2.2.2 bc T C ch (rAS PC SF ps sc q r).2.2.1 BF MY B := by
  obtain ⟨⟨b1, b2, b3⟩, hPC, hNO, ⟨a1, a2, a3, a4, a5, a6, a7, a8⟩, hz, hs, hd⟩ := h
  have hold : gI N O PC ps sc bc T C ch SF BF MY B := ⟨⟨b1, b2, b3⟩, hPC, hNO, ⟨a1, a2, a3, a4, a5, a6, fun i hi => by rw [hm i (by omega)]; exact a7 i hi, a8⟩, hz, hs, hd⟩
  unfold rAS
  split
  · rename_i hq
    split
    · rename_i hr
      split
      · rename_i hc
        have hcop := cop_in b1 hPC hq
        have h7 : begS SF sc q (cop PC ps q) r sc 7 = 0 := by rw [beg_k (by decide) (by decide) (by decide) (by decide) (by decide)]; exact (hs sc (Nat.le_refl _)).2
        have h3 : begS SF sc q (cop PC ps q) r sc 3 = 0 := beg_3
        have ho : ∀ i, i < sc + 1 → ¬ i = sc → i < sc := fun i hi hn => by omega
        refine ⟨⟨b1, by dsimp only; omega, b3⟩, hPC, hNO, ⟨fun i hi => ?_, fun i hi => ?_, fun i hi h1 => ?_, fun i hi => ?_, a5, a6, fun i hi h1 h2 => ?_, a8⟩, fun i h1 => ?_, fun i hi => ?_, hd⟩
        · show (1 ≤ (begS SF sc q (cop PC ps q) r i 0).toInt ∧ (begS SF sc q (cop PC ps q) r i 0).toInt ≤ 6) ∧ (0 ≤ begS SF sc q (cop PC ps q) r i 4 ∧ begS SF sc q (cop PC ps q) r i 4 < 160) ∧ (0 < begS SF sc q (cop PC ps q) r i 7 → 0 ≤ begS SF sc q (cop PC ps q) r i 6 ∧ begS SF sc q (cop PC ps q) r i 6 < 160)
          by_cases e : i = sc
          · subst e
            rw [h7, beg_0, beg_4]
            have u := hr.1
            have v := hr.2
            rw [i_le, i_1] at u
            rw [i_le, i_6] at v
            exact ⟨⟨u, v⟩, hcop, fun z => absurd z (by decide)⟩
          · rw [beg_o e, beg_o e, beg_o e, beg_o e]
            exact a1 i (ho i hi e)
        · show (begS SF sc q (cop PC ps q) r i 3 = 0 ∨ begS SF sc q (cop PC ps q) r i 3 = 1 ∨ begS SF sc q (cop PC ps q) r i 3 = 2) ∧ (begS SF sc q (cop PC ps q) r i 3 = 0 → (0 ≤ begS SF sc q (cop PC ps q) r i 5 ∧ begS SF sc q (cop PC ps q) r i 5 < nI ps) ∧ begS SF sc q (cop PC ps q) r i 4 = cop PC ps (begS SF sc q (cop PC ps q) r i 5)) ∧ (begS SF sc q (cop PC ps q) r i 3 = 1 → (0 ≤ begS SF sc q (cop PC ps q) r i 5 ∧ begS SF sc q (cop PC ps q) r i 5 < nI ps) ∧ 0 ≤ begS SF sc q (cop PC ps q) r i 7 ∧ (¬ 0 < begS SF sc q (cop PC ps q) r i 7 → ¬ begS SF sc q (cop PC ps q) r i 4 = cop PC ps (begS SF sc q (cop PC ps q) r i 5)))
          by_cases e : i = sc
          · subst e
            rw [h3, beg_5, beg_4]
            exact ⟨Or.inl rfl, fun _ => ⟨hq, rfl⟩, fun z => absurd z (by decide)⟩
          · rw [beg_o e, beg_o e, beg_o e, beg_o e]
            exact a2 i (ho i hi e)
        · by_cases e : i = sc
          · subst e
            exact absurd (h3.symm.trans h1) (by decide)
          · have h1 : begS SF sc q (cop PC ps q) r i 3 = 1 := h1
            have e9 : HbS T C (begS SF sc q (cop PC ps q) r) i = HbS T C SF i := by
              unfold HbS slN slW
              rw [beg_o e, beg_o e]
            show begS SF sc q (cop PC ps q) r i 8 < ch ∨ (begS SF sc q (cop PC ps q) r i 8 = ch ∧ ¬ 0 < begS SF sc q (cop PC ps q) r i 7 ∧ ∀ n, ¬ Rch (HbS T C (begS SF sc q (cop PC ps q) r) i) (cN (cop PC ps (begS SF sc q (cop PC ps q) r i 5))) n (cN (begS SF sc q (cop PC ps q) r i 4)))
            rw [beg_o e] at h1
            rw [beg_o e, beg_o e, beg_o e, beg_o e, e9]
            exact a3 i (ho i hi e) h1
        · show begS SF sc q (cop PC ps q) r i 1 = _
          rw [beg_k (by decide) (by decide) (by decide) (by decide) (by decide)]
          exact a4 i hi
        · by_cases e : i = sc
          · subst e
            exact absurd (h3.symm.trans h1) (by decide)
          · have h1 : begS SF sc q (cop PC ps q) r i 3 = 1 := h1
            have h2 : 0 < begS SF sc q (cop PC ps q) r i 7 := h2
            show MY i = begS SF sc q (cop PC ps q) r i 6
            rw [beg_o e] at h1 h2
            rw [beg_o e, hm i e]
            exact a7 i (ho i hi e) h1 h2
        · have h1 : begS SF sc q (cop PC ps q) r i 3 = 0 := h1
          show begS SF sc q (cop PC ps q) r i 7 = 0
          by_cases e : i = sc
          · subst e
            exact h7
          · rw [beg_o e] at h1
            rw [beg_o e]
            exact hz i h1
        · have hi : sc + 1 ≤ i := hi
          show begS SF sc q (cop PC ps q) r i 2 = 0 ∧ begS SF sc q (cop PC ps q) r i 7 = 0
          rw [beg_o (by omega), beg_o (by omega)]
          exact hs i (by omega)
      · exact hold
    · exact hold
  · exact hold
theorem wg_add {n : Nat} {a b c s : Int32} : wgF (begB BF n a b c) (n + 1) s = wgF BF n s := by
  funext i
  unfold wgF
  by_cases e : i = n
  · subst e
    rw [if_neg (fun q => absurd q.2.1 (by unfold begB; rw [upS_n _ _ (by omega), upS_n _ _ (by omega), upS_s]; decide)), if_neg (fun q => absurd q.1 (Nat.lt_irrefl _))]
  · have eb : ∀ k, begB BF n a b c i k = BF i k := fun k => by
      unfold begB
      rw [upS_n _ _ (fun q => e q.1), upS_n _ _ (fun q => e q.1), upS_n _ _ (fun q => e q.1), upS_n _ _ (fun q => e q.1), upS_n _ _ (fun q => e q.1)]
    rw [eb 2, eb 3, eb 0]
    by_cases h : i < n
    · by_cases h2 : BF i 2 = 1 ∧ BF i 3 = s
      · rw [if_pos ⟨by omega, h2⟩, if_pos ⟨h, h2⟩]
      · rw [if_neg (fun q => h2 q.2), if_neg (fun q => h2 q.2)]
    · rw [if_neg (fun q => h (by omega)), if_neg (fun q => h q.1)]
theorem gI.ab {a b c : Int32} (h : gI N O PC ps sc bc T C ch SF BF MX B) : gI N O PC ps sc (rAB BF ps bc a b c).2.2.2 T C ch SF (rAB BF ps bc a b c).2.2.1 MX B := by
  obtain ⟨⟨b1, b2, b3⟩, hPC, hNO, ⟨a1, a2, a3, a4, a5, a6, a7, a8⟩, hz, hs, hd⟩ := id h
  unfold rAB
  split
  · split
    · rename_i hc
      split
      · rename_i hb
        refine ⟨⟨b1, b2, by dsimp only; omega⟩, hPC, hNO, ⟨a1, a2, a3, fun i hi => ?_, fun i hi => ?_, a6, a7, a8⟩, hz, hs, hd⟩
        · show SF i 1 = sumN (wgF (begB BF bc a b c) (bc + 1) (nI i)) 40
          rw [wg_add]
          exact a4 i hi
        · have hi : i < bc + 1 := hi
          show 0 ≤ (begB BF bc a b c i 0).toInt ∧ (begB BF bc a b c i 0).toInt ≤ 30
          by_cases e : i = bc
          · have e0 : begB BF bc a b c bc 0 = c := by
              unfold begB
              rw [upS_n _ _ (by omega), upS_n _ _ (by omega), upS_n _ _ (by omega), upS_n _ _ (by omega), upS_s]
            rw [e, e0]
            have u := hc.2.1
            have v := hc.2.2
            rw [i_le, i_1] at u
            rw [i_le, i_30] at v
            omega
          · have e0 : begB BF bc a b c i 0 = BF i 0 := by
              unfold begB
              rw [upS_n _ _ (by omega), upS_n _ _ (by omega), upS_n _ _ (by omega), upS_n _ _ (by omega), upS_n _ _ (by omega)]
            rw [e0]
            exact a5 i (by omega)
      · exact h
    · exact h
  · exact h
theorem gI.ld {s b : Int32} (h : gI N O PC ps sc bc T C ch SF BF MX B) : gI N O PC ps sc bc T C ch (rLd SF BF sc bc s b).2.2.1 (rLd SF BF sc bc s b).2.2.2 MX B := by
  obtain ⟨⟨b1, b2, b3⟩, hPC, hNO, ⟨a1, a2, a3, a4, a5, a6, a7, a8⟩, hz, hs, hd⟩ := id h
  unfold rLd
  split
  · rename_i hp
    split
    · rename_i hc
      obtain ⟨i, hi, rfl⟩ := kOf hp.1 (by omega)
      obtain ⟨j, hj, rfl⟩ := kOf hp.2 (by omega)
      rw [cN_nI (by omega), cN_nI (by omega)] at *
      obtain ⟨c1, c2, c3⟩ := hc
      have hr : ∀ a k, ¬ a = i → upS SF i 1 (SF i 1 + BF j 0) a k = SF a k := fun a k ha => upS_n _ _ (fun z => ha z.1)
      have hk : ∀ a k, ¬ k = 1 → upS SF i 1 (SF i 1 + BF j 0) a k = SF a k := fun a k hk => upS_n _ _ (fun z => hk z.2)
      dsimp only
      refine ⟨⟨b1, b2, b3⟩, hPC, hNO, ⟨a1.up (by omega), a2.one hr ?_, a3.one hr ?_, fun a ha => ?_, fun a ha => ?_, a6, a7.one hr (fun _ _ => rfl) ?_, a8⟩, fun a h3 => ?_, fun a ha => ?_, hd⟩
      · rw [hk i 3 (by decide), hk i 4 (by decide), hk i 5 (by decide), hk i 7 (by decide)]
        exact a2 i hi
      · rw [hk i 3 (by decide), c2]
        exact fun z => absurd z (by decide)
      · show upS SF i 1 (SF i 1 + BF j 0) a 1 = sumN (wgF (upS (upS BF j 2 1) j 3 (nI i)) bc (nI a)) 40
        by_cases e : a = i
        · subst e
          rw [upS_s, ld_sum hj b3 c1, a4 a ha]
        · rw [hr a 1 e]
          have e9 : wgF (upS (upS BF j 2 1) j 3 (nI i)) bc (nI a) = wgF BF bc (nI a) := by
            funext m
            unfold wgF
            by_cases em : m = j
            · subst em
              rw [if_neg (fun q => by rw [upS_s] at q; exact e (nI_inj (by omega) (by omega) q.2.2).symm), if_neg (fun q => by rw [c1] at q; exact absurd q.2.1 (by decide))]
            · rw [upS_n _ _ (by omega), upS_n _ _ (by omega), upS_n _ _ (by omega), upS_n _ _ (by omega), upS_n _ _ (by omega), upS_n _ _ (by omega)]
          rw [e9]
          exact a4 a ha
      · show 0 ≤ (upS (upS BF j 2 1) j 3 (nI i) a 0).toInt ∧ (upS (upS BF j 2 1) j 3 (nI i) a 0).toInt ≤ 30
        rw [upS_n _ _ (by omega), upS_n _ _ (by omega)]
        exact a5 a ha
      · rw [hk i 3 (by decide), c2]
        exact fun z => absurd z (by decide)
      · have h3 : upS SF i 1 (SF i 1 + BF j 0) a 3 = 0 := h3
        show upS SF i 1 (SF i 1 + BF j 0) a 7 = 0
        rw [hk a 3 (by decide)] at h3
        rw [hk a 7 (by decide)]
        exact hz a h3
      · show upS SF i 1 (SF i 1 + BF j 0) a 2 = 0 ∧ upS SF i 1 (SF i 1 + BF j 0) a 7 = 0
        rw [hk a 2 (by decide), hk a 7 (by decide)]
        exact hs a ha
    · exact h
  · exact h
theorem gI.se {f : Nat → Int32} {s q : Int32} (h : gI N O PC ps sc bc T C ch SF BF MX B) : gI N O PC ps sc bc T C ch (rSe T N C PC SF ps sc f s q).2.2 BF MX B := by
  obtain ⟨⟨b1, b2, b3⟩, hPC, hNO, ⟨a1, a2, a3, a4, a5, a6, a7, a8⟩, hz, hs, hd⟩ := id h
  unfold rSe
  split
  · rename_i hp
    split
    · exact h
    · rename_i hc
      split
      · exact h
      · rename_i hc2
        obtain ⟨i, hi, rfl⟩ := kOf hp.1 (by omega)
        obtain ⟨j, hj, rfl⟩ := kOf hp.2 (by omega)
        rw [cN_nI (show i < 2 ^ 31 by omega)] at *
        have c0 : SF i 3 = 0 := Classical.byContradiction hc2
        have hr : ∀ a k, ¬ a = i → dpS SF i (nI j) a k = SF a k := fun a k ha => by
          unfold dpS
          rw [upS_n _ _ (fun z => ha z.1), upS_n _ _ (fun z => ha z.1), upS_n _ _ (fun z => ha z.1)]
        have hk : ∀ a k, ¬ k = 3 → ¬ k = 5 → ¬ k = 8 → dpS SF i (nI j) a k = SF a k := fun a k k3 k5 k8 => by
          unfold dpS
          rw [upS_n _ _ (fun z => k8 z.2), upS_n _ _ (fun z => k5 z.2), upS_n _ _ (fun z => k3 z.2)]
        have e3 : dpS SF i (nI j) i 3 = 1 := by
          unfold dpS
          rw [upS_n _ _ (by omega), upS_n _ _ (by omega), upS_s]
        have e5 : dpS SF i (nI j) i 5 = nI j := by
          unfold dpS
          rw [upS_n _ _ (by omega), upS_s]
        have e8 : dpS SF i (nI j) i 8 = -1 := by
          unfold dpS
          rw [upS_s]
        have z7 := hz i c0
        have p2 := (a2 i hi).2.1 c0
        dsimp only
        refine ⟨⟨b1, b2, b3⟩, hPC, hNO, ⟨dp_ok a1, a2.one hr ?_, a3.one hr ?_, ((a4.up (by decide)).up (by decide)).up (by decide), a5, a6, a7.one hr (fun _ _ => rfl) ?_, a8⟩, fun a h3 => ?_, fun a ha => ?_, hd⟩
        · rw [e3, e5, hk i 4 (by decide) (by decide) (by decide), hk i 7 (by decide) (by decide) (by decide), z7]
          refine ⟨Or.inr (Or.inl rfl), fun z => absurd z (by decide), fun _ => ⟨hp.2, by decide, fun _ z => ?_⟩⟩
          obtain ⟨m, hm, em⟩ := kOf p2.1 (by omega)
          rw [p2.2, em, cop_k hm b1, cop_k hj b1] at z
          have e := hd m j hm hj z
          subst e
          exact hc ⟨c0, em⟩
        · intro _
          left
          rw [e8, i_lt, i_m1]
          have := a8.1
          omega
        · intro _ z
          rw [hk i 7 (by decide) (by decide) (by decide), z7] at z
          exact absurd z (by decide)
        · have h3 : dpS SF i (nI j) a 3 = 0 := h3
          show dpS SF i (nI j) a 7 = 0
          rw [hk a 7 (by decide) (by decide) (by decide)]
          by_cases e : a = i
          · rw [e]
            exact z7
          · rw [hr a 3 e] at h3
            exact hz a h3
        · show dpS SF i (nI j) a 2 = 0 ∧ dpS SF i (nI j) a 7 = 0
          rw [hk a 2 (by decide) (by decide) (by decide), hk a 7 (by decide) (by decide) (by decide)]
          exact hs a ha
  · exact h
theorem gI.ic {x y w h9 t : Int32} (h : gI N O PC ps sc bc T C ch SF BF MX B) (hB : B < 2 ^ 30) : gI N O PC ps sc bc (rIc T S C PC SF ps sc ch x y w h9 t).2.2.1 (rIc T S C PC SF ps sc ch x y w h9 t).2.2.2.2.1 (rIc T S C PC SF ps sc ch x y w h9 t).2.2.2.2.2 SF BF MX (B + 160) := by
  obtain ⟨⟨b1, b2, b3⟩, hPC, hNO, ⟨a1, a2, a3, a4, a5, a6, a7, a8⟩, hz, hs, hd⟩ := id h
  unfold rIc
  split
  · rename_i h1
    split
    · exact h.more (by omega)
    · obtain ⟨k1, k2, k3, k4, hac, hbe, rfl, rfl, rfl, rfl⟩ := rect_of h1.1
      have ht := h1.2
      have hw := h1.1.2.1.1
      have hh := h1.1.2.2.1
      rw [i_le, i_1, nI_toInt (by omega)] at hw hh
      rw [cN_nI (show k1 < 2 ^ 31 by omega), cN_nI (show k2 < 2 ^ 31 by omega), cN_nI (show k3 < 2 ^ 31 by omega), cN_nI (show k4 < 2 ^ 31 by omega)]
      have hm : k4 * k3 ≤ 160 := by
        have := Nat.mul_le_mul (show k4 ≤ 10 by omega) (show k3 ≤ 16 by omega)
        omega
      have hm1 : 1 ≤ k4 * k3 := Nat.mul_le_mul (show 1 ≤ k4 by omega) (show 1 ≤ k3 by omega)
      have h8 := a8.add hB hm1 hm
      dsimp only
      refine ⟨⟨b1, b2, b3⟩, hPC, hNO, ⟨a1, a2, a3.any h8.2, a4, a5, ⟨fun k hk => ?_, fun j => ?_, fun k hk hT => ?_⟩, a7, h8.1⟩, hz, hs, hd⟩
      · show -1 ≤ lyU T t _ _ k ∧ lyU T t _ _ k ≤ 200
        rcases lyU_c (c := cel k1 k2 k3) (k4 * k3) k with e | e
        · rw [e]
          exact ht
        · rw [e]
          exact a6.1 k hk
      · show vp_nar .boolean (lyU C 0 (cel k1 k2 k3) (k4 * k3) j) = lyU C 0 (cel k1 k2 k3) (k4 * k3) j
        rcases lyU_c (c := cel k1 k2 k3) (k4 * k3) j with e | e
        · rw [e]
          rfl
        · rw [e]
          exact a6.2.1 j
      · have hT : lyU T t (cel k1 k2 k3) (k4 * k3) k < 0 := hT
        show lyU C 0 (cel k1 k2 k3) (k4 * k3) k = 0
        rcases lyU_c (c := cel k1 k2 k3) (k4 * k3) k with e | e
        · rw [e]
        · rw [e] at hT ⊢
          exact a6.2.2 k hk hT
  · exact h.more (by omega)
end GI2
theorem gI.pa {N O PC : Nat → Int32} {ps sc bc hh B : Nat} {x : HW} {MX MY : Nat → Int32} {n5 : Nat} {l5 : Value} {q : Int32} (h : gI N O PC ps sc bc x.2.2.1 x.2.2.2.2.2.2.2.2.2.1 x.2.2.2.2.2.2.2.2.2.2 x.1 x.2.1 MX B)
    (hY : hIV PC ps sc bc (rPs n5 l5 N O PC ps sc bc hh x q).2.2.1.2.2.1 (rPs n5 l5 N O PC ps sc bc hh x q).2.2.1.2.2.2.2.2.2.2.2.2.1 (rPs n5 l5 N O PC ps sc bc hh x q).2.2.1.2.2.2.2.2.2.2.2.2.2 (rPs n5 l5 N O PC ps sc bc hh x q).2.2.1.1 (rPs n5 l5 N O PC ps sc bc hh x q).2.2.1.2.1 MY (B + 1200)) :
    gI N O PC ps sc bc (rPs n5 l5 N O PC ps sc bc hh x q).2.2.1.2.2.1 (rPs n5 l5 N O PC ps sc bc hh x q).2.2.1.2.2.2.2.2.2.2.2.2.1 (rPs n5 l5 N O PC ps sc bc hh x q).2.2.1.2.2.2.2.2.2.2.2.2.2 (rPs n5 l5 N O PC ps sc bc hh x q).2.2.1.1 (rPs n5 l5 N O PC ps sc bc hh x q).2.2.1.2.1 MY (B + 1200) := by
  obtain ⟨hb, hPC, hNO, -, hz, hs, hd⟩ := h
  refine ⟨hb, hPC, hNO, hY, ?_, ?_, hd⟩
  · unfold rPs
    split
    · exact psL_z _ _ hz
    · exact hz
  · unfold rPs
    split
    · exact psL_o _ _ hs
    · exact hs
theorem rPs_hh {N O PC : Nat → Int32} {ps sc bc hh : Nat} {x : HW} {n5 : Nat} {l5 : Value} {q : Int32} : (rPs n5 l5 N O PC ps sc bc hh x q).2.2.2 ≤ hh + 200 := by
  unfold rPs
  split
  · rename_i h
    obtain ⟨n, hn, rfl⟩ := le_nI 200 (by decide) ⟨i_le.mpr (by have := h.1; rw [i_le, i_1] at this; rw [i_0]; omega), h.2⟩
    show hh + cN (nI n) ≤ hh + 200
    rw [cN_nI (by omega)]
    omega
  · exact Nat.le_add_right _ _
theorem gI_init : gI (fun _ => 1) (fun _ => 5) (fun _ => 0) 0 0 0 (fun _ => 30) (fun _ => 0) 0 (fun _ _ => 0) (fun _ _ => 0) (fun _ => 0) 0 := by
  refine ⟨⟨by decide, by decide, by decide⟩, fun _ _ => ⟨(by decide : (0 : Int32) ≤ 0), (by decide : (0 : Int32) < 160)⟩, ⟨fun _ _ => ⟨(by decide : 1 ≤ (1 : Int32).toInt), (by decide : (1 : Int32).toInt ≤ 9)⟩, fun _ _ => ⟨(by decide : (-9 : Int32) ≤ 5), (by decide : (5 : Int32) ≤ 9)⟩⟩, ⟨fun i hi => absurd hi (Nat.not_lt_zero _), fun i hi => absurd hi (Nat.not_lt_zero _), fun i hi => absurd hi (Nat.not_lt_zero _), fun i hi => ?_, fun i hi => absurd hi (Nat.not_lt_zero _), ⟨fun _ _ => ⟨(by decide : (-1 : Int32) ≤ 30), (by decide : (30 : Int32) ≤ 200)⟩, fun _ => (by rfl : vp_nar .boolean (0 : Int32) = 0), fun _ _ _ => rfl⟩, fun i hi => absurd hi (Nat.not_lt_zero _), ⟨by decide, by decide⟩⟩, fun _ _ => rfl, fun _ _ => ⟨rfl, rfl⟩, fun a b ha => absurd ha (Nat.not_lt_zero _)⟩
  have e : wgF (fun _ _ => 0) 0 (nI i) = fun _ => 0 := by
    funext a
    unfold wgF
    rw [if_neg (fun q => absurd q.1 (Nat.not_lt_zero _))]
  rw [e]
  rfl
