/-! what holds at the head of each hour, and that all keep it -/
def LI (N O PC : Nat → Int32) (ps sc bc : Nat) (T S C : Nat → Int32) (ch : Int32) (SF BF : Nat → Nat → Int32) (MX : Nat → Int32) (B : Nat) : Prop :=
  gI N O PC ps sc bc T C ch SF BF MX B ∧ jV SF sc ∧ sTK S ∧ laS T S ∧ aJ SF sc ∧ bJ SF BF sc bc
section LI77
variable {N O PC T S C MX : Nat → Int32} {ps sc bc B : Nat} {ch : Int32} {SF BF : Nat → Nat → Int32}
theorem LI.snow {c s : Nat} (h : LI N O PC ps sc bc T S C ch SF BF MX B) (hc : c < 160) (hs1 : 1 ≤ s) (hs9 : s ≤ 9) : LI (upd N c (nI s)) O PC ps sc bc T S C ch SF BF MX B := by
  have e : rSn N (nI (c % 16)) (nI (c / 16)) (nI s) = (0, N c, upd N c (nI s)) := by
    unfold rSn
    rw [if_pos (onM_c hc), if_pos ⟨(nI_leI (a := 1) (b := s) (by decide) (by omega)).mpr hs1, (nI_leI (a := s) (b := 9) (by omega) (by decide)).mpr hs9⟩, cell_c, cN_nI (by omega)]
  have g := gI.sn (x := nI (c % 16)) (y := nI (c / 16)) (s := nI s) h.1
  rw [e] at g
  exact ⟨g, h.2⟩
theorem LI.cold {q : Nat} {c : Int32} (h : LI N O PC ps sc bc T S C ch SF BF MX B) (hq : q < 8) (hc : -9 ≤ c ∧ c ≤ 9) : LI N (upd O q c) PC ps sc bc T S C ch SF BF MX B := by
  have e : rCo O (nI q) c = (0, O q, upd O q c) := by
    unfold rCo
    rw [if_pos (show 0 ≤ nI q ∧ nI q ≤ 7 from rng_c (n := 7) (by omega) (by decide)), if_pos hc, cN_nI (by omega)]
  have g := gI.co (q := nI q) (c := c) h.1
  rw [e] at g
  exact ⟨g, h.2⟩
theorem LI.load {s b9 : Nat} (h : LI N O PC ps sc bc T S C ch SF BF MX B) (hs : s < sc) (hb : b9 < bc) (h2 : BF b9 2 = 0) (h3 : SF s 3 = 0) (h5 : SF s 5 = BF b9 3) : LI N O PC ps sc bc T S C ch (upS SF s 1 (SF s 1 + BF b9 0)) (upS (upS BF b9 2 1) b9 3 (nI s)) MX B := by
  obtain ⟨g, j, k, l, a, b⟩ := h
  obtain ⟨hb1, hb2, hb3⟩ := g.1
  have e : rLd SF BF sc bc (nI s) (nI b9) = (0, slW (upS SF s 1 (SF s 1 + BF b9 0)) s, upS SF s 1 (SF s 1 + BF b9 0), upS (upS BF b9 2 1) b9 3 (nI s)) := by
    unfold rLd
    rw [if_pos ⟨isP_c hs (by omega), isP_c hb (by omega)⟩, cN_nI (by omega), cN_nI (by omega), if_pos ⟨h2, h3, h5⟩]
  have g := gI.ld (s := nI s) (b := nI b9) g
  rw [e] at g
  have hk : ∀ i k, ¬ k = 1 → upS SF s 1 (SF s 1 + BF b9 0) i k = SF i k := fun i k hk => upS_n _ _ (fun z => hk z.2)
  refine ⟨g, ⟨fun i hi => ?_, fun i hi q => ?_⟩, k, l, fun i hi q3 q7 => ?_, fun m hm => ?_⟩
  · rw [hk i 2 (by decide)]
    exact j.1 i hi
  · rw [hk i 3 (by decide)] at q
    rw [hk i 7 (by decide)]
    exact j.2 i hi q
  · rw [hk i 3 (by decide)] at q3
    rw [hk i 7 (by decide)] at q7
    rw [hk i 4 (by decide), hk i 6 (by decide)]
    exact a i hi q3 q7
  · obtain ⟨b1, b2, b3, b4⟩ := b m hm
    by_cases em : m = b9
    · subst em
      have v2 : upS (upS BF m 2 1) m 3 (nI s) m 2 = 1 := by rw [upS_n _ _ (by omega), upS_s]
      have v3 : upS (upS BF m 2 1) m 3 (nI s) m 3 = nI s := upS_s _ _ _ _
      have v4 : upS (upS BF m 2 1) m 3 (nI s) m 4 = BF m 4 := by rw [upS_n _ _ (by omega), upS_n _ _ (by omega)]
      rw [v2, v3, v4]
      refine ⟨Or.inr (Or.inl rfl), fun _ => ⟨s, hs, rfl, by rw [hk s 3 (by decide), h3]; decide⟩, ⟨fun q => absurd q (by decide), fun q => ?_⟩, ⟨fun q => absurd q (by decide), fun q => absurd q (Int32.not_lt.mpr (nI_pos' (by omega)))⟩⟩
      exact absurd ((b3.mpr q).symm.trans h2) (by decide)
    · have v : ∀ k, upS (upS BF b9 2 1) b9 3 (nI s) m k = BF m k := fun k => by rw [upS_n _ _ (fun z => em z.1), upS_n _ _ (fun z => em z.1)]
      rw [v 2, v 3, v 4]
      refine ⟨b1, fun q => ?_, b3, b4⟩
      obtain ⟨n, n1, n2, n3⟩ := b2 q
      exact ⟨n, n1, n2, by rw [hk n 3 (by decide)]; exact n3⟩
theorem LI.send {s q : Nat} {f : Nat → Int32} (h : LI N O PC ps sc bc T S C ch SF BF MX B) (hs : s < sc) (hq : q < ps) (h3 : SF s 3 = 0) (h5 : ¬ SF s 5 = nI q) : LI N O PC ps sc bc T S C ch (dpS SF s (nI q)) BF MX B := by
  obtain ⟨g, j, k, l, a, b⟩ := h
  obtain ⟨hb1, hb2, hb3⟩ := g.1
  have e : rSe T N C PC SF ps sc f (nI s) (nI q) = (0, (hgQ T N C PC (dpS SF s (nI q)) ps s f).1 (cN (dpS SF s (nI q) s 4)), dpS SF s (nI q)) := by
    unfold rSe
    rw [if_pos ⟨isP_c hs (by omega), isP_c hq (by omega)⟩, cN_nI (by omega), if_neg (fun h => h5 h.2), if_neg (fun h => h h3)]
  have g2 := gI.se (f := f) (s := nI s) (q := nI q) g
  rw [e] at g2
  have hk : ∀ i k, ¬ k = 3 → ¬ k = 5 → ¬ k = 8 → dpS SF s (nI q) i k = SF i k := fun i k a b c => by
    unfold dpS
    rw [upS_n _ _ (fun z => c z.2), upS_n _ _ (fun z => b z.2), upS_n _ _ (fun z => a z.2)]
  have h30 : ∀ i, ¬ i = s → dpS SF s (nI q) i 3 = SF i 3 := fun i hi => by
    unfold dpS
    rw [upS_n _ _ (fun z => hi z.1), upS_n _ _ (fun z => hi z.1), upS_n _ _ (fun z => hi z.1)]
  have h31 : dpS SF s (nI q) s 3 = 1 := by
    unfold dpS
    rw [upS_n _ _ (by omega), upS_n _ _ (by omega), upS_s]
  have h70 := j.2 s hs (by rw [h3]; decide)
  refine ⟨g2, ⟨fun i hi => ?_, fun i hi z => ?_⟩, k, l, fun i hi q3 q7 => ?_, fun m hm => ?_⟩
  · rw [hk i 2 (by decide) (by decide) (by decide)]
    exact j.1 i hi
  · rw [hk i 7 (by decide) (by decide) (by decide)]
    by_cases e9 : i = s
    · rw [e9]; exact h70
    · rw [h30 i e9] at z
      exact j.2 i hi z
  · rw [hk i 7 (by decide) (by decide) (by decide)] at q7
    rw [hk i 4 (by decide) (by decide) (by decide), hk i 6 (by decide) (by decide) (by decide)]
    by_cases e9 : i = s
    · rw [e9, h70] at q7
      exact absurd q7 (by decide)
    · rw [h30 i e9] at q3
      exact a i hi q3 q7
  · obtain ⟨b1, b2, b3, b4⟩ := b m hm
    refine ⟨b1, fun q => ?_, b3, b4⟩
    obtain ⟨n, n1, n2, n3⟩ := b2 q
    refine ⟨n, n1, n2, ?_⟩
    by_cases e9 : n = s
    · rw [e9, h31]
      decide
    · rw [h30 n e9]
      exact n3
/-- an hour's facts, together -/
def HF (n5 : Nat) (l5 : Value) (N O PC : Nat → Int32) (ps sc bc hh : Nat) (x W : HW) : Prop :=
  (∀ i, i < sc → slF W.2.2.1 W.2.2.2.2.2.2.2.2.2.1 x.1 W.1 i) ∧ (∀ b, b < bc → bgR x.1 W.1 x.2.1 W.2.1 hh sc b) ∧ hrN n5 O PC ps sc bc hh x = sumN (cmF x.2.1 W.2.1 bc) bc ∧
  (∀ c, c < 160 → clF hh (O (hh / 24 % 8)) x.2.2.1 x.2.2.2.2.2.2.2.2.1 x.2.2.2.2.2.2.2.2.2.1 W.2.2.1 W.2.2.2.2.2.2.2.2.1 W.2.2.2.2.2.2.2.2.2.1 (fb_ct (lfB x.1 W.1 c) sc) c) ∧
  (∀ i, i < sc → W.1 i 3 = 2 → sumN (bgF W.2.1 bc (nI i)) 40 = 0)
theorem hour_f {n5 hh : Nat} {l5 : Value} {x : HW} {MY : Nat → Int32} {B' : Nat} (h5 : n5 = 5) (hhh : hh < 2 ^ 31) (hB : B < 2 ^ 30) (h : LI N O PC ps sc bc x.2.2.1 x.2.2.2.2.2.2.2.2.1 x.2.2.2.2.2.2.2.2.2.1 x.2.2.2.2.2.2.2.2.2.2 x.1 x.2.1 MX B)
    (hI : hIV PC ps sc bc (hrW n5 l5 N O PC ps sc bc hh x).2.2.1 (hrW n5 l5 N O PC ps sc bc hh x).2.2.2.2.2.2.2.2.2.1 (hrW n5 l5 N O PC ps sc bc hh x).2.2.2.2.2.2.2.2.2.2 (hrW n5 l5 N O PC ps sc bc hh x).1 (hrW n5 l5 N O PC ps sc bc hh x).2.1 MY B') (hJ : jV (hrW n5 l5 N O PC ps sc bc hh x).1 sc) (hS : sTK (hrW n5 l5 N O PC ps sc bc hh x).2.2.2.2.2.2.2.2.1) :
    HF n5 l5 N O PC ps sc bc hh x (hrW n5 l5 N O PC ps sc bc hh x) ∧ LI N O PC ps sc bc (hrW n5 l5 N O PC ps sc bc hh x).2.2.1 (hrW n5 l5 N O PC ps sc bc hh x).2.2.2.2.2.2.2.2.1 (hrW n5 l5 N O PC ps sc bc hh x).2.2.2.2.2.2.2.2.2.1 (hrW n5 l5 N O PC ps sc bc hh x).2.2.2.2.2.2.2.2.2.2 (hrW n5 l5 N O PC ps sc bc hh x).1 (hrW n5 l5 N O PC ps sc bc hh x).2.1 MY B' := by
  obtain ⟨⟨⟨b1, b2, b3⟩, hPC, ⟨hN, hO⟩, hV, hz, hs, hd⟩, j, k, l, a, b⟩ := h
  have hzz := hrW_z (n5 := n5) (l5 := l5) (N := N) (O := O) (PC := PC) (ps := ps) (sc := sc) (bc := bc) (hh := hh) hz
  have hss : zS (hrW n5 l5 N O PC ps sc bc hh x).1 sc := fun i hi => by rw [hrW_o hi, hrW_o hi]; exact hs i hi
  obtain ⟨e1, e2⟩ := hr_eq (n5 := n5) (l5 := l5) (N := N) (O := O) (PC := PC) (ps := ps) (sc := sc) (bc := bc) (hh := hh) (x := x)
  rw [e1] at hI hJ hS hzz hss ⊢
  obtain ⟨a1, a2, a3, a4, a5⟩ := hrA_p (O := O) (hh := hh) (x := x)
  have hI1 := hrA_iv (hh := hh) hV b2 hB hO
  have hS1 : sTK (hrA O hh x).2.2.2.2.2.2.2.2.1 := by
    rw [a4]
    split
    · exact k.day
    · exact k
  have hJ1 : jV (hrA O hh x).1 sc := by rw [a1]; exact j
  have hA1 : aJ (hrA O hh x).1 sc := by rw [a1]; exact a
  have hb1 : bJ (hrA O hh x).1 (hrA O hh x).2.1 sc bc := by rw [a1, a2]; exact b
  have fS : ∀ i, i < sc → slF (hrA O hh x).2.2.1 (hZ n5 l5 N PC ps sc bc hh (hrA O hh x)).2.2.2.2.2.2.1 x.1 (reI sc (hZ n5 l5 N PC ps sc bc hh (hrA O hh x)).1 n5) i := fun i hi => by
    have f := sl_f (n5 := n5) (l5 := l5) (hh := hh) h5 hi b2 b3 hN hS1 hI1 hJ1 hA1
    rw [a1] at f
    exact f
  have fB := fun b hb => bg_f (n5 := n5) (l5 := l5) (b := b) h5 hb b2 b3 b1 hhh hN hS1 hI1 hb1
  have fC : ∀ c, c < 160 → clF hh (O (hh / 24 % 8)) x.2.2.1 x.2.2.2.2.2.2.2.2.1 x.2.2.2.2.2.2.2.2.2.1 (hrA O hh x).2.2.1 (hZ n5 l5 N PC ps sc bc hh (hrA O hh x)).2.2.2.2.2.1 (hZ n5 l5 N PC ps sc bc hh (hrA O hh x)).2.2.2.2.2.2.1 (fb_ct (lfB x.1 (reI sc (hZ n5 l5 N PC ps sc bc hh (hrA O hh x)).1 n5) c) sc) c := fun c hc => cl_f h5 hc b2 b3 hB hO hN k l hV j ⟨hI.2.2.2.2.2.1.1, hI.2.2.2.2.2.1.2.2⟩
  have hbJ : bJ (reI sc (hZ n5 l5 N PC ps sc bc hh (hrA O hh x)).1 n5) (hM n5 PC ps sc bc hh (hrA O hh x)).2.1 sc bc := fun m hm => by
    obtain ⟨f1, f2, f3⟩ := fB m hm
    refine ⟨f2, fun q => ?_, f1.2.2.1, f1.2.2.2.1⟩
    obtain ⟨-, n, n1, -, n3, n4⟩ := f3 q
    exact ⟨n, n1, n3, n4⟩
  refine ⟨⟨fS, fun m hm => ?_, ?_, fC, fun i hi h2 => sum_zero 40 (fun m _ => if_neg (fun q => ?_))⟩, ⟨⟨b1, b2, b3⟩, hPC, ⟨hN, hO⟩, hI, hzz, hss, hd⟩, hJ, hS, fun c hc hT => ((fC c hc).2.2.1 hT).1, aJ_f h5 b2 b3 hN hS1 hI1 hA1, hbJ⟩
  · have f := (fB m hm).1
    rw [a1, a2] at f
    exact f
  · rw [e2]
    have f := come_f (n5 := n5) (PC := PC) (ps := ps) (hh := hh) h5 b2 b3 hb1
    rw [a2] at f
    exact f
  · obtain ⟨n, n1, n2, n3⟩ := (hbJ m q.1).2.1 q.2.1
    have e9 : n = i := nI_inj (by omega) (by omega) (n2.symm.trans q.2.2)
    rw [e9] at n3
    exact n3 h2
end LI77
