/-! an hour of the reference -/
theorem skL_stop {T C : Nat → Int32} {sc bc : Nat} : ∀ m i (x : SB), sc ≤ i → skL T C sc bc m i x = x
  | 0, _, _, _ => rfl
  | m + 1, i, x, h => by
    have e : skT T C sc bc i x = x := if_neg (fun q => absurd q.1 (by omega))
    show skL T C sc bc m (i + 1) (skT T C sc bc i x) = x
    rw [e]
    exact skL_stop m (i + 1) x (by omega)
theorem mvL_stop {PC : Nat → Int32} {ps sc bc hh : Nat} : ∀ m i (x : SBC), sc ≤ i → mvL PC ps sc bc hh m i x = x
  | 0, _, _, _ => rfl
  | m + 1, i, x, h => by
    have e : mvT PC ps sc bc hh i x = x := if_neg (fun q => absurd q.1 (by omega))
    show mvL PC ps sc bc hh m (i + 1) (mvT PC ps sc bc hh i x) = x
    rw [e]
    exact mvL_stop m (i + 1) x (by omega)
theorem soL_stop {l5 : Value} {T N PC : Nat → Int32} {ps sc : Nat} : ∀ m i (x : SO), sc ≤ i → soL l5 T N PC ps sc m i x = x
  | 0, _, _, _ => rfl
  | m + 1, i, x, h => by
    have e : soT l5 T N PC ps sc i x = x := if_neg (fun q => absurd q.1 (by omega))
    show soL l5 T N PC ps sc m (i + 1) (soT l5 T N PC ps sc i x) = x
    rw [e]
    exact soL_stop m (i + 1) x (by omega)
theorem reL_stop {sc : Nat} : ∀ m i (x : Nat → Nat → Int32), sc ≤ i → reL sc m i x = x
  | 0, _, _, _ => rfl
  | m + 1, i, x, h => by
    have e : reT sc i x = x := if_neg (fun q => absurd q.1 (by omega))
    show reL sc m (i + 1) (reT sc i x) = x
    rw [e]
    exact reL_stop m (i + 1) x (by omega)
theorem hIV.more {PC T C : Nat → Int32} {ps sc bc B B' : Nat} {SF BF : Nat → Nat → Int32} {MX : Nat → Int32} {ch : Int32} (h : hIV PC ps sc bc T C ch SF BF MX B) (hB : B ≤ B') : hIV PC ps sc bc T C ch SF BF MX B' :=
  ⟨h.1, h.2.1, h.2.2.1, h.2.2.2.1, h.2.2.2.2.1, h.2.2.2.2.2.1, h.2.2.2.2.2.2.1, h.2.2.2.2.2.2.2.up hB⟩
theorem so_h5 {PC T C : Nat → Int32} {ps sc i : Nat} {SF : Nat → Nat → Int32} {ch : Int32} (hps : ps ≤ 8) (hPC : ∀ k, k < 8 → 0 ≤ PC k ∧ PC k < 160) (hO : sOK SF sc) (hp : iPS PC ps SF sc) (hn : nWI T C PC ps SF sc ch) (hi : i < sc) : SF i 3 = 1 → ∃ q g, q < ps ∧ SF i 5 = nI q ∧ PC q = nI g ∧ g < 160 ∧ (¬ 0 < SF i 7 → ¬ cN (SF i 4) = g ∧ (SF i 8 = ch → ∀ n, ¬ Rch (HbS T C SF i) g n (cN (SF i 4)))) := by
  intro h3
  have h := hp i hi
  obtain ⟨q, hq, eq⟩ := kOf (h.2.2 h3).1 (by omega)
  have hPq := cN_of (hPC q (by omega))
  have hcop : cop PC ps (SF i 5) = PC q := by rw [eq]; exact cop_k hq hps
  refine ⟨q, cN (PC q), hq, eq, hPq.1, hPq.2, fun h7 => ⟨fun e => ?_, fun h8 => ?_⟩⟩
  · apply (h.2.2 h3).2.2 h7
    rw [hcop, hPq.1, ← e]
    exact (cN_of (hO i hi).2.1).1
  · rcases hn i hi h3 with z | ⟨-, -, z⟩
    · rw [h8] at z
      exact absurd ((fa_lt _ _).mp z) (Int.lt_irrefl _)
    · rw [hcop] at z
      exact z
theorem hour_up {hh : Nat} : ∀ j, j < 1 → upd (fun _ => nI hh) 0 (nI hh + 1) j = (fun _ => nI (hh + 1)) j := by
  intro j hj
  obtain rfl : j = 0 := by omega
  rw [pk_us, nI_1]
