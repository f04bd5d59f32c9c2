/-- a text refused: the elder one stays -/
theorem REL0.fault {t : Bool} {n np : Nat} {σB σM σB' σM' : St} (R : REL0 t n np σB σM) (hI : ∀ o, o ≠ 0 → o ≠ tx (!t) → o ≠ lw (!t) → o ≠ 9 → o ≠ 10 → o ≠ 11 → gI σB' o = gI σB o) (hI0 : gI σB' 0 11 = gI σB 0 11) (hA : ∀ o, o ≠ tx (!t) → o ≠ lw (!t) → o ≠ 11 → gA σB' o = gA σB o) (hR : ∀ k, k < 2 → gR σB' k = gR σB k) (hM : ∀ k, ((12 ≤ k ∧ k ≤ 14) ∨ 42 < k) → gI σM' 0 k = gI σM 0 k) (hMA : ∀ k, (k < 18 ∨ 36 < k) → gA σM' 0 k = gA σM 0 k) (hMA2 : ∀ k, 19 ≤ k → k ≤ 34 → ∀ j, j < hw k → gA σM' 0 k j = gA σM 0 k j) (hJ : gJ σM' = gJ σM) (T : TPR σB' σM') (F : FLT σB' σM') : REL0 t n np σB' σM' := by
  obtain ⟨h1, h2, h3, h4, h5, ⟨q, h6, h7, h8⟩, -, -, ⟨c1, c2⟩, h9, h10, h11⟩ := R
  have t1 := tx_le t
  have t2 := lw_le t
  have u1 := tx_le (!t)
  have u2 := lw_le (!t)
  have e1 : tx t ≠ tx (!t) := by cases t <;> decide
  have e2 : lw t ≠ lw (!t) := by cases t <;> decide
  have I5 := hI 5 (by omega) (by omega) (by omega) (by omega) (by omega) (by omega)
  have I8 := hI 8 (by omega) (by omega) (by omega) (by omega) (by omega) (by omega)
  have I12 := hI 12 (by omega) (by omega) (by omega) (by omega) (by omega) (by omega)
  have I13 := hI 13 (by omega) (by omega) (by omega) (by omega) (by omega) (by omega)
  have A5 := hA 5 (by omega) (by omega) (by omega)
  have A8 := hA 8 (by omega) (by omega) (by omega)
  have AB : agB 5 σB σB' := ⟨fun k _ => by rw [A5], fun k _ _ => by rw [I5]⟩
  have AM : agM n 0 σM σM' := ⟨fun k j _ _ k1 k2 _ => by rw [hMA k (by omega)], fun k k1 k2 => by rw [hMA k (by omega)]⟩
  refine ⟨by rw [hR 0 (by omega)]; exact h1, by rw [hR 1 (by omega)]; exact h2, h3.pt (hI _ (by omega) (by omega) (by omega) (by omega) (by omega) (by omega)) (by rw [hI _ (by omega) (by omega) (by omega) (by omega) (by omega) (by omega)]) (hA _ (by omega) (by omega) (by omega)) (hA _ (by omega) (by omega) (by omega)) (fun k k1 k2 => hM k (by omega)) hMA2, h4.cg AB AM, h5.cg (by rw [A5]) (by rw [I5]) (fun p hp => by rw [hMA 52 (by omega), hMA 53 (by omega)]; exact ⟨rfl, rfl⟩), ⟨q, h6, by rw [I5]; exact h7, by rw [hJ]; exact h8⟩, T, F, ⟨by rw [hI0, hM 73 (by omega)]; exact c1, ?_⟩, h9.cg ⟨AB, hA 12 (by omega) (by omega) (by omega)⟩ (by rw [I12]) AM (hMA 72 (by omega)) (hM 71 (by omega)), h10.cg (fun k _ => by rw [hA 13 (by omega) (by omega) (by omega)]) I13 (hMA 69 (by omega)) (hM 67 (by omega)) (hM 68 (by omega)), by rw [hMA 3 (by omega)]; exact h11⟩
  rw [hI0]
  rcases c2 with c2 | ⟨c2, c3, c4, c5⟩
  · exact Or.inl c2
  · have eI : gA (imM σM') = gA (imM σM) := by
      unfold imM
      rw [hMA 74 (by omega), hMA 75 (by omega)]
      rfl
    refine Or.inr ⟨c2, c3.cg ⟨fun k _ => by rw [A8], fun k _ _ => by rw [I8]⟩ (agM.wG eI), c4.cg (by rw [A8]) (by rw [I8]) (fun p hp => by rw [eI]; exact ⟨rfl, rfl⟩), ?_⟩
    obtain ⟨k, d1, d2, d3⟩ := c5
    exact ⟨k, d1, by rw [I8]; exact d2, by rw [hJ]; exact d3⟩
/-- an empty text, class -/
theorem empty_eq (σ : St) (u : Bool) : ∃ σ', fX6_empty σ u = some σ' ∧ gI σ' (tx u) 0 = 0 ∧ gI σ' (tx u) 1 = 0 ∧ gI σ' (tx u) 8 = 0 ∧ gI σ' (tx u) 12 = 3 ∧ gI σ' (tx u) 13 = 0 ∧ gI σ' (tx u) 14 = 0 ∧ gI σ' (lw u) 4 = 0 ∧ (∀ w, w < 3 → gA σ' (lw u) 2 w = 0 ∧ gA σ' (lw u) 3 w = 0) ∧ (∀ o, o ≠ tx u → o ≠ lw u → gI σ' o = gI σ o) ∧ (∀ o, o ≠ lw u → gA σ' o = gA σ o) ∧ gR σ' = gR σ := by
  have t1 := tx_le u
  have t2 := lw_le u
  unfold fX6_empty fX2_empty
  simp only [lt_eq]
  generalize hs : sI (sI (sI (sI (sI (sI (sI σ (tx u) 0 0) (tx u) 1 0) (tx u) 8 0) (tx u) 12 3) (tx u) 13 0) (tx u) 14 0) (lw u) 4 0 = s0
  have loop : ∃ σ', lpx2 FU (fun self4 (x2 : Int32) (σ3 : St) => if (3 : Int32) ≤ x2 then (some σ3) else (gd (ixI x2 3) (gd (ixI x2 3) (self4 (x2 + (1 : Int32)) (sA (sA σ3 (lw u) 2 (Int32.toNatClampNeg x2) (0 : Int32)) (lw u) 3 (Int32.toNatClampNeg x2) (0 : Int32)))))) (0 : Int32) s0 = some σ' ∧ gI σ' = gI s0 ∧ gR σ' = gR s0 ∧ (∀ o, o ≠ lw u → gA σ' o = gA s0 o) ∧ (∀ w, w < 3 → gA σ' (lw u) 2 w = 0 ∧ gA σ' (lw u) 3 w = 0) := by
    generalize hFU : FU = Z
    refine lpx2_wp (fun r => ∃ σ', r = some σ' ∧ gI σ' = gI s0 ∧ gR σ' = gR s0 ∧ (∀ o, o ≠ lw u → gA σ' o = gA s0 o) ∧ (∀ w, w < 3 → gA σ' (lw u) 2 w = 0 ∧ gA σ' (lw u) 3 w = 0)) (fun j x s => ∃ i, i ≤ 3 ∧ j = 3 - i ∧ x = nI i ∧ gI s = gI s0 ∧ gR s = gR s0 ∧ (∀ o, o ≠ lw u → gA s o = gA s0 o) ∧ (∀ w, w < i → gA s (lw u) 2 w = 0 ∧ gA s (lw u) 3 w = 0)) ?_ Z 3 0 s0 (by rw [← hFU]; exact FU_gt (by omega)) ⟨0, by omega, rfl, rfl, rfl, rfl, fun _ _ => rfl, fun w hw => by omega⟩
    rintro j self x s ⟨i, i1, rfl, rfl, q1, q2, q3, q4⟩ ih
    by_cases d : 3 ≤ i
    · rw [if_pos (show (3 : Int32) ≤ nI i from (leN (a := 3) (b := i) (by omega) (by omega)).mpr d)]
      exact ⟨s, rfl, q1, q2, q3, fun w hw => q4 w (by omega)⟩
    · rw [if_neg (show ¬ (3 : Int32) ≤ nI i from fun z => d ((leN (a := 3) (b := i) (by omega) (by omega)).mp z)), gdN (show i < 3 by omega) (by omega), gdN (show i < 3 by omega) (by omega), clN (show i < 1000000 by omega), nI_1]
      refine ih (3 - (i + 1)) _ _ (by omega) ⟨i + 1, by omega, rfl, rfl, q1, q2, fun o ho => ?_, fun w hw => ?_⟩
      · rw [← q3 o ho]
        funext k
        simp only [sA]
        rw [gAo ho, gAo ho]
      · simp only [sA]
        rw [gAn (by omega), gAe, gAe, gAn (show (3 : Nat) ≠ 2 by omega)]
        by_cases e : w = i
        · subst e
          rw [upd_eq, upd_eq]
          exact ⟨rfl, rfl⟩
        · rw [upd_ne e, upd_ne e]
          exact q4 w (by omega)
  obtain ⟨σ', l1, l2, l3, l4, l5⟩ := loop
  rw [l1, bVs]
  have g : ∀ o k, gI σ' o k = gI s0 o k := fun o k => by rw [l2]
  have ho : lw u ≠ tx u := by omega
  have ho' : tx u ≠ lw u := by omega
  refine ⟨σ', rfl, ?_, ?_, ?_, ?_, ?_, ?_, ?_, l5, fun o o1 o2 => ?_, fun o o1 => ?_, ?_⟩
  · rw [g, ← hs, gIo ho', gIn (by omega), gIn (by omega), gIn (by omega), gIn (by omega), gIn (by omega), gIe]
  · rw [g, ← hs, gIo ho', gIn (by omega), gIn (by omega), gIn (by omega), gIn (by omega), gIe]
  · rw [g, ← hs, gIo ho', gIn (by omega), gIn (by omega), gIn (by omega), gIe]
  · rw [g, ← hs, gIo ho', gIn (by omega), gIn (by omega), gIe]
  · rw [g, ← hs, gIo ho', gIn (by omega), gIe]
  · rw [g, ← hs, gIo ho', gIe]
  · rw [g, ← hs, gIe]
  · funext k
    rw [g, ← hs, gIo o2, gIo o1, gIo o1, gIo o1, gIo o1, gIo o1, gIo o1]
  · rw [l4 o o1, ← hs]
    rfl
  · rw [l3, ← hs]
    rfl
