/-! WHAT A TOKEN IS, both sides -/
theorem isSign_eq (σ : St) (x : Int32) : fX10_isSign σ x = some (if gI σ 0 8 = 4 ∧ gI σ 0 9 = x then 1 else 0) := by
  unfold fX10_isSign
  simp only [jnx1_eq]
  by_cases a : gI σ 0 8 = 4
  · rw [if_pos a]
    by_cases b : gI σ 0 9 = x
    · rw [if_pos b, if_pos ⟨a, b⟩]
      exact gd11 _
    · rw [if_neg b, if_neg (fun z => b z.2)]
      exact gd00 _
  · rw [if_neg a, if_neg (fun z => a z.1)]
    exact gd00 _
theorem isKey_eq (σ : St) (x : Int32) : fX10_isKey σ x = some (if gI σ 0 8 = 1 ∧ gI σ 0 9 = x then 1 else 0) := by
  unfold fX10_isKey
  simp only [jnx1_eq]
  by_cases a : gI σ 0 8 = 1
  · rw [if_pos a]
    by_cases b : gI σ 0 9 = x
    · rw [if_pos b, if_pos ⟨a, b⟩]
      exact gd11 _
    · rw [if_neg b, if_neg (fun z => b z.2)]
      exact gd00 _
  · rw [if_neg a, if_neg (fun z => a z.1)]
    exact gd00 _
def sgs (s sa : Nat) : Prop := (s = 59 ∧ sa = 23) ∨ (s = 40 ∧ sa = 24) ∨ (s = 41 ∧ sa = 25) ∨ (s = 43 ∧ sa = 32) ∨ (s = 45 ∧ sa = 33) ∨ (s = 42 ∧ sa = 34) ∨ (s = 47 ∧ sa = 35)
theorem KR.cls {kB vB kM wM : Int32} (h : KR kB vB kM wM) : ∃ a, a < 36 ∧ kB = nI a ∧ (∀ s sa, sgs s sa → ((kM = 4 ∧ wM = nI s) ↔ a = sa)) ∧ (∀ j, j < 19 → ((kM = 1 ∧ wM = nI (swp j)) ↔ a = j)) ∧ (kM = 5 ↔ 26 ≤ a ∧ a ≤ 31) ∧ (26 ≤ a → a ≤ 31 → wM = nI (a - 26)) ∧ (kM = 3 ↔ a = 20) ∧ (a = 20 → ∃ v w, v ≤ 1000000 ∧ w ≤ 1000000 ∧ vB = nI v ∧ wM = nI w ∧ (v = w ∨ (99999 < v ∧ 99999 < w))) ∧ (kM = 1 ↔ a < 19) ∧ (a < 19 → wM = nI (swp a)) ∧ (kM = 0 ↔ a = 21) := by
  obtain ⟨a, b, ha, hb, e1, e2, hk⟩ := h.nat
  have q : ∀ j : Nat, j < 7 → (kM = nI j ↔ b = j) := fun j hj => by rw [e2]; exact eqN (by omega) (by omega)
  refine ⟨a, ha, e1, fun s sa hs => ?_, fun j hj => ?_, ?_, fun h1 h2 => ?_, ?_, fun h1 => ?_, ?_, fun h1 => ?_, ?_⟩
  · have q4 : kM = 4 ↔ b = 4 := q 4 (by omega)
    rw [q4]
    rcases hk with h | ⟨h1, h2, -⟩ | ⟨h1, h2, -⟩ | ⟨h1, h2, -⟩ | h | ⟨h1, t, t1, t2, t3⟩ | ⟨h1, h2, h3, -⟩
    · unfold sgs at hs; omega
    · unfold sgs at hs; omega
    · unfold sgs at hs; omega
    · unfold sgs at hs; omega
    · unfold sgs at hs; omega
    · rw [t2, eqN (show t < 1000000 by omega) (show s < 1000000 by unfold sgs at hs; omega)]
      unfold sgs at hs; omega
    · unfold sgs at hs; omega
  · have q1 : kM = 1 ↔ b = 1 := q 1 (by omega)
    rw [q1]
    have s1 := swp_lt j hj
    rcases hk with h | ⟨h1, h2, h3⟩ | ⟨h1, h2, -⟩ | ⟨h1, h2, -⟩ | h | ⟨h1, t, t1, t2, t3⟩ | ⟨h1, h2, h3, -⟩
    · omega
    · have s2 := swp_lt a h1
      rw [h3, eqN (show swp a < 1000000 by omega) (show swp j < 1000000 by omega)]
      constructor
      · rintro ⟨-, z⟩
        rw [← s2.2, z, s1.2]
      · rintro rfl
        exact ⟨h2, rfl⟩
    · omega
    · omega
    · omega
    · omega
    · omega
  · have q5 : kM = 5 ↔ b = 5 := q 5 (by omega)
    rw [q5]
    rcases hk with h | ⟨h1, h2, -⟩ | ⟨h1, h2, -⟩ | ⟨h1, h2, -⟩ | h | ⟨h1, t, t1, t2, t3⟩ | ⟨h1, h2, h3, -⟩ <;> omega
  · rcases hk with h | ⟨h1, h2, -⟩ | ⟨h1, h2, -⟩ | ⟨h1, h2, -⟩ | h | ⟨h1, t, t1, t2, t3⟩ | ⟨h1, h2, h3, h4⟩
    · omega
    · omega
    · omega
    · omega
    · omega
    · omega
    · exact h4
  · have q3 : kM = 3 ↔ b = 3 := q 3 (by omega)
    rw [q3]
    rcases hk with h | ⟨h1, h2, -⟩ | ⟨h1, h2, -⟩ | ⟨h1, h2, -⟩ | h | ⟨h1, t, t1, t2, t3⟩ | ⟨h1, h2, h3, -⟩ <;> omega
  · rcases hk with h | ⟨h1, h2, -⟩ | ⟨h1, h2, -⟩ | ⟨h1, h2, h3⟩ | h | ⟨h1, t, t1, t2, t3⟩ | ⟨h1, h2, h3, h4⟩
    · omega
    · omega
    · omega
    · exact h3
    · omega
    · omega
    · omega
  · have q1 : kM = 1 ↔ b = 1 := q 1 (by omega)
    rw [q1]
    rcases hk with h | ⟨h1, h2, -⟩ | ⟨h1, h2, -⟩ | ⟨h1, h2, -⟩ | h | ⟨h1, t, t1, t2, t3⟩ | ⟨h1, h2, h3, -⟩ <;> omega
  · rcases hk with h | ⟨h1, h2, h3⟩ | ⟨h1, h2, -⟩ | ⟨h1, h2, h3⟩ | h | ⟨h1, t, t1, t2, t3⟩ | ⟨h1, h2, h3, h4⟩
    · omega
    · exact h3
    · omega
    · omega
    · omega
    · omega
    · omega
  · have q0 : kM = 0 ↔ b = 0 := q 0 (by omega)
    rw [q0]
    rcases hk with h | ⟨h1, h2, -⟩ | ⟨h1, h2, -⟩ | ⟨h1, h2, -⟩ | h | ⟨h1, t, t1, t2, t3⟩ | ⟨h1, h2, h3, -⟩ <;> omega
/-- the same, as the two sides ask -/
theorem TKp.cls {S p : Nat} {x y : St} (h : TKp S p x y) : ∃ a, a < 36 ∧ gI x 10 3 = nI a ∧ (∀ s sa, sgs s sa → fX10_isSign y (nI s) = some (if a = sa then 1 else 0)) ∧ (∀ j, j < 19 → fX10_isKey y (nI (swp j)) = some (if a = j then 1 else 0)) ∧ (gI y 0 8 = 5 ↔ 26 ≤ a ∧ a ≤ 31) ∧ (26 ≤ a → a ≤ 31 → gI y 0 9 = nI (a - 26)) ∧ (gI y 0 8 = 3 ↔ a = 20) ∧ (a = 20 → ∃ v w, v ≤ 1000000 ∧ w ≤ 1000000 ∧ gI x 10 5 = nI v ∧ gI y 0 9 = nI w ∧ (v = w ∨ (99999 < v ∧ 99999 < w))) ∧ (gI y 0 8 = 1 ↔ a < 19) ∧ (a < 19 → gI y 0 9 = nI (swp a)) ∧ (gI y 0 8 = 0 ↔ a = 21) ∧ fX10_nameMet y = some (if 12 ≤ a ∧ a ≤ 18 then nI (a - 12) else -1) := by
  obtain ⟨i', h1, h2, h3, h4, h5, h6, h7, h8⟩ := h
  obtain ⟨a, ha, e1, c1, c2, c3, c4, c5, c6, c7, c8, c9⟩ := h7.cls
  refine ⟨a, ha, e1, fun s sa hs => ?_, fun j hj => ?_, c3, c4, c5, c6, c7, c8, c9, ?_⟩
  · rw [isSign_eq]
    by_cases q : a = sa
    · rw [if_pos ((c1 s sa hs).mpr q), if_pos q]
    · rw [if_neg (fun z => q ((c1 s sa hs).mp z)), if_neg q]
  · rw [isKey_eq]
    by_cases q : a = j
    · rw [if_pos ((c2 j hj).mpr q), if_pos q]
    · rw [if_neg (fun z => q ((c2 j hj).mp z)), if_neg q]
  · unfold fX10_nameMet
    simp only [jnx1_eq]
    by_cases q : a < 19
    · have s1 := swp_lt a q
      rw [if_pos (c7.mpr q), c8 q]
      by_cases r : 12 ≤ a
      · have e : swp a = a := by unfold swp; rw [if_neg (by omega), if_neg (by omega)]
        rw [e, if_neg (show ¬ nI a < (12 : Int32) from fun z => absurd ((ltN (a := a) (b := 12) (by omega) (by omega)).mp z) (by omega)), if_pos (by omega)]
        rw [show (12 : Int32) = nI 12 from rfl, pk_sub (by omega)]
      · have e : swp a < 12 := by unfold swp; (repeat' split) <;> omega
        rw [if_pos (show nI (swp a) < (12 : Int32) from (ltN (a := swp a) (b := 12) (by omega) (by omega)).mpr e), if_neg (by omega)]
    · rw [if_neg (fun z => q (c7.mp z)), if_neg (by omega)]
