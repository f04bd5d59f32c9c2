set_option maxHeartbeats 4000000 in
theorem mval_op (σ : St) (i c x y : Nat) (hi : i < 64) (hc2 : 2 ≤ c ∧ c ≤ 14) (hc : gA σ 0 32 i = nI c) (hx : gA σ 0 33 i = nI x) (hx6 : x < 64) (hy0 : c ≠ 2 → gA σ 0 34 i = nI y) (hy6 : y < 64) (hE : gI σ 0 45 = 0 ∨ gI σ 0 45 = 1) (ha : inL (gL σ 0 44 x)) (hb : inL (gL σ 0 44 y)) : ∃ q, fX10_valueOf σ (nI i) = some q ∧ mvR c (gL σ 0 44 x) (gL σ 0 44 y) σ q := by
  have g1 : ∀ {β : Type} (z : Option β), gd (ixI (nI i) 128) z = z := fun z => gd_pos (ixN (by omega) (by omega))
  have g2 : ∀ {β : Type} (z : Option β), gd (ixI (nI x) 64) z = z := fun z => gd_pos (ixN (by omega) (by omega))
  have g3 : ∀ {β : Type} (z : Option β), gd (ixI (nI y) 64) z = z := fun z => gd_pos (ixN (by omega) (by omega))
  by_cases h2 : c = 2
  · subst h2
    refine ⟨(if gL σ 0 44 x = 0 then 1 else 0, σ), ?_, mvR.pure rfl inL_01⟩
    simp (decide := true) only [fX10_valueOf, jnx1, lt, clN (show i < 1000000 by omega), g1, g2, hc, hx, clN (show x < 1000000 by omega), clN (show y < 1000000 by omega), lc_eq, if_true, if_false]
    split <;> rfl
  have hy := hy0 h2
  obtain rfl | rfl | hcc | rfl | rfl | rfl | rfl : c = 3 ∨ c = 4 ∨ (5 ≤ c ∧ c ≤ 10) ∨ c = 11 ∨ c = 12 ∨ c = 13 ∨ c = 14 := by omega
  · refine ⟨(if gL σ 0 44 x = 0 then 0 else if gL σ 0 44 y = 0 then 0 else 1, σ), ?_, mvR.pure rfl ?_⟩
    · simp (decide := true) only [fX10_valueOf, jnx1, lt, clN (show i < 1000000 by omega), g1, g2, g3, hc, hx, hy, clN (show x < 1000000 by omega), clN (show y < 1000000 by omega), lc_eq, if_true, if_false]
      by_cases h1 : gL σ 0 44 x = 0 <;> by_cases h2 : gL σ 0 44 y = 0 <;> simp [h1, h2]
    · by_cases h1 : gL σ 0 44 x = 0 <;> by_cases h2 : gL σ 0 44 y = 0 <;> simp [h1, h2, inL0, inL1]
  · refine ⟨(if gL σ 0 44 x = 0 then (if gL σ 0 44 y = 0 then 0 else 1) else 1, σ), ?_, mvR.pure rfl ?_⟩
    · simp (decide := true) only [fX10_valueOf, jnx1, lt, clN (show i < 1000000 by omega), g1, g2, g3, hc, hx, hy, clN (show x < 1000000 by omega), clN (show y < 1000000 by omega), lc_eq, if_true, if_false]
      by_cases h1 : gL σ 0 44 x = 0 <;> by_cases h2 : gL σ 0 44 y = 0 <;> simp [h1, h2]
    · by_cases h1 : gL σ 0 44 x = 0 <;> by_cases h2 : gL σ 0 44 y = 0 <;> simp [h1, h2, inL0, inL1]
  · obtain ⟨z, hz, ec, eo⟩ := compares_eq σ c hcc (gL σ 0 44 x) (gL σ 0 44 y)
    refine ⟨(if z = 0 then 0 else 1, σ), ?_, mvR.pure eo ?_⟩
    · obtain rfl | rfl | rfl | rfl | rfl | rfl : c = 5 ∨ c = 6 ∨ c = 7 ∨ c = 8 ∨ c = 9 ∨ c = 10 := by omega
      all_goals
        simp (decide := true) only [fX10_valueOf, jnx1, lt, clN (show i < 1000000 by omega), g1, g2, g3, hc, hx, hy, clN (show x < 1000000 by omega), clN (show y < 1000000 by omega), lc_eq, if_true, if_false]
        rw [ec]
        rcases hz with rfl | rfl <;> rfl
    · rcases hz with rfl | rfl
      · exact inL0
      · exact inL1
  · have e : fX10_valueOf σ (nI i) = fX10_bounded σ (gL σ 0 44 x + gL σ 0 44 y) := by
      simp (decide := true) only [fX10_valueOf, jnx1, lt, clN (show i < 1000000 by omega), g1, g2, g3, hc, hx, hy, clN (show x < 1000000 by omega), clN (show y < 1000000 by omega), lc_eq, if_true, if_false]
      cases fX10_bounded σ (gL σ 0 44 x + gL σ 0 44 y) <;> rfl
    rw [e, bounded_eq σ _ hE]
    by_cases hg : gI σ 0 45 = 0 ∧ (-1000000000000 ≤ (gL σ 0 44 x + gL σ 0 44 y).toInt ∧ (gL σ 0 44 x + gL σ 0 44 y).toInt ≤ 1000000000000)
    · rw [if_pos hg]
      refine ⟨_, rfl, mvR.good hg.1 ?_ hg.2⟩
      simp (decide := true) only [opV, if_true, if_false, hg.2]
    · rw [if_neg hg]
      refine ⟨_, rfl, mvR.bad ?_⟩
      rcases hE with h | h
      · right
        simp (decide := true) only [opV, if_true, if_false]
        rw [if_neg (fun z => hg ⟨h, z⟩)]
      · exact Or.inl h
  · have e : fX10_valueOf σ (nI i) = fX10_bounded σ (gL σ 0 44 x - gL σ 0 44 y) := by
      simp (decide := true) only [fX10_valueOf, jnx1, lt, clN (show i < 1000000 by omega), g1, g2, g3, hc, hx, hy, clN (show x < 1000000 by omega), clN (show y < 1000000 by omega), lc_eq, if_true, if_false]
      cases fX10_bounded σ (gL σ 0 44 x - gL σ 0 44 y) <;> rfl
    rw [e, bounded_eq σ _ hE]
    by_cases hg : gI σ 0 45 = 0 ∧ (-1000000000000 ≤ (gL σ 0 44 x - gL σ 0 44 y).toInt ∧ (gL σ 0 44 x - gL σ 0 44 y).toInt ≤ 1000000000000)
    · rw [if_pos hg]
      refine ⟨_, rfl, mvR.good hg.1 ?_ hg.2⟩
      simp (decide := true) only [opV, if_true, if_false, hg.2]
    · rw [if_neg hg]
      refine ⟨_, rfl, mvR.bad ?_⟩
      rcases hE with h | h
      · right
        simp (decide := true) only [opV, if_true, if_false]
        rw [if_neg (fun z => hg ⟨h, z⟩)]
      · exact Or.inl h
  · have e : fX10_valueOf σ (nI i) = fX10_times σ (gL σ 0 44 x) (gL σ 0 44 y) := by
      simp (decide := true) only [fX10_valueOf, jnx1, lt, clN (show i < 1000000 by omega), g1, g2, g3, hc, hx, hy, clN (show x < 1000000 by omega), clN (show y < 1000000 by omega), lc_eq, if_true, if_false]
      cases fX10_times σ (gL σ 0 44 x) (gL σ 0 44 y) <;> rfl
    rw [e, times_eq σ _ _ ha hb hE]
    by_cases hg : gI σ 0 45 = 0 ∧ ((gL σ 0 44 x).toInt * (gL σ 0 44 y).toInt ≤ 1000000000000 ∧ -1000000000000 ≤ (gL σ 0 44 x).toInt * (gL σ 0 44 y).toInt)
    · rw [if_pos hg]
      refine ⟨_, rfl, mvR.good hg.1 ?_ ?_⟩
      · simp (decide := true) only [opV, if_true, if_false, hg.2, and_self]
      · have := mul_int hg.2
        have := hg.2
        unfold inL
        omega
    · rw [if_neg hg]
      refine ⟨_, rfl, mvR.bad ?_⟩
      rcases hE with h | h
      · right
        simp (decide := true) only [opV, if_true, if_false]
        rw [if_neg (fun z => hg ⟨h, z⟩)]
      · exact Or.inl h
  · by_cases hg : gI σ 0 45 = 0 ∧ ¬ gL σ 0 44 y = 0
    · refine ⟨(gL σ 0 44 x / gL σ 0 44 y, sI σ 0 45 0), ?_, mvR.good hg.1 ?_ (div_inL ha hg.2)⟩
      · simp (decide := true) only [fX10_valueOf, jnx1, lt, clN (show i < 1000000 by omega), g1, g2, g3, hc, hx, hy, clN (show x < 1000000 by omega), clN (show y < 1000000 by omega), lc_eq, if_true, if_false]
        simp (decide := true) only [hg.1, hg.2, if_true, if_false, g45, gd]
      · simp (decide := true) only [opV, if_true, if_false, hg.2]
    · refine ⟨(0, sI σ 0 45 1), ?_, mvR.bad ?_⟩
      · simp (decide := true) only [fX10_valueOf, jnx1, lt, clN (show i < 1000000 by omega), g1, g2, g3, hc, hx, hy, clN (show x < 1000000 by omega), clN (show y < 1000000 by omega), lc_eq, if_true, if_false]
        rcases hE with h | h
        · have hz : gL σ 0 44 y = 0 := Classical.byContradiction (fun z => hg ⟨h, z⟩)
          simp (decide := true) only [h, hz, if_true, if_false, g45, gd]
        · simp (decide := true) only [h, if_true, if_false, g45, gd]
      · rcases hE with h | h
        · right
          have hz : gL σ 0 44 y = 0 := Classical.byContradiction (fun z => hg ⟨h, z⟩)
          simp (decide := true) only [opV, if_true, if_false, hz]
        · exact Or.inl h
