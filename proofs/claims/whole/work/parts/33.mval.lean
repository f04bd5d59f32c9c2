/-- what valueOf of the reference does to the state: the mark of an ERROR alone -/
def only45 (σ σ' : St) : Prop := (∀ k, k ≠ 45 → gI σ' 0 k = gI σ 0 k) ∧ gA σ' = gA σ ∧ gL σ' = gL σ ∧ gJ σ' = gJ σ
theorem only45.rf (σ : St) : only45 σ σ := ⟨fun _ _ => rfl, rfl, rfl, rfl⟩
theorem only45.s (σ : St) (w : Int32) : only45 σ (sI σ 0 45 w) := ⟨fun k h => by rw [gI_sI, if_neg (fun z => h z.2)], rfl, rfl, rfl⟩
def mvR (c : Nat) (a b : Int64) (σ : St) (q : Int64 × St) : Prop := only45 σ q.2 ∧ inL q.1 ∧ (gI σ 0 45 = 1 → gI q.2 0 45 = 1) ∧ (gI σ 0 45 = 0 → (∀ v, opV c a b = some v → q.1 = v ∧ gI q.2 0 45 = 0) ∧ (opV c a b = none → gI q.2 0 45 = 1))
theorem mvR.pure {c : Nat} {a b v : Int64} {σ : St} (h : opV c a b = some v) (hv : inL v) : mvR c a b σ (v, σ) := ⟨only45.rf σ, hv, fun h => h, fun h0 => ⟨fun w hw => by rw [h] at hw; cases hw; exact ⟨rfl, h0⟩, fun hw => by rw [h] at hw; cases hw⟩⟩
theorem compares_eq (σ : St) (c : Nat) (h : 5 ≤ c ∧ c ≤ 10) (a b : Int64) : ∃ z : Int32, (z = 0 ∨ z = 1) ∧ fX10_compares σ (nI c) a b = some z ∧ opV c a b = some (if z = 0 then 0 else 1) := by
  obtain rfl | rfl | rfl | rfl | rfl | rfl : c = 5 ∨ c = 6 ∨ c = 7 ∨ c = 8 ∨ c = 9 ∨ c = 10 := by omega
  · by_cases h : b ≤ a
    · exact ⟨0, Or.inl rfl, by simp (decide := true) only [fX10_compares, jnx1, gd, lc_ge, if_true, if_false, h], by simp (decide := true) only [opV, if_true, if_false, Int64.not_lt.mpr h]⟩
    · exact ⟨1, Or.inr rfl, by simp (decide := true) only [fX10_compares, jnx1, gd, lc_ge, if_true, if_false, h], by simp (decide := true) only [opV, if_true, if_false, Int64.not_le.mp h]⟩
  · by_cases h : b < a
    · exact ⟨0, Or.inl rfl, by simp (decide := true) only [fX10_compares, jnx1, gd, lc_gt, if_true, if_false, h], by simp (decide := true) only [opV, if_true, if_false, Int64.not_le.mpr h]⟩
    · exact ⟨1, Or.inr rfl, by simp (decide := true) only [fX10_compares, jnx1, gd, lc_gt, if_true, if_false, h], by simp (decide := true) only [opV, if_true, if_false, Int64.not_lt.mp h]⟩
  · by_cases h : a = b
    · exact ⟨1, Or.inr rfl, by simp (decide := true) only [fX10_compares, jnx1, gd, lc_eq, if_true, if_false, h], by simp (decide := true) only [opV, if_true, if_false, h]⟩
    · exact ⟨0, Or.inl rfl, by simp (decide := true) only [fX10_compares, jnx1, gd, lc_eq, if_true, if_false, h], by simp (decide := true) only [opV, if_true, if_false, h]⟩
  · by_cases h : a = b
    · exact ⟨0, Or.inl rfl, by simp (decide := true) only [fX10_compares, jnx1, gd, lc_eq, if_true, if_false, h], by simp (decide := true) only [opV, if_true, if_false, h]⟩
    · exact ⟨1, Or.inr rfl, by simp (decide := true) only [fX10_compares, jnx1, gd, lc_eq, if_true, if_false, h], by simp (decide := true) only [opV, if_true, if_false, h]⟩
  · by_cases h : a < b
    · exact ⟨0, Or.inl rfl, by simp (decide := true) only [fX10_compares, jnx1, gd, lc_lt, if_true, if_false, h], by simp (decide := true) only [opV, if_true, if_false, Int64.not_le.mpr h]⟩
    · exact ⟨1, Or.inr rfl, by simp (decide := true) only [fX10_compares, jnx1, gd, lc_lt, if_true, if_false, h], by simp (decide := true) only [opV, if_true, if_false, Int64.not_lt.mp h]⟩
  · by_cases h : a ≤ b
    · exact ⟨0, Or.inl rfl, by simp (decide := true) only [fX10_compares, jnx1, gd, lc_le, if_true, if_false, h], by simp (decide := true) only [opV, if_true, if_false, Int64.not_lt.mpr h]⟩
    · exact ⟨1, Or.inr rfl, by simp (decide := true) only [fX10_compares, jnx1, gd, lc_le, if_true, if_false, h], by simp (decide := true) only [opV, if_true, if_false, Int64.not_le.mp h]⟩
theorem g45 (σ : St) (w : Int32) : gI (sI σ 0 45 w) 0 45 = w := by rw [gI_sI, if_pos ⟨rfl, rfl⟩]
theorem mvR.good {c : Nat} {a b v : Int64} {σ : St} (h0 : gI σ 0 45 = 0) (h : opV c a b = some v) (hv : inL v) : mvR c a b σ (v, sI σ 0 45 0) := ⟨only45.s σ 0, hv, fun h => absurd (h0.symm.trans h) (by decide), fun _ => ⟨fun w hw => by rw [h] at hw; cases hw; exact ⟨rfl, g45 σ 0⟩, fun hw => by rw [h] at hw; cases hw⟩⟩
theorem mvR.bad {c : Nat} {a b : Int64} {σ : St} (h : gI σ 0 45 = 1 ∨ opV c a b = none) : mvR c a b σ (0, sI σ 0 45 1) := by
  refine ⟨only45.s σ 1, inL0, fun _ => g45 σ 1, fun h0 => ⟨fun w hw => ?_, fun _ => g45 σ 1⟩⟩
  rcases h with h | h
  · exact absurd (h0.symm.trans h) (by decide)
  · rw [h] at hw
    cases hw
theorem limI (v : Int64) : (¬ (1000000000000 : Int64) < v ∧ (-1000000000000 : Int64) ≤ v) ↔ (-1000000000000 ≤ v.toInt ∧ v.toInt ≤ 1000000000000) := by
  rw [i64lt, i64le]
  have e1 : (1000000000000 : Int64).toInt = 1000000000000 := by decide
  have e2 : (-1000000000000 : Int64).toInt = -1000000000000 := by decide
  rw [e1, e2]
  omega
theorem bounded_eq (σ : St) (p : Int64) (hE : gI σ 0 45 = 0 ∨ gI σ 0 45 = 1) : fX10_bounded σ p = if gI σ 0 45 = 0 ∧ (-1000000000000 ≤ p.toInt ∧ p.toInt ≤ 1000000000000) then some (p, sI σ 0 45 0) else some (0, sI σ 0 45 1) := by
  rcases hE with h | h
  · by_cases hl : -1000000000000 ≤ p.toInt ∧ p.toInt ≤ 1000000000000
    · have h2 := (limI p).mpr hl
      rw [if_pos ⟨h, hl⟩]
      simp (decide := true) only [fX10_bounded, jnx1, lt, gd, lc_gt, lc_ge, h, h2.1, h2.2, g45, if_true, if_false]
    · rw [if_neg (fun z => hl z.2)]
      have h2 := fun z => hl ((limI p).mp z)
      by_cases h3 : (1000000000000 : Int64) < p
      · simp (decide := true) only [fX10_bounded, jnx1, lt, gd, lc_gt, lc_ge, h, h3, g45, if_true, if_false]
      · have h4 : ¬ (-1000000000000 : Int64) ≤ p := fun z => h2 ⟨h3, z⟩
        simp (decide := true) only [fX10_bounded, jnx1, lt, gd, lc_gt, lc_ge, h, h3, h4, g45, if_true, if_false]
  · rw [if_neg (fun z => absurd (h.symm.trans z.1) (by decide))]
    simp (decide := true) only [fX10_bounded, jnx1, lt, gd, lc_gt, lc_ge, h, g45, if_true, if_false]
theorem mabs (x : Int64) : (if 0 ≤ x then x else -x) = lAbs x := by
  unfold lAbs
  by_cases h : 0 < x
  · rw [if_pos h, if_pos]
    rw [i64lt] at h
    rw [i64le]
    omega
  · rw [if_neg h]
    by_cases h2 : 0 ≤ x
    · have : x = 0 := by
        rw [i64lt] at h
        rw [i64le] at h2
        rw [i64eq]
        omega
      subst this
      decide
    · rw [if_neg h2]
theorem times_eq (σ : St) (a b : Int64) (ha : inL a) (hb : inL b) (hE : gI σ 0 45 = 0 ∨ gI σ 0 45 = 1) : fX10_times σ a b = if gI σ 0 45 = 0 ∧ (a.toInt * b.toInt ≤ 1000000000000 ∧ -1000000000000 ≤ a.toInt * b.toInt) then some (a * b, sI σ 0 45 0) else some (0, sI σ 0 45 1) := by
  have key : ∀ (M : Int32 → Option (Int64 × St)), (if a = 0 then M 0 else if b = 0 then M 0 else (if 0 ≤ b then (if 0 ≤ a then gd (¬ a = 0) (if b ≤ (1000000000000 : Int64) / a then M 0 else M 1) else gd (¬ -a = 0) (if b ≤ (1000000000000 : Int64) / -a then M 0 else M 1)) else (if 0 ≤ a then gd (¬ a = 0) (if -b ≤ (1000000000000 : Int64) / a then M 0 else M 1) else gd (¬ -a = 0) (if -b ≤ (1000000000000 : Int64) / -a then M 0 else M 1)))) = M (if a.toInt * b.toInt ≤ 1000000000000 ∧ -1000000000000 ≤ a.toInt * b.toInt then 0 else 1) := by
    intro M
    by_cases h0 : a = 0
    · rw [if_pos h0, if_pos]
      subst h0
      rw [i640]
      omega
    · rw [if_neg h0]
      by_cases h1 : b = 0
      · rw [if_pos h1, if_pos]
        subst h1
        rw [i640]
        omega
      · rw [if_neg h1]
        have hl := mul_lim ha hb h0
        have hne : lAbs a ≠ 0 := fun e => by
          have h1 := lAbs_int ha
          rw [e, i640] at h1
          exact h0 ((i64eq a 0).mpr (by rw [i640]; omega))
        have ea := mabs a
        have eb := mabs b
        by_cases hm : lAbs b ≤ (1000000000000 : Int64) / lAbs a
        · rw [if_pos (hl.mp hm)]
          clear hl h0 h1 ha hb
          by_cases c1 : 0 ≤ b <;> by_cases c2 : 0 ≤ a <;> simp only [c1, c2, if_true, if_false] at ea eb ⊢ <;> rw [← ea, ← eb] at hm <;> rw [← ea] at hne <;> rw [gd_pos hne, if_pos hm]
        · rw [if_neg (fun z => hm (hl.mpr z))]
          clear hl h0 h1 ha hb
          by_cases c1 : 0 ≤ b <;> by_cases c2 : 0 ≤ a <;> simp only [c1, c2, if_true, if_false] at ea eb ⊢ <;> rw [← ea, ← eb] at hm <;> rw [← ea] at hne <;> rw [gd_pos hne, if_neg hm]
  have e : fX10_times σ a b = _ := Eq.trans (by simp (decide := true) only [fX10_times, jnx1, lt, lc_eq, lc_ge, lc_le, gd_pos (show (0 : Int32) = 0 ∨ (0 : Int32) = 1 from Or.inl rfl), gd_pos (show (1 : Int32) = 0 ∨ (1 : Int32) = 1 from Or.inr rfl), g45, if_true, if_false]; rfl) (key (fun w => if gI σ 0 45 = 0 then (if w = 0 then some (a * b, sI σ 0 45 0) else some (0, sI σ 0 45 1)) else some (0, sI σ 0 45 1)))
  rw [e]
  rcases hE with h | h
  · by_cases hl : a.toInt * b.toInt ≤ 1000000000000 ∧ -1000000000000 ≤ a.toInt * b.toInt
    · simp only [h, hl, if_true, and_self]
    · simp only [h, hl, if_true, if_false, and_false]
      rfl
  · rw [if_neg (fun z : gI σ 0 45 = 0 => absurd (h.symm.trans z) (by decide)), if_neg (fun z => absurd (h.symm.trans z.1) (by decide))]
