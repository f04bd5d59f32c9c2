def kB (c : Nat) : Int32 := if c = 2 then 11 else if c = 3 then 10 else if c = 4 then 9 else nI (21 + c)
theorem min_notL : ¬ inL (-9223372036854775808) := by unfold inL; decide
theorem inL0 : inL 0 := ⟨by decide, by decide⟩
theorem inL1 : inL 1 := ⟨by decide, by decide⟩
theorem i640 : (0 : Int64).toInt = 0 := rfl
theorem div_int {a b : Int64} (ha : inL a) (hb : b ≠ 0) : (a / b).toInt = a.toInt.tdiv b.toInt := Int64.toInt_div_of_ne_left a b (fun e => by rw [e] at ha; exact absurd ha (by unfold inL; decide))
theorem div_inL {a b : Int64} (ha : inL a) (hb : b ≠ 0) : inL (a / b) := by
  have h := div_int ha hb
  have h2 : (a.toInt.tdiv b.toInt).natAbs ≤ a.toInt.natAbs := by
    rw [Int.natAbs_tdiv]
    exact Nat.div_le_self _ _
  unfold inL at *
  omega
theorem mul_lim {a b : Int64} (ha : inL a) (hb : inL b) (h0 : a ≠ 0) : lAbs b ≤ (1000000000000 : Int64) / lAbs a ↔ (a.toInt * b.toInt ≤ 1000000000000 ∧ -1000000000000 ≤ a.toInt * b.toInt) := by
  have h1 := lAbs_int ha
  have h2 := lAbs_int hb
  have ha0 : a.toInt ≠ 0 := fun e => h0 ((i64eq a 0).mpr (by rw [e, i640]))
  have hne : lAbs a ≠ 0 := fun e => by
    rw [e, i640] at h1
    omega
  have h3 : ((1000000000000 : Int64) / lAbs a).toInt = (1000000000000 : Int).tdiv (lAbs a).toInt := div_int ⟨by decide, by decide⟩ hne
  rw [i64le, h3, h1, h2]
  have hp : 0 < a.toInt.natAbs := Int.natAbs_pos.mpr ha0
  have e1 : (1000000000000 : Int).tdiv (a.toInt.natAbs : Int) = ((1000000000000 / a.toInt.natAbs : Nat) : Int) := rfl
  rw [e1]
  have e2 : (a.toInt * b.toInt).natAbs = a.toInt.natAbs * b.toInt.natAbs := Int.natAbs_mul _ _
  have e3 : b.toInt.natAbs ≤ 1000000000000 / a.toInt.natAbs ↔ b.toInt.natAbs * a.toInt.natAbs ≤ 1000000000000 := Nat.le_div_iff_mul_le hp
  rw [Nat.mul_comm] at e3
  constructor
  · intro h
    have := e3.mp (by omega)
    rw [← e2] at this
    omega
  · intro h
    have : b.toInt.natAbs ≤ 1000000000000 / a.toInt.natAbs := e3.mpr (by rw [← e2]; omega)
    omega
set_option maxHeartbeats 4000000 in
theorem join_eq (σ : St) (c : Nat) (hc : 2 ≤ c ∧ c ≤ 14) (a b : Int64) (ha : inL a) (hb : inL b) : ∃ r, fX0_join σ (kB c) a b = some r ∧ (∀ v, opV c a b = some v → r = v ∧ inL v) ∧ (opV c a b = none → ¬ inL r) := by
  obtain rfl | rfl | rfl | rfl | rfl | rfl | rfl | rfl | rfl | rfl | rfl | rfl | rfl : c = 2 ∨ c = 3 ∨ c = 4 ∨ c = 5 ∨ c = 6 ∨ c = 7 ∨ c = 8 ∨ c = 9 ∨ c = 10 ∨ c = 11 ∨ c = 12 ∨ c = 13 ∨ c = 14 := by omega
  · refine ⟨if a = 0 then 1 else 0, ?_, ?_, ?_⟩
    · simp (decide := true) only [fX0_join, kB, jnx1, lc_eq, if_true, if_false]
      split <;> rfl
    · intro v hv
      cases hv
      exact ⟨rfl, inL_01⟩
    · intro h; cases h
  · refine ⟨if a = 0 then 0 else if b = 0 then 0 else 1, ?_, ?_, ?_⟩
    · simp (decide := true) only [fX0_join, kB, jnx1, gd, lc_eq, lc_lt, lc_gt, lc_ge, lc_le, if_true, if_false]
      by_cases h1 : a = 0 <;> by_cases h2 : b = 0 <;> simp [h1, h2]
    · intro v hv
      cases hv
      refine ⟨rfl, ?_⟩
      by_cases h1 : a = 0 <;> by_cases h2 : b = 0 <;> simp [h1, h2, inL0, inL1]
    · intro h
      cases h
  · refine ⟨if a = 0 then (if b = 0 then 0 else 1) else 1, ?_, ?_, ?_⟩
    · simp (decide := true) only [fX0_join, kB, jnx1, gd, lc_eq, lc_lt, lc_gt, lc_ge, lc_le, if_true, if_false]
      by_cases h1 : a = 0 <;> by_cases h2 : b = 0 <;> simp [h1, h2]
    · intro v hv
      cases hv
      refine ⟨rfl, ?_⟩
      by_cases h1 : a = 0 <;> by_cases h2 : b = 0 <;> simp [h1, h2, inL0, inL1]
    · intro h
      cases h
  · refine ⟨if a < b then 1 else 0, ?_, ?_, ?_⟩
    · simp (decide := true) only [fX0_join, kB, jnx1, gd, lc_eq, lc_lt, lc_gt, lc_ge, lc_le, if_true, if_false]
      by_cases h : b ≤ a
      · rw [if_pos h, if_neg (Int64.not_lt.mpr h)]
      · rw [if_neg h, if_pos (Int64.not_le.mp h)]
    · intro v hv
      cases hv
      exact ⟨rfl, inL_01⟩
    · intro h
      cases h
  · refine ⟨if a ≤ b then 1 else 0, ?_, ?_, ?_⟩
    · simp (decide := true) only [fX0_join, kB, jnx1, gd, lc_eq, lc_lt, lc_gt, lc_ge, lc_le, if_true, if_false]
      by_cases h : b < a
      · rw [if_pos h, if_neg (Int64.not_le.mpr h)]
      · rw [if_neg h, if_pos (Int64.not_lt.mp h)]
    · intro v hv
      cases hv
      exact ⟨rfl, inL_01⟩
    · intro h
      cases h
  · refine ⟨if a = b then 1 else 0, ?_, ?_, ?_⟩
    · simp (decide := true) only [fX0_join, kB, jnx1, gd, lc_eq, lc_lt, lc_gt, lc_ge, lc_le, if_true, if_false]
      split <;> rfl
    · intro v hv
      cases hv
      exact ⟨rfl, inL_01⟩
    · intro h
      cases h
  · refine ⟨if a = b then 0 else 1, ?_, ?_, ?_⟩
    · simp (decide := true) only [fX0_join, kB, jnx1, gd, lc_eq, lc_lt, lc_gt, lc_ge, lc_le, if_true, if_false]
      split <;> rfl
    · intro v hv
      cases hv
      refine ⟨rfl, ?_⟩
      split
      · exact inL0
      · exact inL1
    · intro h
      cases h
  · refine ⟨if b ≤ a then 1 else 0, ?_, ?_, ?_⟩
    · simp (decide := true) only [fX0_join, kB, jnx1, gd, lc_eq, lc_lt, lc_gt, lc_ge, lc_le, if_true, if_false]
      by_cases h : a < b
      · rw [if_pos h, if_neg (Int64.not_le.mpr h)]
      · rw [if_neg h, if_pos (Int64.not_lt.mp h)]
    · intro v hv
      cases hv
      exact ⟨rfl, inL_01⟩
    · intro h
      cases h
  · refine ⟨if b < a then 1 else 0, ?_, ?_, ?_⟩
    · simp (decide := true) only [fX0_join, kB, jnx1, gd, lc_eq, lc_lt, lc_gt, lc_ge, lc_le, if_true, if_false]
      by_cases h : a ≤ b
      · rw [if_pos h, if_neg (Int64.not_lt.mpr h)]
      · rw [if_neg h, if_pos (Int64.not_le.mp h)]
    · intro v hv
      cases hv
      exact ⟨rfl, inL_01⟩
    · intro h
      cases h
  · refine ⟨a + b, ?_, ?_, ?_⟩
    · simp (decide := true) only [fX0_join, kB, jnx1, gd, lc_eq, lc_lt, lc_gt, lc_ge, lc_le, if_true, if_false]
    · intro v hv
      simp (decide := true) only [opV, if_true, if_false] at hv
      split at hv
      · cases hv
        exact ⟨rfl, ‹_›⟩
      · cases hv
    · intro hv
      simp (decide := true) only [opV, if_true, if_false] at hv
      split at hv
      · cases hv
      · rename_i hn; exact hn
  · refine ⟨a - b, ?_, ?_, ?_⟩
    · simp (decide := true) only [fX0_join, kB, jnx1, gd, lc_eq, lc_lt, lc_gt, lc_ge, lc_le, if_true, if_false]
    · intro v hv
      simp (decide := true) only [opV, if_true, if_false] at hv
      split at hv
      · cases hv
        exact ⟨rfl, ‹_›⟩
      · cases hv
    · intro hv
      simp (decide := true) only [opV, if_true, if_false] at hv
      split at hv
      · cases hv
      · rename_i hn; exact hn
  · by_cases h0 : a = 0
    · refine ⟨a * b, ?_, ?_, ?_⟩
      · simp (decide := true) only [fX0_join, kB, jnx1, gd, lc_eq, lc_lt, lc_gt, lc_ge, lc_le, if_true, if_false]
        rw [if_pos h0]
      · intro v hv
        simp (decide := true) only [opV, if_true, if_false] at hv
        split at hv
        · cases hv
          refine ⟨rfl, ?_⟩
          have := mul_int ‹_›
          unfold inL
          omega
        · cases hv
      · intro hv
        simp (decide := true) only [opV, if_true, if_false] at hv
        split at hv
        · cases hv
        · subst h0
          rw [i640] at *
          simp at *
    · have hl := mul_lim ha hb h0
      have hne : lAbs a ≠ 0 := fun e => by
        have h1 := lAbs_int ha
        rw [e, i640] at h1
        exact h0 ((i64eq a 0).mpr (by rw [i640]; omega))
      by_cases hm : lAbs b ≤ (1000000000000 : Int64) / lAbs a
      · refine ⟨a * b, ?_, ?_, ?_⟩
        · simp (decide := true) only [fX0_join, kB, jnx1, gd, lc_eq, lc_lt, lc_gt, lc_ge, lc_le, if_true, if_false]
          rw [if_neg h0, if_pos hne, if_pos hm]
        · intro v hv
          simp (decide := true) only [opV, if_true, if_false] at hv
          rw [if_pos (hl.mp hm)] at hv
          cases hv
          refine ⟨rfl, ?_⟩
          have := mul_int (hl.mp hm)
          have := hl.mp hm
          unfold inL
          omega
        · intro hv
          simp (decide := true) only [opV, if_true, if_false] at hv
          rw [if_pos (hl.mp hm)] at hv
          cases hv
      · refine ⟨-9223372036854775808, ?_, ?_, ?_⟩
        · simp (decide := true) only [fX0_join, kB, jnx1, gd, lc_eq, lc_lt, lc_gt, lc_ge, lc_le, if_true, if_false]
          rw [if_neg h0, if_pos hne, if_neg hm]
        · intro v hv
          simp (decide := true) only [opV, if_true, if_false] at hv
          rw [if_neg (fun z => hm (hl.mpr z))] at hv
          cases hv
        · intro _
          exact min_notL
  · by_cases h0 : b = 0
    · refine ⟨-9223372036854775808, ?_, ?_, ?_⟩
      · simp (decide := true) only [fX0_join, kB, jnx1, gd, lc_eq, lc_lt, lc_gt, lc_ge, lc_le, if_true, if_false]
        rw [if_pos h0]
      · intro v hv
        simp (decide := true) only [opV, if_true, if_false] at hv
        rw [if_pos h0] at hv
        cases hv
      · intro _
        exact min_notL
    · refine ⟨a / b, ?_, ?_, ?_⟩
      · simp (decide := true) only [fX0_join, kB, jnx1, gd, lc_eq, lc_lt, lc_gt, lc_ge, lc_le, if_true, if_false]
        rw [if_neg h0, if_pos h0]
      · intro v hv
        simp (decide := true) only [opV, if_true, if_false] at hv
        rw [if_neg h0] at hv
        cases hv
        exact ⟨rfl, div_inL ha h0⟩
      · intro hv
        simp (decide := true) only [opV, if_true, if_false] at hv
        rw [if_neg h0] at hv
        cases hv
