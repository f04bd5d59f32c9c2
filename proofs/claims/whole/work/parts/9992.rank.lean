/-! SIGNS THAT WAIT -/
def okW (k : Nat) : Prop := k = 0 ∨ (2 ≤ k ∧ k ≤ 14)
def cw (k : Nat) : Nat := if k = 0 then 24 else if k = 2 then 11 else if k = 3 then 10 else if k = 4 then 9 else if k ≤ 10 then 21 + k else if k = 11 then 32 else if k = 12 then 33 else if k = 13 then 34 else 35
def rk (k : Nat) : Nat := if 13 ≤ k then 6 else if 11 ≤ k then 5 else if 5 ≤ k then 4 else if k = 2 then 3 else if k = 3 then 2 else if k = 4 then 1 else 0
theorem cw_kB : ∀ k, k < 15 → 3 ≤ k → nI (cw k) = kB k := by decide +kernel
theorem cw_lt : ∀ k, k < 15 → cw k < 36 := by decide +kernel
theorem cw_24 : ∀ k, k < 15 → k ≠ 1 → (cw k = 24 ↔ k = 0) := by decide +kernel
theorem rkM (σ : St) (k : Nat) (hk : k < 15) : fX10_rank σ (nI k) = some (nI (rk k)) := by
  obtain rfl | rfl | rfl | rfl | rfl | rfl | rfl | rfl | rfl | rfl | rfl | rfl | rfl | rfl | rfl : k = 0 ∨ k = 1 ∨ k = 2 ∨ k = 3 ∨ k = 4 ∨ k = 5 ∨ k = 6 ∨ k = 7 ∨ k = 8 ∨ k = 9 ∨ k = 10 ∨ k = 11 ∨ k = 12 ∨ k = 13 ∨ k = 14 := by omega
  all_goals rfl
theorem rkB (σ : St) (k : Nat) (hk : 2 ≤ k) (hk2 : k < 15) : fX1_rankOf σ (nI (cw k)) = some (nI (rk k)) := by
  obtain rfl | rfl | rfl | rfl | rfl | rfl | rfl | rfl | rfl | rfl | rfl | rfl | rfl : k = 2 ∨ k = 3 ∨ k = 4 ∨ k = 5 ∨ k = 6 ∨ k = 7 ∨ k = 8 ∨ k = 9 ∨ k = 10 ∨ k = 11 ∨ k = 12 ∨ k = 13 ∨ k = 14 := by omega
  all_goals rfl
