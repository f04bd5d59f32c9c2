/-! THE SIGNS OF A LAW: what they work out, none for an ERROR -/
theorem i64lt (a b : Int64) : a < b ↔ a.toInt < b.toInt := Int64.lt_iff_toInt_lt
theorem i64le (a b : Int64) : a ≤ b ↔ a.toInt ≤ b.toInt := Int64.le_iff_toInt_le
theorem i64eq (a b : Int64) : a = b ↔ a.toInt = b.toInt := Int64.toInt_inj.symm
theorem lc_cases (x y : Int64) : (x < y ∧ lg_cmp x y = -1) ∨ (x = y ∧ lg_cmp x y = 0) ∨ (y < x ∧ lg_cmp x y = 1) := by
  unfold lg_cmp
  by_cases h1 : x > y
  · exact Or.inr (Or.inr ⟨h1, by rw [if_pos h1]⟩)
  · by_cases h2 : x = y
    · exact Or.inr (Or.inl ⟨h2, by rw [if_neg h1, if_pos h2]⟩)
    · refine Or.inl ⟨?_, by rw [if_neg h1, if_neg h2]⟩
      rw [gt_iff_lt, i64lt] at h1
      rw [i64eq] at h2
      rw [i64lt]
      omega
theorem lc_eq (x y : Int64) : lg_cmp x y = 0 ↔ x = y := by
  rcases lc_cases x y with ⟨h, e⟩ | ⟨h, e⟩ | ⟨h, e⟩ <;> rw [e]
  · rw [i64lt] at h; rw [i64eq]; constructor
    · intro h; exact absurd h (by decide)
    · omega
  · simp [h]
  · rw [i64lt] at h; rw [i64eq]; constructor
    · intro h; exact absurd h (by decide)
    · omega
theorem lc_lt (x y : Int64) : lg_cmp x y < 0 ↔ x < y := by
  rcases lc_cases x y with ⟨h, e⟩ | ⟨h, e⟩ | ⟨h, e⟩ <;> rw [e]
  · exact ⟨fun _ => h, fun _ => by decide⟩
  · subst h; rw [i64lt]; exact ⟨fun h => absurd h (by decide), fun h => by omega⟩
  · rw [i64lt] at h ⊢; exact ⟨fun h => absurd h (by decide), fun h => by omega⟩
theorem lc_gt (x y : Int64) : 0 < lg_cmp x y ↔ y < x := by
  rcases lc_cases x y with ⟨h, e⟩ | ⟨h, e⟩ | ⟨h, e⟩ <;> rw [e]
  · rw [i64lt] at h ⊢; exact ⟨fun h => absurd h (by decide), fun h => by omega⟩
  · subst h; rw [i64lt]; exact ⟨fun h => absurd h (by decide), fun h => by omega⟩
  · exact ⟨fun _ => h, fun _ => by decide⟩
theorem lc_ge (x y : Int64) : 0 ≤ lg_cmp x y ↔ y ≤ x := by
  rw [← Int32.not_lt, lc_lt, i64lt, i64le]; omega
theorem lc_le (x y : Int64) : lg_cmp x y ≤ 0 ↔ x ≤ y := by
  rw [← Int32.not_lt, lc_gt, i64lt, i64le]; omega
def LIM : Int64 := 1000000000000
def inL (v : Int64) : Prop := -1000000000000 ≤ v.toInt ∧ v.toInt ≤ 1000000000000
def opV (c : Nat) (a b : Int64) : Option Int64 :=
  if c = 2 then some (if a = 0 then 1 else 0)
  else if c = 3 then some (if a = 0 then 0 else if b = 0 then 0 else 1)
  else if c = 4 then some (if a = 0 then (if b = 0 then 0 else 1) else 1)
  else if c = 5 then some (if a < b then 1 else 0)
  else if c = 6 then some (if a ≤ b then 1 else 0)
  else if c = 7 then some (if a = b then 1 else 0)
  else if c = 8 then some (if a = b then 0 else 1)
  else if c = 9 then some (if b ≤ a then 1 else 0)
  else if c = 10 then some (if b < a then 1 else 0)
  else if c = 11 then (if -1000000000000 ≤ (a + b).toInt ∧ (a + b).toInt ≤ 1000000000000 then some (a + b) else none)
  else if c = 12 then (if -1000000000000 ≤ (a - b).toInt ∧ (a - b).toInt ≤ 1000000000000 then some (a - b) else none)
  else if c = 13 then (if a.toInt * b.toInt ≤ 1000000000000 ∧ -1000000000000 ≤ a.toInt * b.toInt then some (a * b) else none)
  else (if b = 0 then none else some (a / b))
theorem inL_01 {c : Prop} [Decidable c] : inL (if c then 1 else 0) := by
  split <;> exact ⟨by decide, by decide⟩
theorem lAbs_int {x : Int64} (h : inL x) : (lAbs x).toInt = x.toInt.natAbs := by
  unfold lAbs inL at *
  by_cases h1 : 0 < x
  · rw [if_pos h1]
    rw [i64lt] at h1
    have : (0 : Int64).toInt = 0 := rfl
    omega
  · rw [if_neg h1]
    rw [i64lt] at h1
    have h0 : (0 : Int64).toInt = 0 := rfl
    rw [Int64.toInt_neg, Int.bmod_eq_of_le (by omega) (by omega)]
    omega
theorem mul_int {a b : Int64} (h : a.toInt * b.toInt ≤ 1000000000000 ∧ -1000000000000 ≤ a.toInt * b.toInt) : (a * b).toInt = a.toInt * b.toInt := by
  rw [Int64.toInt_mul]
  exact Int.bmod_eq_of_le (by omega) (by omega)
