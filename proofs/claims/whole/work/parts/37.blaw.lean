/-- what valueOf of the class leaves alone: all but its stack -/
def onlyStk (σ σ' : St) : Prop := gI σ' = gI σ ∧ gA σ' = gA σ ∧ gJ σ' = gJ σ ∧ gR σ' = gR σ ∧ ∀ o k, ¬ (o = 14 ∧ k = 0) → gL σ' o k = gL σ o k
theorem onlyStk.rf (σ : St) : onlyStk σ σ := ⟨rfl, rfl, rfl, rfl, fun _ _ _ => rfl⟩
theorem onlyStk.put {σ σ5 : St} (h : onlyStk σ σ5) (i : Nat) (v : Int64) : onlyStk σ (sL σ5 14 0 i v) := ⟨h.1, h.2.1, h.2.2.1, h.2.2.2.1, fun o k hk => by
  simp only [sL, gL_sLr]
  rw [if_neg hk]
  exact h.2.2.2.2 o k hk⟩
theorem nameOf_only {σ σ' : St} (h : onlyStk σ σ') (p0 : Int32) (o : Nat) (p2 : Int32) : fX0_nameOf σ' p0 o p2 = fX0_nameOf σ p0 o p2 := by
  unfold fX0_nameOf
  rw [h.1, h.2.1, h.2.2.2.1]
theorem isWithin_eq (σ : St) (a l u : Int32) : fX9_isWithin σ a l u = some (if l ≤ a ∧ a ≤ u then 1 else 0) := by
  unfold fX9_isWithin
  simp only [jnx1_eq]
  by_cases h1 : a < l
  · rw [if_pos h1, if_neg (fun z => Int32.not_le.mpr h1 z.1)]
    rfl
  · rw [if_neg h1]
    by_cases h2 : u < a
    · rw [if_pos h2, if_neg (fun z => Int32.not_le.mpr h2 z.2)]
      rfl
    · rw [if_neg h2, if_pos ⟨Int32.not_lt.mp h1, Int32.not_lt.mp h2⟩]
      rfl
theorem ev_none {σM : St} {f : Nat} : ∀ (m n : Nat), ev σM f n = none → ev σM f (n + m) = none
  | 0, _, h => h
  | m + 1, n, h => by
    have := ev_none m n h
    rw [show n + (m + 1) = (n + m) + 1 from rfl, ev, this]
theorem kB_name : ∀ c : Nat, 2 ≤ c → c ≤ 14 → ¬ kB c = 20 ∧ ¬ ((12 : Int32) ≤ kB c ∧ kB c ≤ 18) := by
  intro c h1 h2
  obtain rfl | rfl | rfl | rfl | rfl | rfl | rfl | rfl | rfl | rfl | rfl | rfl | rfl : c = 2 ∨ c = 3 ∨ c = 4 ∨ c = 5 ∨ c = 6 ∨ c = 7 ∨ c = 8 ∨ c = 9 ∨ c = 10 ∨ c = 11 ∨ c = 12 ∨ c = 13 ∨ c = 14 := by omega
  all_goals decide
theorem kB_not : ∀ c : Nat, 3 ≤ c → c ≤ 14 → ¬ kB c = 11 := by
  intro c h1 h2
  obtain rfl | rfl | rfl | rfl | rfl | rfl | rfl | rfl | rfl | rfl | rfl | rfl : c = 3 ∨ c = 4 ∨ c = 5 ∨ c = 6 ∨ c = 7 ∨ c = 8 ∨ c = 9 ∨ c = 10 ∨ c = 11 ∨ c = 12 ∨ c = 13 ∨ c = 14 := by omega
  all_goals decide
/-- the stack of the class holds the values of the knots s, the last one on top -/
def stkR (σ5 : St) (V : Nat → Int64) (s : List Nat) : Prop := ∀ j x, s[j]? = some x → gL σ5 14 0 (s.length - 1 - j) = V x
theorem stkR.push {σ5 : St} {V : Nat → Int64} {s r : List Nat} {i m : Nat} {v : Int64} (h : stkR σ5 V s) (hm : r = s.drop m) (hi : ∀ x ∈ s, x ≠ i) : stkR (sL σ5 14 0 r.length v) (vp_updL V i v) (i :: r) := by
  intro j x hj
  simp only [sL, gL_sLr, and_self, if_true, vp_updL, List.length_cons, Nat.add_sub_cancel]
  cases j with
  | zero =>
    simp only [List.getElem?_cons_zero, Option.some.injEq] at hj
    subst hj
    simp
  | succ j =>
    simp only [List.getElem?_cons_succ] at hj
    have hl := (List.getElem?_eq_some_iff.mp hj).1
    have hj2 : s[m + j]? = some x := by
      rw [hm, List.getElem?_drop] at hj
      exact hj
    have hx := hi x (List.mem_of_getElem? hj2)
    have hs := h (m + j) x hj2
    have hlen : r.length = s.length - m := by rw [hm, List.length_drop]
    rw [if_neg hx, if_neg (by omega), ← hs]
    congr 1
    omega
