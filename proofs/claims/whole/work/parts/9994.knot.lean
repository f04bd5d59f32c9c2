/-- the knots of a formula so far, with what is held -/
def KN (u : Bool) (f kn : Nat) (σB σM : St) (hl : List Nat) : Prop := f ≤ kn ∧ (∀ j ∈ hl, f ≤ j ∧ j < kn) ∧ hl.length ≤ kn - f ∧ ∃ hs : Nat → List Nat, hs f = [] ∧ hs kn = hl ∧ ∀ i, f ≤ i → i < kn → (∀ j ∈ hs i, f ≤ j ∧ j < i) ∧ (hs i).length ≤ i - f ∧ stepOK σB (hf σM) u i (hs i) (hs (i + 1))
theorem KN.zero (u : Bool) (f : Nat) (σB σM : St) : KN u f f σB σM [] := ⟨by omega, fun j h => by simp at h, by simp, fun _ => [], rfl, rfl, fun i h1 h2 => by omega⟩
/-- one knot more -/
theorem KN.add {u : Bool} {f kn : Nat} {σB σM σB' σM' : St} {hl hl' : List Nat} (h : KN u f kn σB σM hl) (hB : ∀ k i, k < 2 → i < kn → gA σB' (lw u) k i = gA σB (lw u) k i) (hM : ∀ k i, 32 ≤ k → k ≤ 34 → i < kn → gA σM' 0 k (64 + i) = gA σM 0 k (64 + i)) (hs : stepOK σB' (hf σM') u kn hl hl') (hm : ∀ j ∈ hl', f ≤ j ∧ j < kn + 1) (hlen : hl'.length ≤ kn + 1 - f) : KN u f (kn + 1) σB' σM' hl' := by
  obtain ⟨h1, h2, h3, g, g1, g2, g3⟩ := h
  refine ⟨by omega, hm, hlen, fun i => if i = kn + 1 then hl' else g i, ?_, ?_, fun i i1 i2 => ?_⟩
  · show (if f = kn + 1 then hl' else g f) = []
    rw [if_neg (by omega)]; exact g1
  · show (if kn + 1 = kn + 1 then hl' else g (kn + 1)) = hl'
    rw [if_pos rfl]
  · show (∀ j ∈ (if i = kn + 1 then hl' else g i), f ≤ j ∧ j < i) ∧ (if i = kn + 1 then hl' else g i).length ≤ i - f ∧ stepOK σB' (hf σM') u i (if i = kn + 1 then hl' else g i) (if i + 1 = kn + 1 then hl' else g (i + 1))
    rw [if_neg (show ¬ i = kn + 1 by omega)]
    by_cases e : i = kn
    · subst e
      rw [if_pos rfl, g2]
      exact ⟨h2, h3, hs⟩
    · rw [if_neg (show ¬ i + 1 = kn + 1 by omega)]
      obtain ⟨q1, q2, q3⟩ := g3 i i1 (by omega)
      refine ⟨q1, q2, stepOK_cg (fun k hk => hB k i hk (by omega)) (fun k k1 k2 => ?_) q3⟩
      have h64 : hw k = 64 := by unfold hw; rw [if_neg (by omega), if_neg (by omega), if_neg (by omega)]
      show gA σM' 0 k (hw k + i) = gA σM 0 k (hw k + i)
      rw [h64]
      exact hM k i k1 k2 (by omega)
