/-! READING: frames -/
def frRB (u : Bool) (σ σ' : St) : Prop := (∀ o, o ≠ tx u → o ≠ lw u → o ≠ 9 → o ≠ 10 → o ≠ 11 → gI σ' o = gI σ o) ∧ (∀ o, o ≠ tx u → o ≠ lw u → o ≠ 11 → gA σ' o = gA σ o) ∧ (∀ k, k < 4 → gR σ' k = gR σ k) ∧ gI σ' 10 1 = gI σ 10 1
def frRM (σ σ' : St) : Prop := (∀ k, (k < 4 ∨ k = 6 ∨ (11 < k ∧ k < 15) ∨ (17 < k ∧ k < 37) ∨ 42 < k) → gI σ' 0 k = gI σ 0 k) ∧ (∀ k, (k < 18 ∨ 36 < k) → gA σ' 0 k = gA σ 0 k) ∧ (∀ k, 19 ≤ k → k ≤ 34 → ∀ j, j < hw k → gA σ' 0 k j = gA σ 0 k j) ∧ gJ σ' = gJ σ
theorem frRB.rf (u : Bool) (σ : St) : frRB u σ σ := ⟨fun _ _ _ _ _ _ => rfl, fun _ _ _ _ => rfl, fun _ _ => rfl, rfl⟩
theorem frRM.rf (σ : St) : frRM σ σ := ⟨fun _ _ => rfl, fun _ _ => rfl, fun _ _ _ _ _ => rfl, rfl⟩
theorem frRB.tr {u : Bool} {a b c : St} (h : frRB u a b) (h' : frRB u b c) : frRB u a c := ⟨fun o q1 q2 q3 q4 q5 => (h'.1 o q1 q2 q3 q4 q5).trans (h.1 o q1 q2 q3 q4 q5), fun o q1 q2 q3 => (h'.2.1 o q1 q2 q3).trans (h.2.1 o q1 q2 q3), fun k hk => (h'.2.2.1 k hk).trans (h.2.2.1 k hk), h'.2.2.2.trans h.2.2.2⟩
theorem frRM.tr {a b c : St} (h : frRM a b) (h' : frRM b c) : frRM a c := ⟨fun k hk => (h'.1 k hk).trans (h.1 k hk), fun k hk => (h'.2.1 k hk).trans (h.2.1 k hk), fun k q1 q2 j hj => (h'.2.2.1 k q1 q2 j hj).trans (h.2.2.1 k q1 q2 j hj), h'.2.2.2.trans h.2.2.2⟩
theorem frT.up {σ σ' : St} (u : Bool) (h : frT σ σ') : frRB u σ σ' := ⟨fun o _ _ _ q _ => h.1 o q, fun o _ _ _ => by rw [h.2.2.1], fun k _ => by rw [h.2.2.2], h.2.1 1 (by omega)⟩
theorem frU.up {σ σ' : St} (h : frU σ σ') : frRM σ σ' := ⟨fun k hk => h.1 k (by omega), fun k _ => by rw [h.2.1], fun k _ _ j _ => by rw [h.2.1], h.2.2⟩
theorem frRB.w9 (u : Bool) (σ : St) (k : Nat) (x : Int32) : frRB u σ (sI σ 9 k x) := ⟨fun o _ _ q _ _ => funext fun k' => gIo q, fun _ _ _ _ => rfl, fun _ _ => rfl, gIo (by omega)⟩
theorem frRB.w11 (u : Bool) (σ : St) (k : Nat) (x : Int32) : frRB u σ (sI σ 11 k x) := ⟨fun o _ _ _ _ q => funext fun k' => gIo q, fun _ _ _ _ => rfl, fun _ _ => rfl, gIo (by omega)⟩
theorem frRB.wt (u : Bool) (σ : St) (k : Nat) (x : Int32) : frRB u σ (sI σ (tx u) k x) := ⟨fun o q _ _ _ _ => funext fun k' => gIo q, fun _ _ _ _ => rfl, fun _ _ => rfl, gIo (by have := tx_le u; omega)⟩
theorem frRB.wl (u : Bool) (σ : St) (k : Nat) (x : Int32) : frRB u σ (sI σ (lw u) k x) := ⟨fun o _ q _ _ _ => funext fun k' => gIo q, fun _ _ _ _ => rfl, fun _ _ => rfl, gIo (by have := lw_le u; omega)⟩
theorem frRB.at (u : Bool) (σ : St) (k : Nat) (f : Nat → Int32) : frRB u σ (sAr σ (tx u) k f) := ⟨fun o _ _ _ _ _ => rfl, fun o q _ _ => funext fun k' => gAo q, fun _ _ => rfl, rfl⟩
theorem frRB.al (u : Bool) (σ : St) (k : Nat) (f : Nat → Int32) : frRB u σ (sAr σ (lw u) k f) := ⟨fun o _ _ _ _ _ => rfl, fun o _ q _ => funext fun k' => gAo q, fun _ _ => rfl, rfl⟩
theorem frRB.a11 (u : Bool) (σ : St) (k : Nat) (f : Nat → Int32) : frRB u σ (sAr σ 11 k f) := ⟨fun o _ _ _ _ _ => rfl, fun o _ _ q => funext fun k' => gAo q, fun _ _ => rfl, rfl⟩
theorem frRM.wI (σ : St) {k : Nat} (x : Int32) (h : k = 4 ∨ k = 5 ∨ (7 ≤ k ∧ k ≤ 11) ∨ (15 ≤ k ∧ k ≤ 17) ∨ (37 ≤ k ∧ k ≤ 42)) : frRM σ (sI σ 0 k x) := ⟨fun k' hk => gIn (by omega), fun _ _ => rfl, fun _ _ _ _ _ => rfl, rfl⟩
theorem frRM.wA (σ : St) {k j : Nat} (x : Int32) (h : k = 18 ∨ k = 35 ∨ k = 36 ∨ (19 ≤ k ∧ k ≤ 34 ∧ hw k ≤ j)) : frRM σ (sAr σ 0 k (upd (gA σ 0 k) j x)) := ⟨fun _ _ => rfl, fun k' hk => gAn (by omega), fun k' q1 q2 j' hj => by
  by_cases e : k' = k
  · subst e
    rw [gAe, upd_ne (by omega)]
  · rw [gAn e], rfl⟩
/-! KINDS -/
theorem KR.nat {kB vB kM wM : Int32} (h : KR kB vB kM wM) : ∃ a b, a < 36 ∧ b < 7 ∧ kB = nI a ∧ kM = nI b ∧ ((a = 21 ∧ b = 0) ∨ (a < 19 ∧ b = 1 ∧ wM = nI (swp a)) ∨ (a = 19 ∧ b = 2 ∧ vB = wM) ∨ (a = 20 ∧ b = 3 ∧ ∃ v w, v ≤ 1000000 ∧ w ≤ 1000000 ∧ vB = nI v ∧ wM = nI w ∧ (v = w ∨ (99999 < v ∧ 99999 < w))) ∨ (a = 22 ∧ b = 6) ∨ (b = 4 ∧ ∃ s, s < 64 ∧ wM = nI s ∧ ((a = 22 ∧ s = 37) ∨ (a = 23 ∧ s = 59) ∨ (a = 24 ∧ s = 40) ∨ (a = 25 ∧ s = 41) ∨ (a = 32 ∧ s = 43) ∨ (a = 33 ∧ s = 45) ∨ (a = 34 ∧ s = 42) ∨ (a = 35 ∧ s = 47))) ∨ (26 ≤ a ∧ a ≤ 31 ∧ b = 5 ∧ wM = nI (a - 26))) := by
  rcases h with ⟨h1, h2⟩ | ⟨j, h0, h1, h2, h3⟩ | ⟨h1, h2, h3⟩ | ⟨h1, h2, h3⟩ | ⟨h1, h2⟩ | ⟨h2, h1⟩ | ⟨j, h0, h1, h2, h3⟩
  · exact ⟨21, 0, by omega, by omega, h1, h2, Or.inl ⟨rfl, rfl⟩⟩
  · have := swp_lt j h0
    exact ⟨swp j, 1, by omega, by omega, h1, h2, Or.inr (Or.inl ⟨this.1, rfl, by rw [this.2]; exact h3⟩)⟩
  · exact ⟨19, 2, by omega, by omega, h1, h2, Or.inr (Or.inr (Or.inl ⟨rfl, rfl, h3⟩))⟩
  · exact ⟨20, 3, by omega, by omega, h1, h2, Or.inr (Or.inr (Or.inr (Or.inl ⟨rfl, rfl, h3⟩)))⟩
  · rcases h2 with h2 | ⟨h2, h3⟩
    · exact ⟨22, 6, by omega, by omega, h1, h2, Or.inr (Or.inr (Or.inr (Or.inr (Or.inl ⟨rfl, rfl⟩))))⟩
    · exact ⟨22, 4, by omega, by omega, h1, h2, Or.inr (Or.inr (Or.inr (Or.inr (Or.inr (Or.inl ⟨rfl, 37, by omega, h3, Or.inl ⟨rfl, rfl⟩⟩)))))⟩
  · rcases h1 with ⟨h1, h3⟩ | ⟨h1, h3⟩ | ⟨h1, h3⟩ | ⟨h1, h3⟩ | ⟨h1, h3⟩ | ⟨h1, h3⟩ | ⟨h1, h3⟩
    · exact ⟨23, 4, by omega, by omega, h1, h2, Or.inr (Or.inr (Or.inr (Or.inr (Or.inr (Or.inl ⟨rfl, 59, by omega, h3, by omega⟩)))))⟩
    · exact ⟨24, 4, by omega, by omega, h1, h2, Or.inr (Or.inr (Or.inr (Or.inr (Or.inr (Or.inl ⟨rfl, 40, by omega, h3, by omega⟩)))))⟩
    · exact ⟨25, 4, by omega, by omega, h1, h2, Or.inr (Or.inr (Or.inr (Or.inr (Or.inr (Or.inl ⟨rfl, 41, by omega, h3, by omega⟩)))))⟩
    · exact ⟨32, 4, by omega, by omega, h1, h2, Or.inr (Or.inr (Or.inr (Or.inr (Or.inr (Or.inl ⟨rfl, 43, by omega, h3, by omega⟩)))))⟩
    · exact ⟨33, 4, by omega, by omega, h1, h2, Or.inr (Or.inr (Or.inr (Or.inr (Or.inr (Or.inl ⟨rfl, 45, by omega, h3, by omega⟩)))))⟩
    · exact ⟨34, 4, by omega, by omega, h1, h2, Or.inr (Or.inr (Or.inr (Or.inr (Or.inr (Or.inl ⟨rfl, 42, by omega, h3, by omega⟩)))))⟩
    · exact ⟨35, 4, by omega, by omega, h1, h2, Or.inr (Or.inr (Or.inr (Or.inr (Or.inr (Or.inl ⟨rfl, 47, by omega, h3, by omega⟩)))))⟩
  · exact ⟨26 + j, 5, by omega, by omega, h1, h2, Or.inr (Or.inr (Or.inr (Or.inr (Or.inr (Or.inr ⟨by omega, by omega, rfl, by rw [show 26 + j - 26 = j by omega]; exact h3⟩)))))⟩
