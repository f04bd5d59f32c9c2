/-- only entry n of rows A..B of the text being read has changed (reference: rows d + A .. d + B, entry 6 + n) -/
def ROW (u : Bool) (A B d n : Nat) (σB σM a b : St) : Prop := frRB u σB a ∧ frRM σM b ∧ gI a (tx u) = gI σB (tx u) ∧ gI a (lw u) = gI σB (lw u) ∧ gI a 9 = gI σB 9 ∧ gI a 11 = gI σB 11 ∧ gA a (lw u) = gA σB (lw u) ∧ (∀ k j, j ≠ n → gA a (tx u) k j = gA σB (tx u) k j) ∧ (∀ k, (k < A ∨ B < k) → gA a (tx u) k = gA σB (tx u) k) ∧ (∀ k, (k < 7 ∨ 11 < k) → gI b 0 k = gI σM 0 k) ∧ (∀ k j, j ≠ 6 + n → gA b 0 k j = gA σM 0 k j) ∧ (∀ k, (k < d + A ∨ d + B < k) → gA b 0 k = gA σM 0 k)
theorem ROW.rf (u : Bool) (A B d n : Nat) (σB σM : St) : ROW u A B d n σB σM σB σM := ⟨frRB.rf _ _, frRM.rf _, rfl, rfl, rfl, rfl, rfl, fun _ _ _ => rfl, fun _ _ => rfl, fun _ _ => rfl, fun _ _ _ => rfl, fun _ _ => rfl⟩
theorem ROW.tok {u : Bool} {A B d n : Nat} {σB σM a b a' b' : St} (h : ROW u A B d n σB σM a b) (hB : frT a a') (hM : frU b b') : ROW u A B d n σB σM a' b' := by
  obtain ⟨h1, h2, h3, h4, h5, h6, h7, h8, h9, h10, h11, h12⟩ := h
  have t1 := tx_le u
  have t2 := lw_le u
  exact ⟨h1.tr (hB.up u), h2.tr hM.up, (hB.1 _ (by omega)).trans h3, (hB.1 _ (by omega)).trans h4, (hB.1 _ (by omega)).trans h5, (hB.1 _ (by omega)).trans h6, by rw [hB.2.2.1]; exact h7, fun k j hj => by rw [hB.2.2.1]; exact h8 k j hj, fun k hk => by rw [hB.2.2.1]; exact h9 k hk, fun k hk => (hM.1 k (by omega)).trans (h10 k hk), fun k j hj => by rw [hM.2.1]; exact h11 k j hj, fun k hk => by rw [hM.2.1]; exact h12 k hk⟩
theorem ROW.w {u : Bool} {A B d n : Nat} {σB σM a b : St} (h : ROW u A B d n σB σM a b) (k : Nat) (x : Int32) (hk : A ≤ k ∧ k ≤ B) : ROW u A B d n σB σM (sA a (tx u) k n x) b := by
  obtain ⟨h1, h2, h3, h4, h5, h6, h7, h8, h9, h10, h11, h12⟩ := h
  have t1 := tx_le u
  have t2 := lw_le u
  refine ⟨h1.tr (frRB.at u a k _), h2, h3, h4, h5, h6, ?_, fun k' j hj => ?_, fun k' hk' => ?_, h10, h11, h12⟩
  · rw [← h7]
    funext k'
    exact gAo (by omega)
  · rw [← h8 k' j hj]
    by_cases e : k' = k
    · subst e
      simp only [sA]
      rw [gAe, upd_ne hj]
    · simp only [sA]
      rw [gAn e]
  · rw [← h9 k' hk']
    simp only [sA]
    rw [gAn (by omega)]
theorem ROW.wM {u : Bool} {A B d n : Nat} {σB σM a b : St} (h : ROW u A B d n σB σM a b) (k : Nat) (x : Int32) (hk : A ≤ k ∧ k ≤ B) (hd : 20 ≤ d + A ∧ d + B ≤ 28) : ROW u A B d n σB σM a (sA b 0 (d + k) (6 + n) x) := by
  obtain ⟨h1, h2, h3, h4, h5, h6, h7, h8, h9, h10, h11, h12⟩ := h
  have w6 : hw (d + k) ≤ 6 + n := by unfold hw; rw [if_neg (by omega), if_pos (by omega)]; omega
  refine ⟨h1, h2.tr (frRM.wA b x (by omega)), h3, h4, h5, h6, h7, h8, h9, h10, fun k' j hj => ?_, fun k' hk' => ?_⟩
  · rw [← h11 k' j hj]
    by_cases e : k' = d + k
    · subst e
      simp only [sA]
      rw [gAe, upd_ne hj]
    · simp only [sA]
      rw [gAn e]
  · rw [← h12 k' hk']
    simp only [sA]
    rw [gAn (by omega)]
theorem ROW.w11 {u : Bool} {A B d n : Nat} {σB σM a b : St} (h : ROW u A B d n σB σM a b) (x : Int32) : ROW u A B d n σB σM a (sI b 0 11 x) := by
  obtain ⟨h1, h2, h3, h4, h5, h6, h7, h8, h9, h10, h11, h12⟩ := h
  exact ⟨h1, h2.tr (frRM.wI b x (by omega)), h3, h4, h5, h6, h7, h8, h9, fun k hk => (gIn (by omega)).trans (h10 k hk), h11, h12⟩
/-- a number laid into row k on both sides -/
theorem ROW.num {c : Nat → Nat} {S p' : Nat} {u : Bool} {A B d n : Nat} {σB σM a b a' b' : St} (h : ROW u A B d n σB σM a b) (T : TC c S σB σM) (k v : Nat) (hk : A ≤ k ∧ k ≤ B) (hd : 20 ≤ d + A ∧ d + B ≤ 28) (hB : frT (sA a (tx u) k n (nI v)) a') (hM : frU (sI b 0 11 (nI v)) b') (K : TKp S p' a' b') : ROW u A B d n σB σM a' (sA b' 0 (d + k) (6 + n) (gI b' 0 11)) ∧ TC c S a' (sA b' 0 (d + k) (6 + n) (gI b' 0 11)) ∧ TKp S p' a' (sA b' 0 (d + k) (6 + n) (gI b' 0 11)) ∧ gA a' (tx u) k n = nI v ∧ gA (sA b' 0 (d + k) (6 + n) (gI b' 0 11)) 0 (d + k) (6 + n) = nI v ∧ (∀ k', k' ≠ k → gA a' (tx u) k' n = gA a (tx u) k' n ∧ gA (sA b' 0 (d + k) (6 + n) (gI b' 0 11)) 0 (d + k') (6 + n) = gA b 0 (d + k') (6 + n)) := by
  have R := ((((h.w k (nI v) hk).w11 (nI v)).tok hB hM).wM k (gI b' 0 11) hk hd)
  have g11 : gI b' 0 11 = nI v := by rw [hM.1 11 (by omega), gIe]
  refine ⟨R, T.rd R.1 R.2.1, K.cg (fun _ _ _ => rfl) (fun _ _ _ => rfl), ?_, ?_, fun k' hk' => ⟨?_, ?_⟩⟩
  · rw [hB.2.2.1]
    simp only [sA]
    rw [gAe, upd_eq]
  · simp only [sA]
    rw [gAe, upd_eq, g11]
  · rw [hB.2.2.1]
    simp only [sA]
    rw [gAn hk']
  · simp only [sA]
    rw [gAn (by omega), hM.2.1]
    rfl
