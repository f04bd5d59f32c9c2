theorem sbit : ∀ b, b < 32 → ∀ j, j < 3 → (b ||| 2 ^ (2 + j)) < 32 ∧ nI b ||| ((1 : Int32) <<< (nI (2 + j) &&& 31)) = nI (b ||| 2 ^ (2 + j)) ∧ ∀ i, i < 3 → (b ||| 2 ^ (2 + j)).testBit (2 + i) = (b.testBit (2 + i) || Nat.beq i j) := by decide +kernel
def olo (j : Nat) : Nat := if j = 0 then 1 else 0
def ohi (j : Nat) : Nat := if j = 0 then 20 else if j = 1 then 999 else 99999
/-- a setting told -/
theorem TX.once {u : Bool} {n np j v : Nat} {σB σM a b : St} (X : TX u n np σB (hf σM)) (hj : j < 3) (hv : olo j ≤ v ∧ v ≤ ohi j) (h1 : ∀ k, k ≠ 12 + j → gI a (tx u) k = gI σB (tx u) k) (h2 : gI a (tx u) (12 + j) = nI v) (h3 : gI a (lw u) 4 = gI σB (lw u) 4) (h4 : gA a (tx u) = gA σB (tx u)) (h5 : gA a (lw u) = gA σB (lw u)) (m1 : ∀ k, 15 ≤ k → k ≤ 17 → gI b 0 k = gI σM 0 k) (m2 : ∀ k, 20 ≤ k → gA b 0 k = gA σM 0 k) (m3 : ∀ i, i ≠ 3 + j → gA b 0 19 i = gA σM 0 19 i) (m4 : gA b 0 19 (3 + j) = nI v) : TX u n np a (hf b) := by
  obtain ⟨g1, g2, g3, g4, g5, g6, g7, g8, g9, g10, g11, g12, g13, g14, g15, g16, g17, g18, g19, g20, g21⟩ := X
  have keep : ∀ k, 20 ≤ k → gA (hf b) 0 k = gA (hf σM) 0 k := by
    intro k hk
    funext i
    show gA b 0 k (hw k + i) = gA σM 0 k (hw k + i)
    rw [m2 k hk]
  have e19 : ∀ i, gA (hf b) 0 19 i = gA b 0 19 (3 + i) := fun i => rfl
  have e19' : ∀ i, gA (hf σM) 0 19 i = gA σM 0 19 (3 + i) := fun i => rfl
  refine ⟨g1, g2, by rw [h1 1 (by omega)]; exact g3, (m1 15 (by omega) (by omega)).trans g4, by rw [h1 8 (by omega)]; exact g5, (m1 16 (by omega) (by omega)).trans g6, h3.trans (g7.trans (m1 17 (by omega) (by omega)).symm), fun k k1 k2 i hi => ?_, fun k k1 k2 i hi => ?_, fun k hk => ?_, fun w hw' => ?_, by rw [keep 21 (by omega)]; exact g12, by rw [keep 22 (by omega)]; exact g13, by rw [keep 23 (by omega)]; exact g14, by rw [keep 24 (by omega)]; exact g15, by rw [keep 25 (by omega)]; exact g16, by rw [keep 27 (by omega)]; exact g17, by rw [keep 28 (by omega)]; exact g18, ?_, ?_, ?_⟩
  · rw [h4, keep (18 + k) (by omega)]; exact g8 k k1 k2 i hi
  · rw [h4, keep (17 + k) (by omega)]; exact g9 k k1 k2 i hi
  · rw [e19]
    by_cases q : k = j
    · rw [q, h2, m4]
    · rw [h1 (12 + k) (by omega), m3 (3 + k) (by omega), ← e19']; exact g10 k hk
  · exact lawR_cg (fun k i _ _ => by rw [h5]) (fun k _ _ => by rw [h5]) (fun k k1 k2 => by rw [keep k (by omega)]) (fun k i k1 k2 _ => by rw [keep k (by omega)]) (g11 w hw')
  · rw [e19]
    by_cases q : j = 0
    · subst q
      exact ⟨v, hv.1, hv.2, m4⟩
    · rw [m3 (3 + 0) (by omega), ← e19']; exact g19
  · rw [e19]
    by_cases q : j = 1
    · subst q
      exact ⟨v, hv.2, m4⟩
    · rw [m3 (3 + 1) (by omega), ← e19']; exact g20
  · rw [e19]
    by_cases q : j = 2
    · subst q
      exact ⟨v, hv.2, m4⟩
    · rw [m3 (3 + 2) (by omega), ← e19']; exact g21
