/-- one house more -/
theorem TX.house {u : Bool} {n np : Nat} {σB σM a b : St} (X : TX u n np σB (hf σM)) (W : ROW u 2 7 18 n σB σM a b) (hn : n < 6) (D : ∀ k, 2 ≤ k → k ≤ 7 → gA a (tx u) k n = gA b 0 (18 + k) (6 + n)) (r21 : ∃ v, 0 ≤ v ∧ v ≤ 999 ∧ gA b 0 21 (6 + n) = nI v) (r22 : ∃ v, 0 ≤ v ∧ v ≤ 999 ∧ gA b 0 22 (6 + n) = nI v) (r23 : ∃ v, 1 ≤ v ∧ v ≤ 99 ∧ gA b 0 23 (6 + n) = nI v) (r24 : ∃ v, 0 ≤ v ∧ v ≤ 99 ∧ gA b 0 24 (6 + n) = nI v) (r25 : ∃ v, 0 ≤ v ∧ v ≤ 9 ∧ gA b 0 25 (6 + n) = nI v) : TX u (n + 1) np (sI a (tx u) 1 (gI a (tx u) 1 + 1)) (hf (sI b 0 15 (gI b 0 15 + 1))) := by
  have t1 := tx_le u
  have t2 := lw_le u
  obtain ⟨g1, g2, g3, g4, g5, g6, g7, g8, g9, g10, g11, g12, g13, g14, g15, g16, g17, g18, g19, g20, g21⟩ := X
  obtain ⟨w1, w2, w3, w4, w5, w6, w7, w8, w9, w10, w11, w12⟩ := W
  have rg : ∀ k lo hi, 20 ≤ k → k ≤ 25 → rngN (gA (hf σM) 0 k) n lo hi → (∃ v, lo ≤ v ∧ v ≤ hi ∧ gA b 0 k (6 + n) = nI v) → rngN (gA (hf (sI b 0 15 (gI b 0 15 + 1))) 0 k) (n + 1) lo hi := by
    intro k lo hi k1 k2 r e j hj
    have h6 : hw k = 6 := by unfold hw; rw [if_neg (by omega), if_pos (by omega)]
    show ∃ v, lo ≤ v ∧ v ≤ hi ∧ gA b 0 k (hw k + j) = nI v
    rw [h6]
    by_cases q : j = n
    · rw [q]; exact e
    · rw [w11 k (6 + j) (by omega)]
      have := r j (by omega)
      rw [show gA (hf σM) 0 k j = gA σM 0 k (hw k + j) from rfl, h6] at this
      exact this
  have keep : ∀ k, (k < 20 ∨ 25 < k) → gA (hf (sI b 0 15 (gI b 0 15 + 1))) 0 k = gA (hf σM) 0 k := by
    intro k hk
    funext j
    show gA b 0 k (hw k + j) = gA σM 0 k (hw k + j)
    rw [w12 k (by omega)]
  have i15 : gI (sI b 0 15 (gI b 0 15 + 1)) 0 15 = nI (n + 1) := by
    rw [gIe, w10 15 (by omega)]
    have : gI σM 0 15 = nI n := g4
    rw [this, nI_1]
  refine ⟨by omega, g2, ?_, i15, ?_, ?_, ?_, fun k k1 k2 j hj => ?_, fun k k1 k2 j hj => ?_, fun k hk => ?_, fun w hw' => ?_, rg 21 _ _ (by omega) (by omega) g12 r21, rg 22 _ _ (by omega) (by omega) g13 r22, rg 23 _ _ (by omega) (by omega) g14 r23, rg 24 _ _ (by omega) (by omega) g15 r24, rg 25 _ _ (by omega) (by omega) g16 r25, by rw [keep 27 (by omega)]; exact g17, by rw [keep 28 (by omega)]; exact g18, by rw [keep 19 (by omega)]; exact g19, by rw [keep 19 (by omega)]; exact g20, by rw [keep 19 (by omega)]; exact g21⟩
  · rw [gIe, w3, g3, nI_1]
  · rw [gIn (by omega), w3]; exact g5
  · show gI (sI b 0 15 (gI b 0 15 + 1)) 0 16 = nI np
    rw [gIn (by omega), w10 16 (by omega)]; exact g6
  · show gI (sI a (tx u) 1 (gI a (tx u) 1 + 1)) (lw u) 4 = gI (sI b 0 15 (gI b 0 15 + 1)) 0 17
    rw [gIo (by omega), gIn (by omega), w4, w10 17 (by omega)]; exact g7
  · rw [gAI]
    have h6 : hw (18 + k) = 6 := by unfold hw; rw [if_neg (by omega), if_pos (by omega)]
    show gA a (tx u) k j = gA b 0 (18 + k) (hw (18 + k) + j)
    rw [h6]
    by_cases q : j = n
    · rw [q]; exact D k k1 k2
    · rw [w8 k j q, w11 (18 + k) (6 + j) (by omega)]
      have := g8 k k1 k2 j (by omega)
      rw [show gA (hf σM) 0 (18 + k) j = gA σM 0 (18 + k) (hw (18 + k) + j) from rfl, h6] at this
      exact this
  · rw [gAI, w9 k (by omega), keep (17 + k) (by omega)]; exact g9 k k1 k2 j hj
  · rw [gIn (by omega), w3, keep 19 (by omega)]; exact g10 k hk
  · exact lawR_cg (fun k i _ _ => by rw [gAI, w7]) (fun k _ _ => by rw [gAI, w7]) (fun k k1 k2 => by rw [keep k (by omega)]) (fun k i k1 k2 _ => by rw [keep k (by omega)]) (g11 w hw')
