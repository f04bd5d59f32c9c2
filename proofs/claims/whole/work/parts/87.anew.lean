theorem anew {u : Bool} {n np : Nat} {σB σM : St} (hR0 : gR σB 0 = u) (hR1 : gR σB 1 = !u) (T : TX u n np σB (hf σM)) (P : TPR σB σM) (F : FLT σB σM) (W : gA σM 0 3 = wordsU) : ∃ σB' σM', fX9_startAnew σB = some σB' ∧ fX10_keepText σM = some σM' ∧ REL0 u n np σB' σM' ∧ gI σB' (tx u) = gI σB (tx u) ∧ gI σB' 0 11 = 0 ∧ gI σB' 12 1 = 0 ∧ gI σB' 13 4 = 0 ∧ gI σB' 13 5 = -1 := by
  have t1 := tx_le u
  have t2 := lw_le u
  have h29 : ∀ w, w < 3 → gA σM 0 29 (3 + w) = 0 ∨ gA σM 0 29 (3 + w) = 1 := by
    intro w hw'
    obtain ⟨f, v, a1, a2, a3, a4, a5, a6⟩ := T.law w hw'
    have a5' : gA σM 0 29 (3 + w) = (if f < v then 1 else 0) := a5
    rw [a5']
    by_cases c : f < v
    · rw [if_pos c]; exact Or.inr rfl
    · rw [if_neg c]; exact Or.inl rfl
  obtain ⟨σ3, k1, k2, k3, k4, k5, k6, k7, k8⟩ := kept_eq σM h29
  have T3 : TX u n np σB σ3 := by
    refine T.pt rfl rfl rfl rfl (fun k q1 q2 => ?_) (fun k q1 q2 j hj => ?_)
    · obtain rfl | rfl | rfl : k = 12 ∨ k = 13 ∨ k = 14 := by omega
      · exact k2
      · exact k3
      · exact k4
    · exact k6 k q1 q2 j hj
  obtain ⟨σB1, σM1, b1, b2, b3, b4, b5, b6, b7, b8, b9, b10, b11⟩ := first_sim T3 (o := 5) (b := 0) (by omega) (by omega)
  have b2' : fX10_atFirst σ3 0 = some σM1 := b2
  obtain ⟨σ5, p1, p2, p3, p4, p5⟩ := plainTried_eq (sJ σM1 0 60 (Int32.toInt64 (gA σM1 0 19 2)))
  rw [k1]
  unfold fX10_begin fX9_startAnew fX8_forget fX5_forget
  rw [b2', hR0, b1]
  have c2 : Int32.toNatClampNeg (2 : Int32) = 2 := cl_lit 2 2 rfl (by omega)
  simp only [bVs, lt_eq, c2, p1]
  obtain ⟨P1, P2, P3, P4, P5⟩ := b9
  have c19 : gA σM1 0 19 2 = gI σB (tx u) 14 := by
    rw [P2 19 (by omega)]
    exact (T3.on 2 (by omega)).symm
  obtain ⟨v, v1, v2⟩ := T3.rg.2.2.2.2.2.2.2.2.2
  have v3 : gI σB (tx u) 14 = nI v := (T3.on 2 (by omega)).trans v2
  have jj : gJ (sI (sI (sI (sI σ5 0 67 0) 0 68 (-1)) 0 71 0) 0 73 0) 0 60 = lN v := by
    show gJ σ5 0 60 = _
    rw [p5, gJ_sJ, if_pos ⟨rfl, rfl⟩, c19, v3]
    exact nI_l (by omega)
  have mA : gA (sI (sI (sI (sI σ5 0 67 0) 0 68 (-1)) 0 71 0) 0 73 0) = gA σM1 := by
    simp only [gAI]
    rw [p4]
    rfl
  have mI : ∀ k, (k < 61 ∨ 65 < k) → k ≠ 67 → k ≠ 68 → k ≠ 71 → k ≠ 73 → gI (sI (sI (sI (sI σ5 0 67 0) 0 68 (-1)) 0 71 0) 0 73 0) 0 k = gI σ3 0 k := by
    intro k q q1 q2 q3 q4
    rw [gIn q4, gIn q3, gIn q2, gIn q1, p3 k q]
    show gI σM1 0 k = _
    rw [b10]
  have m67 : gI (sI (sI (sI (sI σ5 0 67 0) 0 68 (-1)) 0 71 0) 0 73 0) 0 67 = 0 := by simp (disch := omega) only [gIe, gIn]
  have m68 : gI (sI (sI (sI (sI σ5 0 67 0) 0 68 (-1)) 0 71 0) 0 73 0) 0 68 = -1 := by simp (disch := omega) only [gIe, gIn]
  have m71 : gI (sI (sI (sI (sI σ5 0 67 0) 0 68 (-1)) 0 71 0) 0 73 0) 0 71 = 0 := by simp (disch := omega) only [gIe, gIn]
  have m73 : gI (sI (sI (sI (sI σ5 0 67 0) 0 68 (-1)) 0 71 0) 0 73 0) 0 73 = 0 := by simp (disch := omega) only [gIe, gIn]
  generalize sI (sI (sI (sI σ5 0 67 0) 0 68 (-1)) 0 71 0) 0 73 0 = s9 at *
  have g1 : ∀ o, o ≠ 0 → o ≠ 5 → o ≠ 12 → o ≠ 13 → gI (sI (sI (sI (sI σB1 0 11 0) 12 1 0) 13 4 0) 13 5 (-1)) o = gI σB o := by
    intro o o1 o2 o3 o4
    funext k
    rw [gIo o4, gIo o4, gIo o3, gIo o1, b6 o o2]
  have g2 : ∀ k, k ≠ 11 → gI (sI (sI (sI (sI σB1 0 11 0) 12 1 0) 13 4 0) 13 5 (-1)) 0 k = gI σB 0 k := by
    intro k hk
    rw [gIo (by omega), gIo (by omega), gIo (by omega), gIn hk, b6 0 (by omega)]
  have g3 : gI (sI (sI (sI (sI σB1 0 11 0) 12 1 0) 13 4 0) 13 5 (-1)) 0 11 = 0 := by simp (disch := omega) only [gIe, gIn, gIo]
  have g4 : gI (sI (sI (sI (sI σB1 0 11 0) 12 1 0) 13 4 0) 13 5 (-1)) 12 1 = 0 := by simp (disch := omega) only [gIe, gIn, gIo]
  have g5 : gI (sI (sI (sI (sI σB1 0 11 0) 12 1 0) 13 4 0) 13 5 (-1)) 13 4 = 0 := by simp (disch := omega) only [gIe, gIn, gIo]
  have g6 : gI (sI (sI (sI (sI σB1 0 11 0) 12 1 0) 13 4 0) 13 5 (-1)) 13 5 = -1 := by simp (disch := omega) only [gIe, gIn, gIo]
  have g7 : gI (sI (sI (sI (sI σB1 0 11 0) 12 1 0) 13 4 0) 13 5 (-1)) 5 = gI σB1 5 := by
    funext k
    simp (disch := omega) only [gIo]
  have g8 : gA (sI (sI (sI (sI σB1 0 11 0) 12 1 0) 13 4 0) 13 5 (-1)) = gA σB1 := by simp only [gAI]
  have g9 : gR (sI (sI (sI (sI σB1 0 11 0) 12 1 0) 13 4 0) 13 5 (-1)) = gR σB := b8
  generalize sI (sI (sI (sI σB1 0 11 0) 12 1 0) 13 4 0) 13 5 (-1) = s8 at *
  have gAo' : ∀ o, o ≠ 5 → gA s8 o = gA σB o := fun o ho => by rw [g8, b7 o ho]
  have S : SR n 9999 9000 s8 5 s9 0 := (b3.mono (by omega) (by omega)).cg ⟨fun k _ => by rw [g8], fun k _ _ => by rw [g7]⟩ ⟨fun k j _ _ _ _ _ => by rw [mA], fun k _ _ => by rw [mA]⟩
  refine ⟨s8, s9, rfl, rfl, ⟨by rw [g9]; exact hR0, by rw [g9]; exact hR1, ?_, S, b4.cg (by rw [g8]) (by rw [g7]) (fun p hp => by rw [mA]; exact ⟨rfl, rfl⟩), ⟨v, by omega, ?_, jj⟩, ?_, ⟨?_, ?_⟩, ⟨by rw [g3, m73], Or.inl g3⟩, ⟨0, by omega, g4, m71, fun d hd => ?_⟩, ⟨0, by omega, g5, m67, by rw [g6, m68], Or.inl g6, fun i hi => by omega⟩, ?_⟩, g1 _ (by omega) (by omega) (by omega) (by omega), g3, g4, g5, g6⟩
  · exact T3.cg (g1 _ (by omega) (by omega) (by omega) (by omega)) (by rw [g1 _ (by omega) (by omega) (by omega) (by omega)]) (gAo' _ (by omega)) (gAo' _ (by omega)) (fun k q1 q2 => mI k (by omega) (by omega) (by omega) (by omega) (by omega)) (fun k q1 q2 => by rw [mA]; exact P2 k (by omega))
  · rw [g7, b5]; exact v3
  · obtain ⟨L, a1, a2, a3, a4⟩ := P
    refine ⟨L, a1, by rw [g2 1 (by omega)]; exact a2, by rw [mI 1 (by omega) (by omega) (by omega) (by omega) (by omega), k5 1 (by omega)]; exact a3, fun i hi => ?_⟩
    rw [mA, P2 0 (by omega), k7 0 (by omega), gAo' 0 (by omega)]
    exact a4 i hi
  · rw [g2 5 (by omega), mI 4 (by omega) (by omega) (by omega) (by omega) (by omega), k5 4 (by omega)]; exact F.1
  · rw [g2 6 (by omega), mI 5 (by omega) (by omega) (by omega) (by omega) (by omega), k5 5 (by omega)]; exact F.2
  · obtain rfl : d = 0 := by omega
    exact ⟨S, fun h => by omega⟩
  · rw [mA, P2 3 (by omega), k7 3 (by omega)]; exact W
/-- nothing told yet, reference -/
theorem plain_eq (σ : St) : ∃ σ', fX10_plain σ = some σ' ∧ gI σ' 0 15 = 0 ∧ gI σ' 0 16 = 0 ∧ gI σ' 0 17 = 0 ∧ gI σ' 0 40 = 0 ∧ (∀ k, k ≠ 15 → k ≠ 16 → k ≠ 17 → k ≠ 40 → gI σ' 0 k = gI σ 0 k) ∧ (∀ j, j < 3 → gA σ' 0 18 j = 0 ∧ gA σ' 0 29 (3 + j) = 0 ∧ gA σ' 0 29 j = gA σ 0 29 j ∧ gA σ' 0 19 j = gA σ 0 19 j) ∧ gA σ' 0 19 3 = 3 ∧ gA σ' 0 19 4 = 0 ∧ gA σ' 0 19 5 = 0 ∧ (∀ k, k ≠ 18 → k ≠ 19 → k ≠ 29 → gA σ' 0 k = gA σ 0 k) ∧ gJ σ' = gJ σ := by
  unfold fX10_plain
  simp only [lt_eq]
  have E1 : gI (sI (sI (sI (sI σ 0 15 0) 0 16 0) 0 17 0) 0 40 0) 0 15 = 0 := by simp (disch := omega) only [gIe, gIn]
  have E2 : gI (sI (sI (sI (sI σ 0 15 0) 0 16 0) 0 17 0) 0 40 0) 0 16 = 0 := by simp (disch := omega) only [gIe, gIn]
  have E3 : gI (sI (sI (sI (sI σ 0 15 0) 0 16 0) 0 17 0) 0 40 0) 0 17 = 0 := by simp (disch := omega) only [gIe, gIn]
  have E4 : gI (sI (sI (sI (sI σ 0 15 0) 0 16 0) 0 17 0) 0 40 0) 0 40 = 0 := by simp (disch := omega) only [gIe, gIn]
  have E5 : ∀ k, k ≠ 15 → k ≠ 16 → k ≠ 17 → k ≠ 40 → gI (sI (sI (sI (sI σ 0 15 0) 0 16 0) 0 17 0) 0 40 0) 0 k = gI σ 0 k := fun k q1 q2 q3 q4 => by rw [gIn q4, gIn q3, gIn q2, gIn q1]
  have E6 : gA (sI (sI (sI (sI σ 0 15 0) 0 16 0) 0 17 0) 0 40 0) = gA σ := by simp only [gAI]
  have E7 : gJ (sI (sI (sI (sI σ 0 15 0) 0 16 0) 0 17 0) 0 40 0) = gJ σ := rfl
  generalize sI (sI (sI (sI σ 0 15 0) 0 16 0) 0 17 0) 0 40 0 = s0 at *
  generalize hFU : FU = Z
  refine lpx2_wp (fun r => ∃ σ', r = some σ' ∧ gI σ' 0 15 = 0 ∧ gI σ' 0 16 = 0 ∧ gI σ' 0 17 = 0 ∧ gI σ' 0 40 = 0 ∧ (∀ k, k ≠ 15 → k ≠ 16 → k ≠ 17 → k ≠ 40 → gI σ' 0 k = gI σ 0 k) ∧ (∀ j, j < 3 → gA σ' 0 18 j = 0 ∧ gA σ' 0 29 (3 + j) = 0 ∧ gA σ' 0 29 j = gA σ 0 29 j ∧ gA σ' 0 19 j = gA σ 0 19 j) ∧ gA σ' 0 19 3 = 3 ∧ gA σ' 0 19 4 = 0 ∧ gA σ' 0 19 5 = 0 ∧ (∀ k, k ≠ 18 → k ≠ 19 → k ≠ 29 → gA σ' 0 k = gA σ 0 k) ∧ gJ σ' = gJ σ) (fun j x s => ∃ i, i + j = 3 ∧ x = nI i ∧ gI s = gI s0 ∧ gJ s = gJ s0 ∧ (∀ k, k ≠ 18 → k ≠ 29 → gA s 0 k = gA σ 0 k) ∧ (∀ q, q < i → gA s 0 18 q = 0 ∧ gA s 0 29 (3 + q) = 0) ∧ ∀ q, q < 3 → gA s 0 29 q = gA σ 0 29 q) ?_ Z 3 0 s0 (by rw [← hFU]; exact FU_gt (by omega)) ⟨0, by omega, rfl, rfl, rfl, fun _ _ _ => by rw [E6], fun q hq => by omega, fun q _ => by rw [E6]⟩
  rintro j self x s ⟨i, hi, rfl, e1, e2, e3, e4, e5⟩ ih
  by_cases c : 3 ≤ i
  · rw [if_pos (show (3 : Int32) ≤ nI i from (leN (a := 3) (b := i) (by omega) (by omega)).mpr c)]
    have : i = 3 := by omega
    subst this
    have c3 : Int32.toNatClampNeg (3 : Int32) = 3 := cl_lit 3 3 rfl (by omega)
    have c4 : Int32.toNatClampNeg (4 : Int32) = 4 := cl_lit 4 4 rfl (by omega)
    have c5 : Int32.toNatClampNeg (5 : Int32) = 5 := cl_lit 5 5 rfl (by omega)
    rw [c3, c4, c5]
    have I0 : gI (sA (sA (sA s 0 19 3 3) 0 19 4 0) 0 19 5 0) = gI s0 := by simp only [sA, gIA]; exact e1
    refine ⟨_, rfl, by rw [I0]; exact E1, by rw [I0]; exact E2, by rw [I0]; exact E3, by rw [I0]; exact E4, fun k q1 q2 q3 q4 => by rw [I0]; exact E5 k q1 q2 q3 q4, fun q hq => ⟨?_, ?_, ?_, ?_⟩, ?_, ?_, ?_, fun k q1 q2 q3 => ?_, ?_⟩
    · simp (disch := omega) only [sA, gAn]
      exact (e4 q hq).1
    · simp (disch := omega) only [sA, gAn]
      exact (e4 q hq).2
    · simp (disch := omega) only [sA, gAn]
      exact e5 q hq
    · simp (disch := omega) only [sA, gAe, upd_ne]
      rw [e3 19 (by omega) (by omega)]
    · simp (disch := omega) only [sA, gAe, upd_ne, upd_eq]
    · simp (disch := omega) only [sA, gAe, upd_ne, upd_eq]
    · simp (disch := omega) only [sA, gAe, upd_ne, upd_eq]
    · simp (disch := assumption) only [sA, gAn]
      exact e3 k q1 q3
    · simp only [sA, gJA]
      rw [e2, E7]
  · rw [if_neg (show ¬ (3 : Int32) ≤ nI i from fun z => c ((leN (a := 3) (b := i) (by omega) (by omega)).mp z))]
    simp only [nar0, show (3 : Int32) + nI i = nI (3 + i) from nI_add 3 i, gdN (show 3 + i < 6 by omega) (show 6 ≤ 1000000 by omega), gdN (show i < 3 by omega) (show 3 ≤ 1000000 by omega), clN (show 3 + i < 1000000 by omega), clN (show i < 1000000 by omega)]
    refine ih (j - 1) _ _ (by omega) ⟨i + 1, by omega, nI_1 i, e1, e2, fun k q1 q2 => ?_, fun q hq => ?_, fun q hq => ?_⟩
    · simp only [sA]
      rw [gAn q2, gAn q1]
      exact e3 k q1 q2
    · by_cases d : q = i
      · subst d
        refine ⟨?_, ?_⟩
        · simp (disch := omega) only [sA, gAe, gAn, upd_eq]
        · simp (disch := omega) only [sA, gAe, gAn, upd_eq]
      · have h := e4 q (by omega)
        simp (disch := omega) only [sA, gAe, gAn, upd_ne]
        exact h
    · simp (disch := omega) only [sA, gAe, gAn, upd_ne]
      exact e5 q hq
