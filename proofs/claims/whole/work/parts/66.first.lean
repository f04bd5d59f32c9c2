theorem ones : ∀ n, n < 7 → ((1 : Int32) <<< (nI n &&& 31)) - 1 = nI (2 ^ n - 1) := by decide +kernel
theorem ones_bit : ∀ n, n < 7 → ∀ j, j < n → (2 ^ n - 1).testBit j = true := by decide +kernel
set_option maxHeartbeats 4000000 in
/-- a sale begins by a text -/
theorem begin_eq (σ : St) (o n np : Nat) (t : Bool) (ho : 5 ≤ o ∧ o ≤ 8) (hn : n ≤ 6) (hp : np ≤ 6) (h1 : gI σ (tx t) 1 = nI n) (h8 : gI σ (tx t) 8 = nI np) :
    ∃ σ', fX4_begin σ o t = some σ' ∧ (∀ j, j < n → gA σ' o 0 j = gA σ (tx t) 3 j ∧ gA σ' o 1 j = gA σ (tx t) 6 j ∧ gA σ' o 2 j = gA σ (tx t) 7 j ∧ gA σ' o 3 j = 0 ∧ gA σ' o 4 j = -1) ∧ (∀ j, j < np → gA σ' o 5 j = gA σ (tx t) 11 j) ∧ gI σ' o 6 = nI (2 ^ n - 1) ∧ gI σ' o 7 = nI (2 ^ np - 1) ∧ gI σ' o 8 = 0 ∧ gI σ' o 9 = gI σ (tx t) 13 ∧ gI σ' o 10 = -1 ∧ gI σ' o 11 = 0 ∧ gI σ' o 12 = 0 ∧ gI σ' o 13 = gI σ (tx t) 14 ∧ gI σ' o 14 = 0 ∧ (∀ o', o' ≠ o → gI σ' o' = gI σ o') ∧ (∀ o', o' ≠ o → gA σ' o' = gA σ o') ∧ gR σ' = gR σ ∧ gJ σ' = gJ σ := by
  have a1 := tx_le t
  have hto : tx t ≠ o := by omega
  generalize hT : tx t = T at *
  unfold fX4_begin
  rw [hT]
  generalize hFU : FU = Z
  refine lpx2_wp (fun q => ∃ σ', q = some σ' ∧ (∀ j, j < n → gA σ' o 0 j = gA σ T 3 j ∧ gA σ' o 1 j = gA σ T 6 j ∧ gA σ' o 2 j = gA σ T 7 j ∧ gA σ' o 3 j = 0 ∧ gA σ' o 4 j = -1) ∧ (∀ j, j < np → gA σ' o 5 j = gA σ T 11 j) ∧ gI σ' o 6 = nI (2 ^ n - 1) ∧ gI σ' o 7 = nI (2 ^ np - 1) ∧ gI σ' o 8 = 0 ∧ gI σ' o 9 = gI σ T 13 ∧ gI σ' o 10 = -1 ∧ gI σ' o 11 = 0 ∧ gI σ' o 12 = 0 ∧ gI σ' o 13 = gI σ T 14 ∧ gI σ' o 14 = 0 ∧ (∀ o', o' ≠ o → gI σ' o' = gI σ o') ∧ (∀ o', o' ≠ o → gA σ' o' = gA σ o') ∧ gR σ' = gR σ ∧ gJ σ' = gJ σ) (fun j x s => ∃ i, i + j = n ∧ x = nI i ∧ gI s = gI σ ∧ (∀ o', o' ≠ o → gA s o' = gA σ o') ∧ gR s = gR σ ∧ gJ s = gJ σ ∧ (∀ j, j < i → gA s o 0 j = gA σ T 3 j ∧ gA s o 1 j = gA σ T 6 j ∧ gA s o 2 j = gA σ T 7 j ∧ gA s o 3 j = 0 ∧ gA s o 4 j = -1)) ?_ Z n 0 σ (by rw [← hFU]; exact FU_gt (by omega)) ⟨0, by omega, rfl, rfl, fun _ _ => rfl, rfl, rfl, fun j hj => by omega⟩
  rintro j self x s ⟨i, hi, rfl, e1, e2, e3, e4, e5⟩ ih
  rw [e1, h1]
  by_cases c : n ≤ i
  · rw [if_pos ((leN (by omega) (by omega)).mpr c)]
    have hin : i = n := by omega
    subst hin
    refine lpx2_wp (fun q => ∃ σ', q = some σ' ∧ (∀ j, j < i → gA σ' o 0 j = gA σ T 3 j ∧ gA σ' o 1 j = gA σ T 6 j ∧ gA σ' o 2 j = gA σ T 7 j ∧ gA σ' o 3 j = 0 ∧ gA σ' o 4 j = -1) ∧ (∀ j, j < np → gA σ' o 5 j = gA σ T 11 j) ∧ gI σ' o 6 = nI (2 ^ i - 1) ∧ gI σ' o 7 = nI (2 ^ np - 1) ∧ gI σ' o 8 = 0 ∧ gI σ' o 9 = gI σ T 13 ∧ gI σ' o 10 = -1 ∧ gI σ' o 11 = 0 ∧ gI σ' o 12 = 0 ∧ gI σ' o 13 = gI σ T 14 ∧ gI σ' o 14 = 0 ∧ (∀ o', o' ≠ o → gI σ' o' = gI σ o') ∧ (∀ o', o' ≠ o → gA σ' o' = gA σ o') ∧ gR σ' = gR σ ∧ gJ σ' = gJ σ) (fun j x s => ∃ i', i' + j = np ∧ x = nI i' ∧ gI s = gI σ ∧ (∀ o', o' ≠ o → gA s o' = gA σ o') ∧ gR s = gR σ ∧ gJ s = gJ σ ∧ (∀ j, j < i → gA s o 0 j = gA σ T 3 j ∧ gA s o 1 j = gA σ T 6 j ∧ gA s o 2 j = gA σ T 7 j ∧ gA s o 3 j = 0 ∧ gA s o 4 j = -1) ∧ (∀ j, j < i' → gA s o 5 j = gA σ T 11 j)) ?_ Z np 0 s (by rw [← hFU]; exact FU_gt (by omega)) ⟨0, by omega, rfl, e1, e2, e3, e4, e5, fun j hj => by omega⟩
    rintro j2 self2 x2 s2 ⟨i2, hi2, rfl, g1, g2, g3, g4, g5, g6⟩ ih2
    rw [g1, h8]
    by_cases c2 : np ≤ i2
    · rw [if_pos ((leN (by omega) (by omega)).mpr c2)]
      have hin2 : i2 = np := by omega
      subst hin2
      simp (disch := first | omega | assumption) only [lt_eq, gIo, gIn, gIe, g1, h1, h8, ones i (by omega), ones i2 (by omega)]
      refine ⟨_, rfl, g5, g6, ?_, ?_, ?_, ?_, ?_, ?_, ?_, ?_, ?_, fun o' ho' => ?_, g2, g3, g4⟩
      all_goals first | (simp (disch := omega) only [gIn, gIe]) | (funext k; simp (disch := assumption) only [gIo, g1])
    · rw [if_neg (fun z => c2 ((leN (by omega) (by omega)).mp z)), gdN (show i2 < 6 by omega) (by omega), gdN (show i2 < 6 by omega) (by omega), clN (by omega)]
      simp only [lt_eq]
      refine ih2 (j2 - 1) _ _ (by omega) ⟨i2 + 1, by omega, nI_1 i2, g1, fun o' ho' => ?_, g3, g4, fun j hj => ?_, fun j hj => ?_⟩
      · funext k
        rw [gAo ho', g2 o' ho']
      · simp (disch := omega) only [sA, gAn]
        exact g5 j hj
      · rw [gAe, upd_at]
        split
        · rename_i e
          rw [e, g2 T hto]
        · exact g6 j (by omega)
  · rw [if_neg (fun z => c ((leN (by omega) (by omega)).mp z))]
    simp only [lt_eq, gdN (show i < 6 by omega) (show 6 ≤ 1000000 by omega), clN (show i < 1000000 by omega)]
    refine ih (j - 1) _ _ (by omega) ⟨i + 1, by omega, nI_1 i, e1, fun o' ho' => ?_, e3, e4, fun q hq => ?_⟩
    · funext k
      simp (disch := assumption) only [sA, gAo, e2]
    · by_cases e : q = i
      · subst e
        refine ⟨?_, ?_, ?_, ?_, ?_⟩
        all_goals simp (disch := first | omega | assumption) only [sA, gAn, gAe, gAo, upd_at, if_true, e2]
      · have := e5 q (by omega)
        refine ⟨?_, ?_, ?_, ?_, ?_⟩
        all_goals simp (disch := first | omega | assumption) only [sA, gAn, gAe, gAo, upd_at, if_neg e]
        all_goals first | exact this.1 | exact this.2.1 | exact this.2.2.1 | exact this.2.2.2.1 | exact this.2.2.2.2
set_option maxHeartbeats 4000000 in
theorem atFirst_eq (σ : St) (b : Nat) (hb : b < 2) :
    ∃ σ', fX10_atFirst σ (nI b) = some σ' ∧ (∀ j, j < 6 → gA σ' 0 46 (6 * b + j) = gA σ 0 21 j ∧ gA σ' 0 47 (6 * b + j) = gA σ 0 24 j ∧ gA σ' 0 48 (6 * b + j) = gA σ 0 25 j ∧ gA σ' 0 49 (6 * b + j) = 1 ∧ gA σ' 0 50 (6 * b + j) = 0 ∧ gA σ' 0 51 (6 * b + j) = -1 ∧ gA σ' 0 52 (6 * b + j) = gA σ 0 28 j ∧ gA σ' 0 53 (6 * b + j) = 1) ∧ gA σ' 0 54 b = gA σ 0 19 1 ∧ gA σ' 0 55 b = -1 ∧ gA σ' 0 56 b = 0 ∧ gA σ' 0 57 b = 0 ∧ gA σ' 0 58 b = 0 ∧ gA σ' 0 59 b = 0 ∧ frM b σ σ' ∧ gI σ' = gI σ ∧ gJ σ' = gJ σ := by
  unfold fX10_atFirst
  generalize hFU : FU = Z
  refine lpx2_wp (fun q => ∃ σ', q = some σ' ∧ (∀ j, j < 6 → gA σ' 0 46 (6 * b + j) = gA σ 0 21 j ∧ gA σ' 0 47 (6 * b + j) = gA σ 0 24 j ∧ gA σ' 0 48 (6 * b + j) = gA σ 0 25 j ∧ gA σ' 0 49 (6 * b + j) = 1 ∧ gA σ' 0 50 (6 * b + j) = 0 ∧ gA σ' 0 51 (6 * b + j) = -1 ∧ gA σ' 0 52 (6 * b + j) = gA σ 0 28 j ∧ gA σ' 0 53 (6 * b + j) = 1) ∧ gA σ' 0 54 b = gA σ 0 19 1 ∧ gA σ' 0 55 b = -1 ∧ gA σ' 0 56 b = 0 ∧ gA σ' 0 57 b = 0 ∧ gA σ' 0 58 b = 0 ∧ gA σ' 0 59 b = 0 ∧ frM b σ σ' ∧ gI σ' = gI σ ∧ gJ σ' = gJ σ) (fun j x s => ∃ i, i + j = 6 ∧ x = nI i ∧ frM b σ s ∧ gI s = gI σ ∧ gJ s = gJ σ ∧ (∀ j, j < i → gA s 0 46 (6 * b + j) = gA σ 0 21 j ∧ gA s 0 47 (6 * b + j) = gA σ 0 24 j ∧ gA s 0 48 (6 * b + j) = gA σ 0 25 j ∧ gA s 0 49 (6 * b + j) = 1 ∧ gA s 0 50 (6 * b + j) = 0 ∧ gA s 0 51 (6 * b + j) = -1 ∧ gA s 0 52 (6 * b + j) = gA σ 0 28 j ∧ gA s 0 53 (6 * b + j) = 1)) ?_ Z 6 0 σ (by rw [← hFU]; exact FU_gt (by omega)) ⟨0, by omega, rfl, frM.rf _ _, rfl, rfl, fun j hj => by omega⟩
  rintro j self x s ⟨i, hi, rfl, F, e1, e2, e3⟩ ih
  by_cases c : 6 ≤ i
  · rw [if_pos (show (6 : Int32) ≤ nI i from (leN (a := 6) (b := i) (by omega) (by omega)).mpr c)]
    have : i = 6 := by omega
    subst this
    simp only [lt_eq, gdN (show b < 2 by omega) (show 2 ≤ 1000000 by omega), clN (show b < 1000000 by omega), nar0, cl1]
    refine ⟨_, rfl, fun j hj => ?_, ?_, ?_, ?_, ?_, ?_, ?_, F.tr ((((((frM.wA _ _ _ _ (Or.inr ⟨by omega, by omega, rfl⟩)).tr (frM.wA _ _ _ _ (Or.inr ⟨by omega, by omega, rfl⟩))).tr (frM.wA _ _ _ _ (Or.inr ⟨by omega, by omega, rfl⟩))).tr (frM.wA _ _ _ _ (Or.inr ⟨by omega, by omega, rfl⟩))).tr (frM.wA _ _ _ _ (Or.inr ⟨by omega, by omega, rfl⟩))).tr (frM.wA _ _ _ _ (Or.inr ⟨by omega, by omega, rfl⟩))), e1, e2⟩
    · simp (disch := omega) only [sA, gAn]
      exact e3 j hj
    · simp (disch := omega) only [sA, gAn, gAe, upd_at, if_true]
      rw [F.2.1 19 (by omega)]
    all_goals simp (disch := omega) only [sA, gAn, gAe, upd_at, if_true]
  · rw [if_neg (show ¬ (6 : Int32) ≤ nI i from fun z => c ((leN (a := 6) (b := i) (by omega) (by omega)).mp z))]
    simp only [lt_eq, six, gdN (show i < 12 by omega) (show 12 ≤ 1000000 by omega), gdN (show 6 * b + i < 12 by omega) (show 12 ≤ 1000000 by omega), clN (show i < 1000000 by omega), clN (show 6 * b + i < 1000000 by omega), nar1]
    refine ih (j - 1) _ _ (by omega) ⟨i + 1, by omega, nI_1 i, F.tr ((((((((frM.wA _ _ _ _ (Or.inl ⟨by omega, by omega, by omega, by omega⟩)).tr (frM.wA _ _ _ _ (Or.inl ⟨by omega, by omega, by omega, by omega⟩))).tr (frM.wA _ _ _ _ (Or.inl ⟨by omega, by omega, by omega, by omega⟩))).tr (frM.wA _ _ _ _ (Or.inl ⟨by omega, by omega, by omega, by omega⟩))).tr (frM.wA _ _ _ _ (Or.inl ⟨by omega, by omega, by omega, by omega⟩))).tr (frM.wA _ _ _ _ (Or.inl ⟨by omega, by omega, by omega, by omega⟩))).tr (frM.wA _ _ _ _ (Or.inl ⟨by omega, by omega, by omega, by omega⟩))).tr (frM.wA _ _ _ _ (Or.inl ⟨by omega, by omega, by omega, by omega⟩))), e1, e2, fun q hq => ?_⟩
    have f21 := F.2.1 21 (by omega)
    have f24 := F.2.1 24 (by omega)
    have f25 := F.2.1 25 (by omega)
    have f28 := F.2.1 28 (by omega)
    by_cases e : q = i
    · subst e
      refine ⟨?_, ?_, ?_, ?_, ?_, ?_, ?_, ?_⟩
      all_goals simp (disch := omega) only [sA, gAn, gAe, upd_at, if_true, f21, f24, f25, f28]
    · have h := e3 q (by omega)
      have ne : ¬ 6 * b + q = 6 * b + i := by omega
      refine ⟨?_, ?_, ?_, ?_, ?_, ?_, ?_, ?_⟩
      all_goals simp (disch := omega) only [sA, gAn, gAe, upd_at, if_neg ne]
      · exact h.1
      · exact h.2.1
      · exact h.2.2.1
      · exact h.2.2.2.1
      · exact h.2.2.2.2.1
      · exact h.2.2.2.2.2.1
      · exact h.2.2.2.2.2.2.1
      · exact h.2.2.2.2.2.2.2
/-- both sides begin by the text -/
theorem first_sim {t : Bool} {n np o b : Nat} {σB σM : St} (T : TX t n np σB σM) (ho : 5 ≤ o ∧ o ≤ 8) (hb : b < 2) : ∃ σB' σM', fX4_begin σB o t = some σB' ∧ fX10_atFirst σM (nI b) = some σM' ∧ SR n 9999 0 σB' o σM' b ∧ PR np σB' o σM' b ∧ gI σB' o 13 = gI σB (tx t) 14 ∧ (∀ o', o' ≠ o → gI σB' o' = gI σB o') ∧ (∀ o', o' ≠ o → gA σB' o' = gA σB o') ∧ gR σB' = gR σB ∧ frM b σM σM' ∧ gI σM' = gI σM ∧ gJ σM' = gJ σM := by
  have hn6 := T.n6
  have hp6 := T.p6
  have hpn := pow6 hn6
  obtain ⟨σB', b1, b2, b3, b4, b5, b6, b7, b8, b9, b10, b11, b12, b13, b14, b15, b16⟩ := begin_eq σB o n np t ho T.n6 T.p6 T.hB T.pB
  obtain ⟨σM', m1, m2, m3, m4, m5, m6, m7, m8, m9, m10, m11⟩ := atFirst_eq σM b hb
  obtain ⟨r1, r2, r3, r4, r5, r6, r7, r8, r9, r10⟩ := T.rg
  have q13 : gI σB (tx t) 13 = gA σM 0 19 1 := T.on 1 (by omega)
  refine ⟨σB', σM', b1, m1, ⟨fun k hk j hj => ?_, ⟨2 ^ n - 1, by have := Nat.two_pow_pos n; omega, b4, fun j hj => ?_⟩, fun k hk => ?_, fun j hj => ?_, fun j hj => ?_, fun j hj => ?_, ⟨0, by omega, b6⟩, ?_, Or.inl b8, Or.inl b12⟩, ⟨fun p hp => ?_, ⟨2 ^ np - 1, by have := Nat.two_pow_pos np; omega, b5, fun p hp => ?_⟩, fun p hp => ?_⟩, b11, b13, b14, b15, m9, m10, m11⟩
  · obtain ⟨c1, c2, c3, c4, c5⟩ := b2 j hj
    obtain ⟨d1, d2, d3, d4, d5, d6, -⟩ := m2 j (by omega)
    obtain rfl | rfl | rfl | rfl | rfl : k = 0 ∨ k = 1 ∨ k = 2 ∨ k = 3 ∨ k = 4 := by omega
    · rw [c1, T.hA 3 (by omega) (by omega) j hj]; exact d1.symm
    · rw [c2, T.hA 6 (by omega) (by omega) j hj]; exact d2.symm
    · rw [c3, T.hA 7 (by omega) (by omega) j hj]; exact d3.symm
    · rw [c4]; exact d5.symm
    · rw [c5]; exact d6.symm
  · rw [(m2 j (by omega)).2.2.2.1, ones_bit n (by omega) j hj]
    rfl
  · rcases hk with rfl | rfl | rfl | rfl | rfl | rfl
    · rw [b6]; exact m8.symm
    · rw [b7, q13]; exact m3.symm
    · rw [b8]; exact m4.symm
    · rw [b9]; exact m5.symm
    · rw [b10]; exact m7.symm
    · rw [b12]; exact m6.symm
  · obtain ⟨v, v1, v2, v3⟩ := r1 j hj
    exact ⟨v, v1, by omega, by rw [(b2 j hj).1, T.hA 3 (by omega) (by omega) j hj]; exact v3⟩
  · obtain ⟨v, v1, v2, v3⟩ := r4 j hj
    exact ⟨v, v1, by omega, by rw [(b2 j hj).2.1, T.hA 6 (by omega) (by omega) j hj]; exact v3⟩
  · obtain ⟨v, v1, v2, v3⟩ := r5 j hj
    exact ⟨v, v1, by omega, by rw [(b2 j hj).2.2.1, T.hA 7 (by omega) (by omega) j hj]; exact v3⟩
  · obtain ⟨v, v2, v3⟩ := r9
    exact ⟨v, by omega, by rw [b7, q13]; exact v3⟩
  · rw [b3 p hp, T.pA 11 (by omega) (by omega) p hp]
    exact (m2 p (by omega)).2.2.2.2.2.2.1.symm
  · rw [(m2 p (by omega)).2.2.2.2.2.2.2, ones_bit np (by omega) p hp]
    rfl
  · obtain ⟨v, v1, v2, v3⟩ := r7 p hp
    exact ⟨v, v1, v2, by rw [b3 p hp, T.pA 11 (by omega) (by omega) p hp]; exact v3⟩
