theorem bVi (x : Option St) : (bV x fun σ => some σ) = x := by cases x <;> rfl
set_option maxHeartbeats 2000000 in
theorem adv_sim {c : Nat → Nat} {S : Nat} {σB σM : St} (T : TC c S σB σM) (i : Nat) (hi : i ≤ S) (hB2 : gI σB 10 2 = nI i) (hM7 : gI σM 0 7 = nI i) : SIM (fun σB' σM' => frT σB σB' ∧ frU σM σM' ∧ TK S i σB' σM') (fX7_advance σB) (fX10_token σM) := by
  have hS := T.1
  unfold fX7_advance fX10_token
  simp only [lt_eq, jnx1_eq, bVi]
  generalize hFU : FU = Z
  refine simlp1_1 _ (fun j a b => ∃ p, p + j = S ∧ i ≤ p ∧ frT σB a ∧ frU σM b ∧ gI a 10 2 = nI p ∧ gI b 0 7 = nI p) ?_ Z Z (S - i) σB σM (by rw [← hFU]; exact FU_gt (by omega)) (by rw [← hFU]; exact FU_gt (by omega)) ⟨i, by omega, by omega, frT.rf _, frU.rf _, hB2, hM7⟩
  rintro j sF sG a b ⟨p, h1, h2, h3, h4, h5, h6⟩ ih
  have T' : TC c S a b := T.cg h3 h4
  rw [T'.2.1, h5, T'.2.2.1, h6]
  have a4 : gI (sI (sI a 10 4 (nI p)) 10 5 0) 10 4 = nI p := by rw [gIn (by omega), gIe]
  have a5 : gI (sI (sI a 10 4 (nI p)) 10 5 0) 10 5 = 0 := by rw [gIe]
  have a2 : gI (sI (sI a 10 4 (nI p)) 10 5 0) 10 2 = nI p := by rw [gIn (by omega), gIn (by omega), h5]
  have a1 : frT a (sI (sI a 10 4 (nI p)) 10 5 0) := (frT.s _ _ (by omega)).tr (frT.s _ _ (by omega))
  have m7 : gI (sI b 0 10 (nI p)) 0 7 = nI p := by rw [gIn (by omega), h6]
  have m10 : gI (sI b 0 10 (nI p)) 0 10 = nI p := by rw [gIe]
  have m1 : frU b (sI b 0 10 (nI p)) := frU.s _ _ (by omega)
  have aA : gA (sI (sI a 10 4 (nI p)) 10 5 0) = gA a := a1.2.2.1
  generalize sI (sI a 10 4 (nI p)) 10 5 0 = a' at *
  generalize sI b 0 10 (nI p) = b' at *
  have T2 : TC c S a' b' := T'.cg a1 m1
  rw [T2.2.1, T2.2.2.1, a2, m7]
  by_cases d : p < S
  · have t4 := T'.2.2.2.1 p (by omega)
    have hc := t4.1
    have g7 : ∀ {β : Type} (z : Option β), gd (ixI (nI p) 700) z = z := fun z => gdN (show p < 700 by omega) (by omega)
    have nle : ¬ nI S ≤ nI p := fun z => absurd ((leN (by omega) (by omega)).mp z) (by omega)
    rw [if_neg nle, if_neg nle]
    simp only [g7, clN (show p < 1000000 by omega), t4.2.1, t4.2.2, aA]
    have q32 : (bytN (c p) = (32 : Int32)) ↔ c p = 32 := byt_eq _ hc 32 (by omega)
    have q10 : (bytN (c p) = (10 : Int32)) ↔ c p = 10 := byt_eq _ hc 10 (by omega)
    have r32 : (nI (c p) = (32 : Int32)) ↔ c p = 32 := eqN (b := 32) (by omega) (by omega)
    have r10 : (nI (c p) = (10 : Int32)) ↔ c p = 10 := eqN (b := 10) (by omega) (by omega)
    have nxt : SIM (fun σB' σM' => frT σB σB' ∧ frU σM σM' ∧ TK S i σB' σM') (sF (sI a 10 2 (nI p + 1))) (sG (sI b 0 7 (nI p + 1))) := ih (j - 1) _ _ (by omega) ⟨p + 1, by omega, by omega, h3.tr (frT.s _ _ (by omega)), h4.tr (frU.s _ _ (by omega)), by rw [gIe, nI_1], by rw [gIe, nI_1]⟩
    by_cases sp : c p = 32
    · rw [if_pos (q32.mpr sp), if_neg (show ¬ nI (c p) = 10 from fun z => by have := r10.mp z; omega), if_pos (r32.mpr sp)]
      exact nxt
    · rw [if_neg (fun z => sp (q32.mp z))]
      by_cases nl : c p = 10
      · rw [if_pos (q10.mpr nl), if_pos (r10.mpr nl)]
        exact nxt
      · rw [if_neg (fun z => nl (q10.mp z)), if_neg (fun z => nl (r10.mp z)), if_neg (fun z => sp (r32.mp z))]
        rw [if_pos (show nI p < nI S from (ltN (by omega) (by omega)).mpr d), if_neg (show ¬ nI p = nI S from fun z => absurd ((eqN (by omega) (by omega)).mp z) (by omega))]
        rw [letB a' (c p) hc, bS, letM T2 p (by omega), bS, digB a' (c p) hc, bS, digM T2 p (by omega), bS]
        have fin : ∀ x y, GO S p a' b' x y → frT σB x ∧ frU σM y ∧ TK S i x y := by
          rintro x y ⟨g1, g2, g3, g4, i', g5, g6, g7, g8, g9⟩
          exact ⟨h3.tr (a1.tr g1), h4.tr (m1.tr g2), p, i', h2, by omega, g6, g7, g8, by rw [g3, a4], by rw [g4, m10], g9, Or.inr g5⟩
        by_cases l : 97 ≤ c p ∧ c p ≤ 122
        · have e1 : ¬ ((if 97 ≤ c p ∧ c p ≤ 122 then (1 : Int32) else 0) = 0) := by rw [if_pos l]; decide
          have e2 : ¬ ((if p < S ∧ 97 ≤ c p ∧ c p ≤ 122 then (1 : Int32) else 0) = 0) := by rw [if_pos ⟨d, l⟩]; decide
          rw [if_neg e1, if_neg e2]
          have W := word_sim T2 p d l a2 a5 m7 m10
          simp only [lt_eq, jnx1_eq] at W
          rw [hFU] at W
          exact W.mono fin
        · have e1 : (if 97 ≤ c p ∧ c p ≤ 122 then (1 : Int32) else 0) = 0 := by rw [if_neg l]
          have e2 : (if p < S ∧ 97 ≤ c p ∧ c p ≤ 122 then (1 : Int32) else 0) = 0 := by rw [if_neg (fun z => l z.2)]
          rw [if_pos e1, if_pos e2]
          by_cases dd : 48 ≤ c p ∧ c p ≤ 57
          · have e3 : ¬ ((if 48 ≤ c p ∧ c p ≤ 57 then (1 : Int32) else 0) = 0) := by rw [if_pos dd]; decide
            have e4 : ¬ ((if p < S ∧ 48 ≤ c p ∧ c p ≤ 57 then (1 : Int32) else 0) = 0) := by rw [if_pos ⟨d, dd⟩]; decide
            rw [if_neg e3, if_neg e4]
            have W := numb_sim T2 p d dd a2 a5 m7
            rw [hFU] at W
            exact W.mono fin
          · have e3 : (if 48 ≤ c p ∧ c p ≤ 57 then (1 : Int32) else 0) = 0 := by rw [if_neg dd]
            have e4 : (if p < S ∧ 48 ≤ c p ∧ c p ≤ 57 then (1 : Int32) else 0) = 0 := by rw [if_neg (fun z => dd z.2)]
            rw [if_pos e3, if_pos e4]
            exact (sign_sim T2 p d a2 m7).mono fin
  · have ps : p = S := by omega
    rw [if_pos ((leN (by omega) (by omega)).mpr (by omega)), if_pos ((leN (by omega) (by omega)).mpr (by omega)), if_neg (show ¬ nI p < nI S from fun z => d ((ltN (by omega) (by omega)).mp z)), if_pos (by rw [ps])]
    refine SIM.ret ⟨h3.tr (a1.tr (frT.s _ _ (by omega))), h4.tr (m1.tr (frU.s _ _ (by omega))), p, p, h2, by omega, by omega, by rw [gIn (by omega), a2], by rw [gIn (by omega), m7], by rw [gIn (by omega), a4], by rw [gIn (by omega), m10], ?_, Or.inl (by rw [gIe])⟩
    rw [gIe, gIe]
    exact Or.inl ⟨rfl, rfl⟩
