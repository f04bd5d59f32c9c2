set_option maxHeartbeats 2000000 in
theorem st28 : ST28 REL := by
  rintro σB σM a0 a1 a2 ⟨t, n, np, R⟩
  have hn6 := R.2.2.1.n6
  unfold fX9_when fX10_when
  simp only [lt_eq, jnx1_eq, jnx3_eq, cl1, isWithin_eq, isInM_eq, bS, ifi0]
  rw [isInB_eq a0 hn6 (agr R) R.th.2.2.2.1, isOnNow_eq a0 hn6 R.th.2.2.1.hM R.th.2.2.2.1.bool0, bS, bS, ifi0, ifi0]
  by_cases c0 : (0 ≤ a0 ∧ a0 < nI n) ∧ gA (sI σM 0 2 0) 0 49 a0.toNatClampNeg = 1
  · rw [if_pos c0, if_pos c0]
    by_cases c1 : (0 : Int32) ≤ a1 ∧ a1 ≤ 40
    · rw [if_pos c1, if_pos c1]
      by_cases c2 : (0 : Int32) ≤ a2 ∧ a2 ≤ 1
      · rw [if_pos c2, if_pos c2]
        obtain ⟨h, hh, rfl⟩ := house_nat hn6 c0.1
        obtain ⟨y, -, hy, rfl⟩ := in_nat 0 40 c1 (by omega) (by omega)
        have R0 := R.th
        clear c0 c1
        generalize sI σM 0 2 0 = σ1 at *
        obtain ⟨σ12, f1, R2, f2, f3, f4, f5, f6⟩ := R0.goes
        obtain ⟨G0, b1, b2, b3, b4, b5, b6, b7⟩ := become_eq σ12 7 5 (by omega) R2.2.2.2.1.2.2.2.2.2.2.2.2.2
        rw [f1, bVs, b1, bVs]
        have QB : qB σ12 G0 := ⟨fun o _ o2 _ => b4 o o2, fun o k _ o2 _ _ => by rw [b5 o o2], fun k _ => by rw [b6]⟩
        have RG := R2.q QB (qM.rf _)
        have hG7 : ∀ k j, k < 6 → j < 6 → gA G0 7 k j = gA G0 5 k j := fun k j hk hj => by rw [b2 k j hk hj, b5 5 (by omega)]
        have hG8 : ∀ k, 6 ≤ k → k ≤ 14 → gI G0 7 k = gI G0 5 k := fun k k1 k2 => by rw [b3 k k1 k2, b4 5 (by omega)]
        have hG2 : gR G0 2 = t := by rw [b6]; exact f2
        have hGf : ∀ k, 2 ≤ k → k ≤ 6 → gI G0 14 k = 0 := fun k k1 k2 => by rw [b4 14 (by omega)]; exact f3 k k1 k2
        have start : ∃ g σ5, gh 0 G0 = some g ∧ SR n 9999 (9000 + 0) g 7 σ5 1 ∧ SR n 9999 (9000 + 0) G0 7 σ5 1 := by
          obtain ⟨σ23, l1, l2, l3, l4, l5, l6, l7⟩ := layTried_eq σ1
          have S3 : SR n 9999 9000 G0 7 σ23 1 := lay_sim RG.2.2.2.1 hn6 hG7 hG8 l6 l7
          exact ⟨G0, σ23, rfl, S3, S3⟩
        simp only [six1, clN (show 6 + h < 1000000 by omega), gdN (show 6 + h < 12 by omega) (show 12 ≤ 1000000 by omega)]
        generalize hFU : FU = Z
        refine simlp4_4 _ (fun j x u v s x' u' v' s' => ∃ k, k + j = y + 1 ∧ v = nI k ∧ v' = nI k ∧ x = x' ∧ u = u' ∧ (x = -2 ∨ ∃ q, q < 100 ∧ x = nI q) ∧ REL0 t n np s s' ∧ wBr G0 s ∧ ∃ g σ5, gh k G0 = some g ∧ SR n 9999 (9000 + k) g 7 σ5 1 ∧ SR n 9999 (9000 + k) s 7 σ5 1) ?_ Z Z (y + 1) (-2) (-2) 0 G0 (-2) (-2) 0 σ1 (by rw [← hFU]; exact FU_gt (by omega)) (by rw [← hFU]; exact FU_gt (by omega)) ⟨0, by omega, rfl, rfl, rfl, rfl, Or.inl rfl, RG, ⟨fun _ _ _ => rfl, fun _ _ _ => rfl, rfl⟩, start⟩
        rintro j sF sG x u v s x' u' v' s' ⟨k, hk, rfl, rfl, rfl, rfl, hx, Rs, hw, hs⟩ ih
        by_cases c : y < k
        · rw [if_pos ((ltN (by omega) (by omega)).mpr c), if_pos ((ltN (by omega) (by omega)).mpr c)]
          by_cases p0 : a2 = 0
          · rw [if_pos p0, if_pos p0]
            exact SIM.ret ⟨rfl, Rs.r⟩
          · rw [if_neg p0, if_neg p0]
            exact SIM.ret ⟨rfl, Rs.r⟩
        · rw [if_neg (fun z => c ((ltN (by omega) (by omega)).mp z)), if_neg (fun z => c ((ltN (by omega) (by omega)).mp z))]
          obtain ⟨σ26, σ23, σ25, e1, e2, e3, R25, C25, S25, h61, hw26, next⟩ := whStep hh (show k ≤ 40 by omega) s s' Rs hw hG7 hG8 hG2 hGf hs
          rw [e1, e2, bVs, bVs, e3, bVs]
          have cont : ∀ (x2 u2 : Int32) (σ31 s2 : St), (x2 = -2 ∨ ∃ q, q < 100 ∧ x2 = nI q) → frB 6 σ26 σ31 → REL0 t n np σ31 s2 → SIM (fun q q' => q.1 = q'.1 ∧ REL q.2 q'.2) (bI (fX0_passYear σ31 7) fun r34 σ35 => sF x2 u2 (nI k + 1) σ35) (sG x2 u2 (nI k + 1) s2) := by
            intro x2 u2 σ31 s2 hx2 fr R31
            obtain ⟨q, σ35, p1, p2, p3, p4⟩ := next σ31 fr s2 R31
            rw [p1, bIs]
            exact ih (j - 1) _ _ _ _ _ _ _ _ (by omega) ⟨k + 1, by omega, nI_1 k, nI_1 k, rfl, rfl, hx2, p2, p3, p4⟩
          obtain ⟨cc, hdec, k1, k2, k3⟩ := may_sim C25 S25 (b := 1) (by omega) hh
          have k1' : fX10_mayRaise σ25 1 (nI h) = some (if cc then 1 else 0) := k1
          rw [k2, bS, ifi0, show 6 * 1 + h = 6 + h by omega]
          by_cases d1 : gA σ25 0 57 1 = 0
          · rw [if_pos d1]
            have hbool := S25.bool hh
            rw [show 6 * 1 + h = 6 + h by omega] at hbool
            by_cases d2 : gA σ25 0 49 (6 + h) = 0
            · rw [if_pos d2, if_neg (show ¬ (gA σ25 0 57 1 = 0 ∧ gA σ25 0 49 (6 + h) = 1 ∧ cc) from fun z => by rw [z.2.1] at d2; exact ne10 d2)]
              exact cont x u σ26 σ25 hx (frB.rf _ _) R25
            · have d3 := hbool.resolve_left d2
              rw [if_neg d2, k1', bS, ifi0]
              by_cases d4 : cc
              · rw [if_pos d4, if_pos ⟨d1, d3, d4⟩]
                obtain ⟨σ39, σ38, r1, r2, r3, r4, r5, r6, r7, r8, r9, -⟩ := raise_sim C25 S25 (by omega) ⟨by omega, by omega⟩ (b := 1) (by omega) hh (k3 d4)
                have r2' : fX10_raises σ25 1 (nI h) = some σ38 := r2
                have e120 : (120 : Int32) - nI k = nI (120 - k) := by rw [show (120 : Int32) = nI 120 from rfl, pk_sub (by omega)]
                have R39 := R25.q (qB.fr (Or.inl rfl) r4) (qM.fr r5 (by rw [r8]))
                obtain ⟨r, σ42, σ41, q1, q2, q3, q4, q5, q6⟩ := fa_simY (k := 120 - k) R39 (C25.cg ⟨by omega, by omega⟩ r4 r5) r3 (by omega) ⟨by omega, by omega⟩ (by rw [r5.1 61 (by omega) (by omega)]; exact h61) (by omega)
                rw [r1, r2', bVs, bVs, e120, q1, q2, bIs, bIs, hasFallenTo_eq, bS, ifi0]
                have fr42 := r4.tr q5
                rcases q4 with ⟨rfl, q7⟩ | ⟨⟨z, hz, rfl⟩, q7, q8⟩
                · rw [if_neg (fun z => z.1 q7), if_pos (show (-2 : Int32) < 0 by decide)]
                  exact cont x u σ42 σ41 hx fr42 q3
                · have a10 : gI σ42 6 10 = gA σ41 0 55 1 := q7.2.2.1 10 (by unfold isS; omega)
                  have a9 : gI σ42 6 9 = gA σ41 0 54 1 := q7.2.2.1 9 (by unfold isS; omega)
                  rw [if_neg (nI_neg (j := z) (by omega)), a10, a9]
                  by_cases d5 : gA σ41 0 55 1 = nI h
                  · rw [if_pos ⟨by rw [q8]; exact ne10, d5⟩, if_pos d5]
                    rcases hx with hx | ⟨q, hq, hx⟩
                    · rw [hx, if_pos rfl, if_pos (show (-2 : Int32) < 0 by decide)]
                      exact cont (nI k) _ σ42 σ41 (Or.inr ⟨k, by omega, rfl⟩) fr42 q3
                    · have nq : ¬ x = -2 := by
                        rw [hx]
                        intro e
                        have := congrArg Int32.toInt e
                        rw [nI_toInt (by omega)] at this
                        have e : (-2 : Int32).toInt = -2 := rfl
                        omega
                      rw [if_neg nq, if_neg (show ¬ x < 0 by rw [hx]; exact nI_neg (by omega))]
                      by_cases d6 : gA σ41 0 54 1 < u
                      · rw [if_neg (show ¬ u ≤ gA σ41 0 54 1 from Int32.not_le.mpr d6), if_pos d6]
                        exact cont (nI k) _ σ42 σ41 (Or.inr ⟨k, by omega, rfl⟩) fr42 q3
                      · rw [if_pos (show u ≤ gA σ41 0 54 1 from Int32.not_lt.mp d6), if_neg d6]
                        exact cont x u σ42 σ41 (Or.inr ⟨q, hq, hx⟩) fr42 q3
                  · rw [if_neg (fun w => d5 w.2), if_neg d5]
                    exact cont x u σ42 σ41 hx fr42 q3
              · rw [if_neg d4, if_neg (fun z => d4 z.2.2)]
                exact cont x u σ26 σ25 hx (frB.rf _ _) R25
          · rw [if_neg d1, if_neg (show ¬ (gA σ25 0 57 1 = 0 ∧ gA σ25 0 49 (6 + h) = 1 ∧ cc) from fun z => d1 z.1)]
            exact cont x u σ26 σ25 hx (frB.rf _ _) R25
      · rw [if_neg c2, if_neg c2]
        exact SIM.ret ⟨rfl, R.th.r⟩
    · rw [if_neg c1, if_neg c1]
      exact SIM.ret ⟨rfl, R.th.r⟩
  · rw [if_neg c0, if_neg c0]
    exact SIM.ret ⟨rfl, R.th.r⟩
