theorem agr {σ1 : St} {t : Bool} {n np : Nat} {σB : St} (R : REL0 t n np σB σ1) : gI σB (tx (gR σB 0)) 1 = nI n := by rw [R.1]; exact R.2.2.1.hB
/-- one round of match -/
theorem matStep {t : Bool} {n np h c : Nat} (hh : h < n) (hc : c < n) (hne : h ≠ c) (s s' : St) (Rs : REL0 t n np s s') : ∃ σB3 σB5 r σB4 σM3 σM5 σM4, fX9_tryAsItGoes s = some σB3 ∧ fX10_layTried s' = some σM3 ∧ fX4_wed σB3 6 (nI h) (nI c) = some σB5 ∧ fX10_marries σM3 1 (nI h) (nI c) = some σM5 ∧ fX0_yearsToFall σB5 6 120 = some (r, σB4) ∧ fX10_fallsBy σM5 120 = some (r, σM4) ∧ REL0 t n np σB4 σM4 ∧ ((¬ gI σB4 6 14 = 0 ∧ gI σB4 6 10 = nI h) ↔ (¬ r < 0 ∧ gA σM4 0 55 1 = nI h)) := by
  obtain ⟨σB3, σM3, e1, e2, e3, e4, e5, e6, e7, e8⟩ := try_sim Rs
  have R3 := Rs.q e6 e7
  obtain ⟨σB5, σM5, w1, w2, w3, w4, w5, w6, w7, w8, -⟩ := wed_sim (b := 1) R3.2.2.1.n6 e4 ⟨by omega, by omega⟩ (by omega) hh hc hne
  have R5 := R3.q (qB.fr (Or.inl rfl) w4) (qM.fr w5 (by rw [w8]))
  obtain ⟨r, σB4, σM4, q1, q2, q3, q4, q5, q6⟩ := fa_sim (k := 120) R5 (e3.cg ⟨by omega, by omega⟩ w4 w5) w3 ⟨by omega, by omega⟩ (by rw [w5.1 61 (by omega) (by omega)]; exact e5 61 (by omega) (by omega)) (by omega)
  exact ⟨σB3, σB5, r, σB4, σM3, σM5, σM4, e1, e2, w1, w2, q1, q2, q3, hit_iff q4⟩
set_option maxHeartbeats 1000000 in
theorem st29 : ST29 REL := by
  rintro σB σM a0 ⟨t, n, np, R⟩
  have hn6 := R.2.2.1.n6
  unfold fX9_match fX10_match
  simp only [lt_eq, jnx1_eq, jnx2_eq, cl1]
  rw [isInB_eq a0 hn6 (agr R) R.th.2.2.2.1, isOnNow_eq a0 hn6 R.th.2.2.1.hM R.th.2.2.2.1.bool0, bS, bS, ifi0, ifi0]
  by_cases c0 : (0 ≤ a0 ∧ a0 < nI n) ∧ gA (sI σM 0 2 0) 0 49 a0.toNatClampNeg = 1
  · rw [if_pos c0, if_pos c0]
    obtain ⟨h, hh, rfl⟩ := house_nat hn6 c0.1
    have R0 := R.th
    clear c0
    generalize sI σM 0 2 0 = σ1 at *
    generalize hFU : FU = Z
    refine simlp3_3 _ (fun j x y s x' y' s' => ∃ i, i + j = n ∧ y = nI i ∧ y' = nI i ∧ x = x' ∧ (x = -2 ∨ ∃ q, q < n ∧ x = nI q) ∧ REL0 t n np s s') ?_ Z Z n (-2) 0 σB (-2) 0 σ1 (by rw [← hFU]; exact FU_gt (by omega)) (by rw [← hFU]; exact FU_gt (by omega)) ⟨0, by omega, rfl, rfl, rfl, Or.inl rfl, R0⟩
    rintro j sF sG x y s x' y' s' ⟨i, hi, rfl, rfl, rfl, hx, Rs⟩ ih
    rw [agr Rs, Rs.2.2.1.hM]
    by_cases c : n ≤ i
    · rw [if_pos ((leN (by omega) (by omega)).mpr c), if_pos ((leN (by omega) (by omega)).mpr c)]
      exact SIM.ret ⟨rfl, Rs.r⟩
    · rw [if_neg (fun z => c ((leN (by omega) (by omega)).mp z)), if_neg (fun z => c ((leN (by omega) (by omega)).mp z))]
      obtain ⟨tw1, tw2⟩ := two_sim (nI h) (nI i) hn6 (agr Rs) Rs.2.2.1.hM Rs.2.2.2.1
      rw [tw1]
      have skip : SIM (fun q q' => q.1 = q'.1 ∧ REL q.2 q'.2) (sF x (nI i + 1) s) (sG x (nI i + 1) s') := ih (j - 1) _ _ _ _ _ _ (by omega) ⟨i + 1, by omega, nI_1 i, nI_1 i, rfl, hx, Rs⟩
      -- the case in which both go on to try
      have both : (∃ i1 j1, i1 < n ∧ j1 < n ∧ nI h = nI i1 ∧ nI i = nI j1 ∧ i1 ≠ j1) → SIM (fun q q' => q.1 = q'.1 ∧ REL q.2 q'.2) (bV (fX9_tryAsItGoes s) fun σ21 => bV (fX4_wed σ21 6 (nI h) (nI i)) fun σ23 => bI (fX0_yearsToFall σ23 6 (120 : Int32)) fun r25 σ26 => Option.bind (fX4_hasFallenTo σ26 6 (nI h)) fun r28 => if r28 = 0 then sF x (nI i + 1) σ26 else sF (nI i) (nI i + 1) σ26) (bV (fX10_layTried s') fun σ20 => bV (fX10_marries σ20 (1 : Int32) (nI h) (nI i)) fun σ22 => bI (fX10_fallsBy σ22 (120 : Int32)) fun r24 σ25 => if r24 < 0 then sG x (nI i + 1) σ25 else (if (gA σ25 0 55 1) = nI h then sG (nI i) (nI i + 1) σ25 else sG x (nI i + 1) σ25)) := by
        rintro ⟨i1, j1, hi1, hj1, e1, e2, hne⟩
        have e1' := (eqN (a := h) (b := i1) (by omega) (by omega)).mp e1
        have e2' := (eqN (a := i) (b := j1) (by omega) (by omega)).mp e2
        subst e1' e2'
        obtain ⟨σB3, σB5, r, σB4, σM3, σM5, σM4, f1, f2, f3, f4, f5, f6, f7, f8⟩ := matStep hh (show i < n by omega) hne s s' Rs
        rw [f1, f2, bVs, bVs, f3, f4, bVs, bVs, f5, f6, bIs, bIs, hasFallenTo_eq, bS, ifi0]
        by_cases c2 : r < 0
        · rw [if_pos c2, if_neg (fun z => (f8.mp z).1 c2)]
          exact ih (j - 1) _ _ _ _ _ _ (by omega) ⟨i + 1, by omega, nI_1 i, nI_1 i, rfl, hx, f7⟩
        · rw [if_neg c2]
          by_cases c3 : gA σM4 0 55 1 = nI h
          · rw [if_pos c3, if_pos (f8.mpr ⟨c2, c3⟩)]
            exact ih (j - 1) _ _ _ _ _ _ (by omega) ⟨i + 1, by omega, nI_1 i, nI_1 i, rfl, Or.inr ⟨i, by omega, rfl⟩, f7⟩
          · rw [if_neg c3, if_neg (fun z => c3 (f8.mp z).2)]
            exact ih (j - 1) _ _ _ _ _ _ (by omega) ⟨i + 1, by omega, nI_1 i, nI_1 i, rfl, hx, f7⟩
      rcases hx with hx | ⟨q, hq, hx⟩
      · rw [hx, if_pos (show (-2 : Int32) < 0 by decide), if_neg ne10]
        rw [hx] at both skip
        rcases tw2 with ⟨i1, j1, hi1, hj1, e1, e2, hne, -, -, tw⟩ | tw
        · rw [tw, bS, bS, if_neg ne10, if_neg ne10, if_pos (show (-2 : Int32) < 0 by decide)]
          exact both ⟨i1, j1, hi1, hj1, e1, e2, hne⟩
        · rw [tw, bS, bS, if_pos rfl, if_pos rfl]
          exact skip
      · have eb1 : gA s 5 0 q = gA s' 0 46 q := by
          have := Rs.2.2.2.1.1 0 (by omega) q hq
          rw [show 6 * 0 + q = q by omega] at this
          exact this
        have eb2 : gA s 5 0 i = gA s' 0 46 i := by
          have := Rs.2.2.2.1.1 0 (by omega) i (by omega)
          rw [show 6 * 0 + i = i by omega] at this
          exact this
        rw [hx] at both skip ⊢
        simp only [if_neg (nI_neg (j := q) (by omega)), gdN (show i < 6 by omega) (show 6 ≤ 1000000 by omega), gdN (show q < 6 by omega) (show 6 ≤ 1000000 by omega), gdN (show i < 12 by omega) (show 12 ≤ 1000000 by omega), gdN (show q < 12 by omega) (show 12 ≤ 1000000 by omega), clN (show i < 1000000 by omega), clN (show q < 1000000 by omega), eb1, eb2]
        by_cases cb : gA s' 0 46 i < gA s' 0 46 q
        · rw [if_neg (show ¬ gA s' 0 46 q ≤ gA s' 0 46 i from Int32.not_le.mpr cb), if_neg ne10]
          rcases tw2 with ⟨i1, j1, hi1, hj1, e1, e2, hne, -, -, tw⟩ | tw
          · rw [tw, bS, bS, if_neg ne10, if_neg ne10, if_pos cb]
            exact both ⟨i1, j1, hi1, hj1, e1, e2, hne⟩
          · rw [tw, bS, bS, if_pos rfl, if_pos rfl]
            exact skip
        · rw [if_pos (show gA s' 0 46 q ≤ gA s' 0 46 i from Int32.not_lt.mp cb), if_pos trivial]
          rcases tw2 with ⟨i1, j1, hi1, hj1, e1, e2, hne, -, -, tw⟩ | tw
          · rw [tw, bS, if_neg ne10, if_neg cb]
            exact skip
          · rw [tw, bS, if_pos rfl]
            exact skip
  · rw [if_neg c0, if_neg c0]
    exact SIM.ret ⟨rfl, R.th.r⟩
