theorem sub_le : ∀ i, i < 64 → ∀ m, m < 64 → (nI i &&& (nI m ^^^ (-1 : Int32)) = 0 → i ≤ m) := by decide +kernel
theorem many_bit : ∀ m, m < 64 → ∀ i, i < 6 → nI (cntB m i) + ((nI m >>> (nI i &&& 31)) &&& (1 : Int32)) = nI (cntB m (i + 1)) := by decide +kernel
theorem shl_n : ∀ n, n < 7 → (1 : Int32) <<< (nI n &&& 31) = nI (2 ^ n) := by decide +kernel
theorem manyOf_eq (σ : St) {m : Nat} (hm : m < 64) : fX10_manyOf σ (nI m) = some (nI (cntB m 6)) := by
  unfold fX10_manyOf
  generalize hFU : FU = Z
  refine lpx2_wp (fun q => q = some (nI (cntB m 6))) (fun j x x2 => ∃ i, i + j = 6 ∧ x2 = nI i ∧ x = nI (cntB m i)) ?_ Z 6 0 0 (by rw [← hFU]; exact FU_gt (by omega)) ⟨0, by omega, rfl, rfl⟩
  rintro j self x x2 ⟨i, hi, rfl, rfl⟩ ih
  by_cases c : 6 ≤ i
  · rw [if_pos (show (6 : Int32) ≤ nI i from (leN (a := 6) (b := i) (by omega) (by omega)).mpr c), show i = 6 by omega]
  · rw [if_neg (show ¬ (6 : Int32) ≤ nI i from fun z => c ((leN (a := 6) (b := i) (by omega) (by omega)).mp z))]
    simp only [lt_eq]
    exact ih (j - 1) _ _ (by omega) ⟨i + 1, by omega, nI_1 i, many_bit m hm i (by omega)⟩
theorem onNow_eq {σ : St} {n m : Nat} (hn : n ≤ 6) (hm : m < 2 ^ n) (h : gI σ 0 12 = nI n) (hb : ∀ j, j < n → gA σ 0 49 j = if m.testBit j then 1 else 0) : fX10_onNow σ = some (nI m) := by
  have hp6 := pow6 hn
  unfold fX10_onNow
  generalize hFU : FU = Z
  refine lpx2_wp (fun q => q = some (nI m)) (fun j x x2 => ∃ i, i + j = n ∧ x2 = nI i ∧ x = nI (m % 2 ^ i)) ?_ Z n 0 0 (by rw [← hFU]; exact FU_gt (by omega)) ⟨0, by omega, rfl, by rw [Nat.pow_zero, Nat.mod_one]; rfl⟩
  rintro j self x x2 ⟨i, hi, rfl, rfl⟩ ih
  rw [h]
  by_cases c : n ≤ i
  · rw [if_pos ((leN (by omega) (by omega)).mpr c), show i = n by omega, Nat.mod_eq_of_lt hm]
  · rw [if_neg (fun z => c ((leN (by omega) (by omega)).mp z)), gdN (show i < 12 by omega) (by omega), clN (by omega), hb i (by omega)]
    simp only [lt_eq, jnx1_eq, ifi0]
    have ob := or_bit m (by omega) i (by omega)
    cases hq : m.testBit i
    · rw [hq] at ob
      rw [if_neg (by simp)]
      exact ih (j - 1) _ _ (by omega) ⟨i + 1, by omega, nI_1 i, ob⟩
    · rw [hq] at ob
      rw [if_pos rfl]
      exact ih (j - 1) _ _ (by omega) ⟨i + 1, by omega, nI_1 i, ob⟩
theorem isFewer_eq (σ : St) {i : Nat} {x : Int32} (hi : i < 64) (hx : x = -2 ∨ ∃ q, q < 64 ∧ x = nI q) : fX9_isFewer σ (nI i) x = some (if x < 0 ∨ nI (cntB i 6) < nI (cntB x.toNatClampNeg 6) then 1 else 0) := by
  unfold fX9_isFewer
  simp only [jnx1_eq, gdb0, gdb1]
  rcases hx with rfl | ⟨q, hq, rfl⟩
  · rw [if_pos (show (-2 : Int32) < 0 by decide), if_pos (Or.inl (by decide))]
  · rw [if_neg (nI_neg (j := q) (by omega)), bitCount_eq σ hi, bitCount_eq σ hq, bS, bS, clN (by omega)]
    by_cases c : nI (cntB i 6) < nI (cntB q 6)
    · rw [if_neg (Int32.not_le.mpr c), if_pos (Or.inr c)]
    · rw [if_pos (Int32.not_lt.mp c), if_neg (fun z => z.elim (nI_neg (j := q) (by omega)) c)]
/-- one round of hush -/
theorem hushStep {t : Bool} {n np k i : Nat} (hk : k < 1000) (s s' : St) (Rs : REL0 t n np s s') : ∃ σB3 σB4 σM3 σM4, fX9_tryAsItGoes s = some σB3 ∧ fX10_layTried s' = some σM3 ∧ fX0_passYears (sI σB3 14 6 (nI i)) 6 (nI k) = some σB4 ∧ fX10_goMany (sI σM3 0 65 (nI i)) (nI k) = some σM4 ∧ REL0 t n np σB4 σM4 ∧ gI σB4 6 10 = gA σM4 0 55 1 := by
  obtain ⟨σB3, σM3, e1, e2, e3, e4, e5, e6, e7, e8⟩ := try_sim Rs
  have R3 := Rs.q (e6.tr (qB.flag σB3 6 (nI i))) (e7.tr (qM.sI σM3 65 (nI i) (by omega)))
  have S1 : SR n 9999 9000 (sI σB3 14 6 (nI i)) 6 (sI σM3 0 65 (nI i)) 1 := e4.cg ⟨fun _ _ => rfl, fun k _ _ => gIo (by omega)⟩ (agM.wG rfl)
  obtain ⟨σB4, σM4, g1, g2, g3, g4, -, -⟩ := go_sim R3 (e3.flag 6 (by omega) (nI i)) S1 (by rw [gIn (by omega)]; exact e5 61 (by omega) (by omega)) hk
  exact ⟨σB3, σB4, σM3, σM4, e1, e2, g1, g2, g4, g3.sc 10 (by unfold isS; omega) (by omega)⟩
set_option maxHeartbeats 1000000 in
theorem st33 : ST33 REL := by
  rintro σB σM a0 a1 ⟨t, n, np, R⟩
  have hn6 := R.2.2.1.n6
  have hp6 := pow6 hn6
  unfold fX9_hush fX10_hush
  simp only [lt_eq, jnx1_eq, jnx2_eq, cl1, isWithin_eq, isInM_eq]
  rw [isInB_eq a0 hn6 (agr R) R.th.2.2.2.1, isOnNow_eq a0 hn6 R.th.2.2.1.hM R.th.2.2.2.1.bool0, bS, bS, ifi0, ifi0, bS, bS, ifi0, ifi0]
  by_cases c0 : (0 ≤ a0 ∧ a0 < nI n) ∧ gA (sI σM 0 2 0) 0 49 a0.toNatClampNeg = 1
  · rw [if_pos c0, if_pos c0]
    by_cases c1 : (1 : Int32) ≤ a1 ∧ a1 ≤ 40
    · rw [if_pos c1, if_pos c1]
      obtain ⟨h, hh, rfl⟩ := house_nat hn6 c0.1
      obtain ⟨k, -, hk, rfl⟩ := in_nat 1 40 c1 (by omega) (by omega)
      have R0 := R.th
      clear c0 c1
      generalize sI σM 0 2 0 = σ1 at *
      obtain ⟨m, m1, m2, m3⟩ := R0.2.2.2.1.2.1
      rw [onNow_eq hn6 m1 R0.2.2.1.hM (fun j hj => by have := m3 j hj; rw [show 6 * 0 + j = j by omega] at this; exact this), bS, m2, end_bit m (by omega) h (by omega)]
      have hcl := (clr_bit m (by omega) h (by omega)).1
      generalize clr m h = mm at hcl
      generalize hFU : FU = Z
      refine simE3_3 _ (fun j x y s x' y' s' => ∃ i, i + j = 64 ∧ i ≤ 2 ^ n ∧ y = nI i ∧ y' = nI i ∧ x = x' ∧ (x = -2 ∨ ∃ q, q < 64 ∧ x = nI q) ∧ REL0 t n np s s') (fun j x y s z => ∃ i, i + j = 64 ∧ 2 ^ n ≤ i ∧ y = nI i ∧ x = z.1 ∧ REL0 t n np s z.2) ?_ ?_ Z Z 64 (-2) 0 σB (-2) 0 σ1 (by rw [← hFU]; exact FU_gt (by omega)) (by rw [← hFU]; exact FU_gt (by omega)) ⟨0, by omega, by omega, rfl, rfl, rfl, Or.inl rfl, R0⟩
      · rintro j sF x y s z ⟨i, hi, hi2, rfl, rfl, Rs⟩ ih
        by_cases c : 64 ≤ i
        · rw [if_pos (show (64 : Int32) ≤ nI i from (leN (a := 64) (b := i) (by omega) (by omega)).mpr c)]
          exact SIM.ret ⟨rfl, Rs.r⟩
        · rw [if_neg (show ¬ (64 : Int32) ≤ nI i from fun z => c ((leN (a := 64) (b := i) (by omega) (by omega)).mp z)), if_neg (fun w => by have := sub_le i (by omega) mm (by omega) w; omega)]
          exact ih (j - 1) _ _ _ (by omega) ⟨i + 1, by omega, by omega, nI_1 i, rfl, Rs⟩
      · rintro j sF sG x y s x' y' s' ⟨i, hi, hi2, rfl, rfl, rfl, hx, Rs⟩ ih ihE
        rw [Rs.2.2.1.hM, shl_n n (by omega)]
        by_cases c2 : 2 ^ n ≤ i
        · rw [if_pos ((leN (a := 2 ^ n) (b := i) (by omega) (by omega)).mpr c2)]
          obtain ⟨σM3, p1, p2, p3, p4, p5⟩ := plainTried_eq s'
          rw [p1, bVs]
          have Rs' := Rs.q (qB.rf _) (qM.pt p3 p4 p5)
          by_cases c : 64 ≤ i
          · rw [if_pos (show (64 : Int32) ≤ nI i from (leN (a := 64) (b := i) (by omega) (by omega)).mpr c)]
            exact SIM.ret ⟨rfl, Rs'.r⟩
          · rw [if_neg (show ¬ (64 : Int32) ≤ nI i from fun z => c ((leN (a := 64) (b := i) (by omega) (by omega)).mp z)), if_neg (fun w => by have := sub_le i (by omega) mm (by omega) w; omega)]
            exact ihE (j - 1) _ _ _ (x, σM3) (by omega) ⟨i + 1, by omega, by omega, nI_1 i, rfl, Rs'⟩
        · rw [if_neg (fun z => c2 ((leN (a := 2 ^ n) (b := i) (by omega) (by omega)).mp z)), if_neg (show ¬ (64 : Int32) ≤ nI i from fun z => by have := (leN (a := 64) (b := i) (by omega) (by omega)).mp z; omega)]
          have skip : SIM (fun q q' => q.1 = q'.1 ∧ REL q.2 q'.2) (sF x (nI i + 1) s) (sG x (nI i + 1) s') := ih (j - 1) _ _ _ _ _ _ (by omega) ⟨i + 1, by omega, by omega, nI_1 i, nI_1 i, rfl, hx, Rs⟩
          by_cases c3 : nI i &&& (nI mm ^^^ (-1 : Int32)) = 0
          · rw [if_pos c3, if_pos c3, isFewer_eq s (by omega) hx, bS, ifi0]
            have both : SIM (fun q q' => q.1 = q'.1 ∧ REL q.2 q'.2) (bV (fX9_tryAsItGoes s) fun σ24 => bV (fX0_passYears (sI σ24 14 6 (nI i)) 6 (nI k)) fun σ27 => if gI σ27 6 10 = nI h then sF (nI i) (nI i + 1) σ27 else sF x (nI i + 1) σ27) (bV (fX10_layTried s') fun σ27 => bV (fX10_goMany (sI σ27 0 65 (nI i)) (nI k)) fun σ30 => if gA σ30 0 55 1 = nI h then sG (nI i) (nI i + 1) σ30 else sG x (nI i + 1) σ30) := by
              obtain ⟨σB3, σB4, σM3, σM4, f1, f2, f3, f4, f5, f6⟩ := hushStep (i := i) (show k < 1000 by omega) s s' Rs
              rw [f1, f2, bVs, bVs, f3, f4, bVs, bVs, f6]
              by_cases c4 : gA σM4 0 55 1 = nI h
              · rw [if_pos c4, if_pos c4]
                exact ih (j - 1) _ _ _ _ _ _ (by omega) ⟨i + 1, by omega, by omega, nI_1 i, nI_1 i, rfl, Or.inr ⟨i, by omega, rfl⟩, f5⟩
              · rw [if_neg c4, if_neg c4]
                exact ih (j - 1) _ _ _ _ _ _ (by omega) ⟨i + 1, by omega, by omega, nI_1 i, nI_1 i, rfl, hx, f5⟩
            rcases hx with rfl | ⟨q, hq, rfl⟩
            · rw [if_pos (Or.inl (by decide)), if_pos (show (-2 : Int32) < 0 by decide)]
              exact both
            · rw [if_neg (nI_neg (j := q) (by omega)), manyOf_eq s' (show i < 64 by omega), manyOf_eq s' hq, bS, bS, clN (by omega)]
              by_cases c5 : nI (cntB i 6) < nI (cntB q 6)
              · rw [if_pos (Or.inr c5), if_pos c5]
                exact both
              · rw [if_neg (show ¬ (nI q < 0 ∨ nI (cntB i 6) < nI (cntB q 6)) from fun z => z.elim (nI_neg (j := q) (by omega)) c5), if_neg c5]
                exact skip
          · rw [if_neg c3, if_neg c3]
            exact skip
    · rw [if_neg c1, if_neg c1]
      exact SIM.ret ⟨rfl, R.th.r⟩
  · rw [if_neg c0, if_neg c0]
    exact SIM.ret ⟨rfl, R.th.r⟩
