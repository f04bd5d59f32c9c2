/-- a question: answers alike, the states related -/
def QQ (REL : St → St → Prop) (q q' : Int32 × St) : Prop := q.1 = q'.1 ∧ REL q.2 q'.2
theorem REL0.th {t : Bool} {n np : Nat} {σB σM : St} (R : REL0 t n np σB σM) : REL0 t n np σB (sI σM 0 2 0) := R.q (qB.rf _) (qM.sI _ _ _ (Or.inl rfl))
/-- tried for k years as it goes: both sides -/
theorem go_sim {t : Bool} {n np k : Nat} {σB σM : St} (R : REL0 t n np σB σM) (C : CX t n np σB σM) (S : SR n 9999 9000 σB 6 σM 1) (h61 : gI σM 0 61 = 0) (hk : k < 1000) : ∃ σB' σM', fX0_passYears σB 6 (nI k) = some σB' ∧ fX10_goMany σM (nI k) = some σM' ∧ SRw n 9999 (9000 + k) σB' 6 σM' 1 ∧ REL0 t n np σB' σM' ∧ frB 6 σB σB' ∧ frM 1 σM σM' := by
  rw [passYears_it σB 6 k (by omega), goMany_it σM k (by omega)]
  obtain ⟨σB', σM', e1, e2, r1, r2, r3, r4, r5⟩ := run_sim (o := 6) (b := 1) ⟨by omega, by omega⟩ ⟨by omega, by omega⟩ (by omega) k 9000 σB σM C S (Or.inl h61) (by omega)
  exact ⟨σB', σM', e1, e2, r1, R.q (qB.fr (Or.inl rfl) r2) (qM.fr r3 (r5 h61)), r2, r3⟩
theorem fa_sim {t : Bool} {n np k BM : Nat} {σB σM : St} (R : REL0 t n np σB σM) (C : CX t n np σB σM) (S : SR n BM 9000 σB 6 σM 1) (hBM : 9999 ≤ BM ∧ BM ≤ 20000) (h61 : gI σM 0 61 = 0) (hk : k < 1000) : ∃ r σB' σM', fX0_yearsToFall σB 6 (nI k) = some (r, σB') ∧ fX10_fallsBy σM (nI k) = some (r, σM') ∧ REL0 t n np σB' σM' ∧ ((r = -2 ∧ gI σB' 6 14 = 0) ∨ (∃ z, z < 20000 ∧ r = nI z) ∧ SR n BM 10000 σB' 6 σM' 1 ∧ gI σB' 6 14 = 1) ∧ frB 6 σB σB' ∧ frM 1 σM σM' := by
  rw [yearsToFall_it σB 6 k (by omega), fallsBy_it σM k (by omega)]
  obtain ⟨⟨r, σB'⟩, ⟨r', σM'⟩, e1, e2, r1, r2, r3, r4, r5⟩ := fall_sim (o := 6) hBM ⟨by omega, by omega⟩ k 0 9000 σB σM C S (Or.inl h61) (by omega) (by omega) (Or.inr rfl)
  cases r1
  refine ⟨r, σB', σM', e1, e2, R.q (qB.fr (Or.inl rfl) r2) (qM.fr r3 (r4 h61)), ?_, r2, r3⟩
  rcases r5 with r5 | ⟨r5, r6, r7⟩
  · exact Or.inl r5
  · exact Or.inr ⟨r5, r6.mono (Nat.le_refl _) (by omega), r7⟩
theorem st12 : ST12 REL := by
  rintro σB σM a0 a1 ⟨t, n, np, R⟩
  have hn6 := R.2.2.1.n6
  have hp6 := pow6 hn6
  unfold fX9_ahead fX10_ahead
  simp only [isWithin_eq, isInM_eq, bS, lt_eq, jnx1_eq, ifi0, cl0, cl1]
  by_cases c0 : (0 : Int32) ≤ a0 ∧ a0 ≤ 99
  · by_cases c1 : (0 : Int32) ≤ a1 ∧ a1 ≤ 3
    · simp only [if_pos c0, if_pos c1]
      obtain ⟨k, -, hk, rfl⟩ := in_nat 0 99 c0 (by omega) (by omega)
      obtain ⟨σB1, σM1, e1, e2, e3, e4, e5, e6, e7, e8⟩ := try_sim R.th
      rw [e1, e2, bVs, bVs]
      have R1 := R.th.q e6 e7
      obtain ⟨σB2, σM2, g1, g2, g3, g4, g5, g6⟩ := go_sim R1 e3 e4 (e5 61 (by omega) (by omega)) (show k < 1000 by omega)
      rw [g1, g2, bVs, bVs]
      have a9 : gI σB2 6 9 = gA σM2 0 54 1 := g3.sc 9 (by unfold isS; omega) (by omega)
      have a10 : gI σB2 6 10 = gA σM2 0 55 1 := g3.sc 10 (by unfold isS; omega) (by omega)
      have a12 : gI σB2 6 12 = gA σM2 0 58 1 := g3.sc 12 (by unfold isS; omega) (by omega)
      have d12 : gI σB2 5 12 = gA σM2 0 58 0 := g4.2.2.2.1.2.2.1 12 (by unfold isS; omega)
      by_cases p0 : a1 = 0
      · rw [if_pos p0, if_pos p0]
        exact SIM.ret ⟨a9, g4.r⟩
      · rw [if_neg p0, if_neg p0]
        by_cases p1 : a1 = 1
        · rw [if_pos p1, if_pos p1, ← a10]
          rcases g3.rest.2.1 with hl | ⟨j, hj, hl⟩
          · rw [if_pos hl, if_neg (show ¬ 0 ≤ gI σB2 6 10 by rw [hl]; decide)]
            exact SIM.ret ⟨rfl, g4.r⟩
          · rw [if_neg (show ¬ gI σB2 6 10 = -1 by rw [hl]; exact nI_nm1 (by omega)), if_pos (show 0 ≤ gI σB2 6 10 by rw [hl]; exact nI_pos' (by omega))]
            exact SIM.ret ⟨rfl, g4.r⟩
        · rw [if_neg p1, if_neg p1]
          by_cases p2 : a1 = 2
          · rw [if_pos p2, if_pos p2]
            obtain ⟨m, m1, m2, m3⟩ := g3.bits
            have o1 := onMany_eq (b := 1) hn6 (by omega) g4.2.2.1.hM m3
            have o2 : fX10_onMany σM2 1 = _ := o1
            rw [m2, bitCount_eq σB2 (by omega), o2, bS, bS, cnt_low n (by omega) m (by omega) m1]
            exact SIM.ret ⟨rfl, g4.r⟩
          · rw [if_neg p2, if_neg p2, a12, d12]
            exact SIM.ret ⟨rfl, g4.r⟩
    · simp only [if_pos c0, if_neg c1]
      exact SIM.ret ⟨rfl, R.th.r⟩
  · simp only [if_neg c0]
    exact SIM.ret ⟨rfl, R.th.r⟩
theorem st13 : ST13 REL := by
  rintro σB σM a0 ⟨t, n, np, R⟩
  unfold fX9_falls fX10_falls
  simp only [isWithin_eq, isInM_eq, bS, lt_eq, jnx1_eq, ifi0, cl1]
  by_cases c0 : (0 : Int32) ≤ a0 ∧ a0 ≤ 2
  · simp only [if_pos c0]
    obtain ⟨σB1, σM1, e1, e2, e3, e4, e5, e6, e7, e8⟩ := try_sim R.th
    rw [e1, e2, bVs, bVs]
    have R1 := R.th.q e6 e7
    obtain ⟨r, σB2, σM2, g1, g2, g3, g4, -, -⟩ := fa_sim (k := 999) R1 e3 e4 ⟨by omega, by omega⟩ (e5 61 (by omega) (by omega)) (by omega)
    have g1' : fX0_yearsToFall σB1 6 999 = _ := g1
    have g2' : fX10_fallsBy σM1 999 = _ := g2
    rw [g1', g2', bIs, bIs]
    rcases g4 with ⟨rfl, g5⟩ | ⟨⟨z, hz, rfl⟩, g5, g6⟩
    · rw [if_pos rfl, if_pos (show (-2 : Int32) < 0 by decide)]
      exact SIM.ret ⟨rfl, g3.r⟩
    · have hz2 : ¬ nI z = -2 := fun e => by
        have := congrArg Int32.toInt e
        rw [nI_toInt (by omega)] at this
        have e : (-2 : Int32).toInt = -2 := rfl
        omega
      rw [if_neg hz2, if_neg (nI_neg (j := z) (by omega))]
      have a9 : gI σB2 6 9 = gA σM2 0 54 1 := g5.2.2.1 9 (by unfold isS; omega)
      have a10 : gI σB2 6 10 = gA σM2 0 55 1 := g5.2.2.1 10 (by unfold isS; omega)
      rw [a9, a10]
      by_cases p0 : a0 = 0
      · rw [if_pos p0, if_pos p0]
        exact SIM.ret ⟨rfl, g3.r⟩
      · rw [if_neg p0, if_neg p0]
        by_cases p1 : a0 = 1
        · rw [if_pos p1, if_pos p1]
          exact SIM.ret ⟨rfl, g3.r⟩
        · rw [if_neg p1, if_neg p1]
          exact SIM.ret ⟨rfl, g3.r⟩
  · simp only [if_neg c0]
    exact SIM.ret ⟨rfl, R.th.r⟩
/-- a flag is set on both sides -/
theorem CX.flag {t : Bool} {n np : Nat} {σB σM : St} (C : CX t n np σB σM) (k : Nat) (hk : 3 ≤ k ∧ k ≤ 6) (x : Int32) : CX t n np (sI σB 14 k x) (sI σM 0 (59 + k) x) := by
  obtain ⟨h1, h2, h3, h4⟩ := C
  have a1 := tx_le t
  have a2 := lw_le t
  refine ⟨h1.cg ?_ (gIo (by omega)) rfl rfl (fun k k1 k2 => gIn (by omega)) (fun k k1 k2 => rfl), h2, fun k' k1 k2 => ?_, ?_⟩
  · funext k'
    exact gIo (by omega)
  · by_cases e : k' = k
    · subst e
      rw [gIe, gIe]
    · rw [gIn e, gIn (by omega)]
      exact h3 k' k1 k2
  · rw [gIn (by omega)]
    exact h4
theorem qB.flag (σ : St) (k : Nat) (x : Int32) : qB σ (sI σ 14 k x) := ⟨fun o _ _ h => by funext k'; exact gIo h, fun _ _ _ _ _ _ => rfl, fun _ _ => rfl⟩
theorem st30 : ST30 REL := by
  rintro σB σM ⟨t, n, np, R⟩
  unfold fX9_atMost fX10_atMost
  simp only [lt_eq]
  obtain ⟨σB1, σM1, e1, e2, e3, e4, e5, e6, e7, e8⟩ := try_sim R.th
  rw [e1, e2, bVs, bVs]
  have R1 := R.th.q (e6.tr (qB.flag σB1 3 1)) (e7.tr (qM.sI σM1 62 1 (by omega)))
  have S1 : SR n 9999 9000 (sI σB1 14 3 1) 6 (sI σM1 0 62 1) 1 := e4.cg ⟨fun _ _ => rfl, fun k _ _ => gIo (by omega)⟩ (agM.wG rfl)
  obtain ⟨r, σB2, σM2, g1, g2, g3, g4, -, -⟩ := fa_sim (k := 999) R1 (e3.flag 3 (by omega) 1) S1 ⟨by omega, by omega⟩ (by rw [gIn (by omega)]; exact e5 61 (by omega) (by omega)) (by omega)
  have g1' : fX0_yearsToFall (sI σB1 14 3 1) 6 999 = _ := g1
  have g2' : fX10_fallsBy (sI σM1 0 62 1) 999 = _ := g2
  obtain ⟨σM3, p1, p2, p3, p4, p5⟩ := plainTried_eq σM2
  rw [g1', g2', bIs, bIs, p1, bVs]
  exact SIM.ret ⟨rfl, (g3.q (qB.rf _) (qM.pt p3 p4 p5)).r⟩
theorem st27 : ST27 REL := by
  rintro σB σM a0 ⟨t, n, np, R⟩
  have hn6 := R.2.2.1.n6
  have hp6 := pow6 hn6
  unfold fX9_left fX10_left
  simp only [isWithin_eq, isInM_eq, bS, lt_eq, jnx1_eq, ifi0]
  by_cases c0 : (0 : Int32) ≤ a0 ∧ a0 ≤ 99
  · simp only [if_pos c0]
    obtain ⟨k, -, hk, rfl⟩ := in_nat 0 99 c0 (by omega) (by omega)
    obtain ⟨σB1, σM1, e1, e2, e3, e4, e5, e6, e7, e8⟩ := try_sim R.th
    rw [e1, e2, bVs, bVs]
    have R1 := R.th.q e6 e7
    obtain ⟨σB2, σM2, g1, g2, g3, g4, g5, g6⟩ := go_sim R1 e3 e4 (e5 61 (by omega) (by omega)) (show k < 1000 by omega)
    rw [g1, g2, bVs, bVs]
    obtain ⟨m, m1, m2, m3⟩ := g3.bits
    rw [m2]
    generalize hFU : FU = Z
    refine lpx2_wp (fun q => SIM _ (some (nI m, σB2)) q) (fun j x x2 => ∃ i, i + j = n ∧ x2 = nI i ∧ x = nI (m % 2 ^ i)) ?_ Z n 0 0 (by rw [← hFU]; exact FU_gt (by omega)) ⟨0, by omega, rfl, by rw [Nat.pow_zero, Nat.mod_one]; rfl⟩
    rintro j self x x2 ⟨i, hi, rfl, rfl⟩ ih
    rw [g4.2.2.1.hM]
    by_cases c : n ≤ i
    · rw [if_pos ((leN (by omega) (by omega)).mpr c), show i = n by omega, Nat.mod_eq_of_lt m1]
      exact SIM.ret ⟨rfl, g4.r⟩
    · have o1 := isOn_eq (b := 1) g4.2.2.1.hM hn6 (by omega) (show i < n by omega) (m3 i (by omega))
      have o2 : fX10_isOn σM2 1 (nI i) = _ := o1
      rw [if_neg (fun z => c ((leN (by omega) (by omega)).mp z)), o2, bS, ifi0]
      have ob := or_bit m (by omega) i (by omega)
      cases hq : m.testBit i
      · rw [hq] at ob
        rw [if_neg (by simp)]
        exact ih (j - 1) _ _ (by omega) ⟨i + 1, by omega, nI_1 i, ob⟩
      · rw [hq] at ob
        rw [if_pos rfl]
        exact ih (j - 1) _ _ (by omega) ⟨i + 1, by omega, nI_1 i, ob⟩
  · simp only [if_neg c0]
    exact SIM.ret ⟨rfl, R.th.r⟩
theorem st25 : ST25 REL := by
  rintro σB σM a0 ⟨t, n, np, R⟩
  unfold fX9_nextRaise fX10_nextRaise
  simp only [isWithin_eq, isInM_eq, bS, lt_eq, jnx1_eq, ifi0]
  by_cases c0 : (0 : Int32) ≤ a0 ∧ a0 ≤ 1
  · simp only [if_pos c0]
    obtain ⟨σB1, σM1, e1, e2, e3, e4, e5, e6, e7, e8⟩ := try_sim R.th
    rw [e1, e2, bVs, bVs]
    have R1 := R.th.q e6 e7
    generalize hFU : FU = Z
    refine simlp2_2 _ (fun j x s x' s' => ∃ i, i + j = 100 ∧ 1 ≤ i ∧ x = nI i ∧ x' = nI i ∧ REL0 t n np s s' ∧ CX t n np s s' ∧ SR n 9999 (9000 + i) s 6 s' 1 ∧ gI s' 0 61 = 0) ?_ Z Z 99 1 σB1 1 σM1 (by rw [← hFU]; exact FU_gt (by omega)) (by rw [← hFU]; exact FU_gt (by omega)) ⟨1, by omega, by omega, rfl, rfl, R1, e3, e4.mono (Nat.le_refl _) (by omega), e5 61 (by omega) (by omega)⟩
    rintro j sF sG x s x' s' ⟨i, hi, hi1, rfl, rfl, R2, C2, S2, h61⟩ ih
    by_cases c : 99 < i
    · rw [if_pos (show (99 : Int32) < nI i from (ltN (a := 99) (b := i) (by omega) (by omega)).mpr c), if_pos (show (99 : Int32) < nI i from (ltN (a := 99) (b := i) (by omega) (by omega)).mpr c)]
      exact SIM.ret ⟨rfl, R2.r⟩
    · rw [if_neg (show ¬ (99 : Int32) < nI i from fun z => c ((ltN (a := 99) (b := i) (by omega) (by omega)).mp z)), if_neg (show ¬ (99 : Int32) < nI i from fun z => c ((ltN (a := 99) (b := i) (by omega) (by omega)).mp z))]
      obtain ⟨q, s2, f1, f2, y1, y2, y3, y4, y5, y6, y7, y8, y9⟩ := year_sim C2 S2 (Or.inl h61) ⟨by omega, by omega⟩ (by omega) ⟨by omega, by omega⟩ (b := 1) (by omega)
      have f2' : fX10_yearGoes s' 1 = some s2 := f2
      have R3 := R2.q (qB.fr (Or.inl rfl) y4) (qM.fr y5 (y7 h61))
      rw [f1, f2', bIq, bVs, y2]
      rcases y3 with hr | ⟨r, hr, hr2⟩
      · rw [hr, if_pos rfl, if_pos (show (-1 : Int32) < 0 by decide)]
        exact ih (j - 1) _ _ _ _ (by omega) ⟨i + 1, by omega, by omega, nI_1 i, nI_1 i, R3, C2.cg ⟨by omega, by omega⟩ y4 y5, y1, by rw [y5.1 61 (by omega) (by omega)]; exact h61⟩
      · have hn6 := R.2.2.1.n6
        rw [hr2, if_neg (nI_nm1 (j := r) (by omega)), if_neg (nI_neg (j := r) (by omega))]
        by_cases p0 : a0 = 0
        · rw [if_pos p0, if_pos p0]
          exact SIM.ret ⟨rfl, R3.r⟩
        · rw [if_neg p0, if_neg p0]
          exact SIM.ret ⟨rfl, R3.r⟩
  · simp only [if_neg c0]
    exact SIM.ret ⟨rfl, R.th.r⟩
