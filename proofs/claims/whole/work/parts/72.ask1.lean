/-! QUESTIONS of what there is now -/
theorem REL0.a5 {t : Bool} {n np : Nat} {σB σM : St} (R : REL0 t n np σB σM) (k j : Nat) (hk : k < 5) (hj : j < n) : gA σB 5 k j = gA σM 0 (fm k) j := by
  have := R.2.2.2.1.1 k hk j hj
  rw [show 6 * 0 + j = j by omega] at this
  exact this
theorem REL0.s5 {t : Bool} {n np : Nat} {σB σM : St} (R : REL0 t n np σB σM) (k : Nat) (hk : isS k) : gI σB 5 k = gA σM 0 (sm k) 0 := R.2.2.2.1.2.2.1 k hk
theorem REL0.bits {t : Bool} {n np : Nat} {σB σM : St} (R : REL0 t n np σB σM) : ∃ m, m < 2 ^ n ∧ m < 64 ∧ gI σB 5 6 = nI m ∧ ∀ j, j < n → gA σM 0 49 j = if m.testBit j then 1 else 0 := by
  obtain ⟨m, m1, m2, m3⟩ := R.2.2.2.1.2.1
  have := pow6 R.2.2.1.n6
  refine ⟨m, m1, by omega, m2, fun j hj => ?_⟩
  have := m3 j hj
  rw [show 6 * 0 + j = j by omega] at this
  exact this
theorem st2 : ST2 REL := by
  rintro σB σM a0 ⟨t, n, np, R⟩
  have R0 := R.th
  unfold fX9_fault fX10_fault
  simp only [lt_eq, jnx1_eq]
  generalize sI σM 0 2 0 = σ1 at *
  obtain ⟨f1, f2⟩ := R0.2.2.2.2.2.2.2.1
  rw [f1, f2]
  by_cases c0 : a0 = 0
  · rw [if_pos c0, if_pos c0]
    exact SIM.ret ⟨rfl, R0.r⟩
  · rw [if_neg c0, if_neg c0]
    by_cases c1 : a0 = 1
    · rw [if_pos c1, if_pos c1]
      exact SIM.ret ⟨rfl, R0.r⟩
    · rw [if_neg c1, if_neg c1]
      exact SIM.ret ⟨rfl, R0.r⟩
theorem place2_sim {σB σM : St} {t : Bool} {n : Nat} (x : Int32) (hn : n ≤ 6) (h : ∀ j, j < n → gA σB (tx t) 2 j = gA σM 0 20 j) : SIM (fun a b => a = b) (fX9_placeOf_a6_2 σB x t (nI n)) (fX10_find_a10_20 σM 0 (nI n) x) := by
  unfold fX9_placeOf_a6_2 fX10_find_a10_20
  generalize hFU : FU = Z
  refine simlp1_1 _ (fun j x x' => ∃ i, i + j = n ∧ x = nI i ∧ x' = nI i) ?_ Z Z n 0 0 (by rw [← hFU]; exact FU_gt (by omega)) (by rw [← hFU]; exact FU_gt (by omega)) ⟨0, by omega, rfl, rfl⟩
  rintro j sF sG y y' ⟨i, hi, rfl, rfl⟩ ih
  simp only [jnx1_eq, lt_eq, Int32.zero_add]
  by_cases c : n ≤ i
  · rw [if_pos ((leN (by omega) (by omega)).mpr c), if_pos ((leN (by omega) (by omega)).mpr c)]
    exact SIM.ret rfl
  · rw [if_neg (fun z => c ((leN (by omega) (by omega)).mp z)), if_neg (fun z => c ((leN (by omega) (by omega)).mp z)), if_neg (show ¬ (6 : Int32) ≤ nI i from fun z => by have := (leN (a := 6) (b := i) (by omega) (by omega)).mp z; omega), gdN (show i < 6 by omega) (by omega), gdN (show i < 12 by omega) (by omega), clN (by omega), h i (by omega)]
    by_cases c1 : gA σM 0 20 i = x
    · rw [if_pos c1, if_pos c1]
      exact SIM.ret rfl
    · rw [if_neg c1, if_neg c1]
      exact ih (j - 1) _ _ (by omega) ⟨i + 1, by omega, nI_1 i, nI_1 i⟩
theorem place9_sim {σB σM : St} {t : Bool} {n : Nat} (x : Int32) (hn : n ≤ 6) (h : ∀ j, j < n → gA σB (tx t) 9 j = gA σM 0 26 j) : SIM (fun a b => a = b) (fX9_placeOf_a6_9 σB x t (nI n)) (fX10_find_a10_26 σM 0 (nI n) x) := by
  unfold fX9_placeOf_a6_9 fX10_find_a10_26
  generalize hFU : FU = Z
  refine simlp1_1 _ (fun j x x' => ∃ i, i + j = n ∧ x = nI i ∧ x' = nI i) ?_ Z Z n 0 0 (by rw [← hFU]; exact FU_gt (by omega)) (by rw [← hFU]; exact FU_gt (by omega)) ⟨0, by omega, rfl, rfl⟩
  rintro j sF sG y y' ⟨i, hi, rfl, rfl⟩ ih
  simp only [jnx1_eq, lt_eq, Int32.zero_add]
  by_cases c : n ≤ i
  · rw [if_pos ((leN (by omega) (by omega)).mpr c), if_pos ((leN (by omega) (by omega)).mpr c)]
    exact SIM.ret rfl
  · rw [if_neg (fun z => c ((leN (by omega) (by omega)).mp z)), if_neg (fun z => c ((leN (by omega) (by omega)).mp z)), if_neg (show ¬ (6 : Int32) ≤ nI i from fun z => by have := (leN (a := 6) (b := i) (by omega) (by omega)).mp z; omega), gdN (show i < 6 by omega) (by omega), gdN (show i < 12 by omega) (by omega), clN (by omega), h i (by omega)]
    by_cases c1 : gA σM 0 26 i = x
    · rw [if_pos c1, if_pos c1]
      exact SIM.ret rfl
    · rw [if_neg c1, if_neg c1]
      exact ih (j - 1) _ _ (by omega) ⟨i + 1, by omega, nI_1 i, nI_1 i⟩
theorem st3 : ST3 REL := by
  rintro σB σM a0 a1 ⟨t, n, np, R⟩
  have R0 := R.th
  unfold fX9_named fX10_named
  simp only [lt_eq, jnx1_eq]
  generalize sI σM 0 2 0 = σ1 at *
  obtain ⟨p, p', e1, e2, e3⟩ := place2_sim (t := t) a1 R0.2.2.1.n6 (fun j hj => R0.2.2.1.hA 2 (by omega) (by omega) j hj)
  obtain ⟨q, q', e4, e5, e6⟩ := place9_sim (t := t) a1 R0.2.2.1.p6 (fun j hj => R0.2.2.1.pA 9 (by omega) (by omega) j hj)
  rw [R0.1, R0.2.2.1.hB, R0.2.2.1.pB, R0.2.2.1.hM, R0.2.2.1.pM, e1, e2, e4, e5]
  simp only [bS]
  by_cases c0 : a0 = 0
  · rw [if_pos c0, if_pos c0]
    exact SIM.ret ⟨e3, R0.r⟩
  · rw [if_neg c0, if_neg c0]
    by_cases c1 : a0 = 1
    · rw [if_pos c1, if_pos c1]
      exact SIM.ret ⟨e6, R0.r⟩
    · rw [if_neg c1, if_neg c1]
      exact SIM.ret ⟨rfl, R0.r⟩
theorem isFirst_eq {σ : St} {o m h : Nat} (hm : gI σ o 7 = nI m) (h64 : m < 64) (hh : h < 6) : fX4_isFirst σ o (nI h) = some (if m.testBit h then 1 else 0) := by
  unfold fX4_isFirst
  simp only [jnx1_eq, hm, gdb0, gdb1]
  have := holds_bit m h64 h hh
  by_cases c : m.testBit h = true
  · rw [if_pos (this.mpr c), if_pos c]
  · rw [if_neg (fun z => c (this.mp z)), if_neg c]
theorem REL0.prt {t : Bool} {n np : Nat} {σB σM : St} (R : REL0 t n np σB σM) : ∃ m, m < 2 ^ np ∧ m < 64 ∧ gI σB 5 7 = nI m ∧ (∀ p, p < np → gA σM 0 53 p = if m.testBit p then 1 else 0) ∧ (∀ p, p < np → gA σB 5 5 p = gA σM 0 52 p ∧ ∃ v, v ≤ 99 ∧ gA σM 0 52 p = nI v) ∧ (∀ p, p < np → gA σB (tx t) 10 p = gA σM 0 27 p ∧ ∃ v, 1 ≤ v ∧ v ≤ 99 ∧ gA σM 0 27 p = nI v) := by
  obtain ⟨h1, ⟨m, m1, m2, m3⟩, h3⟩ := R.2.2.2.2.1
  have := pow6 R.2.2.1.p6
  refine ⟨m, m1, by omega, m2, fun p hp => ?_, fun p hp => ?_, fun p hp => ?_⟩
  · have := m3 p hp
    rw [show 6 * 0 + p = p by omega] at this
    exact this
  · have := h1 p hp
    rw [show 6 * 0 + p = p by omega] at this
    obtain ⟨v, -, v1, v2⟩ := h3 p hp
    exact ⟨this, v, v1, by rw [← this]; exact v2⟩
  · exact ⟨R.2.2.1.pA 10 (by omega) (by omega) p hp, R.2.2.1.rg.2.2.2.2.2.1 p hp⟩
theorem st5 : ST5 REL := by
  rintro σB σM a0 a1 ⟨t, n, np, R⟩
  have R0 := R.th
  have hp6 := R.2.2.1.p6
  unfold fX9_part fX10_part
  simp only [lt_eq, jnx1_eq]
  generalize sI σM 0 2 0 = σ1 at *
  rw [R0.1, R0.2.2.1.pB, R0.2.2.1.pM]
  obtain ⟨m, m1, m2, m3, m4, m5, m6⟩ := R0.prt
  by_cases c0 : a0 < 0
  · rw [if_pos c0, if_pos c0]
    exact SIM.ret ⟨rfl, R0.r⟩
  · rw [if_neg c0, if_neg c0]
    by_cases c1 : a0 < nI np
    · rw [if_pos c1, if_neg (Int32.not_le.mpr c1)]
      obtain ⟨p, hp, rfl⟩ := house_nat hp6 ⟨Int32.not_lt.mp c0, c1⟩
      rw [if_pos (show nI p < (6 : Int32) from (ltN (a := p) (b := 6) (by omega) (by omega)).mpr (by omega)), gdN (show p < 6 by omega) (by omega), gdN (show p < 6 by omega) (by omega), clN (by omega), isFirst_eq m3 m2 (by omega), bS, ifi0, gdN (show p < 12 by omega) (by omega), gdN (show p < 12 by omega) (by omega), gdN (show p < 12 by omega) (by omega), m4 p hp, ifi0, (m5 p hp).1, (m6 p hp).1]
      by_cases d0 : a1 = 0
      · rw [if_pos d0, if_pos d0]
        exact SIM.ret ⟨rfl, R0.r⟩
      · rw [if_neg d0, if_neg d0]
        by_cases d1 : a1 = 1
        · rw [if_pos d1, if_pos d1]
          exact SIM.ret ⟨rfl, R0.r⟩
        · rw [if_neg d1, if_neg d1]
          by_cases d2 : a1 = 2
          · rw [if_pos d2, if_pos d2]
            cases m.testBit p
            · exact SIM.ret ⟨rfl, R0.r⟩
            · exact SIM.ret ⟨rfl, R0.r⟩
          · rw [if_neg d2, if_neg d2]
            exact SIM.ret ⟨rfl, R0.r⟩
    · rw [if_neg c1, if_pos (Int32.not_lt.mp c1)]
      exact SIM.ret ⟨rfl, R0.r⟩
set_option maxHeartbeats 1000000 in
theorem st43 : ST43 REL := by
  rintro σB σM a0 ⟨t, n, np, R⟩
  have R0 := R.th
  have hn6 := R.2.2.1.n6
  unfold fX9_count fX10_count
  simp only [lt_eq, jnx1_eq, cl0]
  generalize sI σM 0 2 0 = σ1 at *
  obtain ⟨m, m1, m2, m3, m4⟩ := R0.bits
  have o1 := onMany_eq (σ := σ1) (b := 0) hn6 (by omega) R0.2.2.1.hM (fun j hj => by rw [show 6 * 0 + j = j by omega]; exact m4 j hj)
  have o2 : fX10_onMany σ1 0 = _ := o1
  obtain ⟨s, K, -, -, k1, k2, -⟩ := (show SEE σB σ1 from R0.2.2.2.2.2.2.2.2.2.2.1).known
  obtain ⟨s', -, k3, k4, -⟩ := (show SEE σB σ1 from R0.2.2.2.2.2.2.2.2.2.2.1)
  obtain ⟨u, -, u1, u2, -⟩ := (show UNR n σB σ1 from R0.2.2.2.2.2.2.2.2.2.1)
  have s8 : gI σB 5 8 = gA σ1 0 59 0 := R0.s5 8 (by unfold isS; omega)
  have s9 : gI σB 5 9 = gA σ1 0 54 0 := R0.s5 9 (by unfold isS; omega)
  have s10 : gI σB 5 10 = gA σ1 0 55 0 := R0.s5 10 (by unfold isS; omega)
  have s11 : gI σB 5 11 = gA σ1 0 56 0 := R0.s5 11 (by unfold isS; omega)
  have s12 : gI σB 5 12 = gA σ1 0 58 0 := R0.s5 12 (by unfold isS; omega)
  have s14 : gI σB 5 14 = gA σ1 0 57 0 := R0.s5 14 (by unfold isS; omega)
  rw [R0.1, R0.2.2.1.hB, R0.2.2.1.pB, R0.2.2.1.hM, R0.2.2.1.pM, R0.2.2.1.kn, s8, s9, s10, s11, s12, s14, m3, bitCount_eq σB m2, o2, cnt_low n (by omega) m m2 m1, k1, k2, k3, k4, u1, u2]
  simp only [bS]
  by_cases c0 : a0 = 0
  · rw [if_pos c0, if_pos c0]
    exact SIM.ret ⟨rfl, R0.r⟩
  rw [if_neg c0, if_neg c0]
  by_cases c1 : a0 = 1
  · rw [if_pos c1, if_pos c1]
    exact SIM.ret ⟨rfl, R0.r⟩
  rw [if_neg c1, if_neg c1]
  by_cases c2 : a0 = 2
  · rw [if_pos c2, if_pos c2]
    exact SIM.ret ⟨rfl, R0.r⟩
  rw [if_neg c2, if_neg c2]
  by_cases c3 : a0 = 3
  · rw [if_pos c3, if_pos c3]
    exact SIM.ret ⟨rfl, R0.r⟩
  rw [if_neg c3, if_neg c3]
  by_cases c4 : a0 = 4
  · rw [if_pos c4, if_pos c4]
    exact SIM.ret ⟨rfl, R0.r⟩
  rw [if_neg c4, if_neg c4]
  by_cases c5 : a0 = 5
  · rw [if_pos c5, if_pos c5]
    exact SIM.ret ⟨rfl, R0.r⟩
  rw [if_neg c5, if_neg c5]
  by_cases c6 : a0 = 6
  · rw [if_pos c6, if_pos c6]
    exact SIM.ret ⟨rfl, R0.r⟩
  rw [if_neg c6, if_neg c6]
  by_cases c7 : a0 = 7
  · rw [if_pos c7, if_pos c7]
    split <;> exact SIM.ret ⟨rfl, R0.r⟩
  rw [if_neg c7, if_neg c7]
  by_cases c8 : a0 = 8
  · rw [if_pos c8, if_pos c8]
    exact SIM.ret ⟨rfl, R0.r⟩
  rw [if_neg c8, if_neg c8]
  by_cases c9 : a0 = 9
  · rw [if_pos c9, if_pos c9]
    exact SIM.ret ⟨rfl, R0.r⟩
  rw [if_neg c9, if_neg c9]
  by_cases c10 : a0 = 10
  · rw [if_pos c10, if_pos c10]
    exact SIM.ret ⟨rfl, R0.r⟩
  rw [if_neg c10, if_neg c10]
  by_cases c11 : a0 = 11
  · rw [if_pos c11, if_pos c11]
    exact SIM.ret ⟨rfl, R0.r⟩
  rw [if_neg c11, if_neg c11]
  by_cases c12 : a0 = 12
  · rw [if_pos c12, if_pos c12]
    exact SIM.ret ⟨rfl, R0.r⟩
  rw [if_neg c12, if_neg c12]
  exact SIM.ret ⟨rfl, R0.r⟩
