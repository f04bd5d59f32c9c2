theorem or0 (x : Int32) : x ||| 0 = x := by
  apply Int32.toBitVec_inj.mp
  simp
theorem st17 : ST17 REL := by
  rintro σB σM ⟨t, n, np, R⟩
  have R0 := R.th
  have hn6 := R.2.2.1.n6
  unfold fX9_still fX10_still
  simp only [lt_eq, jnx1_eq, cl0]
  generalize sI σM 0 2 0 = σ1 at *
  obtain ⟨m, m1, m2, m3, m4⟩ := R0.bits
  have s9 : gI σB 5 9 = gA σ1 0 54 0 := R0.s5 9 (by unfold isS; omega)
  rw [R0.1, R0.2.2.1.hB, R0.2.2.1.hM, s9]
  generalize hFU : FU = Z
  refine simlp2_2 _ (fun j x y x' y' => ∃ i, i + j = n ∧ y = nI i ∧ y' = nI i ∧ x = x') ?_ Z Z n 0 0 0 0 (by rw [← hFU]; exact FU_gt (by omega)) (by rw [← hFU]; exact FU_gt (by omega)) ⟨0, by omega, rfl, rfl, rfl⟩
  rintro j sF sG x y x' y' ⟨i, hi, rfl, rfl, rfl⟩ ih
  by_cases c : n ≤ i
  · rw [if_pos ((leN (by omega) (by omega)).mpr c), if_pos ((leN (by omega) (by omega)).mpr c)]
    exact SIM.ret ⟨rfl, R0.r⟩
  · rw [if_neg (fun z => c ((leN (by omega) (by omega)).mp z)), if_neg (fun z => c ((leN (by omega) (by omega)).mp z))]
    have b0 : gA σB 5 0 i = gA σ1 0 46 i := R0.a5 0 i (by omega) (by omega)
    have st : gA σB (tx t) 5 i = gA σ1 0 23 i := R0.2.2.1.hA 5 (by omega) (by omega) i (by omega)
    simp only [holds_eq m3 m2 (show i < 6 by omega), bS, ifi0, gdN (show i < 6 by omega) (show 6 ≤ 1000000 by omega), gdN (show i < 12 by omega) (show 12 ≤ 1000000 by omega), clN (show i < 1000000 by omega), m4 i (by omega), b0, st]
    cases m.testBit i
    · rw [if_neg (by simp), if_neg (by simp), or0]
      exact ih (j - 1) _ _ _ _ (by omega) ⟨i + 1, by omega, nI_1 i, nI_1 i, rfl⟩
    · rw [if_pos rfl, if_pos rfl]
      by_cases d : gA σ1 0 46 i < gA σ1 0 54 0 + gA σ1 0 23 i
      · rw [if_pos d, if_pos d, or0]
        exact ih (j - 1) _ _ _ _ (by omega) ⟨i + 1, by omega, nI_1 i, nI_1 i, rfl⟩
      · rw [if_neg d, if_neg d]
        exact ih (j - 1) _ _ _ _ (by omega) ⟨i + 1, by omega, nI_1 i, nI_1 i, rfl⟩
theorem st26 : ST26 REL := by
  rintro σB σM a0 ⟨t, n, np, R⟩
  have R0 := R.th
  have hn6 := R.2.2.1.n6
  unfold fX9_rival fX10_rival
  simp only [lt_eq, jnx1_eq]
  rw [isHouseB_eq a0 hn6 (agr R), isHouseM_eq a0 R.th.2.2.1.hM, bS, bS, ifi0, ifi0]
  by_cases c0 : 0 ≤ a0 ∧ a0 < nI n
  · rw [if_pos c0, if_pos c0]
    obtain ⟨h, hh, rfl⟩ := house_nat hn6 c0
    generalize sI σM 0 2 0 = σ1 at *
    obtain ⟨m, m1, m2, m3, m4⟩ := R0.bits
    rw [agr R0, R0.2.2.1.hM]
    generalize hFU : FU = Z
    refine simlp2_2 _ (fun j x y x' y' => ∃ i, i + j = n ∧ y = nI i ∧ y' = nI i ∧ x = x' ∧ (x = -2 ∨ ∃ q, q < n ∧ x = nI q)) ?_ Z Z n (-2) 0 (-2) 0 (by rw [← hFU]; exact FU_gt (by omega)) (by rw [← hFU]; exact FU_gt (by omega)) ⟨0, by omega, rfl, rfl, rfl, Or.inl rfl⟩
    rintro j sF sG x y x' y' ⟨i, hi, rfl, rfl, rfl, hx⟩ ih
    by_cases c : n ≤ i
    · rw [if_pos ((leN (by omega) (by omega)).mpr c), if_pos ((leN (by omega) (by omega)).mpr c)]
      exact SIM.ret ⟨rfl, R0.r⟩
    · rw [if_neg (fun z => c ((leN (by omega) (by omega)).mp z)), if_neg (fun z => c ((leN (by omega) (by omega)).mp z))]
      have skip : SIM (fun q q' => q = q'.1 ∧ REL σB q'.2) (sF x (nI i + 1)) (sG x (nI i + 1)) := ih (j - 1) _ _ _ _ (by omega) ⟨i + 1, by omega, nI_1 i, nI_1 i, rfl, hx⟩
      have take : SIM (fun q q' => q = q'.1 ∧ REL σB q'.2) (sF (nI i) (nI i + 1)) (sG (nI i) (nI i + 1)) := ih (j - 1) _ _ _ _ (by omega) ⟨i + 1, by omega, nI_1 i, nI_1 i, rfl, Or.inr ⟨i, by omega, rfl⟩⟩
      have b0 : gA σB 5 0 i = gA σ1 0 46 i := R0.a5 0 i (by omega) (by omega)
      simp only [holds_eq m3 m2 (show i < 6 by omega), bS, ifi0, gdN (show i < 6 by omega) (show 6 ≤ 1000000 by omega), gdN (show i < 12 by omega) (show 12 ≤ 1000000 by omega), clN (show i < 1000000 by omega), m4 i (by omega), b0]
      rcases hx with rfl | ⟨q, hq, rfl⟩
      · simp only [if_pos (show (-2 : Int32) < 0 by decide), if_neg ne10]
        by_cases d : nI i = nI h
        · rw [if_pos d, if_pos d]
          exact skip
        · rw [if_neg d, if_neg d]
          cases m.testBit i
          · rw [if_neg (by simp), if_neg (by simp)]
            exact skip
          · rw [if_pos rfl, if_pos rfl]
            exact take
      · have b1 : gA σB 5 0 q = gA σ1 0 46 q := R0.a5 0 q (by omega) hq
        simp only [if_neg (nI_neg (j := q) (by omega)), gdN (show q < 6 by omega) (show 6 ≤ 1000000 by omega), gdN (show q < 12 by omega) (show 12 ≤ 1000000 by omega), clN (show q < 1000000 by omega), b1]
        by_cases e : gA σ1 0 46 i ≤ gA σ1 0 46 q
        · simp only [if_pos e, if_true]
          by_cases d : nI i = nI h
          · rw [if_pos d, if_pos d]
            exact skip
          · rw [if_neg d, if_neg d]
            cases m.testBit i
            · rw [if_neg (by simp), if_neg (by simp)]
              exact skip
            · rw [if_pos rfl, if_pos rfl]
              exact skip
        · simp only [if_neg e, if_neg ne10]
          by_cases d : nI i = nI h
          · rw [if_pos d, if_pos d]
            exact skip
          · rw [if_neg d, if_neg d]
            cases m.testBit i
            · rw [if_neg (by simp), if_neg (by simp)]
              exact skip
            · rw [if_pos rfl, if_pos rfl]
              exact take
  · rw [if_neg c0, if_neg c0]
    exact SIM.ret ⟨rfl, R0.r⟩
/-! THE PARTS -/
/-- in how many years a part is renewed -/
def yrs (L o : Nat) : Nat := if 1 < L - o then L - o else 1
theorem sub_cases {L o : Nat} (hL : L ≤ 99) (ho : o ≤ 99) : iMax (1 : Int32) (nI L - nI o) = nI (yrs L o) ∧ (if (1 : Int32) ≤ nI L - nI o then nI L - nI o else 1) = nI (yrs L o) := by
  unfold yrs iMax
  have e := pk_sub_toInt (a := L) (b := o) (by omega) (by omega)
  have e1 : (1 : Int32).toInt = 1 := rfl
  by_cases c : 1 < L - o
  · rw [if_pos c, pk_sub (by omega)]
    rw [if_pos (show (1 : Int32) < nI (L - o) from (ltN (a := 1) (b := L - o) (by omega) (by omega)).mpr c), if_pos (show (1 : Int32) ≤ nI (L - o) from (leN (a := 1) (b := L - o) (by omega) (by omega)).mpr (by omega))]
    exact ⟨rfl, rfl⟩
  · rw [if_neg c, if_neg (by rw [i32lt]; omega)]
    refine ⟨rfl, ?_⟩
    by_cases d : (1 : Int32) ≤ nI L - nI o
    · rw [if_pos d]
      rw [i32le] at d
      rw [i32eq, e, nI_toInt (by omega)]
      omega
    · rw [if_neg d]
      rfl
theorem ytr_eq {σ : St} {o : Nat} {t : Bool} {p L v : Nat} (hp : p < 6) (hL : gA σ (tx t) 10 p = nI L) (hL2 : L ≤ 99) (hv : gA σ o 5 p = nI v) (hv2 : v ≤ 99) : fX4_yearsToRenewal σ o t (nI p) = some (nI (yrs L v)) := by
  unfold fX4_yearsToRenewal
  rw [gdN hp (by omega), gdN hp (by omega), clN (by omega), hL, hv, (sub_cases hL2 hv2).1]
theorem yrs_le {L o : Nat} (hL : L ≤ 99) : 1 ≤ yrs L o ∧ yrs L o ≤ 99 := by
  unfold yrs
  split <;> omega
theorem st32 : ST32 REL := by
  rintro σB σM a0 ⟨t, n, np, R⟩
  have R0 := R.th
  have hp6 := R.2.2.1.p6
  unfold fX9_nextPart fX10_nextPart
  simp only [lt_eq, jnx1_eq, jnx2_eq, isWithin_eq, isInM_eq, bS, ifi0]
  by_cases c0 : (0 : Int32) ≤ a0 ∧ a0 ≤ 1
  · rw [if_pos c0, if_pos c0]
    generalize sI σM 0 2 0 = σ1 at *
    obtain ⟨m, m1, m2, m3, m4, m5, m6⟩ := R0.prt
    rw [R0.1, R0.2.2.1.pB, R0.2.2.1.pM]
    generalize hFU : FU = Z
    refine simlp3_3 _ (fun j x u y x' u' y' => ∃ i, i + j = np ∧ y = nI i ∧ y' = nI i ∧ x = x' ∧ u = u' ∧ (x = -2 ∨ ∃ q, q < np ∧ x = nI q)) ?_ Z Z np (-2) (-2) 0 (-2) (-2) 0 (by rw [← hFU]; exact FU_gt (by omega)) (by rw [← hFU]; exact FU_gt (by omega)) ⟨0, by omega, rfl, rfl, rfl, rfl, Or.inl rfl⟩
    rintro j sF sG x u y x' u' y' ⟨i, hi, rfl, rfl, rfl, rfl, hx⟩ ih
    by_cases c : np ≤ i
    · rw [if_pos ((leN (by omega) (by omega)).mpr c), if_pos ((leN (by omega) (by omega)).mpr c)]
      by_cases d : a0 = 0
      · rw [if_pos d, if_pos d]
        exact SIM.ret ⟨rfl, R0.r⟩
      · rw [if_neg d, if_neg d]
        exact SIM.ret ⟨rfl, R0.r⟩
    · rw [if_neg (fun z => c ((leN (by omega) (by omega)).mp z)), if_neg (fun z => c ((leN (by omega) (by omega)).mp z))]
      obtain ⟨o1, v, v1, v2⟩ := m5 i (by omega)
      obtain ⟨l1, L, L0, L1, L2⟩ := m6 i (by omega)
      rw [ytr_eq (show i < 6 by omega) (l1.trans L2) L1 (o1.trans v2) v1, bS, gdN (show i < 12 by omega) (by omega), gdN (show i < 12 by omega) (by omega), clN (by omega), L2, v2]
      have pull : ∀ {β : Type} (K : Int32 → Option β) (c : Prop) [Decidable c] (x y : Int32), (if c then K x else K y) = K (if c then x else y) := fun K c _ x y => by split <;> rfl
      rw [pull (fun x17 => if x < 0 then sG (nI i) x17 (nI i + 1) else if x17 < u then sG (nI i) x17 (nI i + 1) else sG x u (nI i + 1)), (sub_cases L1 v1).2]
      have take : SIM (fun q q' => q = q'.1 ∧ REL σB q'.2) (sF (nI i) (nI (yrs L v)) (nI i + 1)) (sG (nI i) (nI (yrs L v)) (nI i + 1)) := ih (j - 1) _ _ _ _ _ _ (by omega) ⟨i + 1, by omega, nI_1 i, nI_1 i, rfl, rfl, Or.inr ⟨i, by omega, rfl⟩⟩
      rcases hx with rfl | ⟨q, hq, rfl⟩
      · rw [if_pos rfl, if_pos (show (-2 : Int32) < 0 by decide)]
        exact take
      · have nq : ¬ nI q = -2 := fun e => by
          have := congrArg Int32.toInt e
          rw [nI_toInt (by omega)] at this
          have e : (-2 : Int32).toInt = -2 := rfl
          omega
        rw [if_neg nq, if_neg (nI_neg (j := q) (by omega))]
        by_cases d : nI (yrs L v) < u
        · rw [if_neg (show ¬ u ≤ nI (yrs L v) from Int32.not_le.mpr d), if_pos d]
          exact take
        · rw [if_pos (show u ≤ nI (yrs L v) from Int32.not_lt.mp d), if_neg d]
          exact ih (j - 1) _ _ _ _ _ _ (by omega) ⟨i + 1, by omega, nI_1 i, nI_1 i, rfl, rfl, Or.inr ⟨q, hq, rfl⟩⟩
  · rw [if_neg c0, if_neg c0]
    exact SIM.ret ⟨rfl, R0.r⟩
/-- how many below i are so -/
def cntF (f : Nat → Bool) : Nat → Nat
  | 0 => 0
  | i + 1 => cntF f i + (if f i then 1 else 0)
theorem cntF_s (f : Nat → Bool) (i : Nat) : cntF f (i + 1) = cntF f i + (if f i then 1 else 0) := rfl
theorem cntF_0 {f : Nat → Bool} : ∀ {n : Nat}, cntF f n = 0 ↔ ∀ i, i < n → f i = false
  | 0 => ⟨fun _ i hi => absurd hi (by omega), fun _ => rfl⟩
  | n + 1 => by
    rw [cntF_s]
    constructor
    · intro h i hi
      have h1 : cntF f n = 0 := by omega
      have h2 : (if f n then 1 else 0) = 0 := by omega
      by_cases e : i = n
      · subst e
        cases hf : f i
        · rfl
        · rw [hf] at h2; exact absurd h2 (by decide)
      · exact cntF_0.mp h1 i (by omega)
    · intro h
      rw [cntF_0.mpr (fun i hi => h i (by omega)), h n (by omega)]
      rfl
theorem cntF_le (f : Nat → Bool) : ∀ n, cntF f n ≤ n
  | 0 => Nat.le_refl _
  | n + 1 => by
    rw [cntF_s]
    have := cntF_le f n
    split <;> omega
theorem sameOf_eq {σ : St} {b np : Nat} {f : Nat → Bool} (hb : b < 2) (hp : np ≤ 6) (h13 : gI σ 0 13 = nI np) (h : ∀ p, p < np → gA σ 0 53 (6 * b + p) = if f p then 1 else 0) : fX10_sameOf σ (nI b) = some (nI (cntF f np)) := by
  unfold fX10_sameOf
  rw [h13]
  generalize hFU : FU = Z
  refine lpx2_wp (fun q => q = some (nI (cntF f np))) (fun j x y => ∃ i, i + j = np ∧ y = nI i ∧ x = nI (cntF f i)) ?_ Z np 0 0 (by rw [← hFU]; exact FU_gt (by omega)) ⟨0, by omega, rfl, rfl⟩
  rintro j self x y ⟨i, hi, rfl, rfl⟩ ih
  by_cases c : np ≤ i
  · rw [if_pos ((leN (by omega) (by omega)).mpr c), show i = np by omega]
  · rw [if_neg (fun z => c ((leN (by omega) (by omega)).mp z)), six, gdN (show 6 * b + i < 12 by omega) (by omega), clN (by omega), h i (by omega)]
    simp only [jnx1_eq, lt_eq, ifi0]
    cases hf : f i
    · rw [if_neg (by simp)]
      exact ih (j - 1) _ _ (by omega) ⟨i + 1, by omega, nI_1 i, by rw [show (0 : Int32) = nI 0 from rfl, nI_add, cntF_s, hf]; rfl⟩
    · rw [if_pos rfl]
      exact ih (j - 1) _ _ (by omega) ⟨i + 1, by omega, nI_1 i, by rw [nI_1, cntF_s, hf]; rfl⟩
theorem partsLeft_eq {t : Bool} {n np k : Nat} {σB σM : St} (R : REL0 t n np σB σM) (hk : k < 1000) : ∃ (m : Nat) (L v : Nat → Nat), (∀ p, p < np → gA σM 0 53 p = if m.testBit p then 1 else 0) ∧ (∀ p, p < np → gA σM 0 52 p = nI (v p) ∧ v p ≤ 99 ∧ gA σM 0 27 p = nI (L p) ∧ 1 ≤ L p ∧ L p ≤ 99) ∧ fX9_partsLeftIn σB (nI k) = some (nI (cntF (fun p => m.testBit p && decide (k < yrs (L p) (v p))) np)) := by
  have hp6 := R.2.2.1.p6
  obtain ⟨m, m1, m2, m3, m4, m5, m6⟩ := R.prt
  refine ⟨m, fun p => (gA σM 0 27 p).toNatClampNeg, fun p => (gA σM 0 52 p).toNatClampNeg, m4, fun p hp => ?_, ?_⟩
  · obtain ⟨-, v, v1, v2⟩ := m5 p hp
    obtain ⟨-, L, L0, L1, L2⟩ := m6 p hp
    simp only [v2, L2, clN (show v < 1000000 by omega), clN (show L < 1000000 by omega)]
    exact ⟨trivial, v1, trivial, L0, L1⟩
  · unfold fX9_partsLeftIn
    rw [R.1, R.2.2.1.pB]
    generalize hFU : FU = Z
    refine lpx2_wp (fun q => q = some (nI (cntF (fun p => m.testBit p && decide (k < yrs (gA σM 0 27 p).toNatClampNeg (gA σM 0 52 p).toNatClampNeg)) np))) (fun j x y => ∃ i, i + j = np ∧ y = nI i ∧ x = nI (cntF (fun p => m.testBit p && decide (k < yrs (gA σM 0 27 p).toNatClampNeg (gA σM 0 52 p).toNatClampNeg)) i)) ?_ Z np 0 0 (by rw [← hFU]; exact FU_gt (by omega)) ⟨0, by omega, rfl, rfl⟩
    rintro j self x y ⟨i, hi, rfl, rfl⟩ ih
    by_cases c : np ≤ i
    · rw [if_pos ((leN (by omega) (by omega)).mpr c), show i = np by omega]
    · obtain ⟨o1, v, v1, v2⟩ := m5 i (by omega)
      obtain ⟨l1, L, L0, L1, L2⟩ := m6 i (by omega)
      have hy := yrs_le (o := v) L1
      rw [if_neg (fun z => c ((leN (by omega) (by omega)).mp z)), isFirst_eq m3 m2 (by omega), bS, ytr_eq (show i < 6 by omega) (l1.trans L2) L1 (o1.trans v2) v1]
      simp only [bS, jnx1_eq, lt_eq, ifi0]
      have ev : yrs (gA σM 0 27 i).toNatClampNeg (gA σM 0 52 i).toNatClampNeg = yrs L v := by rw [v2, L2, clN (by omega), clN (by omega)]
      cases hf : m.testBit i
      · rw [if_neg (by simp)]
        exact ih (j - 1) _ _ (by omega) ⟨i + 1, by omega, nI_1 i, by rw [cntF_s, hf]; rfl⟩
      · rw [if_pos rfl]
        by_cases d : yrs L v ≤ k
        · rw [if_pos ((leN (by omega) (by omega)).mpr d)]
          exact ih (j - 1) _ _ (by omega) ⟨i + 1, by omega, nI_1 i, by rw [cntF_s, hf, ev, decide_eq_false (show ¬ k < yrs L v by omega)]; rfl⟩
        · rw [if_neg (fun z => d ((leN (by omega) (by omega)).mp z))]
          exact ih (j - 1) _ _ (by omega) ⟨i + 1, by omega, nI_1 i, by rw [nI_1, cntF_s, hf, ev, decide_eq_true (show k < yrs L v by omega)]; rfl⟩
theorem cntF_congr {f g : Nat → Bool} : ∀ {n : Nat}, (∀ i, i < n → f i = g i) → cntF f n = cntF g n
  | 0, _ => rfl
  | n + 1, h => by
    rw [cntF_s, cntF_s, h n (by omega), cntF_congr (fun i hi => h i (by omega))]
theorem st19 : ST19 REL := by
  rintro σB σM ⟨t, n, np, R⟩
  have R0 := R.th
  unfold fX9_same fX10_same
  rw [lt_eq]
  generalize sI σM 0 2 0 = σ1 at *
  obtain ⟨m, L, v, h1, h2, h3⟩ := partsLeft_eq (k := 0) R0 (by omega)
  have h3' : fX9_partsLeftIn σB 0 = _ := h3
  have s1 := sameOf_eq (σ := σ1) (b := 0) (f := fun p => m.testBit p) (by omega) R0.2.2.1.p6 R0.2.2.1.pM (fun p hp => by rw [show 6 * 0 + p = p by omega]; exact h1 p hp)
  have s1' : fX10_sameOf σ1 0 = _ := s1
  rw [h3', s1', bS, bS]
  refine SIM.ret ⟨?_, R0.r⟩
  rw [cntF_congr (f := fun p => m.testBit p && decide (0 < yrs (L p) (v p))) (g := fun p => m.testBit p)]
  intro p hp
  have := yrs_le (o := v p) (h2 p hp).2.2.2.2
  simp only [decide_eq_true (show 0 < yrs (L p) (v p) by omega), Bool.and_true]
/-- the parts of slot 1 behind k years -/
def pI (np m : Nat) (L v : Nat → Nat) (σ : St) (k : Nat) (s : St) : Prop := gI s = gI σ ∧ gJ s = gJ σ ∧ (∀ q, q ≠ 52 → q ≠ 53 → gA s 0 q = gA σ 0 q) ∧ (∀ q j, (q = 52 ∨ q = 53) → j < 6 → gA s 0 q j = gA σ 0 q j) ∧ ∀ p, p < np → (k < yrs (L p) (v p) → gA s 0 52 (6 + p) = nI (v p + k) ∧ gA s 0 53 (6 + p) = if m.testBit p then 1 else 0) ∧ (yrs (L p) (v p) ≤ k → gA s 0 53 (6 + p) = 0)
theorem pI_step {np m k : Nat} {L v : Nat → Nat} {σ s : St} (hp : np ≤ 6) (hk : k < 2000) (h13 : gI σ 0 13 = nI np) (hL : ∀ p, p < np → v p ≤ 99 ∧ gA σ 0 27 p = nI (L p) ∧ 1 ≤ L p ∧ L p ≤ 99) (h : pI np m L v σ k s) : ∃ s', fX10_partsGo s 1 = some s' ∧ pI np m L v σ (k + 1) s' := by
  obtain ⟨h1, h2, h3, h4, h5⟩ := h
  have e := partsGo_eq s 1 np (by omega) hp (by rw [h1]; exact h13)
  have e' : fX10_partsGo s 1 = _ := e
  refine ⟨_, e', h1, h2, fun q q1 q2 => ?_, fun q j hq hj => ?_, fun p hpp => ?_⟩
  · rw [gAn q2, gAn q1]; exact h3 q q1 q2
  · rcases hq with rfl | rfl
    · rw [gAn (by omega), gAe]
      unfold pgOld
      rw [if_neg (by omega)]
      exact h4 52 j (Or.inl rfl) hj
    · rw [gAe]
      unfold pgFst
      rw [if_neg (by omega)]
      exact h4 53 j (Or.inr rfl) hj
  · obtain ⟨l1, l2, l3, l4⟩ := hL p hpp
    obtain ⟨a1, a2⟩ := h5 p hpp
    have g27 : gA s 0 27 (6 + p - 6 * 1) = nI (L p) := by rw [h3 27 (by omega) (by omega), show 6 + p - 6 * 1 = p by omega]; exact l2
    have e52 : gA (sAr (sAr s 0 52 (pgOld s 1 np)) 0 53 (pgFst s 1 np)) 0 52 (6 + p) = if nI (L p) ≤ gA s 0 52 (6 + p) + 1 then 0 else gA s 0 52 (6 + p) + 1 := by
      rw [gAn (by omega), gAe]
      unfold pgOld
      rw [if_pos (by omega), g27]
    have e53 : gA (sAr (sAr s 0 52 (pgOld s 1 np)) 0 53 (pgFst s 1 np)) 0 53 (6 + p) = if nI (L p) ≤ gA s 0 52 (6 + p) + 1 then 0 else gA s 0 53 (6 + p) := by
      rw [gAe]
      unfold pgFst
      rw [g27]
      by_cases c : nI (L p) ≤ gA s 0 52 (6 + p) + 1
      · rw [if_pos ⟨by omega, by omega, c⟩, if_pos c]
      · rw [if_neg (fun z => c z.2.2), if_neg c]
    rw [e52, e53]
    constructor
    · intro hlt
      obtain ⟨b1, b2⟩ := a1 (by omega)
      have hy : yrs (L p) (v p) = L p - v p := by
        unfold yrs at *
        split at hlt
        · rename_i w
          rw [if_pos w]
        · omega
      rw [b1, nI_1, if_neg (fun z => by have := (leN (by omega) (by omega)).mp z; omega), if_neg (fun z => by have := (leN (by omega) (by omega)).mp z; omega)]
      exact ⟨rfl, b2⟩
    · intro hle
      by_cases c : yrs (L p) (v p) ≤ k
      · rw [a2 c]
        split <;> rfl
      · obtain ⟨b1, b2⟩ := a1 (by omega)
        have hy : L p ≤ v p + k + 1 := by
          unfold yrs at hle
          split at hle <;> omega
        rw [b1, nI_1, if_pos ((leN (by omega) (by omega)).mpr hy)]
theorem pI_0 {t : Bool} {n np m : Nat} {L v : Nat → Nat} {σ σ' σB : St} (R : REL0 t n np σB σ) (h1 : ∀ p, p < np → gA σ 0 53 p = if m.testBit p then 1 else 0) (h2 : ∀ p, p < np → gA σ 0 52 p = nI (v p) ∧ v p ≤ 99 ∧ gA σ 0 27 p = nI (L p) ∧ 1 ≤ L p ∧ L p ≤ 99) (l6 : ∀ k j, 46 ≤ k → k ≤ 53 → j < 6 → gA σ' 0 k j = gA σ 0 k j ∧ gA σ' 0 k (6 + j) = nrw k (gA σ 0 k j)) : pI np m L v σ' 0 σ' := by
  have hp6 := R.2.2.1.p6
  refine ⟨rfl, rfl, fun _ _ _ => rfl, fun _ _ _ _ => rfl, fun p hp => ⟨fun _ => ⟨?_, ?_⟩, fun z => ?_⟩⟩
  · rw [(l6 52 p (by omega) (by omega) (by omega)).2, (h2 p hp).1]
    rfl
  · rw [(l6 53 p (by omega) (by omega) (by omega)).2, h1 p hp]
    unfold nrw
    rw [if_pos (Or.inr rfl)]
    exact narB (by split <;> simp)
  · have := yrs_le (o := v p) (h2 p hp).2.2.2.2
    omega
theorem pI_q {np m k : Nat} {L v : Nat → Nat} {σ s : St} (h : pI np m L v σ k s) : qM σ s := by
  obtain ⟨h1, h2, h3, h4, h5⟩ := h
  refine ⟨fun k _ _ _ => by rw [h1], fun k h _ => h3 k (by omega) (by omega), fun k j k1 k2 k3 => ?_, fun k k1 k2 => by rw [h3 k (by omega) (by omega)], by rw [h2], by rw [h2]⟩
  by_cases e : k = 52 ∨ k = 53
  · exact h4 k j e k3
  · rw [h3 k (by omega) (by omega)]
theorem pI_same {np m k : Nat} {L v : Nat → Nat} {σ s : St} (hp : np ≤ 6) (h13 : gI σ 0 13 = nI np) (h : pI np m L v σ k s) : fX10_sameOf s 1 = some (nI (cntF (fun p => m.testBit p && decide (k < yrs (L p) (v p))) np)) := by
  obtain ⟨h1, h2, h3, h4, h5⟩ := h
  refine sameOf_eq (b := 1) (by omega) hp (by rw [h1]; exact h13) (fun p hpp => ?_)
  rw [show 6 * 1 + p = 6 + p by omega]
  obtain ⟨a1, a2⟩ := h5 p hpp
  by_cases c : k < yrs (L p) (v p)
  · rw [(a1 c).2, decide_eq_true c, Bool.and_true]
  · rw [a2 (by omega), decide_eq_false c, Bool.and_false]
    rfl
theorem st31 : ST31 REL := by
  rintro σB σM a0 ⟨t, n, np, R⟩
  have R0 := R.th
  have hp6 := R.2.2.1.p6
  unfold fX9_sameIn fX10_sameIn
  simp only [lt_eq, jnx1_eq, isWithin_eq, isInM_eq, bS, ifi0]
  by_cases c0 : (0 : Int32) ≤ a0 ∧ a0 ≤ 999
  · rw [if_pos c0, if_pos c0]
    obtain ⟨k, -, hk, rfl⟩ := in_nat 0 999 c0 (by omega) (by omega)
    generalize sI σM 0 2 0 = σ1 at *
    obtain ⟨m, L, v, h1, h2, h3⟩ := partsLeft_eq (k := k) R0 (by omega)
    obtain ⟨σ3, l1, l2, l3, l4, l5, l6, l7⟩ := layTried_eq σ1
    have QM3 : qM σ1 σ3 := ⟨fun k _ _ h => l3 k (by omega), fun k h _ => l5 k h, fun k j k1 k2 k3 => (l6 k j k1 k2 k3).1, fun k k1 k2 => (l7 k k1 k2).1, by rw [l4], by rw [l4]⟩
    have R3 := R0.q (qB.rf _) QM3
    have hL : ∀ p, p < np → v p ≤ 99 ∧ gA σ3 0 27 p = nI (L p) ∧ 1 ≤ L p ∧ L p ≤ 99 := fun p hp => ⟨(h2 p hp).2.1, by rw [l5 27 (by omega)]; exact (h2 p hp).2.2.1, (h2 p hp).2.2.2⟩
    rw [h3, bS, l1, bVs]
    generalize hFU : FU = Z
    refine lpx2_wp (fun q => SIM (fun (q : Int32) (q' : Int32 × St) => q = q'.1 ∧ REL σB q'.2) (some (nI (cntF (fun p => m.testBit p && decide (k < yrs (L p) (v p))) np))) q) (fun j x s => ∃ i, i + j = k ∧ x = nI i ∧ pI np m L v σ3 i s) ?_ Z k 0 σ3 (by rw [← hFU]; exact FU_gt (by omega)) ⟨0, by omega, rfl, pI_0 R0 h1 h2 l6⟩
    rintro j self x s ⟨i, hi, rfl, hP⟩ ih
    by_cases c : k ≤ i
    · rw [if_pos ((leN (by omega) (by omega)).mpr c)]
      have hik : i = k := by omega
      subst hik
      rw [pI_same hp6 R3.2.2.1.pM hP, bS]
      exact SIM.ret ⟨rfl, (R3.q (qB.rf _) (pI_q hP)).r⟩
    · rw [if_neg (fun z => c ((leN (by omega) (by omega)).mp z))]
      obtain ⟨s', e1, e2⟩ := pI_step hp6 (by omega) R3.2.2.1.pM hL hP
      rw [e1, bVs]
      exact ih (j - 1) _ _ (by omega) ⟨i + 1, by omega, nI_1 i, e2⟩
  · rw [if_neg c0, if_neg c0]
    exact SIM.ret ⟨rfl, R0.r⟩
/-- the greatest of those that are so -/
def mxF (f : Nat → Bool) (w : Nat → Nat) : Nat → Nat
  | 0 => 0
  | i + 1 => if f i then (if mxF f w i < w i then w i else mxF f w i) else mxF f w i
theorem mxF_s (f : Nat → Bool) (w : Nat → Nat) (i : Nat) : mxF f w (i + 1) = if f i then (if mxF f w i < w i then w i else mxF f w i) else mxF f w i := rfl
theorem mxF_le {f : Nat → Bool} {w : Nat → Nat} {B : Nat} : ∀ n, (∀ i, i < n → w i ≤ B) → mxF f w n ≤ B
  | 0, _ => Nat.zero_le _
  | n + 1, h => by
    have := mxF_le (f := f) n (fun i hi => h i (by omega))
    have := h n (by omega)
    rw [mxF_s]
    split
    · split <;> omega
    · omega
theorem mxF_lt {f : Nat → Bool} {w : Nat → Nat} {k : Nat} : ∀ n, (k < mxF f w n ↔ ∃ i, i < n ∧ f i = true ∧ k < w i)
  | 0 => ⟨fun h => absurd h (by unfold mxF; omega), fun ⟨i, hi, _⟩ => absurd hi (by omega)⟩
  | n + 1 => by
    have ih := mxF_lt (f := f) (w := w) (k := k) n
    constructor
    · intro h
      rw [mxF_s] at h
      split at h
      · rename_i hf
        split at h
        · exact ⟨n, by omega, hf, h⟩
        · obtain ⟨i, hi, h1⟩ := ih.mp h
          exact ⟨i, by omega, h1⟩
      · obtain ⟨i, hi, h1⟩ := ih.mp h
        exact ⟨i, by omega, h1⟩
    · rintro ⟨i, hi, h1, h2⟩
      rw [mxF_s]
      by_cases e : i = n
      · subst e
        rw [if_pos h1]
        split <;> omega
      · have h3 := ih.mpr ⟨i, by omega, h1, h2⟩
        split
        · split <;> omega
        · exact h3
theorem st20 : ST20 REL := by
  rintro σB σM ⟨t, n, np, R⟩
  have R0 := R.th
  have hp6 := R.2.2.1.p6
  unfold fX10_noneLeft
  rw [lt_eq]
  generalize sI σM 0 2 0 = σ1 at *
  obtain ⟨m, m1, m2, m3, m4, m5, m6⟩ := R0.prt
  obtain ⟨L, hL⟩ : ∃ L : Nat → Nat, ∀ p, p < np → gA σ1 0 27 p = nI (L p) ∧ 1 ≤ L p ∧ L p ≤ 99 := ⟨fun p => (gA σ1 0 27 p).toNatClampNeg, fun p hp => by
    obtain ⟨-, L, L0, L1, L2⟩ := m6 p hp
    simp only [L2, clN (show L < 1000000 by omega)]
    exact ⟨trivial, L0, L1⟩⟩
  obtain ⟨v, hv⟩ : ∃ v : Nat → Nat, ∀ p, p < np → gA σ1 0 52 p = nI (v p) ∧ v p ≤ 99 := ⟨fun p => (gA σ1 0 52 p).toNatClampNeg, fun p hp => by
    obtain ⟨-, v, v1, v2⟩ := m5 p hp
    simp only [v2, clN (show v < 1000000 by omega)]
    exact ⟨trivial, v1⟩⟩
  have hW : mxF (fun p => m.testBit p) (fun p => yrs (L p) (v p)) np ≤ 99 := mxF_le np (fun i hi => (yrs_le (hL i hi).2.2).2)
  have eB : fX9_noneLeft σB = some (nI (mxF (fun p => m.testBit p) (fun p => yrs (L p) (v p)) np)) := by
    unfold fX9_noneLeft
    rw [R0.1, R0.2.2.1.pB]
    generalize hFU : FU = Z
    refine lpx2_wp (fun q => q = some (nI (mxF (fun p => m.testBit p) (fun p => yrs (L p) (v p)) np))) (fun j x y => ∃ i, i + j = np ∧ y = nI i ∧ x = nI (mxF (fun p => m.testBit p) (fun p => yrs (L p) (v p)) i)) ?_ Z np 0 0 (by rw [← hFU]; exact FU_gt (by omega)) ⟨0, by omega, rfl, rfl⟩
    rintro j self x y ⟨i, hi, rfl, rfl⟩ ih
    have hWi : mxF (fun p => m.testBit p) (fun p => yrs (L p) (v p)) i ≤ 99 := mxF_le i (fun q hq => (yrs_le (hL q (by omega)).2.2).2)
    by_cases c : np ≤ i
    · rw [if_pos ((leN (by omega) (by omega)).mpr c)]
      have hin : i = np := by omega
      subst hin
      simp only [jnx1_eq]
      rw [if_neg (show ¬ (999 : Int32) < nI (mxF (fun p => m.testBit p) (fun p => yrs (L p) (v p)) i) from fun z => by have := (ltN (a := 999) (by omega) (by omega)).mp z; omega)]
    · have hpi : i < np := by omega
      have hy := yrs_le (o := v i) (hL i hpi).2.2
      rw [if_neg (fun z => c ((leN (by omega) (by omega)).mp z)), isFirst_eq m3 m2 (by omega), bS, ytr_eq (L := L i) (v := v i) (show i < 6 by omega) ((m6 i hpi).1.trans (hL i hpi).1) (hL i hpi).2.2 ((m5 i hpi).1.trans (hv i hpi).1) (hv i hpi).2]
      simp only [bS, jnx1_eq, lt_eq, ifi0]
      cases hf : m.testBit i
      · rw [if_neg (by simp)]
        exact ih (j - 1) _ _ (by omega) ⟨i + 1, by omega, nI_1 i, by rw [mxF_s]; simp only [hf]; rfl⟩
      · rw [if_pos rfl]
        refine ih (j - 1) _ _ (by omega) ⟨i + 1, by omega, nI_1 i, ?_⟩
        rw [mxF_s]
        simp only [hf, if_true]
        unfold iMax
        by_cases d : mxF (fun p => m.testBit p) (fun p => yrs (L p) (v p)) i < yrs (L i) (v i)
        · rw [if_pos ((ltN (by omega) (by omega)).mpr d), if_pos d]
        · rw [if_neg (fun z => d ((ltN (by omega) (by omega)).mp z)), if_neg d]
  rw [eB]
  obtain ⟨σ3, l1, l2, l3, l4, l5, l6, l7⟩ := layTried_eq σ1
  have QM3 : qM σ1 σ3 := ⟨fun k _ _ h => l3 k (by omega), fun k h _ => l5 k h, fun k j k1 k2 k3 => (l6 k j k1 k2 k3).1, fun k k1 k2 => (l7 k k1 k2).1, by rw [l4], by rw [l4]⟩
  have R3 := R0.q (qB.rf _) QM3
  have hL3 : ∀ p, p < np → v p ≤ 99 ∧ gA σ3 0 27 p = nI (L p) ∧ 1 ≤ L p ∧ L p ≤ 99 := fun p hp => ⟨(hv p hp).2, by rw [l5 27 (by omega)]; exact (hL p hp).1, (hL p hp).2⟩
  have P0 : pI np m L v σ3 0 σ3 := pI_0 R0 m4 (fun p hp => ⟨(hv p hp).1, (hv p hp).2, (hL p hp).1, (hL p hp).2⟩) l6
  have hlt : ∀ k, k < mxF (fun p => m.testBit p) (fun p => yrs (L p) (v p)) np ↔ ¬ cntF (fun p => m.testBit p && decide (k < yrs (L p) (v p))) np = 0 := fun k => by
    rw [mxF_lt, cntF_0]
    constructor
    · rintro ⟨i, hi, h1, h2⟩ z
      have := z i hi
      simp only [h1, decide_eq_true h2, Bool.and_true] at this
      exact absurd this (by decide)
    · intro z
      refine Classical.byContradiction (fun w => z (fun i hi => ?_))
      cases hf : m.testBit i
      · rfl
      · by_cases d : k < yrs (L i) (v i)
        · exact absurd ⟨i, hi, hf, d⟩ w
        · rw [decide_eq_false d]
          rfl
  generalize mxF (fun p => m.testBit p) (fun p => yrs (L p) (v p)) np = W at hW hlt
  rw [l1, bVs]
  generalize hFU : FU = Z
  refine lpx2_wp (fun q => SIM (fun (q : Int32) (q' : Int32 × St) => q = q'.1 ∧ REL σB q'.2) (some (nI W)) q) (fun j x s => ∃ i, i + j = W ∧ x = nI i ∧ pI np m L v σ3 i s) ?_ Z W 0 σ3 (by rw [← hFU]; exact FU_gt (by omega)) ⟨0, by omega, rfl, P0⟩
  rintro j self x s ⟨i, hi, rfl, hP⟩ ih
  rw [if_neg (show ¬ (999 : Int32) < nI i from fun z => by have := (ltN (a := 999) (b := i) (by omega) (by omega)).mp z; omega), pI_same hp6 R3.2.2.1.pM hP, bS]
  have hcl := cntF_le (fun p => m.testBit p && decide (i < yrs (L p) (v p))) np
  by_cases c : W ≤ i
  · have hiW : i = W := by omega
    have h0 : cntF (fun p => m.testBit p && decide (i < yrs (L p) (v p))) np = 0 := Classical.byContradiction (fun z => by have := (hlt i).mpr z; omega)
    rw [h0, if_pos (show nI 0 = 0 from rfl), hiW]
    exact SIM.ret ⟨rfl, (R3.q (qB.rf _) (pI_q hP)).r⟩
  · have h0 := (hlt i).mp (by omega)
    rw [if_neg (show ¬ nI (cntF (fun p => m.testBit p && decide (i < yrs (L p) (v p))) np) = 0 from fun z => h0 ((nI_eq (b := 0) (by omega) (by omega)).mp z))]
    obtain ⟨s', e1, e2⟩ := pI_step hp6 (by omega) R3.2.2.1.pM hL3 hP
    rw [e1, bVs]
    exact ih (j - 1) _ _ (by omega) ⟨i + 1, by omega, nI_1 i, e2⟩
