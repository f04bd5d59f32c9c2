/-! QUESTIONS: small words -/
theorem isInM_eq (σ : St) (a l u : Int32) : fX10_isIn σ a l u = some (if l ≤ a ∧ a ≤ u then 1 else 0) := by
  unfold fX10_isIn
  simp only [jnx1_eq, gdb0, gdb1]
  by_cases h1 : a < l
  · rw [if_pos h1, if_neg (fun z => Int32.not_le.mpr h1 z.1)]
  · rw [if_neg h1]
    by_cases h2 : u < a
    · rw [if_pos h2, if_neg (fun z => Int32.not_le.mpr h2 z.2)]
    · rw [if_neg h2, if_pos ⟨Int32.not_lt.mp h1, Int32.not_lt.mp h2⟩]
theorem in_nat {a : Int32} (l u : Nat) (h : nI l ≤ a ∧ a ≤ nI u) (hu : u < 1000000) (hl : l ≤ u) : ∃ k, l ≤ k ∧ k ≤ u ∧ a = nI k := by
  obtain ⟨h1, h2⟩ := h
  rw [i32le, nI_toInt (by omega)] at h1 h2
  obtain ⟨k, hk, rfl⟩ := i32_nat (x := a) (N := u + 1) (by omega) (by omega) (by omega)
  rw [nI_toInt (by omega)] at h1
  exact ⟨k, by omega, by omega, rfl⟩
theorem house_nat {n : Nat} {x : Int32} (hn : n ≤ 6) (h : 0 ≤ x ∧ x < nI n) : ∃ k, k < n ∧ x = nI k := by
  obtain ⟨h1, h2⟩ := h
  rw [i32le] at h1
  rw [i32lt, nI_toInt (by omega)] at h2
  have e0 : (0 : Int32).toInt = 0 := rfl
  exact i32_nat (by omega) (by omega) (by omega)
theorem house_is {n k : Nat} (hn : n ≤ 6) (h : k < n) : 0 ≤ nI k ∧ nI k < nI n := ⟨nI_pos' (by omega), (ltN (by omega) (by omega)).mpr h⟩
theorem isHouseM_eq {σ : St} {n : Nat} (x : Int32) (h : gI σ 0 12 = nI n) : fX10_isHouse σ x = some (if 0 ≤ x ∧ x < nI n then 1 else 0) := by
  unfold fX10_isHouse
  simp only [jnx1_eq, gdb0, gdb1, h]
  by_cases h1 : x < 0
  · rw [if_pos h1, if_neg (fun z => Int32.not_le.mpr h1 z.1)]
  · rw [if_neg h1]
    by_cases h2 : nI n ≤ x
    · rw [if_pos h2, if_neg (fun z => Int32.not_le.mpr z.2 h2)]
    · rw [if_neg h2, if_pos ⟨Int32.not_lt.mp h1, Int32.not_le.mp h2⟩]
theorem isHouseB_eq {σ : St} {n : Nat} (x : Int32) (hn : n ≤ 6) (h : gI σ (tx (gR σ 0)) 1 = nI n) : fX9_isHouse σ x = some (if 0 ≤ x ∧ x < nI n then 1 else 0) := by
  unfold fX9_isHouse
  simp only [jnx1_eq, gdb0, gdb1, h]
  by_cases h1 : x < 0
  · rw [if_pos h1, if_neg (fun z => Int32.not_le.mpr h1 z.1)]
  · rw [if_neg h1]
    by_cases h2 : nI n ≤ x
    · rw [if_pos h2, if_neg (fun z => Int32.not_le.mpr z.2 h2)]
    · obtain ⟨k, hk, rfl⟩ := house_nat hn ⟨Int32.not_lt.mp h1, Int32.not_le.mp h2⟩
      rw [if_neg h2, if_neg (show ¬ (6 : Int32) ≤ nI k from fun z => by have := (leN (a := 6) (b := k) (by omega) (by omega)).mp z; omega), if_pos ⟨Int32.not_lt.mp h1, Int32.not_le.mp h2⟩]
theorem isOnNow_eq {σ : St} {n : Nat} (x : Int32) (hn : n ≤ 6) (h : gI σ 0 12 = nI n) (hb : ∀ j, j < n → gA σ 0 49 j = 0 ∨ gA σ 0 49 j = 1) : fX10_isOnNow σ x = some (if (0 ≤ x ∧ x < nI n) ∧ gA σ 0 49 x.toNatClampNeg = 1 then 1 else 0) := by
  unfold fX10_isOnNow
  rw [isHouseM_eq x h, bS]
  simp only [jnx1_eq, gdb0, gdb1, ifi0]
  by_cases c : 0 ≤ x ∧ x < nI n
  · rw [if_pos c]
    obtain ⟨k, hk, rfl⟩ := house_nat hn c
    rw [gdN (show k < 12 by omega) (by omega), clN (by omega)]
    rcases hb k hk with e | e
    · rw [e, if_pos rfl, if_neg (fun z => absurd z.2 (by decide))]
    · rw [e, if_neg ne10, if_pos ⟨c, rfl⟩]
  · rw [if_neg c, if_neg (fun z => c z.1)]
theorem isInB_eq {σB σM : St} {n BM Y : Nat} (x : Int32) (hn : n ≤ 6) (h : gI σB (tx (gR σB 0)) 1 = nI n) (S : SR n BM Y σB 5 σM 0) : fX9_isIn σB x = some (if (0 ≤ x ∧ x < nI n) ∧ gA σM 0 49 x.toNatClampNeg = 1 then 1 else 0) := by
  have hp6 := pow6 hn
  unfold fX9_isIn
  rw [isHouseB_eq x hn h, bS]
  simp only [jnx1_eq, gdb0, gdb1, ifi0]
  by_cases c : 0 ≤ x ∧ x < nI n
  · rw [if_pos c]
    obtain ⟨k, hk, rfl⟩ := house_nat hn c
    obtain ⟨m, m1, m2, m3⟩ := S.2.1
    have m4 := m3 k hk
    rw [show 6 * 0 + k = k by omega] at m4
    rw [holds_eq m2 (by omega) (by omega), bS, clN (by omega), m4, ifi0]
    cases m.testBit k
    · rw [if_neg (by simp), if_neg (by simp)]
    · rw [if_pos rfl, if_pos ⟨c, rfl⟩]
  · rw [if_neg c, if_neg (fun z => c z.1)]
theorem SR.bool0 {n BM Y o : Nat} {σB σM : St} (h : SR n BM Y σB o σM 0) : ∀ j, j < n → gA σM 0 49 j = 0 ∨ gA σM 0 49 j = 1 := fun j hj => by
  have := h.bool hj
  rw [show 6 * 0 + j = j by omega] at this
  exact this
/-- the bits of who is in -/
def cntB (m : Nat) : Nat → Nat
  | 0 => 0
  | i + 1 => cntB m i + (if m.testBit i then 1 else 0)
theorem cntB_s (m i : Nat) : cntB m (i + 1) = cntB m i + (if m.testBit i then 1 else 0) := rfl
theorem cnt_le (m : Nat) : ∀ i, cntB m i ≤ i
  | 0 => Nat.le_refl _
  | i + 1 => by
    have := cnt_le m i
    unfold cntB
    split <;> omega
theorem cnt_low : ∀ n, n < 7 → ∀ m, m < 64 → m < 2 ^ n → cntB m 6 = cntB m n := by decide +kernel
theorem bitc : ∀ m, m < 64 → ∃ x : Int32, x = nI (cntB m 6) ∧ (fun p0 : Int32 => (fun x1 : Int32 => (fun x2 : Int32 => (fun x3 : Int32 => (fun x4 : Int32 => (fun x5 : Int32 => (x5 &&& (63 : Int32))) (x4 + ((Int32.toUInt32 x4 >>> (Int32.toUInt32 (16 : Int32) &&& Int32.toUInt32 31)).toInt32))) (x3 + ((Int32.toUInt32 x3 >>> (Int32.toUInt32 (8 : Int32) &&& Int32.toUInt32 31)).toInt32))) ((x2 + ((Int32.toUInt32 x2 >>> (Int32.toUInt32 (4 : Int32) &&& Int32.toUInt32 31)).toInt32)) &&& (252645135 : Int32))) ((x1 &&& (858993459 : Int32)) + (((Int32.toUInt32 x1 >>> (Int32.toUInt32 (2 : Int32) &&& Int32.toUInt32 31)).toInt32) &&& (858993459 : Int32)))) (p0 - (((Int32.toUInt32 p0 >>> (Int32.toUInt32 (1 : Int32) &&& Int32.toUInt32 31)).toInt32) &&& (1431655765 : Int32)))) (nI m) = x := by
  have key : ∀ m, m < 64 → (fun p0 : Int32 => (fun x1 : Int32 => (fun x2 : Int32 => (fun x3 : Int32 => (fun x4 : Int32 => (fun x5 : Int32 => (x5 &&& (63 : Int32))) (x4 + ((Int32.toUInt32 x4 >>> (Int32.toUInt32 (16 : Int32) &&& Int32.toUInt32 31)).toInt32))) (x3 + ((Int32.toUInt32 x3 >>> (Int32.toUInt32 (8 : Int32) &&& Int32.toUInt32 31)).toInt32))) ((x2 + ((Int32.toUInt32 x2 >>> (Int32.toUInt32 (4 : Int32) &&& Int32.toUInt32 31)).toInt32)) &&& (252645135 : Int32))) ((x1 &&& (858993459 : Int32)) + (((Int32.toUInt32 x1 >>> (Int32.toUInt32 (2 : Int32) &&& Int32.toUInt32 31)).toInt32) &&& (858993459 : Int32)))) (p0 - (((Int32.toUInt32 p0 >>> (Int32.toUInt32 (1 : Int32) &&& Int32.toUInt32 31)).toInt32) &&& (1431655765 : Int32)))) (nI m) = nI (cntB m 6) := by decide +kernel
  exact fun m hm => ⟨_, rfl, key m hm⟩
theorem bitCount_eq (σ : St) {m : Nat} (hm : m < 64) : fJ6_bitCount_0f7a4 σ (nI m) = some (nI (cntB m 6)) := by
  obtain ⟨x, rfl, h⟩ := bitc m hm
  unfold fJ6_bitCount_0f7a4
  simp only [lt_eq]
  exact congrArg some h
theorem onMany_eq {σ : St} {n b m : Nat} (hn : n ≤ 6) (hb : b < 2) (h : gI σ 0 12 = nI n) (hm : ∀ j, j < n → gA σ 0 49 (6 * b + j) = if m.testBit j then 1 else 0) : fX10_onMany σ (nI b) = some (nI (cntB m n)) := by
  unfold fX10_onMany
  generalize hFU : FU = Z
  refine lpx2_wp (fun q => q = some (nI (cntB m n))) (fun j x x2 => ∃ i, i + j = n ∧ x2 = nI i ∧ x = nI (cntB m i)) ?_ Z n 0 0 (by rw [← hFU]; exact FU_gt (by omega)) ⟨0, by omega, rfl, rfl⟩
  rintro j self x x2 ⟨i, hi, rfl, rfl⟩ ih
  rw [h]
  by_cases c : n ≤ i
  · rw [if_pos ((leN (by omega) (by omega)).mpr c), show i = n by omega]
  · rw [if_neg (fun z => c ((leN (by omega) (by omega)).mp z)), isOn_eq h hn hb (show i < n by omega) (hm i (by omega)), bS]
    simp only [jnx1_eq, lt_eq, ifi0]
    cases hq : m.testBit i
    · rw [if_neg (by simp)]
      exact ih (j - 1) _ _ (by omega) ⟨i + 1, by omega, nI_1 i, by rw [show (0 : Int32) = nI 0 from rfl, nI_add, cntB_s, hq]; rfl⟩
    · rw [if_pos rfl]
      exact ih (j - 1) _ _ (by omega) ⟨i + 1, by omega, nI_1 i, by rw [nI_1, cntB_s, hq]; rfl⟩
theorem or_bit : ∀ m, m < 64 → ∀ i, i < 6 → (nI (m % 2 ^ i) ||| (if m.testBit i then (1 : Int32) <<< (nI i &&& 31) else 0)) = nI (m % 2 ^ (i + 1)) := by decide +kernel
theorem two_sim {σB σM : St} {n BM Y : Nat} (a c : Int32) (hn : n ≤ 6) (hB : gI σB (tx (gR σB 0)) 1 = nI n) (hM : gI σM 0 12 = nI n) (S : SR n BM Y σB 5 σM 0) : fX9_areTwoIn σB a c = fX10_areTwo σM a c ∧ ((∃ i j, i < n ∧ j < n ∧ a = nI i ∧ c = nI j ∧ i ≠ j ∧ gA σM 0 49 i = 1 ∧ gA σM 0 49 j = 1 ∧ fX10_areTwo σM a c = some 1) ∨ fX10_areTwo σM a c = some 0) := by
  unfold fX9_areTwoIn fX10_areTwo
  rw [isInB_eq a hn hB S, isInB_eq c hn hB S, isOnNow_eq a hn hM S.bool0, isOnNow_eq c hn hM S.bool0]
  simp only [bS, jnx1_eq, gdb0, gdb1, ifi0]
  by_cases e : a = c
  · subst e
    rw [if_pos rfl]
    by_cases c1 : (0 ≤ a ∧ a < nI n) ∧ gA σM 0 49 a.toNatClampNeg = 1
    · rw [if_pos c1, if_pos c1, if_pos rfl]
      exact ⟨rfl, Or.inr rfl⟩
    · rw [if_neg c1]
      exact ⟨rfl, Or.inr rfl⟩
  · rw [if_neg e]
    by_cases c1 : (0 ≤ a ∧ a < nI n) ∧ gA σM 0 49 a.toNatClampNeg = 1
    · rw [if_pos c1, if_pos c1]
      by_cases c2 : (0 ≤ c ∧ c < nI n) ∧ gA σM 0 49 c.toNatClampNeg = 1
      · rw [if_pos c2, if_pos c2, if_neg e]
        obtain ⟨i, hi, rfl⟩ := house_nat hn c1.1
        obtain ⟨j, hj, rfl⟩ := house_nat hn c2.1
        have c3 := c1.2
        have c4 := c2.2
        rw [clN (by omega)] at c3 c4
        exact ⟨rfl, Or.inl ⟨i, j, hi, hj, rfl, rfl, fun z => e (by rw [z]), c3, c4, rfl⟩⟩
      · rw [if_neg c2, if_neg c2]
        exact ⟨rfl, Or.inr rfl⟩
    · rw [if_neg c1, if_neg c1]
      exact ⟨rfl, Or.inr rfl⟩
