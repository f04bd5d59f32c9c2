/-! what some houses have together -/
theorem bit01 : ∀ m, m < 64 → ∀ h, h < 6 → (nI m >>> (nI h &&& 31)) &&& (1 : Int32) = if m.testBit h then 1 else 0 := by decide +kernel
theorem sum_sim {t : Bool} {n np : Nat} {σB σM : St} {m : Nat} (R : REL0 t n np σB σM) (hm : m < 64) : ∃ v, v ≤ 60000 ∧ fX9_sumOfBounds σB (nI m) = some (nI v) ∧ fX10_boundsOf σM (nI m) = some (nI v) := by
  have hn6 := R.2.2.1.n6
  have key : SIM (fun a b => a = b ∧ ∃ v, v ≤ 60000 ∧ a = nI v) (fX9_sumOfBounds σB (nI m)) (fX10_boundsOf σM (nI m)) := by
    unfold fX9_sumOfBounds fX10_boundsOf
    rw [R.1, R.2.2.1.hB, R.2.2.1.hM]
    simp only [isOf_eq, bS, jnx1_eq, lt_eq, ifi0]
    generalize hFU : FU = Z
    refine simlp2_2 _ (fun j x y x' y' => ∃ i v, i + j = n ∧ y = nI i ∧ y' = nI i ∧ x = nI v ∧ x' = nI v ∧ v ≤ 9999 * i) ?_ Z Z n 0 0 0 0 (by rw [← hFU]; exact FU_gt (by omega)) (by rw [← hFU]; exact FU_gt (by omega)) ⟨0, 0, by omega, rfl, rfl, rfl, rfl, by omega⟩
    rintro j sF sG x y x' y' ⟨i, v, hi, rfl, rfl, rfl, rfl, hv⟩ ih
    by_cases c : n ≤ i
    · rw [if_pos ((leN (by omega) (by omega)).mpr c), if_pos ((leN (by omega) (by omega)).mpr c)]
      exact SIM.ret ⟨rfl, v, by omega, rfl⟩
    · obtain ⟨w, -, w1, w2⟩ := R.2.2.2.1.2.2.2.1 i (by omega)
      have b0 : gA σB 5 0 i = gA σM 0 46 i := R.a5 0 i (by omega) (by omega)
      rw [if_neg (fun z => c ((leN (by omega) (by omega)).mp z)), if_neg (fun z => c ((leN (by omega) (by omega)).mp z)), gdN (show i < 6 by omega) (by omega), gdN (show i < 12 by omega) (by omega), clN (by omega), ← b0, w2, bit01 m hm i (by omega)]
      cases m.testBit i
      · simp only [Bool.false_eq_true, if_false, if_neg (show ¬ (0 : Int32) = 1 by decide)]
        have e1 : nI v + (0 : Int32) * nI w = nI v := by rw [show (0 : Int32) = nI 0 from rfl, pk_mul, nI_add, Nat.zero_mul, Nat.add_zero]
        have e2 : nI v + (0 : Int32) = nI v := by rw [show (0 : Int32) = nI 0 from rfl, nI_add, Nat.add_zero]
        rw [e1, e2]
        exact ih (j - 1) _ _ _ _ (by omega) ⟨i + 1, v, by omega, nI_1 i, nI_1 i, rfl, rfl, by omega⟩
      · simp only [if_true]
        have e1 : nI v + (1 : Int32) * nI w = nI (v + w) := by rw [show (1 : Int32) = nI 1 from rfl, pk_mul, nI_add, Nat.one_mul]
        rw [e1, nI_add]
        exact ih (j - 1) _ _ _ _ (by omega) ⟨i + 1, v + w, by omega, nI_1 i, nI_1 i, rfl, rfl, by omega⟩
  obtain ⟨x, y, e1, e2, rfl, v, hv, rfl⟩ := key
  exact ⟨v, hv, e1, e2⟩
theorem some_bit : ∀ n, n < 7 → ∀ m, m < 64 → (m < 2 ^ n → (∀ j, j < n → m.testBit j = false) → m = 0) := by decide +kernel
theorem least_sim {t : Bool} {n np : Nat} {σB σM : St} {m : Nat} (R : REL0 t n np σB σM) (hm : m < 64) (hm2 : m < 2 ^ n) (hm0 : m ≠ 0) : ∃ v, 1 ≤ v ∧ v ≤ 99 ∧ fX9_leastStep σB (nI m) = some (nI v) ∧ fX10_leastStep σM (nI m) = some (nI v) := by
  have hn6 := R.2.2.1.n6
  have key : SIM (fun a b => a = b ∧ ∃ v, 1 ≤ v ∧ v ≤ 99 ∧ a = nI v) (fX9_leastStep σB (nI m)) (fX10_leastStep σM (nI m)) := by
    unfold fX9_leastStep fX10_leastStep
    rw [R.1, R.2.2.1.hB, R.2.2.1.hM]
    simp only [isOf_eq, bS, jnx1_eq, lt_eq, ifi0]
    generalize hFU : FU = Z
    refine simlp2_2 _ (fun j x y x' y' => ∃ i, i + j = n ∧ y = nI i ∧ y' = nI i ∧ ((x = 2147483647 ∧ x' = 99 ∧ ∀ q, q < i → m.testBit q = false) ∨ ∃ v, 1 ≤ v ∧ v ≤ 99 ∧ x = nI v ∧ x' = nI v)) ?_ Z Z n 2147483647 0 99 0 (by rw [← hFU]; exact FU_gt (by omega)) (by rw [← hFU]; exact FU_gt (by omega)) ⟨0, by omega, rfl, rfl, Or.inl ⟨rfl, rfl, fun q hq => by omega⟩⟩
    rintro j sF sG x y x' y' ⟨i, hi, rfl, rfl, hx⟩ ih
    by_cases c : n ≤ i
    · rw [if_pos ((leN (by omega) (by omega)).mpr c), if_pos ((leN (by omega) (by omega)).mpr c)]
      rcases hx with ⟨-, -, h3⟩ | ⟨v, v1, v2, rfl, rfl⟩
      · exact absurd (some_bit n (by omega) m hm hm2 (fun q hq => h3 q (by omega))) hm0
      · exact SIM.ret ⟨rfl, v, v1, v2, rfl⟩
    · obtain ⟨w, w0, w1, w2⟩ := R.2.2.1.stp i (by omega)
      have b0 : gA σB (tx t) 5 i = gA σM 0 23 i := R.2.2.1.hA 5 (by omega) (by omega) i (by omega)
      rw [if_neg (fun z => c ((leN (by omega) (by omega)).mp z)), if_neg (fun z => c ((leN (by omega) (by omega)).mp z)), gdN (show i < 6 by omega) (by omega), gdN (show i < 12 by omega) (by omega), gdN (show i < 12 by omega) (by omega), clN (by omega), b0, w2, bit01 m hm i (by omega)]
      cases hb : m.testBit i
      · simp only [Bool.false_eq_true, if_false, if_neg (show ¬ (0 : Int32) = 1 by decide)]
        refine ih (j - 1) _ _ _ _ (by omega) ⟨i + 1, by omega, nI_1 i, nI_1 i, ?_⟩
        rcases hx with ⟨h1, h2, h3⟩ | h
        · refine Or.inl ⟨h1, h2, fun q hq => ?_⟩
          by_cases e : q = i
          · rw [e]; exact hb
          · exact h3 q (by omega)
        · exact Or.inr h
      · simp only [if_true]
        rcases hx with ⟨rfl, rfl, -⟩ | ⟨v, v1, v2, rfl, rfl⟩
        · have e1 : iMin (2147483647 : Int32) (nI w) = nI w := by
            unfold iMin
            rw [if_pos]
            rw [i32lt, nI_toInt (by omega)]
            have : (2147483647 : Int32).toInt = 2147483647 := rfl
            omega
          rw [e1]
          by_cases d : 99 ≤ w
          · rw [if_pos (show (99 : Int32) ≤ nI w from (leN (a := 99) (b := w) (by omega) (by omega)).mpr d)]
            exact ih (j - 1) _ _ _ _ (by omega) ⟨i + 1, by omega, nI_1 i, nI_1 i, Or.inr ⟨w, by omega, by omega, rfl, by rw [show w = 99 by omega]; rfl⟩⟩
          · rw [if_neg (show ¬ (99 : Int32) ≤ nI w from fun z => d ((leN (a := 99) (b := w) (by omega) (by omega)).mp z))]
            exact ih (j - 1) _ _ _ _ (by omega) ⟨i + 1, by omega, nI_1 i, nI_1 i, Or.inr ⟨w, by omega, by omega, rfl, rfl⟩⟩
        · unfold iMin
          by_cases d : w < v
          · rw [if_pos ((ltN (by omega) (by omega)).mpr d), if_neg (fun z => by have := (leN (by omega) (by omega)).mp z; omega)]
            exact ih (j - 1) _ _ _ _ (by omega) ⟨i + 1, by omega, nI_1 i, nI_1 i, Or.inr ⟨w, by omega, by omega, rfl, rfl⟩⟩
          · rw [if_neg (fun z => d ((ltN (by omega) (by omega)).mp z)), if_pos ((leN (by omega) (by omega)).mpr (by omega))]
            exact ih (j - 1) _ _ _ _ (by omega) ⟨i + 1, by omega, nI_1 i, nI_1 i, Or.inr ⟨v, by omega, by omega, rfl, rfl⟩⟩
  obtain ⟨x, y, e1, e2, rfl, v, hv, hv2, rfl⟩ := key
  exact ⟨v, hv, hv2, e1, e2⟩
set_option maxHeartbeats 1000000 in
theorem gain_sim {t : Bool} {n np : Nat} {σB σM : St} {m : Nat} (R : REL0 t n np σB σM) (hm : m < 64) (hm2 : m < 2 ^ n) (hm0 : m ≠ 0) : ∃ r, fX9_gainOf σB (nI m) = some r ∧ fX10_hasOf σM (nI m) = some r := by
  have hn6 := R.2.2.1.n6
  obtain ⟨s, s1, s2, s3⟩ := sum_sim R hm
  obtain ⟨l, l0, l1, l2, l3⟩ := least_sim R hm hm2 hm0
  obtain ⟨b, b1, b2⟩ := R.2.2.2.1.2.2.2.2.2.2.2.1
  have b3 : gA σM 0 54 0 = nI b := by rw [← b2]; exact (R.s5 9 (by unfold isS; omega)).symm
  have key : SIM (fun a b => a = b) (fX9_gainOf σB (nI m)) (fX10_hasOf σM (nI m)) := by
    unfold fX9_gainOf fX10_hasOf
    rw [s2, s3, l2, l3, bS, bS, bS, bS, cl0, b2, b3]
    by_cases c : nI b + nI l ≤ nI s
    · rw [if_pos c, if_pos c]
      unfold fX9_greatestWorth
      rw [R.1, R.2.2.1.hB, R.2.2.1.hM]
      simp only [isOf_eq, bS, jnx1_eq, lt_eq, ifi0]
      have main : ∀ (Z : Nat), n < Z → SIM (fun a b => a = b) (Option.bind (lpx2 Z (fun self3 (x1 : Int32) (x2 : Int32) => if nI n ≤ x2 then (some x1) else (if ((nI m >>> (x2 &&& 31)) &&& (1 : Int32)) = (1 : Int32) then (gd (ixI x2 6) (self3 (iMax x1 (gA σB (tx t) 4 (Int32.toNatClampNeg x2))) (x2 + 1))) else (self3 x1 (x2 + 1)))) (0 : Int32) (0 : Int32)) fun r7 => some (iMax (0 : Int32) (r7 - nI b))) (lpx2 Z (fun self8 (x6 : Int32) (x7 : Int32) => if nI n ≤ x7 then (if x6 ≤ nI b then (some (0 : Int32)) else (some (x6 - nI b))) else (if ((nI m >>> (x7 &&& 31)) &&& (1 : Int32)) = (1 : Int32) then (gd (ixI x7 12) (if (gA σM 0 22 (Int32.toNatClampNeg x7)) ≤ x6 then (self8 x6 (x7 + 1)) else (gd (ixI x7 12) (self8 (gA σM 0 22 (Int32.toNatClampNeg x7)) (x7 + 1))))) else (self8 x6 (x7 + 1)))) (0 : Int32) (0 : Int32)) := by
        intro Z hZ
        have k1 : ∃ g, g ≤ 999 ∧ lpx2 Z (fun self3 (x1 : Int32) (x2 : Int32) => if nI n ≤ x2 then (some x1) else (if ((nI m >>> (x2 &&& 31)) &&& (1 : Int32)) = (1 : Int32) then (gd (ixI x2 6) (self3 (iMax x1 (gA σB (tx t) 4 (Int32.toNatClampNeg x2))) (x2 + 1))) else (self3 x1 (x2 + 1)))) (0 : Int32) (0 : Int32) = some (nI g) ∧ lpx2 Z (fun self8 (x6 : Int32) (x7 : Int32) => if nI n ≤ x7 then (if x6 ≤ nI b then (some (0 : Int32)) else (some (x6 - nI b))) else (if ((nI m >>> (x7 &&& 31)) &&& (1 : Int32)) = (1 : Int32) then (gd (ixI x7 12) (if (gA σM 0 22 (Int32.toNatClampNeg x7)) ≤ x6 then (self8 x6 (x7 + 1)) else (gd (ixI x7 12) (self8 (gA σM 0 22 (Int32.toNatClampNeg x7)) (x7 + 1))))) else (self8 x6 (x7 + 1)))) (0 : Int32) (0 : Int32) = (if nI g ≤ nI b then (some (0 : Int32)) else (some (nI g - nI b))) := by
          have k2 : SIM (fun a c => ∃ g, g ≤ 999 ∧ a = nI g ∧ c = (if nI g ≤ nI b then (0 : Int32) else nI g - nI b)) (lpx2 Z (fun self3 (x1 : Int32) (x2 : Int32) => if nI n ≤ x2 then (some x1) else (if ((nI m >>> (x2 &&& 31)) &&& (1 : Int32)) = (1 : Int32) then (gd (ixI x2 6) (self3 (iMax x1 (gA σB (tx t) 4 (Int32.toNatClampNeg x2))) (x2 + 1))) else (self3 x1 (x2 + 1)))) (0 : Int32) (0 : Int32)) (lpx2 Z (fun self8 (x6 : Int32) (x7 : Int32) => if nI n ≤ x7 then (if x6 ≤ nI b then (some (0 : Int32)) else (some (x6 - nI b))) else (if ((nI m >>> (x7 &&& 31)) &&& (1 : Int32)) = (1 : Int32) then (gd (ixI x7 12) (if (gA σM 0 22 (Int32.toNatClampNeg x7)) ≤ x6 then (self8 x6 (x7 + 1)) else (gd (ixI x7 12) (self8 (gA σM 0 22 (Int32.toNatClampNeg x7)) (x7 + 1))))) else (self8 x6 (x7 + 1)))) (0 : Int32) (0 : Int32)) := by
            refine simlp2_2 _ (fun j x y x' y' => ∃ i g, i + j = n ∧ y = nI i ∧ y' = nI i ∧ x = nI g ∧ x' = nI g ∧ g ≤ 999) ?_ Z Z n 0 0 0 0 hZ hZ ⟨0, 0, by omega, rfl, rfl, rfl, rfl, by omega⟩
            rintro j sF sG x y x' y' ⟨i, g, hi, rfl, rfl, rfl, rfl, hg⟩ ih
            by_cases ci : n ≤ i
            · rw [if_pos ((leN (by omega) (by omega)).mpr ci), if_pos ((leN (by omega) (by omega)).mpr ci)]
              by_cases d : nI g ≤ nI b
              · rw [if_pos d]
                exact SIM.ret ⟨g, hg, rfl, by rw [if_pos d]⟩
              · rw [if_neg d]
                exact SIM.ret ⟨g, hg, rfl, by rw [if_neg d]⟩
            · obtain ⟨w, -, w1, w2⟩ := R.2.2.1.rg.2.1 i (by omega)
              have b0 : gA σB (tx t) 4 i = gA σM 0 22 i := R.2.2.1.hA 4 (by omega) (by omega) i (by omega)
              rw [if_neg (fun z => ci ((leN (by omega) (by omega)).mp z)), if_neg (fun z => ci ((leN (by omega) (by omega)).mp z)), gdN (show i < 6 by omega) (by omega), gdN (show i < 12 by omega) (by omega), gdN (show i < 12 by omega) (by omega), clN (by omega), b0, w2, bit01 m hm i (by omega)]
              cases m.testBit i
              · simp only [Bool.false_eq_true, if_false, if_neg (show ¬ (0 : Int32) = 1 by decide)]
                exact ih (j - 1) _ _ _ _ (by omega) ⟨i + 1, g, by omega, nI_1 i, nI_1 i, rfl, rfl, hg⟩
              · simp only [if_true]
                unfold iMax
                by_cases d : g < w
                · rw [if_pos ((ltN (by omega) (by omega)).mpr d), if_neg (fun z => by have := (leN (by omega) (by omega)).mp z; omega)]
                  exact ih (j - 1) _ _ _ _ (by omega) ⟨i + 1, w, by omega, nI_1 i, nI_1 i, rfl, rfl, by omega⟩
                · rw [if_neg (fun z => d ((ltN (by omega) (by omega)).mp z)), if_pos ((leN (by omega) (by omega)).mpr (by omega))]
                  exact ih (j - 1) _ _ _ _ (by omega) ⟨i + 1, g, by omega, nI_1 i, nI_1 i, rfl, rfl, hg⟩
          obtain ⟨x, y, e1, e2, g, hg, rfl, rfl⟩ := k2
          refine ⟨g, hg, e1, ?_⟩
          rw [e2]
          split <;> rfl
        obtain ⟨g, hg, e1, e2⟩ := k1
        rw [e1, e2, bS]
        unfold iMax
        have ez : (0 : Int32).toInt = 0 := rfl
        by_cases d : g ≤ b
        · rw [if_pos ((leN (by omega) (by omega)).mpr d), if_neg (by rw [i32lt, pk_sub_toInt (by omega) (by omega)]; omega)]
          exact SIM.ret rfl
        · rw [if_neg (fun z => d ((leN (by omega) (by omega)).mp z)), if_pos (by rw [i32lt, pk_sub_toInt (by omega) (by omega)]; omega)]
          exact SIM.ret rfl
      exact main FU (FU_gt (by omega))
    · rw [if_neg c, if_neg c]
      exact SIM.ret rfl
  obtain ⟨x, y, e1, e2, rfl⟩ := key
  exact ⟨x, e1, e2⟩
theorem bits1 : ∀ n, n < 7 → ∀ i, i < n → ((1 : Int32) <<< (nI i &&& 31) = nI (2 ^ i) ∧ 2 ^ i < 64 ∧ 2 ^ i < 2 ^ n ∧ 2 ^ i ≠ 0) := by decide +kernel
theorem bitsor0 : ∀ a, a < 64 → ∀ b, b < 64 → (nI a ||| nI b = nI (a ||| b) ∧ a ≤ (a ||| b)) := by decide +kernel
theorem bitsor (n : Nat) (hn : n < 7) (a : Nat) (ha : a < 64) (b : Nat) (hb : b < 64) (ha2 : a < 2 ^ n) (hb2 : b < 2 ^ n) (h0 : a ≠ 0) : nI a ||| nI b = nI (a ||| b) ∧ (a ||| b) < 2 ^ n ∧ (a ||| b) < 64 ∧ (a ||| b) ≠ 0 := by
  obtain ⟨h1, h2⟩ := bitsor0 a ha b hb
  have h3 := Nat.or_lt_two_pow ha2 hb2
  have := pow6 (show n ≤ 6 by omega)
  exact ⟨h1, h3, by omega, by omega⟩
theorem st22 : ST22 REL := by
  rintro σB σM a0 a1 ⟨t, n, np, R⟩
  have R0 := R.th
  have hn6 := R.2.2.1.n6
  unfold fX9_shares fX10_shares
  simp only [lt_eq]
  generalize sI σM 0 2 0 = σ1 at *
  obtain ⟨tw1, tw2⟩ := two_sim a0 a1 hn6 (agr R0) R0.2.2.1.hM R0.2.2.2.1
  rw [tw1]
  rcases tw2 with ⟨i, j, hi, hj, rfl, rfl, hne, -, -, tw⟩ | tw
  · rw [tw, bS, bS, if_neg ne10, if_neg ne10]
    obtain ⟨p1, p2, p3, p4⟩ := bits1 n (by omega) i hi
    obtain ⟨q1, q2, q3, q4⟩ := bits1 n (by omega) j hj
    obtain ⟨o1, o2, o3, o4⟩ := bitsor n (by omega) _ p2 _ q2 p3 q3 p4
    obtain ⟨r1, e1, e2⟩ := gain_sim R0 p2 p3 p4
    obtain ⟨r2, e3, e4⟩ := gain_sim R0 q2 q3 q4
    obtain ⟨r3, e5, e6⟩ := gain_sim R0 o3 o2 o4
    rw [p1, q1, o1, e1, e2, e3, e4, e5, e6]
    simp only [bS]
    exact SIM.ret ⟨rfl, R0.r⟩
  · rw [tw, bS, bS, if_pos rfl, if_pos rfl]
    exact SIM.ret ⟨rfl, R0.r⟩
set_option maxHeartbeats 1000000 in
theorem st24 : ST24 REL := by
  rintro σB σM a0 a1 a2 a3 a4 ⟨t, n, np, R⟩
  have R0 := R.th
  have hn6 := R.2.2.1.n6
  unfold fX9_stays fX10_stays fX9_areThreeIn
  simp only [lt_eq, isWithin_eq, isInM_eq, bS]
  generalize sI σM 0 2 0 = σ1 at *
  obtain ⟨u1, u2⟩ := two_sim a0 a1 hn6 (agr R0) R0.2.2.1.hM R0.2.2.2.1
  obtain ⟨v1, v2⟩ := two_sim a0 a2 hn6 (agr R0) R0.2.2.1.hM R0.2.2.2.1
  obtain ⟨w1, w2⟩ := two_sim a1 a2 hn6 (agr R0) R0.2.2.1.hM R0.2.2.2.1
  rw [u1, v1, w1]
  have no : fX10_areTwo σ1 a0 a1 = some 0 ∨ fX10_areTwo σ1 a0 a2 = some 0 ∨ fX10_areTwo σ1 a1 a2 = some 0 ∨ (∃ i j k, i < n ∧ j < n ∧ k < n ∧ a0 = nI i ∧ a1 = nI j ∧ a2 = nI k ∧ fX10_areTwo σ1 a0 a1 = some 1 ∧ fX10_areTwo σ1 a0 a2 = some 1 ∧ fX10_areTwo σ1 a1 a2 = some 1) := by
    rcases u2 with ⟨i, j, hi, hj, ei, ej, -, -, -, tu⟩ | tu
    · rcases v2 with ⟨i', k, hi', hk, ei', ek, -, -, -, tv⟩ | tv
      · rcases w2 with ⟨-, -, -, -, -, -, -, -, -, tw⟩ | tw
        · exact Or.inr (Or.inr (Or.inr ⟨i, j, k, hi, hj, hk, ei, ej, ek, tu, tv, tw⟩))
        · exact Or.inr (Or.inr (Or.inl tw))
      · exact Or.inr (Or.inl tv)
    · exact Or.inl tu
  have one : ∀ {q : Option Int32}, (q = some 0 ∨ q = some 1) → q = some 0 ∨ q = some 1 := fun h => h
  have tu : fX10_areTwo σ1 a0 a1 = some 0 ∨ fX10_areTwo σ1 a0 a1 = some 1 := by
    rcases u2 with ⟨_, _, _, _, _, _, _, _, _, h⟩ | h
    · exact Or.inr h
    · exact Or.inl h
  have tv : fX10_areTwo σ1 a0 a2 = some 0 ∨ fX10_areTwo σ1 a0 a2 = some 1 := by
    rcases v2 with ⟨_, _, _, _, _, _, _, _, _, h⟩ | h
    · exact Or.inr h
    · exact Or.inl h
  have tw : fX10_areTwo σ1 a1 a2 = some 0 ∨ fX10_areTwo σ1 a1 a2 = some 1 := by
    rcases w2 with ⟨_, _, _, _, _, _, _, _, _, h⟩ | h
    · exact Or.inr h
    · exact Or.inl h
  by_cases c3 : (-9999 : Int32) ≤ a3 ∧ a3 ≤ 9999
  · by_cases c4 : (-9999 : Int32) ≤ a4 ∧ a4 ≤ 9999
    · simp only [if_pos c3, if_pos c4, if_neg ne10, jnx1_eq]
      by_cases ok : ∃ i j k, i < n ∧ j < n ∧ k < n ∧ a0 = nI i ∧ a1 = nI j ∧ a2 = nI k ∧ fX10_areTwo σ1 a0 a1 = some 1 ∧ fX10_areTwo σ1 a0 a2 = some 1 ∧ fX10_areTwo σ1 a1 a2 = some 1
      · obtain ⟨i, j, k, hi, hj, hk, rfl, rfl, rfl, e1, e2, e3⟩ := ok
        obtain ⟨p1, p2, p3, p4⟩ := bits1 n (by omega) i hi
        obtain ⟨q1, q2, q3, q4⟩ := bits1 n (by omega) j hj
        obtain ⟨s1, s2, s3, s4⟩ := bits1 n (by omega) k hk
        obtain ⟨o1, o2, o3, o4⟩ := bitsor n (by omega) _ p2 _ q2 p3 q3 p4
        obtain ⟨x1, x2, x3, x4⟩ := bitsor n (by omega) _ p2 _ s2 p3 s3 p4
        obtain ⟨y1, y2, y3, y4⟩ := bitsor n (by omega) _ q2 _ s2 q3 s3 q4
        obtain ⟨z1, z2, z3, z4⟩ := bitsor n (by omega) _ o3 _ s2 o2 s3 o4
        obtain ⟨g1, b1, m1⟩ := gain_sim R0 p2 p3 p4
        obtain ⟨g2, b2, m2⟩ := gain_sim R0 q2 q3 q4
        obtain ⟨g3, b3, m3⟩ := gain_sim R0 s2 s3 s4
        obtain ⟨g4, b4, m4⟩ := gain_sim R0 o3 o2 o4
        obtain ⟨g5, b5, m5⟩ := gain_sim R0 x3 x2 x4
        obtain ⟨g6, b6, m6⟩ := gain_sim R0 y3 y2 y4
        obtain ⟨g7, b7, m7⟩ := gain_sim R0 z3 z2 z4
        rw [e1, e2, e3, p1, q1, s1, o1, x1, y1, z1]
        simp only [bS, if_neg ne10, gdb0, gdb1, b1, b2, b3, b4, b5, b6, b7, m1, m2, m3, m4, m5, m6, m7]
        by_cases d1 : a3 < g1
        · simp only [if_pos d1, if_true]
          by_cases d4 : a3 + a4 < g4
          · simp only [if_pos d4]
            exact SIM.ret ⟨rfl, R0.r⟩
          · simp only [if_neg d4]
            split
            · exact SIM.ret ⟨rfl, R0.r⟩
            · split <;> exact SIM.ret ⟨rfl, R0.r⟩
        · simp only [if_neg d1]
          by_cases d2 : a4 < g2
          · simp only [if_pos d2, if_true]
            by_cases d4 : a3 + a4 < g4
            · simp only [if_pos d4]
              exact SIM.ret ⟨rfl, R0.r⟩
            · simp only [if_neg d4]
              split
              · exact SIM.ret ⟨rfl, R0.r⟩
              · split <;> exact SIM.ret ⟨rfl, R0.r⟩
          · simp only [if_neg d2]
            by_cases d3 : g7 - a3 - a4 < g3
            · simp only [if_pos d3, if_true]
              by_cases d4 : a3 + a4 < g4
              · simp only [if_pos d4]
                exact SIM.ret ⟨rfl, R0.r⟩
              · simp only [if_neg d4]
                split
                · exact SIM.ret ⟨rfl, R0.r⟩
                · split <;> exact SIM.ret ⟨rfl, R0.r⟩
            · simp only [if_neg d3, if_neg ne10]
              by_cases d4 : a3 + a4 < g4
              · simp only [if_pos d4, if_true]
                exact SIM.ret ⟨rfl, R0.r⟩
              · simp only [if_neg d4]
                by_cases d5 : a3 + (g7 - a3 - a4) < g5
                · simp only [if_pos d5, if_true]
                  exact SIM.ret ⟨rfl, R0.r⟩
                · simp only [if_neg d5]
                  by_cases d6 : a4 + (g7 - a3 - a4) < g6
                  · simp only [if_pos d6, if_true]
                    exact SIM.ret ⟨rfl, R0.r⟩
                  · simp only [if_neg d6, if_neg ne10]
                    exact SIM.ret ⟨rfl, R0.r⟩
      · rcases tu with e | e
        · rw [e]
          simp only [bS, if_true, gdb0, gdb1]
          exact SIM.ret ⟨rfl, R0.r⟩
        · rcases tv with e' | e'
          · rw [e, e']
            simp only [bS, if_true, if_neg ne10, gdb0, gdb1]
            exact SIM.ret ⟨rfl, R0.r⟩
          · rcases tw with e'' | e''
            · rw [e, e', e'']
              simp only [bS, if_true, if_neg ne10, gdb0, gdb1]
              exact SIM.ret ⟨rfl, R0.r⟩
            · rcases no with h | h | h | h
              · rw [e] at h; cases h
              · rw [e'] at h; cases h
              · rw [e''] at h; cases h
              · exact absurd h ok
    · simp only [if_pos c3, if_neg c4, if_neg ne10, jnx1_eq, if_true, gdb0, gdb1]
      rcases tu with e | e <;> rcases tv with e' | e' <;> rcases tw with e'' | e'' <;> rw [e, e', e''] <;> simp only [bS, if_true, if_neg ne10, gdb0, gdb1] <;> exact SIM.ret ⟨rfl, R0.r⟩
  · simp only [if_neg c3, jnx1_eq, if_true, gdb0, gdb1]
    rcases tu with e | e <;> rcases tv with e' | e' <;> rcases tw with e'' | e'' <;> rw [e, e', e''] <;> simp only [bS, if_true, if_neg ne10, gdb0, gdb1] <;> exact SIM.ret ⟨rfl, R0.r⟩
