theorem lawR_gA {σB σ σ' : St} {t : Bool} {w : Nat} (h : gA σ' = gA σ) (k : lawR σB σ t w) : lawR σB σ' t w := by
  unfold lawR WFp stepOK at *
  rw [h]
  exact k
/-- what working a law out leaves alone in the reference -/
def onlyLN (σ σ' : St) : Prop := (∀ k, k ≠ 45 → gI σ' 0 k = gI σ 0 k) ∧ gA σ' = gA σ ∧ (∀ k, k ≠ 43 → k ≠ 44 → gL σ' 0 k = gL σ 0 k) ∧ gJ σ' = gJ σ
theorem onlyLN.of {a b c : St} (h : onlyNms a b) (h2 : onlyLaw b c) : onlyLN a c := ⟨fun k hk => by rw [h2.1 k hk, h.1], h2.2.1.trans h.2.1, fun k h3 h4 => (h2.2.2.1 k h4).trans (h.2.2.2 k h3), h2.2.2.2.trans h.2.2.1⟩
theorem clampB {z : Int64} (h : inL z) (m : Nat) (hm : m < 100000) : Int64.toInt32 (lMax 0 (lMin (nI m).toInt64 z)) = clampV (some z) 0 (nI m).toInt64 := by
  have em : (nI m).toInt64.toInt = m := by rw [Int32.toInt_toInt64, nI_toInt (by omega)]
  have e0 : (0 : Int64).toInt = 0 := rfl
  unfold clampV lMax lMin
  by_cases c1 : z < 0
  · have c2 : z < (nI m).toInt64 := by
      rw [i64lt] at *
      omega
    simp only [if_pos c1, if_pos c2]
    rfl
  · by_cases c2 : z < (nI m).toInt64
    · have c3 : ¬ (nI m).toInt64 < z := by
        rw [i64lt] at *
        omega
      simp only [if_pos c2, if_neg c1, if_neg c3]
    · have c4 : ¬ (nI m).toInt64 < 0 := by
        rw [i64lt]
        omega
      simp only [if_neg c2, if_neg c1, if_neg c4]
      by_cases c3 : (nI m).toInt64 < z
      · rw [if_pos c3]
      · rw [if_neg c3]
        congr 1
        rw [i64eq]
        rw [i64lt] at c2 c3
        omega
theorem deathOf_sim {σB σM : St} {t : Bool} {o b h : Nat} (ht : gR σB 2 = t) (hb : b < 2) (hh : h < 6) (hL : lawR σB σM t 0) (hn : ∀ k, k < 7 → nmB σB o h k = nmM σM b h k) :
    ∃ d σB' σM', fX0_deathOf σB o (nI h) = some (d, σB') ∧ fX10_deathOf σM (nI b) (nI h) = some (d, σM') ∧ onlyStk σB σB' ∧ onlyLN σM σM' := by
  obtain ⟨σ1, f1, f2, f3⟩ := layNames_eq σM b h hb hh
  obtain ⟨Lv, rB, σB', e1, e2, e3, e4, e5, e6, e7⟩ := lawBoth (o := o) (h := h) (w := 0) (σM := σ1) ht (by omega) hh (lawR_gA f2.2.1 hL) (fun k hk => by rw [f3 k hk, hn k hk])
  have age : gA σB o 1 h = gA σM 0 47 (6 * b + h) := hn 3 (by omega)
  obtain ⟨σ2, g1, g2⟩ := boundLaw_eq (w := 0) (by omega) e5 e7 (if 0 ≤ gA σM 0 47 (6 * b + h) - 40 then gA σM 0 47 (6 * b + h) - 40 else 0) 100 (by omega)
  refine ⟨clampV Lv (if 0 ≤ gA σM 0 47 (6 * b + h) - 40 then gA σM 0 47 (6 * b + h) - 40 else 0) (nI 100).toInt64, σB', σ2, ?_, ?_, e2, onlyLN.of f2 g2⟩
  · have e1' : fX0_valueOf σB 0 o (nI h) = some (rB, σB') := e1
    unfold fX0_deathOf
    rw [e1']
    simp only [bL, Option.bind_some, lc_eq]
    cases Lv with
    | none =>
      rw [e4 rfl, if_pos rfl, gd_pos (ixN (by omega) (by omega)), clN (by omega), e2.2.1, age]
      unfold clampV iMax
      simp only []
      congr 2
      by_cases c : 0 < gA σM 0 47 (6 * b + h) - 40
      · rw [if_pos c, if_pos (Int32.le_of_lt c)]
      · rw [if_neg c]
        by_cases c2 : 0 ≤ gA σM 0 47 (6 * b + h) - 40
        · rw [if_pos c2]
          rw [i32lt] at c
          rw [i32le] at c2
          rw [i32eq]
          have : (0 : Int32).toInt = 0 := rfl
          omega
        · rw [if_neg c2]
    | some z =>
      obtain ⟨rfl, hz⟩ := e3 z rfl
      rw [if_neg (notMin hz)]
      have := clampB hz 100 (by omega)
      rw [show (100 : Int64) = (nI 100).toInt64 by decide, this]
      rfl
  · unfold fX10_deathOf
    rw [f1]
    simp only [bV, Option.bind_some, lt_eq, jnx1_eq, six, gd_pos (ixN (show 6 * b + h < 12 by omega) (by omega)), clN (show 6 * b + h < 1000000 by omega), f2.2.1]
    by_cases c : 0 ≤ gA σM 0 47 (6 * b + h) - 40
    · rw [if_pos c] at g1 ⊢
      have g1' : fX10_boundLaw σ1 0 (gA σM 0 47 (6 * b + h) - 40) 100 = _ := g1
      rw [g1', if_pos c]
      rfl
    · rw [if_neg c] at g1 ⊢
      have g1' : fX10_boundLaw σ1 0 0 100 = _ := g1
      rw [g1', if_neg c]
      rfl
