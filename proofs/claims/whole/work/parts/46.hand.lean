theorem clamp_rng {z : Int64} (h : inL z) (m : Nat) (hm : m < 100000) (wo : Int32) : ∃ v, v ≤ m ∧ clampV (some z) wo (nI m).toInt64 = nI v := by
  have em : (nI m).toInt64.toInt = m := by rw [Int32.toInt_toInt64, nI_toInt (by omega)]
  unfold clampV
  simp only []
  by_cases c1 : z < 0
  · rw [if_pos c1]
    exact ⟨0, by omega, rfl⟩
  · rw [if_neg c1]
    by_cases c2 : (nI m).toInt64 < z
    · rw [if_pos c2, Int32.toInt32_toInt64]
      exact ⟨m, by omega, rfl⟩
    · rw [if_neg c2]
      rw [i64lt] at c1 c2
      have e0 : (0 : Int64).toInt = 0 := rfl
      obtain ⟨k, hk⟩ : ∃ k : Nat, z.toInt = k := ⟨z.toInt.toNat, by omega⟩
      have : z = lN k := by
        rw [i64eq, lN_toInt (by omega)]
        exact hk
      refine ⟨k, by omega, ?_⟩
      rw [this, lN_i]
theorem cl_lit (x : Int32) (k : Nat) (h : x = nI k) (hk : k < 1000000) : Int32.toNatClampNeg x = k := by rw [h, clN hk]
/-- the heir's bound and age: both sides -/
theorem heir_sim {t : Bool} {n np BM Y o b h : Nat} {σB σM : St} (C : CX t n np σB σM) (S : SR n BM Y σB o σM b) (hBM : 9999 ≤ BM) (ho : 5 ≤ o ∧ o ≤ 8) (hb : b < 2) (hh : h < n) :
    ∃ σB' σM', (bL (fX0_valueOf σB (1 : Int32) o (nI h)) fun r11 σ12 => jnx1 (fun (σ13 : St) => gd (ixI (nI h) 6) (lt (sA σ13 o 1 (Int32.toNatClampNeg (nI h)) (20 : Int32)) fun σ16 => some σ16)) fun J14 => if (lg_cmp r11 (-9223372036854775808 : Int64)) = 0 then (J14 σ12) else (gd (ixI (nI h) 6) (lt (sA σ12 o 0 (Int32.toNatClampNeg (nI h)) (Int64.toInt32 (lMax (0 : Int64) (lMin (9999 : Int64) r11)))) fun σ19 => J14 σ19))) = some σB' ∧
      (bV (fX10_layNames σM (nI b) (nI h)) fun σ13 => gd (ixI (nI (6 * b + h)) 12) (bI (fX10_boundLaw σ13 (1 : Int32) (gA σ13 0 46 (Int32.toNatClampNeg (nI (6 * b + h)))) (9999 : Int32)) fun r16 σ17 => gd (ixI (nI (6 * b + h)) 12) (lt (sA σ17 0 46 (Int32.toNatClampNeg (nI (6 * b + h))) r16) fun σ19 => gd (ixI (nI (6 * b + h)) 12) (lt (sA σ19 0 47 (Int32.toNatClampNeg (nI (6 * b + h))) (20 : Int32)) fun σ21 => some σ21)))) = some σM' ∧
      SR n BM Y σB' o σM' b ∧ frB o σB σB' ∧ frM b σM σM' ∧ frP σM σM' ∧ gI σB' o 13 = gI σB o 13 ∧ gJ σM' = gJ σM ∧ gI σM' 0 66 = gI σM 0 66 ∧ gI σB' o 14 = gI σB o 14 := by
  have hn6 := C.1.n6
  obtain ⟨σ1, f1, f2, f3⟩ := layNames_eq σM b h hb (by omega)
  obtain ⟨Lv, rB, σB1, e1, e2, e3, e4, e5, e6, e7⟩ := lawBoth (o := o) (h := h) (w := 1) (σM := σ1) C.2.1 (by omega) (by omega) (lawR_gA f2.2.1 (C.1.law 1 (by omega))) (fun k hk => by rw [f3 k hk, names_eq C S hh k hk])
  obtain ⟨σ2, g1, g2⟩ := boundLaw_eq (w := 1) (by omega) e5 e7 (gA σ1 0 46 (6 * b + h)) 9999 (by omega)
  have LN := onlyLN.of f2 g2
  have e1' : fX0_valueOf σB 1 o (nI h) = some (rB, σB1) := e1
  have g1' : fX10_boundLaw σ1 1 (gA σ1 0 46 (6 * b + h)) 9999 = _ := g1
  rw [e1', f1]
  simp only [bLs, bVs, jnx1_eq, lt_eq, clN (show h < 1000000 by omega), clN (show 6 * b + h < 1000000 by omega), gdN (show h < 6 by omega) (show 6 ≤ 1000000 by omega), gdN (show 6 * b + h < 12 by omega) (show 12 ≤ 1000000 by omega), g1', bIs, lc_eq]
  have S1 : SR n BM Y σB1 o σ2 b := S.cg (agB.stk e2) (agM.wG LN.2.1)
  have fB := frB.stk (o := o) e2
  have fM := frM.ln (b := b) LN
  cases Lv with
  | none =>
    rw [if_pos (e4 rfl)]
    have eg : gA σ1 = gA σ2 := g2.2.1.symm
    have ec : clampV none (gA σ1 0 46 (6 * b + h)) (nI 9999).toInt64 = gA σ2 0 46 (6 * b + h) := by rw [eg]; rfl
    rw [ec]
    have S2 : SR n BM Y σB1 o (sA σ2 0 46 (6 * b + h) (gA σ2 0 46 (6 * b + h))) b := S1.cg (agB.rf _ _) (agM.wG (gA_sA_self _ _ _ _))
    refine ⟨_, _, rfl, rfl, S2.setA 1 h 20 (by omega) ⟨fun z => by omega, fun _ => ⟨20, by omega, by omega, rfl⟩, fun z => by omega⟩, fB.tr (frB.wA _ _ _ _ (by omega)), fM.tr ((frM.wA _ _ _ _ (Or.inl ⟨by omega, by omega, by omega, by omega⟩)).tr (frM.wA _ _ _ _ (Or.inl ⟨by omega, by omega, by omega, by omega⟩))), (frP.ln LN).tr ((frP.wA _ _ _ _ (by omega)).tr (frP.wA _ _ _ _ (by omega))), ?_, ?_, ?_, ?_⟩
    · show gI σB1 o 13 = _
      rw [e2.1]
    · exact LN.2.2.2
    · exact LN.1 66 (by omega)
    · show gI σB1 o 14 = _
      rw [e2.1]
  | some z =>
    obtain ⟨rfl, hz⟩ := e3 z rfl
    rw [if_neg (notMin hz)]
    obtain ⟨v, hv, ev⟩ := clamp_rng hz 9999 (by omega) (gA σ1 0 46 (6 * b + h))
    have eb := clampB hz 9999 (by omega)
    rw [show (9999 : Int64) = (nI 9999).toInt64 by decide, eb, show clampV (some rB) 0 (nI 9999).toInt64 = clampV (some rB) (gA σ1 0 46 (6 * b + h)) (nI 9999).toInt64 from rfl, ev]
    have S2 := S1.setA 0 h (nI v) (by omega) ⟨fun _ => ⟨v, by omega, by omega, rfl⟩, fun z => by omega, fun z => by omega⟩
    refine ⟨_, _, rfl, rfl, S2.setA 1 h 20 (by omega) ⟨fun z => by omega, fun _ => ⟨20, by omega, by omega, rfl⟩, fun z => by omega⟩, fB.tr ((frB.wA _ _ _ _ (by omega)).tr (frB.wA _ _ _ _ (by omega))), fM.tr ((frM.wA _ _ _ _ (Or.inl ⟨by omega, by omega, by omega, by omega⟩)).tr (frM.wA _ _ _ _ (Or.inl ⟨by omega, by omega, by omega, by omega⟩))), (frP.ln LN).tr ((frP.wA _ _ _ _ (by omega)).tr (frP.wA _ _ _ _ (by omega))), ?_, ?_, ?_, ?_⟩
    · show gI σB1 o 13 = _
      rw [e2.1]
    · exact LN.2.2.2
    · exact LN.1 66 (by omega)
    · show gI σB1 o 14 = _
      rw [e2.1]
set_option maxHeartbeats 1000000 in
theorem hand_sim {t : Bool} {n np BM Y o b h : Nat} {σB σM : St} (C : CX t n np σB σM) (S : SR n BM Y σB o σM b) (hBM : 9999 ≤ BM) (ho : 5 ≤ o ∧ o ≤ 8) (hb : b < 2) (hh : h < n) :
    ∃ σB' σM', fX0_handOn σB o (nI h) = some σB' ∧ fX10_dies σM (nI b) (nI h) = some σM' ∧ SR n BM Y σB' o σM' b ∧ frB o σB σB' ∧ frM b σM σM' ∧ frP σM σM' ∧ gI σB' o 13 = gI σB o 13 ∧ gJ σM' = gJ σM ∧ gI σM' 0 66 = gI σM 0 66 ∧ gI σB' o 14 = gI σB o 14 := by
  have hn6 := C.1.n6
  have hp6 := pow6 hn6
  have d1 : gI σB o 12 = gA σM 0 58 b := S.2.2.1 12 (by unfold isS; omega)
  have S1 : SR n BM Y (sI σB o 12 (gI σB o 12 + 1)) o (sA σM 0 58 b (gI σB o 12 + 1)) b := S.setI 12 _ (by unfold isS; omega) (Nat.le_refl _) ⟨fun z => by omega, fun z => by omega, fun z => by omega, fun z => by omega⟩
  have fB1 : frB o σB (sI σB o 12 (gI σB o 12 + 1)) := frB.wI _ _ _ (by omega)
  have fM1 : frM b σM (sA σM 0 58 b (gI σB o 12 + 1)) := frM.wA _ _ _ _ (Or.inr ⟨by omega, by omega, rfl⟩)
  have fP1 : frP σM (sA σM 0 58 b (gI σB o 12 + 1)) := frP.wA _ _ _ _ (by omega)
  have C1 := C.cg ho fB1 fM1
  have n1 : gI (sI σB o 12 (gI σB o 12 + 1)) o 13 = gI σB o 13 := by simp only [gI_sI]; rw [if_neg (by omega)]
  have k1 : gI (sI σB o 12 (gI σB o 12 + 1)) o 14 = gI σB o 14 := by simp only [gI_sI]; rw [if_neg (by omega)]
  have j1 : gJ (sA σM 0 58 b (gI σB o 12 + 1)) = gJ σM := rfl
  have w1 : gI (sA σM 0 58 b (gI σB o 12 + 1)) 0 66 = gI σM 0 66 := rfl
  unfold fX0_handOn fX10_dies
  simp only [lt_eq, six, clN (show h < 1000000 by omega), clN (show b < 1000000 by omega), clN (show 6 * b + h < 1000000 by omega), gdN (show h < 6 by omega) (show 6 ≤ 1000000 by omega), gdN (show b < 2 by omega) (show 2 ≤ 1000000 by omega), gdN (show 6 * b + h < 12 by omega) (show 12 ≤ 1000000 by omega), jnx1_eq, ← d1]
  generalize sI σB o 12 (gI σB o 12 + 1) = σ1 at *
  generalize sA σM 0 58 b (gI σB o 12 + 1) = σ4 at *
  have eh : gA σ1 o 2 h = gA σ4 0 48 (6 * b + h) := S1.1 2 (by omega) h hh
  obtain ⟨v, -, hv, ev⟩ := S1.2.2.2.2.2.1 h hh
  have e4 : gI σ1 14 4 = gI σ4 0 63 := C1.2.2.1 4 (by omega) (by omega)
  rw [← eh, ev]
  have tail : ∀ u, u ≤ 9 → ∃ σB' σM', (bL (fX0_valueOf (sA σ1 o 2 h (nI u)) (1 : Int32) o (nI h)) fun r11 σ12 => jnx1 (fun (σ13 : St) => gd (ixI (nI h) 6) (lt (sA σ13 o 1 (Int32.toNatClampNeg (nI h)) (20 : Int32)) fun σ16 => some σ16)) fun J14 => if (lg_cmp r11 (-9223372036854775808 : Int64)) = 0 then (J14 σ12) else (gd (ixI (nI h) 6) (lt (sA σ12 o 0 (Int32.toNatClampNeg (nI h)) (Int64.toInt32 (lMax (0 : Int64) (lMin (9999 : Int64) r11)))) fun σ19 => J14 σ19))) = some σB' ∧
      (bV (fX10_layNames (sA σ4 0 48 (6 * b + h) (nI u)) (nI b) (nI h)) fun σ13 => gd (ixI (nI (6 * b + h)) 12) (bI (fX10_boundLaw σ13 (1 : Int32) (gA σ13 0 46 (Int32.toNatClampNeg (nI (6 * b + h)))) (9999 : Int32)) fun r16 σ17 => gd (ixI (nI (6 * b + h)) 12) (lt (sA σ17 0 46 (Int32.toNatClampNeg (nI (6 * b + h))) r16) fun σ19 => gd (ixI (nI (6 * b + h)) 12) (lt (sA σ19 0 47 (Int32.toNatClampNeg (nI (6 * b + h))) (20 : Int32)) fun σ21 => some σ21)))) = some σM' ∧ SR n BM Y σB' o σM' b ∧ frB o σB σB' ∧ frM b σM σM' ∧ frP σM σM' ∧ gI σB' o 13 = gI σB o 13 ∧ gJ σM' = gJ σM ∧ gI σM' 0 66 = gI σM 0 66 ∧ gI σB' o 14 = gI σB o 14 := by
    intro u hu
    have f2 : frB o σ1 (sA σ1 o 2 h (nI u)) := frB.wA _ _ _ _ (by omega)
    have f3 : frM b σ4 (sA σ4 0 48 (6 * b + h) (nI u)) := frM.wA _ _ _ _ (Or.inl ⟨by omega, by omega, by omega, by omega⟩)
    have S2 : SR n BM Y (sA σ1 o 2 h (nI u)) o (sA σ4 0 48 (6 * b + h) (nI u)) b := S1.setA 2 h (nI u) (by omega) ⟨fun z => by omega, fun z => by omega, fun _ => ⟨u, by omega, hu, rfl⟩⟩
    obtain ⟨σB', σM', q1, q2, q3, q4, q5, q6, q7, q8, q9, q10⟩ := heir_sim (C1.cg ho f2 f3) S2 hBM ho hb hh
    exact ⟨σB', σM', q1, q2, q3, (fB1.tr f2).tr q4, (fM1.tr f3).tr q5, (fP1.tr (frP.wA _ _ _ _ (by omega))).tr q6, q7.trans n1, q8.trans j1, q9.trans w1, q10.trans k1⟩
  simp only [lt_eq, clN (show h < 1000000 by omega), clN (show 6 * b + h < 1000000 by omega), gdN (show h < 6 by omega) (show 6 ≤ 1000000 by omega), gdN (show 6 * b + h < 12 by omega) (show 12 ≤ 1000000 by omega), jnx1_eq] at tail
  by_cases hv0 : v = 0
  · subst hv0
    simp only [if_pos (show nI 0 = 0 from rfl)]
    by_cases ce : gI σ4 0 63 = 0
    · simp only [if_pos (show gI σ1 14 4 = 0 by rw [e4]; exact ce), if_pos ce]
      obtain ⟨m, m1, m2, m3⟩ := S1.2.1
      rw [end_eq m2 (by omega) (by omega), nar0, bVs]
      refine ⟨_, _, rfl, rfl, S1.fin hn6 m2 m1 hh, fB1.tr (frB.wI _ _ _ (by omega)), fM1.tr (frM.wA _ _ _ _ (Or.inl ⟨by omega, by omega, by omega, by omega⟩)), fP1.tr (frP.wA _ _ _ _ (by omega)), ?_, j1, w1, ?_⟩
      · rw [← n1]
        simp only [gI_sI]
        rw [if_neg (by omega)]
      · rw [← k1]
        simp only [gI_sI]
        rw [if_neg (by omega)]
    · simp only [if_neg (show ¬ gI σ1 14 4 = 0 by rw [e4]; exact ce), if_neg ce, if_pos (show nI 0 ≤ 0 from by decide)]
      have ex : gA (sA σ1 o 2 h 1) o 2 h = 1 := by
        simp only [sA, gA_sAr, and_self, if_true, upd_at]
      rw [ex, if_neg ne10, show (1 : Int32) - 1 = nI 0 by decide, sA_sA]
      exact tail 0 (by omega)
  · have hz : ¬ nI v = 0 := fun z => hv0 ((eqN (a := v) (b := 0) (by omega) (by omega)).mp z)
    have hz2 : ¬ nI v ≤ 0 := fun z => hv0 (by have := (leN (a := v) (b := 0) (by omega) (by omega)).mp z; omega)
    simp only [if_neg hz, if_neg hz2]
    rw [show nI v - 1 = nI (v - 1) from by rw [show (1 : Int32) = nI 1 from rfl, pk_sub (by omega)]]
    exact tail (v - 1) (by omega)
