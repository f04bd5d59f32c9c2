/-- the course as it goes, over the current text -/
theorem REL0.goes {t : Bool} {n np : Nat} {σB σM : St} (R : REL0 t n np σB σM) : ∃ σB', fX0_asItGoes σB (gR σB 0) = some σB' ∧ REL0 t n np σB' σM ∧ gR σB' 2 = t ∧ (∀ k, 2 ≤ k → k ≤ 6 → gI σB' 14 k = 0) ∧ qB σB σB' ∧ gA σB' = gA σB ∧ (∀ o, o ≠ 14 → gI σB' o = gI σB o) := by
  obtain ⟨σ2, f1, f2, f3, f4, f5, f6, f7⟩ := asItGoes_eq σB (gR σB 0)
  have QB : qB σB σ2 := ⟨fun o _ _ o3 => f5 o o3, fun o k _ _ _ _ => by rw [f6], fun k hk => f3 k hk⟩
  exact ⟨σ2, f1, R.q QB (qM.rf _), by rw [f2, R.1], f4, QB, f6, f5⟩
theorem st23 : ST23 REL := by
  rintro σB σM ⟨t, n, np, R⟩
  have hn6 := R.2.2.1.n6
  unfold fX9_turn fX10_turn
  obtain ⟨σ2, f1, R2, f2, f3, f4, f5, f6⟩ := R.th.goes
  obtain ⟨r, e1, e2, e3⟩ := turn_sim (b := 0) R2.2.2.1 f2 R2.2.2.2.1 (by omega) (by omega)
  have e2' : fX10_turnOf (sI σM 0 2 0) 0 = some r := e2
  rw [f1, bVs, e1, lt_eq, e2', bS, bS]
  simp only [jnx1_eq]
  rcases e3 with rfl | ⟨j, hj, rfl, -⟩
  · rw [if_pos rfl, if_neg (show ¬ (0 : Int32) ≤ -1 by decide)]
    exact SIM.ret ⟨rfl, R2.r⟩
  · rw [if_neg (nI_nm1 (j := j) (by omega)), if_pos (nI_pos' (n := j) (by omega))]
    exact SIM.ret ⟨rfl, R2.r⟩
theorem qB.stk {σ σ' : St} (h : onlyStk σ σ') : qB σ σ' := ⟨fun o _ _ _ => by rw [h.1], fun o k _ _ _ _ => by rw [h.2.1], fun k _ => by rw [h.2.2.2.1]⟩
theorem qM.ln {σ σ' : St} (h : onlyLN σ σ') : qM σ σ' := ⟨fun k _ h2 _ => h.1 k h2, fun k _ _ => by rw [h.2.1], fun k j _ _ _ => by rw [h.2.1], fun k _ _ => by rw [h.2.1], by rw [h.2.2.2], by rw [h.2.2.2]⟩
theorem st6 : ST6 REL := by
  rintro σB σM a0 a1 ⟨t, n, np, R⟩
  have hn6 := R.2.2.1.n6
  unfold fX9_law fX10_law
  simp only [lt_eq, jnx1_eq, isWithin_eq, isInM_eq, bS, ifi0]
  rw [isHouseB_eq a1 hn6 (agr R), isHouseM_eq a1 R.th.2.2.1.hM, bS, bS, ifi0, ifi0]
  by_cases c0 : (0 : Int32) ≤ a0 ∧ a0 ≤ 2
  · rw [if_pos c0, if_pos c0]
    obtain ⟨w, -, hw, rfl⟩ := in_nat 0 2 c0 (by omega) (by omega)
    rw [gdN (show w < 6 by omega) (by omega), clN (by omega)]
    by_cases c1 : 0 ≤ a1 ∧ a1 < nI n
    · rw [if_pos c1, if_pos c1]
      obtain ⟨h, hh, rfl⟩ := house_nat hn6 c1
      obtain ⟨σ2, f1, R2, f2, f3, f4, f5, f6⟩ := R.th.goes
      obtain ⟨σM2, p1, p2, p3, p4, p5⟩ := plainTried_eq (sI σM 0 2 0)
      have R3 := R2.q (qB.rf _) (qM.pt p3 p4 p5)
      have C3 : CX t n np σ2 σM2 := ⟨R3.2.2.1, f2, fun k k1 k2 => by rw [f3 k k1 k2]; exact (p2 (59 + k) (by omega) (by omega)).symm, Or.inl (p2 61 (by omega) (by omega))⟩
      obtain ⟨σ3, l1, l2, l3⟩ := layNames_eq σM2 0 h (by omega) (by omega)
      have l1' : fX10_layNames σM2 0 (nI h) = some σ3 := l1
      obtain ⟨Lv, rB, σB3, e1, e2, e3, e4, e5, e6, e7⟩ := lawBoth (o := 5) (h := h) (w := w) (σM := σ3) C3.2.1 (by omega) (by omega) (lawR_gA l2.2.1 (C3.1.law w (by omega))) (fun k hk => by rw [l3 k hk, names_eq C3 R3.2.2.2.1 hh k hk])
      have e29 : gA σ3 0 29 w = gA (sI σM 0 2 0) 0 29 w := by rw [l2.2.1, p4]
      rw [f1, bVs, e1, bLs]
      by_cases c2 : gA (sI σM 0 2 0) 0 29 w = 0
      · rw [if_pos c2]
        have h0 := e5 (e29.trans c2)
        exact SIM.ret ⟨e4 h0, (R2.q (qB.stk e2) (qM.rf _)).r⟩
      · rw [if_neg c2, p1, bVs, l1', bVs]
        obtain ⟨v, σM4, g1, g2, g3, g4⟩ := e7 (by rw [e29]; exact c2)
        rw [g1, bLs]
        have R4 := R3.q (qB.stk e2) (qM.ln (onlyLN.of l2 g2))
        cases Lv with
        | none =>
          rw [g4 rfl, if_neg ne10]
          exact SIM.ret ⟨e4 rfl, R4.r⟩
        | some z =>
          obtain ⟨g5, g6⟩ := g3 z rfl
          rw [g6, if_pos rfl]
          exact SIM.ret ⟨(e3 z rfl).1.trans g5.symm, R4.r⟩
    · rw [if_neg c1, if_neg c1]
      split <;> exact SIM.ret ⟨rfl, R.th.r⟩
  · rw [if_neg c0, if_neg c0]
    exact SIM.ret ⟨rfl, R.th.r⟩
