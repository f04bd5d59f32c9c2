theorem raiseB_mod {σ σ' : St} {h : Nat} (hh : h < 6) (e : fX0_raise σ 5 (nI h) = some σ') : (∀ k j, k < 5 → j ≠ h → gA σ' 5 k j = gA σ 5 k j) ∧ gA σ' 5 1 = gA σ 5 1 ∧ (∀ k, k = 8 ∨ k = 12 ∨ k = 14 → gI σ' 5 k = gI σ 5 k) := by
  unfold fX0_raise at e
  simp only [stepB_eq σ h hh, bS, lt_eq, gdN hh (show 6 ≤ 1000000 by omega), clN (show h < 1000000 by omega)] at e
  cases e
  refine ⟨fun k j hk hj => ?_, ?_, fun k hk => ?_⟩
  · obtain rfl | rfl | rfl | rfl | rfl : k = 0 ∨ k = 1 ∨ k = 2 ∨ k = 3 ∨ k = 4 := by omega
    all_goals simp (disch := first | omega | assumption) only [sA, gAe, gAn, gAI, upd_ne]
  · simp (disch := omega) only [sA, gAn, gAI]
  · rcases hk with rfl | rfl | rfl
    all_goals simp (disch := omega) only [gIA, gIn]
/-- the context after a note -/
theorem CX.nt {t : Bool} {n np : Nat} {σB σM σB1 σM1 : St} (C : CX t n np σB σM) (T : TX t n np σB1 σM1) (h1 : ∀ o, o ≠ 12 → gI σB1 o = gI σB o) (h2 : gR σB1 = gR σB) (h3 : ∀ k, k ≠ 71 → gI σM1 0 k = gI σM 0 k) : CX t n np σB1 σM1 := ⟨T, by rw [h2]; exact C.2.1, fun k k1 k2 => by rw [h1 14 (by omega), h3 (59 + k) (by omega)]; exact C.2.2.1 k k1 k2, by rw [h3 61 (by omega)]; exact C.2.2.2⟩
set_option maxHeartbeats 1000000 in
theorem st7 : ST7 REL := by
  rintro σB σM a0 ⟨t, n, np, R⟩
  have hn6 := R.2.2.1.n6
  unfold fX9_nod fX10_nod
  simp only [lt_eq, jnx1_eq, cl0]
  rw [isHouseB_eq a0 hn6 (agr R), isHouseM_eq a0 R.th.2.2.1.hM, bS, bS, ifi0, ifi0]
  by_cases c0 : 0 ≤ a0 ∧ a0 < nI n
  · rw [if_pos c0, if_pos c0]
    obtain ⟨h, hh, rfl⟩ := house_nat hn6 c0
    have R0 := R.th
    generalize sI σM 0 2 0 = σ1 at *
    obtain ⟨σ5, f1, R2, f2, f3, f4, f5, f6⟩ := R0.goes
    obtain ⟨σ6, p1, p2, p3, p4, p5⟩ := plainTried_eq σ1
    have R3 := R2.q (qB.rf _) (qM.pt p3 p4 p5)
    have C3 : CX t n np σ5 σ6 := ⟨R3.2.2.1, f2, fun k k1 k2 => by rw [f3 k k1 k2]; exact (p2 (59 + k) (by omega) (by omega)).symm, Or.inl (p2 61 (by omega) (by omega))⟩
    rw [f1, bVs, p1, bVs]
    obtain ⟨cc, hdec, k1, k2, k3⟩ := may_sim C3 R3.2.2.2.1 (b := 0) (by omega) hh
    have k1' : fX10_mayRaise σ6 0 (nI h) = some (if cc then 1 else 0) := k1
    rw [k2, bS, ifi0, gdN (show h < 12 by omega) (by omega), clN (by omega), k1', bS, ifi0, show 6 * 0 + h = h by omega]
    have hbool := R3.2.2.2.1.bool0 h hh
    by_cases d1 : gA σ6 0 57 0 = 0
    · rw [if_pos d1]
      by_cases d2 : gA σ6 0 49 h = 0
      · rw [if_pos d2, if_neg (show ¬ (gA σ6 0 57 0 = 0 ∧ gA σ6 0 49 h = 1 ∧ cc) from fun z => by rw [z.2.1] at d2; exact ne10 d2)]
        exact SIM.ret ⟨rfl, R3.r⟩
      · have d3 := hbool.resolve_left d2
        rw [if_neg d2]
        by_cases d4 : cc
        · rw [if_pos d4, if_pos ⟨d1, d3, d4⟩]
          obtain ⟨σB1, σM1, S, e1, e2, e3, e4, e5, e6, e7, e8, e9, e10, e11, e12, e13⟩ := noted_sim R3 hh
          have C4 := C3.nt e3.2.2.1 e8 e10 e11
          have hc1 : ¬ gA σB1 5 0 h < gI σB1 5 9 + stpB σB1 h := by
            have := k3 d4
            have a1 := tx_le (gR σ5 2)
            unfold stpB at *
            rw [e8 5 (by omega), e8 14 (by omega), e9 5 (by omega), e10, e9 _ (by omega)]
            exact this
          obtain ⟨σB2, σM2, r1, r2, r3, r4, r5, r6, r7, r8, r9, -⟩ := raise_sim C4 e3.2.2.2.1 (by omega) ⟨by omega, by omega⟩ (b := 0) (by omega) hh hc1
          have r2' : fX10_raises σM1 0 (nI h) = some σM2 := r2
          obtain ⟨q1, q2, q3⟩ := raiseB_mod (by omega) r1
          have R4 := e3.mod hh ⟨e4, e5⟩ e6 e7 r3 r4 r5 r6 r7 r8 q1 q2 q3
          rw [e1, e2, bVs, bVs, r1, r2', bVs, bVs]
          exact SIM.ret ⟨R4.s5 9 (by unfold isS; omega), R4.r⟩
        · rw [if_neg d4, if_neg (fun z => d4 z.2.2)]
          exact SIM.ret ⟨rfl, R3.r⟩
    · rw [if_neg d1, if_neg (show ¬ (gA σ6 0 57 0 = 0 ∧ gA σ6 0 49 h = 1 ∧ cc) from fun z => d1 z.1)]
      exact SIM.ret ⟨rfl, R3.r⟩
  · rw [if_neg c0, if_neg c0]
    exact SIM.ret ⟨rfl, R.th.r⟩
theorem st8 : ST8 REL := by
  rintro σB σM a0 a1 ⟨t, n, np, R⟩
  have R0 := R.th
  have hn6 := R.2.2.1.n6
  unfold fX9_marry fX10_marry
  simp only [lt_eq]
  generalize sI σM 0 2 0 = σ1 at *
  obtain ⟨tw1, tw2⟩ := two_sim a0 a1 hn6 (agr R0) R0.2.2.1.hM R0.2.2.2.1
  rw [tw1]
  rcases tw2 with ⟨i, j, hi, hj, rfl, rfl, hne, -, -, tw⟩ | tw
  · rw [tw, bS, bS, if_neg ne10, if_neg ne10]
    obtain ⟨σB1, σM1, S, e1, e2, e3, e4, e5, e6, e7, e8, e9, e10, e11, e12, e13⟩ := noted_sim R0 hi
    obtain ⟨σB2, σM2, w1, w2, w3, w4, w5, w6, w7, w8, w9, w10, w11⟩ := wed_sim (b := 0) hn6 e3.2.2.2.1 ⟨by omega, by omega⟩ (by omega) hi hj hne
    have w2' : fX10_marries σM1 0 (nI i) (nI j) = some σM2 := w2
    rw [e1, e2, bVs, bVs, w1, w2', bVs, bVs]
    exact SIM.ret ⟨rfl, (e3.mod hi ⟨e4, e5⟩ e6 e7 w3 w4 w5 w6 w7 w8 w9 w11 w10).r⟩
  · rw [tw, bS, bS, if_pos rfl, if_pos rfl]
    exact SIM.ret ⟨rfl, R0.r⟩
/-- one number of a house changes -/
theorem set_mod {t : Bool} {n np h S k : Nat} {x : Int32} {σB σM : St} (R : REL0 t n np σB σM) (hh : h < n) (hS : 1 ≤ S ∧ S ≤ 20) (hS2 : gI σB 12 1 = nI S) (htop : gA σB 12 0 (9 * (S - 1)) = nI h) (hk : k = 0 ∨ k = 2) (hx : (k = 0 → ∃ v, 0 ≤ v ∧ v ≤ 9999 ∧ x = nI v) ∧ (k = 2 → ∃ v, 0 ≤ v ∧ v ≤ 9 ∧ x = nI v)) : REL0 t n np (sA σB 5 k h x) (sA σM 0 (46 + k) h x) := by
  have hn6 := R.2.2.1.n6
  obtain ⟨hx1, hx2⟩ := hx
  have ef : fm k = 46 + k := by rcases hk with rfl | rfl <;> rfl
  have k5 : k < 5 := by clear hx1 hx2; omega
  have k1 : k ≠ 1 := by clear hx1 hx2; omega
  have kM : (46 ≤ 46 + k ∧ 46 + k ≤ 53 ∧ 6 * 0 ≤ h ∧ h < 6 * 0 + 6) ∨ (54 ≤ 46 + k ∧ 46 + k ≤ 59 ∧ h = 0) := by clear hx1 hx2; omega
  have kP : 46 + k ≠ 52 ∧ 46 + k ≠ 53 := by clear hx1 hx2; omega
  have S2 : SR n 9999 9000 (sA σB 5 k h x) 5 (sA σM 0 (fm k) (6 * 0 + h) x) 0 := R.2.2.2.1.setA k h x k5 ⟨hx1, fun z => absurd z k1, hx2⟩
  rw [ef, Nat.mul_zero, Nat.zero_add] at S2
  refine R.mod hh hS hS2 htop S2 (frB.wA _ _ _ _ k5) (frM.wA _ _ _ _ kM) (frP.wA _ _ _ _ kP) rfl rfl (fun k' j hk' hj => ?_) (gAn (Ne.symm k1)) (fun _ _ => rfl)
  by_cases e : k' = k
  · subst e
    rw [gAe, upd_ne hj]
  · rw [gAn e]
theorem st9 : ST9 REL := by
  rintro σB σM a0 a1 ⟨t, n, np, R⟩
  have hn6 := R.2.2.1.n6
  unfold fX9_will fX10_will
  simp only [lt_eq, jnx1_eq, isWithin_eq, isInM_eq, bS, ifi0]
  rw [isInB_eq a0 hn6 (agr R) R.th.2.2.2.1, isOnNow_eq a0 hn6 R.th.2.2.1.hM R.th.2.2.2.1.bool0, bS, bS, ifi0, ifi0]
  by_cases c0 : (0 ≤ a0 ∧ a0 < nI n) ∧ gA (sI σM 0 2 0) 0 49 a0.toNatClampNeg = 1
  · rw [if_pos c0, if_pos c0]
    by_cases c1 : (0 : Int32) ≤ a1 ∧ a1 ≤ 9999
    · rw [if_pos c1, if_pos c1]
      obtain ⟨h, hh, rfl⟩ := house_nat hn6 c0.1
      obtain ⟨v, -, hv, rfl⟩ := in_nat 0 9999 c1 (by omega) (by omega)
      have R0 := R.th
      clear c0 c1
      generalize sI σM 0 2 0 = σ1 at *
      have b0 : gA σB 5 0 h = gA σ1 0 46 h := R0.a5 0 h (by omega) hh
      simp only [gdN (show h < 6 by omega) (show 6 ≤ 1000000 by omega), gdN (show h < 12 by omega) (show 12 ≤ 1000000 by omega), clN (show h < 1000000 by omega), b0]
      by_cases c2 : gA σ1 0 46 h = nI v
      · rw [if_pos c2, if_pos c2]
        exact SIM.ret ⟨rfl, R0.r⟩
      · rw [if_neg c2, if_neg c2]
        obtain ⟨σB1, σM1, S, e1, e2, e3, e4, e5, e6, e7, e8, e9, e10, e11, e12, e13⟩ := noted_sim R0 hh
        rw [e1, e2, bVs, bVs]
        exact SIM.ret ⟨rfl, (set_mod e3 hh ⟨e4, e5⟩ e6 e7 (k := 0) (Or.inl rfl) ⟨fun _ => ⟨v, by omega, hv, rfl⟩, fun z => by omega⟩).r⟩
    · rw [if_neg c1, if_neg c1]
      exact SIM.ret ⟨rfl, R.th.r⟩
  · rw [if_neg c0, if_neg c0]
    exact SIM.ret ⟨rfl, R.th.r⟩
theorem st10 : ST10 REL := by
  rintro σB σM a0 ⟨t, n, np, R⟩
  have hn6 := R.2.2.1.n6
  unfold fX9_child fX10_child
  simp only [lt_eq, jnx1_eq]
  rw [isInB_eq a0 hn6 (agr R) R.th.2.2.2.1, isOnNow_eq a0 hn6 R.th.2.2.1.hM R.th.2.2.2.1.bool0, bS, bS, ifi0, ifi0]
  by_cases c0 : (0 ≤ a0 ∧ a0 < nI n) ∧ gA (sI σM 0 2 0) 0 49 a0.toNatClampNeg = 1
  · rw [if_pos c0, if_pos c0]
    obtain ⟨h, hh, rfl⟩ := house_nat hn6 c0.1
    have R0 := R.th
    clear c0
    generalize sI σM 0 2 0 = σ1 at *
    obtain ⟨v, -, v1, v2⟩ := R0.2.2.2.1.2.2.2.2.2.1 h hh
    have b0 : gA σB 5 2 h = gA σ1 0 48 h := R0.a5 2 h (by omega) hh
    simp only [gdN (show h < 6 by omega) (show 6 ≤ 1000000 by omega), gdN (show h < 12 by omega) (show 12 ≤ 1000000 by omega), clN (show h < 1000000 by omega), ← b0, v2]
    by_cases c2 : v = 9
    · subst c2
      rw [if_neg (show ¬ nI 9 < 9 by decide), if_pos (show nI 9 = 9 from rfl)]
      exact SIM.ret ⟨rfl, R0.r⟩
    · rw [if_pos (show nI v < 9 from (ltN (a := v) (b := 9) (by omega) (by omega)).mpr (by omega)), if_neg (show ¬ nI v = 9 from fun z => c2 ((eqN (a := v) (b := 9) (by omega) (by omega)).mp z))]
      obtain ⟨σB1, σM1, S, e1, e2, e3, e4, e5, e6, e7, e8, e9, e10, e11, e12, e13⟩ := noted_sim R0 hh
      have g1 : gA σB1 5 2 h = nI v := by rw [e9 5 (by omega)]; exact v2
      have g2 : gA σM1 0 48 h = nI v := by rw [e12 48 (by omega), ← b0]; exact v2
      rw [e1, e2, bVs, bVs, g1, g2, nI_1]
      refine SIM.ret ⟨?_, (set_mod e3 hh ⟨e4, e5⟩ e6 e7 (k := 2) (Or.inr rfl) ⟨fun z => by omega, fun _ => ⟨v + 1, by omega, by omega, rfl⟩⟩).r⟩
      show gA (sA σB1 5 2 h (nI (v + 1))) 5 2 h = gA (sA σM1 0 48 h (nI (v + 1))) 0 48 h
      rw [gAe, gAe, upd_eq, upd_eq]
  · rw [if_neg c0, if_neg c0]
    exact SIM.ret ⟨rfl, R.th.r⟩
set_option maxHeartbeats 2000000 in
/-- the class takes back -/
theorem takeBack_eq {σ : St} {s h : Nat} (hs : s < 20) (h1 : gI σ 12 1 = nI (s + 1)) (hr : gA σ 12 0 (9 * s) = nI h) (hh : h < 6) : fX8_takeBack σ 5 = some (nI s, tbw (sI σ 12 1 (nI s)) s) := by
  unfold fX8_takeBack
  have e9 : nI s * 9 = nI (9 * s) := by rw [show (9 : Int32) = nI 9 from rfl, pk_mul, Nat.mul_comm]
  rw [h1, if_pos (show (0 : Int32) < nI (s + 1) from (ltN (a := 0) (b := s + 1) (by omega) (by omega)).mpr (by omega)), nI_pred]
  simp (disch := omega) only [lt_eq, gIe, e9, nI_1, pl (p := 9 * s) (k := 2) (x := 2) rfl, pl (p := 9 * s) (k := 3) (x := 3) rfl, pl (p := 9 * s) (k := 4) (x := 4) rfl, pl (p := 9 * s) (k := 5) (x := 5) rfl, pl (p := 9 * s) (k := 6) (x := 6) rfl, pl (p := 9 * s) (k := 7) (x := 7) rfl, pl (p := 9 * s) (k := 8) (x := 8) rfl, gdN (show 9 * s < 180 by omega) (show 180 ≤ 1000000 by omega), gdN (show 9 * s + 1 < 180 by omega) (show 180 ≤ 1000000 by omega), gdN (show 9 * s + 2 < 180 by omega) (show 180 ≤ 1000000 by omega), gdN (show 9 * s + 3 < 180 by omega) (show 180 ≤ 1000000 by omega), gdN (show 9 * s + 4 < 180 by omega) (show 180 ≤ 1000000 by omega), gdN (show 9 * s + 5 < 180 by omega) (show 180 ≤ 1000000 by omega), gdN (show 9 * s + 6 < 180 by omega) (show 180 ≤ 1000000 by omega), gdN (show 9 * s + 7 < 180 by omega) (show 180 ≤ 1000000 by omega), gdN (show 9 * s + 8 < 180 by omega) (show 180 ≤ 1000000 by omega), clN (show 9 * s < 1000000 by omega), clN (show 9 * s + 1 < 1000000 by omega), clN (show 9 * s + 2 < 1000000 by omega), clN (show 9 * s + 3 < 1000000 by omega), clN (show 9 * s + 4 < 1000000 by omega), clN (show 9 * s + 5 < 1000000 by omega), clN (show 9 * s + 6 < 1000000 by omega), clN (show 9 * s + 7 < 1000000 by omega), clN (show 9 * s + 8 < 1000000 by omega), gAI, hr, gdN (show h < 6 by omega) (show 6 ≤ 1000000 by omega), clN (show h < 1000000 by omega)]
  have g5 : ∀ (x : St) (k i : Nat) (v : Int32), gA (sA x 5 k i v) 12 0 = gA x 12 0 := fun x k i v => gAo (by omega)
  simp only [g5, gAI]
  have e1 : gI (tbw (sI σ 12 1 (nI s)) s) 12 1 = nI s := by
    unfold tbw
    simp (disch := omega) only [gIo, sA, gIA, gIe]
  unfold tbw at *
  simp only [gAI, hr, clN (show h < 1000000 by omega)] at *
  rw [e1]
theorem st40 : ST40 REL := by
  rintro σB σM ⟨t, n, np, R⟩
  have R0 := R.th
  have hn6 := R.2.2.1.n6
  unfold fX9_undo fX10_undo
  simp only [lt_eq]
  generalize sI σM 0 2 0 = σ1 at *
  obtain ⟨s, u1, u2, u3, u4⟩ := (show UNR n σB σ1 from R0.2.2.2.2.2.2.2.2.2.1)
  cases s with
  | zero =>
    have e : fX8_takeBack σB 5 = some (-1, σB) := by
      unfold fX8_takeBack
      rw [u2, if_neg (show ¬ (0 : Int32) < nI 0 by decide)]
    rw [e, bIs, u3, if_pos (show nI 0 = 0 from rfl)]
    exact SIM.ret ⟨rfl, R0.r⟩
  | succ s =>
    obtain ⟨q1, q2⟩ := u4 1 (by omega)
    obtain ⟨h, hh, hr⟩ := q2 (by omega)
    have hs1 : s + 1 - 1 = s := rfl
    rw [hs1] at hr
    rw [takeBack_eq (by omega) u2 hr (by omega), bIs, u3, if_neg (show ¬ nI (s + 1) = 0 from fun z => by have := (eqN (a := s + 1) (b := 0) (by omega) (by omega)).mp z; omega), nI_pred, gIe, show (33 : Int32) * nI s = nI (33 * s) from by rw [show (33 : Int32) = nI 33 from rfl, pk_mul]]
    obtain ⟨σ5, t1, t2, t3, t4, t5, t6, t7⟩ := take72_eq (sI σ1 0 71 (nI s)) (33 * s) (by omega)
    rw [t1, bVs, t2, gIe]
    -- the class's state
    have W : agW (tbs σB (s + 1) 1) (tbw (sI σB 12 1 (nI s)) s) := by
      show agW (tbw σB (s + 1 - 1)) (tbw (sI σB 12 1 (nI s)) s)
      rw [hs1]
      exact tbw_ag ⟨fun _ _ _ _ => rfl, fun k _ => gIo (by omega)⟩ (fun _ _ => rfl)
    have rows : gA (tbw (sI σB 12 1 (nI s)) s) 12 = gA σB 12 := by rw [tbw_rows]; rfl
    have WE : ∀ d, agW (tbs σB (s + 1) (d + 1)) (tbs (tbw (sI σB 12 1 (nI s)) s) s d) := by
      intro d
      induction d with
      | zero => exact W
      | succ d ih =>
        show agW (tbw (tbs σB (s + 1) (d + 1)) (s + 1 - (d + 1 + 1))) (tbw (tbs (tbw (sI σB 12 1 (nI s)) s) s d) (s - (d + 1)))
        refine tbw_ag ih (fun q hq => ?_)
        rw [tbs_rows, tbs_rows, rows, show s + 1 - (d + 1 + 1) = s - (d + 1) by omega]
    have VE : ∀ d, agM n 0 (vuM σ1 (s + 1) (d + 1)) (vuM σ5 s d) := by
      intro d
      unfold vuM
      rw [if_neg (show ¬ d + 1 = 0 by omega)]
      by_cases e0 : d = 0
      · subst e0
        rw [if_pos rfl, show s + 1 - (0 + 1) = s by omega]
        refine ⟨fun k j k1 k2 k3 k4 hj => ?_, fun k k1 k2 => ?_⟩
        · rw [show 6 * 0 + j = j by omega]
          obtain ⟨a1, a2, a3, a4, a5⟩ := t6 j (by omega)
          obtain rfl | rfl | rfl | rfl | rfl | rfl : k = 46 ∨ k = 47 ∨ k = 48 ∨ k = 49 ∨ k = 50 ∨ k = 51 := by omega
          · exact a1
          · show gA σ5 0 47 j = gA σ1 0 47 j
            rw [t5 47 (by omega)]
            rfl
          · exact a2
          · refine Eq.trans a3 ?_
            have hb := q1.bool0 j hj
            unfold vuM at hb
            rw [if_neg (show ¬ (1 : Nat) = 0 by omega), hs1] at hb
            have hb' : gA σ1 0 72 (33 * s + 12 + j) = 0 ∨ gA σ1 0 72 (33 * s + 12 + j) = 1 := hb
            show (if gA σ1 0 72 (33 * s + 12 + j) = 1 then (1 : Int32) else 0) = gA σ1 0 72 (33 * s + 12 + j)
            rcases hb' with e | e <;> rw [e] <;> rfl
          · exact a4
          · exact a5
        · obtain rfl | rfl | rfl | hk : k = 54 ∨ k = 55 ∨ k = 56 ∨ 57 ≤ k := by omega
          · exact t7.1
          · exact t7.2.1
          · exact t7.2.2
          · rw [t4 k (by omega)]
            obtain rfl | rfl | rfl : k = 57 ∨ k = 58 ∨ k = 59 := by omega
            all_goals rfl
      · rw [if_neg e0, show s + 1 - (d + 1) = s - d by omega]
        refine rowM_ag hn6 (fun x hx => ?_) (fun k hk j hj => ?_) (fun k k1 k2 => ?_)
        · rw [t4 72 (by omega)]
          rfl
        · rw [t5 k (Or.inl hk)]
          rfl
        · rw [t4 k (by omega)]
          rfl
    have S' : SR n 9999 9000 (tbw (sI σB 12 1 (nI s)) s) 5 σ5 0 := q1.cw hn6 W (VE 0)
    have e12 : gI (tbw (sI σB 12 1 (nI s)) s) 12 1 = nI s := by
      unfold tbw
      simp (disch := omega) only [gIo, sA, gIA, gIe]
    have U' : UNR n (tbw (sI σB 12 1 (nI s)) s) σ5 := by
      refine ⟨s, by omega, e12, by rw [t2, gIe], fun d hd => ?_⟩
      have hd1 : d + 1 ≤ s + 1 := by omega
      have hd2 : s + 1 - (d + 1) = s - d := by omega
      obtain ⟨w1, w2⟩ := u4 (d + 1) hd1
      refine ⟨w1.cw hn6 (WE d) (VE d), fun _ => ?_⟩
      rw [rows]
      have := w2 (Nat.succ_pos d)
      rw [hd2] at this
      exact this
    have oI : ∀ o, o ≠ 5 → o ≠ 12 → gI (tbw (sI σB 12 1 (nI s)) s) o = gI σB o := fun o o1 o2 => by
      funext k
      unfold tbw
      simp (disch := assumption) only [gIo, sA, gIA]
    have oA : ∀ o, o ≠ 5 → gA (tbw (sI σB 12 1 (nI s)) s) o = gA σB o := fun o o1 => by
      funext k
      unfold tbw
      simp (disch := assumption) only [gAI, sA, gAo]
    refine SIM.ret ⟨rfl, (R0.bld (fun o o5 _ _ o12 _ _ => oI o o5 o12) (fun o o5 _ _ _ _ _ => oA o o5) (fun k _ => rfl) (fun k _ _ _ _ _ h => by rw [t2, gIn h]) (fun k hk _ _ _ => by rw [t4 k (by omega)]; rfl) (by rw [t3]; rfl) S' (R0.2.2.2.2.1.cg ?_ ?_ (fun p hp => ?_)) ?_ U' (R0.2.2.2.2.2.2.2.2.2.2.1.cg (fun k _ => by rw [oA 13 (by omega)]) (oI 13 (by omega) (by omega)) (by rw [t4 69 (by omega)]; rfl) (by rw [t2, gIn (by omega)]) (by rw [t2, gIn (by omega)]))).r⟩
    · rw [tbw_gA, if_neg (by omega), if_neg (by omega), if_neg (by omega), if_neg (by omega)]
      rfl
    · rw [tbw_gI, if_neg (by omega), if_neg (by omega), if_neg (by omega), if_neg (by omega), gIo (by omega)]
    · rw [t5 52 (by omega), t5 53 (by omega)]
      exact ⟨rfl, rfl⟩
    · obtain ⟨k, d1, d2, d3⟩ := R0.2.2.2.2.2.1
      refine ⟨k, d1, ?_, by rw [t3]; exact d3⟩
      rw [tbw_gI, if_neg (by omega), if_neg (by omega), if_neg (by omega), if_neg (by omega), gIo (by omega)]
      exact d2
