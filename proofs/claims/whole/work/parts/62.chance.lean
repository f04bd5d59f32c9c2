theorem qM.jj {a b : St} (x : Int64) (h1 : ∀ k, k ≠ 2 → k ≠ 45 → (k < 61 ∨ 66 < k) → gI b 0 k = gI a 0 k) (h2 : ∀ k, (k < 46 ∨ 59 < k) → k ≠ 70 → gA b 0 k = gA a 0 k) (h3 : ∀ k j, 46 ≤ k → k ≤ 53 → j < 6 → gA b 0 k j = gA a 0 k j) (h4 : ∀ k, 54 ≤ k → k ≤ 59 → gA b 0 k 0 = gA a 0 k 0) (h5 : gJ b 0 76 = gJ a 0 76) : qM (sJ a 0 60 x) (sJ b 0 60 x) :=
  ⟨h1, h2, h3, h4, by rw [gJ_sJ, gJ_sJ, if_pos ⟨rfl, rfl⟩, if_pos ⟨rfl, rfl⟩], by rw [gJ_sJ, gJ_sJ, if_neg (by omega), if_neg (by omega)]; exact h5⟩
/-- one of ten times drawn -/
theorem chStep {t : Bool} {n np k q h : Nat} {x : Int64} (hk : k < 1000) (hh : h < n) (s s' : St) (Rs : REL0 t n np s (sJ s' 0 60 x)) (h2 : gR s 2 = t) (hf : ∀ k, 2 ≤ k → k ≤ 6 → gI s 14 k = if k = 2 then 1 else 0) (hq : gJ s' 0 60 = lN q) :
    ∃ σB3 σB4 σM3 σM4 q' m, fX4_become s 6 5 = some σB3 ∧ fX10_layTried s' = some σM3 ∧ fX0_passYears (sI σB3 6 13 (nI q)) 6 (nI k) = some σB4 ∧ fX10_goMany (sI σM3 0 61 1) (nI k) = some σM4 ∧ REL0 t n np σB4 (sJ σM4 0 60 x) ∧ gR σB4 2 = t ∧ (∀ k, 2 ≤ k → k ≤ 6 → gI σB4 14 k = if k = 2 then 1 else 0) ∧ gI σB4 6 13 = nI q' ∧ gJ σM4 0 60 = lN q' ∧ m < 64 ∧ gI σB4 6 6 = nI m ∧ gA σM4 0 49 (6 + h) = if m.testBit h then 1 else 0 := by
  have S5 : SR n 9999 9000 s 5 s' 0 := Rs.2.2.2.1.cg (agB.rf _ _) (agM.wG rfl)
  have hn6 := Rs.2.2.1.n6
  have hp6 := pow6 hn6
  obtain ⟨σB3, b1, b2, b3, b4, b5, b6, b7⟩ := become_eq s 6 5 (by omega) S5.2.2.2.2.2.2.2.2.2
  obtain ⟨σM3, l1, l2, l3, l4, l5, l6, l7⟩ := layTried_eq s'
  have QB3 : qB s (sI σB3 6 13 (nI q)) := ⟨fun o o1 _ _ => by funext k'; rw [gIo o1, b4 o o1], fun o k o1 _ _ _ => by show gA σB3 o k = _; rw [b5 o o1], fun k _ => by show gR σB3 k = _; rw [b6]⟩
  have QM3 : qM (sJ s' 0 60 x) (sJ (sI σM3 0 61 1) 0 60 x) := qM.jj x (fun k _ _ h => by rw [gIn (by omega)]; exact l3 k (by omega)) (fun k h _ => l5 k h) (fun k j k1 k2 k3 => (l6 k j k1 k2 k3).1) (fun k k1 k2 => (l7 k k1 k2).1) (by show gJ σM3 0 76 = _; rw [l4])
  have R3 := Rs.q QB3 QM3
  have S3 : SR n 9999 9000 (sI σB3 6 13 (nI q)) 6 (sI σM3 0 61 1) 1 := (lay_sim S5 hn6 b2 b3 l6 l7).cg (agB.num _ _) (agM.wG rfl)
  have C3 : CX t n np (sI σB3 6 13 (nI q)) (sI σM3 0 61 1) := by
    refine ⟨R3.2.2.1.cg rfl rfl rfl rfl (fun _ _ _ => rfl) (fun _ _ _ => rfl), by show gR σB3 2 = t; rw [b6]; exact h2, fun q q1 q2 => ?_, Or.inr (gIe _ _ _ _)⟩
    rw [gIo (by omega), b4 14 (by omega), hf q q1 q2]
    by_cases e : q = 2
    · subst e
      rw [if_pos rfl, gIe]
    · rw [if_neg e, gIn (by omega)]
      exact (l2 (59 + q) (by omega) (by omega)).symm
  have N3 : NR (sI σB3 6 13 (nI q)) 6 (sI σM3 0 61 1) := Or.inr ⟨q, gIe _ _ _ _, by show gJ σM3 0 60 = _; rw [l4]; exact hq⟩
  obtain ⟨σB4, σM4, e1, e2, r1, r2, r3, r4, r5⟩ := run_sim (o := 6) (b := 1) ⟨by omega, by omega⟩ ⟨by omega, by omega⟩ (by omega) k 9000 _ _ C3 S3 N3 (by omega)
  have h61 : gI σM4 0 61 = 1 := by rw [r3.1 61 (by omega) (by omega), gIe]
  obtain ⟨q', q1, q2⟩ := r4.resolve_left (by rw [h61]; exact ne10)
  obtain ⟨m, m1, m2, m3⟩ := r1.bits
  have m4 := m3 h hh
  rw [show 6 * 1 + h = 6 + h by omega] at m4
  refine ⟨σB3, σB4, σM3, σM4, q', m, b1, l1, by rw [passYears_it _ 6 k (by omega)]; exact e1, by rw [goMany_it _ k (by omega)]; exact e2, R3.q (qB.fr (Or.inl rfl) r2) (qM.jj x (fun k _ _ h => r3.1 k (by omega) (by omega)) (fun k h _ => r3.2.1 k h) (fun k j k1 k2 k3 => r3.2.2.1 k j k1 k2 (by omega)) (fun k k1 k2 => r3.2.2.2.1 k 0 k1 k2 (by omega)) (r3.2.2.2.2 76 (by omega))), ?_, fun q q1 q2 => ?_, q1, q2, by omega, m2, m4⟩
  · rw [r2.2.2.1]
    show gR σB3 2 = t
    rw [b6]; exact h2
  · rw [r2.1 14 (by omega), gIo (by omega), b4 14 (by omega)]
    exact hf q q1 q2
set_option maxHeartbeats 1000000 in
theorem st38 : ST38 REL := by
  rintro σB σM a0 a1 a2 ⟨t, n, np, R⟩
  have hn6 := R.2.2.1.n6
  unfold fX9_chance fX10_chance
  simp only [isWithin_eq, isInM_eq, bS, lt_eq, jnx1_eq, ifi0]
  rw [isHouseB_eq a2 hn6 (agr R), isHouseM_eq a2 R.th.2.2.1.hM, bS, bS, ifi0, ifi0]
  by_cases c0 : a0 < 0
  · rw [if_pos c0, if_pos c0]
    exact SIM.ret ⟨rfl, R.th.r⟩
  · rw [if_neg c0, if_neg c0]
    by_cases c1 : (1 : Int32) ≤ a1 ∧ a1 ≤ 99
    · rw [if_pos c1, if_pos c1]
      by_cases c2 : 0 ≤ a2 ∧ a2 < nI n
      · rw [if_pos c2, if_pos c2]
        obtain ⟨k, -, hk, rfl⟩ := in_nat 1 99 c1 (by omega) (by omega)
        obtain ⟨h, hh, rfl⟩ := house_nat hn6 c2
        obtain ⟨q0, hq0, rfl⟩ := nI_of c0
        have R0 := R.th
        generalize sI σM 0 2 0 = σ1 at *
        obtain ⟨σ2, f1, f2, f3, f4, f5, f6, f7⟩ := asItGoes_eq σB (gR σB 0)
        have eb : fX0_byNumbers σB (gR σB 0) = some (sI σ2 14 2 1) := by
          unfold fX0_byNumbers
          rw [f1, bVs, lt_eq]
        rw [eb, bVs, nI_l hq0]
        have QB0 : qB σB (sI σ2 14 2 1) := ⟨fun o _ _ o3 => by funext k'; rw [gIo o3, f5 o o3], fun o k _ _ _ _ => by show gA σ2 o k = _; rw [f6], fun k hk => f3 k hk⟩
        have QM0 : qM σ1 (sJ (sJ σ1 0 60 (lN q0)) 0 60 (gJ σ1 0 60)) := ⟨fun _ _ _ _ => rfl, fun _ _ _ => rfl, fun _ _ _ _ _ => rfl, fun _ _ _ => rfl, by rw [gJ_sJ, if_pos ⟨rfl, rfl⟩], by rw [gJ_sJ, gJ_sJ, if_neg (by omega), if_neg (by omega)]⟩
        have R2 := R0.q QB0 QM0
        have hR2 : gR (sI σ2 14 2 1) 2 = t := by show gR σ2 2 = t; rw [f2, R.1]
        have hF2 : ∀ k, 2 ≤ k → k ≤ 6 → gI (sI σ2 14 2 1) 14 k = if k = 2 then 1 else 0 := fun k k1 k2 => by
          by_cases e : k = 2
          · subst e
            rw [gIe, if_pos rfl]
          · rw [gIn e, if_neg e]
            exact f4 k k1 k2
        have hJ2 : gJ (sJ σ1 0 60 (lN q0)) 0 60 = lN q0 := by rw [gJ_sJ, if_pos ⟨rfl, rfl⟩]
        generalize sI σ2 14 2 1 = s0 at *
        generalize gJ σ1 0 60 = x0 at *
        generalize sJ σ1 0 60 (lN q0) = s0' at *
        simp only [six1, clN (show 6 + h < 1000000 by omega), gdN (show 6 + h < 12 by omega) (show 12 ≤ 1000000 by omega)]
        generalize hFU : FU = Z
        refine simlp4_3 _ (fun j x y z s y' z' s' => ∃ i q, i + j = 10 ∧ z = nI i ∧ z' = nI i ∧ y = y' ∧ x = nI q ∧ REL0 t n np s (sJ s' 0 60 x0) ∧ gR s 2 = t ∧ (∀ k, 2 ≤ k → k ≤ 6 → gI s 14 k = if k = 2 then 1 else 0) ∧ gJ s' 0 60 = lN q) ?_ Z Z 10 (nI q0) 0 0 s0 0 0 s0' (by rw [← hFU]; exact FU_gt (by omega)) (by rw [← hFU]; exact FU_gt (by omega)) ⟨0, q0, by omega, rfl, rfl, rfl, rfl, R2, hR2, hF2, hJ2⟩
        rintro j sF sG x y z s y' z' s' ⟨i, q, hi, rfl, rfl, rfl, rfl, Rs, hR, hF, hJ⟩ ih
        by_cases c : 10 ≤ i
        · rw [if_pos (show (10 : Int32) ≤ nI i from (leN (a := 10) (b := i) (by omega) (by omega)).mpr c), if_pos (show (10 : Int32) ≤ nI i from (leN (a := 10) (b := i) (by omega) (by omega)).mpr c)]
          refine SIM.ret ⟨rfl, (Rs.q (qB.rf _) ?_).r⟩
          exact qM.jj x0 (fun k _ _ h => gIn (by omega)) (fun _ _ _ => rfl) (fun _ _ _ _ _ => rfl) (fun _ _ _ => rfl) rfl
        · rw [if_neg (show ¬ (10 : Int32) ≤ nI i from fun z => c ((leN (a := 10) (b := i) (by omega) (by omega)).mp z)), if_neg (show ¬ (10 : Int32) ≤ nI i from fun z => c ((leN (a := 10) (b := i) (by omega) (by omega)).mp z))]
          obtain ⟨σB3, σB4, σM3, σM4, q', m, g1, g2, g3, g4, g5, g6, g7, g8, g9, g10, g11, g12⟩ := chStep (k := k) (by omega) hh s s' Rs hR hF hJ
          rw [g1, g2, bVs, bVs, g3, g4, bVs, bVs, holds_eq g11 g10 (by omega), bS, ifi0, g12, ifi0]
          cases m.testBit h
          · rw [if_neg (by simp), if_neg (by simp)]
            exact ih (j - 1) _ _ _ _ _ _ _ (by omega) ⟨i + 1, q', by omega, nI_1 i, nI_1 i, rfl, g8, g5, g6, g7, g9⟩
          · rw [if_pos rfl, if_pos rfl]
            exact ih (j - 1) _ _ _ _ _ _ _ (by omega) ⟨i + 1, q', by omega, nI_1 i, nI_1 i, rfl, g8, g5, g6, g7, g9⟩
      · rw [if_neg c2, if_neg c2]
        exact SIM.ret ⟨rfl, R.th.r⟩
    · rw [if_neg c1, if_neg c1]
      exact SIM.ret ⟨rfl, R.th.r⟩
