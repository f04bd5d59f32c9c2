theorem mostB_quiet {n : Nat} (hn : n ≤ 6) {s : St} (hT : gI s (tx (gR s 0)) 1 = nI n) (hQ : QA n s) : lpx3 FU mrF 0 0 s = some (0, s) := by
  generalize hFU : FU = Z
  refine lpx3_wp (fun q => q = some (0, s)) (fun j x y u => x = 0 ∧ y = 0 ∧ u = s) ?_ Z 0 0 0 s (by rw [← hFU]; exact FU_gt (by omega)) ⟨rfl, rfl, rfl⟩
  rintro j self x y u ⟨rfl, rfl, rfl⟩ ih
  rw [mrF_eq, if_neg (show ¬ (20000 : Int32) ≤ 0 by decide), row_eq hn hT]
  have e : flat n n 0 (0, u) = some (0, u) := by
    cases n with
    | zero => rfl
    | succ k => exact flat_q (by omega) hQ _ _ _ (by omega)
  rw [e, bS, bIs, if_pos (show nI 0 = 0 from rfl)]
theorem st18 : ST18 REL := by
  rintro σB σM ⟨t, n, np, R⟩
  have hn6 := R.2.2.1.n6
  have hp6 := pow6 hn6
  rw [mostB_unf, most_unf, lt_eq, cl0]
  have R0 := R.th
  generalize sI σM 0 2 0 = σ1 at *
  obtain ⟨σB1, σM1, e1, e2, e3, e4, e5, e6, e7, e8⟩ := try_sim R0
  rw [e1, bVs]
  obtain ⟨b1, b2⟩ := tried_now R0 e2 e4
  have R1 := R0.q e6 e7
  have e14 : gI σB 5 14 = gA σ1 0 57 0 := R0.2.2.2.1.2.2.1 14 (by unfold isS; omega)
  have hT : gI σB1 (tx (gR σB1 0)) 1 = nI n := agr R1
  by_cases c : gA σ1 0 57 0 = 0
  · rw [if_pos c, e2, bVs]
    by_cases hn0 : n = 0
    · subst hn0
      rw [mostB_quiet hn6 hT (fun h hh => absurd hh (by omega))]
      have : lpx4 FU moF 0 0 0 σM1 = some (0, σM1) := by
        generalize hFU : FU = Z
        refine lpx4_wp (fun q => q = some (0, σM1)) (fun j x y z u => x = 0 ∧ y = 0 ∧ u = σM1) ?_ Z 0 0 0 0 σM1 (by rw [← hFU]; exact FU_gt (by omega)) ⟨rfl, rfl, rfl⟩
        rintro j self x y z u ⟨rfl, rfl, rfl⟩ ih
        unfold moF
        rw [R1.2.2.1.hM, if_pos (show nI 0 ≤ (0 : Int32) by decide)]
      rw [this]
      exact SIM.ret ⟨rfl, R1.r⟩
    · obtain ⟨u, hu, hu2⟩ := e4.2.2.2.2.2.2.2.1
      obtain ⟨m, r, σB', σM', g1, g2, g3, g4, ⟨u', g5, g6, g7⟩, g8⟩ := mostM (np := np) (show 0 < n by omega) 70000 FU 0 0 0 u σB1 σM1 (FU_gt (by omega)) R1 e3 e4 (by rw [b1, e14]; exact c) (by omega) (by omega) (fun d d1 d2 => by omega) hu2 hu (by omega)
      have g1' : lpx4 FU moF 0 0 0 σM1 = some (nI (0 + r), σM') := g1
      have hr : lpx3 FU mrF 0 0 σB1 = some (nI (0 + r), σB') := rows_run (show 0 < n by omega) hn6 m 999998 0 0 r σB1 σB' (by omega) hT g2 g3 (by omega)
      rw [g1', hr]
      exact SIM.ret ⟨rfl, g4.r⟩
  · rw [if_neg c]
    have hQ : QA n σB1 := fun h hh => by
      obtain ⟨m, m1, m2, m3⟩ := e4.2.1
      rw [mayB_eq m2 (by omega) (by omega), if_neg (fun z => c (by rw [← e14, ← b1]; exact z.1))]
    rw [mostB_quiet hn6 hT hQ]
    exact SIM.ret ⟨rfl, (R0.q e6 (qM.rf _)).r⟩
