/-- the end of the lines, both sides -/
def LQ (u : Bool) (A B : St) (q q' : Int32 × St) : Prop :=
  (q.1 = 1 ∧ ∃ s', fX9_startAnew (sR (sR (sI (sI q.2 0 5 0) 0 6 (-1)) 0 (gR q.2 1)) 1 (gR q.2 0)) = some s' ∧ REL s' q'.2 ∧ gI s' (tx (gR s' 0)) 0 = q'.1) ∨ (q.1 = 0 ∧ q'.1 = -1 ∧ frRB u A q.2 ∧ frRM B q'.2 ∧ gI q.2 9 3 = gI q'.2 0 4 ∧ gI q.2 10 4 = gI q'.2 0 5)
theorem textloop {u : Bool} {c : Nat → Nat} {S n np p : Nat} {A B : St} (hR1 : gR A 1 = u) (hR0 : gR A 0 = !u) (h01 : gI A 0 1 = 0) (m01 : gI B 0 1 = 0) (R : RD u c S n np A B) (K : TKp S p A B) (f4 : gI B 0 4 = 0) (f5 : gI B 0 5 = -1) (t0 : gI A (tx u) 0 = 0) : SIM (LQ u A B) (lpx2 FU (fun self12 (x10 : Int32) (σ11 : St) => if (700 : Int32) < x10 then some ((1 : Int32), σ11) else (if (gI σ11 10 3) = (21 : Int32) then some ((1 : Int32), σ11) else (bI (fX3_readLine σ11) fun r18 σ19 => if r18 = 0 then some ((0 : Int32), σ19) else (bI (fX3_endLine σ19) fun r24 σ25 => if r24 = 0 then some ((0 : Int32), σ25) else self12 (x10 + (1 : Int32)) σ25)))) (0 : Int32) A) (lpx2 FU (fun self16 (x14 : Int32) (σ15 : St) => if (gI σ15 0 8) = 0 then (bV (fX10_keepText σ15) fun σ20 => some (x14, σ20)) else (bI (fX10_lineRead σ15) fun r22 σ23 => if r22 = 0 then (some ((-1 : Int32), σ23)) else (self16 (x14 + (1 : Int32)) σ23))) (0 : Int32) B) := by
  have t1 := tx_le u
  have t2 := lw_le u
  have z0 : (0 : Int32) = 0 := rfl
  have z1 : ¬ (1 : Int32) = 0 := by decide
  have hS : S ≤ 700 := R.1.1
  have pS : ∀ p' (x y : St), TKp S p' x y → p' ≤ 700 := fun p' x y h => by
    obtain ⟨i', h1, h2, -⟩ := h
    omega
  generalize hFU : FU = Z
  refine simlp2_2 _ (fun j x10 x x14 y => ∃ cnt p' n' np', j = 701 - p' ∧ p' ≤ 700 ∧ cnt ≤ p' ∧ x10 = nI cnt ∧ x14 = nI cnt ∧ gI x (tx u) 0 = nI cnt ∧ RD u c S n' np' x y ∧ TKp S p' x y ∧ frRB u A x ∧ frRM B y ∧ gI y 0 4 = 0 ∧ gI y 0 5 = -1) ?_ Z Z (701 - p) 0 A 0 B (by rw [← hFU]; exact FU_gt (by omega)) (by rw [← hFU]; exact FU_gt (by omega)) ⟨0, p, n, np, rfl, pS p _ _ K, by omega, rfl, rfl, t0, R, K, frRB.rf u A, frRM.rf B, f4, f5⟩
  rintro j sF sG x10 x x14 y ⟨cnt, p', n', np', rfl, hp, hc, rfl, rfl, ht, R', K', fB, fM, y4, y5⟩ self
  obtain ⟨tk, ha, e1, c1, c2, c3, c4, c5, c6, c7, c8, c9, c10⟩ := K'.cls
  rw [if_neg (show ¬ (700 : Int32) < nI cnt from fun z => absurd ((ltN (a := 700) (b := cnt) (by omega) (by omega)).mp z) (by omega))]
  by_cases d : tk = 21
  · rw [if_pos (show gI x 10 3 = (21 : Int32) by rw [e1, d]; rfl), if_pos (c9.mpr d)]
    obtain ⟨T, r3, X, r5, r6⟩ := R'
    obtain ⟨T1, T2, T3, T4, T5⟩ := T
    have g1 : gR x 1 = u := (fB.2.2.1 1 (by omega)).trans hR1
    have g0 : gR x 0 = !u := (fB.2.2.1 0 (by omega)).trans hR0
    have XT : TX u n' np' (sR (sR (sI (sI x 0 5 0) 0 6 (-1)) 0 (gR x 1)) 1 (gR x 0)) (hf y) := by
      refine X.cg ?_ ?_ rfl rfl (fun _ _ _ => rfl) (fun _ _ _ => rfl)
      · funext k
        show gI (sI (sI x 0 5 0) 0 6 (-1)) (tx u) k = _
        rw [gIo (by omega), gIo (by omega)]
      · show gI (sI (sI x 0 5 0) 0 6 (-1)) (lw u) 4 = _
        rw [gIo (by omega), gIo (by omega)]
    have P : TPR (sR (sR (sI (sI x 0 5 0) 0 6 (-1)) 0 (gR x 1)) 1 (gR x 0)) y := by
      refine ⟨0, by omega, ?_, ?_, fun i hi => ⟨c i, (T4 i hi).1, (T4 i hi).2.1, (T4 i hi).2.2⟩⟩
      · show gI (sI (sI x 0 5 0) 0 6 (-1)) 0 1 = _
        rw [gIn (by omega), gIn (by omega), fB.1 0 (by omega) (by omega) (by omega) (by omega) (by omega), h01]
        rfl
      · rw [fM.1 1 (by omega), m01]
        rfl
    have F : FLT (sR (sR (sI (sI x 0 5 0) 0 6 (-1)) 0 (gR x 1)) 1 (gR x 0)) y := by
      refine ⟨?_, ?_⟩
      · show gI (sI (sI x 0 5 0) 0 6 (-1)) 0 5 = _
        rw [gIn (by omega), gIe, y4]
      · show gI (sI (sI x 0 5 0) 0 6 (-1)) 0 6 = _
        rw [gIe, y5]
    obtain ⟨σB', σM', a1, a2, a3, a4, -⟩ := anew (u := u) (by rw [gR_sR, if_neg (by omega), gR_sR, if_pos rfl]; exact g1) (by rw [gR_sR, if_pos rfl]; exact g0) XT P F T5
    rw [a2, bVs]
    refine SIM.ret (Or.inl ⟨rfl, σB', a1, a3.r, ?_⟩)
    show gI σB' (tx (gR σB' 0)) 0 = nI cnt
    rw [a3.1, a4]
    show gI (sI (sI x 0 5 0) 0 6 (-1)) (tx u) 0 = _
    rw [gIo (by omega), gIo (by omega)]
    exact ht
  · have n21 : ¬ gI x 10 3 = (21 : Int32) := fun z => d (by rw [e1] at z; exact (eqN (a := tk) (b := 21) (by omega) (by omega)).mp z)
    rw [if_neg n21, if_neg (fun z => d (c9.mp z))]
    obtain ⟨⟨r, x2⟩, ⟨r', y2⟩, eC, eM, L⟩ := line_sim R' K' n21
    obtain ⟨l1, l2, l3, l4⟩ := L
    have l1 : r = r' := l1
    subst l1
    have eC' := eC (fun σ25 => sF (nI cnt + (1 : Int32)) σ25)
    unfold clE at eC'
    rw [eC', eM, bIs]
    rcases l4 with ⟨k1, k3, k4, k5, n2, np2, p2, R2, hp2, K2⟩ | ⟨k1, k2, k3⟩
    · have k1 : r = 1 := k1
      subst k1
      show SIM (LQ u A B) (if (1 : Int32) = 0 then some ((0 : Int32), x2) else sF (nI cnt + (1 : Int32)) x2) (if (1 : Int32) = 0 then (some ((-1 : Int32), y2)) else (sG (nI cnt + (1 : Int32)) y2))
      rw [if_neg z1, if_neg z1, nI_1]
      have hp3 := pS p2 _ _ K2
      refine self (701 - p2) _ _ _ _ (by omega) ⟨cnt + 1, p2, n2, np2, rfl, hp3, by omega, rfl, rfl, ?_, R2, K2, fB.tr l2, fM.tr l3, k3.trans y4, k4.trans y5⟩
      show gI x2 (tx u) 0 = _
      rw [show gI x2 (tx u) 0 = gI x (tx u) 0 + 1 from k5, ht, nI_1]
    · have k1 : r = 0 := k1
      subst k1
      show SIM (LQ u A B) (if (0 : Int32) = 0 then some ((0 : Int32), x2) else sF (nI cnt + (1 : Int32)) x2) (if (0 : Int32) = 0 then (some ((-1 : Int32), y2)) else (sG (nI cnt + (1 : Int32)) y2))
      rw [if_pos z0, if_pos z0]
      exact SIM.ret (Or.inr ⟨rfl, rfl, fB.tr l2, fM.tr l3, k2, k3⟩)
