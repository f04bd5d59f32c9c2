theorem sc.q {K : Nat} {F : Nat → Bool} {σB σM σB' σM' : St} (h : sc K F σB σM) (h1 : gA σB' 13 3 = gA σB 13 3) (h2 : gA σM' 0 70 = gA σM 0 70) : sc K F σB' σM' := by
  unfold sc at *
  rw [h1, h2]
  exact h
/-- what is seen stays so -/
def snR (s K : Nat) (σB σM : St) : Prop := fX5_howManyKnown σB = some (nI K) ∧ fX10_knownBy σM = some (nI K) ∧ ∀ i, i < s → seR σB σM i
theorem snR.q {s K : Nat} {σB σM σB' σM' : St} (h : snR s K σB σM) (hB : qB σB σB') (hM : qM σM σM') : snR s K σB' σM' := by
  obtain ⟨h1, h2, h3⟩ := h
  unfold fX5_howManyKnown at h1
  unfold fX10_knownBy at h2
  unfold seR at h3
  unfold snR fX5_howManyKnown fX10_knownBy seR
  rw [hB.1 13 (by omega) (by omega) (by omega), hM.1 67 (by omega) (by omega) (by omega), hM.1 68 (by omega) (by omega) (by omega), hB.2.1 13 0 (by omega) (by omega) (by omega) (by omega), hB.2.1 13 1 (by omega) (by omega) (by omega) (by omega), hB.2.1 13 2 (by omega) (by omega) (by omega) (by omega), hM.2.1 69 (by omega) (by omega)]
  exact ⟨h1, h2, h3⟩
set_option maxHeartbeats 1000000 in
/-- one bound tried: both sides -/
theorem agStep {t : Bool} {n np s K h v : Nat} {F : Nat → Bool} (hh : h < n) (hv : v ≤ 999) (hs : s ≤ 24) (hK : K ≤ s) (σB σM : St) (R : REL0 t n np σB σM) (hk : snR s K σB σM) (hc : sc K F σB σM) : ∃ r σB' σM', fX9_agreesWithSeen σB (nI h) (nI v) = some (r, σB') ∧ fX10_fits σM (nI h) (nI v) = some (r, σM') ∧ REL0 t n np σB' σM' ∧ snR s K σB' σM' ∧ sc K F σB' σM' ∧ (r = 0 ∨ r = 1) := by
  have hn6 := R.2.2.1.n6
  obtain ⟨σ2, f1, R2, f2, f3, f4, f5, f6⟩ := R.goes
  obtain ⟨σ4, u2, g1, g2, g3, g4, g5, g6, g7, g8, g9, g10, g11⟩ := first_sim (o := 6) (b := 1) R2.2.2.1 ⟨by omega, by omega⟩ (by omega)
  obtain ⟨u4, p1, p2, p3, p4, p5⟩ := plainTried_eq u2
  have g2' : fX10_atFirst σM 1 = some u2 := g2
  have QB : qB σB σ4 := f4.tr ⟨fun o o1 _ _ => g6 o o1, fun o k o1 _ _ _ => by rw [g7 o o1], fun k _ => by rw [g8]⟩
  have QM : qM σM u4 := (qM.fr g9 (by rw [g11])).tr (qM.pt p3 p4 p5)
  have R4 := R.q QB QM
  have C4 : CX t n np σ4 u4 := ⟨R4.2.2.1, by rw [g8]; exact f2, fun k k1 k2 => by rw [g6 14 (by omega), f3 k k1 k2]; exact (p2 (59 + k) (by omega) (by omega)).symm, Or.inl (p2 61 (by omega) (by omega))⟩
  have S4 : SR n 9999 9000 σ4 6 u4 1 := (g3.cg (agB.rf _ _) (agM.wG p4)).mono (Nat.le_refl _) (by omega)
  obtain ⟨R5, C5, S5⟩ := trialBound (v := v) R4 C4 S4 hh (by omega)
  have hk5 : snR s K (sA σ4 6 0 h (nI v)) (sA u4 0 46 (6 + h) (nI v)) := hk.q (QB.tr (qB.t6 0 h (nI v))) (QM.tr (qM.s1 46 h (nI v) (by omega)))
  have hc5 : sc K F (sA σ4 6 0 h (nI v)) (sA u4 0 46 (6 + h) (nI v)) := hc.q (by rw [gAo (by omega), g7 13 (by omega), f5]) (by rw [gAn (by omega), p4, g9.2.1 70 (by omega)])
  have h61 : gI (sA u4 0 46 (6 + h) (nI v)) 0 61 = 0 := p2 61 (by omega) (by omega)
  have key : SIM (fun q q' => q.1 = q'.1 ∧ REL0 t n np q.2 q'.2 ∧ snR s K q.2 q'.2 ∧ sc K F q.2 q'.2 ∧ (q.1 = 0 ∨ q.1 = 1)) (fX9_agreesWithSeen σB (nI h) (nI v)) (fX10_fits σM (nI h) (nI v)) := by
    unfold fX9_agreesWithSeen fX10_fits
    have gr : gR σ2 0 = t := R2.1
    rw [f1, bVs, gr, g1, bVs, g2', bVs, p1, bVs]
    simp only [lt_eq, six1, gdN (show h < 6 by omega) (show 6 ≤ 1000000 by omega), gdN (show 6 + h < 12 by omega) (show 12 ≤ 1000000 by omega), clN (show h < 1000000 by omega), clN (show 6 + h < 1000000 by omega)]
    generalize sA σ4 6 0 h (nI v) = s0 at *
    generalize sA u4 0 46 (6 + h) (nI v) = s0' at *
    generalize hFU : FU = Z
    refine simlp2_2 _ (fun j x s1 x' s1' => ∃ i, i + j = 100 ∧ 1 ≤ i ∧ x = nI i ∧ x' = nI i ∧ REL0 t n np s1 s1' ∧ CX t n np s1 s1' ∧ SR n 9999 (9000 + i) s1 6 s1' 1 ∧ gI s1' 0 61 = 0 ∧ snR s K s1 s1' ∧ sc K F s1 s1') ?_ Z Z 99 1 s0 1 s0' (by rw [← hFU]; exact FU_gt (by omega)) (by rw [← hFU]; exact FU_gt (by omega)) ⟨1, by omega, by omega, rfl, rfl, R5, C5, S5.mono (Nat.le_refl _) (by omega), h61, hk5, hc5⟩
    rintro j sF sG x s1 x' s1' ⟨i, hi, hi1, rfl, rfl, Rs, C2, S2, h61, hk1, hc1⟩ ih
    by_cases c : 99 < i
    · rw [if_pos (show (99 : Int32) < nI i from (ltN (a := 99) (b := i) (by omega) (by omega)).mpr c), if_pos (show (99 : Int32) < nI i from (ltN (a := 99) (b := i) (by omega) (by omega)).mpr c)]
      exact SIM.ret ⟨rfl, Rs, hk1, hc1, Or.inr rfl⟩
    · rw [if_neg (show ¬ (99 : Int32) < nI i from fun z => c ((ltN (a := 99) (b := i) (by omega) (by omega)).mp z)), if_neg (show ¬ (99 : Int32) < nI i from fun z => c ((ltN (a := 99) (b := i) (by omega) (by omega)).mp z))]
      obtain ⟨q, s2, q1, q2, y1, y2, y3, y4, y5, y6, y7, y8, y9⟩ := year_sim C2 S2 (Or.inl h61) ⟨by omega, by omega⟩ (by omega) ⟨by omega, by omega⟩ (b := 1) (by omega)
      have q2' : fX10_yearGoes s1' 1 = some s2 := q2
      have QB1 := qB.fr (Or.inl rfl) y4
      have QM1 := qM.fr y5 (y7 h61)
      have R3 := Rs.q QB1 QM1
      have hk3 := hk1.q QB1 QM1
      have hc3 : sc K F q.2 s2 := hc1.q (by rw [y4.2.1 13 (by omega)]) (y5.2.1 70 (by omega))
      have a9 : gI q.2 6 9 = gA s2 0 54 1 := y1.2.2.1 9 (by unfold isS; omega)
      obtain ⟨r, z1, z2, z3⟩ := allows_sim (y := i) hs hK hk3.1 hk3.2.1 hk3.2.2 hc3 ⟨hi1, by omega⟩
      rw [q1, q2', bIq, bVs, a9, z1, z2, bS, bS]
      rcases z3 with rfl | rfl
      · rw [if_pos rfl, if_pos rfl]
        exact SIM.ret ⟨rfl, R3, hk3, hc3, Or.inl rfl⟩
      · rw [if_neg ne10, if_neg ne10]
        exact ih (j - 1) _ _ _ _ (by omega) ⟨i + 1, by omega, by omega, nI_1 i, nI_1 i, R3, C2.cg ⟨by omega, by omega⟩ y4 y5, y1, by rw [y5.1 61 (by omega) (by omega)]; exact h61, hk3, hc3⟩
  obtain ⟨q, q', e1, e2, e3, e4, e5, e6, e7⟩ := key
  exact ⟨q.1, q.2, q'.2, e1, by rw [e3]; exact e2, e4, e5, e6, e7⟩
set_option maxHeartbeats 2000000 in
theorem st37 : ST37 REL := by
  rintro σB σM a0 ⟨t, n, np, R⟩
  have hn6 := R.2.2.1.n6
  unfold fX9_bounds fX10_bounds
  rw [lt_eq, isHouseB_eq a0 hn6 (agr R), isHouseM_eq a0 R.th.2.2.1.hM, bS, bS, ifi0, ifi0]
  by_cases c0 : 0 ≤ a0 ∧ a0 < nI n
  · rw [if_pos c0, if_pos c0]
    obtain ⟨h, hh, rfl⟩ := house_nat hn6 c0
    have R0 := R.th
    clear c0
    generalize sI σM 0 2 0 = σ1 at *
    obtain ⟨s, K, hs, hK, k1, k2, k3⟩ := (show SEE σB σ1 from R0.2.2.2.2.2.2.2.2.2.2.1).known
    have hv : ∀ i, i < s → gA σB 13 0 i = 2 → ∃ v, v < i ∧ gA σB 13 2 i = nI v := fun i hi e => by
      rcases k3 i hi with ⟨-, -, -, v, v1, v2, -⟩ | ⟨w, -⟩
      · exact ⟨v, v1, v2⟩
      · rw [e] at w
        rcases w with w | w <;> exact absurd w (by decide)
    obtain ⟨σ5, g1, g2, g3, g4, g5, g6⟩ := findStruck_eq hs hK k1 hv
    rw [g1, bVs]
    have QB : qB σB σ5 := ⟨fun o _ _ _ => by rw [g2], fun o k _ _ _ hk => g5 o k hk, fun k _ => by rw [g3]⟩
    have kM : ∀ u, gI u 0 67 = gI σ1 0 67 → gI u 0 68 = gI σ1 0 68 → fX10_knownBy u = some (nI K) := fun u e1 e2 => by
      unfold fX10_knownBy at *
      rw [e1, e2]
      exact k2
    generalize hF : stF (kS σB) (vS σB) K (fun _ => false) = F at *
    -- the last loop of both
    have last : ∀ u, gI u = gI σ1 → gJ u = gJ σ1 → (∀ k, k ≠ 70 → gA u 0 k = gA σ1 0 k) → (∀ i, i < K → gA u 0 70 i = if F i then 0 else 1) → ∀ Z, Z = FU → SIM (fun q q' => q.1 = q'.1 ∧ REL q.2 q'.2) (lpx3 Z (fun self9 (x6 : Int32) (x7 : Int32) (σ8 : St) => if (10 : Int32) ≤ x7 then (some (x6, σ8)) else (bI (fX9_agreesWithSeen σ8 (nI h) ((20 : Int32) * x7)) fun r13 σ14 => jnx1 (fun (x15 : Int32) => lt (x7 + (1 : Int32)) fun x17 => self9 x15 x17 σ14) fun J16 => if r13 = 0 then (J16 x6) else (lt (x6 ||| ((1 : Int32) <<< (x7 &&& 31))) fun x19 => J16 x19))) (0 : Int32) (0 : Int32) σ5) (lpx3 Z (fun self23 (x20 : Int32) (x21 : Int32) (σ22 : St) => if (10 : Int32) ≤ x21 then (some (x20, σ22)) else (bI (fX10_fits σ22 (nI h) ((20 : Int32) * x21)) fun r27 σ28 => jnx1 (fun (x29 : Int32) => lt (x20 ||| x29) fun x31 => lt (x21 + (1 : Int32)) fun x32 => self23 x31 x32 σ28) fun J30 => if r27 = 0 then (J30 (0 : Int32)) else (J30 ((1 : Int32) <<< (x21 &&& 31))))) (0 : Int32) (0 : Int32) u) := by
      intro u w1 w2 w3 w4 Z hZ
      have QM : qM σ1 u := ⟨fun k _ _ _ => by rw [w1], fun k _ hk => w3 k hk, fun k j h1 h2 _ => by rw [w3 k (by omega)], fun k h1 h2 => by rw [w3 k (by omega)], by rw [w2], by rw [w2]⟩
      have hsn : snR s K σ5 u := (show snR s K σB σ1 from ⟨k1, k2, k3⟩).q QB QM
      have hsc : sc K F σ5 u := fun i hi => ⟨g6 i hi, w4 i hi⟩
      refine simlp3_3 _ (fun j x y t1 x' y' t1' => ∃ i, i + j = 10 ∧ y = nI i ∧ y' = nI i ∧ x = x' ∧ REL0 t n np t1 t1' ∧ snR s K t1 t1' ∧ sc K F t1 t1') ?_ Z Z 10 0 0 σ5 0 0 u (by rw [hZ]; exact FU_gt (by omega)) (by rw [hZ]; exact FU_gt (by omega)) ⟨0, by omega, rfl, rfl, rfl, R0.q QB QM, hsn, hsc⟩
      rintro j sF sG x y t1 x' y' t1' ⟨i, hi, rfl, rfl, rfl, Rs, hk1, hc1⟩ ih
      by_cases c : 10 ≤ i
      · rw [if_pos (show (10 : Int32) ≤ nI i from (leN (a := 10) (b := i) (by omega) (by omega)).mpr c), if_pos (show (10 : Int32) ≤ nI i from (leN (a := 10) (b := i) (by omega) (by omega)).mpr c)]
        exact SIM.ret ⟨rfl, Rs.r⟩
      · rw [if_neg (show ¬ (10 : Int32) ≤ nI i from fun z => c ((leN (a := 10) (b := i) (by omega) (by omega)).mp z)), if_neg (show ¬ (10 : Int32) ≤ nI i from fun z => c ((leN (a := 10) (b := i) (by omega) (by omega)).mp z))]
        have e20 : (20 : Int32) * nI i = nI (20 * i) := by rw [show (20 : Int32) = nI 20 from rfl, pk_mul]
        obtain ⟨r, a1, a1', p1, p2, p3, p4, p5, p6⟩ := agStep (v := 20 * i) hh (by omega) hs hK t1 t1' Rs hk1 hc1
        rw [e20, p1, p2, bIs, bIs]
        simp only [jnx1_eq, lt_eq]
        rcases p6 with rfl | rfl
        · rw [if_pos rfl, if_pos rfl]
          exact ih (j - 1) _ _ _ _ _ _ (by omega) ⟨i + 1, by omega, nI_1 i, nI_1 i, by apply Int32.toBitVec_inj.mp; simp, p3, p4, p5⟩
        · rw [if_neg ne10, if_neg ne10]
          exact ih (j - 1) _ _ _ _ _ _ (by omega) ⟨i + 1, by omega, nI_1 i, nI_1 i, rfl, p3, p4, p5⟩
    generalize hFU : FU = Z
    have last := fun u w1 w2 w3 w4 => last u w1 w2 w3 w4 Z hFU.symm
    generalize (lpx3 Z (fun self9 (x6 : Int32) (x7 : Int32) (σ8 : St) => if (10 : Int32) ≤ x7 then (some (x6, σ8)) else (bI (fX9_agreesWithSeen σ8 (nI h) ((20 : Int32) * x7)) fun r13 σ14 => jnx1 (fun (x15 : Int32) => lt (x7 + (1 : Int32)) fun x17 => self9 x15 x17 σ14) fun J16 => if r13 = 0 then (J16 x6) else (lt (x6 ||| ((1 : Int32) <<< (x7 &&& 31))) fun x19 => J16 x19))) (0 : Int32) (0 : Int32) σ5) = BB at last ⊢
    change SIM wQ _ _
    refine lpx2_wp (fun q => SIM wQ BB q) (fun j x u => ∃ i, i + j = K ∧ x = nI i ∧ gI u = gI σ1 ∧ gJ u = gJ σ1 ∧ (∀ k, k ≠ 70 → gA u 0 k = gA σ1 0 k) ∧ (∀ q, q < i → gA u 0 70 q = 1)) ?_ Z K 0 σ1 (by rw [← hFU]; exact FU_gt (by omega)) ⟨0, by omega, rfl, rfl, rfl, fun _ _ => rfl, fun q hq => by omega⟩
    rintro j self x u ⟨i, hi, rfl, w1, w2, w3, w4⟩ ih
    rw [kM u (by rw [w1]) (by rw [w1]), bS, bS]
    by_cases c : K ≤ i
    · rw [if_pos ((leN (by omega) (by omega)).mpr c), lt_eq]
      have hiK : i = K := by omega
      subst hiK
      refine lpx2_wp (fun q => SIM wQ BB q) (fun j x u => ∃ f, j ≤ i ∧ ((j = 0 ∧ x = -1) ∨ (∃ j', j = j' + 1 ∧ x = nI j')) ∧ gI u = gI σ1 ∧ gJ u = gJ σ1 ∧ (∀ k, k ≠ 70 → gA u 0 k = gA σ1 0 k) ∧ (∀ q, q < i → gA u 0 70 q = if f q then 0 else 1) ∧ stF (kS σB) (vS σB) j f = F) ?_ Z i (nI i - 1) u (by rw [← hFU]; exact FU_gt (by omega)) ⟨fun _ => false, Nat.le_refl _, ?_, w1, w2, w3, fun q hq => by rw [w4 q hq]; rfl, hF⟩
      · rintro j2 self2 x2 u2 ⟨f, hj2, hx, z1, z2, z3, z4, z5⟩ ih2
        rcases hx with ⟨rfl, rfl⟩ | ⟨j', rfl, rfl⟩
        · rw [if_pos (show (-1 : Int32) < 0 by decide)]
          have z5' : f = F := z5
          subst z5'
          exact last u2 z1 z2 z3 z4
        · rw [if_neg (nI_neg (j := j') (by omega))]
          have e31 : nI (3 * j') + 1 = nI (3 * j' + 1) := nI_1 _
          simp only [lt_eq, jnx1_eq, three, e31, gdN (show j' < 24 by omega) (show 24 ≤ 1000000 by omega), gdN (show 3 * j' < 72 by omega) (show 72 ≤ 1000000 by omega), gdN (show 3 * j' + 1 < 72 by omega) (show 72 ≤ 1000000 by omega), clN (show j' < 1000000 by omega), clN (show 3 * j' < 1000000 by omega), clN (show 3 * j' + 1 < 1000000 by omega)]
          have z69 : gA u2 0 69 = gA σ1 0 69 := z3 69 (by omega)
          rw [z4 j' (by omega), z69]
          have nxt : ∀ f' u3, gI u3 = gI σ1 → gJ u3 = gJ σ1 → (∀ k, k ≠ 70 → gA u3 0 k = gA σ1 0 k) → (∀ q, q < i → gA u3 0 70 q = if f' q then 0 else 1) → stF (kS σB) (vS σB) j' f' = F → SIM wQ BB (self2 (nI j' + -1) u3) := by
            intro f' u3 v1 v2 v3 v4 v5
            refine ih2 j' _ _ (by omega) ⟨f', by omega, ?_, v1, v2, v3, v4, v5⟩
            cases j' with
            | zero => exact Or.inl ⟨rfl, by decide⟩
            | succ q => exact Or.inr ⟨q, rfl, pk_m1 q⟩
          have e01 : ∀ b : Bool, ((if b then (0 : Int32) else 1) = 0) = (b = true) := fun b => by cases b <;> simp
          cases hf : f j'
          · rw [if_neg (show ¬ (if false = true then (0 : Int32) else 1) = 0 by decide)]
            rcases k3 j' (by omega) with ⟨q1, q2, q3, v, v1, v2, v3⟩ | ⟨q1, q2, q3, y', y1, y2, y3, y4⟩
            · have hks : kS σB j' = true := by unfold kS; rw [q1]; rfl
              have hvs : vS σB j' = v := by unfold vS; rw [v2, clN (by omega)]
              rw [q2, if_neg (show ¬ (0 : Int32) ≤ -1 by decide), v3, gdN (show v < 24 by omega) (by omega), clN (by omega), nar0]
              refine nxt (fun q => if q = v then true else f q) _ z1 z2 (fun k hk => by rw [gAn hk]; exact z3 k hk) (fun q hq => ?_) ?_
              · rw [gAe, upd_at]
                by_cases e : q = v
                · rw [if_pos e, if_pos e]; rfl
                · rw [if_neg e, if_neg e]; exact z4 q hq
              · rw [← z5, stF, hks, hf, hvs]
                rfl
            · have hks : kS σB j' = false := by
                unfold kS
                rcases q1 with q1 | q1 <;> rw [q1] <;> decide
              rw [y4, if_pos (nI_pos' (n := y') (by omega))]
              refine nxt f u2 z1 z2 z3 z4 ?_
              rw [← z5, stF, hks]
              rfl
          · rw [if_pos (show (if true = true then (0 : Int32) else 1) = 0 by decide)]
            refine nxt f u2 z1 z2 z3 z4 ?_
            rw [← z5, stF, hf]
            simp
      · cases i with
        | zero => exact Or.inl ⟨rfl, by decide⟩
        | succ q => exact Or.inr ⟨q, rfl, nI_pred q⟩
    · rw [if_neg (fun z => c ((leN (by omega) (by omega)).mp z)), gdN (show i < 24 by omega) (by omega), clN (by omega), nar1]
      simp only [lt_eq]
      refine ih (j - 1) _ _ (by omega) ⟨i + 1, by omega, nI_1 i, w1, w2, fun k hk => by rw [gAn hk]; exact w3 k hk, fun q hq => ?_⟩
      rw [gAe, upd_at]
      split
      · rfl
      · exact w4 q (by omega)
  · rw [if_neg c0, if_neg c0]
    exact SIM.ret ⟨rfl, R.th.r⟩
