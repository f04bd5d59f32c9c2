/-- the rest of an image taken -/
def restT (σ' : St) (f : Nat → Int32) (i : Nat) : Prop := ∀ j, j < i → gA σ' 0 47 j = f j ∧ gA σ' 0 52 j = f (6 + j) ∧ gA σ' 0 53 j = (if f (12 + j) = 1 then 1 else 0)
set_option maxHeartbeats 2000000 in
theorem backM_eq (σ : St) : ∃ σ', (bV (fX10_take_a10_74 σ (0 : Int32)) fun σ4 => lpx2 FU (fun self7 (x5 : Int32) (σ6 : St) => if (6 : Int32) ≤ x5 then (jnx1 (fun (x10 : Int32) => lt (sA σ6 0 57 (Int32.toNatClampNeg (0 : Int32)) (vp_nar .boolean x10)) fun σ12 => lt (sA σ12 0 58 (Int32.toNatClampNeg (0 : Int32)) (gA σ12 0 75 (Int32.toNatClampNeg (19 : Int32)))) fun σ13 => lt (sA σ13 0 59 (Int32.toNatClampNeg (0 : Int32)) (gA σ13 0 75 (Int32.toNatClampNeg (20 : Int32)))) fun σ14 => lt (sJ σ14 0 60 (gJ σ14 0 76)) fun σ15 => lt (sI σ15 0 71 (0 : Int32)) fun σ16 => some ((gA σ16 0 59 (Int32.toNatClampNeg (0 : Int32))), σ16)) fun J11 => if (gA σ6 0 75 (Int32.toNatClampNeg (18 : Int32))) = (1 : Int32) then (J11 (1 : Int32)) else (J11 (0 : Int32))) else (gd (ixI x5 21) (gd (ixI x5 12) (lt (sA σ6 0 47 (Int32.toNatClampNeg x5) (gA σ6 0 75 (Int32.toNatClampNeg x5))) fun σ20 => gd (ixI ((6 : Int32) + x5) 21) (gd (ixI x5 12) (lt (sA σ20 0 52 (Int32.toNatClampNeg x5) (gA σ20 0 75 (Int32.toNatClampNeg ((6 : Int32) + x5)))) fun σ23 => gd (ixI ((12 : Int32) + x5) 21) (jnx1 (fun (x25 : Int32) => gd (ixI x5 12) (lt (sA σ23 0 53 (Int32.toNatClampNeg x5) (vp_nar .boolean x25)) fun σ28 => lt (x5 + (1 : Int32)) fun x29 => self7 x29 σ28)) fun J26 => if (gA σ23 0 75 (Int32.toNatClampNeg ((12 : Int32) + x5))) = (1 : Int32) then (J26 (1 : Int32)) else (J26 (0 : Int32))))))))) (0 : Int32) σ4) = some (gA σ 0 75 20, σ') ∧ (∀ k, k ≠ 71 → gI σ' 0 k = gI σ 0 k) ∧ gI σ' 0 71 = 0 ∧ gJ σ' 0 60 = gJ σ 0 76 ∧ gJ σ' 0 76 = gJ σ 0 76 ∧ (∀ k, (k < 46 ∨ 59 < k) → gA σ' 0 k = gA σ 0 k) ∧ rowT σ' (gA σ 0 74) 0 ∧ restT σ' (gA σ 0 75) 6 ∧ gA σ' 0 57 0 = (if gA σ 0 75 18 = 1 then 1 else 0) ∧ gA σ' 0 58 0 = gA σ 0 75 19 ∧ gA σ' 0 59 0 = gA σ 0 75 20 := by
  obtain ⟨σ4, p1, p2, p3, p4, p5, p6, p7⟩ := take74_eq σ 0 (by omega)
  have p1' : fX10_take_a10_74 σ 0 = some σ4 := p1
  rw [p1', bVs]
  generalize hFU : FU = Z
  refine lpx2_wp (fun q => ∃ σ', q = some (gA σ 0 75 20, σ') ∧ (∀ k, k ≠ 71 → gI σ' 0 k = gI σ 0 k) ∧ gI σ' 0 71 = 0 ∧ gJ σ' 0 60 = gJ σ 0 76 ∧ gJ σ' 0 76 = gJ σ 0 76 ∧ (∀ k, (k < 46 ∨ 59 < k) → gA σ' 0 k = gA σ 0 k) ∧ rowT σ' (gA σ 0 74) 0 ∧ restT σ' (gA σ 0 75) 6 ∧ gA σ' 0 57 0 = (if gA σ 0 75 18 = 1 then 1 else 0) ∧ gA σ' 0 58 0 = gA σ 0 75 19 ∧ gA σ' 0 59 0 = gA σ 0 75 20) (fun j x s => ∃ i, i + j = 6 ∧ x = nI i ∧ gI s = gI σ ∧ gJ s = gJ σ ∧ (∀ k, (k < 46 ∨ 59 < k) → gA s 0 k = gA σ 0 k) ∧ (∀ k, k ≠ 47 → k ≠ 52 → k ≠ 53 → gA s 0 k = gA σ4 0 k) ∧ restT s (gA σ 0 75) i) ?_ Z 6 0 σ4 (by rw [← hFU]; exact FU_gt (by omega)) ⟨0, by omega, rfl, p2, p3, fun k hk => p4 k (by omega), fun _ _ _ _ => rfl, fun j hj => by omega⟩
  rintro j self x s ⟨i, hi, rfl, e1, e2, e3, e4, e5⟩ ih
  have e75 := e3 75 (by omega)
  by_cases c : 6 ≤ i
  · rw [if_pos (show (6 : Int32) ≤ nI i from (leN (a := 6) (b := i) (by omega) (by omega)).mpr c)]
    have : i = 6 := by omega
    subst this
    simp only [lt_eq, jnx1_eq, cl0, c18, c19, c20, nar0, nar1]
    have fin : ∀ x10 : Int32, x10 = (if gA σ 0 75 18 = 1 then 1 else 0) → ∃ σ', some (gA (sI (sJ (sA (sA (sA s 0 57 0 x10) 0 58 0 (gA (sA s 0 57 0 x10) 0 75 19)) 0 59 0 (gA (sA (sA s 0 57 0 x10) 0 58 0 (gA (sA s 0 57 0 x10) 0 75 19)) 0 75 20)) 0 60 (gJ (sA (sA (sA s 0 57 0 x10) 0 58 0 (gA (sA s 0 57 0 x10) 0 75 19)) 0 59 0 (gA (sA (sA s 0 57 0 x10) 0 58 0 (gA (sA s 0 57 0 x10) 0 75 19)) 0 75 20)) 0 76)) 0 71 0) 0 59 0, sI (sJ (sA (sA (sA s 0 57 0 x10) 0 58 0 (gA (sA s 0 57 0 x10) 0 75 19)) 0 59 0 (gA (sA (sA s 0 57 0 x10) 0 58 0 (gA (sA s 0 57 0 x10) 0 75 19)) 0 75 20)) 0 60 (gJ (sA (sA (sA s 0 57 0 x10) 0 58 0 (gA (sA s 0 57 0 x10) 0 75 19)) 0 59 0 (gA (sA (sA s 0 57 0 x10) 0 58 0 (gA (sA s 0 57 0 x10) 0 75 19)) 0 75 20)) 0 76)) 0 71 0) = some (gA σ 0 75 20, σ') ∧ (∀ k, k ≠ 71 → gI σ' 0 k = gI σ 0 k) ∧ gI σ' 0 71 = 0 ∧ gJ σ' 0 60 = gJ σ 0 76 ∧ gJ σ' 0 76 = gJ σ 0 76 ∧ (∀ k, (k < 46 ∨ 59 < k) → gA σ' 0 k = gA σ 0 k) ∧ rowT σ' (gA σ 0 74) 0 ∧ restT σ' (gA σ 0 75) 6 ∧ gA σ' 0 57 0 = (if gA σ 0 75 18 = 1 then 1 else 0) ∧ gA σ' 0 58 0 = gA σ 0 75 19 ∧ gA σ' 0 59 0 = gA σ 0 75 20 := by
      intro x10 hx
      refine ⟨_, Prod.ext_iff.mpr ⟨?_, rfl⟩ |> congrArg some, fun k hk => ?_, gIe _ _ _ _, ?_, ?_, fun k hk => ?_, ⟨fun q hq => ?_, ?_, ?_, ?_⟩, fun q hq => ?_, ?_, ?_, ?_⟩
      · simp (disch := omega) only [gAI, gAJ, sA, gAe, gAn, upd_eq, e75]
      · rw [gIn hk]
        show gI s 0 k = _
        rw [e1]
      · rw [gJI, gJ_sJ, if_pos ⟨rfl, rfl⟩]
        show gJ s 0 76 = _
        rw [e2]
      · rw [gJI, gJ_sJ, if_neg (by omega)]
        show gJ s 0 76 = _
        rw [e2]
      · simp (disch := omega) only [gAI, gAJ, sA, gAn, e3]
      · have h := p6 q hq
        simp (disch := omega) only [gAI, gAJ, sA, gAn, e4]
        exact h
      · simp (disch := omega) only [gAI, gAJ, sA, gAn, e4]
        exact p7.1
      · simp (disch := omega) only [gAI, gAJ, sA, gAn, e4]
        exact p7.2.1
      · simp (disch := omega) only [gAI, gAJ, sA, gAn, e4]
        exact p7.2.2
      · have h := e5 q hq
        simp (disch := omega) only [gAI, gAJ, sA, gAn]
        exact h
      · simp (disch := omega) only [gAI, gAJ, sA, gAe, gAn, upd_eq]
        exact hx
      · simp (disch := omega) only [gAI, gAJ, sA, gAe, gAn, upd_eq, e75]
      · simp (disch := omega) only [gAI, gAJ, sA, gAe, gAn, upd_eq, e75]
    rw [e75]
    by_cases d : gA σ 0 75 18 = 1
    · rw [if_pos d]
      have := fin 1 (by rw [if_pos d])
      simpa only [e75] using this
    · rw [if_neg d]
      have := fin 0 (by rw [if_neg d])
      simpa only [e75] using this
  · rw [if_neg (show ¬ (6 : Int32) ≤ nI i from fun z => c ((leN (a := 6) (b := i) (by omega) (by omega)).mp z))]
    simp only [lt_eq, jnx1_eq, six1, six12, gdN (show i < 12 by omega) (show 12 ≤ 1000000 by omega), gdN (show i < 21 by omega) (show 21 ≤ 1000000 by omega), gdN (show 6 + i < 21 by omega) (show 21 ≤ 1000000 by omega), gdN (show 12 + i < 21 by omega) (show 21 ≤ 1000000 by omega), clN (show i < 1000000 by omega), clN (show 6 + i < 1000000 by omega), clN (show 12 + i < 1000000 by omega), nar0, nar1]
    have nxt : ∀ c : Int32, c = (if gA σ 0 75 (12 + i) = 1 then 1 else 0) → ∃ σ', self (nI i + 1) (sA (sA (sA s 0 47 i (gA s 0 75 i)) 0 52 i (gA (sA s 0 47 i (gA s 0 75 i)) 0 75 (6 + i))) 0 53 i c) = some (gA σ 0 75 20, σ') ∧ (∀ k, k ≠ 71 → gI σ' 0 k = gI σ 0 k) ∧ gI σ' 0 71 = 0 ∧ gJ σ' 0 60 = gJ σ 0 76 ∧ gJ σ' 0 76 = gJ σ 0 76 ∧ (∀ k, (k < 46 ∨ 59 < k) → gA σ' 0 k = gA σ 0 k) ∧ rowT σ' (gA σ 0 74) 0 ∧ restT σ' (gA σ 0 75) 6 ∧ gA σ' 0 57 0 = (if gA σ 0 75 18 = 1 then 1 else 0) ∧ gA σ' 0 58 0 = gA σ 0 75 19 ∧ gA σ' 0 59 0 = gA σ 0 75 20 := by
      intro c hc
      refine ih (j - 1) _ _ (by omega) ⟨i + 1, by omega, nI_1 i, e1, e2, fun k hk => ?_, fun k k1 k2 k3 => ?_, fun q hq => ?_⟩
      · simp (disch := omega) only [sA, gAn]
        exact e3 k hk
      · simp (disch := assumption) only [sA, gAn]
        exact e4 k k1 k2 k3
      · by_cases e : q = i
        · subst e
          refine ⟨?_, ?_, ?_⟩
          · simp (disch := omega) only [sA, gAe, gAn, upd_eq, e75]
          · simp (disch := omega) only [sA, gAe, gAn, upd_eq, e75]
          · simp (disch := omega) only [sA, gAe, gAn, upd_eq, e75]
            exact hc
        · have h := e5 q (by omega)
          refine ⟨?_, ?_, ?_⟩
          · simp (disch := omega) only [sA, gAe, gAn, upd_ne]
            exact h.1
          · simp (disch := omega) only [sA, gAe, gAn, upd_ne]
            exact h.2.1
          · simp (disch := omega) only [sA, gAe, gAn, upd_ne]
            exact h.2.2
    have e12 : gA (sA (sA s 0 47 i (gA s 0 75 i)) 0 52 i (gA (sA s 0 47 i (gA s 0 75 i)) 0 75 (6 + i))) 0 75 (12 + i) = gA σ 0 75 (12 + i) := by simp (disch := omega) only [sA, gAn, e75]
    rw [e12]
    by_cases d : gA σ 0 75 (12 + i) = 1
    · rw [if_pos d]
      exact nxt 1 (by rw [if_pos d])
    · rw [if_neg d]
      exact nxt 0 (by rw [if_neg d])
theorem st42 : ST42 REL := by
  rintro σB σM ⟨t, n, np, R⟩
  have hn6 := R.2.2.1.n6
  have hp6 := R.2.2.1.p6
  unfold fX9_back fX10_back
  rw [lt_eq]
  have R0 := R.th
  generalize sI σM 0 2 0 = σ1 at *
  obtain ⟨i1, i2⟩ := R0.2.2.2.2.2.2.2.2.1
  rw [← i1]
  rcases i2 with e | ⟨e, SI, PI, NI⟩
  · rw [if_pos e, if_pos e]
    exact SIM.ret ⟨rfl, R0.r⟩
  · rw [if_neg (by rw [e]; exact ne10), if_neg (by rw [e]; exact ne10)]
    obtain ⟨σ', k1, k2, k3, k4, k5, k6, k7, k8, k9, k10, k11⟩ := backM_eq σ1
    obtain ⟨σ2, b1, b2, b3, b4, b5, b6, b7⟩ := become_eq σB 5 8 (by omega) SI.2.2.2.2.2.2.2.2.2
    rw [k1, b1, bVs]
    unfold fX8_forget
    rw [lt_eq, bVs]
    have g12 : ∀ o, o ≠ 12 → gI (sI σ2 12 1 0) o = gI σ2 o := fun o ho => by
      funext q
      exact gIo ho
    have S' : SR n 9999 9000 (sI σ2 12 1 0) 5 σ' 0 := by
      refine SI.cp (fun k j hk hj => ?_) (fun k hk => ?_) (fun k j q1 q2 hj => ?_) (fun k q1 q2 => ?_)
      · exact b2 k j (by omega) (by omega)
      · rw [g12 5 (by omega)]
        exact b3 k (by unfold isS at hk; omega) (by unfold isS at hk; omega)
      · rw [show 6 * 0 + j = j by omega]
        obtain ⟨a1, a2, a3, a4, a5⟩ := k7.1 j (by omega)
        obtain ⟨c1, c2, c3⟩ := k8 j (by omega)
        rw [Nat.zero_add] at a1 a2 a3 a4 a5
        obtain rfl | rfl | rfl | rfl | rfl | rfl : k = 46 ∨ k = 47 ∨ k = 48 ∨ k = 49 ∨ k = 50 ∨ k = 51 := by omega
        · exact a1
        · exact c1
        · exact a2
        · have hb : gA σ1 0 74 (12 + j) = 0 ∨ gA σ1 0 74 (12 + j) = 1 := SI.bool0 j hj
          exact Eq.trans a3 (b01' hb)
        · exact a4
        · exact a5
      · obtain rfl | rfl | rfl | rfl | rfl | rfl : k = 54 ∨ k = 55 ∨ k = 56 ∨ k = 57 ∨ k = 58 ∨ k = 59 := by omega
        · exact k7.2.1
        · exact k7.2.2.1
        · exact k7.2.2.2
        · refine Eq.trans k9 ?_
          have e14 : gI σB 8 14 = gA σ1 0 75 18 := SI.2.2.1 14 (by unfold isS; omega)
          exact b01' (by rw [← e14]; exact SI.2.2.2.2.2.2.2.2.2)
        · exact k10
        · exact k11
    have P' : PR np (sI σ2 12 1 0) 5 σ' 0 := by
      obtain ⟨P1, ⟨m, P2, P3, P4⟩, P5⟩ := PI
      refine ⟨fun p hp => ?_, ⟨m, P2, ?_, fun p hp => ?_⟩, fun p hp => ?_⟩
      · have e := P1 p hp
        rw [show 6 * 0 + p = p by omega] at e ⊢
        refine Eq.trans (b2 5 p (by omega) (by omega)) (e.trans ?_)
        exact (k8 p (by omega)).2.1.symm
      · rw [g12 5 (by omega), b3 7 (by omega) (by omega)]
        exact P3
      · have e := P4 p hp
        rw [show 6 * 0 + p = p by omega] at e ⊢
        have e' : gA σ1 0 75 (12 + p) = if m.testBit p then 1 else 0 := e
        rw [(k8 p (by omega)).2.2, e']
        split <;> rfl
      · obtain ⟨v, v1, v2, v3⟩ := P5 p hp
        exact ⟨v, v1, v2, (b2 5 p (by omega) (by omega)).trans v3⟩
    have RF : REL0 t n np (sI σ2 12 1 0) σ' := by
      refine R0.bld (fun o o5 _ _ o12 _ _ => by rw [g12 o o12, b4 o o5]) (fun o o5 _ _ _ _ _ => b5 o o5) (fun k _ => by show gR σ2 k = _; rw [b6]) (fun k _ _ _ _ _ q => k2 k q) (fun k q _ _ _ => k6 k q) k5 S' P' ?_ ⟨0, by omega, gIe _ _ _ _, k3, fun d hd => ?_⟩ (R0.2.2.2.2.2.2.2.2.2.2.1.cg (fun q _ => by show gA σ2 13 q = _; rw [b5 13 (by omega)]) (by rw [g12 13 (by omega), b4 13 (by omega)]) (k6 69 (by omega)) (k2 67 (by omega)) (k2 68 (by omega)))
      · obtain ⟨q, q0, q1, q2⟩ := NI
        exact ⟨q, q0, by rw [g12 5 (by omega), b3 13 (by omega) (by omega)]; exact q1, by rw [k4]; exact q2⟩
      · have : d = 0 := by omega
        subst this
        exact ⟨S', fun z => absurd z (by omega)⟩
    refine SIM.ret ⟨?_, RF.r⟩
    show gI (sI σ2 12 1 0) 5 8 = gA σ1 0 75 20
    rw [← k11]
    exact RF.s5 8 (by unfold isS; omega)
