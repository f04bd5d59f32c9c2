theorem c18 : Int32.toNatClampNeg (18 : Int32) = 18 := cl_lit 18 18 rfl (by omega)
theorem c19 : Int32.toNatClampNeg (19 : Int32) = 19 := cl_lit 19 19 rfl (by omega)
theorem c20 : Int32.toNatClampNeg (20 : Int32) = 20 := cl_lit 20 20 rfl (by omega)
theorem six12 (i : Nat) : (12 : Int32) + nI i = nI (12 + i) := by rw [show (12 : Int32) = nI 12 from rfl, nI_add]
/-- the rest of an image -/
def restP (σ : St) (f : Nat → Int32) (i : Nat) : Prop := ∀ j, j < i → f j = gA σ 0 47 j ∧ f (6 + j) = gA σ 0 52 j ∧ f (12 + j) = (if gA σ 0 53 j = 0 then 0 else 1)
set_option maxHeartbeats 2000000 in
theorem keepM_eq (σ : St) : ∃ σ', (bV (fX10_put_a10_74 σ (0 : Int32)) fun σ4 => lpx2 FU (fun self7 (x5 : Int32) (σ6 : St) => if (6 : Int32) ≤ x5 then (jnx1 (fun (x10 : Int32) => lt (sA σ6 0 75 (Int32.toNatClampNeg (18 : Int32)) x10) fun σ12 => lt (sA σ12 0 75 (Int32.toNatClampNeg (19 : Int32)) (gA σ12 0 58 (Int32.toNatClampNeg (0 : Int32)))) fun σ13 => lt (sA σ13 0 75 (Int32.toNatClampNeg (20 : Int32)) (gA σ13 0 59 (Int32.toNatClampNeg (0 : Int32)))) fun σ14 => lt (sJ σ14 0 76 (gJ σ14 0 60)) fun σ15 => some ((gA σ15 0 59 (Int32.toNatClampNeg (0 : Int32))), σ15)) fun J11 => if (gA σ6 0 57 (Int32.toNatClampNeg (0 : Int32))) = 0 then (J11 (0 : Int32)) else (J11 (1 : Int32))) else (gd (ixI x5 12) (gd (ixI x5 21) (lt (sA σ6 0 75 (Int32.toNatClampNeg x5) (gA σ6 0 47 (Int32.toNatClampNeg x5))) fun σ19 => gd (ixI x5 12) (gd (ixI ((6 : Int32) + x5) 21) (lt (sA σ19 0 75 (Int32.toNatClampNeg ((6 : Int32) + x5)) (gA σ19 0 52 (Int32.toNatClampNeg x5))) fun σ22 => gd (ixI x5 12) (jnx1 (fun (x24 : Int32) => gd (ixI ((12 : Int32) + x5) 21) (lt (sA σ22 0 75 (Int32.toNatClampNeg ((12 : Int32) + x5)) x24) fun σ27 => lt (x5 + (1 : Int32)) fun x28 => self7 x28 σ27)) fun J25 => if (gA σ22 0 53 (Int32.toNatClampNeg x5)) = 0 then (J25 (0 : Int32)) else (J25 (1 : Int32))))))))) (0 : Int32) σ4) = some (gA σ 0 59 0, σ') ∧ gI σ' = gI σ ∧ gJ σ' 0 60 = gJ σ 0 60 ∧ gJ σ' 0 76 = gJ σ 0 60 ∧ (∀ k, k ≠ 74 → k ≠ 75 → gA σ' 0 k = gA σ 0 k) ∧ rowP σ (gA σ' 0 74) 0 ∧ restP σ (gA σ' 0 75) 6 ∧ gA σ' 0 75 18 = (if gA σ 0 57 0 = 0 then 0 else 1) ∧ gA σ' 0 75 19 = gA σ 0 58 0 ∧ gA σ' 0 75 20 = gA σ 0 59 0 := by
  obtain ⟨σ4, p1, p2, p3, p4, p5, p6⟩ := put74_eq σ 0 (by omega)
  have p1' : fX10_put_a10_74 σ 0 = some σ4 := p1
  rw [p1', bVs]
  generalize hFU : FU = Z
  refine lpx2_wp (fun q => ∃ σ', q = some (gA σ 0 59 0, σ') ∧ gI σ' = gI σ ∧ gJ σ' 0 60 = gJ σ 0 60 ∧ gJ σ' 0 76 = gJ σ 0 60 ∧ (∀ k, k ≠ 74 → k ≠ 75 → gA σ' 0 k = gA σ 0 k) ∧ rowP σ (gA σ' 0 74) 0 ∧ restP σ (gA σ' 0 75) 6 ∧ gA σ' 0 75 18 = (if gA σ 0 57 0 = 0 then 0 else 1) ∧ gA σ' 0 75 19 = gA σ 0 58 0 ∧ gA σ' 0 75 20 = gA σ 0 59 0) (fun j x s => ∃ i, i + j = 6 ∧ x = nI i ∧ gI s = gI σ ∧ gJ s = gJ σ ∧ (∀ k, k ≠ 74 → k ≠ 75 → gA s 0 k = gA σ 0 k) ∧ gA s 0 74 = gA σ4 0 74 ∧ restP σ (gA s 0 75) i) ?_ Z 6 0 σ4 (by rw [← hFU]; exact FU_gt (by omega)) ⟨0, by omega, rfl, p2, p3, fun k k1 _ => p4 k k1, rfl, fun j hj => by omega⟩
  rintro j self x s ⟨i, hi, rfl, e1, e2, e3, e4, e5⟩ ih
  by_cases c : 6 ≤ i
  · rw [if_pos (show (6 : Int32) ≤ nI i from (leN (a := 6) (b := i) (by omega) (by omega)).mpr c)]
    have : i = 6 := by omega
    subst this
    simp only [lt_eq, jnx1_eq, cl0, c18, c19, c20]
    have fin : ∀ x10 : Int32, x10 = (if gA σ 0 57 0 = 0 then 0 else 1) → ∃ σ', some (gA (sJ (sA (sA (sA s 0 75 18 x10) 0 75 19 (gA (sA s 0 75 18 x10) 0 58 0)) 0 75 20 (gA (sA (sA s 0 75 18 x10) 0 75 19 (gA (sA s 0 75 18 x10) 0 58 0)) 0 59 0)) 0 76 (gJ (sA (sA (sA s 0 75 18 x10) 0 75 19 (gA (sA s 0 75 18 x10) 0 58 0)) 0 75 20 (gA (sA (sA s 0 75 18 x10) 0 75 19 (gA (sA s 0 75 18 x10) 0 58 0)) 0 59 0)) 0 60)) 0 59 0, sJ (sA (sA (sA s 0 75 18 x10) 0 75 19 (gA (sA s 0 75 18 x10) 0 58 0)) 0 75 20 (gA (sA (sA s 0 75 18 x10) 0 75 19 (gA (sA s 0 75 18 x10) 0 58 0)) 0 59 0)) 0 76 (gJ (sA (sA (sA s 0 75 18 x10) 0 75 19 (gA (sA s 0 75 18 x10) 0 58 0)) 0 75 20 (gA (sA (sA s 0 75 18 x10) 0 75 19 (gA (sA s 0 75 18 x10) 0 58 0)) 0 59 0)) 0 60)) = some (gA σ 0 59 0, σ') ∧ gI σ' = gI σ ∧ gJ σ' 0 60 = gJ σ 0 60 ∧ gJ σ' 0 76 = gJ σ 0 60 ∧ (∀ k, k ≠ 74 → k ≠ 75 → gA σ' 0 k = gA σ 0 k) ∧ rowP σ (gA σ' 0 74) 0 ∧ restP σ (gA σ' 0 75) 6 ∧ gA σ' 0 75 18 = (if gA σ 0 57 0 = 0 then 0 else 1) ∧ gA σ' 0 75 19 = gA σ 0 58 0 ∧ gA σ' 0 75 20 = gA σ 0 59 0 := by
      intro x10 hx
      refine ⟨_, Prod.ext_iff.mpr ⟨?_, rfl⟩ |> congrArg some, ?_, ?_, ?_, fun k k1 k2 => ?_, ?_, fun q hq => ?_, ?_, ?_, ?_⟩
      · simp (disch := omega) only [gAJ, sA, gAn, e3]
      · exact e1
      · rw [gJ_sJ, if_neg (by omega)]
        show gJ s 0 60 = _
        rw [e2]
      · rw [gJ_sJ, if_pos ⟨rfl, rfl⟩]
        show gJ s 0 60 = _
        rw [e2]
      · simp (disch := assumption) only [gAJ, sA, gAn, e3]
      · simp (disch := omega) only [gAJ, sA, gAn]
        rw [e4]
        exact p6
      · have h := e5 q hq
        simp (disch := omega) only [gAJ, sA, gAe, upd_ne]
        exact h
      · simp (disch := omega) only [gAJ, sA, gAe, upd_ne, upd_eq]
        exact hx
      · simp (disch := omega) only [gAJ, sA, gAe, gAn, upd_ne, upd_eq, e3]
      · simp (disch := omega) only [gAJ, sA, gAe, gAn, upd_ne, upd_eq, e3]
    have e57 : gA s 0 57 0 = gA σ 0 57 0 := by rw [e3 57 (by omega) (by omega)]
    rw [e57]
    by_cases d : gA σ 0 57 0 = 0
    · rw [if_pos d]
      exact fin 0 (by rw [if_pos d])
    · rw [if_neg d]
      exact fin 1 (by rw [if_neg d])
  · rw [if_neg (show ¬ (6 : Int32) ≤ nI i from fun z => c ((leN (a := 6) (b := i) (by omega) (by omega)).mp z))]
    simp only [lt_eq, jnx1_eq, six1, six12, gdN (show i < 12 by omega) (show 12 ≤ 1000000 by omega), gdN (show i < 21 by omega) (show 21 ≤ 1000000 by omega), gdN (show 6 + i < 21 by omega) (show 21 ≤ 1000000 by omega), gdN (show 12 + i < 21 by omega) (show 21 ≤ 1000000 by omega), clN (show i < 1000000 by omega), clN (show 6 + i < 1000000 by omega), clN (show 12 + i < 1000000 by omega)]
    have nxt : ∀ c : Int32, c = (if gA σ 0 53 i = 0 then 0 else 1) → ∃ σ', self (nI i + 1) (sA (sA (sA s 0 75 i (gA s 0 47 i)) 0 75 (6 + i) (gA (sA s 0 75 i (gA s 0 47 i)) 0 52 i)) 0 75 (12 + i) c) = some (gA σ 0 59 0, σ') ∧ gI σ' = gI σ ∧ gJ σ' 0 60 = gJ σ 0 60 ∧ gJ σ' 0 76 = gJ σ 0 60 ∧ (∀ k, k ≠ 74 → k ≠ 75 → gA σ' 0 k = gA σ 0 k) ∧ rowP σ (gA σ' 0 74) 0 ∧ restP σ (gA σ' 0 75) 6 ∧ gA σ' 0 75 18 = (if gA σ 0 57 0 = 0 then 0 else 1) ∧ gA σ' 0 75 19 = gA σ 0 58 0 ∧ gA σ' 0 75 20 = gA σ 0 59 0 := by
      intro c hc
      refine ih (j - 1) _ _ (by omega) ⟨i + 1, by omega, nI_1 i, e1, e2, fun k k1 k2 => ?_, ?_, fun q hq => ?_⟩
      · simp (disch := assumption) only [sA, gAn]
        exact e3 k k1 k2
      · simp (disch := omega) only [sA, gAn]
        exact e4
      · by_cases e : q = i
        · subst e
          refine ⟨?_, ?_, ?_⟩
          · simp (disch := omega) only [sA, gAe, gAn, upd_ne, upd_eq, e3]
          · simp (disch := omega) only [sA, gAe, gAn, upd_ne, upd_eq, e3]
          · simp (disch := omega) only [sA, gAe, gAn, upd_ne, upd_eq, e3]
            exact hc
        · have h := e5 q (by omega)
          simp (disch := omega) only [sA, gAe, upd_ne]
          exact h
    have e53 : gA (sA (sA s 0 75 i (gA s 0 47 i)) 0 75 (6 + i) (gA (sA s 0 75 i (gA s 0 47 i)) 0 52 i)) 0 53 i = gA σ 0 53 i := by simp (disch := omega) only [sA, gAn, e3]
    rw [e53]
    by_cases d : gA σ 0 53 i = 0
    · rw [if_pos d]
      exact nxt 0 (by rw [if_pos d])
    · rw [if_neg d]
      exact nxt 1 (by rw [if_neg d])
theorem b01 {x : Int32} (h : x = 0 ∨ x = 1) : (if x = 0 then (0 : Int32) else 1) = x := by
  rcases h with rfl | rfl <;> rfl
theorem b01' {x : Int32} (h : x = 0 ∨ x = 1) : (if x = 1 then (1 : Int32) else 0) = x := by
  rcases h with rfl | rfl <;> rfl
theorem st41 : ST41 REL := by
  rintro σB σM ⟨t, n, np, R⟩
  have hn6 := R.2.2.1.n6
  have hp6 := R.2.2.1.p6
  unfold fX9_keep fX10_keep
  rw [lt_eq, lt_eq]
  have R0 := R.th
  generalize sI σM 0 2 0 = σ1 at *
  obtain ⟨σ', k1, k2, k3, k4, k5, k6, k7, k8, k9, k10⟩ := keepM_eq (sI σ1 0 73 1)
  obtain ⟨σ2, b1, b2, b3, b4, b5, b6, b7⟩ := become_eq σB 8 5 (by omega) R0.2.2.2.1.2.2.2.2.2.2.2.2.2
  rw [k1, b1, bVs, lt_eq]
  have hI0 : ∀ o, o ≠ 0 → o ≠ 8 → gI (sI σ2 0 11 1) o = gI σB o := fun o o0 o8 => by
    funext k
    rw [gIo o0, b4 o o8]
  have hI00 : ∀ k, k ≠ 11 → gI (sI σ2 0 11 1) 0 k = gI σB 0 k := fun k hk => by rw [gIn hk, b4 0 (by omega)]
  have hA : ∀ o, o ≠ 8 → gA (sI σ2 0 11 1) o = gA σB o := fun o o8 => b5 o o8
  have hM : ∀ k, k ≠ 73 → gI σ' 0 k = gI σ1 0 k := fun k hk => by rw [k2, gIn hk]
  have hMA : ∀ k, k ≠ 74 → k ≠ 75 → gA σ' 0 k = gA σ1 0 k := k5
  have SI : SR n 9999 9000 (sI σ2 0 11 1) 8 (imM σ') 0 := by
    refine R0.2.2.2.1.cp (fun k j hk hj => ?_) (fun k hk => ?_) (fun k j q1 q2 hj => ?_) (fun k q1 q2 => ?_)
    · exact b2 k j (by omega) (by omega)
    · rw [gIo (by omega)]
      exact b3 k (by unfold isS at hk; omega) (by unfold isS at hk; omega)
    · rw [show 6 * 0 + j = j by omega]
      obtain ⟨a1, a2, a3, a4, a5⟩ := k6.1 j (by omega)
      obtain ⟨c1, c2, c3⟩ := k7 j (by omega)
      rw [Nat.zero_add] at a1 a2 a3 a4 a5
      obtain rfl | rfl | rfl | rfl | rfl | rfl : k = 46 ∨ k = 47 ∨ k = 48 ∨ k = 49 ∨ k = 50 ∨ k = 51 := by omega
      · exact a1
      · exact c1
      · exact a2
      · refine Eq.trans a3 ?_
        exact b01 (R0.2.2.2.1.bool0 j hj)
      · exact a4
      · exact a5
    · obtain rfl | rfl | rfl | rfl | rfl | rfl : k = 54 ∨ k = 55 ∨ k = 56 ∨ k = 57 ∨ k = 58 ∨ k = 59 := by omega
      · exact k6.2.1
      · exact k6.2.2.1
      · exact k6.2.2.2
      · refine Eq.trans k8 ?_
        have e : gI σB 5 14 = gA σ1 0 57 0 := R0.s5 14 (by unfold isS; omega)
        exact b01 (by rw [gAI, ← e]; exact R0.2.2.2.1.2.2.2.2.2.2.2.2.2)
      · exact k9
      · exact k10
  have PI : PR np (sI σ2 0 11 1) 8 (imM σ') 0 := by
    obtain ⟨P1, ⟨m, P2, P3, P4⟩, P5⟩ := R0.2.2.2.2.1
    refine ⟨fun p hp => ?_, ⟨m, P2, ?_, fun p hp => ?_⟩, fun p hp => ?_⟩
    · have e := P1 p hp
      rw [show 6 * 0 + p = p by omega] at e ⊢
      refine Eq.trans (b2 5 p (by omega) (by omega)) (e.trans ?_)
      exact (k7 p (by omega)).2.1.symm
    · rw [gIo (by omega), b3 7 (by omega) (by omega)]
      exact P3
    · have e := P4 p hp
      rw [show 6 * 0 + p = p by omega] at e ⊢
      refine Eq.trans (k7 p (by omega)).2.2 ?_
      show (if gA σ1 0 53 p = 0 then (0 : Int32) else 1) = _
      rw [e]
      split <;> rfl
    · obtain ⟨v, v1, v2, v3⟩ := P5 p hp
      exact ⟨v, v1, v2, (b2 5 p (by omega) (by omega)).trans v3⟩
  have RF : REL0 t n np (sI σ2 0 11 1) σ' := by
    obtain ⟨h1, h2, h3, h4, h5, ⟨q, h6, h7, h8⟩, ⟨L, a1, a2, a3, a4⟩, ⟨c1, c2⟩, -, h9, h10, h11⟩ := R0
    have t1 := tx_le t
    have t2 := lw_le t
    have AB : agB 5 σB (sI σ2 0 11 1) := ⟨fun k _ => by rw [hA 5 (by omega)], fun k _ _ => by rw [hI0 5 (by omega) (by omega)]⟩
    have AM : agM n 0 σ1 σ' := ⟨fun k j _ _ q1 q2 _ => by rw [hMA k (by omega) (by omega)], fun k q1 q2 => by rw [hMA k (by omega) (by omega)]⟩
    refine ⟨by show gR σ2 0 = t; rw [b6]; exact h1, by show gR σ2 1 = _; rw [b6]; exact h2, h3.cg (hI0 _ (by omega) (by omega)) (by rw [hI0 _ (by omega) (by omega)]) (hA _ (by omega)) (hA _ (by omega)) (fun k q1 q2 => hM k (by omega)) (fun k q1 q2 => hMA k (by omega) (by omega)), h4.cg AB AM, h5.cg (by rw [hA 5 (by omega)]) (by rw [hI0 5 (by omega) (by omega)]) (fun p hp => by rw [hMA 52 (by omega) (by omega), hMA 53 (by omega) (by omega)]; exact ⟨rfl, rfl⟩), ⟨q, h6, by rw [hI0 5 (by omega) (by omega)]; exact h7, ?_⟩, ⟨L, a1, by rw [hI00 1 (by omega)]; exact a2, by rw [hM 1 (by omega)]; exact a3, fun i hi => by rw [hMA 0 (by omega) (by omega), hA 0 (by omega)]; exact a4 i hi⟩, ⟨by rw [hI00 5 (by omega), hM 4 (by omega)]; exact c1, by rw [hI00 6 (by omega), hM 5 (by omega)]; exact c2⟩, ⟨?_, Or.inr ⟨gIe _ _ _ _, SI, PI, q, h6, ?_, ?_⟩⟩, h9.cg ⟨AB, hA 12 (by omega)⟩ (by rw [hI0 12 (by omega) (by omega)]) AM (hMA 72 (by omega) (by omega)) (hM 71 (by omega)), h10.cg (fun k _ => by rw [hA 13 (by omega)]) (hI0 13 (by omega) (by omega)) (hMA 69 (by omega) (by omega)) (hM 67 (by omega)) (hM 68 (by omega)), by rw [hMA 3 (by omega) (by omega)]; exact h11⟩
    · rw [k3]; exact h8
    · rw [gIe, k2, gIe]
    · rw [gIo (by omega), b3 13 (by omega) (by omega)]; exact h7
    · rw [k4]; exact h8
  exact SIM.ret ⟨by show gI (sI σ2 0 11 1) 5 8 = gA σ1 0 59 0; rw [hI0 5 (by omega) (by omega)]; exact R0.s5 8 (by unfold isS; omega), RF.r⟩
