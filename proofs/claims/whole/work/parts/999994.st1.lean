theorem iMin7 {S : Nat} (h : S ≤ 700) : iMin (nI S) (700 : Int32) = nI S := by
  unfold iMin
  rw [if_neg (show ¬ (700 : Int32) < nI S from fun z => absurd ((ltN (a := 700) (b := S) (by omega) (by omega)).mp z) (by omega))]
theorem st1 : ST1 REL := by
  rintro σB σM p0 ⟨t, n, np, R⟩
  unfold fX9_text fX10_text
  have R0 := R.th
  rw [lt_eq]
  generalize sI σM 0 2 0 = σ1 at *
  obtain ⟨L, a1, a2, a3, a4⟩ := R0.2.2.2.2.2.2.1
  have t1 := tx_le (!t)
  have t2 := lw_le (!t)
  have z0 : (0 : Int32) = 0 := rfl
  have z1 : ¬ (1 : Int32) = 0 := by decide
  simp only [lt_eq, jnx1_eq]
  by_cases d0 : p0 < 0
  · rw [if_pos d0, if_pos d0]
    exact SIM.ret ⟨rfl, R0.r⟩
  · rw [if_neg d0, if_neg d0, a2, a3]
    by_cases d1 : p0 ≤ nI L
    · rw [if_pos d1, if_pos d1]
      obtain ⟨S, -, s2, rfl⟩ := in_nat (a := p0) 0 L ⟨by have := Int32.not_lt.mp d0; exact this, d1⟩ (by omega) (by omega)
      have hS : S ≤ 700 := by omega
      have r1 : gR (sI σB 0 1 0) 1 = !t := R0.2.1
      rw [r1]
      -- the class's readText
      have eT : fX3_readText (sI σB 0 1 0) (!t) (nI S) = (bV (fX6_empty (sR (sI σB 0 1 0) 3 (!t)) (gR (sR (sI σB 0 1 0) 3 (!t)) 3)) fun σ3 => bV (fX7_advance (sI (sI (sI (sI (sI σ3 9 3 0) 9 4 0) 11 8 0) 10 1 (iMin (nI S) (700 : Int32))) 10 2 0)) fun A => lpx2 FU (fun self12 (x10 : Int32) (σ11 : St) => if (700 : Int32) < x10 then some ((1 : Int32), σ11) else (if (gI σ11 10 3) = (21 : Int32) then some ((1 : Int32), σ11) else (bI (fX3_readLine σ11) fun r18 σ19 => if r18 = 0 then some ((0 : Int32), σ19) else (bI (fX3_endLine σ19) fun r24 σ25 => if r24 = 0 then some ((0 : Int32), σ25) else self12 (x10 + (1 : Int32)) σ25)))) (0 : Int32) A) := by
        unfold fX3_readText
        simp only [lt_eq, jnx1_eq]
        obtain ⟨σ', e1, -⟩ := empty_eq (sR (sI σB 0 1 0) 3 (!t)) (gR (sR (sI σB 0 1 0) 3 (!t)) 3)
        rw [e1, bVs, bVs]
        unfold fX1_begin fX7_start
        simp only [lt_eq, bVs]
        cases fX7_advance (sI (sI (sI (sI (sI σ' 9 3 0) 9 4 0) 11 8 0) 10 1 (iMin (nI S) (700 : Int32))) 10 2 0) with
        | none => rfl
        | some q => rfl
      have g3 : gR (sR (sI σB 0 1 0) 3 (!t)) 3 = !t := by rw [gR_sR, if_pos rfl]
      rw [eT, g3, iMin7 hS]
      obtain ⟨σe, b1, b2, b3, b4, b5, b6, b7, b8, b9, b10, b11, b12⟩ := empty_eq (sR (sI σB 0 1 0) 3 (!t)) (!t)
      obtain ⟨σp, q1, q2, q3, q4, q5, q6, q7, q8, q9, q10, q11, q12⟩ := plain_eq (sI (sI (sI (sI (sI σ1 0 6 (nI S)) 0 1 0) 0 4 0) 0 5 (-1)) 0 7 0)
      rw [b1, bVs, q1, bVs]
      have hGR : ∀ k, gR (sI (sI (sI (sI (sI σe 9 3 0) 9 4 0) 11 8 0) 10 1 (nI S)) 10 2 0) k = if k = 3 then !t else gR σB k := fun k => by
        show gR σe k = _
        rw [b12, gR_sR]
        rfl
      have hGA : gA (sI (sI (sI (sI (sI σe 9 3 0) 9 4 0) 11 8 0) 10 1 (nI S)) 10 2 0) = gA σe := rfl
      have hGI : ∀ o, o ≠ 9 → o ≠ 10 → o ≠ 11 → gI (sI (sI (sI (sI (sI σe 9 3 0) 9 4 0) 11 8 0) 10 1 (nI S)) 10 2 0) o = gI σe o := fun o o1 o2 o3 => by
        funext k
        rw [gIo o2, gIo o2, gIo o3, gIo o1, gIo o1]
      have h94 : gI (sI (sI (sI (sI (sI σe 9 3 0) 9 4 0) 11 8 0) 10 1 (nI S)) 10 2 0) 9 4 = 0 := by rw [gIo (by omega), gIo (by omega), gIo (by omega), gIe]
      have h118 : gI (sI (sI (sI (sI (sI σe 9 3 0) 9 4 0) 11 8 0) 10 1 (nI S)) 10 2 0) 11 8 = 0 := by rw [gIo (by omega), gIo (by omega), gIe]
      have h101 : gI (sI (sI (sI (sI (sI σe 9 3 0) 9 4 0) 11 8 0) 10 1 (nI S)) 10 2 0) 10 1 = nI S := by rw [gIn (by omega), gIe]
      have h102 : gI (sI (sI (sI (sI (sI σe 9 3 0) 9 4 0) 11 8 0) 10 1 (nI S)) 10 2 0) 10 2 = nI 0 := by rw [gIe]; rfl
      generalize sI (sI (sI (sI (sI σe 9 3 0) 9 4 0) 11 8 0) 10 1 (nI S)) 10 2 0 = A at hGR hGA hGI h94 h118 h101 h102 ⊢
      have hm6 : gI σp 0 6 = nI S := by rw [q6 6 (by omega) (by omega) (by omega) (by omega), gIn (by omega), gIn (by omega), gIn (by omega), gIn (by omega), gIe]
      have hm1 : gI σp 0 1 = 0 := by rw [q6 1 (by omega) (by omega) (by omega) (by omega), gIn (by omega), gIn (by omega), gIn (by omega), gIe]
      have hm4 : gI σp 0 4 = 0 := by rw [q6 4 (by omega) (by omega) (by omega) (by omega), gIn (by omega), gIn (by omega), gIe]
      have hm5 : gI σp 0 5 = -1 := by rw [q6 5 (by omega) (by omega) (by omega) (by omega), gIn (by omega), gIe]
      have hm7 : gI σp 0 7 = nI 0 := by rw [q6 7 (by omega) (by omega) (by omega) (by omega), gIe]; rfl
      have hmI : ∀ k, ((12 ≤ k ∧ k ≤ 14) ∨ 42 < k) → gI σp 0 k = gI σ1 0 k := fun k hk => by
        rw [q6 k (by omega) (by omega) (by omega) (by omega), gIn (by omega), gIn (by omega), gIn (by omega), gIn (by omega), gIn (by omega)]
      have hmA : ∀ k, k ≠ 18 → k ≠ 19 → k ≠ 29 → gA σp 0 k = gA σ1 0 k := fun k k1 k2 k3 => by rw [q11 k k1 k2 k3]; rfl
      have hmA2 : ∀ k, 19 ≤ k → k ≤ 34 → ∀ j, j < hw k → gA σp 0 k j = gA σ1 0 k j := by
        intro k k1 k2 j hj
        by_cases e19 : k = 19
        · subst e19
          have : hw 19 = 3 := rfl
          exact (q7 j (by omega)).2.2.2
        · by_cases e29 : k = 29
          · subst e29
            have : hw 29 = 3 := rfl
            exact (q7 j (by omega)).2.2.1
          · rw [hmA k (by omega) e19 e29]
      have hmJ : gJ σp = gJ σ1 := q12
      obtain ⟨c, hc⟩ : ∃ c : Nat → Nat, ∀ i, i < 700 → c i < 256 ∧ gA σ1 0 0 i = nI (c i) ∧ gA σB 0 0 i = bytN (c i) := ⟨fun i => if h : i < 700 then Classical.choose (a4 i h) else 0, fun i hi => by
        show (if h : i < 700 then Classical.choose (a4 i h) else 0) < 256 ∧ gA σ1 0 0 i = nI (if h : i < 700 then Classical.choose (a4 i h) else 0) ∧ gA σB 0 0 i = bytN (if h : i < 700 then Classical.choose (a4 i h) else 0)
        rw [dif_pos hi]
        exact Classical.choose_spec (a4 i hi)⟩
      have A00 : gA A 0 0 = gA σB 0 0 := by
        rw [hGA, b11 0 (by omega)]
        rfl
      have T : TC c S A σp := ⟨hS, h101, hm6, fun i hi => by rw [hmA 0 (by omega) (by omega) (by omega), A00]; exact hc i hi, by rw [hmA 3 (by omega) (by omega) (by omega)]; exact R0.2.2.2.2.2.2.2.2.2.2.2⟩
      have X : TX (!t) 0 0 A (hf σp) := by
        have w19 : ∀ k, gA (hf σp) 0 19 k = gA σp 0 19 (3 + k) := fun k => rfl
        have it : gI A (tx (!t)) = gI σe (tx (!t)) := hGI _ (by omega) (by omega) (by omega)
        refine ⟨by omega, by omega, by rw [it]; exact b3, q2, by rw [it]; exact b4, q3, ?_, fun k _ _ j hj => by omega, fun k _ _ j hj => by omega, fun k hk => ?_, fun w hw' => ⟨0, 0, by omega, by omega, ?_, ?_, ?_, fun h => by omega⟩, fun j hj => by omega, fun j hj => by omega, fun j hj => by omega, fun j hj => by omega, fun j hj => by omega, fun j hj => by omega, fun j hj => by omega, ⟨3, by omega, by omega, q8⟩, ⟨0, by omega, q9⟩, ⟨0, by omega, q10⟩⟩
        · rw [hGI _ (by omega) (by omega) (by omega), b8]
          exact q4.symm
        · rw [it, w19]
          obtain rfl | rfl | rfl : k = 0 ∨ k = 1 ∨ k = 2 := by omega
          · exact b5.trans q8.symm
          · exact b6.trans q9.symm
          · exact b7.trans q10.symm
        · rw [hGA]; exact (b9 w hw').1
        · rw [hGA]; exact (b9 w hw').2
        · rw [if_neg (by omega)]
          exact (q7 w hw').2.1
      have RR : RD (!t) c S 0 0 A σp := by
        refine ⟨T, by rw [hGR, if_pos rfl], X, ⟨0, 0, by omega, by omega, ?_, q4, h118, q5, fun w hw' => ⟨0, by omega, by rw [hGA]; exact (b9 w hw').2⟩⟩, 0, by omega, h94, fun k hk => ?_⟩
        · rw [hGI _ (by omega) (by omega) (by omega)]; exact b8
        · rw [(q7 k hk).1, if_neg (by simp)]
      obtain ⟨A', B', eA, eB, h1, h2, p, i', k1, k2, k3, k4, k5, k6, k7, k8, k9⟩ := adv_sim T 0 (by omega) h102 hm7
      rw [eA, eB, bVs, bVs]
      have K : TKp S p A' B' := ⟨i', k2, k3, k4, k5, k6, k7, k8, k9⟩
      have gA0 : gI A 0 = gI σe 0 := hGI 0 (by omega) (by omega) (by omega)
      have ge0 : ∀ k, gI σe 0 k = gI (sI σB 0 1 0) 0 k := fun k => by
        rw [b10 0 (by omega) (by omega)]
        rfl
      obtain ⟨⟨r, x⟩, ⟨r', y⟩, eL, eM, Q⟩ := textloop (u := !t) (by rw [h1.2.2.2, hGR, if_neg (by omega)]; exact R0.2.1) (by rw [h1.2.2.2, hGR, if_neg (by omega), Bool.not_not]; exact R0.1) (by rw [h1.1 0 (by omega), gA0, ge0, gIe]) (by rw [h2.1 1 (by omega)]; exact hm1) (RR.tok h1 h2) K (by rw [h2.1 4 (by omega)]; exact hm4) (by rw [h2.1 5 (by omega)]; exact hm5) (by rw [h1.1 _ (by omega), hGI _ (by omega) (by omega) (by omega)]; exact b2)
      rw [eL, eM, bIs]
      rcases Q with ⟨o1, s', o2, o3, o4⟩ | ⟨o1, o2, o3, o4, o5, o6⟩
      · have o1 : r = 1 := o1
        subst o1
        have o2 : fX9_startAnew (sR (sR (sI (sI x 0 5 0) 0 6 (-1)) 0 (gR x 1)) 1 (gR x 0)) = some s' := o2
        have o4 : gI s' (tx (gR s' 0)) 0 = r' := o4
        rw [if_neg z1, if_neg z1, if_neg z1]
        show SIM _ (bV (fX9_startAnew (sR (sR (sI (sI x 0 5 0) 0 6 (-1)) 0 (gR x 1)) 1 (gR x 0))) fun σ18 => some ((gI σ18 (tx (gR σ18 0)) 0), σ18)) _
        rw [o2, bVs]
        exact SIM.ret ⟨o4, o3⟩
      · have o1 : r = 0 := o1
        have o2 : r' = -1 := o2
        have o3 : frRB (!t) A' x := o3
        have o4 : frRM B' y := o4
        have o5 : gI x 9 3 = gI y 0 4 := o5
        have o6 : gI x 10 4 = gI y 0 5 := o6
        subst o1
        subst o2
        unfold fX3_faultKind fX3_faultAt
        rw [if_pos z0, bS, if_pos z0, bS, if_pos z0]
        refine SIM.ret ⟨rfl, REL0.r (R0.fault (σB' := sI (sI x 0 5 (gI x 9 3)) 0 6 (gI (sI x 0 5 (gI x 9 3)) 10 4)) (σM' := y) (fun o o1 o2 o3' o4' o5' o6' => ?_) ?_ (fun o o1 o2 o3' => ?_) (fun k hk => ?_) (fun k hk => ?_) (fun k hk => ?_) (fun k k1 k2 j hj => ?_) ?_ ?_ ?_)⟩
        · funext k
          rw [gIo o1, gIo o1, o3.1 o o2 o3' o4' o5' o6', h1.1 o o5', hGI o o4' o5' o6', b10 o o2 o3']
          show gI (sI σB 0 1 0) o k = _
          rw [gIo o1]
        · rw [gIn (by omega), gIn (by omega), o3.1 0 (by omega) (by omega) (by omega) (by omega) (by omega), h1.1 0 (by omega), gA0, ge0, gIn (by omega)]
        · show gA x o = _
          rw [o3.2.1 o o1 o2 o3', h1.2.2.1, hGA, b11 o o2]
          rfl
        · show gR x k = _
          rw [o3.2.2.1 k (by omega), h1.2.2.2, hGR, if_neg (by omega)]
        · rw [o4.1 k (by omega), h2.1 k (by omega), hmI k hk]
        · rw [o4.2.1 k hk, h2.2.1, hmA k (by omega) (by omega) (by omega)]
        · rw [o4.2.2.1 k k1 k2 j hj, h2.2.1, hmA2 k k1 k2 j hj]
        · rw [o4.2.2.2, h2.2.2, hmJ]
        · refine ⟨0, by omega, ?_, ?_, fun i hi => ?_⟩
          · rw [gIn (by omega), gIn (by omega), o3.1 0 (by omega) (by omega) (by omega) (by omega) (by omega), h1.1 0 (by omega), gA0, ge0, gIe]
            rfl
          · rw [o4.1 1 (by omega), h2.1 1 (by omega), hm1]
            rfl
          · refine ⟨c i, (hc i hi).1, ?_, ?_⟩
            · rw [o4.2.1 0 (by omega), h2.2.1, hmA 0 (by omega) (by omega) (by omega)]
              exact (hc i hi).2.1
            · show gA x 0 0 i = _
              rw [o3.2.1 0 (by omega) (by omega) (by omega), h1.2.2.1, A00]
              exact (hc i hi).2.2
        · refine ⟨?_, ?_⟩
          · rw [gIn (by omega), gIe, o5]
          · rw [gIe, gIo (by omega), o6]
    · rw [if_neg d1, if_neg d1]
      exact SIM.ret ⟨rfl, R0.r⟩
