theorem REL0.zero {t : Bool} {σB σM σB' : St} (R : REL0 t 0 0 σB σM) (hR : ∀ k, k < 2 → gR σB' k = gR σB k) (hI : ∀ o k, (o < 5 ∨ 11 < o) → gI σB' o k = gI σB o k) (hI5 : ∀ k, 6 ≤ k → k ≤ 14 → gI σB' 5 k = gI σB 5 k) (hA : ∀ o, o ≠ 5 → gA σB' o = gA σB o) (h11 : gI σB 0 11 = 0) (h12 : gI σB 12 1 = 0) : REL0 t 0 0 σB' σM := by
  obtain ⟨h1, h2, h3, h4, h5, ⟨q, h6, h7, h8⟩, ⟨L, a1, a2, a3, a4⟩, ⟨b1, b2⟩, ⟨c1, c2⟩, ⟨s, s1, s2, s3, s4⟩, ⟨z, z1, z2, z3, z4, z5, z6⟩, h11'⟩ := R
  have t1 := tx_le t
  have t2 := lw_le t
  have S : SR 0 9999 9000 σB' 5 σM 0 := by
    obtain ⟨r1, ⟨m, r2, r3, r4⟩, r5, r6, r7, r8, ⟨y, r9, r10⟩, ⟨v, r11, r12⟩, r13, r14⟩ := h4
    refine ⟨fun k _ j hj => by omega, ⟨m, r2, by rw [hI5 6 (by omega) (by omega)]; exact r3, r4⟩, fun k hk => by rw [hI5 k (by unfold isS at hk; omega) (by unfold isS at hk; omega)]; exact r5 k hk, fun j hj => by omega, fun j hj => by omega, fun j hj => by omega, ⟨y, r9, by rw [hI5 8 (by omega) (by omega)]; exact r10⟩, ⟨v, r11, by rw [hI5 9 (by omega) (by omega)]; exact r12⟩, by rw [hI5 10 (by omega) (by omega)]; exact r13, by rw [hI5 14 (by omega) (by omega)]; exact r14⟩
  refine ⟨by rw [hR 0 (by omega)]; exact h1, by rw [hR 1 (by omega)]; exact h2, h3.cg (funext fun k => hI _ k (by omega)) (hI _ _ (by omega)) (hA _ (by omega)) (hA _ (by omega)) (fun _ _ _ => rfl) (fun _ _ _ => rfl), S, ?_, ⟨q, h6, by rw [hI5 13 (by omega) (by omega)]; exact h7, h8⟩, ⟨L, a1, by rw [hI _ _ (by omega)]; exact a2, a3, fun i hi => by rw [hA 0 (by omega)]; exact a4 i hi⟩, ⟨by rw [hI _ _ (by omega)]; exact b1, by rw [hI _ _ (by omega)]; exact b2⟩, ⟨by rw [hI _ _ (by omega)]; exact c1, Or.inl (by rw [hI _ _ (by omega)]; exact h11)⟩, ⟨0, by omega, by rw [hI _ _ (by omega)]; exact h12, ?_, fun d hd => ?_⟩, ?_, h11'⟩
  · obtain ⟨P1, ⟨m, P2, P3, P4⟩, P5⟩ := h5
    exact ⟨fun p hp => by omega, ⟨m, P2, by rw [hI5 7 (by omega) (by omega)]; exact P3, P4⟩, fun j hj => by omega⟩
  · rw [s3, ← s2]; exact h12
  · obtain rfl : d = 0 := by omega
    exact ⟨S, fun h => by omega⟩
  · refine SEE.cg (σB := σB) (σM := σM) ⟨z, z1, z2, z3, z4, z5, z6⟩ (fun k _ => by rw [hA 13 (by omega)]) (funext fun k => hI 13 k (by omega)) rfl rfl rfl
theorem iniM_I (k : Nat) : gI iniM 0 k = cond (Nat.beq k 5 || Nat.beq k 68) (-1) 0 := rfl
theorem iniB_I (o k : Nat) : gI iniB o k = cond ((Nat.beq o 1 || Nat.beq o 2) && Nat.beq k 12) 3 (cond ((Nat.beq o 5 || (Nat.beq o 6 || (Nat.beq o 7 || Nat.beq o 8))) && Nat.beq k 10) (-1) (cond (Nat.beq o 13 && Nat.beq k 5) (-1) (cond (Nat.beq o 0 && Nat.beq k 6) (-1) 0))) := rfl
theorem rel_ini : ∃ σ1 σ2, fX10_plain iniM = some σ1 ∧ fX10_keepText σ1 = some σ2 ∧ REL iniB σ2 := by
  obtain ⟨σ1, p1, p2, p3, p4, p5, p6, p7, p8, p9, p10, p11, p12⟩ := plain_eq iniM
  have hz : ∀ j, gA σ1 0 0 j = 0 := fun j => by
    rw [p11 0 (by omega) (by omega) (by omega)]
    rfl
  have T : TX false 0 0 iniB (hf σ1) := by
    refine ⟨by omega, by omega, rfl, p2, rfl, p3, p4.symm, fun k _ _ j hj => by omega, fun k _ _ j hj => by omega, fun k hk => ?_, fun w hw' => ⟨0, 0, by omega, by omega, rfl, rfl, ?_, fun h => by omega⟩, fun j hj => by omega, fun j hj => by omega, fun j hj => by omega, fun j hj => by omega, fun j hj => by omega, fun j hj => by omega, fun j hj => by omega, ⟨3, by omega, by omega, p8⟩, ⟨0, by omega, p9⟩, ⟨0, by omega, p10⟩⟩
    · obtain rfl | rfl | rfl : k = 0 ∨ k = 1 ∨ k = 2 := by omega
      · exact p8.symm
      · exact p9.symm
      · exact p10.symm
    · rw [if_neg (by omega)]
      exact (p7 w hw').2.1
  have P : TPR iniB σ1 := by
    refine ⟨0, by omega, rfl, ?_, fun i hi => ⟨0, by omega, hz i, rfl⟩⟩
    rw [p6 1 (by omega) (by omega) (by omega) (by omega)]
    rfl
  have F : FLT iniB σ1 := by
    refine ⟨?_, ?_⟩
    · rw [p6 4 (by omega) (by omega) (by omega) (by omega)]
      rfl
    · rw [p6 5 (by omega) (by omega) (by omega) (by omega)]
      rfl
  have W : gA σ1 0 3 = wordsU := by
    rw [p11 3 (by omega) (by omega) (by omega)]
    rfl
  obtain ⟨σB', σ2, a1, a2, a3, a4, a5, a6, a7, a8⟩ := anew (u := false) rfl rfl T P F W
  refine ⟨σ1, σ2, p1, a2, false, 0, 0, ?_⟩
  obtain ⟨s, b1, b2, b3, b4, b5, b6, b7, b8, b9, b10, b11, b12, b13, b14, b15, b16⟩ := begin_eq iniB 5 0 0 false (by omega) (by omega) (by omega) rfl rfl
  have r0 : gR iniB 0 = false := rfl
  unfold fX9_startAnew fX8_forget fX5_forget at a1
  rw [r0, b1] at a1
  simp only [bVs, lt_eq] at a1
  injection a1 with a1
  subst a1
  refine a3.zero (fun k _ => by show _ = gR s k; rw [b15]) (fun o k ho => ?_) (fun k k1 k2 => ?_) (fun o ho => ?_) a5 a6
  · by_cases c13 : o = 13 ∧ k = 5
    · obtain ⟨rfl, rfl⟩ := c13
      rw [gIe]
      rfl
    · rw [gI_sI, if_neg c13]
      by_cases c4 : o = 13 ∧ k = 4
      · obtain ⟨rfl, rfl⟩ := c4
        rw [gIe]
        rfl
      · rw [gI_sI, if_neg c4]
        by_cases c12 : o = 12 ∧ k = 1
        · obtain ⟨rfl, rfl⟩ := c12
          rw [gIe]
          rfl
        · rw [gI_sI, if_neg c12]
          by_cases c0 : o = 0 ∧ k = 11
          · obtain ⟨rfl, rfl⟩ := c0
            rw [gIe]
            rfl
          · rw [gI_sI, if_neg c0, b13 o (by omega)]
  · rw [gIo (by omega), gIo (by omega), gIo (by omega), gIo (by omega)]
    obtain rfl | rfl | rfl | rfl | rfl | rfl | rfl | rfl | rfl : k = 6 ∨ k = 7 ∨ k = 8 ∨ k = 9 ∨ k = 10 ∨ k = 11 ∨ k = 12 ∨ k = 13 ∨ k = 14 := by omega
    · rw [b4]; rfl
    · rw [b5]; rfl
    · rw [b6]; rfl
    · rw [b7]; rfl
    · rw [b8]; rfl
    · rw [b9]; rfl
    · rw [b10]; rfl
    · rw [b11]; rfl
    · rw [b12]; rfl
  · simp only [gAI]
    rw [b14 o ho]
