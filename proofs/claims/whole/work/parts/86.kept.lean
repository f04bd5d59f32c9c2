/-! KEEPING A TEXT -/
def hw (k : Nat) : Nat := if k = 19 then 3 else if k ≤ 28 then 6 else if k ≤ 31 then 3 else 64
/-- the text is kept where its rows are, place by place -/
theorem TX.pt {t : Bool} {n np : Nat} {σB σM σB' σM' : St} (h : TX t n np σB σM) (hI : gI σB' (tx t) = gI σB (tx t)) (hI2 : gI σB' (lw t) 4 = gI σB (lw t) 4) (hA : gA σB' (tx t) = gA σB (tx t)) (hA2 : gA σB' (lw t) = gA σB (lw t)) (hM : ∀ k, 12 ≤ k → k ≤ 14 → gI σM' 0 k = gI σM 0 k) (hM2 : ∀ k, 19 ≤ k → k ≤ 34 → ∀ j, j < hw k → gA σM' 0 k j = gA σM 0 k j) : TX t n np σB' σM' := by
  obtain ⟨g1, g2, g3, g4, g5, g6, g7, g8, g9, g10, g11, g12, g13, g14, g15, g16, g17, g18, g19, g20, g21⟩ := h
  have rg : ∀ k m lo hi, 20 ≤ k → k ≤ 28 → m ≤ 6 → rngN (gA σM 0 k) m lo hi → rngN (gA σM' 0 k) m lo hi := fun k m lo hi k1 k2 hm r j hj => by
    rw [hM2 k (by omega) (by omega) j (by unfold hw; rw [if_neg (by omega), if_pos (by omega)]; omega)]
    exact r j hj
  refine ⟨g1, g2, ?_, ?_, ?_, ?_, ?_, fun k h1 h2 j hj => ?_, fun k h1 h2 j hj => ?_, fun k hk => ?_, fun w hw' => ?_, rg _ _ _ _ (by omega) (by omega) (by omega) g12, rg _ _ _ _ (by omega) (by omega) (by omega) g13, rg _ _ _ _ (by omega) (by omega) (by omega) g14, rg _ _ _ _ (by omega) (by omega) (by omega) g15, rg _ _ _ _ (by omega) (by omega) (by omega) g16, rg _ _ _ _ (by omega) (by omega) (by omega) g17, rg _ _ _ _ (by omega) (by omega) (by omega) g18, ?_, ?_, ?_⟩
  · rw [hI]; exact g3
  · rw [hM 12 (by omega) (by omega)]; exact g4
  · rw [hI]; exact g5
  · rw [hM 13 (by omega) (by omega)]; exact g6
  · rw [hI2, hM 14 (by omega) (by omega)]; exact g7
  · rw [hA, hM2 (18 + k) (by omega) (by omega) j (by unfold hw; rw [if_neg (by omega), if_pos (by omega)]; omega)]; exact g8 k h1 h2 j hj
  · rw [hA, hM2 (17 + k) (by omega) (by omega) j (by unfold hw; rw [if_neg (by omega), if_pos (by omega)]; omega)]; exact g9 k h1 h2 j hj
  · rw [hI, hM2 19 (by omega) (by omega) k (by unfold hw; rw [if_pos rfl]; omega)]; exact g10 k hk
  · exact lawR_cg (fun k i _ _ => by rw [hA2]) (fun k _ _ => by rw [hA2]) (fun k h1 h2 => by rw [hM2 k (by omega) (by omega) w (by unfold hw; rw [if_neg (by omega), if_neg (by omega), if_pos (by omega)]; omega)]) (fun k i h1 h2 hi => by rw [hM2 k (by omega) (by omega) i (by unfold hw; rw [if_neg (by omega), if_neg (by omega), if_neg (by omega)]; omega)]) (g11 w hw')
  · rw [hM2 19 (by omega) (by omega) 0 (by unfold hw; rw [if_pos rfl]; omega)]; exact g19
  · rw [hM2 19 (by omega) (by omega) 1 (by unfold hw; rw [if_pos rfl]; omega)]; exact g20
  · rw [hM2 19 (by omega) (by omega) 2 (by unfold hw; rw [if_pos rfl]; omega)]; exact g21
/-- the text that the reference has just read, as if it were kept -/
def hf (σ : St) : St := (fun o k => if k = 12 then gI σ o 15 else if k = 13 then gI σ o 16 else if k = 14 then gI σ o 17 else gI σ o k, fun o k j => gA σ o k (hw k + j), gL σ, gJ σ, gR σ)
def cq (σ : St) (k : Nat) : St := sAr σ 0 k (cpf (gA σ 0 k) (hw k))
theorem cq_e (σ : St) (k j : Nat) (h : j < hw k) : gA (cq σ k) 0 k j = gA σ 0 k (hw k + j) := by
  unfold cq
  rw [gAe]
  unfold cpf
  rw [if_pos h]
theorem cq_n {σ : St} {k k' : Nat} (h : k' ≠ k) : gA (cq σ k) 0 k' = gA σ 0 k' := by
  unfold cq
  rw [gAn h]
theorem cq_I (σ : St) (k : Nat) : gI (cq σ k) = gI σ := Eq.trans rfl rfl
theorem cq_J (σ : St) (k : Nat) : gJ (cq σ k) = gJ σ := Eq.trans rfl rfl
theorem cps19 (σ : St) : fX10_copies_a10_19 σ (3 : Int32) = some (cq σ 19) := by
  show cpLoop 19 6 σ (nI 3) = _
  rw [cpLoop_eq 19 6 σ 3 (by omega) (by omega)]
  rfl
theorem cps20 (σ : St) : fX10_copies_a10_20 σ (6 : Int32) = some (cq σ 20) := by
  show cpLoop 20 12 σ (nI 6) = _
  rw [cpLoop_eq 20 12 σ 6 (by omega) (by omega)]
  rfl
theorem cps21 (σ : St) : fX10_copies_a10_21 σ (6 : Int32) = some (cq σ 21) := by
  show cpLoop 21 12 σ (nI 6) = _
  rw [cpLoop_eq 21 12 σ 6 (by omega) (by omega)]
  rfl
theorem cps22 (σ : St) : fX10_copies_a10_22 σ (6 : Int32) = some (cq σ 22) := by
  show cpLoop 22 12 σ (nI 6) = _
  rw [cpLoop_eq 22 12 σ 6 (by omega) (by omega)]
  rfl
theorem cps23 (σ : St) : fX10_copies_a10_23 σ (6 : Int32) = some (cq σ 23) := by
  show cpLoop 23 12 σ (nI 6) = _
  rw [cpLoop_eq 23 12 σ 6 (by omega) (by omega)]
  rfl
theorem cps24 (σ : St) : fX10_copies_a10_24 σ (6 : Int32) = some (cq σ 24) := by
  show cpLoop 24 12 σ (nI 6) = _
  rw [cpLoop_eq 24 12 σ 6 (by omega) (by omega)]
  rfl
theorem cps25 (σ : St) : fX10_copies_a10_25 σ (6 : Int32) = some (cq σ 25) := by
  show cpLoop 25 12 σ (nI 6) = _
  rw [cpLoop_eq 25 12 σ 6 (by omega) (by omega)]
  rfl
theorem cps26 (σ : St) : fX10_copies_a10_26 σ (6 : Int32) = some (cq σ 26) := by
  show cpLoop 26 12 σ (nI 6) = _
  rw [cpLoop_eq 26 12 σ 6 (by omega) (by omega)]
  rfl
theorem cps27 (σ : St) : fX10_copies_a10_27 σ (6 : Int32) = some (cq σ 27) := by
  show cpLoop 27 12 σ (nI 6) = _
  rw [cpLoop_eq 27 12 σ 6 (by omega) (by omega)]
  rfl
theorem cps28 (σ : St) : fX10_copies_a10_28 σ (6 : Int32) = some (cq σ 28) := by
  show cpLoop 28 12 σ (nI 6) = _
  rw [cpLoop_eq 28 12 σ 6 (by omega) (by omega)]
  rfl
theorem cps30 (σ : St) : fX10_copies_a10_30 σ (3 : Int32) = some (cq σ 30) := by
  show cpLoop 30 6 σ (nI 3) = _
  rw [cpLoop_eq 30 6 σ 3 (by omega) (by omega)]
  rfl
theorem cps31 (σ : St) : fX10_copies_a10_31 σ (3 : Int32) = some (cq σ 31) := by
  show cpLoop 31 6 σ (nI 3) = _
  rw [cpLoop_eq 31 6 σ 3 (by omega) (by omega)]
  rfl
theorem cps32 (σ : St) : fX10_copies_a10_32 σ (64 : Int32) = some (cq σ 32) := by
  show cpLoop 32 128 σ (nI 64) = _
  rw [cpLoop_eq 32 128 σ 64 (by omega) (by omega)]
  rfl
theorem cps33 (σ : St) : fX10_copies_a10_33 σ (64 : Int32) = some (cq σ 33) := by
  show cpLoop 33 128 σ (nI 64) = _
  rw [cpLoop_eq 33 128 σ 64 (by omega) (by omega)]
  rfl
theorem cps34 (σ : St) : fX10_copies_a10_34 σ (64 : Int32) = some (cq σ 34) := by
  show cpLoop 34 128 σ (nI 64) = _
  rw [cpLoop_eq 34 128 σ 64 (by omega) (by omega)]
  rfl

theorem kept_eq (σ : St) (h29 : ∀ w, w < 3 → gA σ 0 29 (3 + w) = 0 ∨ gA σ 0 29 (3 + w) = 1) : ∃ σ3, fX10_keepText σ = (bV (fX10_begin σ3) fun σ40 => some σ40) ∧ gI σ3 0 12 = gI σ 0 15 ∧ gI σ3 0 13 = gI σ 0 16 ∧ gI σ3 0 14 = gI σ 0 17 ∧ (∀ k, (k < 12 ∨ 14 < k) → gI σ3 0 k = gI σ 0 k) ∧ (∀ k, 19 ≤ k → k ≤ 34 → ∀ j, j < hw k → gA σ3 0 k j = gA σ 0 k (hw k + j)) ∧ (∀ k, (k < 19 ∨ 34 < k) → gA σ3 0 k = gA σ 0 k) ∧ gJ σ3 = gJ σ := by
  unfold fX10_keepText
  simp only [lt_eq, cps19, cps20, cps21, cps22, cps23, cps24, cps25, cps26, cps27, cps28, bVs]
  have E1 : gI (sI (sI (sI σ 0 12 (gI σ 0 15)) 0 13 (gI (sI σ 0 12 (gI σ 0 15)) 0 16)) 0 14 (gI (sI (sI σ 0 12 (gI σ 0 15)) 0 13 (gI (sI σ 0 12 (gI σ 0 15)) 0 16)) 0 17)) 0 12 = gI σ 0 15 := by simp (disch := omega) only [gIe, gIn]
  have E2 : gI (sI (sI (sI σ 0 12 (gI σ 0 15)) 0 13 (gI (sI σ 0 12 (gI σ 0 15)) 0 16)) 0 14 (gI (sI (sI σ 0 12 (gI σ 0 15)) 0 13 (gI (sI σ 0 12 (gI σ 0 15)) 0 16)) 0 17)) 0 13 = gI σ 0 16 := by simp (disch := omega) only [gIe, gIn]
  have E3 : gI (sI (sI (sI σ 0 12 (gI σ 0 15)) 0 13 (gI (sI σ 0 12 (gI σ 0 15)) 0 16)) 0 14 (gI (sI (sI σ 0 12 (gI σ 0 15)) 0 13 (gI (sI σ 0 12 (gI σ 0 15)) 0 16)) 0 17)) 0 14 = gI σ 0 17 := by simp (disch := omega) only [gIe, gIn]
  have E4 : ∀ k, (k < 12 ∨ 14 < k) → gI (sI (sI (sI σ 0 12 (gI σ 0 15)) 0 13 (gI (sI σ 0 12 (gI σ 0 15)) 0 16)) 0 14 (gI (sI (sI σ 0 12 (gI σ 0 15)) 0 13 (gI (sI σ 0 12 (gI σ 0 15)) 0 16)) 0 17)) 0 k = gI σ 0 k := fun k hk => by simp (disch := omega) only [gIe, gIn]
  have E5 : gA (sI (sI (sI σ 0 12 (gI σ 0 15)) 0 13 (gI (sI σ 0 12 (gI σ 0 15)) 0 16)) 0 14 (gI (sI (sI σ 0 12 (gI σ 0 15)) 0 13 (gI (sI σ 0 12 (gI σ 0 15)) 0 16)) 0 17)) = gA σ := by simp only [gAI]
  have E6 : gJ (sI (sI (sI σ 0 12 (gI σ 0 15)) 0 13 (gI (sI σ 0 12 (gI σ 0 15)) 0 16)) 0 14 (gI (sI (sI σ 0 12 (gI σ 0 15)) 0 13 (gI (sI σ 0 12 (gI σ 0 15)) 0 16)) 0 17)) = gJ σ := rfl
  generalize sI (sI (sI σ 0 12 (gI σ 0 15)) 0 13 (gI (sI σ 0 12 (gI σ 0 15)) 0 16)) 0 14 (gI (sI (sI σ 0 12 (gI σ 0 15)) 0 13 (gI (sI σ 0 12 (gI σ 0 15)) 0 16)) 0 17) = s0 at *
  have F1 : gI (cq (cq (cq (cq (cq (cq (cq (cq (cq (cq s0 19) 20) 21) 22) 23) 24) 25) 26) 27) 28) = gI s0 := by simp only [cq_I]
  have F2 : gJ (cq (cq (cq (cq (cq (cq (cq (cq (cq (cq s0 19) 20) 21) 22) 23) 24) 25) 26) 27) 28) = gJ s0 := by simp only [cq_J]
  have F3 : ∀ k, (k < 19 ∨ 28 < k) → gA (cq (cq (cq (cq (cq (cq (cq (cq (cq (cq s0 19) 20) 21) 22) 23) 24) 25) 26) 27) 28) 0 k = gA σ 0 k := fun k hk => by simp (disch := omega) only [cq_n, E5]
  have F4 : ∀ k, 19 ≤ k → k ≤ 28 → ∀ j, j < hw k → gA (cq (cq (cq (cq (cq (cq (cq (cq (cq (cq s0 19) 20) 21) 22) 23) 24) 25) 26) 27) 28) 0 k j = gA σ 0 k (hw k + j) := by
    intro k k1 k2 j hj
    obtain rfl | rfl | rfl | rfl | rfl | rfl | rfl | rfl | rfl | rfl : k = 19 ∨ k = 20 ∨ k = 21 ∨ k = 22 ∨ k = 23 ∨ k = 24 ∨ k = 25 ∨ k = 26 ∨ k = 27 ∨ k = 28 := by omega
    all_goals (repeat rw [cq_n (by omega)]); rw [cq_e _ _ _ hj]; (repeat rw [cq_n (by omega)]); rw [E5]
  generalize cq (cq (cq (cq (cq (cq (cq (cq (cq (cq s0 19) 20) 21) 22) 23) 24) 25) 26) 27) 28 = s1 at *
  generalize hFU : FU = Z
  refine lpx2_wp (fun r => ∃ σ3, r = (bV (fX10_begin σ3) fun σ40 => some σ40) ∧ gI σ3 0 12 = gI σ 0 15 ∧ gI σ3 0 13 = gI σ 0 16 ∧ gI σ3 0 14 = gI σ 0 17 ∧ (∀ k, (k < 12 ∨ 14 < k) → gI σ3 0 k = gI σ 0 k) ∧ (∀ k, 19 ≤ k → k ≤ 34 → ∀ j, j < hw k → gA σ3 0 k j = gA σ 0 k (hw k + j)) ∧ (∀ k, (k < 19 ∨ 34 < k) → gA σ3 0 k = gA σ 0 k) ∧ gJ σ3 = gJ σ) (fun j x s => ∃ i, i + j = 3 ∧ x = nI i ∧ gI s = gI s1 ∧ gJ s = gJ s1 ∧ (∀ k, k ≠ 29 → gA s 0 k = gA s1 0 k) ∧ ∀ q, gA s 0 29 q = if q < i then gA σ 0 29 (3 + q) else gA σ 0 29 q) ?_ Z 3 0 s1 (by rw [← hFU]; exact FU_gt (by omega)) ⟨0, by omega, rfl, rfl, rfl, fun _ _ => rfl, fun q => by rw [if_neg (by omega), F3 29 (by omega)]⟩
  rintro j self x s ⟨i, hi, rfl, e1, e2, e3, e4⟩ ih
  by_cases c : 3 ≤ i
  · rw [if_pos (show (3 : Int32) ≤ nI i from (leN (a := 3) (b := i) (by omega) (by omega)).mpr c)]
    have : i = 3 := by omega
    subst this
    simp only [cps30, cps31, cps32, cps33, cps34, bVs]
    have I0 : gI (cq (cq (cq (cq (cq s 30) 31) 32) 33) 34) = gI s0 := by simp only [cq_I]; rw [e1, F1]
    refine ⟨_, rfl, by rw [I0]; exact E1, by rw [I0]; exact E2, by rw [I0]; exact E3, fun k hk => by rw [I0]; exact E4 k hk, fun k k1 k2 j hj => ?_, fun k hk => ?_, ?_⟩
    · by_cases d : k ≤ 28
      · simp (disch := omega) only [cq_n, e3]
        exact F4 k k1 d j hj
      · by_cases d9 : k = 29
        · subst d9
          simp (disch := omega) only [cq_n]
          have h3 : hw 29 = 3 := rfl
          rw [h3] at hj ⊢
          rw [e4, if_pos hj]
        · obtain rfl | rfl | rfl | rfl | rfl : k = 30 ∨ k = 31 ∨ k = 32 ∨ k = 33 ∨ k = 34 := by omega
          all_goals (repeat rw [cq_n (by omega)]); rw [cq_e _ _ _ hj]; (repeat rw [cq_n (by omega)]); rw [e3 _ (by omega), F3 _ (by omega)]
    · simp (disch := omega) only [cq_n, e3, F3]
    · simp only [cq_J]
      rw [e2, F2, E6]
  · rw [if_neg (show ¬ (3 : Int32) ≤ nI i from fun z => c ((leN (a := 3) (b := i) (by omega) (by omega)).mp z))]
    simp only [lt_eq, show (3 : Int32) + nI i = nI (3 + i) from nI_add 3 i, gdN (show 3 + i < 6 by omega) (show 6 ≤ 1000000 by omega), gdN (show i < 6 by omega) (show 6 ≤ 1000000 by omega), clN (show 3 + i < 1000000 by omega), clN (show i < 1000000 by omega)]
    refine ih (j - 1) _ _ (by omega) ⟨i + 1, by omega, nI_1 i, e1, e2, fun k hk => ?_, fun q => ?_⟩
    · simp only [sA]
      rw [gAn hk]
      exact e3 k hk
    · simp only [sA]
      rw [gAe]
      have v : gA s 0 29 (3 + i) = gA σ 0 29 (3 + i) := by rw [e4, if_neg (by omega)]
      rw [v, narB (h29 i (by omega))]
      by_cases d : q = i
      · rw [d, upd_eq, if_pos (by omega)]
      · rw [upd_ne d, e4]
        by_cases d2 : q < i
        · rw [if_pos d2, if_pos (by omega)]
        · rw [if_neg d2, if_neg (by omega)]
