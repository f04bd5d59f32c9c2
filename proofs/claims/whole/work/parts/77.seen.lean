/-- the relation anew, where what there is now, what was seen or can be undone has changed -/
theorem REL0.bld {t : Bool} {n np : Nat} {σB σM σB' σM' : St} (R : REL0 t n np σB σM) (hI : ∀ o, o ≠ 5 → o ≠ 6 → o ≠ 7 → o ≠ 12 → o ≠ 13 → o ≠ 14 → gI σB' o = gI σB o) (hA : ∀ o, o ≠ 5 → o ≠ 6 → o ≠ 7 → o ≠ 12 → o ≠ 13 → o ≠ 14 → gA σB' o = gA σB o) (hR : ∀ k, k ≠ 2 → gR σB' k = gR σB k) (hM : ∀ k, k ≠ 2 → k ≠ 45 → (k < 61 ∨ 66 < k) → k ≠ 67 → k ≠ 68 → k ≠ 71 → gI σM' 0 k = gI σM 0 k) (hMA : ∀ k, (k < 46 ∨ 59 < k) → k ≠ 69 → k ≠ 70 → k ≠ 72 → gA σM' 0 k = gA σM 0 k) (hJ : gJ σM' 0 76 = gJ σM 0 76) (S : SR n 9999 9000 σB' 5 σM' 0) (P : PR np σB' 5 σM' 0) (N : NRK σB' 5 (gJ σM' 0 60)) (U : UNR n σB' σM') (E : SEE σB' σM') : REL0 t n np σB' σM' := by
  obtain ⟨h1, h2, h3, h4, h5, h6, ⟨L, a1, a2, a3, a4⟩, ⟨b1, b2⟩, ⟨c1, c2⟩, h9, h10, h11⟩ := R
  have e1 := tx_le t
  have e2 := lw_le t
  refine ⟨by rw [hR 0 (by omega)]; exact h1, by rw [hR 1 (by omega)]; exact h2, ?_, S, P, N, ⟨L, a1, ?_, ?_, fun i hi => ?_⟩, ⟨?_, ?_⟩, ⟨?_, ?_⟩, U, E, ?_⟩
  · exact h3.cg (hI _ (by omega) (by omega) (by omega) (by omega) (by omega) (by omega)) (by rw [hI _ (by omega) (by omega) (by omega) (by omega) (by omega) (by omega)]) (hA _ (by omega) (by omega) (by omega) (by omega) (by omega) (by omega)) (hA _ (by omega) (by omega) (by omega) (by omega) (by omega) (by omega)) (fun k k1 k2 => hM k (by omega) (by omega) (by omega) (by omega) (by omega) (by omega)) (fun k k1 k2 => hMA k (by omega) (by omega) (by omega) (by omega))
  · rw [hI 0 (by omega) (by omega) (by omega) (by omega) (by omega) (by omega)]; exact a2
  · rw [hM 1 (by omega) (by omega) (by omega) (by omega) (by omega) (by omega)]; exact a3
  · rw [hMA 0 (by omega) (by omega) (by omega) (by omega), hA 0 (by omega) (by omega) (by omega) (by omega) (by omega) (by omega)]; exact a4 i hi
  · rw [hI 0 (by omega) (by omega) (by omega) (by omega) (by omega) (by omega), hM 4 (by omega) (by omega) (by omega) (by omega) (by omega) (by omega)]; exact b1
  · rw [hI 0 (by omega) (by omega) (by omega) (by omega) (by omega) (by omega), hM 5 (by omega) (by omega) (by omega) (by omega) (by omega) (by omega)]; exact b2
  · rw [hI 0 (by omega) (by omega) (by omega) (by omega) (by omega) (by omega), hM 73 (by omega) (by omega) (by omega) (by omega) (by omega) (by omega)]; exact c1
  · rw [hI 0 (by omega) (by omega) (by omega) (by omega) (by omega) (by omega)]
    rcases c2 with c2 | ⟨c2, c3, c4, c5⟩
    · exact Or.inl c2
    · have eI : gA (imM σM') = gA (imM σM) := by
        unfold imM
        rw [hMA 74 (by omega) (by omega) (by omega) (by omega), hMA 75 (by omega) (by omega) (by omega) (by omega)]
        rfl
      have g8 := hI 8 (by omega) (by omega) (by omega) (by omega) (by omega) (by omega)
      have a8 := hA 8 (by omega) (by omega) (by omega) (by omega) (by omega) (by omega)
      refine Or.inr ⟨c2, c3.cg ⟨fun k _ => by rw [a8], fun k _ _ => by rw [g8]⟩ (agM.wG eI), c4.cg (by rw [a8]) (by rw [g8]) (fun p hp => by rw [eI]; exact ⟨rfl, rfl⟩), ?_⟩
      obtain ⟨k, d1, d2, d3⟩ := c5
      exact ⟨k, d1, by rw [g8]; exact d2, by rw [hJ]; exact d3⟩
  · rw [hMA 3 (by omega) (by omega) (by omega) (by omega)]; exact h11
/-- only what was seen has changed -/
theorem REL0.seen {t : Bool} {n np : Nat} {σB σM σB' σM' : St} (R : REL0 t n np σB σM) (hI : ∀ o, o ≠ 13 → gI σB' o = gI σB o) (hA : ∀ o, o ≠ 13 → gA σB' o = gA σB o) (hR : gR σB' = gR σB) (hM : ∀ k, k ≠ 67 → k ≠ 68 → gI σM' 0 k = gI σM 0 k) (hMA : ∀ k, k ≠ 69 → gA σM' 0 k = gA σM 0 k) (hJ : gJ σM' = gJ σM) (E : SEE σB' σM') : REL0 t n np σB' σM' := by
  have AB : agB 5 σB σB' := ⟨fun k _ => by rw [hA 5 (by omega)], fun k _ _ => by rw [hI 5 (by omega)]⟩
  have AM : agM n 0 σM σM' := ⟨fun k j _ _ k1 k2 _ => by rw [hMA k (by omega)], fun k k1 k2 => by rw [hMA k (by omega)]⟩
  refine R.bld (fun o _ _ _ _ h _ => hI o h) (fun o _ _ _ _ h _ => hA o h) (fun k _ => by rw [hR]) (fun k _ _ _ h1 h2 _ => hM k h1 h2) (fun k _ h _ _ => hMA k h) (by rw [hJ]) (R.2.2.2.1.cg AB AM) (R.2.2.2.2.1.cg (by rw [hA 5 (by omega)]) (by rw [hI 5 (by omega)]) (fun p hp => by rw [hMA 52 (by omega), hMA 53 (by omega)]; exact ⟨rfl, rfl⟩)) ?_ (R.2.2.2.2.2.2.2.2.2.1.cg ⟨AB, hA 12 (by omega)⟩ (by rw [hI 12 (by omega)]) AM (hMA 72 (by omega)) (hM 71 (by omega) (by omega))) E
  obtain ⟨k, d1, d2, d3⟩ := R.2.2.2.2.2.1
  exact ⟨k, d1, by rw [hI 5 (by omega)]; exact d2, by rw [hJ]; exact d3⟩
theorem add_eq {σ : St} {s : Nat} (k y v : Int32) (hs : s < 24) (h : gI σ 13 4 = nI s) : fX5_add σ k y v = some (nI s, sI (sA (sA (sA σ 13 0 s k) 13 1 s y) 13 2 s v) 13 4 (nI (s + 1))) := by
  unfold fX5_add
  rw [h, if_pos (show nI s < (24 : Int32) from (ltN (a := s) (b := 24) (by omega) (by omega)).mpr hs)]
  simp only [lt_eq, gIA, h, gdN (show s < 24 by omega) (show 24 ≤ 1000000 by omega), clN (show s < 1000000 by omega), gIe, nI_1, nI_pred]
theorem noted_eq {σ : St} {s : Nat} (k y v : Int32) (hs : s < 24) (h : gI σ 0 67 = nI s) : fX10_noted σ k y v = some (nI s, sI (sA (sA (sA σ 0 69 (3 * s) k) 0 69 (3 * s + 1) y) 0 69 (3 * s + 2) v) 0 67 (nI (s + 1))) := by
  have e31 : nI (3 * s) + 1 = nI (3 * s + 1) := nI_1 _
  have e32 : nI (3 * s) + 2 = nI (3 * s + 2) := by rw [show (2 : Int32) = nI 2 from rfl, nI_add]
  unfold fX10_noted
  simp only [lt_eq, gIA, h, three, e31, e32, gdN (show 3 * s < 72 by omega) (show 72 ≤ 1000000 by omega), gdN (show 3 * s + 1 < 72 by omega) (show 72 ≤ 1000000 by omega), gdN (show 3 * s + 2 < 72 by omega) (show 72 ≤ 1000000 by omega), clN (show 3 * s < 1000000 by omega), clN (show 3 * s + 1 < 1000000 by omega), clN (show 3 * s + 2 < 1000000 by omega), gIe, nI_1, nI_pred]
/-- one more is seen -/
theorem seen_add {t : Bool} {n np s : Nat} {σB σM : St} (R : REL0 t n np σB σM) (hs : s < 24) (h1 : gI σB 13 4 = nI s) (h2 : gI σM 0 67 = nI s) (k y v k' y' v' : Int32) (hnew : (k = 2 ∧ k' = -1 ∧ v' = 0 ∧ ∃ q, q < s ∧ v = nI q ∧ y' = nI q) ∨ ((k = 0 ∨ k = 1) ∧ v' = k ∧ y' = v ∧ ∃ q, 1 ≤ q ∧ q ≤ 99 ∧ y = nI q ∧ k' = nI q)) : REL0 t n np (sI (sA (sA (sA σB 13 0 s k) 13 1 s y) 13 2 s v) 13 4 (nI (s + 1))) (sI (sA (sA (sA σM 0 69 (3 * s) k') 0 69 (3 * s + 1) y') 0 69 (3 * s + 2) v') 0 67 (nI (s + 1))) := by
  refine R.seen (fun o ho => ?_) (fun o ho => ?_) rfl (fun q q1 q2 => ?_) (fun q hq => ?_) rfl ?_
  · funext q
    rw [gIo ho]
    rfl
  · funext q
    simp (disch := assumption) only [gAI, sA, gAo]
  · rw [gIn q1]
    rfl
  · simp (disch := assumption) only [gAI, sA, gAn]
  · obtain ⟨s', s1, s2, s3, s4, s5, s6⟩ := R.2.2.2.2.2.2.2.2.2.2.1
    have e : s' = s := (nI_eq (by omega) (by omega)).mp (s2.symm.trans h1)
    subst e
    have b0 : gA (sI (sA (sA (sA σB 13 0 s' k) 13 1 s' y) 13 2 s' v) 13 4 (nI (s' + 1))) 13 0 = upd (gA σB 13 0) s' k := by simp (disch := omega) only [gAI, sA, gAn, gAe]
    have b1 : gA (sI (sA (sA (sA σB 13 0 s' k) 13 1 s' y) 13 2 s' v) 13 4 (nI (s' + 1))) 13 1 = upd (gA σB 13 1) s' y := by simp (disch := omega) only [gAI, sA, gAn, gAe]
    have b2 : gA (sI (sA (sA (sA σB 13 0 s' k) 13 1 s' y) 13 2 s' v) 13 4 (nI (s' + 1))) 13 2 = upd (gA σB 13 2) s' v := by simp (disch := omega) only [gAI, sA, gAn, gAe]
    have m9 : gA (sI (sA (sA (sA σM 0 69 (3 * s') k') 0 69 (3 * s' + 1) y') 0 69 (3 * s' + 2) v') 0 67 (nI (s' + 1))) 0 69 = upd (upd (upd (gA σM 0 69) (3 * s') k') (3 * s' + 1) y') (3 * s' + 2) v' := by simp (disch := omega) only [gAI, sA, gAe]
    have k5 : gI (sI (sA (sA (sA σB 13 0 s' k) 13 1 s' y) 13 2 s' v) 13 4 (nI (s' + 1))) 13 5 = gI σB 13 5 := gIn (by omega)
    refine ⟨s' + 1, by omega, gIe _ _ _ _, gIe _ _ _ _, ?_, ?_, fun i hi => ?_⟩
    · rw [k5, gIn (by omega)]
      exact s4
    · rw [k5]
      rcases s5 with s5 | ⟨q, hq, s5⟩
      · exact Or.inl s5
      · exact Or.inr ⟨q, by omega, s5⟩
    · unfold seR
      rw [b0, b1, b2, m9]
      simp only [upd_at]
      by_cases e : i = s'
      · subst e
        simp only [if_true, if_neg (show ¬ 3 * i = 3 * i + 2 by omega), if_neg (show ¬ 3 * i = 3 * i + 1 by omega), if_neg (show ¬ 3 * i + 1 = 3 * i + 2 by omega)]
        exact hnew
      · simp only [if_neg e, if_neg (show ¬ 3 * i = 3 * s' + 2 by omega), if_neg (show ¬ 3 * i = 3 * s' + 1 by omega), if_neg (show ¬ 3 * i = 3 * s' by omega), if_neg (show ¬ 3 * i + 1 = 3 * s' + 2 by omega), if_neg (show ¬ 3 * i + 1 = 3 * s' + 1 by omega), if_neg (show ¬ 3 * i + 1 = 3 * s' by omega), if_neg (show ¬ 3 * i + 2 = 3 * s' + 2 by omega), if_neg (show ¬ 3 * i + 2 = 3 * s' + 1 by omega), if_neg (show ¬ 3 * i + 2 = 3 * s' by omega)]
        exact s6 i (by omega)
theorem add_full {σ : St} (k y v : Int32) (h : gI σ 13 4 = nI 24) : fX5_add σ k y v = some (-1, σ) := by
  unfold fX5_add
  rw [h, if_neg (show ¬ nI 24 < (24 : Int32) by decide)]
theorem st34 : ST34 REL := by
  rintro σB σM a0 a1 a2 hz ⟨t, n, np, R⟩
  have R0 := R.th
  unfold fX9_see fX10_see
  simp only [lt_eq, jnx1_eq, jnx2_eq, isWithin_eq, isInM_eq, bS, ifi0]
  generalize sI σM 0 2 0 = σ1 at *
  obtain ⟨s, s1, s2, s3, -⟩ := (show SEE σB σ1 from R0.2.2.2.2.2.2.2.2.2.2.1)
  rw [s3]
  by_cases c0 : (1 : Int32) ≤ a0 ∧ a0 ≤ 99
  · rw [if_pos c0, if_pos c0]
    by_cases c1 : (0 : Int32) ≤ a1 ∧ a1 ≤ 9999
    · rw [if_pos c1, if_pos c1]
      obtain ⟨y, hy1, hy2, rfl⟩ := in_nat 1 99 c0 (by omega) (by omega)
      by_cases c2 : s = 24
      · subst c2
        rw [if_pos (show nI 24 = 24 from rfl), add_full _ _ _ s2, add_full _ _ _ s2, bIs]
        split <;> exact SIM.ret ⟨rfl, R0.r⟩
      · rw [if_neg (show ¬ nI s = 24 from fun z => c2 ((eqN (a := s) (b := 24) (by omega) (by omega)).mp z))]
        by_cases d : a2 = 0
        · rw [if_pos d, if_pos d, add_eq _ _ _ (by omega) s2, noted_eq _ _ _ (by omega) s3, bIs, bIs]
          exact SIM.ret ⟨rfl, (seen_add R0 (by omega) s2 s3 0 (nI y) a1 (nI y) a1 0 (Or.inr ⟨Or.inl rfl, rfl, rfl, y, hy1, hy2, rfl, rfl⟩)).r⟩
        · rw [if_neg d, if_neg d, add_eq _ _ _ (by omega) s2, noted_eq _ _ _ (by omega) s3, bIs, bIs]
          exact SIM.ret ⟨rfl, (seen_add R0 (by omega) s2 s3 1 (nI y) a1 (nI y) a1 1 (Or.inr ⟨Or.inr rfl, rfl, rfl, y, hy1, hy2, rfl, rfl⟩)).r⟩
    · rw [if_neg c1, if_neg c1]
      split <;> exact SIM.ret ⟨rfl, R0.r⟩
  · rw [if_neg c0, if_neg c0]
    split <;> exact SIM.ret ⟨rfl, R0.r⟩
theorem st35 : ST35 REL := by
  rintro σB σM a0 ⟨t, n, np, R⟩
  have R0 := R.th
  unfold fX9_strike fX10_strike
  simp only [lt_eq, jnx1_eq, jnx2_eq]
  generalize sI σM 0 2 0 = σ1 at *
  obtain ⟨s, s1, s2, s3, -⟩ := (show SEE σB σ1 from R0.2.2.2.2.2.2.2.2.2.2.1)
  rw [s3, s2]
  by_cases c0 : a0 < 0
  · rw [if_pos c0, if_pos c0]
    split <;> exact SIM.ret ⟨rfl, R0.r⟩
  · rw [if_neg c0, if_neg c0]
    by_cases c1 : a0 < nI s
    · rw [if_pos c1, if_pos c1]
      obtain ⟨q, hq, rfl⟩ : ∃ k, k < s ∧ a0 = nI k := by
        have h0 : (0 : Int32).toInt = 0 := rfl
        rw [i32lt] at c0 c1
        rw [nI_toInt (by omega)] at c1
        exact i32_nat (by omega) (by omega) (by omega)
      by_cases c2 : s = 24
      · subst c2
        rw [if_pos (show nI 24 = 24 from rfl), add_full _ _ _ s2, bIs]
        exact SIM.ret ⟨rfl, R0.r⟩
      · rw [if_neg (show ¬ nI s = 24 from fun z => c2 ((eqN (a := s) (b := 24) (by omega) (by omega)).mp z)), add_eq _ _ _ (by omega) s2, noted_eq _ _ _ (by omega) s3, bIs, bIs]
        exact SIM.ret ⟨rfl, (seen_add R0 (by omega) s2 s3 2 0 (nI q) (-1) (nI q) 0 (Or.inl ⟨rfl, rfl, rfl, q, hq, rfl, rfl⟩)).r⟩
    · rw [if_neg c1, if_neg c1]
      split <;> exact SIM.ret ⟨rfl, R0.r⟩
theorem st36 : ST36 REL := by
  rintro σB σM a0 ⟨t, n, np, R⟩
  have R0 := R.th
  unfold fX9_known fX10_known
  simp only [lt_eq, isWithin_eq, isInM_eq, bS, ifi0]
  generalize sI σM 0 2 0 = σ1 at *
  obtain ⟨s, s1, s2, s3, s4, s5, s6⟩ := (show SEE σB σ1 from R0.2.2.2.2.2.2.2.2.2.2.1)
  rw [s3, s2]
  by_cases c0 : (-1 : Int32) ≤ a0 ∧ a0 ≤ nI s
  · rw [if_pos c0, if_pos c0]
    refine SIM.ret ⟨rfl, (R0.seen (σB' := sI σB 13 5 a0) (σM' := sI σ1 0 68 a0) (fun o ho => ?_) (fun _ _ => rfl) rfl (fun k _ hk => gIn hk) (fun _ _ => rfl) rfl ?_).r⟩
    · funext k
      exact gIo ho
    · refine ⟨s, s1, by rw [gIn (by omega)]; exact s2, by rw [gIn (by omega)]; exact s3, by rw [gIe, gIe], ?_, s6⟩
      rw [gIe]
      by_cases d : a0 = -1
      · exact Or.inl d
      · right
        obtain ⟨d1, d2⟩ := c0
        rw [i32le] at d1 d2
        rw [i32eq] at d
        have e1 : (-1 : Int32).toInt = -1 := rfl
        rw [nI_toInt (by omega)] at d2
        obtain ⟨k, hk, e⟩ := i32_nat (x := a0) (N := s + 1) (by omega) (by omega) (by omega)
        exact ⟨k, by omega, e⟩
  · rw [if_neg c0, if_neg c0]
    exact SIM.ret ⟨rfl, R0.r⟩
