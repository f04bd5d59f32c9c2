/-! THE WHOLE RELATION -/
def PR (np : Nat) (σB : St) (o : Nat) (σM : St) (b : Nat) : Prop :=
  (∀ p, p < np → gA σB o 5 p = gA σM 0 52 (6 * b + p)) ∧
  (∃ m, m < 2 ^ np ∧ gI σB o 7 = nI m ∧ ∀ p, p < np → gA σM 0 53 (6 * b + p) = if m.testBit p then 1 else 0) ∧ rngN (gA σB o 5) np 0 99
theorem PR.cg {np o b : Nat} {σB σM σB' σM' : St} (h : PR np σB o σM b) (hA : gA σB' o 5 = gA σB o 5) (hI : gI σB' o 7 = gI σB o 7) (hM : ∀ p, p < np → gA σM' 0 52 (6 * b + p) = gA σM 0 52 (6 * b + p) ∧ gA σM' 0 53 (6 * b + p) = gA σM 0 53 (6 * b + p)) : PR np σB' o σM' b := by
  obtain ⟨h1, ⟨m, h2, h3, h4⟩, h5⟩ := h
  refine ⟨fun p hp => ?_, ⟨m, h2, ?_, fun p hp => ?_⟩, ?_⟩
  · rw [hA, (hM p hp).1]; exact h1 p hp
  · rw [hI]; exact h3
  · rw [(hM p hp).2]; exact h4 p hp
  · rw [hA]; exact h5
def bytN (c : Nat) : Int32 := if c < 128 then nI c else nI c - 256
def TPR (σB σM : St) : Prop := ∃ L, L ≤ 700 ∧ gI σB 0 1 = nI L ∧ gI σM 0 1 = nI L ∧ ∀ i, i < 700 → ∃ c, c < 256 ∧ gA σM 0 0 i = nI c ∧ gA σB 0 0 i = bytN c
def FLT (σB σM : St) : Prop := gI σB 0 5 = gI σM 0 4 ∧ gI σB 0 6 = gI σM 0 5
def NRK (σB : St) (o : Nat) (x : Int64) : Prop := ∃ k, 0 ≤ k ∧ gI σB o 13 = nI k ∧ x = lN k
/-- the reference's image as a slot -/
def imM (σ : St) : St := (gI σ, (fun _ k j => if k = 46 then gA σ 0 74 j else if k = 47 then gA σ 0 75 j else if k = 48 then gA σ 0 74 (6 + j) else if k = 49 then gA σ 0 74 (12 + j) else if k = 50 then gA σ 0 74 (18 + j) else if k = 51 then gA σ 0 74 (24 + j) else if k = 52 then gA σ 0 75 (6 + j) else if k = 53 then gA σ 0 75 (12 + j) else if k = 54 then gA σ 0 74 30 else if k = 55 then gA σ 0 74 31 else if k = 56 then gA σ 0 74 32 else if k = 57 then gA σ 0 75 18 else if k = 58 then gA σ 0 75 19 else if k = 59 then gA σ 0 75 20 else 0), gL σ, gJ σ, gR σ)
def IMR (n np : Nat) (σB σM : St) : Prop := gI σB 0 11 = gI σM 0 73 ∧ (gI σB 0 11 = 0 ∨ (gI σB 0 11 = 1 ∧ SR n 9999 9000 σB 8 (imM σM) 0 ∧ PR np σB 8 (imM σM) 0 ∧ NRK σB 8 (gJ σM 0 76)))
/-- what takeBack writes -/
def tbw (σ : St) (r : Nat) : St := sI (sI (sI (sI (sA (sA (sA (sA σ 5 0 (gA σ 12 0 (9 * r)).toNatClampNeg (gA σ 12 0 (9 * r + 1))) 5 2 (gA σ 12 0 (9 * r)).toNatClampNeg (gA σ 12 0 (9 * r + 2))) 5 3 (gA σ 12 0 (9 * r)).toNatClampNeg (gA σ 12 0 (9 * r + 3))) 5 4 (gA σ 12 0 (9 * r)).toNatClampNeg (gA σ 12 0 (9 * r + 4))) 5 6 (gA σ 12 0 (9 * r + 5))) 5 9 (gA σ 12 0 (9 * r + 6))) 5 10 (gA σ 12 0 (9 * r + 7))) 5 11 (gA σ 12 0 (9 * r + 8))
theorem tbw_gA (σ : St) (r k : Nat) : gA (tbw σ r) 5 k = if k = 0 then upd (gA σ 5 0) (gA σ 12 0 (9 * r)).toNatClampNeg (gA σ 12 0 (9 * r + 1)) else if k = 2 then upd (gA σ 5 2) (gA σ 12 0 (9 * r)).toNatClampNeg (gA σ 12 0 (9 * r + 2)) else if k = 3 then upd (gA σ 5 3) (gA σ 12 0 (9 * r)).toNatClampNeg (gA σ 12 0 (9 * r + 3)) else if k = 4 then upd (gA σ 5 4) (gA σ 12 0 (9 * r)).toNatClampNeg (gA σ 12 0 (9 * r + 4)) else gA σ 5 k := by
  unfold tbw sA
  simp only [gAI]
  by_cases h4 : k = 4
  · subst h4
    rw [gAe, gAn (by omega), gAn (by omega), gAn (by omega)]
    rfl
  · rw [gAn h4]
    by_cases h3 : k = 3
    · subst h3
      rw [gAe, gAn (by omega), gAn (by omega)]
      rfl
    · rw [gAn h3]
      by_cases h2 : k = 2
      · subst h2
        rw [gAe, gAn (by omega)]
        rfl
      · rw [gAn h2]
        by_cases h0 : k = 0
        · subst h0
          rw [gAe]
          rfl
        · rw [gAn h0, if_neg h0, if_neg h2, if_neg h3, if_neg h4]
theorem tbw_gI (σ : St) (r k : Nat) : gI (tbw σ r) 5 k = if k = 6 then gA σ 12 0 (9 * r + 5) else if k = 9 then gA σ 12 0 (9 * r + 6) else if k = 10 then gA σ 12 0 (9 * r + 7) else if k = 11 then gA σ 12 0 (9 * r + 8) else gI σ 5 k := by
  unfold tbw sA
  by_cases h4 : k = 11
  · subst h4
    rw [gIe]
    rfl
  · rw [gIn h4]
    by_cases h3 : k = 10
    · subst h3
      rw [gIe]
      rfl
    · rw [gIn h3]
      by_cases h2 : k = 9
      · subst h2
        rw [gIe]
        rfl
      · rw [gIn h2]
        by_cases h0 : k = 6
        · subst h0
          rw [gIe]
          rfl
        · rw [gIn h0, if_neg h0, if_neg h2, if_neg h3, if_neg h4]
          simp only [gIA]
theorem tbw_rows (σ : St) (r : Nat) : gA (tbw σ r) 12 = gA σ 12 := by
  unfold tbw sA
  funext k
  simp only [gAI]
  rw [gAo (by omega), gAo (by omega), gAo (by omega), gAo (by omega)]
/-- the class, d calls undone of s -/
def tbs (σ : St) (s : Nat) : Nat → St
  | 0 => σ
  | d + 1 => tbw (tbs σ s d) (s - (d + 1))
def eqU (σ σ' : St) : Prop := agB 5 σ σ' ∧ gA σ' 12 = gA σ 12
theorem eqU.tbw {σ σ' : St} (h : eqU σ σ') (r : Nat) : eqU (tbw σ r) (tbw σ' r) := by
  obtain ⟨⟨h1, h2⟩, h3⟩ := h
  refine ⟨⟨fun k hk => ?_, fun k k1 k2 => ?_⟩, ?_⟩
  · rw [tbw_gA, tbw_gA, h3, h1 0 (by omega), h1 2 (by omega), h1 3 (by omega), h1 4 (by omega), h1 k hk]
  · rw [tbw_gI, tbw_gI, h3, h2 k k1 k2]
  · rw [tbw_rows, tbw_rows, h3]
theorem eqU.tbs {σ σ' : St} (h : eqU σ σ') (s : Nat) : ∀ d, eqU (tbs σ s d) (tbs σ' s d)
  | 0 => h
  | d + 1 => (eqU.tbs h s d).tbw _
/-- the reference's row r as a slot -/
def rowM (σ : St) (r : Nat) : St := (gI σ, (fun o k j => if k = 46 then gA σ 0 72 (33 * r + j) else if k = 48 then gA σ 0 72 (33 * r + 6 + j) else if k = 49 then gA σ 0 72 (33 * r + 12 + j) else if k = 50 then gA σ 0 72 (33 * r + 18 + j) else if k = 51 then gA σ 0 72 (33 * r + 24 + j) else if k = 54 then gA σ 0 72 (33 * r + 30) else if k = 55 then gA σ 0 72 (33 * r + 31) else if k = 56 then gA σ 0 72 (33 * r + 32) else gA σ o k j), gL σ, gJ σ, gR σ)
def vuM (σ : St) (s d : Nat) : St := if d = 0 then σ else rowM σ (s - d)
def UNR (n : Nat) (σB σM : St) : Prop := ∃ s, s ≤ 20 ∧ gI σB 12 1 = nI s ∧ gI σM 0 71 = nI s ∧ ∀ d, d ≤ s → SR n 9999 9000 (tbs σB s d) 5 (vuM σM s d) 0 ∧ (0 < d → ∃ h, h < n ∧ gA σB 12 0 (9 * (s - d)) = nI h)
theorem vuM_ag {n : Nat} {σ σ' : St} (h : agM n 0 σ σ') (h72 : gA σ' 0 72 = gA σ 0 72) (s d : Nat) : agM n 0 (vuM σ s d) (vuM σ' s d) := by
  unfold vuM
  split
  · exact h
  · obtain ⟨h1, h2⟩ := h
    refine ⟨fun k j k1 k2 k3 k4 hj => ?_, fun k k1 k2 => ?_⟩
    · show (if k = 46 then gA σ' 0 72 (33 * (s - d) + (6 * 0 + j)) else if k = 48 then gA σ' 0 72 (33 * (s - d) + 6 + (6 * 0 + j)) else if k = 49 then gA σ' 0 72 (33 * (s - d) + 12 + (6 * 0 + j)) else if k = 50 then gA σ' 0 72 (33 * (s - d) + 18 + (6 * 0 + j)) else if k = 51 then gA σ' 0 72 (33 * (s - d) + 24 + (6 * 0 + j)) else if k = 54 then gA σ' 0 72 (33 * (s - d) + 30) else if k = 55 then gA σ' 0 72 (33 * (s - d) + 31) else if k = 56 then gA σ' 0 72 (33 * (s - d) + 32) else gA σ' 0 k (6 * 0 + j)) = _
      rw [h72, h1 k j k1 k2 k3 k4 hj]
      rfl
    · show (if k = 46 then gA σ' 0 72 (33 * (s - d) + 0) else if k = 48 then gA σ' 0 72 (33 * (s - d) + 6 + 0) else if k = 49 then gA σ' 0 72 (33 * (s - d) + 12 + 0) else if k = 50 then gA σ' 0 72 (33 * (s - d) + 18 + 0) else if k = 51 then gA σ' 0 72 (33 * (s - d) + 24 + 0) else if k = 54 then gA σ' 0 72 (33 * (s - d) + 30) else if k = 55 then gA σ' 0 72 (33 * (s - d) + 31) else if k = 56 then gA σ' 0 72 (33 * (s - d) + 32) else gA σ' 0 k 0) = _
      rw [h72, h2 k k1 k2]
      rfl
theorem UNR.cg {n : Nat} {σB σM σB' σM' : St} (h : UNR n σB σM) (hB : eqU σB σB') (hs : gI σB' 12 1 = gI σB 12 1) (hM : agM n 0 σM σM') (h72 : gA σM' 0 72 = gA σM 0 72) (h71 : gI σM' 0 71 = gI σM 0 71) : UNR n σB' σM' := by
  obtain ⟨s, s1, s2, s3, s4⟩ := h
  refine ⟨s, s1, by rw [hs]; exact s2, by rw [h71]; exact s3, fun d hd => ?_⟩
  obtain ⟨q1, q2⟩ := s4 d hd
  refine ⟨q1.cg (hB.tbs s d).1 (vuM_ag hM h72 s d), ?_⟩
  rw [hB.2]
  exact q2
/-- what was seen -/
def seR (σB σM : St) (i : Nat) : Prop :=
  (gA σB 13 0 i = 2 ∧ gA σM 0 69 (3 * i) = -1 ∧ gA σM 0 69 (3 * i + 2) = 0 ∧ ∃ v, v < i ∧ gA σB 13 2 i = nI v ∧ gA σM 0 69 (3 * i + 1) = nI v) ∨
  ((gA σB 13 0 i = 0 ∨ gA σB 13 0 i = 1) ∧ gA σM 0 69 (3 * i + 2) = gA σB 13 0 i ∧ gA σM 0 69 (3 * i + 1) = gA σB 13 2 i ∧ ∃ y, 1 ≤ y ∧ y ≤ 99 ∧ gA σB 13 1 i = nI y ∧ gA σM 0 69 (3 * i) = nI y)
def SEE (σB σM : St) : Prop := ∃ s, s ≤ 24 ∧ gI σB 13 4 = nI s ∧ gI σM 0 67 = nI s ∧ gI σB 13 5 = gI σM 0 68 ∧ (gI σB 13 5 = -1 ∨ ∃ k, k ≤ s ∧ gI σB 13 5 = nI k) ∧ ∀ i, i < s → seR σB σM i
theorem SEE.cg {σB σM σB' σM' : St} (h : SEE σB σM) (hB : ∀ k, k < 3 → gA σB' 13 k = gA σB 13 k) (hI : gI σB' 13 = gI σB 13) (hM : gA σM' 0 69 = gA σM 0 69) (h67 : gI σM' 0 67 = gI σM 0 67) (h68 : gI σM' 0 68 = gI σM 0 68) : SEE σB' σM' := by
  unfold SEE seR at *
  rw [hB 0 (by omega), hB 1 (by omega), hB 2 (by omega), hI, hM, h67, h68]
  exact h
def REL0 (t : Bool) (n np : Nat) (σB σM : St) : Prop := gR σB 0 = t ∧ gR σB 1 = !t ∧ TX t n np σB σM ∧ SR n 9999 9000 σB 5 σM 0 ∧ PR np σB 5 σM 0 ∧ NRK σB 5 (gJ σM 0 60) ∧ TPR σB σM ∧ FLT σB σM ∧ IMR n np σB σM ∧ UNR n σB σM ∧ SEE σB σM ∧ gA σM 0 3 = wordsU
def REL (σB σM : St) : Prop := ∃ t n np, REL0 t n np σB σM
/-! what a question may change -/
def qB (σ σ' : St) : Prop := (∀ o, o ≠ 6 → o ≠ 7 → o ≠ 14 → gI σ' o = gI σ o) ∧ (∀ o k, o ≠ 6 → o ≠ 7 → o ≠ 14 → ¬ (o = 13 ∧ k = 3) → gA σ' o k = gA σ o k) ∧ (∀ k, k ≠ 2 → gR σ' k = gR σ k)
def qM (σ σ' : St) : Prop := (∀ k, k ≠ 2 → k ≠ 45 → (k < 61 ∨ 66 < k) → gI σ' 0 k = gI σ 0 k) ∧ (∀ k, (k < 46 ∨ 59 < k) → k ≠ 70 → gA σ' 0 k = gA σ 0 k) ∧ (∀ k j, 46 ≤ k → k ≤ 53 → j < 6 → gA σ' 0 k j = gA σ 0 k j) ∧ (∀ k, 54 ≤ k → k ≤ 59 → gA σ' 0 k 0 = gA σ 0 k 0) ∧ gJ σ' 0 60 = gJ σ 0 60 ∧ gJ σ' 0 76 = gJ σ 0 76
theorem qB.rf (σ : St) : qB σ σ := ⟨fun _ _ _ _ => rfl, fun _ _ _ _ _ _ => rfl, fun _ _ => rfl⟩
theorem qM.rf (σ : St) : qM σ σ := ⟨fun _ _ _ _ => rfl, fun _ _ _ => rfl, fun _ _ _ _ _ => rfl, fun _ _ _ => rfl, rfl, rfl⟩
theorem qB.tr {a b c : St} (h : qB a b) (k : qB b c) : qB a c := ⟨fun o h1 h2 h3 => (k.1 o h1 h2 h3).trans (h.1 o h1 h2 h3), fun o x h1 h2 h3 h4 => (k.2.1 o x h1 h2 h3 h4).trans (h.2.1 o x h1 h2 h3 h4), fun x h1 => (k.2.2 x h1).trans (h.2.2 x h1)⟩
theorem qM.tr {a b c : St} (h : qM a b) (k : qM b c) : qM a c := ⟨fun x h1 h2 h3 => (k.1 x h1 h2 h3).trans (h.1 x h1 h2 h3), fun x h1 h2 => (k.2.1 x h1 h2).trans (h.2.1 x h1 h2), fun x j h1 h2 h3 => (k.2.2.1 x j h1 h2 h3).trans (h.2.2.1 x j h1 h2 h3), fun x h1 h2 => (k.2.2.2.1 x h1 h2).trans (h.2.2.2.1 x h1 h2), k.2.2.2.2.1.trans h.2.2.2.2.1, k.2.2.2.2.2.trans h.2.2.2.2.2⟩
theorem qB.fr {o : Nat} {σ σ' : St} (ho : o = 6 ∨ o = 7) (h : frB o σ σ') : qB σ σ' := ⟨fun o' h1 h2 _ => h.1 o' (by omega), fun o' k h1 h2 _ _ => by rw [h.2.1 o' (by omega)], fun k _ => by rw [h.2.2.1]⟩
theorem qM.fr {σ σ' : St} (h : frM 1 σ σ') (hj : gJ σ' 0 60 = gJ σ 0 60) : qM σ σ' := ⟨fun k h1 h2 h3 => h.1 k (by omega) (by omega), fun k h1 _ => h.2.1 k h1, fun k j h1 h2 h3 => h.2.2.1 k j h1 h2 (by omega), fun k h1 h2 => h.2.2.2.1 k 0 h1 h2 (by omega), hj, h.2.2.2.2 76 (by omega)⟩
theorem qM.sI (σ : St) (k : Nat) (x : Int32) (hk : k = 2 ∨ k = 45 ∨ (61 ≤ k ∧ k ≤ 66)) : qM σ (sI σ 0 k x) := ⟨fun k' h1 h2 h3 => gIn (by omega), fun _ _ _ => rfl, fun _ _ _ _ _ => rfl, fun _ _ _ => rfl, rfl, rfl⟩
theorem REL0.q {t : Bool} {n np : Nat} {σB σM σB' σM' : St} (h : REL0 t n np σB σM) (hB : qB σB σB') (hM : qM σM σM') : REL0 t n np σB' σM' := by
  obtain ⟨h1, h2, h3, h4, h5, ⟨k, h6, h7, h8⟩, ⟨L, a1, a2, a3, a4⟩, ⟨b1, b2⟩, ⟨c1, c2⟩, h9, h10, h11⟩ := h
  obtain ⟨B1, B2, B3⟩ := hB
  obtain ⟨M1, M2, M3, M4, M5, M6⟩ := hM
  have e1 := tx_le t
  have e2 := lw_le t
  have hn6 := h3.n6
  have hp6 := h3.p6
  have AB : agB 5 σB σB' := ⟨fun k _ => B2 5 k (by omega) (by omega) (by omega) (by omega), fun k _ _ => by rw [B1 5 (by omega) (by omega) (by omega)]⟩
  have AM : agM n 0 σM σM' := ⟨fun k j _ _ k1 k2 hj => M3 k _ k1 k2 (by omega), fun k k1 k2 => M4 k k1 k2⟩
  refine ⟨by rw [B3 0 (by omega)]; exact h1, by rw [B3 1 (by omega)]; exact h2, ?_, h4.cg AB AM, ?_, ⟨k, h6, ?_, ?_⟩, ⟨L, a1, ?_, ?_, fun i hi => ?_⟩, ⟨?_, ?_⟩, ⟨?_, ?_⟩, ?_, ?_, ?_⟩
  · refine h3.cg (B1 _ (by omega) (by omega) (by omega)) (by rw [B1 _ (by omega) (by omega) (by omega)]) ?_ ?_ (fun k k1 k2 => M1 k (by omega) (by omega) (by omega)) (fun k k1 k2 => M2 k (by omega) (by omega))
    · funext k
      exact B2 _ k (by omega) (by omega) (by omega) (by omega)
    · funext k
      exact B2 _ k (by omega) (by omega) (by omega) (by omega)
  · exact h5.cg (B2 5 5 (by omega) (by omega) (by omega) (by omega)) (by rw [B1 5 (by omega) (by omega) (by omega)]) (fun p hp => ⟨M3 52 _ (by omega) (by omega) (by omega), M3 53 _ (by omega) (by omega) (by omega)⟩)
  · rw [B1 5 (by omega) (by omega) (by omega)]; exact h7
  · rw [M5]; exact h8
  · rw [B1 0 (by omega) (by omega) (by omega)]; exact a2
  · rw [M1 1 (by omega) (by omega) (by omega)]; exact a3
  · rw [M2 0 (by omega) (by omega), B2 0 0 (by omega) (by omega) (by omega) (by omega)]; exact a4 i hi
  · rw [B1 0 (by omega) (by omega) (by omega), M1 4 (by omega) (by omega) (by omega)]; exact b1
  · rw [B1 0 (by omega) (by omega) (by omega), M1 5 (by omega) (by omega) (by omega)]; exact b2
  · rw [B1 0 (by omega) (by omega) (by omega), M1 73 (by omega) (by omega) (by omega)]; exact c1
  · rw [B1 0 (by omega) (by omega) (by omega)]
    rcases c2 with c2 | ⟨c2, c3, c4, c5⟩
    · exact Or.inl c2
    · have eI : gA (imM σM') = gA (imM σM) := by
        unfold imM
        rw [M2 74 (by omega) (by omega), M2 75 (by omega) (by omega)]
        rfl
      refine Or.inr ⟨c2, c3.cg ⟨fun k _ => B2 8 k (by omega) (by omega) (by omega) (by omega), fun k _ _ => by rw [B1 8 (by omega) (by omega) (by omega)]⟩ (agM.wG eI), c4.cg (B2 8 5 (by omega) (by omega) (by omega) (by omega)) (by rw [B1 8 (by omega) (by omega) (by omega)]) (fun p hp => by rw [eI]; exact ⟨rfl, rfl⟩), ?_⟩
      obtain ⟨k, d1, d2, d3⟩ := c5
      exact ⟨k, d1, by rw [B1 8 (by omega) (by omega) (by omega)]; exact d2, by rw [M6]; exact d3⟩
  · refine h9.cg ⟨AB, ?_⟩ (by rw [B1 12 (by omega) (by omega) (by omega)]) AM (M2 72 (by omega) (by omega)) (M1 71 (by omega) (by omega) (by omega))
    funext k
    exact B2 12 k (by omega) (by omega) (by omega) (by omega)
  · exact h10.cg (fun k hk => B2 13 k (by omega) (by omega) (by omega) (by omega)) (B1 13 (by omega) (by omega) (by omega)) (M2 69 (by omega) (by omega)) (M1 67 (by omega) (by omega) (by omega)) (M1 68 (by omega) (by omega) (by omega))
  · rw [M2 3 (by omega) (by omega)]; exact h11
theorem REL0.r {t : Bool} {n np : Nat} {σB σM : St} (h : REL0 t n np σB σM) : REL σB σM := ⟨t, n, np, h⟩
