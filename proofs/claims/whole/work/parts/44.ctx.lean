/-! THE TEXT of both sides -/
def TX (t : Bool) (n np : Nat) (σB σM : St) : Prop :=
  n ≤ 6 ∧ np ≤ 6 ∧ gI σB (tx t) 1 = nI n ∧ gI σM 0 12 = nI n ∧ gI σB (tx t) 8 = nI np ∧ gI σM 0 13 = nI np ∧ gI σB (lw t) 4 = gI σM 0 14 ∧
  (∀ k, 2 ≤ k → k ≤ 7 → ∀ j, j < n → gA σB (tx t) k j = gA σM 0 (18 + k) j) ∧
  (∀ k, 9 ≤ k → k ≤ 11 → ∀ j, j < np → gA σB (tx t) k j = gA σM 0 (17 + k) j) ∧
  (∀ k, k < 3 → gI σB (tx t) (12 + k) = gA σM 0 19 k) ∧
  (∀ w, w < 3 → lawR σB σM t w) ∧
  rngN (gA σM 0 21) n 0 999 ∧ rngN (gA σM 0 22) n 0 999 ∧ rngN (gA σM 0 23) n 1 99 ∧ rngN (gA σM 0 24) n 0 99 ∧ rngN (gA σM 0 25) n 0 9 ∧
  rngN (gA σM 0 27) np 1 99 ∧ rngN (gA σM 0 28) np 0 99 ∧
  (∃ v, 1 ≤ v ∧ v ≤ 20 ∧ gA σM 0 19 0 = nI v) ∧ (∃ v, v ≤ 999 ∧ gA σM 0 19 1 = nI v) ∧ (∃ v, v ≤ 99999 ∧ gA σM 0 19 2 = nI v)
theorem TX.n6 {t n np σB σM} (h : TX t n np σB σM) : n ≤ 6 := h.1
theorem TX.p6 {t n np σB σM} (h : TX t n np σB σM) : np ≤ 6 := h.2.1
theorem TX.hB {t n np σB σM} (h : TX t n np σB σM) : gI σB (tx t) 1 = nI n := h.2.2.1
theorem TX.hM {t n np σB σM} (h : TX t n np σB σM) : gI σM 0 12 = nI n := h.2.2.2.1
theorem TX.pB {t n np σB σM} (h : TX t n np σB σM) : gI σB (tx t) 8 = nI np := h.2.2.2.2.1
theorem TX.pM {t n np σB σM} (h : TX t n np σB σM) : gI σM 0 13 = nI np := h.2.2.2.2.2.1
theorem TX.kn {t n np σB σM} (h : TX t n np σB σM) : gI σB (lw t) 4 = gI σM 0 14 := h.2.2.2.2.2.2.1
theorem TX.hA {t n np σB σM} (h : TX t n np σB σM) : ∀ k, 2 ≤ k → k ≤ 7 → ∀ j, j < n → gA σB (tx t) k j = gA σM 0 (18 + k) j := h.2.2.2.2.2.2.2.1
theorem TX.pA {t n np σB σM} (h : TX t n np σB σM) : ∀ k, 9 ≤ k → k ≤ 11 → ∀ j, j < np → gA σB (tx t) k j = gA σM 0 (17 + k) j := h.2.2.2.2.2.2.2.2.1
theorem TX.on {t n np σB σM} (h : TX t n np σB σM) : ∀ k, k < 3 → gI σB (tx t) (12 + k) = gA σM 0 19 k := h.2.2.2.2.2.2.2.2.2.1
theorem TX.law {t n np σB σM} (h : TX t n np σB σM) : ∀ w, w < 3 → lawR σB σM t w := h.2.2.2.2.2.2.2.2.2.2.1
theorem TX.rg {t n np σB σM} (h : TX t n np σB σM) : rngN (gA σM 0 21) n 0 999 ∧ rngN (gA σM 0 22) n 0 999 ∧ rngN (gA σM 0 23) n 1 99 ∧ rngN (gA σM 0 24) n 0 99 ∧ rngN (gA σM 0 25) n 0 9 ∧ rngN (gA σM 0 27) np 1 99 ∧ rngN (gA σM 0 28) np 0 99 ∧ (∃ v, 1 ≤ v ∧ v ≤ 20 ∧ gA σM 0 19 0 = nI v) ∧ (∃ v, v ≤ 999 ∧ gA σM 0 19 1 = nI v) ∧ (∃ v, v ≤ 99999 ∧ gA σM 0 19 2 = nI v) := h.2.2.2.2.2.2.2.2.2.2.2
theorem TX.stp {t n np σB σM} (h : TX t n np σB σM) : rngN (gA σM 0 23) n 1 99 := h.rg.2.2.1
theorem tx_le (t : Bool) : 1 ≤ tx t ∧ tx t ≤ 2 := by cases t <;> decide
theorem lw_le (t : Bool) : 3 ≤ lw t ∧ lw t ≤ 4 := by cases t <;> decide
theorem stepOK_cg {σB σM σB' σM' : St} {t : Bool} {i : Nat} {s s' : List Nat} (hB : ∀ k, k < 2 → gA σB' (lw t) k i = gA σB (lw t) k i) (hM : ∀ k, 32 ≤ k → k ≤ 34 → gA σM' 0 k i = gA σM 0 k i) (h : stepOK σB σM t i s s') : stepOK σB' σM' t i s s' := by
  unfold stepOK at *
  rw [hB 0 (by omega), hB 1 (by omega), hM 32 (by omega) (by omega), hM 33 (by omega) (by omega), hM 34 (by omega) (by omega)]
  exact h
theorem lawR_cg {σB σM σB' σM' : St} {t : Bool} {w : Nat} (hB : ∀ k i, k < 2 → i < 64 → gA σB' (lw t) k i = gA σB (lw t) k i) (hB2 : ∀ k, 2 ≤ k → k ≤ 3 → gA σB' (lw t) k w = gA σB (lw t) k w) (hM2 : ∀ k, 29 ≤ k → k ≤ 31 → gA σM' 0 k w = gA σM 0 k w) (hM : ∀ k i, 32 ≤ k → k ≤ 34 → i < 64 → gA σM' 0 k i = gA σM 0 k i) (h : lawR σB σM t w) : lawR σB' σM' t w := by
  obtain ⟨f, u, h1, h2, h3, h4, h5, h6⟩ := h
  refine ⟨f, u, h1, h2, ?_, ?_, ?_, fun hfu => ?_⟩
  · rw [hB2 2 (by omega) (by omega)]; exact h3
  · rw [hB2 3 (by omega) (by omega)]; exact h4
  · rw [hM2 29 (by omega) (by omega)]; exact h5
  · obtain ⟨k1, k2, hs, e1, e2, e3⟩ := h6 hfu
    refine ⟨?_, ?_, hs, e1, e2, fun i h1 h2 => ?_⟩
    · rw [hM2 30 (by omega) (by omega)]; exact k1
    · rw [hM2 31 (by omega) (by omega)]; exact k2
    · obtain ⟨r1, r2, r3⟩ := e3 i h1 h2
      exact ⟨r1, r2, stepOK_cg (fun k hk => hB k i hk (by omega)) (fun k hk hk2 => hM k i hk hk2 (by omega)) r3⟩
/-- the text is kept where its rows are -/
theorem TX.cg {t : Bool} {n np : Nat} {σB σM σB' σM' : St} (h : TX t n np σB σM) (hI : gI σB' (tx t) = gI σB (tx t)) (hI2 : gI σB' (lw t) 4 = gI σB (lw t) 4) (hA : gA σB' (tx t) = gA σB (tx t)) (hA2 : gA σB' (lw t) = gA σB (lw t)) (hM : ∀ k, 12 ≤ k → k ≤ 14 → gI σM' 0 k = gI σM 0 k) (hM2 : ∀ k, 19 ≤ k → k ≤ 34 → gA σM' 0 k = gA σM 0 k) : TX t n np σB' σM' := by
  obtain ⟨g1, g2, g3, g4, g5, g6, g7, g8, g9, g10, g11, g12, g13, g14, g15, g16, g17, g18, g19, g20, g21⟩ := h
  refine ⟨g1, g2, ?_, ?_, ?_, ?_, ?_, fun k h1 h2 => ?_, fun k h1 h2 => ?_, fun k hk => ?_, fun w hw => ?_, ?_, ?_, ?_, ?_, ?_, ?_, ?_, ?_, ?_, ?_⟩
  · rw [hI]; exact g3
  · rw [hM 12 (by omega) (by omega)]; exact g4
  · rw [hI]; exact g5
  · rw [hM 13 (by omega) (by omega)]; exact g6
  · rw [hI2, hM 14 (by omega) (by omega)]; exact g7
  · rw [hA, hM2 (18 + k) (by omega) (by omega)]; exact g8 k h1 h2
  · rw [hA, hM2 (17 + k) (by omega) (by omega)]; exact g9 k h1 h2
  · rw [hI, hM2 19 (by omega) (by omega)]; exact g10 k hk
  · exact lawR_cg (fun k i _ _ => by rw [hA2]) (fun k _ _ => by rw [hA2]) (fun k h1 h2 => by rw [hM2 k (by omega) (by omega)]) (fun k i h1 h2 _ => by rw [hM2 k (by omega) (by omega)]) (g11 w hw)
  · rw [hM2 21 (by omega) (by omega)]; exact g12
  · rw [hM2 22 (by omega) (by omega)]; exact g13
  · rw [hM2 23 (by omega) (by omega)]; exact g14
  · rw [hM2 24 (by omega) (by omega)]; exact g15
  · rw [hM2 25 (by omega) (by omega)]; exact g16
  · rw [hM2 27 (by omega) (by omega)]; exact g17
  · rw [hM2 28 (by omega) (by omega)]; exact g18
  · rw [hM2 19 (by omega) (by omega)]; exact g19
  · rw [hM2 19 (by omega) (by omega)]; exact g20
  · rw [hM2 19 (by omega) (by omega)]; exact g21
/-! FRAMES of a year: sale o, slot b -/
def frB (o : Nat) (σ σ' : St) : Prop := (∀ o', o' ≠ o → gI σ' o' = gI σ o') ∧ (∀ o', o' ≠ o → gA σ' o' = gA σ o') ∧ gR σ' = gR σ ∧ gJ σ' = gJ σ ∧ gA σ' o 5 = gA σ o 5 ∧ gI σ' o 7 = gI σ o 7
def frM (b : Nat) (σ σ' : St) : Prop := (∀ k, k ≠ 45 → k ≠ 66 → gI σ' 0 k = gI σ 0 k) ∧ (∀ k, (k < 46 ∨ 59 < k) → gA σ' 0 k = gA σ 0 k) ∧ (∀ k j, 46 ≤ k → k ≤ 53 → (j < 6 * b ∨ 6 * b + 6 ≤ j) → gA σ' 0 k j = gA σ 0 k j) ∧ (∀ k j, 54 ≤ k → k ≤ 59 → j ≠ b → gA σ' 0 k j = gA σ 0 k j) ∧ (∀ k, k ≠ 60 → gJ σ' 0 k = gJ σ 0 k)
/-- the parts' rows are left alone too -/
def frP (σ σ' : St) : Prop := gA σ' 0 52 = gA σ 0 52 ∧ gA σ' 0 53 = gA σ 0 53
theorem frB.rf (o : Nat) (σ : St) : frB o σ σ := ⟨fun _ _ => rfl, fun _ _ => rfl, rfl, rfl, rfl, rfl⟩
theorem frM.rf (b : Nat) (σ : St) : frM b σ σ := ⟨fun _ _ _ => rfl, fun _ _ => rfl, fun _ _ _ _ _ => rfl, fun _ _ _ _ _ => rfl, fun _ _ => rfl⟩
theorem frB.tr {o : Nat} {a b c : St} (h : frB o a b) (k : frB o b c) : frB o a c := ⟨fun o' ho => (k.1 o' ho).trans (h.1 o' ho), fun o' ho => (k.2.1 o' ho).trans (h.2.1 o' ho), k.2.2.1.trans h.2.2.1, k.2.2.2.1.trans h.2.2.2.1, k.2.2.2.2.1.trans h.2.2.2.2.1, k.2.2.2.2.2.trans h.2.2.2.2.2⟩
theorem frM.tr {o : Nat} {a b c : St} (h : frM o a b) (k : frM o b c) : frM o a c := ⟨fun x h1 h2 => (k.1 x h1 h2).trans (h.1 x h1 h2), fun x h1 => (k.2.1 x h1).trans (h.2.1 x h1), fun x j h1 h2 h3 => (k.2.2.1 x j h1 h2 h3).trans (h.2.2.1 x j h1 h2 h3), fun x j h1 h2 h3 => (k.2.2.2.1 x j h1 h2 h3).trans (h.2.2.2.1 x j h1 h2 h3), fun x h1 => (k.2.2.2.2 x h1).trans (h.2.2.2.2 x h1)⟩
theorem frP.rf (σ : St) : frP σ σ := ⟨rfl, rfl⟩
theorem frP.tr {a b c : St} (h : frP a b) (k : frP b c) : frP a c := ⟨k.1.trans h.1, k.2.trans h.2⟩
theorem frB.wA {o : Nat} (σ : St) (k h : Nat) (x : Int32) (hk : k < 5) : frB o σ (sA σ o k h x) := by
  refine ⟨fun _ _ => rfl, fun o' ho => ?_, rfl, rfl, ?_, rfl⟩
  · funext k'
    simp only [sA, gA_sAr]
    rw [if_neg (fun z => ho z.1)]
  · simp only [sA, gA_sAr]
    rw [if_neg (by omega)]
theorem frB.wI {o : Nat} (σ : St) (k : Nat) (x : Int32) (hk : k ≠ 7) : frB o σ (sI σ o k x) := by
  refine ⟨fun o' ho => ?_, fun _ _ => rfl, rfl, rfl, rfl, ?_⟩
  · funext k'
    simp only [gI_sI]
    rw [if_neg (fun z => ho z.1)]
  · simp only [gI_sI]
    rw [if_neg (by omega)]
theorem frM.wA {b : Nat} (σ : St) (k i : Nat) (x : Int32) (hk : (46 ≤ k ∧ k ≤ 53 ∧ 6 * b ≤ i ∧ i < 6 * b + 6) ∨ (54 ≤ k ∧ k ≤ 59 ∧ i = b)) : frM b σ (sA σ 0 k i x) := by
  refine ⟨fun _ _ _ => rfl, fun k' h1 => ?_, fun k' j h1 h2 h3 => ?_, fun k' j h1 h2 h3 => ?_, fun _ _ => rfl⟩
  · simp only [sA, gA_sAr, true_and]
    rw [if_neg (by omega)]
  · simp only [sA, gA_sAr, true_and]
    split
    · rename_i e
      rw [upd_at, if_neg (by omega), e]
    · rfl
  · simp only [sA, gA_sAr, true_and]
    split
    · rename_i e
      rw [upd_at, if_neg (by omega), e]
    · rfl
theorem frP.wA (σ : St) (k i : Nat) (x : Int32) (hk : k ≠ 52 ∧ k ≠ 53) : frP σ (sA σ 0 k i x) := by
  refine ⟨?_, ?_⟩ <;> simp only [sA, gA_sAr, true_and] <;> rw [if_neg (by omega)]
theorem frB.stk {o : Nat} {σ σ' : St} (h : onlyStk σ σ') : frB o σ σ' := ⟨fun o' _ => by rw [h.1], fun o' _ => by rw [h.2.1], h.2.2.2.1, h.2.2.1, by rw [h.2.1], by rw [h.1]⟩
theorem frM.ln {b : Nat} {σ σ' : St} (h : onlyLN σ σ') : frM b σ σ' := ⟨fun k h1 _ => h.1 k h1, fun k _ => by rw [h.2.1], fun k j _ _ _ => by rw [h.2.1], fun k j _ _ _ => by rw [h.2.1], fun k _ => by rw [h.2.2.2]⟩
theorem frP.ln {σ σ' : St} (h : onlyLN σ σ') : frP σ σ' := by constructor <;> rw [h.2.1]
theorem agB.stk {o : Nat} {σ σ' : St} (h : onlyStk σ σ') : agB o σ σ' := ⟨fun k _ => by rw [h.2.1], fun k _ _ => by rw [h.1]⟩
theorem agM.wG {n b : Nat} {σ σ' : St} (h : gA σ' = gA σ) : agM n b σ σ' := ⟨fun k j _ _ _ _ _ => by rw [h], fun k _ _ => by rw [h]⟩
/-- what is tried -/
def FL (σB σM : St) : Prop := ∀ k, 2 ≤ k → k ≤ 6 → gI σB 14 k = gI σM 0 (59 + k)
def CX (t : Bool) (n np : Nat) (σB σM : St) : Prop := TX t n np σB σM ∧ gR σB 2 = t ∧ FL σB σM ∧ (gI σM 0 61 = 0 ∨ gI σM 0 61 = 1)
theorem CX.cg {t : Bool} {n np o b : Nat} {σB σM σB' σM' : St} (h : CX t n np σB σM) (ho : 5 ≤ o ∧ o ≤ 8) (hB : frB o σB σB') (hM : frM b σM σM') : CX t n np σB' σM' := by
  obtain ⟨h1, h2, h3, h4⟩ := h
  have a1 := tx_le t
  have a2 := lw_le t
  refine ⟨h1.cg (hB.1 _ (by omega)) (by rw [hB.1 _ (by omega)]) (hB.2.1 _ (by omega)) (hB.2.1 _ (by omega)) (fun k k1 k2 => hM.1 k (by omega) (by omega)) (fun k k1 k2 => hM.2.1 k (by omega)), ?_, fun k k1 k2 => ?_, ?_⟩
  · rw [hB.2.2.1]; exact h2
  · rw [hB.1 14 (by omega), hM.1 (59 + k) (by omega) (by omega)]
    exact h3 k k1 k2
  · rw [hM.1 61 (by omega) (by omega)]; exact h4
def NR (σB : St) (o : Nat) (σM : St) : Prop := gI σM 0 61 = 0 ∨ ∃ k, gI σB o 13 = nI k ∧ gJ σM 0 60 = lN k
/-- without numbers none is drawn -/
def nodr (σ σ' : St) : Prop := gI σ 0 61 = 0 → gJ σ' 0 60 = gJ σ 0 60
