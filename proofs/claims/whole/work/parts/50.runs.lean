/-! RUNS of years: the reference alone -/
/-- a year behind the fall, or one in which nobody is in and nobody leads: only the year and the parts go on -/
def still1 (b : Nat) (σ σ' : St) : Prop := frM b σ σ' ∧ (∀ k, 46 ≤ k → k ≤ 51 → gA σ' 0 k = gA σ 0 k) ∧ (∀ k, 54 ≤ k → k ≤ 58 → gA σ' 0 k = gA σ 0 k) ∧ gJ σ' = gJ σ ∧ gI σ' 0 66 = -1 ∧ gA σ' 0 59 b = gA σ 0 59 b + 1
theorem pgo_still {σ : St} {b np : Nat} (hb : b < 2) (hp : np ≤ 6) (hM : gI σ 0 13 = nI np) : ∃ σ', (bV (fX10_partsGo (sI σ 0 66 (-1)) (nI b)) fun σ6 => (some (sA σ6 0 59 b ((gA σ6 0 59 b) + (1 : Int32))))) = some σ' ∧ still1 b σ σ' := by
  have h13 : gI (sI σ 0 66 (-1)) 0 13 = nI np := by
    simp only [gI_sI]
    rw [if_neg (by omega)]
    exact hM
  rw [partsGo_eq _ b np hb hp h13]
  rw [bVs]
  refine ⟨_, rfl, ⟨fun k h1 h2 => ?_, fun k h1 => ?_, fun k j h1 h2 h3 => ?_, fun k j h1 h2 h3 => ?_, fun _ _ => rfl⟩, fun k h1 h2 => ?_, fun k h1 h2 => ?_, rfl, ?_, ?_⟩
  · simp only [gI_sAr, gI_sI]
    rw [if_neg (fun z => h2 z.2)]
  · simp only [sA, gA_sAr, gA_sI]
    rw [if_neg (by omega), if_neg (by omega), if_neg (by omega)]
  · simp only [sA, gA_sAr, gA_sI, true_and]
    rw [if_neg (by omega)]
    split
    · rename_i e
      subst e
      unfold pgFst
      rw [if_neg (by omega)]
      rfl
    · split
      · rename_i e
        subst e
        unfold pgOld
        rw [if_neg (by omega)]
        rfl
      · rfl
  · simp only [sA, gA_sAr, gA_sI, true_and]
    by_cases e : k = 59
    · subst e
      rw [if_pos rfl, upd_at, if_neg h3, if_neg (by omega), if_neg (by omega)]
    · rw [if_neg e, if_neg (by omega), if_neg (by omega)]
  · simp only [sA, gA_sAr, gA_sI]
    rw [if_neg (by omega), if_neg (by omega), if_neg (by omega)]
  · simp only [sA, gA_sAr, gA_sI]
    rw [if_neg (by omega), if_neg (by omega), if_neg (by omega)]
  · simp only [gI_sAr, gI_sI, and_self, if_true]
  · simp only [sA, gA_sAr, gA_sI, and_self, if_true, upd_at]
    rw [if_neg (by omega), if_neg (by omega)]
theorem yearM_fallen {σ : St} {b np : Nat} (hb : b < 2) (hp : np ≤ 6) (hM : gI σ 0 13 = nI np) (hf : ¬ gA σ 0 57 b = 0) : ∃ σ', fX10_yearGoes σ (nI b) = some σ' ∧ still1 b σ σ' := by
  obtain ⟨σ', h1, h2⟩ := pgo_still hb hp hM
  refine ⟨σ', ?_, h2⟩
  unfold fX10_yearGoes
  generalize hFU : FU = Z
  simp only [lt_eq, jnx1_eq, gdN (show b < 2 by omega) (show 2 ≤ 1000000 by omega), clN (show b < 1000000 by omega), gAI]
  rw [if_neg hf, ← h1]
theorem turnM_none {σ : St} {b n y : Nat} (hb : b < 2) (hn6 : n ≤ 6) (hM : gI σ 0 12 = nI n) (hy : gA σ 0 59 b = nI y) (hy2 : y ≤ 200000) (h0 : ∀ j, j < n → gA σ 0 49 (6 * b + j) = 0) : fX10_turnOf σ (nI b) = some (-1) := by
  unfold fX10_turnOf
  generalize hFU : FU = N
  simp only [lt_eq, hM, hy, clN (show b < 1000000 by omega), gdN (show b < 2 by omega) (show 2 ≤ 1000000 by omega)]
  refine lpx1_wp (fun q => q = some (-1)) (fun j x => ∃ i, i + j = n ∧ x = nI i) ?_ N n 0 (by rw [← hFU]; exact FU_gt (by omega)) ⟨0, by omega, rfl⟩
  rintro j self x ⟨i, hi, rfl⟩ ih
  by_cases c : n ≤ i
  · rw [if_pos ((leN (by omega) (by omega)).mpr c)]
  · have hz : ¬ nI n = 0 := fun z => by have := (eqN (a := n) (b := 0) (by omega) (by omega)).mp z; omega
    rw [if_neg (fun z => c ((leN (by omega) (by omega)).mp z)), gd_pos hz, nI_add, pk_rem (by omega) (by omega) (by omega)]
    have hlt : (y + i) % n < n := Nat.mod_lt _ (by omega)
    generalize (y + i) % n = q at hlt
    rw [isOn_eq (c := false) hM hn6 hb hlt (h0 q hlt), bS]
    simp only [Bool.false_eq_true, if_false, if_true]
    exact ih (j - 1) _ (by omega) ⟨i + 1, by omega, nI_1 i⟩
theorem yearM_dead {σ : St} {b n np y : Nat} (hb : b < 2) (hn6 : n ≤ 6) (hp : np ≤ 6) (hN : gI σ 0 12 = nI n) (hM : gI σ 0 13 = nI np) (hy : gA σ 0 59 b = nI y) (hy2 : y ≤ 200000) (h0 : ∀ j, j < n → gA σ 0 49 (6 * b + j) = 0) (hl : gA σ 0 55 b = -1) : ∃ σ', fX10_yearGoes σ (nI b) = some σ' ∧ still1 b σ σ' := by
  obtain ⟨σ', h1, h2⟩ := pgo_still hb hp hM
  refine ⟨σ', ?_, h2⟩
  unfold fX10_yearGoes
  generalize hFU : FU = Z
  simp only [lt_eq, jnx1_eq, gdN (show b < 2 by omega) (show 2 ≤ 1000000 by omega), clN (show b < 1000000 by omega), gAI]
  by_cases hf : gA σ 0 57 b = 0
  · rw [if_pos hf]
    have hN1 : gI (sI σ 0 66 (-1)) 0 12 = nI n := by
      simp only [gI_sI]
      rw [if_neg (by omega)]
      exact hN
    refine lpx2_wp (fun q => q = some σ') (fun j x s => ∃ i, i + j = n ∧ x = nI i ∧ s = sI σ 0 66 (-1)) ?_ Z n 0 (sI σ 0 66 (-1)) (by rw [← hFU]; exact FU_gt (by omega)) ⟨0, by omega, rfl, rfl⟩
    rintro j self x s ⟨i, hi, rfl, rfl⟩ ih
    rw [hN1]
    by_cases c : n ≤ i
    · rw [if_pos ((leN (by omega) (by omega)).mpr c), turnM_none hb hn6 hN1 hy hy2 h0, bS, if_pos (by decide)]
      simp only [gIe, gAI]
      rw [if_neg (show ¬ (0 : Int32) ≤ -1 by decide), hl, if_pos (show (-1 : Int32) < 0 by decide), ← h1]
    · rw [if_neg (fun z => c ((leN (by omega) (by omega)).mp z))]
      simp only [six, gdN (show 6 * b + i < 12 by omega) (show 12 ≤ 1000000 by omega), clN (show 6 * b + i < 1000000 by omega), gAI]
      rw [h0 i (by omega), if_pos rfl]
      exact ih (j - 1) _ _ (by omega) ⟨i + 1, by omega, nI_1 i, rfl⟩
  · rw [if_neg hf, ← h1]
/-! the loops as plain recursions -/
def itM (b : Nat) : Nat → St → Option St
  | 0, σ => some σ
  | k + 1, σ => (fX10_yearGoes σ (nI b)).bind (itM b k)
def itB (o : Nat) : Nat → St → Option St
  | 0, σ => some σ
  | k + 1, σ => if gI σ o 14 = 0 then (fX0_passYear σ o).bind (fun q => itB o k q.2) else some σ
def itF : Nat → Nat → St → Option (Int32 × St)
  | 0, _, σ => some (-2, σ)
  | k + 1, x, σ => if gA σ 0 57 1 = 0 then (fX10_yearGoes σ 1).bind (itF k (x + 1)) else some (nI x, σ)
def itY (o : Nat) : Nat → Nat → St → Option (Int32 × St)
  | 0, _, σ => some (if gI σ o 14 = 0 then -2 else 0, σ)
  | k + 1, x, σ => if gI σ o 14 = 0 then (if gI σ o 6 = 0 ∧ gI σ o 10 = -1 then some (-2, σ) else (fX0_passYear σ o).bind (fun q => if gI q.2 o 14 = 0 then itY o k (x + 1) q.2 else some (nI (x + 1), q.2))) else some (0, σ)
theorem goMany_it (σ : St) (k : Nat) (hk : k < 10000) : fX10_goMany σ (nI k) = itM 1 k σ := by
  unfold fX10_goMany
  generalize hFU : FU = Z
  refine lpx2_wp (fun q => q = itM 1 k σ) (fun j x s => ∃ i, i + j = k ∧ x = nI i ∧ itM 1 j s = itM 1 k σ) ?_ Z k 0 σ (by rw [← hFU]; exact FU_gt (by omega)) ⟨0, by omega, rfl, rfl⟩
  rintro j self x s ⟨i, hi, rfl, hs⟩ ih
  by_cases c : k ≤ i
  · rw [if_pos ((leN (by omega) (by omega)).mpr c), ← hs]
    have : j = 0 := by omega
    subst this
    rfl
  · rw [if_neg (fun z => c ((leN (by omega) (by omega)).mp z))]
    obtain ⟨j', rfl⟩ : ∃ j', j = j' + 1 := ⟨j - 1, by omega⟩
    have hs' : (fX10_yearGoes s 1).bind (itM 1 j') = itM 1 k σ := hs
    cases hy : fX10_yearGoes s 1 with
    | none => rw [hy] at hs'; rw [← hs']; rfl
    | some s' =>
      rw [hy] at hs'
      simp only [bVs, lt_eq]
      exact ih j' _ _ (by omega) ⟨i + 1, by omega, nI_1 i, hs'⟩
theorem passYears_it (σ : St) (o k : Nat) (hk : k < 10000) : fX0_passYears σ o (nI k) = itB o k σ := by
  unfold fX0_passYears
  generalize hFU : FU = Z
  refine lpx2_wp (fun q => q = itB o k σ) (fun j x s => ∃ i, i + j = k ∧ x = nI i ∧ itB o j s = itB o k σ) ?_ Z k 0 σ (by rw [← hFU]; exact FU_gt (by omega)) ⟨0, by omega, rfl, rfl⟩
  rintro j self x s ⟨i, hi, rfl, hs⟩ ih
  simp only [jnx1_eq]
  by_cases c : k ≤ i
  · rw [if_pos ((leN (by omega) (by omega)).mpr c), ← hs]
    have : j = 0 := by omega
    subst this
    rfl
  · rw [if_neg (fun z => c ((leN (by omega) (by omega)).mp z))]
    obtain ⟨j', rfl⟩ : ∃ j', j = j' + 1 := ⟨j - 1, by omega⟩
    have hs' : (if gI s o 14 = 0 then (fX0_passYear s o).bind (fun q => itB o j' q.2) else some s) = itB o k σ := hs
    by_cases c2 : gI s o 14 = 0
    · rw [if_pos c2] at hs' ⊢
      cases hy : fX0_passYear s o with
      | none => rw [hy] at hs'; rw [← hs']; rfl
      | some q =>
        rw [hy] at hs'
        simp only [bIq, lt_eq]
        exact ih j' _ _ (by omega) ⟨i + 1, by omega, nI_1 i, hs'⟩
    · rw [if_neg c2] at hs' ⊢
      exact hs'
theorem fallsBy_it (σ : St) (k : Nat) (hk : k < 10000) : fX10_fallsBy σ (nI k) = itF (k + 1) 0 σ := by
  unfold fX10_fallsBy
  generalize hFU : FU = Z
  refine lpx2_wp (fun q => q = itF (k + 1) 0 σ) (fun j x s => ∃ i, i + j = k + 1 ∧ x = nI i ∧ itF j i s = itF (k + 1) 0 σ) ?_ Z (k + 1) 0 σ (by rw [← hFU]; exact FU_gt (by omega)) ⟨0, by omega, rfl, rfl⟩
  rintro j self x s ⟨i, hi, rfl, hs⟩ ih
  rw [cl_lit 1 1 rfl (by omega)]
  by_cases c : k < i
  · rw [if_pos ((ltN (by omega) (by omega)).mpr c), ← hs]
    have : j = 0 := by omega
    subst this
    rfl
  · rw [if_neg (fun z => c ((ltN (by omega) (by omega)).mp z))]
    obtain ⟨j', rfl⟩ : ∃ j', j = j' + 1 := ⟨j - 1, by omega⟩
    have hs' : (if gA s 0 57 1 = 0 then (fX10_yearGoes s 1).bind (itF j' (i + 1)) else some (nI i, s)) = itF (k + 1) 0 σ := hs
    by_cases c2 : gA s 0 57 1 = 0
    · rw [if_pos c2] at hs' ⊢
      cases hy : fX10_yearGoes s 1 with
      | none => rw [hy] at hs'; rw [← hs']; rfl
      | some s' =>
        rw [hy] at hs'
        simp only [bVs, lt_eq]
        exact ih j' _ _ (by omega) ⟨i + 1, by omega, nI_1 i, hs'⟩
    · rw [if_neg c2] at hs' ⊢
      exact hs'
theorem yearsToFall_it (σ : St) (o k : Nat) (hk : k < 10000) : fX0_yearsToFall σ o (nI k) = itY o k 0 σ := by
  unfold fX0_yearsToFall
  generalize hFU : FU = Z
  refine lpx2_wp (fun q => q = itY o k 0 σ) (fun j x s => ∃ i, i + j = k ∧ x = nI i ∧ itY o j i s = itY o k 0 σ) ?_ Z k 0 σ (by rw [← hFU]; exact FU_gt (by omega)) ⟨0, by omega, rfl, rfl⟩
  rintro j self x s ⟨i, hi, rfl, hs⟩ ih
  simp only [jnx1_eq]
  by_cases c : k ≤ i
  · rw [if_pos ((leN (by omega) (by omega)).mpr c), ← hs]
    have : j = 0 := by omega
    subst this
    by_cases c2 : gI s o 14 = 0
    · rw [if_pos c2, itY, if_pos c2]
    · rw [if_neg c2, itY, if_neg c2]
  · rw [if_neg (fun z => c ((leN (by omega) (by omega)).mp z))]
    obtain ⟨j', rfl⟩ : ∃ j', j = j' + 1 := ⟨j - 1, by omega⟩
    have hs' : (if gI s o 14 = 0 then (if gI s o 6 = 0 ∧ gI s o 10 = -1 then some (-2, s) else (fX0_passYear s o).bind (fun q => if gI q.2 o 14 = 0 then itY o j' (i + 1) q.2 else some (nI (i + 1), q.2))) else some (0, s)) = itY o k 0 σ := hs
    by_cases c2 : gI s o 14 = 0
    · rw [if_pos c2] at hs' ⊢
      have key : (bI (fX0_passYear s o) fun r13 σ14 => if (gI σ14 o 14) = 0 then (lt (nI i + (1 : Int32)) fun x16 => self x16 σ14) else (some ((nI i + (1 : Int32)), σ14))) = (fX0_passYear s o).bind (fun q => if gI q.2 o 14 = 0 then self (nI i + 1) q.2 else some (nI (i + 1), q.2)) := by
        rw [nI_1]
        rfl
      rw [key]
      by_cases c3 : gI s o 6 = 0 ∧ gI s o 10 = -1
      · rw [if_pos c3] at hs'
        rw [if_pos c3.1, if_pos c3.2]
        exact hs'
      · rw [if_neg c3] at hs'
        have e : (if gI s o 6 = 0 then (if gI s o 10 = -1 then some ((-2 : Int32), s) else (fX0_passYear s o).bind (fun q => if gI q.2 o 14 = 0 then self (nI i + 1) q.2 else some (nI (i + 1), q.2))) else (fX0_passYear s o).bind (fun q => if gI q.2 o 14 = 0 then self (nI i + 1) q.2 else some (nI (i + 1), q.2))) = (fX0_passYear s o).bind (fun q => if gI q.2 o 14 = 0 then self (nI i + 1) q.2 else some (nI (i + 1), q.2)) := by
          by_cases c4 : gI s o 6 = 0
          · rw [if_pos c4, if_neg (fun z => c3 ⟨c4, z⟩)]
          · rw [if_neg c4]
        rw [e]
        cases hy : fX0_passYear s o with
        | none => rw [hy] at hs'; rw [← hs']; rfl
        | some q =>
          rw [hy] at hs'
          simp only [Option.bind_some] at hs' ⊢
          by_cases c5 : gI q.2 o 14 = 0
          · rw [if_pos c5] at hs' ⊢
            exact ih j' _ _ (by omega) ⟨i + 1, by omega, nI_1 i, hs'⟩
          · rw [if_neg c5] at hs' ⊢
            exact hs'
    · rw [if_neg c2] at hs' ⊢
      rw [if_neg c2]
      exact hs'
