theorem upd_ne {f : Nat → Int32} {k : Nat} {x : Int32} {j : Nat} (h : j ≠ k) : upd f k x j = f j := by rw [upd_at, if_neg h]
theorem upd_eq {f : Nat → Int32} {k : Nat} {x : Int32} : upd f k x k = x := by rw [upd_at, if_pos rfl]
theorem pl {p k : Nat} {x : Int32} (h : x = nI k) : nI p + x = nI (p + k) := by rw [h, nI_add]
/-- a row of the reference, as it is put -/
def rowP (σ : St) (f : Nat → Int32) (p : Nat) : Prop := (∀ j, j < 6 → f (p + j) = gA σ 0 46 j ∧ f (p + 6 + j) = gA σ 0 48 j ∧ f (p + 12 + j) = (if gA σ 0 49 j = 0 then 0 else 1) ∧ f (p + 18 + j) = gA σ 0 50 j ∧ f (p + 24 + j) = gA σ 0 51 j) ∧ f (p + 30) = gA σ 0 54 0 ∧ f (p + 31) = gA σ 0 55 0 ∧ f (p + 32) = gA σ 0 56 0
/-- and as it is taken -/
def rowT (σ' : St) (f : Nat → Int32) (p : Nat) : Prop := (∀ j, j < 6 → gA σ' 0 46 j = f (p + j) ∧ gA σ' 0 48 j = f (p + 6 + j) ∧ gA σ' 0 49 j = (if f (p + 12 + j) = 1 then 1 else 0) ∧ gA σ' 0 50 j = f (p + 18 + j) ∧ gA σ' 0 51 j = f (p + 24 + j)) ∧ gA σ' 0 54 0 = f (p + 30) ∧ gA σ' 0 55 0 = f (p + 31) ∧ gA σ' 0 56 0 = f (p + 32)
set_option maxHeartbeats 4000000 in
theorem put72_eq (σ : St) (p : Nat) (hp : p + 33 ≤ 660) : ∃ σ', fX10_put_a10_72 σ (nI p) = some σ' ∧ gI σ' = gI σ ∧ gJ σ' = gJ σ ∧ (∀ k, k ≠ 72 → gA σ' 0 k = gA σ 0 k) ∧ (∀ q, (q < p ∨ p + 33 ≤ q) → gA σ' 0 72 q = gA σ 0 72 q) ∧ rowP σ (gA σ' 0 72) p := by
  unfold fX10_put_a10_72
  generalize hFU : FU = Z
  refine lpx2_wp (fun q => ∃ σ', q = some σ' ∧ gI σ' = gI σ ∧ gJ σ' = gJ σ ∧ (∀ k, k ≠ 72 → gA σ' 0 k = gA σ 0 k) ∧ (∀ q, (q < p ∨ p + 33 ≤ q) → gA σ' 0 72 q = gA σ 0 72 q) ∧ rowP σ (gA σ' 0 72) p) (fun j x s => ∃ i, i + j = 6 ∧ x = nI i ∧ gI s = gI σ ∧ gJ s = gJ σ ∧ (∀ k, k ≠ 72 → gA s 0 k = gA σ 0 k) ∧ (∀ q, (q < p ∨ p + 33 ≤ q) → gA s 0 72 q = gA σ 0 72 q) ∧ (∀ j, j < i → gA s 0 72 (p + j) = gA σ 0 46 j ∧ gA s 0 72 (p + 6 + j) = gA σ 0 48 j ∧ gA s 0 72 (p + 12 + j) = (if gA σ 0 49 j = 0 then 0 else 1) ∧ gA s 0 72 (p + 18 + j) = gA σ 0 50 j ∧ gA s 0 72 (p + 24 + j) = gA σ 0 51 j)) ?_ Z 6 0 σ (by rw [← hFU]; exact FU_gt (by omega)) ⟨0, by omega, rfl, rfl, rfl, fun _ _ => rfl, fun _ _ => rfl, fun j hj => by omega⟩
  rintro j self x s ⟨i, hi, rfl, e1, e2, e3, e4, e5⟩ ih
  by_cases c : 6 ≤ i
  · rw [if_pos (show (6 : Int32) ≤ nI i from (leN (a := 6) (b := i) (by omega) (by omega)).mpr c)]
    have : i = 6 := by omega
    subst this
    simp only [lt_eq, pl (p := p) (k := 30) (x := 30) rfl, pl (p := p) (k := 31) (x := 31) rfl, pl (p := p) (k := 32) (x := 32) rfl, gdN (show p + 30 < 660 by omega) (show 660 ≤ 1000000 by omega), gdN (show p + 31 < 660 by omega) (show 660 ≤ 1000000 by omega), gdN (show p + 32 < 660 by omega) (show 660 ≤ 1000000 by omega), clN (show p + 30 < 1000000 by omega), clN (show p + 31 < 1000000 by omega), clN (show p + 32 < 1000000 by omega), cl0]
    refine ⟨_, rfl, e1, e2, fun k hk => ?_, fun q hq => ?_, fun j hj => ?_, ?_, ?_, ?_⟩
    · simp (disch := assumption) only [sA, gAn]
      exact e3 k hk
    · simp (disch := omega) only [sA, gAe, upd_ne]
      exact e4 q hq
    · simp (disch := omega) only [sA, gAe, upd_ne]
      exact e5 j hj
    · simp (disch := omega) only [sA, gAe, gAn, upd_ne, upd_eq]
      rw [e3 54 (by omega)]
    · simp (disch := omega) only [sA, gAe, gAn, upd_ne, upd_eq]
      rw [e3 55 (by omega)]
    · simp (disch := omega) only [sA, gAe, gAn, upd_ne, upd_eq]
      rw [e3 56 (by omega)]
  · rw [if_neg (show ¬ (6 : Int32) ≤ nI i from fun z => c ((leN (a := 6) (b := i) (by omega) (by omega)).mp z))]
    have pull : ∀ {β : Type} (K : Int32 → Option β) (c : Prop) [Decidable c] (x y : Int32), (if c then K x else K y) = K (if c then x else y) := fun K c _ x y => by split <;> rfl
    have a6 : nI p + 6 + nI i = nI (p + 6 + i) := by rw [pl (p := p) (k := 6) (x := 6) rfl, nI_add]
    have a12 : nI p + 12 + nI i = nI (p + 12 + i) := by rw [pl (p := p) (k := 12) (x := 12) rfl, nI_add]
    have a18 : nI p + 18 + nI i = nI (p + 18 + i) := by rw [pl (p := p) (k := 18) (x := 18) rfl, nI_add]
    have a24 : nI p + 24 + nI i = nI (p + 24 + i) := by rw [pl (p := p) (k := 24) (x := 24) rfl, nI_add]
    simp only [lt_eq, jnx1_eq, a6, a12, a18, a24, nI_add, gdN (show i < 12 by omega) (show 12 ≤ 1000000 by omega), clN (show i < 1000000 by omega), gdN (show p + i < 660 by omega) (show 660 ≤ 1000000 by omega), gdN (show p + 6 + i < 660 by omega) (show 660 ≤ 1000000 by omega), gdN (show p + 12 + i < 660 by omega) (show 660 ≤ 1000000 by omega), gdN (show p + 18 + i < 660 by omega) (show 660 ≤ 1000000 by omega), gdN (show p + 24 + i < 660 by omega) (show 660 ≤ 1000000 by omega), clN (show p + i < 1000000 by omega), clN (show p + 6 + i < 1000000 by omega), clN (show p + 12 + i < 1000000 by omega), clN (show p + 18 + i < 1000000 by omega), clN (show p + 24 + i < 1000000 by omega)]
    have nxt : ∀ c : Int32, c = (if gA σ 0 49 i = 0 then 0 else 1) → ∃ σ', self (nI i + 1) (sA (sA (sA (sA (sA s 0 72 (p + i) (gA s 0 46 i)) 0 72 (p + 6 + i) (gA (sA s 0 72 (p + i) (gA s 0 46 i)) 0 48 i)) 0 72 (p + 12 + i) c) 0 72 (p + 18 + i) (gA (sA (sA (sA s 0 72 (p + i) (gA s 0 46 i)) 0 72 (p + 6 + i) (gA (sA s 0 72 (p + i) (gA s 0 46 i)) 0 48 i)) 0 72 (p + 12 + i) c) 0 50 i)) 0 72 (p + 24 + i) (gA (sA (sA (sA (sA s 0 72 (p + i) (gA s 0 46 i)) 0 72 (p + 6 + i) (gA (sA s 0 72 (p + i) (gA s 0 46 i)) 0 48 i)) 0 72 (p + 12 + i) c) 0 72 (p + 18 + i) (gA (sA (sA (sA s 0 72 (p + i) (gA s 0 46 i)) 0 72 (p + 6 + i) (gA (sA s 0 72 (p + i) (gA s 0 46 i)) 0 48 i)) 0 72 (p + 12 + i) c) 0 50 i)) 0 51 i)) = some σ' ∧ gI σ' = gI σ ∧ gJ σ' = gJ σ ∧ (∀ k, k ≠ 72 → gA σ' 0 k = gA σ 0 k) ∧ (∀ q, (q < p ∨ p + 33 ≤ q) → gA σ' 0 72 q = gA σ 0 72 q) ∧ rowP σ (gA σ' 0 72) p := by
      intro c hc
      refine ih (j - 1) _ _ (by omega) ⟨i + 1, by omega, nI_1 i, e1, e2, fun k hk => ?_, fun q hq => ?_, fun q hq => ?_⟩
      · simp (disch := assumption) only [sA, gAn]
        exact e3 k hk
      · simp (disch := omega) only [sA, gAe, upd_ne]
        exact e4 q hq
      · by_cases e : q = i
        · subst e
          refine ⟨?_, ?_, ?_, ?_, ?_⟩
          · simp (disch := omega) only [sA, gAe, gAn, upd_ne, upd_eq, e3]
          · simp (disch := omega) only [sA, gAe, gAn, upd_ne, upd_eq, e3]
          · simp (disch := omega) only [sA, gAe, gAn, upd_ne, upd_eq, e3]
            exact hc
          · simp (disch := omega) only [sA, gAe, gAn, upd_ne, upd_eq, e3]
          · simp (disch := omega) only [sA, gAe, gAn, upd_ne, upd_eq, e3]
        · have h := e5 q (by omega)
          refine ⟨?_, ?_, ?_, ?_, ?_⟩
          · simp (disch := omega) only [sA, gAe, upd_ne]
            exact h.1
          · simp (disch := omega) only [sA, gAe, upd_ne]
            exact h.2.1
          · simp (disch := omega) only [sA, gAe, upd_ne]
            exact h.2.2.1
          · simp (disch := omega) only [sA, gAe, upd_ne]
            exact h.2.2.2.1
          · simp (disch := omega) only [sA, gAe, upd_ne]
            exact h.2.2.2.2
    have e49 : gA (sA (sA s 0 72 (p + i) (gA s 0 46 i)) 0 72 (p + 6 + i) (gA (sA s 0 72 (p + i) (gA s 0 46 i)) 0 48 i)) 0 49 i = gA σ 0 49 i := by simp (disch := omega) only [sA, gAn, e3]
    rw [e49]
    by_cases d : gA σ 0 49 i = 0
    · rw [if_pos d]
      exact nxt 0 (by rw [if_pos d])
    · rw [if_neg d]
      exact nxt 1 (by rw [if_neg d])
set_option maxHeartbeats 4000000 in
theorem take72_eq (σ : St) (p : Nat) (hp : p + 33 ≤ 660) : ∃ σ', fX10_take_a10_72 σ (nI p) = some σ' ∧ gI σ' = gI σ ∧ gJ σ' = gJ σ ∧ (∀ k, ¬ (46 ≤ k ∧ k ≤ 56) → gA σ' 0 k = gA σ 0 k) ∧ (∀ k, k = 47 ∨ k = 52 ∨ k = 53 → gA σ' 0 k = gA σ 0 k) ∧ rowT σ' (gA σ 0 72) p := by
  unfold fX10_take_a10_72
  generalize hFU : FU = Z
  refine lpx2_wp (fun q => ∃ σ', q = some σ' ∧ gI σ' = gI σ ∧ gJ σ' = gJ σ ∧ (∀ k, ¬ (46 ≤ k ∧ k ≤ 56) → gA σ' 0 k = gA σ 0 k) ∧ (∀ k, k = 47 ∨ k = 52 ∨ k = 53 → gA σ' 0 k = gA σ 0 k) ∧ rowT σ' (gA σ 0 72) p) (fun j x s => ∃ i, i + j = 6 ∧ x = nI i ∧ gI s = gI σ ∧ gJ s = gJ σ ∧ (∀ k, ¬ (46 ≤ k ∧ k ≤ 56) → gA s 0 k = gA σ 0 k) ∧ (∀ k, k = 47 ∨ k = 52 ∨ k = 53 → gA s 0 k = gA σ 0 k) ∧ (∀ j, j < i → gA s 0 46 j = gA σ 0 72 (p + j) ∧ gA s 0 48 j = gA σ 0 72 (p + 6 + j) ∧ gA s 0 49 j = (if gA σ 0 72 (p + 12 + j) = 1 then 1 else 0) ∧ gA s 0 50 j = gA σ 0 72 (p + 18 + j) ∧ gA s 0 51 j = gA σ 0 72 (p + 24 + j))) ?_ Z 6 0 σ (by rw [← hFU]; exact FU_gt (by omega)) ⟨0, by omega, rfl, rfl, rfl, fun _ _ => rfl, fun _ _ => rfl, fun j hj => by omega⟩
  rintro j self x s ⟨i, hi, rfl, e1, e2, e3, e4, e5⟩ ih
  have e72 := e3 72 (by omega)
  by_cases c : 6 ≤ i
  · rw [if_pos (show (6 : Int32) ≤ nI i from (leN (a := 6) (b := i) (by omega) (by omega)).mpr c)]
    have : i = 6 := by omega
    subst this
    simp only [lt_eq, pl (p := p) (k := 30) (x := 30) rfl, pl (p := p) (k := 31) (x := 31) rfl, pl (p := p) (k := 32) (x := 32) rfl, gdN (show p + 30 < 660 by omega) (show 660 ≤ 1000000 by omega), gdN (show p + 31 < 660 by omega) (show 660 ≤ 1000000 by omega), gdN (show p + 32 < 660 by omega) (show 660 ≤ 1000000 by omega), clN (show p + 30 < 1000000 by omega), clN (show p + 31 < 1000000 by omega), clN (show p + 32 < 1000000 by omega), cl0]
    refine ⟨_, rfl, e1, e2, fun k hk => ?_, fun k hk => ?_, fun j hj => ?_, ?_, ?_, ?_⟩
    · simp (disch := omega) only [sA, gAn]
      exact e3 k hk
    · simp (disch := omega) only [sA, gAn]
      exact e4 k hk
    · simp (disch := omega) only [sA, gAn]
      exact e5 j hj
    · simp (disch := omega) only [sA, gAe, gAn, upd_eq, e72]
    · simp (disch := omega) only [sA, gAe, gAn, upd_eq, e72]
    · simp (disch := omega) only [sA, gAe, gAn, upd_eq, e72]
  · rw [if_neg (show ¬ (6 : Int32) ≤ nI i from fun z => c ((leN (a := 6) (b := i) (by omega) (by omega)).mp z))]
    have a6 : nI p + 6 + nI i = nI (p + 6 + i) := by rw [pl (p := p) (k := 6) (x := 6) rfl, nI_add]
    have a12 : nI p + 12 + nI i = nI (p + 12 + i) := by rw [pl (p := p) (k := 12) (x := 12) rfl, nI_add]
    have a18 : nI p + 18 + nI i = nI (p + 18 + i) := by rw [pl (p := p) (k := 18) (x := 18) rfl, nI_add]
    have a24 : nI p + 24 + nI i = nI (p + 24 + i) := by rw [pl (p := p) (k := 24) (x := 24) rfl, nI_add]
    have g1 : ∀ x, gA (sA (sA s 0 46 i x) 0 48 i (gA (sA s 0 46 i x) 0 72 (p + 6 + i))) 0 72 (p + 12 + i) = gA σ 0 72 (p + 12 + i) := fun x => by simp (disch := omega) only [sA, gAn, e72]
    simp only [lt_eq, jnx1_eq, a6, a12, a18, a24, nI_add, gdN (show i < 12 by omega) (show 12 ≤ 1000000 by omega), clN (show i < 1000000 by omega), gdN (show p + i < 660 by omega) (show 660 ≤ 1000000 by omega), gdN (show p + 6 + i < 660 by omega) (show 660 ≤ 1000000 by omega), gdN (show p + 12 + i < 660 by omega) (show 660 ≤ 1000000 by omega), gdN (show p + 18 + i < 660 by omega) (show 660 ≤ 1000000 by omega), gdN (show p + 24 + i < 660 by omega) (show 660 ≤ 1000000 by omega), clN (show p + i < 1000000 by omega), clN (show p + 6 + i < 1000000 by omega), clN (show p + 12 + i < 1000000 by omega), clN (show p + 18 + i < 1000000 by omega), clN (show p + 24 + i < 1000000 by omega), nar0, nar1, g1]
    have fin : ∀ c : Int32, c = (if gA σ 0 72 (p + 12 + i) = 1 then 1 else 0) → ∃ σ', self (nI i + 1) (sA (sA (sA (sA (sA s 0 46 i (gA s 0 72 (p + i))) 0 48 i (gA (sA s 0 46 i (gA s 0 72 (p + i))) 0 72 (p + 6 + i))) 0 49 i c) 0 50 i (gA (sA (sA (sA s 0 46 i (gA s 0 72 (p + i))) 0 48 i (gA (sA s 0 46 i (gA s 0 72 (p + i))) 0 72 (p + 6 + i))) 0 49 i c) 0 72 (p + 18 + i))) 0 51 i (gA (sA (sA (sA (sA s 0 46 i (gA s 0 72 (p + i))) 0 48 i (gA (sA s 0 46 i (gA s 0 72 (p + i))) 0 72 (p + 6 + i))) 0 49 i c) 0 50 i (gA (sA (sA (sA s 0 46 i (gA s 0 72 (p + i))) 0 48 i (gA (sA s 0 46 i (gA s 0 72 (p + i))) 0 72 (p + 6 + i))) 0 49 i c) 0 72 (p + 18 + i))) 0 72 (p + 24 + i))) = some σ' ∧ gI σ' = gI σ ∧ gJ σ' = gJ σ ∧ (∀ k, ¬ (46 ≤ k ∧ k ≤ 56) → gA σ' 0 k = gA σ 0 k) ∧ (∀ k, k = 47 ∨ k = 52 ∨ k = 53 → gA σ' 0 k = gA σ 0 k) ∧ rowT σ' (gA σ 0 72) p := by
      intro c hc
      refine ih (j - 1) _ _ (by omega) ⟨i + 1, by omega, nI_1 i, e1, e2, fun k hk => ?_, fun k hk => ?_, fun q hq => ?_⟩
      · simp (disch := omega) only [sA, gAn]
        exact e3 k hk
      · simp (disch := omega) only [sA, gAn]
        exact e4 k hk
      · by_cases e : q = i
        · subst e
          refine ⟨?_, ?_, ?_, ?_, ?_⟩
          · simp (disch := omega) only [sA, gAe, gAn, upd_eq, e72]
          · simp (disch := omega) only [sA, gAe, gAn, upd_eq, e72]
          · simp (disch := omega) only [sA, gAe, gAn, upd_eq, e72]
            exact hc
          · simp (disch := omega) only [sA, gAe, gAn, upd_eq, e72]
          · simp (disch := omega) only [sA, gAe, gAn, upd_eq, e72]
        · have h := e5 q (by omega)
          refine ⟨?_, ?_, ?_, ?_, ?_⟩
          · simp (disch := omega) only [sA, gAe, gAn, upd_ne]
            exact h.1
          · simp (disch := omega) only [sA, gAe, gAn, upd_ne]
            exact h.2.1
          · simp (disch := omega) only [sA, gAe, gAn, upd_ne]
            exact h.2.2.1
          · simp (disch := omega) only [sA, gAe, gAn, upd_ne]
            exact h.2.2.2.1
          · simp (disch := omega) only [sA, gAe, gAn, upd_ne]
            exact h.2.2.2.2
    by_cases d : gA σ 0 72 (p + 12 + i) = 1
    · rw [if_pos d]
      exact fin 1 (by rw [if_pos d])
    · rw [if_neg d]
      exact fin 0 (by rw [if_neg d])
set_option maxHeartbeats 4000000 in
theorem put74_eq (σ : St) (p : Nat) (hp : p + 33 ≤ 33) : ∃ σ', fX10_put_a10_74 σ (nI p) = some σ' ∧ gI σ' = gI σ ∧ gJ σ' = gJ σ ∧ (∀ k, k ≠ 74 → gA σ' 0 k = gA σ 0 k) ∧ (∀ q, (q < p ∨ p + 33 ≤ q) → gA σ' 0 74 q = gA σ 0 74 q) ∧ rowP σ (gA σ' 0 74) p := by
  unfold fX10_put_a10_74
  generalize hFU : FU = Z
  refine lpx2_wp (fun q => ∃ σ', q = some σ' ∧ gI σ' = gI σ ∧ gJ σ' = gJ σ ∧ (∀ k, k ≠ 74 → gA σ' 0 k = gA σ 0 k) ∧ (∀ q, (q < p ∨ p + 33 ≤ q) → gA σ' 0 74 q = gA σ 0 74 q) ∧ rowP σ (gA σ' 0 74) p) (fun j x s => ∃ i, i + j = 6 ∧ x = nI i ∧ gI s = gI σ ∧ gJ s = gJ σ ∧ (∀ k, k ≠ 74 → gA s 0 k = gA σ 0 k) ∧ (∀ q, (q < p ∨ p + 33 ≤ q) → gA s 0 74 q = gA σ 0 74 q) ∧ (∀ j, j < i → gA s 0 74 (p + j) = gA σ 0 46 j ∧ gA s 0 74 (p + 6 + j) = gA σ 0 48 j ∧ gA s 0 74 (p + 12 + j) = (if gA σ 0 49 j = 0 then 0 else 1) ∧ gA s 0 74 (p + 18 + j) = gA σ 0 50 j ∧ gA s 0 74 (p + 24 + j) = gA σ 0 51 j)) ?_ Z 6 0 σ (by rw [← hFU]; exact FU_gt (by omega)) ⟨0, by omega, rfl, rfl, rfl, fun _ _ => rfl, fun _ _ => rfl, fun j hj => by omega⟩
  rintro j self x s ⟨i, hi, rfl, e1, e2, e3, e4, e5⟩ ih
  by_cases c : 6 ≤ i
  · rw [if_pos (show (6 : Int32) ≤ nI i from (leN (a := 6) (b := i) (by omega) (by omega)).mpr c)]
    have : i = 6 := by omega
    subst this
    simp only [lt_eq, pl (p := p) (k := 30) (x := 30) rfl, pl (p := p) (k := 31) (x := 31) rfl, pl (p := p) (k := 32) (x := 32) rfl, gdN (show p + 30 < 33 by omega) (show 33 ≤ 1000000 by omega), gdN (show p + 31 < 33 by omega) (show 33 ≤ 1000000 by omega), gdN (show p + 32 < 33 by omega) (show 33 ≤ 1000000 by omega), clN (show p + 30 < 1000000 by omega), clN (show p + 31 < 1000000 by omega), clN (show p + 32 < 1000000 by omega), cl0]
    refine ⟨_, rfl, e1, e2, fun k hk => ?_, fun q hq => ?_, fun j hj => ?_, ?_, ?_, ?_⟩
    · simp (disch := assumption) only [sA, gAn]
      exact e3 k hk
    · simp (disch := omega) only [sA, gAe, upd_ne]
      exact e4 q hq
    · simp (disch := omega) only [sA, gAe, upd_ne]
      exact e5 j hj
    · simp (disch := omega) only [sA, gAe, gAn, upd_ne, upd_eq]
      rw [e3 54 (by omega)]
    · simp (disch := omega) only [sA, gAe, gAn, upd_ne, upd_eq]
      rw [e3 55 (by omega)]
    · simp (disch := omega) only [sA, gAe, gAn, upd_ne, upd_eq]
      rw [e3 56 (by omega)]
  · rw [if_neg (show ¬ (6 : Int32) ≤ nI i from fun z => c ((leN (a := 6) (b := i) (by omega) (by omega)).mp z))]
    have pull : ∀ {β : Type} (K : Int32 → Option β) (c : Prop) [Decidable c] (x y : Int32), (if c then K x else K y) = K (if c then x else y) := fun K c _ x y => by split <;> rfl
    have a6 : nI p + 6 + nI i = nI (p + 6 + i) := by rw [pl (p := p) (k := 6) (x := 6) rfl, nI_add]
    have a12 : nI p + 12 + nI i = nI (p + 12 + i) := by rw [pl (p := p) (k := 12) (x := 12) rfl, nI_add]
    have a18 : nI p + 18 + nI i = nI (p + 18 + i) := by rw [pl (p := p) (k := 18) (x := 18) rfl, nI_add]
    have a24 : nI p + 24 + nI i = nI (p + 24 + i) := by rw [pl (p := p) (k := 24) (x := 24) rfl, nI_add]
    simp only [lt_eq, jnx1_eq, a6, a12, a18, a24, nI_add, gdN (show i < 12 by omega) (show 12 ≤ 1000000 by omega), clN (show i < 1000000 by omega), gdN (show p + i < 33 by omega) (show 33 ≤ 1000000 by omega), gdN (show p + 6 + i < 33 by omega) (show 33 ≤ 1000000 by omega), gdN (show p + 12 + i < 33 by omega) (show 33 ≤ 1000000 by omega), gdN (show p + 18 + i < 33 by omega) (show 33 ≤ 1000000 by omega), gdN (show p + 24 + i < 33 by omega) (show 33 ≤ 1000000 by omega), clN (show p + i < 1000000 by omega), clN (show p + 6 + i < 1000000 by omega), clN (show p + 12 + i < 1000000 by omega), clN (show p + 18 + i < 1000000 by omega), clN (show p + 24 + i < 1000000 by omega)]
    have nxt : ∀ c : Int32, c = (if gA σ 0 49 i = 0 then 0 else 1) → ∃ σ', self (nI i + 1) (sA (sA (sA (sA (sA s 0 74 (p + i) (gA s 0 46 i)) 0 74 (p + 6 + i) (gA (sA s 0 74 (p + i) (gA s 0 46 i)) 0 48 i)) 0 74 (p + 12 + i) c) 0 74 (p + 18 + i) (gA (sA (sA (sA s 0 74 (p + i) (gA s 0 46 i)) 0 74 (p + 6 + i) (gA (sA s 0 74 (p + i) (gA s 0 46 i)) 0 48 i)) 0 74 (p + 12 + i) c) 0 50 i)) 0 74 (p + 24 + i) (gA (sA (sA (sA (sA s 0 74 (p + i) (gA s 0 46 i)) 0 74 (p + 6 + i) (gA (sA s 0 74 (p + i) (gA s 0 46 i)) 0 48 i)) 0 74 (p + 12 + i) c) 0 74 (p + 18 + i) (gA (sA (sA (sA s 0 74 (p + i) (gA s 0 46 i)) 0 74 (p + 6 + i) (gA (sA s 0 74 (p + i) (gA s 0 46 i)) 0 48 i)) 0 74 (p + 12 + i) c) 0 50 i)) 0 51 i)) = some σ' ∧ gI σ' = gI σ ∧ gJ σ' = gJ σ ∧ (∀ k, k ≠ 74 → gA σ' 0 k = gA σ 0 k) ∧ (∀ q, (q < p ∨ p + 33 ≤ q) → gA σ' 0 74 q = gA σ 0 74 q) ∧ rowP σ (gA σ' 0 74) p := by
      intro c hc
      refine ih (j - 1) _ _ (by omega) ⟨i + 1, by omega, nI_1 i, e1, e2, fun k hk => ?_, fun q hq => ?_, fun q hq => ?_⟩
      · simp (disch := assumption) only [sA, gAn]
        exact e3 k hk
      · simp (disch := omega) only [sA, gAe, upd_ne]
        exact e4 q hq
      · by_cases e : q = i
        · subst e
          refine ⟨?_, ?_, ?_, ?_, ?_⟩
          · simp (disch := omega) only [sA, gAe, gAn, upd_ne, upd_eq, e3]
          · simp (disch := omega) only [sA, gAe, gAn, upd_ne, upd_eq, e3]
          · simp (disch := omega) only [sA, gAe, gAn, upd_ne, upd_eq, e3]
            exact hc
          · simp (disch := omega) only [sA, gAe, gAn, upd_ne, upd_eq, e3]
          · simp (disch := omega) only [sA, gAe, gAn, upd_ne, upd_eq, e3]
        · have h := e5 q (by omega)
          refine ⟨?_, ?_, ?_, ?_, ?_⟩
          · simp (disch := omega) only [sA, gAe, upd_ne]
            exact h.1
          · simp (disch := omega) only [sA, gAe, upd_ne]
            exact h.2.1
          · simp (disch := omega) only [sA, gAe, upd_ne]
            exact h.2.2.1
          · simp (disch := omega) only [sA, gAe, upd_ne]
            exact h.2.2.2.1
          · simp (disch := omega) only [sA, gAe, upd_ne]
            exact h.2.2.2.2
    have e49 : gA (sA (sA s 0 74 (p + i) (gA s 0 46 i)) 0 74 (p + 6 + i) (gA (sA s 0 74 (p + i) (gA s 0 46 i)) 0 48 i)) 0 49 i = gA σ 0 49 i := by simp (disch := omega) only [sA, gAn, e3]
    rw [e49]
    by_cases d : gA σ 0 49 i = 0
    · rw [if_pos d]
      exact nxt 0 (by rw [if_pos d])
    · rw [if_neg d]
      exact nxt 1 (by rw [if_neg d])
set_option maxHeartbeats 4000000 in
theorem take74_eq (σ : St) (p : Nat) (hp : p + 33 ≤ 33) : ∃ σ', fX10_take_a10_74 σ (nI p) = some σ' ∧ gI σ' = gI σ ∧ gJ σ' = gJ σ ∧ (∀ k, ¬ (46 ≤ k ∧ k ≤ 56) → gA σ' 0 k = gA σ 0 k) ∧ (∀ k, k = 47 ∨ k = 52 ∨ k = 53 → gA σ' 0 k = gA σ 0 k) ∧ rowT σ' (gA σ 0 74) p := by
  unfold fX10_take_a10_74
  generalize hFU : FU = Z
  refine lpx2_wp (fun q => ∃ σ', q = some σ' ∧ gI σ' = gI σ ∧ gJ σ' = gJ σ ∧ (∀ k, ¬ (46 ≤ k ∧ k ≤ 56) → gA σ' 0 k = gA σ 0 k) ∧ (∀ k, k = 47 ∨ k = 52 ∨ k = 53 → gA σ' 0 k = gA σ 0 k) ∧ rowT σ' (gA σ 0 74) p) (fun j x s => ∃ i, i + j = 6 ∧ x = nI i ∧ gI s = gI σ ∧ gJ s = gJ σ ∧ (∀ k, ¬ (46 ≤ k ∧ k ≤ 56) → gA s 0 k = gA σ 0 k) ∧ (∀ k, k = 47 ∨ k = 52 ∨ k = 53 → gA s 0 k = gA σ 0 k) ∧ (∀ j, j < i → gA s 0 46 j = gA σ 0 74 (p + j) ∧ gA s 0 48 j = gA σ 0 74 (p + 6 + j) ∧ gA s 0 49 j = (if gA σ 0 74 (p + 12 + j) = 1 then 1 else 0) ∧ gA s 0 50 j = gA σ 0 74 (p + 18 + j) ∧ gA s 0 51 j = gA σ 0 74 (p + 24 + j))) ?_ Z 6 0 σ (by rw [← hFU]; exact FU_gt (by omega)) ⟨0, by omega, rfl, rfl, rfl, fun _ _ => rfl, fun _ _ => rfl, fun j hj => by omega⟩
  rintro j self x s ⟨i, hi, rfl, e1, e2, e3, e4, e5⟩ ih
  have e72 := e3 74 (by omega)
  by_cases c : 6 ≤ i
  · rw [if_pos (show (6 : Int32) ≤ nI i from (leN (a := 6) (b := i) (by omega) (by omega)).mpr c)]
    have : i = 6 := by omega
    subst this
    simp only [lt_eq, pl (p := p) (k := 30) (x := 30) rfl, pl (p := p) (k := 31) (x := 31) rfl, pl (p := p) (k := 32) (x := 32) rfl, gdN (show p + 30 < 33 by omega) (show 33 ≤ 1000000 by omega), gdN (show p + 31 < 33 by omega) (show 33 ≤ 1000000 by omega), gdN (show p + 32 < 33 by omega) (show 33 ≤ 1000000 by omega), clN (show p + 30 < 1000000 by omega), clN (show p + 31 < 1000000 by omega), clN (show p + 32 < 1000000 by omega), cl0]
    refine ⟨_, rfl, e1, e2, fun k hk => ?_, fun k hk => ?_, fun j hj => ?_, ?_, ?_, ?_⟩
    · simp (disch := omega) only [sA, gAn]
      exact e3 k hk
    · simp (disch := omega) only [sA, gAn]
      exact e4 k hk
    · simp (disch := omega) only [sA, gAn]
      exact e5 j hj
    · simp (disch := omega) only [sA, gAe, gAn, upd_eq, e72]
    · simp (disch := omega) only [sA, gAe, gAn, upd_eq, e72]
    · simp (disch := omega) only [sA, gAe, gAn, upd_eq, e72]
  · rw [if_neg (show ¬ (6 : Int32) ≤ nI i from fun z => c ((leN (a := 6) (b := i) (by omega) (by omega)).mp z))]
    have a6 : nI p + 6 + nI i = nI (p + 6 + i) := by rw [pl (p := p) (k := 6) (x := 6) rfl, nI_add]
    have a12 : nI p + 12 + nI i = nI (p + 12 + i) := by rw [pl (p := p) (k := 12) (x := 12) rfl, nI_add]
    have a18 : nI p + 18 + nI i = nI (p + 18 + i) := by rw [pl (p := p) (k := 18) (x := 18) rfl, nI_add]
    have a24 : nI p + 24 + nI i = nI (p + 24 + i) := by rw [pl (p := p) (k := 24) (x := 24) rfl, nI_add]
    have g1 : ∀ x, gA (sA (sA s 0 46 i x) 0 48 i (gA (sA s 0 46 i x) 0 74 (p + 6 + i))) 0 74 (p + 12 + i) = gA σ 0 74 (p + 12 + i) := fun x => by simp (disch := omega) only [sA, gAn, e72]
    simp only [lt_eq, jnx1_eq, a6, a12, a18, a24, nI_add, gdN (show i < 12 by omega) (show 12 ≤ 1000000 by omega), clN (show i < 1000000 by omega), gdN (show p + i < 33 by omega) (show 33 ≤ 1000000 by omega), gdN (show p + 6 + i < 33 by omega) (show 33 ≤ 1000000 by omega), gdN (show p + 12 + i < 33 by omega) (show 33 ≤ 1000000 by omega), gdN (show p + 18 + i < 33 by omega) (show 33 ≤ 1000000 by omega), gdN (show p + 24 + i < 33 by omega) (show 33 ≤ 1000000 by omega), clN (show p + i < 1000000 by omega), clN (show p + 6 + i < 1000000 by omega), clN (show p + 12 + i < 1000000 by omega), clN (show p + 18 + i < 1000000 by omega), clN (show p + 24 + i < 1000000 by omega), nar0, nar1, g1]
    have fin : ∀ c : Int32, c = (if gA σ 0 74 (p + 12 + i) = 1 then 1 else 0) → ∃ σ', self (nI i + 1) (sA (sA (sA (sA (sA s 0 46 i (gA s 0 74 (p + i))) 0 48 i (gA (sA s 0 46 i (gA s 0 74 (p + i))) 0 74 (p + 6 + i))) 0 49 i c) 0 50 i (gA (sA (sA (sA s 0 46 i (gA s 0 74 (p + i))) 0 48 i (gA (sA s 0 46 i (gA s 0 74 (p + i))) 0 74 (p + 6 + i))) 0 49 i c) 0 74 (p + 18 + i))) 0 51 i (gA (sA (sA (sA (sA s 0 46 i (gA s 0 74 (p + i))) 0 48 i (gA (sA s 0 46 i (gA s 0 74 (p + i))) 0 74 (p + 6 + i))) 0 49 i c) 0 50 i (gA (sA (sA (sA s 0 46 i (gA s 0 74 (p + i))) 0 48 i (gA (sA s 0 46 i (gA s 0 74 (p + i))) 0 74 (p + 6 + i))) 0 49 i c) 0 74 (p + 18 + i))) 0 74 (p + 24 + i))) = some σ' ∧ gI σ' = gI σ ∧ gJ σ' = gJ σ ∧ (∀ k, ¬ (46 ≤ k ∧ k ≤ 56) → gA σ' 0 k = gA σ 0 k) ∧ (∀ k, k = 47 ∨ k = 52 ∨ k = 53 → gA σ' 0 k = gA σ 0 k) ∧ rowT σ' (gA σ 0 74) p := by
      intro c hc
      refine ih (j - 1) _ _ (by omega) ⟨i + 1, by omega, nI_1 i, e1, e2, fun k hk => ?_, fun k hk => ?_, fun q hq => ?_⟩
      · simp (disch := omega) only [sA, gAn]
        exact e3 k hk
      · simp (disch := omega) only [sA, gAn]
        exact e4 k hk
      · by_cases e : q = i
        · subst e
          refine ⟨?_, ?_, ?_, ?_, ?_⟩
          · simp (disch := omega) only [sA, gAe, gAn, upd_eq, e72]
          · simp (disch := omega) only [sA, gAe, gAn, upd_eq, e72]
          · simp (disch := omega) only [sA, gAe, gAn, upd_eq, e72]
            exact hc
          · simp (disch := omega) only [sA, gAe, gAn, upd_eq, e72]
          · simp (disch := omega) only [sA, gAe, gAn, upd_eq, e72]
        · have h := e5 q (by omega)
          refine ⟨?_, ?_, ?_, ?_, ?_⟩
          · simp (disch := omega) only [sA, gAe, gAn, upd_ne]
            exact h.1
          · simp (disch := omega) only [sA, gAe, gAn, upd_ne]
            exact h.2.1
          · simp (disch := omega) only [sA, gAe, gAn, upd_ne]
            exact h.2.2.1
          · simp (disch := omega) only [sA, gAe, gAn, upd_ne]
            exact h.2.2.2.1
          · simp (disch := omega) only [sA, gAe, gAn, upd_ne]
            exact h.2.2.2.2
    by_cases d : gA σ 0 74 (p + 12 + i) = 1
    · rw [if_pos d]
      exact fin 1 (by rw [if_pos d])
    · rw [if_neg d]
      exact fin 0 (by rw [if_neg d])
