/-! BOUNDS by what was seen -/
def kS (σB : St) (i : Nat) : Bool := decide (gA σB 13 0 i = 2)
def vS (σB : St) (i : Nat) : Nat := (gA σB 13 2 i).toNatClampNeg
def stF (ks : Nat → Bool) (vs : Nat → Nat) : Nat → (Nat → Bool) → Nat → Bool
  | 0, f => f
  | i + 1, f => stF ks vs i (if ks i && !f i then (fun j => if j = vs i then true else f j) else f)
theorem SEE.known {σB σM : St} (h : SEE σB σM) : ∃ s K, s ≤ 24 ∧ K ≤ s ∧ fX5_howManyKnown σB = some (nI K) ∧ fX10_knownBy σM = some (nI K) ∧ ∀ i, i < s → seR σB σM i := by
  obtain ⟨s, s1, s2, s3, s4, s5, s6⟩ := h
  unfold fX5_howManyKnown fX10_knownBy
  simp only [jnx1_eq]
  rcases s5 with e | ⟨k, hk, e⟩
  · refine ⟨s, s, s1, Nat.le_refl _, ?_, ?_, s6⟩
    · rw [if_pos e, s2]
    · rw [if_neg (by rw [← s4, e]; decide), s3]
  · refine ⟨s, k, s1, hk, ?_, ?_, s6⟩
    · rw [if_neg (by rw [e]; exact nI_nm1 (by omega)), e, s2]
      unfold iMin
      rw [if_neg (fun z => by have := (ltN (by omega) (by omega)).mp z; omega)]
    · rw [← s4, e, if_pos (nI_pos' (by omega))]
/-- what the class has struck -/
theorem findStruck_eq {σ : St} {s K : Nat} (hs : s ≤ 24) (hK : K ≤ s) (h1 : fX5_howManyKnown σ = some (nI K)) (hv : ∀ i, i < s → gA σ 13 0 i = 2 → ∃ v, v < i ∧ gA σ 13 2 i = nI v) : ∃ σ', fX5_findStruck σ = some σ' ∧ gI σ' = gI σ ∧ gR σ' = gR σ ∧ gJ σ' = gJ σ ∧ (∀ o k, ¬ (o = 13 ∧ k = 3) → gA σ' o k = gA σ o k) ∧ ∀ i, i < K → gA σ' 13 3 i = if stF (kS σ) (vS σ) K (fun _ => false) i then 1 else 0 := by
  unfold fX5_findStruck
  rw [h1, bS]
  generalize hFU : FU = Z
  refine lpx2_wp (fun q => ∃ σ', q = some σ' ∧ gI σ' = gI σ ∧ gR σ' = gR σ ∧ gJ σ' = gJ σ ∧ (∀ o k, ¬ (o = 13 ∧ k = 3) → gA σ' o k = gA σ o k) ∧ ∀ i, i < K → gA σ' 13 3 i = if stF (kS σ) (vS σ) K (fun _ => false) i then 1 else 0) (fun j x t => ∃ i, i + j = K ∧ x = nI i ∧ gI t = gI σ ∧ gR t = gR σ ∧ gJ t = gJ σ ∧ (∀ o k, ¬ (o = 13 ∧ k = 3) → gA t o k = gA σ o k) ∧ ∀ j, j < i → gA t 13 3 j = 0) ?_ Z K 0 σ (by rw [← hFU]; exact FU_gt (by omega)) ⟨0, by omega, rfl, rfl, rfl, rfl, fun _ _ _ => rfl, fun j hj => by omega⟩
  rintro j self x t ⟨i, hi, rfl, e1, e2, e3, e4, e5⟩ ih
  by_cases c : K ≤ i
  · rw [if_pos ((leN (by omega) (by omega)).mpr c)]
    have hiK : i = K := by omega
    subst hiK
    rw [lt_eq]
    refine lpx2_wp (fun q => ∃ σ', q = some σ' ∧ gI σ' = gI σ ∧ gR σ' = gR σ ∧ gJ σ' = gJ σ ∧ (∀ o k, ¬ (o = 13 ∧ k = 3) → gA σ' o k = gA σ o k) ∧ ∀ q, q < i → gA σ' 13 3 q = if stF (kS σ) (vS σ) i (fun _ => false) q then 1 else 0) (fun j x t => ∃ f, j ≤ i ∧ ((j = 0 ∧ x = -1) ∨ (∃ j', j = j' + 1 ∧ x = nI j')) ∧ gI t = gI σ ∧ gR t = gR σ ∧ gJ t = gJ σ ∧ (∀ o k, ¬ (o = 13 ∧ k = 3) → gA t o k = gA σ o k) ∧ (∀ q, q < i → gA t 13 3 q = if f q then 1 else 0) ∧ stF (kS σ) (vS σ) j f = stF (kS σ) (vS σ) i (fun _ => false)) ?_ Z i (nI i - 1) t (by rw [← hFU]; exact FU_gt (by omega)) ⟨fun _ => false, Nat.le_refl _, ?_, e1, e2, e3, e4, fun q hq => by rw [e5 q hq]; rfl, rfl⟩
    · rintro j2 self2 x2 t2 ⟨f, hj2, hx, g1, g2, g3, g4, g5, g6⟩ ih2
      rcases hx with ⟨rfl, rfl⟩ | ⟨j', rfl, rfl⟩
      · rw [if_pos (by decide)]
        refine ⟨t2, rfl, g1, g2, g3, g4, fun q hq => ?_⟩
        rw [g5 q hq, ← g6]
        rfl
      · rw [if_neg (nI_neg (by omega))]
        simp only [lt_eq, jnx1_eq, gdN (show j' < 24 by omega) (show 24 ≤ 1000000 by omega), clN (show j' < 1000000 by omega)]
        have k0 : gA t2 13 0 = gA σ 13 0 := g4 13 0 (by omega)
        have k2 : gA t2 13 2 = gA σ 13 2 := g4 13 2 (by omega)
        rw [k0, k2, g5 j' (by omega)]
        have nxt : ∀ f', (∀ t3, gI t3 = gI σ → gR t3 = gR σ → gJ t3 = gJ σ → (∀ o k, ¬ (o = 13 ∧ k = 3) → gA t3 o k = gA σ o k) → (∀ q, q < i → gA t3 13 3 q = if f' q then 1 else 0) → stF (kS σ) (vS σ) j' f' = stF (kS σ) (vS σ) i (fun _ => false) → ∃ σ', self2 (nI j' + -1) t3 = some σ' ∧ gI σ' = gI σ ∧ gR σ' = gR σ ∧ gJ σ' = gJ σ ∧ (∀ o k, ¬ (o = 13 ∧ k = 3) → gA σ' o k = gA σ o k) ∧ ∀ q, q < i → gA σ' 13 3 q = if stF (kS σ) (vS σ) i (fun _ => false) q then 1 else 0) := by
          intro f' t3 w1 w2 w3 w4 w5 w6
          refine ih2 j' _ _ (by omega) ⟨f', by omega, ?_, w1, w2, w3, w4, w5, w6⟩
          cases j' with
          | zero => exact Or.inl ⟨rfl, by decide⟩
          | succ q => exact Or.inr ⟨q, rfl, pk_m1 q⟩
        by_cases d1 : gA σ 13 0 j' = 2
        · rw [if_pos d1]
          obtain ⟨v, hv1, hv2⟩ := hv j' (by omega) d1
          have hks : kS σ j' = true := by unfold kS; rw [d1]; rfl
          have hvs : vS σ j' = v := by unfold vS; rw [hv2, clN (by omega)]
          rw [ifi0, hv2]
          cases hf : f j'
          · rw [if_neg (by simp), if_neg (fun z => by have := (leN (a := j') (b := v) (by omega) (by omega)).mp z; omega), gdN (show v < 24 by omega) (by omega), clN (by omega), nar1]
            refine nxt (fun q => if q = v then true else f q) _ g1 g2 g3 (fun o k hk => ?_) (fun q hq => ?_) ?_
            · rw [gA_sAr, if_neg hk]; exact g4 o k hk
            · rw [gAe, upd_at]
              by_cases e : q = v
              · rw [if_pos e, if_pos e]; rfl
              · rw [if_neg e, if_neg e]; exact g5 q hq
            · rw [← g6, stF, hks, hf, hvs]
              rfl
          · rw [if_pos rfl]
            refine nxt f t2 g1 g2 g3 g4 g5 ?_
            rw [← g6, stF, hks, hf]
            rfl
        · rw [if_neg d1]
          have hks : kS σ j' = false := by unfold kS; simp [d1]
          refine nxt f t2 g1 g2 g3 g4 g5 ?_
          rw [← g6, stF, hks]
          rfl
    · cases i with
      | zero => exact Or.inl ⟨rfl, by decide⟩
      | succ q => exact Or.inr ⟨q, rfl, nI_pred q⟩
  · rw [if_neg (fun z => c ((leN (by omega) (by omega)).mp z)), gdN (show i < 24 by omega) (by omega), clN (by omega), nar0]
    simp only [lt_eq]
    refine ih (j - 1) _ _ (by omega) ⟨i + 1, by omega, nI_1 i, e1, e2, e3, fun o k hk => ?_, fun q hq => ?_⟩
    · rw [gA_sAr, if_neg hk]; exact e4 o k hk
    · rw [gAe, upd_at]
      split
      · rfl
      · exact e5 q (by omega)
/-- struck on one side, counted on the other -/
def sc (K : Nat) (F : Nat → Bool) (σB σM : St) : Prop := ∀ i, i < K → gA σB 13 3 i = (if F i then 1 else 0) ∧ gA σM 0 70 i = (if F i then 0 else 1)
theorem three (i : Nat) : (3 : Int32) * nI i = nI (3 * i) := by rw [show (3 : Int32) = nI 3 from rfl, pk_mul]
set_option maxHeartbeats 1000000 in
theorem allows_sim {σB σM : St} {s K y : Nat} {F : Nat → Bool} (hs : s ≤ 24) (hK : K ≤ s) (h1 : fX5_howManyKnown σB = some (nI K)) (h2 : fX10_knownBy σM = some (nI K)) (hr : ∀ i, i < s → seR σB σM i) (hc : sc K F σB σM) (hy : 1 ≤ y ∧ y ≤ 99) : ∃ r : Int32, fX5_allows σB (nI y) (gA σM 0 54 1) = some r ∧ fX10_isSo σM (nI y) = some r ∧ (r = 0 ∨ r = 1) := by
  have key : SIM (fun r r' => r = r' ∧ (r = 0 ∨ r = 1)) (fX5_allows σB (nI y) (gA σM 0 54 1)) (fX10_isSo σM (nI y)) := by
    unfold fX5_allows fX10_isSo
    rw [h1, h2, bS]
    simp only [bS, lt_eq, jnx1_eq, cl1, three]
    generalize hFU : FU = Z
    refine simlp1_1 _ (fun j x x' => ∃ i, i + j = K ∧ x = nI i ∧ x' = nI i) ?_ Z Z K 0 0 (by rw [← hFU]; exact FU_gt (by omega)) (by rw [← hFU]; exact FU_gt (by omega)) ⟨0, by omega, rfl, rfl⟩
    rintro j sF sG x x' ⟨i, hi, rfl, rfl⟩ ih
    by_cases c : K ≤ i
    · rw [if_pos ((leN (by omega) (by omega)).mpr c), if_pos ((leN (by omega) (by omega)).mpr c)]
      exact SIM.ret ⟨rfl, Or.inr rfl⟩
    · rw [if_neg (fun z => c ((leN (by omega) (by omega)).mp z)), if_neg (fun z => c ((leN (by omega) (by omega)).mp z))]
      have e31 : nI (3 * i) + 1 = nI (3 * i + 1) := nI_1 _
      have e32 : nI (3 * i) + 2 = nI (3 * i + 2) := by rw [show (2 : Int32) = nI 2 from rfl, nI_add]
      simp only [three, e31, e32, gdN (show i < 24 by omega) (show 24 ≤ 1000000 by omega), gdN (show 3 * i < 72 by omega) (show 72 ≤ 1000000 by omega), gdN (show 3 * i + 1 < 72 by omega) (show 72 ≤ 1000000 by omega), gdN (show 3 * i + 2 < 72 by omega) (show 72 ≤ 1000000 by omega), clN (show i < 1000000 by omega), clN (show 3 * i < 1000000 by omega), clN (show 3 * i + 1 < 1000000 by omega), clN (show 3 * i + 2 < 1000000 by omega)]
      have skip : SIM (fun r r' => r = r' ∧ (r = 0 ∨ r = 1)) (sF (nI i + 1)) (sG (nI i + 1)) := ih (j - 1) _ _ (by omega) ⟨i + 1, by omega, nI_1 i, nI_1 i⟩
      obtain ⟨f1, f2⟩ := hc i (by omega)
      rw [f1, f2]
      rcases hr i (by omega) with ⟨k1, k2, k3, v, hv, k4, k5⟩ | ⟨k1, k2, k3, y', hy1, hy2, k4, k5⟩
      · rw [if_pos k1, k2, if_neg (show ¬ (-1 : Int32) = nI y from fun z => nI_nm1 (j := y) (by omega) z.symm)]
        simp only [if_true]
        cases F i
        · simpa using skip
        · simpa using skip
      · have n2 : ¬ gA σB 13 0 i = 2 := fun z => by rcases k1 with k1 | k1 <;> rw [k1] at z <;> exact absurd z (by decide)
        rw [if_neg n2, k4, k5, k2, k3]
        cases F i
        · simp only [Bool.false_eq_true, if_false, if_true, if_neg ne10]
          by_cases c2 : nI y' = nI y
          · rw [if_pos c2, if_pos c2]
            by_cases c3 : gA σM 0 54 1 < gA σB 13 2 i
            · rw [if_pos c3, if_pos c3]
              by_cases c4 : gA σB 13 0 i = 1
              · rw [if_pos c4, if_pos c4]
                simp only [if_neg ne10, if_neg (show ¬ (0 : Int32) = 1 by decide)]
                exact SIM.ret ⟨rfl, Or.inl rfl⟩
              · rw [if_neg c4, if_neg c4]
                exact skip
            · rw [if_neg c3, if_neg c3]
              by_cases c4 : gA σB 13 0 i = 1
              · rw [if_pos c4, if_pos c4]
                exact skip
              · rw [if_neg c4, if_neg c4]
                exact SIM.ret ⟨rfl, Or.inl rfl⟩
          · rw [if_neg c2, if_neg c2]
            split <;> exact skip
        · simp only [if_true, if_neg ne10]
          split <;> exact skip
  obtain ⟨r, r', e1, e2, rfl, e4⟩ := key
  exact ⟨r, e1, e2, e4⟩
