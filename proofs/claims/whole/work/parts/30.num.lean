/-! NUMBERS: places as nI k -/
theorem ixN {k N : Nat} (h : k < N) (hN : N ≤ 1000000) : ixI (nI k) N := by
  refine ⟨?_, ?_⟩ <;> rw [nI_toInt (by omega)] <;> omega
theorem clN {k : Nat} (h : k < 1000000) : Int32.toNatClampNeg (nI k) = k := nI_clamp (by omega)
theorem leN {a b : Nat} (ha : a < 1000000) (hb : b < 1000000) : nI a ≤ nI b ↔ a ≤ b := nI_leI (by omega) (by omega)
theorem ltN {a b : Nat} (ha : a < 1000000) (hb : b < 1000000) : nI a < nI b ↔ a < b := nI_ltI (by omega) (by omega)
theorem eqN {a b : Nat} (ha : a < 1000000) (hb : b < 1000000) : nI a = nI b ↔ a = b := nI_eq (by omega) (by omega)
theorem ixI_of {x : Int32} {N : Nat} (h : ixI x N) (hN : N ≤ 1000000) : ∃ k, k < N ∧ x = nI k := vp_in_of (ixI_in h) (by omega)
theorem i32lt (a b : Int32) : a < b ↔ a.toInt < b.toInt := Int32.lt_iff_toInt_lt
theorem i32le (a b : Int32) : a ≤ b ↔ a.toInt ≤ b.toInt := Int32.le_iff_toInt_le
theorem i32eq (a b : Int32) : a = b ↔ a.toInt = b.toInt := Int32.toInt_inj.symm
theorem i32rng (x : Int32) : -2147483648 ≤ x.toInt ∧ x.toInt < 2147483648 := ⟨Int32.le_toInt x, Int32.toInt_lt x⟩
/-- a number from 0 on below N -/
theorem i32_nat {x : Int32} {N : Nat} (h0 : 0 ≤ x.toInt) (h1 : x.toInt < N) (hN : N ≤ 1000000) : ∃ k, k < N ∧ x = nI k := ixI_of ⟨h0, h1⟩ hN
theorem ite01 {c : Prop} [Decidable c] : (if c then (1 : Int32) else 0) = 0 ∨ (if c then (1 : Int32) else 0) = 1 := by
  split
  · exact Or.inr rfl
  · exact Or.inl rfl
theorem ite0 {c : Prop} [Decidable c] : ((if c then (1 : Int32) else 0) = 0) ↔ ¬ c := by
  split <;> simp_all
theorem nar0 : vp_nar .boolean 0 = 0 := by decide
theorem nar1 : vp_nar .boolean 1 = 1 := by decide
theorem narB {x : Int32} (h : x = 0 ∨ x = 1) : vp_nar .boolean x = x := by rcases h with rfl | rfl <;> decide
/-! STATES: a write over a write -/
theorem sI_sI (σ : St) (o k : Nat) (v w : Int32) : sI (sI σ o k v) o k w = sI σ o k w := by
  unfold sI
  refine Prod.ext ?_ rfl
  funext o' k'
  cases h : (Nat.beq o' o && Nat.beq k' k) <;> simp [h]
theorem sAr_sAr (σ : St) (o k : Nat) (f g : Nat → Int32) : sAr (sAr σ o k f) o k g = sAr σ o k g := by
  unfold sAr
  refine Prod.ext rfl (Prod.ext ?_ rfl)
  funext o' k'
  cases h : (Nat.beq o' o && Nat.beq k' k) <;> simp [h]
theorem sAr_self (σ : St) (o k : Nat) : sAr σ o k (gA σ o k) = σ := by
  unfold sAr gA
  refine Prod.ext rfl (Prod.ext ?_ rfl)
  funext o' k'
  cases h : (Nat.beq o' o && Nat.beq k' k)
  · simp [h]
  · have h1 : Nat.beq o' o = true ∧ Nat.beq k' k = true := by simpa using h
    rw [Nat.eq_of_beq_eq_true h1.1, Nat.eq_of_beq_eq_true h1.2]
    simp
/-! COPIES -/
def cpf (f : Nat → Int32) (m : Nat) : Nat → Int32 := fun j => if j < m then f (m + j) else f j
def cpLoop (k N : Nat) (σ : St) (p1 : Int32) : Option St := lpx2 FU (fun self3 (x1 : Int32) (σ2 : St) => if p1 ≤ x1 then (some σ2) else (gd (ixI (p1 + x1) N) (gd (ixI x1 N) (lt (sA σ2 0 k (Int32.toNatClampNeg x1) (gA σ2 0 k (Int32.toNatClampNeg (p1 + x1)))) fun σ8 => lt (x1 + (1 : Int32)) fun x9 => self3 x9 σ8)))) (0 : Int32) σ
theorem cpLoop_eq (k N : Nat) (σ : St) (m : Nat) (hm : 2 * m ≤ N) (hN : N ≤ 1000) : cpLoop k N σ (nI m) = some (sAr σ 0 k (cpf (gA σ 0 k) m)) := by
  unfold cpLoop
  refine lpx2_wp (fun o => o = some (sAr σ 0 k (cpf (gA σ 0 k) m))) (fun j x σ' => ∃ i, i + j = m ∧ x = nI i ∧ σ' = sAr σ 0 k (fun t => if t < i then gA σ 0 k (m + t) else gA σ 0 k t)) ?_ FU m 0 σ (FU_gt (by omega)) ⟨0, by omega, rfl, by simp [sAr_self]⟩
  rintro j self x σ' ⟨i, hij, rfl, rfl⟩ ih
  by_cases hi : m ≤ i
  · rw [if_pos ((leN (by omega) (by omega)).mpr hi)]
    have : i = m := by omega
    subst this
    rfl
  · rw [if_neg (fun h => hi ((leN (by omega) (by omega)).mp h)), nI_add, gd_pos (ixN (by omega) (by omega)), gd_pos (ixN (by omega) (by omega))]
    simp only [lt, clN (show i < 1000000 by omega), clN (show m + i < 1000000 by omega)]
    refine ih (j - 1) _ _ (by omega) ⟨i + 1, by omega, nI_1 i, ?_⟩
    simp only [sA, sAr_sAr, gA_sAr, and_self, if_true]
    congr 1
    funext t
    simp only [upd]
    by_cases h1 : t = i
    · subst h1
      simp
      omega
    · by_cases h2 : t < i
      · simp [h1, h2, show t < i + 1 by omega]
      · simp [h1, h2, show ¬ t < i + 1 by omega]
