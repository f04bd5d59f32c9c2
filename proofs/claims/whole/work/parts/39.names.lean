/-- a law that isn't told -/
theorem blaw0 {σB : St} {t : Bool} {w u o : Nat} {p2 : Int32} (ht : gR σB 2 = t) (hw : w < 3) (h2 : gA σB (lw t) 2 w = nI u) (h3 : gA σB (lw t) 3 w = nI u) (hu : u ≤ 64) : fX0_valueOf σB (nI w) o p2 = some (-9223372036854775808, σB) := by
  have gw : ∀ {β : Type} (z : Option β), gd (ixI (nI w) 3) z = z := fun z => gd_pos (ixN (by omega) (by omega))
  unfold fX0_valueOf
  generalize hFU : FU = N
  simp only [lt_eq]
  rw [gw, clN (by omega), ht, h2]
  refine lpx3_wp (fun q => q = some (-9223372036854775808, σB)) (fun j x3 x4 σ5 => x3 = 0 ∧ x4 = nI u ∧ σ5 = σB) ?_ N 0 0 (nI u) σB (by rw [← hFU]; exact FU_gt (by omega)) ⟨rfl, rfl, rfl⟩
  rintro j self x3 x4 σ5 ⟨rfl, rfl, rfl⟩ ih
  rw [gw, h3, if_pos ((leN (by omega) (by omega)).mpr (Nat.le_refl u))]
  simp only [jnx1_eq]
  rw [if_neg (by decide)]
/-- the names of a HOUSE in the reference's slot b -/
def nmM (σ : St) (b h k : Nat) : Int32 := if k = 0 then gA σ 0 54 b else if k = 1 then gA σ 0 46 (6 * b + h) else if k = 2 then gA σ 0 22 h else if k = 3 then gA σ 0 47 (6 * b + h) else if k = 4 then gA σ 0 48 (6 * b + h) else if k = 5 then gA σ 0 56 b else gA σ 0 59 b
def onlyNms (σ σ' : St) : Prop := gI σ' = gI σ ∧ gA σ' = gA σ ∧ gJ σ' = gJ σ ∧ ∀ k, k ≠ 43 → gL σ' 0 k = gL σ 0 k
theorem six (b h : Nat) : (6 : Int32) * nI b + nI h = nI (6 * b + h) := by
  rw [show (6 : Int32) = nI 6 from rfl, pk_mul, nI_add]
theorem layNames_eq (σ : St) (b h : Nat) (hb : b < 2) (hh : h < 6) : ∃ σ', fX10_layNames σ (nI b) (nI h) = some σ' ∧ onlyNms σ σ' ∧ ∀ k, k < 7 → gL σ' 0 43 k = (nmM σ b h k).toInt64 := by
  have g1 : ∀ {β : Type} (z : Option β), gd (ixI (nI b) 2) z = z := fun z => gd_pos (ixN (by omega) (by omega))
  have g2 : ∀ {β : Type} (z : Option β), gd (ixI (nI (6 * b + h)) 12) z = z := fun z => gd_pos (ixN (by omega) (by omega))
  have g3 : ∀ {β : Type} (z : Option β), gd (ixI (nI h) 12) z = z := fun z => gd_pos (ixN (by omega) (by omega))
  unfold fX10_layNames
  simp only [lt_eq, six, g1, g2, g3, clN (show b < 1000000 by omega), clN (show h < 1000000 by omega), clN (show 6 * b + h < 1000000 by omega), gA_sLr]
  refine ⟨_, rfl, ⟨rfl, rfl, rfl, fun k hk => ?_⟩, fun k hk => ?_⟩
  · simp only [sL, gL_sLr]
    simp [hk]
  · simp only [sL, gL_sLr, and_self, if_true, vp_updL]
    obtain rfl | rfl | rfl | rfl | rfl | rfl | rfl : k = 0 ∨ k = 1 ∨ k = 2 ∨ k = 3 ∨ k = 4 ∨ k = 5 ∨ k = 6 := by omega
    all_goals simp (decide := true) [nmM]
/-- the names of a HOUSE in the class's sale o -/
def nmB (σ : St) (o h k : Nat) : Int32 := if k = 0 then gI σ o 9 else if k = 1 then gA σ o 0 h else if k = 2 then gA σ (tx (gR σ 2)) 4 h else if k = 3 then gA σ o 1 h else if k = 4 then gA σ o 2 h else if k = 5 then gI σ o 11 else gI σ o 8
theorem nameOf_eq (σ : St) (o h k : Nat) (hh : h < 6) (hk : k < 7) : fX0_nameOf σ (nI (12 + k)) o (nI h) = some (nmB σ o h k) := by
  have g1 : ∀ {β : Type} (z : Option β), gd (ixI (nI h) 6) z = z := fun z => gd_pos (ixN (by omega) (by omega))
  unfold fX0_nameOf
  simp only [g1, clN (show h < 1000000 by omega)]
  obtain rfl | rfl | rfl | rfl | rfl | rfl | rfl : k = 0 ∨ k = 1 ∨ k = 2 ∨ k = 3 ∨ k = 4 ∨ k = 5 ∨ k = 6 := by omega
  all_goals simp (decide := true) only [nmB, if_true, if_false]
