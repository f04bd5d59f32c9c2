theorem cl0 : Int32.toNatClampNeg (0 : Int32) = 0 := cl_lit 0 0 rfl (by omega)
theorem cl1 : Int32.toNatClampNeg (1 : Int32) = 1 := cl_lit 1 1 rfl (by omega)
theorem cl6 : Int32.toNatClampNeg (6 : Int32) = 6 := cl_lit 6 6 rfl (by omega)
theorem cpy6 (f g : Nat → Int32) {j : Nat} (h : j < 6) : va_cpy f g 0 0 6 j = f j := by
  rw [pk_cpy_in (by omega) (by omega)]
  congr 1
  omega
/-- a sale becomes another one -/
theorem become_eq (σ : St) (o p : Nat) (h : o ≠ p) (hf : gI σ p 14 = 0 ∨ gI σ p 14 = 1) : ∃ σ', fX4_become σ o p = some σ' ∧ (∀ k j, k < 6 → j < 6 → gA σ' o k j = gA σ p k j) ∧ (∀ k, 6 ≤ k → k ≤ 14 → gI σ' o k = gI σ p k) ∧ (∀ o', o' ≠ o → gI σ' o' = gI σ o') ∧ (∀ o', o' ≠ o → gA σ' o' = gA σ o') ∧ gR σ' = gR σ ∧ gJ σ' = gJ σ := by
  have hp : p ≠ o := h.symm
  unfold fX4_become
  simp only [lt_eq, cl0, cl6]
  rw [gd_pos (by simp (disch := omega) only [gIA, gIo hp]; exact hf)]
  refine ⟨_, rfl, fun k j hk hj => ?_, fun k k1 k2 => ?_, fun o' ho => ?_, fun o' ho => ?_, rfl, rfl⟩
  · simp only [gAI]
    obtain rfl | rfl | rfl | rfl | rfl | rfl : k = 0 ∨ k = 1 ∨ k = 2 ∨ k = 3 ∨ k = 4 ∨ k = 5 := by omega
    all_goals simp (disch := first | omega | assumption) only [gAe, gAn, gAo, cpy6, hj]
  · obtain rfl | rfl | rfl | rfl | rfl | rfl | rfl | rfl | rfl : k = 6 ∨ k = 7 ∨ k = 8 ∨ k = 9 ∨ k = 10 ∨ k = 11 ∨ k = 12 ∨ k = 13 ∨ k = 14 := by omega
    all_goals simp (disch := first | omega | assumption) only [gIA, gIe, gIn, gIo]
  · funext k
    simp (disch := assumption) only [gIA, gIo]
  · funext k
    simp (disch := assumption) only [gAI, gAo]
theorem asItGoes_eq (σ : St) (t : Bool) : ∃ σ', fX0_asItGoes σ t = some σ' ∧ gR σ' 2 = t ∧ (∀ k, k ≠ 2 → gR σ' k = gR σ k) ∧ (∀ k, 2 ≤ k → k ≤ 6 → gI σ' 14 k = 0) ∧ (∀ o, o ≠ 14 → gI σ' o = gI σ o) ∧ gA σ' = gA σ ∧ gJ σ' = gJ σ := by
  unfold fX0_asItGoes
  simp only [lt_eq]
  refine ⟨_, rfl, ?_, fun k hk => ?_, fun k k1 k2 => ?_, fun o ho => ?_, rfl, rfl⟩
  · show gR (sR σ 2 t) 2 = t
    rw [gR_sR, if_pos rfl]
  · show gR (sR σ 2 t) k = gR σ k
    rw [gR_sR, if_neg hk]
  · obtain rfl | rfl | rfl | rfl | rfl : k = 2 ∨ k = 3 ∨ k = 4 ∨ k = 5 ∨ k = 6 := by omega
    all_goals simp (disch := omega) only [gIe, gIn]
  · funext k
    simp (disch := omega) only [gIo, gIR]
theorem plainTried_eq (σ : St) : ∃ σ', fX10_plainTried σ = some σ' ∧ (∀ k, 61 ≤ k → k ≤ 65 → gI σ' 0 k = 0) ∧ (∀ k, (k < 61 ∨ 65 < k) → gI σ' 0 k = gI σ 0 k) ∧ gA σ' = gA σ ∧ gJ σ' = gJ σ := by
  unfold fX10_plainTried
  simp only [lt_eq]
  refine ⟨_, rfl, fun k k1 k2 => ?_, fun k hk => ?_, rfl, rfl⟩
  · obtain rfl | rfl | rfl | rfl | rfl : k = 61 ∨ k = 62 ∨ k = 63 ∨ k = 64 ∨ k = 65 := by omega
    all_goals simp (disch := omega) only [gIe, gIn]
  · simp (disch := omega) only [gIn]
theorem qM.pt {σ σ' : St} (h1 : ∀ k, (k < 61 ∨ 65 < k) → gI σ' 0 k = gI σ 0 k) (h2 : gA σ' = gA σ) (h3 : gJ σ' = gJ σ) : qM σ σ' := ⟨fun k _ _ h => h1 k (by omega), fun k _ _ => by rw [h2], fun k j _ _ _ => by rw [h2], fun k _ _ => by rw [h2], by rw [h3], by rw [h3]⟩
def nrw (k : Nat) (x : Int32) : Int32 := if k = 49 ∨ k = 53 then vp_nar .boolean x else x
def layI (σ : St) (i : Nat) (σ' : St) : Prop := gI σ' = gI σ ∧ gJ σ' = gJ σ ∧ (∀ k, (k < 46 ∨ 53 < k) → gA σ' 0 k = gA σ 0 k) ∧ (∀ k j, 46 ≤ k → k ≤ 53 → ¬ (6 ≤ j ∧ j < 6 + i) → gA σ' 0 k j = gA σ 0 k j) ∧ (∀ k j, 46 ≤ k → k ≤ 53 → j < i → gA σ' 0 k (6 + j) = nrw k (gA σ 0 k j))
theorem lay_put {σ σ' : St} {i k : Nat} {x : Int32} (hk : 46 ≤ k ∧ k ≤ 53) : gI (sA σ' 0 k (6 + i) x) = gI σ' ∧ gJ (sA σ' 0 k (6 + i) x) = gJ σ' ∧ (∀ k', k' ≠ k → gA (sA σ' 0 k (6 + i) x) 0 k' = gA σ' 0 k') ∧ (∀ j, j ≠ 6 + i → gA (sA σ' 0 k (6 + i) x) 0 k j = gA σ' 0 k j) ∧ gA (sA σ' 0 k (6 + i) x) 0 k (6 + i) = x :=
  ⟨rfl, rfl, fun k' h => gAn h, fun j h => by rw [gAe, upd_at, if_neg h], by rw [gAe, upd_at, if_pos rfl]⟩
set_option maxHeartbeats 2000000 in
/-- the reference lays slot 1 -/
theorem layTried_eq (σ : St) : ∃ σ', fX10_layTried σ = some σ' ∧ (∀ k, 61 ≤ k → k ≤ 65 → gI σ' 0 k = 0) ∧ (∀ k, (k < 61 ∨ 65 < k) → gI σ' 0 k = gI σ 0 k) ∧ gJ σ' = gJ σ ∧ (∀ k, (k < 46 ∨ 59 < k) → gA σ' 0 k = gA σ 0 k) ∧ (∀ k j, 46 ≤ k → k ≤ 53 → j < 6 → gA σ' 0 k j = gA σ 0 k j ∧ gA σ' 0 k (6 + j) = nrw k (gA σ 0 k j)) ∧ (∀ k, 54 ≤ k → k ≤ 59 → gA σ' 0 k 0 = gA σ 0 k 0 ∧ gA σ' 0 k 1 = if k = 57 then vp_nar .boolean (gA σ 0 k 0) else gA σ 0 k 0) := by
  unfold fX10_layTried
  generalize hFU : FU = Z
  refine lpx2_wp (fun q => ∃ σ', q = some σ' ∧ (∀ k, 61 ≤ k → k ≤ 65 → gI σ' 0 k = 0) ∧ (∀ k, (k < 61 ∨ 65 < k) → gI σ' 0 k = gI σ 0 k) ∧ gJ σ' = gJ σ ∧ (∀ k, (k < 46 ∨ 59 < k) → gA σ' 0 k = gA σ 0 k) ∧ (∀ k j, 46 ≤ k → k ≤ 53 → j < 6 → gA σ' 0 k j = gA σ 0 k j ∧ gA σ' 0 k (6 + j) = nrw k (gA σ 0 k j)) ∧ (∀ k, 54 ≤ k → k ≤ 59 → gA σ' 0 k 0 = gA σ 0 k 0 ∧ gA σ' 0 k 1 = if k = 57 then vp_nar .boolean (gA σ 0 k 0) else gA σ 0 k 0)) (fun j x s => ∃ i, i + j = 6 ∧ x = nI i ∧ layI σ i s) ?_ Z 6 0 σ (by rw [← hFU]; exact FU_gt (by omega)) ⟨0, by omega, rfl, rfl, rfl, fun _ _ => rfl, fun _ _ _ _ _ => rfl, fun _ _ _ _ h => absurd h (by omega)⟩
  rintro j self x s ⟨i, hi, rfl, L1, L2, L3, L4, L5⟩ ih
  by_cases c : 6 ≤ i
  · rw [if_pos (show (6 : Int32) ≤ nI i from (leN (a := 6) (b := i) (by omega) (by omega)).mpr c)]
    have : i = 6 := by omega
    subst this
    simp only [lt_eq, cl0, cl1]
    obtain ⟨σ', e1, e2, e3, e4, e5⟩ := plainTried_eq (sA (sA (sA (sA (sA (sA s 0 54 1 (gA s 0 54 0)) 0 55 1 (gA (sA s 0 54 1 (gA s 0 54 0)) 0 55 0)) 0 56 1 (gA (sA (sA s 0 54 1 (gA s 0 54 0)) 0 55 1 (gA (sA s 0 54 1 (gA s 0 54 0)) 0 55 0)) 0 56 0)) 0 57 1 (vp_nar .boolean (gA (sA (sA (sA s 0 54 1 (gA s 0 54 0)) 0 55 1 (gA (sA s 0 54 1 (gA s 0 54 0)) 0 55 0)) 0 56 1 (gA (sA (sA s 0 54 1 (gA s 0 54 0)) 0 55 1 (gA (sA s 0 54 1 (gA s 0 54 0)) 0 55 0)) 0 56 0)) 0 57 0))) 0 58 1 (gA (sA (sA (sA (sA s 0 54 1 (gA s 0 54 0)) 0 55 1 (gA (sA s 0 54 1 (gA s 0 54 0)) 0 55 0)) 0 56 1 (gA (sA (sA s 0 54 1 (gA s 0 54 0)) 0 55 1 (gA (sA s 0 54 1 (gA s 0 54 0)) 0 55 0)) 0 56 0)) 0 57 1 (vp_nar .boolean (gA (sA (sA (sA s 0 54 1 (gA s 0 54 0)) 0 55 1 (gA (sA s 0 54 1 (gA s 0 54 0)) 0 55 0)) 0 56 1 (gA (sA (sA s 0 54 1 (gA s 0 54 0)) 0 55 1 (gA (sA s 0 54 1 (gA s 0 54 0)) 0 55 0)) 0 56 0)) 0 57 0))) 0 58 0)) 0 59 1 (gA (sA (sA (sA (sA (sA s 0 54 1 (gA s 0 54 0)) 0 55 1 (gA (sA s 0 54 1 (gA s 0 54 0)) 0 55 0)) 0 56 1 (gA (sA (sA s 0 54 1 (gA s 0 54 0)) 0 55 1 (gA (sA s 0 54 1 (gA s 0 54 0)) 0 55 0)) 0 56 0)) 0 57 1 (vp_nar .boolean (gA (sA (sA (sA s 0 54 1 (gA s 0 54 0)) 0 55 1 (gA (sA s 0 54 1 (gA s 0 54 0)) 0 55 0)) 0 56 1 (gA (sA (sA s 0 54 1 (gA s 0 54 0)) 0 55 1 (gA (sA s 0 54 1 (gA s 0 54 0)) 0 55 0)) 0 56 0)) 0 57 0))) 0 58 1 (gA (sA (sA (sA (sA s 0 54 1 (gA s 0 54 0)) 0 55 1 (gA (sA s 0 54 1 (gA s 0 54 0)) 0 55 0)) 0 56 1 (gA (sA (sA s 0 54 1 (gA s 0 54 0)) 0 55 1 (gA (sA s 0 54 1 (gA s 0 54 0)) 0 55 0)) 0 56 0)) 0 57 1 (vp_nar .boolean (gA (sA (sA (sA s 0 54 1 (gA s 0 54 0)) 0 55 1 (gA (sA s 0 54 1 (gA s 0 54 0)) 0 55 0)) 0 56 1 (gA (sA (sA s 0 54 1 (gA s 0 54 0)) 0 55 1 (gA (sA s 0 54 1 (gA s 0 54 0)) 0 55 0)) 0 56 0)) 0 57 0))) 0 58 0)) 0 59 0))
    rw [e1, bVs]
    refine ⟨σ', rfl, e2, fun k hk => by rw [e3 k hk]; exact congrFun (congrFun L1 0) k, by rw [e5]; exact L2, fun k hk => ?_, fun k j h1 h2 h3 => ?_, fun k h1 h2 => ?_⟩
    · rw [e4]
      simp (disch := omega) only [sA, gAn]
      exact L3 k (by omega)
    · rw [e4]
      simp (disch := omega) only [sA, gAn]
      exact ⟨L4 k j h1 h2 (by omega), L5 k j h1 h2 h3⟩
    · rw [e4]
      obtain rfl | rfl | rfl | rfl | rfl | rfl : k = 54 ∨ k = 55 ∨ k = 56 ∨ k = 57 ∨ k = 58 ∨ k = 59 := by omega
      all_goals simp (disch := omega) only [sA, gAn, gAe, upd_at, L3 54 (by omega), L3 55 (by omega), L3 56 (by omega), L3 57 (by omega), L3 58 (by omega), L3 59 (by omega)]
      all_goals simp
  · rw [if_neg (show ¬ (6 : Int32) ≤ nI i from fun z => c ((leN (a := 6) (b := i) (by omega) (by omega)).mp z))]
    simp only [lt_eq, show (6 : Int32) + nI i = nI (6 + i) from by rw [show (6 : Int32) = nI 6 from rfl, nI_add], gdN (show i < 12 by omega) (show 12 ≤ 1000000 by omega), gdN (show 6 + i < 12 by omega) (show 12 ≤ 1000000 by omega), clN (show i < 1000000 by omega), clN (show 6 + i < 1000000 by omega)]
    refine ih (j - 1) _ _ (by omega) ⟨i + 1, by omega, nI_1 i, L1, L2, fun k hk => ?_, fun k q h1 h2 h3 => ?_, fun k q h1 h2 h3 => ?_⟩
    · simp (disch := omega) only [sA, gAn]
      exact L3 k hk
    · obtain rfl | rfl | rfl | rfl | rfl | rfl | rfl | rfl : k = 46 ∨ k = 47 ∨ k = 48 ∨ k = 49 ∨ k = 50 ∨ k = 51 ∨ k = 52 ∨ k = 53 := by omega
      all_goals simp (disch := omega) only [sA, gAn, gAe, upd_at, if_neg (show ¬ q = 6 + i by omega)]
      all_goals exact L4 _ q h1 h2 (by omega)
    · by_cases e : q = i
      · subst e
        have v : ∀ k, 46 ≤ k → k ≤ 53 → gA s 0 k q = gA σ 0 k q := fun k k1 k2 => L4 k q k1 k2 (by omega)
        obtain rfl | rfl | rfl | rfl | rfl | rfl | rfl | rfl : k = 46 ∨ k = 47 ∨ k = 48 ∨ k = 49 ∨ k = 50 ∨ k = 51 ∨ k = 52 ∨ k = 53 := by omega
        all_goals simp (disch := omega) only [sA, gAn, gAe, upd_at, if_true]
        all_goals rw [v _ h1 h2]
        all_goals rfl
      · obtain rfl | rfl | rfl | rfl | rfl | rfl | rfl | rfl : k = 46 ∨ k = 47 ∨ k = 48 ∨ k = 49 ∨ k = 50 ∨ k = 51 ∨ k = 52 ∨ k = 53 := by omega
        all_goals simp (disch := omega) only [sA, gAn, gAe, upd_at, if_neg (show ¬ 6 + q = 6 + i by omega)]
        all_goals exact L5 _ q h1 h2 (by omega)
/-- a copy: sale p to o, slot b' to b -/
theorem SR.cp {n BM Y o p b b' : Nat} {σB σM σB' σM' : St} (h : SR n BM Y σB p σM b') (hA : ∀ k j, k < 5 → j < n → gA σB' o k j = gA σB p k j) (hI : ∀ k, (k = 6 ∨ isS k) → gI σB' o k = gI σB p k) (hM : ∀ k j, 46 ≤ k → k ≤ 51 → j < n → gA σM' 0 k (6 * b + j) = gA σM 0 k (6 * b' + j)) (hM2 : ∀ k, 54 ≤ k → k ≤ 59 → gA σM' 0 k b = gA σM 0 k b') : SR n BM Y σB' o σM' b := by
  obtain ⟨h1, ⟨m, h2, h3, h4⟩, h5, h6, h7, h8, h9, h10, h11, h12⟩ := h
  have i8 : isS 8 := by unfold isS; omega
  have i9 : isS 9 := by unfold isS; omega
  have i10 : isS 10 := by unfold isS; omega
  have i14 : isS 14 := by unfold isS; omega
  refine ⟨fun k hk j hj => ?_, ⟨m, h2, ?_, fun j hj => ?_⟩, fun k hk => ?_, fun j hj => ?_, fun j hj => ?_, fun j hj => ?_, ?_, ?_, ?_, ?_⟩
  · have := fm_le k hk
    rw [hA k j hk hj, hM (fm k) j (by omega) (by omega) hj]
    exact h1 k hk j hj
  · rw [hI 6 (Or.inl rfl)]; exact h3
  · rw [hM 49 j (by omega) (by omega) hj]; exact h4 j hj
  · have := sm_le k
    rw [hI k (Or.inr hk), hM2 (sm k) this.1 this.2]
    exact h5 k hk
  · rw [hA 0 j (by omega) hj]; exact h6 j hj
  · rw [hA 1 j (by omega) hj]; exact h7 j hj
  · rw [hA 2 j (by omega) hj]; exact h8 j hj
  · rw [hI 8 (Or.inr i8)]; exact h9
  · rw [hI 9 (Or.inr i9)]; exact h10
  · rw [hI 10 (Or.inr i10)]; exact h11
  · rw [hI 14 (Or.inr i14)]; exact h12
theorem SR.bool {n BM Y o b : Nat} {σB σM : St} (h : SR n BM Y σB o σM b) {j : Nat} (hj : j < n) : gA σM 0 49 (6 * b + j) = 0 ∨ gA σM 0 49 (6 * b + j) = 1 := by
  obtain ⟨-, ⟨m, h2, h3, h4⟩, -⟩ := h
  rw [h4 j hj]
  split <;> simp
/-- slot 1 laid by the reference -/
theorem lay_sim {n BM Y o p : Nat} {σB σM σB' σM' : St} (S : SR n BM Y σB p σM 0) (hn6 : n ≤ 6) (hA : ∀ k j, k < 6 → j < 6 → gA σB' o k j = gA σB p k j) (hI : ∀ k, 6 ≤ k → k ≤ 14 → gI σB' o k = gI σB p k) (h1 : ∀ k j, 46 ≤ k → k ≤ 53 → j < 6 → gA σM' 0 k j = gA σM 0 k j ∧ gA σM' 0 k (6 + j) = nrw k (gA σM 0 k j)) (h2 : ∀ k, 54 ≤ k → k ≤ 59 → gA σM' 0 k 0 = gA σM 0 k 0 ∧ gA σM' 0 k 1 = if k = 57 then vp_nar .boolean (gA σM 0 k 0) else gA σM 0 k 0) : SR n BM Y σB' o σM' 1 := by
  refine S.cp (fun k j hk hj => hA k j (by omega) (by omega)) (fun k hk => hI k (by unfold isS at hk; omega) (by unfold isS at hk; omega)) (fun k j k1 k2 hj => ?_) (fun k k1 k2 => ?_)
  · have e := (h1 k j (by omega) (by omega) (by omega)).2
    rw [show 6 * 1 + j = 6 + j by omega, e, show 6 * 0 + j = j by omega]
    unfold nrw
    by_cases c : k = 49 ∨ k = 53
    · rw [if_pos c]
      have : k = 49 := by omega
      subst this
      have := S.bool hj
      rw [show 6 * 0 + j = j by omega] at this
      exact narB this
    · rw [if_neg c]
  · rw [(h2 k k1 k2).2]
    by_cases c : k = 57
    · rw [if_pos c]
      subst c
      have e : gI σB p 14 = gA σM 0 57 0 := S.2.2.1 14 (by unfold isS; omega)
      have := S.2.2.2.2.2.2.2.2.2
      rw [e] at this
      exact narB this
    · rw [if_neg c]
theorem try_sim {t : Bool} {n np : Nat} {σB σM : St} (R : REL0 t n np σB σM) : ∃ σB' σM', fX9_tryAsItGoes σB = some σB' ∧ fX10_layTried σM = some σM' ∧ CX t n np σB' σM' ∧ SR n 9999 9000 σB' 6 σM' 1 ∧ (∀ k, 61 ≤ k → k ≤ 65 → gI σM' 0 k = 0) ∧ qB σB σB' ∧ qM σM σM' ∧ gI σB' 6 13 = gI σB 5 13 := by
  obtain ⟨σ1, a1, a2, a3, a4, a5, a6, a7⟩ := asItGoes_eq σB (gR σB 0)
  have R' := R
  obtain ⟨h1, h2, h3, h4, -⟩ := R'
  have hf : gI σ1 5 14 = 0 ∨ gI σ1 5 14 = 1 := by rw [a5 5 (by omega)]; exact h4.2.2.2.2.2.2.2.2.2
  obtain ⟨σ2, b1, b2, b3, b4, b5, b6, b7⟩ := become_eq σ1 6 5 (by omega) hf
  obtain ⟨σM', l1, l2, l3, l4, l5, l6, l7⟩ := layTried_eq σM
  have QB : qB σB σ2 := by
    refine ⟨fun o o1 o2 o3 => ?_, fun o k o1 o2 o3 _ => ?_, fun k hk => ?_⟩
    · rw [b4 o o1, a5 o o3]
    · rw [b5 o o1, a6]
    · rw [b6, a3 k hk]
  have QM : qM σM σM' := ⟨fun k _ _ h => l3 k (by omega), fun k h _ => l5 k h, fun k j k1 k2 k3 => (l6 k j k1 k2 k3).1, fun k k1 k2 => (l7 k k1 k2).1, by rw [l4], by rw [l4]⟩
  have R2 := R.q QB QM
  refine ⟨σ2, σM', ?_, l1, ⟨R2.2.2.1, ?_, fun k k1 k2 => ?_, Or.inl (l2 61 (by omega) (by omega))⟩, ?_, l2, QB, QM, ?_⟩
  · unfold fX9_tryAsItGoes
    rw [a1, bVs, b1, bVs]
  · rw [b6, a2, h1]
  · rw [b4 14 (by omega), a4 k k1 k2, l2 (59 + k) (by omega) (by omega)]
  · refine lay_sim h4 h3.n6 (fun k j hk hj => ?_) (fun k k1 k2 => ?_) l6 l7
    · rw [b2 k j hk hj, a6]
    · rw [b3 k k1 k2, a5 5 (by omega)]
  · rw [b3 13 (by omega) (by omega), a5 5 (by omega)]
