theorem CX.of {t : Bool} {n np : Nat} {σB σM σB' σM' : St} (C : CX t n np σB σM) (hI : ∀ o, o ≠ 14 → o ≠ 6 → gI σB' o = gI σB o) (hA : ∀ o, o ≠ 6 → gA σB' o = gA σB o) (hR : gR σB' 2 = gR σB 2) (hM : ∀ k, (k < 61 ∨ 65 < k) → gI σM' 0 k = gI σM 0 k) (hMA : ∀ k, k < 46 → gA σM' 0 k = gA σM 0 k) (F : FL σB' σM') (h61 : gI σM' 0 61 = 0 ∨ gI σM' 0 61 = 1) : CX t n np σB' σM' := by
  have a1 := tx_le t
  have a2 := lw_le t
  exact ⟨C.1.cg (hI _ (by omega) (by omega)) (by rw [hI _ (by omega) (by omega)]) (hA _ (by omega)) (hA _ (by omega)) (fun k k1 k2 => hM k (by omega)) (fun k k1 k2 => hMA k (by omega)), by rw [hR]; exact C.2.1, F, h61⟩
theorem SR.allB {n BM Y o b : Nat} {σB σM σB' σM' : St} (S : SR n BM Y σB o σM b) (x : Int32) (hA : ∀ k, k < 5 → k ≠ 0 → gA σB' o k = gA σB o k) (h0 : ∀ j, j < n → gA σB' o 0 j = x) (hI : gI σB' o = gI σB o) (hM : ∀ k, k ≠ 46 → gA σM' 0 k = gA σM 0 k) (h46 : ∀ j, j < n → gA σM' 0 46 (6 * b + j) = x) (hx : ∃ v, v ≤ BM ∧ x = nI v) : SR n BM Y σB' o σM' b := by
  obtain ⟨h1, ⟨m, h2, h3, h4⟩, h5, h6, h7, h8, h9, h10, h11, h12⟩ := S
  refine ⟨fun k hk j hj => ?_, ⟨m, h2, ?_, fun j hj => ?_⟩, fun k hk => ?_, fun j hj => ?_, ?_, ?_, ?_, ?_, ?_, ?_⟩
  · by_cases e : k = 0
    · subst e
      rw [h0 j hj]
      exact (h46 j hj).symm
    · have := fm_inj (k := 0) (k' := k) (by omega) hk
      rw [hA k hk e, hM (fm k) (fun z => e (this.mp z))]
      exact h1 k hk j hj
  · rw [hI]; exact h3
  · rw [hM 49 (by omega)]; exact h4 j hj
  · have := sm_le k
    rw [hI, hM (sm k) (by omega)]
    exact h5 k hk
  · obtain ⟨v, hv, e⟩ := hx
    exact ⟨v, by omega, hv, by rw [h0 j hj]; exact e⟩
  · rw [hA 1 (by omega) (by omega)]; exact h7
  · rw [hA 2 (by omega) (by omega)]; exact h8
  · rw [hI]; exact h9
  · rw [hI]; exact h10
  · rw [hI]; exact h11
  · rw [hI]; exact h12
theorem setAll_eq (σ : St) (o : Nat) (x : Int32) : ∃ σ', fX4_setAllBounds σ o x = some σ' ∧ gI σ' = gI σ ∧ gR σ' = gR σ ∧ gJ σ' = gJ σ ∧ (∀ o' k, ¬ (o' = o ∧ k = 0) → gA σ' o' k = gA σ o' k) ∧ ∀ j, j < 6 → gA σ' o 0 j = x := by
  unfold fX4_setAllBounds
  generalize hFU : FU = Z
  refine lpx2_wp (fun q => ∃ σ', q = some σ' ∧ gI σ' = gI σ ∧ gR σ' = gR σ ∧ gJ σ' = gJ σ ∧ (∀ o' k, ¬ (o' = o ∧ k = 0) → gA σ' o' k = gA σ o' k) ∧ ∀ j, j < 6 → gA σ' o 0 j = x) (fun j y s => ∃ i, i + j = 6 ∧ y = nI i ∧ gI s = gI σ ∧ gR s = gR σ ∧ gJ s = gJ σ ∧ (∀ o' k, ¬ (o' = o ∧ k = 0) → gA s o' k = gA σ o' k) ∧ ∀ j, j < i → gA s o 0 j = x) ?_ Z 6 0 σ (by rw [← hFU]; exact FU_gt (by omega)) ⟨0, by omega, rfl, rfl, rfl, rfl, fun _ _ _ => rfl, fun j hj => by omega⟩
  rintro j self y s ⟨i, hi, rfl, h1, h2, h3, h4, h5⟩ ih
  by_cases c : 6 ≤ i
  · rw [if_pos (show (6 : Int32) ≤ nI i from (leN (a := 6) (b := i) (by omega) (by omega)).mpr c)]
    exact ⟨s, rfl, h1, h2, h3, h4, fun j hj => h5 j (by omega)⟩
  · rw [if_neg (show ¬ (6 : Int32) ≤ nI i from fun z => c ((leN (a := 6) (b := i) (by omega) (by omega)).mp z)), gdN (show i < 6 by omega) (by omega), clN (by omega)]
    simp only [lt_eq]
    refine ih (j - 1) _ _ (by omega) ⟨i + 1, by omega, nI_1 i, h1, h2, h3, fun o' k hk => ?_, fun q hq => ?_⟩
    · rw [gA_sAr, if_neg hk]
      exact h4 o' k hk
    · rw [gAe, upd_at]
      split
      · rfl
      · exact h5 q (by omega)
/-- tried otherwise: the end of both sides -/
theorem triedEnd {t : Bool} {n np k : Nat} {σB σM : St} (R : REL0 t n np σB σM) (C : CX t n np σB σM) (S : SR n 9999 9000 σB 6 σM 1) (h61 : gI σM 0 61 = 0) (hk : k < 1000) : SIM (fun q q' => q.1 = q'.1 ∧ REL q.2 q'.2) (bV (fX0_passYears σB 6 (nI k)) fun σ16 => some (gI σ16 6 9, σ16)) (bV (fX10_goMany σM (nI k)) fun σ33 => bV (fX10_plainTried σ33) fun σ35 => some (gA σ35 0 54 1, σ35)) := by
  obtain ⟨σB2, σM2, g1, g2, g3, g4, g5, g6⟩ := go_sim R C S h61 hk
  obtain ⟨σM3, p1, p2, p3, p4, p5⟩ := plainTried_eq σM2
  rw [g1, g2, bVs, bVs, p1, bVs]
  refine SIM.ret ⟨?_, (g4.q (qB.rf _) (qM.pt p3 p4 p5)).r⟩
  show gI σB2 6 9 = gA σM3 0 54 1
  rw [p4]
  exact g3.sc 9 (by unfold isS; omega) (by omega)
theorem fl4 {σ : St} {a b c d : Int32} (h61 : gI σ 0 61 = 0) : gI (sI (sI (sI (sI σ 0 62 a) 0 63 b) 0 65 c) 0 64 d) 0 61 = 0 ∧ gI (sI (sI (sI (sI σ 0 62 a) 0 63 b) 0 65 c) 0 64 d) 0 62 = a ∧ gI (sI (sI (sI (sI σ 0 62 a) 0 63 b) 0 65 c) 0 64 d) 0 63 = b ∧ gI (sI (sI (sI (sI σ 0 62 a) 0 63 b) 0 65 c) 0 64 d) 0 64 = d ∧ gI (sI (sI (sI (sI σ 0 62 a) 0 63 b) 0 65 c) 0 64 d) 0 65 = c ∧ (∀ k, (k < 61 ∨ 65 < k) → gI (sI (sI (sI (sI σ 0 62 a) 0 63 b) 0 65 c) 0 64 d) 0 k = gI σ 0 k) := by
  refine ⟨?_, ?_, ?_, ?_, ?_, fun k hk => ?_⟩
  · simp (disch := omega) only [gIn]; exact h61
  · simp (disch := omega) only [gIe, gIn]
  · simp (disch := omega) only [gIe, gIn]
  · simp (disch := omega) only [gIe, gIn]
  · simp (disch := omega) only [gIe, gIn]
  · simp (disch := omega) only [gIn]
/-- one flag of the class beside four of the reference -/
theorem triedFlag {t : Bool} {n np k kk : Nat} {σB σM : St} {a b c d x : Int32} (R : REL0 t n np σB σM) (C : CX t n np σB σM) (S : SR n 9999 9000 σB 6 σM 1) (h0 : ∀ k, 61 ≤ k → k ≤ 65 → gI σM 0 k = 0) (hk : k < 1000) (hkk : 3 ≤ kk ∧ kk ≤ 6) (ha : a = if kk = 3 then x else 0) (hb : b = if kk = 4 then x else 0) (hd : d = if kk = 5 then x else 0) (hc : c = if kk = 6 then x else 0) : SIM (fun q q' => q.1 = q'.1 ∧ REL q.2 q'.2) (bV (fX0_passYears (sI σB 14 kk x) 6 (nI k)) fun σ16 => some (gI σ16 6 9, σ16)) (bV (fX10_goMany (sI (sI (sI (sI σM 0 62 a) 0 63 b) 0 65 c) 0 64 d) (nI k)) fun σ33 => bV (fX10_plainTried σ33) fun σ35 => some (gA σ35 0 54 1, σ35)) := by
  obtain ⟨f1, f2, f3, f4, f5, f6⟩ := fl4 (σ := σM) (a := a) (b := b) (c := c) (d := d) (h0 61 (by omega) (by omega))
  have QM : qM σM (sI (sI (sI (sI σM 0 62 a) 0 63 b) 0 65 c) 0 64 d) := qM.pt f6 rfl rfl
  have z : ∀ q, 2 ≤ q → q ≤ 6 → gI σB 14 q = 0 := fun q q1 q2 => by rw [C.2.2.1 q q1 q2]; exact h0 (59 + q) (by omega) (by omega)
  refine triedEnd (R.q (qB.flag σB kk x) QM) (C.of (fun o h1 h2 => by funext k'; exact gIo h1) (fun o h1 => rfl) rfl f6 (fun k _ => rfl) (fun q q1 q2 => ?_) (Or.inl f1)) (S.cg ⟨fun _ _ => rfl, fun k _ _ => gIo (by omega)⟩ (agM.wG rfl)) f1 hk
  obtain rfl | rfl | rfl | rfl | rfl : q = 2 ∨ q = 3 ∨ q = 4 ∨ q = 5 ∨ q = 6 := by omega
  · rw [gIn (by omega), z 2 (by omega) (by omega)]
    exact f1.symm
  · rw [show 59 + 3 = 62 from rfl, f2, ha, gI_sI]
    by_cases e : kk = 3
    · rw [if_pos e, if_pos ⟨rfl, e.symm⟩]
    · rw [if_neg e, if_neg (fun w => e w.2.symm)]; exact z 3 (by omega) (by omega)
  · rw [show 59 + 4 = 63 from rfl, f3, hb, gI_sI]
    by_cases e : kk = 4
    · rw [if_pos e, if_pos ⟨rfl, e.symm⟩]
    · rw [if_neg e, if_neg (fun w => e w.2.symm)]; exact z 4 (by omega) (by omega)
  · rw [show 59 + 5 = 64 from rfl, f4, hd, gI_sI]
    by_cases e : kk = 5
    · rw [if_pos e, if_pos ⟨rfl, e.symm⟩]
    · rw [if_neg e, if_neg (fun w => e w.2.symm)]; exact z 5 (by omega) (by omega)
  · rw [show 59 + 6 = 65 from rfl, f5, hc, gI_sI]
    by_cases e : kk = 6
    · rw [if_pos e, if_pos ⟨rfl, e.symm⟩]
    · rw [if_neg e, if_neg (fun w => e w.2.symm)]; exact z 6 (by omega) (by omega)
def trM (a0 a2 : Int32) (σ26 : St) : Option (Int32 × St) := lpx2 FU (fun self29 (x27 : Int32) (σ28 : St) => jnx1 (fun (u9 : Unit) => bV (fX10_goMany σ28 a2) fun σ33 => bV (fX10_plainTried σ33) fun σ35 => some ((gA σ35 0 54 (Int32.toNatClampNeg (1 : Int32))), σ35)) fun J31 => if (6 : Int32) ≤ x27 then (J31 ()) else (if a0 = (4 : Int32) then (gd (ixI ((6 : Int32) + x27) 12) (lt (sA σ28 0 46 (Int32.toNatClampNeg ((6 : Int32) + x27)) (999 : Int32)) fun σ39 => lt (x27 + (1 : Int32)) fun x40 => self29 x40 σ39)) else (J31 ()))) (0 : Int32) σ26
theorem trM_no {a0 a2 : Int32} {σ : St} (h : ¬ a0 = 4) : trM a0 a2 σ = bV (fX10_goMany σ a2) fun σ33 => bV (fX10_plainTried σ33) fun σ35 => some (gA σ35 0 54 1, σ35) := by
  unfold trM
  generalize hFU : FU = Z
  refine lpx2_wp (fun q => q = bV (fX10_goMany σ a2) fun σ33 => bV (fX10_plainTried σ33) fun σ35 => some (gA σ35 0 54 1, σ35)) (fun j x s => x = 0 ∧ s = σ) ?_ Z 0 0 σ (by rw [← hFU]; exact FU_gt (by omega)) ⟨rfl, rfl⟩
  rintro j self x s ⟨rfl, rfl⟩ ih
  simp only [jnx1_eq, cl1]
  rw [if_neg (show ¬ (6 : Int32) ≤ 0 by decide), if_neg h]
theorem trM_yes {a2 : Int32} {σ : St} : ∃ σ', trM 4 a2 σ = (bV (fX10_goMany σ' a2) fun σ33 => bV (fX10_plainTried σ33) fun σ35 => some (gA σ35 0 54 1, σ35)) ∧ gI σ' = gI σ ∧ gJ σ' = gJ σ ∧ (∀ k, k ≠ 46 → gA σ' 0 k = gA σ 0 k) ∧ (∀ j, j < 6 → gA σ' 0 46 j = gA σ 0 46 j ∧ gA σ' 0 46 (6 + j) = 999) := by
  unfold trM
  generalize hFU : FU = Z
  refine lpx2_wp (fun q => ∃ σ', q = (bV (fX10_goMany σ' a2) fun σ33 => bV (fX10_plainTried σ33) fun σ35 => some (gA σ35 0 54 1, σ35)) ∧ gI σ' = gI σ ∧ gJ σ' = gJ σ ∧ (∀ k, k ≠ 46 → gA σ' 0 k = gA σ 0 k) ∧ (∀ j, j < 6 → gA σ' 0 46 j = gA σ 0 46 j ∧ gA σ' 0 46 (6 + j) = 999)) (fun j x s => ∃ i, i + j = 6 ∧ x = nI i ∧ gI s = gI σ ∧ gJ s = gJ σ ∧ (∀ k, k ≠ 46 → gA s 0 k = gA σ 0 k) ∧ (∀ j, j < 6 → gA s 0 46 j = gA σ 0 46 j) ∧ (∀ j, j < i → gA s 0 46 (6 + j) = 999)) ?_ Z 6 0 σ (by rw [← hFU]; exact FU_gt (by omega)) ⟨0, by omega, rfl, rfl, rfl, fun _ _ => rfl, fun _ _ => rfl, fun j hj => by omega⟩
  rintro j self x s ⟨i, hi, rfl, h1, h2, h3, h4, h5⟩ ih
  simp only [jnx1_eq, cl1]
  by_cases c : 6 ≤ i
  · rw [if_pos (show (6 : Int32) ≤ nI i from (leN (a := 6) (b := i) (by omega) (by omega)).mpr c)]
    exact ⟨s, rfl, h1, h2, h3, fun j hj => ⟨h4 j hj, h5 j (by omega)⟩⟩
  · rw [if_neg (show ¬ (6 : Int32) ≤ nI i from fun z => c ((leN (a := 6) (b := i) (by omega) (by omega)).mp z)), if_pos trivial, six1, gdN (show 6 + i < 12 by omega) (by omega), clN (by omega)]
    simp only [lt_eq]
    refine ih (j - 1) _ _ (by omega) ⟨i + 1, by omega, nI_1 i, h1, h2, fun k hk => ?_, fun q hq => ?_, fun q hq => ?_⟩
    · rw [gAn hk]; exact h3 k hk
    · rw [gAe, upd_at, if_neg (by omega)]; exact h4 q hq
    · rw [gAe, upd_at]
      split
      · rfl
      · exact h5 q (by omega)
set_option maxHeartbeats 1000000 in
theorem triedCore {t : Bool} {n np k w : Nat} {σB σM : St} {a0 a1 : Int32} (R : REL0 t n np σB σM) (hk : k ≤ 99) (hw : w ≤ 4) (ha : a0 = nI w) : SIM (fun q q' => q.1 = q'.1 ∧ REL q.2 q'.2)
    (bV (fX9_tryAsItGoes σB) fun σ12 => if a0 = 0 then (bV (fX0_passYears (sI σ12 14 3 1) 6 (nI k)) fun σ16 => some (gI σ16 6 9, σ16)) else if a0 = 1 then (bV (fX0_passYears (sI σ12 14 4 1) 6 (nI k)) fun σ16 => some (gI σ16 6 9, σ16)) else if a0 = 2 then (bV (fX0_passYears (sI σ12 14 6 ((1 : Int32) <<< (a1 &&& 31))) 6 (nI k)) fun σ16 => some (gI σ16 6 9, σ16)) else if a0 = 3 then (bV (fX0_passYears (sI σ12 14 5 1) 6 (nI k)) fun σ16 => some (gI σ16 6 9, σ16)) else (bV (fX4_setAllBounds σ12 6 (999 : Int32)) fun σ26 => bV (fX0_passYears σ26 6 (nI k)) fun σ16 => some (gI σ16 6 9, σ16)))
    (bV (fX10_layTried σM) fun σ11 => trM a0 (nI k) (sI (sI (sI (sI σ11 0 62 (if a0 = 0 then 1 else 0)) 0 63 (if a0 = 1 then 1 else 0)) 0 65 (if a0 = 2 then (1 : Int32) <<< (a1 &&& 31) else 0)) 0 64 (if a0 = 3 then 1 else 0))) := by
  obtain ⟨σB1, σM1, e1, e2, e3, e4, e5, e6, e7, e8⟩ := try_sim R
  rw [e1, e2, bVs, bVs]
  have R1 := R.q e6 e7
  have ne : ∀ a b : Nat, a ≤ 4 → b ≤ 4 → a ≠ b → ¬ nI a = nI b := fun a b h1 h2 h3 z => h3 ((eqN (by omega) (by omega)).mp z)
  obtain rfl | rfl | rfl | rfl | rfl : w = 0 ∨ w = 1 ∨ w = 2 ∨ w = 3 ∨ w = 4 := by omega
  · have h0 : a0 = 0 := ha
    subst h0
    rw [trM_no (by decide), if_pos rfl]
    exact triedFlag R1 e3 e4 e5 (by omega) (by omega) (by decide) (by decide) (by decide) (if_neg (by decide))
  · have h0 : a0 = 1 := ha
    subst h0
    rw [trM_no (by decide), if_neg (show ¬ (1 : Int32) = 0 by decide), if_pos rfl]
    exact triedFlag R1 e3 e4 e5 (by omega) (by omega) (by decide) (by decide) (by decide) (if_neg (by decide))
  · have h0 : a0 = 2 := ha
    subst h0
    rw [trM_no (by decide), if_neg (show ¬ (2 : Int32) = 0 by decide), if_neg (show ¬ (2 : Int32) = 1 by decide), if_pos rfl]
    exact triedFlag R1 e3 e4 e5 (by omega) (by omega) (by rw [if_neg (by decide), if_neg (by decide)]) (by rw [if_neg (by decide), if_neg (by decide)]) (by rw [if_neg (by decide), if_neg (by decide)]) (by rw [if_pos rfl, if_pos rfl])
  · have h0 : a0 = 3 := ha
    subst h0
    rw [trM_no (by decide), if_neg (show ¬ (3 : Int32) = 0 by decide), if_neg (show ¬ (3 : Int32) = 1 by decide), if_neg (show ¬ (3 : Int32) = 2 by decide), if_pos rfl]
    exact triedFlag R1 e3 e4 e5 (by omega) (by omega) (by decide) (by decide) (by decide) (if_neg (by decide))
  · have h0 : a0 = 4 := ha
    subst h0
    rw [if_neg (show ¬ (4 : Int32) = 0 by decide), if_neg (show ¬ (4 : Int32) = 1 by decide), if_neg (show ¬ (4 : Int32) = 2 by decide), if_neg (show ¬ (4 : Int32) = 3 by decide)]
    simp only [if_neg (show ¬ (4 : Int32) = 0 by decide), if_neg (show ¬ (4 : Int32) = 1 by decide), if_neg (show ¬ (4 : Int32) = 2 by decide), if_neg (show ¬ (4 : Int32) = 3 by decide)]
    obtain ⟨f1, f2, f3, f4, f5, f6⟩ := fl4 (σ := σM1) (a := 0) (b := 0) (c := 0) (d := 0) (e5 61 (by omega) (by omega))
    have fa : gA (sI (sI (sI (sI σM1 0 62 0) 0 63 0) 0 65 0) 0 64 0) = gA σM1 := rfl
    have fj : gJ (sI (sI (sI (sI σM1 0 62 0) 0 63 0) 0 65 0) 0 64 0) = gJ σM1 := rfl
    generalize sI (sI (sI (sI σM1 0 62 0) 0 63 0) 0 65 0) 0 64 0 = σ26 at *
    obtain ⟨σM2, m1, m2, m3, m4, m5⟩ := trM_yes (a2 := nI k) (σ := σ26)
    obtain ⟨σB2, b1, b2, b3, b4, b5, b6⟩ := setAll_eq σB1 6 999
    rw [m1, b1, bVs]
    have QB : qB σB1 σB2 := ⟨fun o _ _ _ => by rw [b2], fun o k h1 _ _ _ => b5 o k (fun z => h1 z.1), fun k _ => by rw [b3]⟩
    have QM : qM σM1 σM2 := by
      refine ⟨fun k h1 h2 h3 => by rw [m2, f6 k (by omega)], fun k h1 _ => by rw [m4 k (by omega), fa], fun k j h1 h2 h3 => ?_, fun k h1 h2 => by rw [m4 k (by omega), fa], by rw [m3, fj], by rw [m3, fj]⟩
      by_cases e : k = 46
      · subst e
        rw [(m5 j h3).1, fa]
      · rw [m4 k e, fa]
    have z : ∀ q, 2 ≤ q → q ≤ 6 → gI σB1 14 q = 0 := fun q q1 q2 => by rw [e3.2.2.1 q q1 q2]; exact e5 (59 + q) (by omega) (by omega)
    have hn6 := R.2.2.1.n6
    refine triedEnd (R1.q QB QM) (e3.of (fun o h1 h2 => by rw [b2]) (fun o h1 => by funext k'; exact b5 o k' (fun z => h1 z.1)) (by rw [b3]) (fun k hk => by rw [m2, f6 k hk]) (fun k hk => by rw [m4 k (by omega), fa]) (fun q q1 q2 => ?_) (Or.inl (by rw [m2, f1]))) (e4.allB 999 (fun k h1 h2 => b5 6 k (fun z => h2 z.2)) (fun j hj => b6 j (by omega)) (by rw [b2]) (fun k hk => by rw [m4 k hk, fa]) (fun j hj => by rw [show 6 * 1 + j = 6 + j by omega]; exact (m5 j (by omega)).2) ⟨999, by omega, rfl⟩) (by rw [m2, f1]) (by omega)
    rw [b2, z q q1 q2, m2]
    obtain rfl | rfl | rfl | rfl | rfl : q = 2 ∨ q = 3 ∨ q = 4 ∨ q = 5 ∨ q = 6 := by omega
    · exact f1.symm
    · exact f2.symm
    · exact f3.symm
    · exact f4.symm
    · exact f5.symm
