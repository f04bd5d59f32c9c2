theorem min_eq {c s : Nat} (hc : c < 100000) (hs : s < 1000000) : iMin (nI c) (nI s) = nI (if s ≤ c then s else c) ∧ (if nI s ≤ nI c then nI s else nI c) = nI (if s ≤ c then s else c) := by
  unfold iMin
  constructor
  · by_cases h : s < c
    · rw [if_pos ((ltN (by omega) (by omega)).mpr h), if_pos (by omega)]
    · rw [if_neg (fun z => h ((ltN (by omega) (by omega)).mp z))]
      by_cases h2 : s ≤ c
      · rw [if_pos h2, show c = s by omega]
      · rw [if_neg h2]
  · by_cases h : s ≤ c
    · rw [if_pos h, if_pos ((leN (by omega) (by omega)).mpr h)]
    · rw [if_neg h, if_neg (fun z => h ((leN (by omega) (by omega)).mp z))]
set_option maxHeartbeats 1000000 in
/-- a marriage: both sides -/
theorem wed_sim {n BM Y o b i j : Nat} {σB σM : St} (hn6 : n ≤ 6) (S : SR n BM Y σB o σM b) (hBM : 9999 ≤ BM ∧ BM ≤ 20000) (hb : b < 2) (hi : i < n) (hj : j < n) (hij : i ≠ j) :
    ∃ σB' σM', fX4_wed σB o (nI i) (nI j) = some σB' ∧ fX10_marries σM (nI b) (nI i) (nI j) = some σM' ∧ SR n BM Y σB' o σM' b ∧ frB o σB σB' ∧ frM b σM σM' ∧ frP σM σM' ∧ gI σB' o 13 = gI σB o 13 ∧ gJ σM' = gJ σM ∧ (∀ k j', k < 5 → j' ≠ i → gA σB' o k j' = gA σB o k j') ∧ (∀ k, k = 8 ∨ k = 12 ∨ k = 14 → gI σB' o k = gI σB o k) ∧ gA σB' o 1 = gA σB o 1 := by
  have hp6 := pow6 hn6
  obtain ⟨u, -, u1, u2⟩ := S.2.2.2.1 i hi
  obtain ⟨v, -, v1, v2⟩ := S.2.2.2.1 j hj
  have u3 : gA σM 0 46 (6 * b + i) = nI u := by rw [← u2]; exact (S.1 0 (by omega) i hi).symm
  have v3 : gA σM 0 46 (6 * b + j) = nI v := by rw [← v2]; exact (S.1 0 (by omega) j hj).symm
  obtain ⟨x1, x2⟩ := min_eq (c := 9999) (s := u + v) (by omega) (by omega)
  have x1' : iMin 9999 (nI (u + v)) = _ := x1
  have x2' : (if nI (u + v) ≤ 9999 then nI (u + v) else 9999) = _ := x2
  have pull : ∀ {β : Type} (K : Int32 → Option β) (c : Prop) [Decidable c] (x y : Int32), (if c then K x else K y) = K (if c then x else y) := fun K c _ x y => by split <;> rfl
  unfold fX4_wed fX10_marries
  simp only [lt_eq, six, jnx1_eq, clN (show i < 1000000 by omega), clN (show j < 1000000 by omega), clN (show b < 1000000 by omega), clN (show 6 * b + i < 1000000 by omega), clN (show 6 * b + j < 1000000 by omega), gdN (show i < 6 by omega) (show 6 ≤ 1000000 by omega), gdN (show j < 6 by omega) (show 6 ≤ 1000000 by omega), gdN (show b < 2 by omega) (show 2 ≤ 1000000 by omega), gdN (show 6 * b + i < 12 by omega) (show 12 ≤ 1000000 by omega), gdN (show 6 * b + j < 12 by omega) (show 12 ≤ 1000000 by omega), nar0]
  rw [u2, v2, u3, v3, nI_add, x1', pull (fun x5 => if gA (sA σM 0 46 (6 * b + i) x5) 0 48 (6 * b + i) + gA (sA σM 0 46 (6 * b + i) x5) 0 48 (6 * b + j) ≤ 9 then if gA (sA (sA (sA σM 0 46 (6 * b + i) x5) 0 48 (6 * b + i) (gA (sA σM 0 46 (6 * b + i) x5) 0 48 (6 * b + i) + gA (sA σM 0 46 (6 * b + i) x5) 0 48 (6 * b + j))) 0 49 (6 * b + j) 0) 0 55 b = nI j then some (sA (sA (sA (sA σM 0 46 (6 * b + i) x5) 0 48 (6 * b + i) (gA (sA σM 0 46 (6 * b + i) x5) 0 48 (6 * b + i) + gA (sA σM 0 46 (6 * b + i) x5) 0 48 (6 * b + j))) 0 49 (6 * b + j) 0) 0 55 b (nI i)) else some (sA (sA (sA (sA σM 0 46 (6 * b + i) x5) 0 48 (6 * b + i) (gA (sA σM 0 46 (6 * b + i) x5) 0 48 (6 * b + i) + gA (sA σM 0 46 (6 * b + i) x5) 0 48 (6 * b + j))) 0 49 (6 * b + j) 0) 0 55 b (gA (sA (sA (sA σM 0 46 (6 * b + i) x5) 0 48 (6 * b + i) (gA (sA σM 0 46 (6 * b + i) x5) 0 48 (6 * b + i) + gA (sA σM 0 46 (6 * b + i) x5) 0 48 (6 * b + j))) 0 49 (6 * b + j) 0) 0 55 b)) else if gA (sA (sA (sA σM 0 46 (6 * b + i) x5) 0 48 (6 * b + i) 9) 0 49 (6 * b + j) 0) 0 55 b = nI j then some (sA (sA (sA (sA σM 0 46 (6 * b + i) x5) 0 48 (6 * b + i) 9) 0 49 (6 * b + j) 0) 0 55 b (nI i)) else some (sA (sA (sA (sA σM 0 46 (6 * b + i) x5) 0 48 (6 * b + i) 9) 0 49 (6 * b + j) 0) 0 55 b (gA (sA (sA (sA σM 0 46 (6 * b + i) x5) 0 48 (6 * b + i) 9) 0 49 (6 * b + j) 0) 0 55 b))), x2']
  have hw : (if u + v ≤ 9999 then u + v else 9999) ≤ 9999 := by split <;> omega
  generalize (if u + v ≤ 9999 then u + v else 9999) = w at hw
  have S1 : SR n BM Y (sA σB o 0 i (nI w)) o (sA σM 0 46 (6 * b + i) (nI w)) b := S.setA 0 i _ (by omega) ⟨fun _ => ⟨w, by omega, by omega, rfl⟩, fun z => by omega, fun z => by omega⟩
  have fB1 : frB o σB (sA σB o 0 i (nI w)) := frB.wA _ _ _ _ (by omega)
  have fM1 : frM b σM (sA σM 0 46 (6 * b + i) (nI w)) := frM.wA _ _ _ _ (Or.inl ⟨by omega, by omega, by omega, by omega⟩)
  have fP1 : frP σM (sA σM 0 46 (6 * b + i) (nI w)) := frP.wA _ _ _ _ (by omega)
  have k1 : ∀ k j', k < 5 → j' ≠ i → gA (sA σB o 0 i (nI w)) o k j' = gA σB o k j' := fun k j' _ hj' => by
    by_cases e : k = 0
    · subst e
      rw [gAe, upd_at, if_neg hj']
    · rw [gAn e]
  have g1 : gI (sA σB o 0 i (nI w)) = gI σB := gIA _ _ _ _
  have j1 : gJ (sA σM 0 46 (6 * b + i) (nI w)) = gJ σM := gJA _ _ _ _
  have a1 : gA (sA σB o 0 i (nI w)) o 1 = gA σB o 1 := gAn (by omega)
  generalize sA σB o 0 i (nI w) = σ4 at *
  generalize sA σM 0 46 (6 * b + i) (nI w) = σ8 at *
  obtain ⟨p, -, p1, p2⟩ := S1.2.2.2.2.2.1 i hi
  obtain ⟨q, -, q1, q2⟩ := S1.2.2.2.2.2.1 j hj
  have p3 : gA σ8 0 48 (6 * b + i) = nI p := by rw [← p2]; exact (S1.1 2 (by omega) i hi).symm
  have q3 : gA σ8 0 48 (6 * b + j) = nI q := by rw [← q2]; exact (S1.1 2 (by omega) j hj).symm
  obtain ⟨y1, y2⟩ := min_eq (c := 9) (s := p + q) (by omega) (by omega)
  have y1' : iMin 9 (nI (p + q)) = _ := y1
  have y2' : (if nI (p + q) ≤ 9 then nI (p + q) else 9) = _ := y2
  rw [p2, q2, p3, q3, nI_add, y1', pull (fun x => if gA (sA (sA σ8 0 48 (6 * b + i) x) 0 49 (6 * b + j) 0) 0 55 b = nI j then some (sA (sA (sA σ8 0 48 (6 * b + i) x) 0 49 (6 * b + j) 0) 0 55 b (nI i)) else some (sA (sA (sA σ8 0 48 (6 * b + i) x) 0 49 (6 * b + j) 0) 0 55 b (gA (sA (sA σ8 0 48 (6 * b + i) x) 0 49 (6 * b + j) 0) 0 55 b))), y2']
  have hw2 : (if p + q ≤ 9 then p + q else 9) ≤ 9 := by split <;> omega
  generalize (if p + q ≤ 9 then p + q else 9) = w2 at hw2
  have S2 : SR n BM Y (sA σ4 o 2 i (nI w2)) o (sA σ8 0 48 (6 * b + i) (nI w2)) b := S1.setA 2 i _ (by omega) ⟨fun z => by omega, fun z => by omega, fun _ => ⟨w2, by omega, by omega, rfl⟩⟩
  have fB2 : frB o σ4 (sA σ4 o 2 i (nI w2)) := frB.wA _ _ _ _ (by omega)
  have fM2 : frM b σ8 (sA σ8 0 48 (6 * b + i) (nI w2)) := frM.wA _ _ _ _ (Or.inl ⟨by omega, by omega, by omega, by omega⟩)
  have fP2 : frP σ8 (sA σ8 0 48 (6 * b + i) (nI w2)) := frP.wA _ _ _ _ (by omega)
  have k2 : ∀ k j', k < 5 → j' ≠ i → gA (sA σ4 o 2 i (nI w2)) o k j' = gA σ4 o k j' := fun k j' _ hj' => by
    by_cases e : k = 2
    · subst e
      rw [gAe, upd_at, if_neg hj']
    · rw [gAn e]
  have g2 : gI (sA σ4 o 2 i (nI w2)) = gI σ4 := gIA _ _ _ _
  have j2 : gJ (sA σ8 0 48 (6 * b + i) (nI w2)) = gJ σ8 := gJA _ _ _ _
  have a2 : gA (sA σ4 o 2 i (nI w2)) o 1 = gA σ4 o 1 := gAn (by omega)
  generalize sA σ4 o 2 i (nI w2) = σ5 at *
  generalize sA σ8 0 48 (6 * b + i) (nI w2) = σ14 at *
  obtain ⟨m, m1, m2, m3⟩ := S2.2.1
  rw [end_eq m2 (by omega) (by omega), bVs]
  have S3 := S2.fin hn6 m2 m1 hj
  have fB3 : frB o σ5 (sI σ5 o 6 (nI (clr m j))) := frB.wI _ _ _ (by omega)
  have fM3 : frM b σ14 (sA σ14 0 49 (6 * b + j) 0) := frM.wA _ _ _ _ (Or.inl ⟨by omega, by omega, by omega, by omega⟩)
  have fP3 : frP σ14 (sA σ14 0 49 (6 * b + j) 0) := frP.wA _ _ _ _ (by omega)
  have k3 : gA (sI σ5 o 6 (nI (clr m j))) = gA σ5 := gAI _ _ _ _
  have g3 : ∀ k, k ≠ 6 → gI (sI σ5 o 6 (nI (clr m j))) o k = gI σ5 o k := fun k hk => gIn hk
  have j3 : gJ (sA σ14 0 49 (6 * b + j) 0) = gJ σ14 := gJA _ _ _ _
  generalize sI σ5 o 6 (nI (clr m j)) = σ6 at *
  generalize sA σ14 0 49 (6 * b + j) 0 = σ16 at *
  have l10 : gA σ16 0 55 b = gI σ6 o 10 := (S3.2.2.1 10 (by unfold isS; omega)).symm
  rw [l10]
  have FB := (fB1.tr fB2).tr fB3
  have FM := (fM1.tr fM2).tr fM3
  have FP := (fP1.tr fP2).tr fP3
  have KK : ∀ k j', k < 5 → j' ≠ i → gA σ6 o k j' = gA σB o k j' := fun k j' hk hj' => by rw [k3, k2 k j' hk hj', k1 k j' hk hj']
  have GG : ∀ k, k ≠ 6 → gI σ6 o k = gI σB o k := fun k hk => by rw [g3 k hk, g2, g1]
  have JJ : gJ σ16 = gJ σM := (j3.trans j2).trans j1
  have AA : gA σ6 o 1 = gA σB o 1 := by rw [k3, a2, a1]
  by_cases c : gI σ6 o 10 = nI j
  · rw [if_pos c, if_pos c]
    refine ⟨_, _, rfl, rfl, S3.setI 10 _ (by unfold isS; omega) (Nat.le_refl _) ⟨fun z => by omega, fun z => by omega, fun _ => Or.inr ⟨i, hi, rfl⟩, fun z => by omega⟩, FB.tr (frB.wI _ _ _ (by omega)), FM.tr (frM.wA _ _ _ _ (Or.inr ⟨by omega, by omega, rfl⟩)), FP.tr (frP.wA _ _ _ _ (by omega)), ?_, JJ, KK, fun k hk => ?_, AA⟩
    · rw [gIn (by omega)]; exact GG 13 (by omega)
    · rw [gIn (by omega)]; exact GG k (by omega)
  · rw [if_neg c, if_neg c]
    refine ⟨_, _, rfl, rfl, S3.cg (agB.rf _ _) (agM.wG (by rw [← l10]; exact gA_sA_self _ _ _ _)), FB, FM.tr (frM.wA _ _ _ _ (Or.inr ⟨by omega, by omega, rfl⟩)), FP.tr (frP.wA _ _ _ _ (by omega)), GG 13 (by omega), JJ, KK, fun k hk => GG k (by omega), AA⟩
