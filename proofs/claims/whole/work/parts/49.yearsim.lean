theorem grow_eq {a : Nat} (h : a ≤ 99) : iMin (99 : Int32) (nI a + 1) = nI (if 99 ≤ a then 99 else a + 1) ∧ (if (99 : Int32) ≤ nI a then (99 : Int32) else nI a + 1) = nI (if 99 ≤ a then 99 else a + 1) := by
  have e : (99 : Int32) = nI 99 := rfl
  rw [nI_1, e]
  unfold iMin
  constructor
  · by_cases c : 99 ≤ a
    · rw [if_pos c, if_neg (fun z => by have := (ltN (a := a + 1) (b := 99) (by omega) (by omega)).mp z; omega)]
    · rw [if_neg c]
      by_cases c2 : a + 1 < 99
      · rw [if_pos ((ltN (by omega) (by omega)).mpr c2)]
      · rw [if_neg (fun z => c2 ((ltN (by omega) (by omega)).mp z)), show a + 1 = 99 by omega]
  · by_cases c : 99 ≤ a
    · rw [if_pos c, if_pos ((leN (by omega) (by omega)).mpr c)]
    · rw [if_neg c, if_neg (fun z => c ((leN (by omega) (by omega)).mp z))]
/-- a head's year: both sides -/
theorem head_sim {t : Bool} {n np BM Y o b h : Nat} {σB σM : St} (C : CX t n np σB σM) (S : SR n BM Y σB o σM b) (N : NR σB o σM) (hBM : 9999 ≤ BM) (ho : 5 ≤ o ∧ o ≤ 8) (hb : b < 2) (hh : h < n) :
    ∃ σB' σM', fX0_passHead σB o (nI h) = some σB' ∧ (∀ (β : Type) (J : St → Option β), (bI (fX10_isDying (sA σM 0 47 (6 * b + h) (if (99 : Int32) ≤ gA σM 0 47 (6 * b + h) then 99 else gA σM 0 47 (6 * b + h) + 1)) (nI b) (nI h)) fun r51 σ52 => if r51 = 0 then (J σ52) else (bV (fX10_dies σ52 (nI b) (nI h)) fun σ55 => J σ55)) = J σM') ∧ SR n BM Y σB' o σM' b ∧ NR σB' o σM' ∧ frB o σB σB' ∧ frM b σM σM' ∧ frP σM σM' ∧ nodr σM σM' ∧ gI σM' 0 66 = gI σM 0 66 ∧ gI σB' o 14 = gI σB o 14 := by
  have hn6 := C.1.n6
  obtain ⟨a, -, a1, a2⟩ := S.2.2.2.2.1 h hh
  have a3 : gA σM 0 47 (6 * b + h) = nI a := by rw [← a2]; exact (S.1 1 (by omega) h hh).symm
  obtain ⟨w1, w2⟩ := grow_eq a1
  rw [a3, w2]
  unfold fX0_passHead fX4_growOlder
  simp only [lt_eq, bVs, jnx1_eq, gdN (show h < 6 by omega) (show 6 ≤ 1000000 by omega), clN (show h < 1000000 by omega), a2, w1]
  have S1 : SR n BM Y (sA σB o 1 h (nI (if 99 ≤ a then 99 else a + 1))) o (sA σM 0 47 (6 * b + h) (nI (if 99 ≤ a then 99 else a + 1))) b := S.setA 1 h _ (by omega) ⟨fun z => by omega, fun _ => ⟨_, by omega, by split <;> omega, rfl⟩, fun z => by omega⟩
  have fB1 : frB o σB (sA σB o 1 h (nI (if 99 ≤ a then 99 else a + 1))) := frB.wA _ _ _ _ (by omega)
  have fM1 : frM b σM (sA σM 0 47 (6 * b + h) (nI (if 99 ≤ a then 99 else a + 1))) := frM.wA _ _ _ _ (Or.inl ⟨by omega, by omega, by omega, by omega⟩)
  have fP1 : frP σM (sA σM 0 47 (6 * b + h) (nI (if 99 ≤ a then 99 else a + 1))) := frP.wA _ _ _ _ (by omega)
  have N1 : NR (sA σB o 1 h (nI (if 99 ≤ a then 99 else a + 1))) o (sA σM 0 47 (6 * b + h) (nI (if 99 ≤ a then 99 else a + 1))) := N
  have k1 : gI (sA σB o 1 h (nI (if 99 ≤ a then 99 else a + 1))) o 14 = gI σB o 14 := rfl
  have j1 : gJ (sA σM 0 47 (6 * b + h) (nI (if 99 ≤ a then 99 else a + 1))) = gJ σM := rfl
  have q1 : gI (sA σM 0 47 (6 * b + h) (nI (if 99 ≤ a then 99 else a + 1))) 0 66 = gI σM 0 66 := rfl
  have q2 : gI (sA σM 0 47 (6 * b + h) (nI (if 99 ≤ a then 99 else a + 1))) 0 61 = gI σM 0 61 := rfl
  have C1 := C.cg ho fB1 fM1
  generalize sA σB o 1 h (nI (if 99 ≤ a then 99 else a + 1)) = σ2 at *
  generalize sA σM 0 47 (6 * b + h) (nI (if 99 ≤ a then 99 else a + 1)) = σ49 at *
  obtain ⟨r, σB3, σM3, d1, d2, d3, d4, d5, d6, d7, d8, d9, d10⟩ := dying_sim C1 S1 N1 ho hb hh
  have eB : (if gI σ2 14 3 = 0 then (bI (fX0_deathOf σ2 o (nI h)) fun r7 σ8 => bI (fX0_isDying σ8 o r7) fun r10 σ11 => if r10 = 0 then (some σ11) else (bV (fX0_handOn σ11 o (nI h)) fun σ14 => some σ14)) else some σ2) = (if r = 0 then some σB3 else fX0_handOn σB3 o (nI h)) := by
    have hb' : ∀ q : Option St, (bV q fun σ14 => some σ14) = q := fun q => by cases q <;> rfl
    simp only [hb']
    by_cases c : gI σ2 14 3 = 0
    · rw [if_pos c] at d1 ⊢
      cases hd : fX0_deathOf σ2 o (nI h) with
      | none => rw [hd] at d1; cases d1
      | some q =>
        rw [hd] at d1
        rw [bIq] at d1 ⊢
        rw [d1, bIs]
    · rw [if_neg c] at d1 ⊢
      cases d1
      rw [if_pos rfl]
  rw [eB, d2]
  have S3 : SR n BM Y σB3 o σM3 b := S1.cg d4 (agM.wG d5)
  have fP3 : frP σM σM3 := fP1.tr ⟨by rw [d5], by rw [d5]⟩
  have k3 : gI σB3 o 14 = gI σB o 14 := (d4.2 14 (by omega) (by omega)).trans k1
  have nd3 : nodr σM σM3 := fun z => by rw [d9 (by rw [q2]; exact z), j1]
  rcases d3 with rfl | rfl
  · refine ⟨σB3, σM3, by rw [if_pos rfl], fun β J => ?_, S3, d8, fB1.tr d6, fM1.tr d7, fP3, nd3, d10.trans q1, k3⟩
    rw [bIs, if_pos rfl]
  · obtain ⟨σB4, σM4, p1, p2, p3, p4, p5, p6, p7, p8, p9, p10⟩ := hand_sim (C1.cg ho d6 d7) S3 hBM ho hb hh
    refine ⟨σB4, σM4, by rw [if_neg ne10, p1], fun β J => ?_, p3, ?_, (fB1.tr d6).tr p4, (fM1.tr d7).tr p5, fP3.tr p6, fun z => by rw [p8]; exact nd3 z, (p9.trans d10).trans q1, p10.trans k3⟩
    · rw [bIs, if_neg ne10, p2, bVs]
    · unfold NR
      rw [p7, p8, p5.1 61 (by omega) (by omega)]
      exact d8
def yrQ (n np BM Y o b : Nat) (σB σM : St) (p : Int32 × St) (σM' : St) : Prop := SR n BM (Y + 1) p.2 o σM' b ∧ gI σM' 0 66 = p.1 ∧ (p.1 = -1 ∨ ∃ j, j < n ∧ p.1 = nI j) ∧ frB o σB p.2 ∧ frM b σM σM' ∧ NR p.2 o σM' ∧ nodr σM σM' ∧ gA σM' 0 52 = pgOld σM b np ∧ gA σM' 0 53 = pgFst σM b np
theorem fin_sim {n np BM Y o b : Nat} {σB σM σ2 σ3 : St} {r : Int32} (S : SR n BM Y σ2 o σ3 b) (hY : Y ≤ 100000) (hb : b < 2) (hp : np ≤ 6) (hpM : gI σM 0 13 = nI np) (fB : frB o σB σ2) (fM : frM b σM σ3) (fP : frP σM σ3) (N : NR σ2 o σ3) (hd : nodr σM σ3) (hr : gI σ3 0 66 = r) (hr2 : r = -1 ∨ ∃ j, j < n ∧ r = nI j) :
    SIM (yrQ n np BM Y o b σB σM) (some (r, sI σ2 o 8 (gI σ2 o 8 + 1))) (bV (fX10_partsGo σ3 (nI b)) fun σ6 => gd (ixI (nI b) 2) (gd (ixI (nI b) 2) (lt (sA σ6 0 59 (Int32.toNatClampNeg (nI b)) ((gA σ6 0 59 (Int32.toNatClampNeg (nI b))) + (1 : Int32))) fun σ9 => some σ9))) := by
  have h13 : gI σ3 0 13 = nI np := by rw [fM.1 13 (by omega) (by omega)]; exact hpM
  rw [partsGo_eq σ3 b np hb hp h13]
  simp only [bVs, lt_eq, gdN (show b < 2 by omega) (show 2 ≤ 1000000 by omega), clN (show b < 1000000 by omega)]
  have e1 : pgOld σ3 b np = pgOld σM b np := by
    unfold pgOld
    rw [fP.1, fM.2.1 27 (by omega)]
  have e2 : pgFst σ3 b np = pgFst σM b np := by
    unfold pgFst
    rw [fP.1, fP.2, fM.2.1 27 (by omega)]
  rw [e1, e2]
  have A1 : agM n b σ3 (sAr (sAr σ3 0 52 (pgOld σM b np)) 0 53 (pgFst σM b np)) := by
    refine ⟨fun k j h1 h2 _ _ _ => ?_, fun k h1 h2 => ?_⟩
    · simp only [gA_sAr]
      rw [if_neg (by omega), if_neg (by omega)]
    · simp only [gA_sAr]
      rw [if_neg (by omega), if_neg (by omega)]
  have S1 := S.cg (agB.rf _ _) A1
  have F1 : frM b σ3 (sAr (sAr σ3 0 52 (pgOld σM b np)) 0 53 (pgFst σM b np)) := by
    refine ⟨fun _ _ _ => rfl, fun k h1 => ?_, fun k j h1 h2 h3 => ?_, fun k j h1 h2 _ => ?_, fun _ _ => rfl⟩
    · simp only [gA_sAr]
      rw [if_neg (by omega), if_neg (by omega)]
    · simp only [gA_sAr, true_and]
      split
      · rename_i e
        subst e
        rw [fP.2]
        unfold pgFst
        rw [if_neg (by omega)]
      · split
        · rename_i e
          subst e
          rw [fP.1]
          unfold pgOld
          rw [if_neg (by omega)]
        · rfl
    · simp only [gA_sAr]
      rw [if_neg (by omega), if_neg (by omega)]
  have g52 : gA (sAr (sAr σ3 0 52 (pgOld σM b np)) 0 53 (pgFst σM b np)) 0 52 = pgOld σM b np := by
    rw [gAn (by omega), gAe]
  have g53 : gA (sAr (sAr σ3 0 52 (pgOld σM b np)) 0 53 (pgFst σM b np)) 0 53 = pgFst σM b np := by
    rw [gAe]
  have w : gI (sAr (sAr σ3 0 52 (pgOld σM b np)) 0 53 (pgFst σM b np)) = gI σ3 := rfl
  have w2 : gJ (sAr (sAr σ3 0 52 (pgOld σM b np)) 0 53 (pgFst σM b np)) = gJ σ3 := rfl
  generalize sAr (sAr σ3 0 52 (pgOld σM b np)) 0 53 (pgFst σM b np) = σ6 at *
  have y1 : gA σ6 0 59 b = gI σ2 o 8 := (S1.2.2.1 8 (by unfold isS; omega)).symm
  obtain ⟨y, hy, hy2⟩ := S.2.2.2.2.2.2.1
  rw [y1]
  have S2 : SR n BM (Y + 1) (sI σ2 o 8 (gI σ2 o 8 + 1)) o (sA σ6 0 59 b (gI σ2 o 8 + 1)) b := S1.setI 8 _ (by unfold isS; omega) (by omega) ⟨fun _ => ⟨y + 1, by omega, by rw [hy2, nI_1]⟩, fun z => by omega, fun z => by omega, fun z => by omega⟩
  have F2 : frM b σ6 (sA σ6 0 59 b (gI σ2 o 8 + 1)) := frM.wA _ _ _ _ (Or.inr ⟨by omega, by omega, rfl⟩)
  refine SIM.ret ⟨S2, ?_, hr2, fB.tr (frB.wI _ _ _ (by omega)), (fM.tr F1).tr F2, ?_, fun z => ?_, ?_, ?_⟩
  · show gI σ6 0 66 = r
    rw [w]; exact hr
  · unfold NR at *
    simp only [gI_sI, gI_sAr, gJ_sAr]
    rw [if_neg (by omega), w, w2]
    exact N
  · show gJ σ6 0 60 = _
    rw [w2]; exact hd z
  · simp only [gA_sAr]
    rw [if_neg (by omega)]; exact g52
  · simp only [gA_sAr]
    rw [if_neg (by omega)]; exact g53
set_option maxHeartbeats 2000000 in
/-- A YEAR of both sides -/
theorem year_sim {t : Bool} {n np BM Y o b : Nat} {σB σM : St} (C : CX t n np σB σM) (S : SR n BM Y σB o σM b) (N : NR σB o σM) (hBM : 9999 ≤ BM ∧ BM ≤ 20000) (hY : Y ≤ 100000) (ho : 5 ≤ o ∧ o ≤ 8) (hb : b < 2) :
    SIM (yrQ n np BM Y o b σB σM) (fX0_passYear σB o) (fX10_yearGoes σM (nI b)) := by
  have hn6 := C.1.n6
  have hp6 := pow6 hn6
  have hpp := C.1.p6
  have hpM := C.1.pM
  unfold fX0_passYear fX10_yearGoes
  generalize hFU : FU = Z
  simp only [lt_eq, jnx1_eq, jnx2_eq, gdN (show b < 2 by omega) (show 2 ≤ 1000000 by omega), clN (show b < 1000000 by omega)]
  have f14 : gA (sI σM 0 66 (-1)) 0 57 b = gI σB o 14 := (S.2.2.1 14 (by unfold isS; omega)).symm
  have S0 : SR n BM Y σB o (sI σM 0 66 (-1)) b := S.cg (agB.rf _ _) (agM.wG rfl)
  have F0 : frM b σM (sI σM 0 66 (-1)) := ⟨fun k h1 h2 => by simp only [gI_sI]; rw [if_neg (fun z => h2 z.2)], fun _ _ => rfl, fun _ _ _ _ _ => rfl, fun _ _ _ _ _ => rfl, fun _ _ => rfl⟩
  have P0 : frP σM (sI σM 0 66 (-1)) := ⟨rfl, rfl⟩
  have N0 : NR σB o (sI σM 0 66 (-1)) := by
    unfold NR at *
    rw [F0.1 61 (by omega) (by omega)]
    exact N
  have W0 : gI (sI σM 0 66 (-1)) 0 66 = -1 := by simp only [gI_sI, and_self, if_true]
  have D0 : nodr σM (sI σM 0 66 (-1)) := fun _ => rfl
  have C0 := C.cg ho (frB.rf o σB) F0
  rw [f14]
  generalize sI σM 0 66 (-1) = σ1 at *
  have FIN := fun {σ2 σ3 : St} {r : Int32} => fin_sim (n := n) (np := np) (BM := BM) (Y := Y) (o := o) (b := b) (σB := σB) (σM := σM) (σ2 := σ2) (σ3 := σ3) (r := r)
  simp only [lt_eq, gdN (show b < 2 by omega) (show 2 ≤ 1000000 by omega), clN (show b < 1000000 by omega)] at FIN
  by_cases c : gI σB o 14 = 0
  · rw [if_pos c, if_pos c]
    refine simlp2_2 _ (fun j x σ7 x' σ12 => ∃ i, i + j = n ∧ x = nI i ∧ x' = nI i ∧ SR n BM Y σ7 o σ12 b ∧ CX t n np σ7 σ12 ∧ NR σ7 o σ12 ∧ frB o σB σ7 ∧ frM b σM σ12 ∧ frP σM σ12 ∧ gI σ7 o 14 = 0 ∧ gI σ12 0 66 = -1 ∧ nodr σM σ12) ?_ Z Z n 0 σB 0 σ1 (by rw [← hFU]; exact FU_gt (by omega)) (by rw [← hFU]; exact FU_gt (by omega)) ⟨0, by omega, rfl, rfl, S0, C0, N0, frB.rf _ _, F0, P0, c, W0, D0⟩
    rintro j sF sG x σ7 x' σ12 ⟨i, hi, rfl, rfl, S7, C7, N7, fB7, fM7, fP7, c7, w7, d7⟩ ih
    rw [C7.2.1, C7.1.hB, C7.1.hM]
    by_cases ci : n ≤ i
    · rw [if_pos ((leN (by omega) (by omega)).mpr ci), if_pos ((leN (by omega) (by omega)).mpr ci)]
      obtain ⟨r, σB', σM', t1, t2, t3, t4, t5, t6, t7, t8, t9, t10⟩ := take_sim C7 S7 hBM.2 hY ho hb c7 w7
      have t2' := t2 (fun σ18 => if 0 ≤ gI σ18 0 66 then bV (fX10_partsGo σ18 (nI b)) fun σ6 => some (sA σ6 0 59 b (gA σ6 0 59 b + 1)) else if gA σ18 0 55 b < 0 then bV (fX10_partsGo σ18 (nI b)) fun σ6 => some (sA σ6 0 59 b (gA σ6 0 59 b + 1)) else if gA (sA σ18 0 56 b (gA σ18 0 56 b + 1)) 0 56 b < gA (sA σ18 0 56 b (gA σ18 0 56 b + 1)) 0 19 (Int32.toNatClampNeg 0) then bV (fX10_partsGo (sA (sA σ18 0 56 b (gA σ18 0 56 b + 1)) 0 57 b (vp_nar FieldType.boolean 0)) (nI b)) fun σ6 => some (sA σ6 0 59 b (gA σ6 0 59 b + 1)) else bV (fX10_partsGo (sA (sA σ18 0 56 b (gA σ18 0 56 b + 1)) 0 57 b (vp_nar FieldType.boolean 1)) (nI b)) fun σ6 => some (sA σ6 0 59 b (gA σ6 0 59 b + 1)))
      rw [t1, t2', bIs]
      have fB' := fB7.tr t6
      have fM' := fM7.tr t7
      have fP' := fP7.tr t8
      have N' : NR σB' o σM' := by
        unfold NR at *
        rw [t9, t10, t7.1 61 (by omega) (by omega)]
        exact N7
      have d' : nodr σM σM' := fun z => by rw [t10]; exact d7 z
      have C' := C7.cg ho t6 t7
      rw [t4]
      have l10 : gA σM' 0 55 b = gI σB' o 10 := (t3.2.2.1 10 (by unfold isS; omega)).symm
      have l11 : gA σM' 0 56 b = gI σB' o 11 := (t3.2.2.1 11 (by unfold isS; omega)).symm
      rcases t5 with rfl | ⟨q, hq, rfl⟩
      · rw [if_pos rfl, if_neg (show ¬ (0 : Int32) ≤ -1 by decide), l10]
        rcases t3.2.2.2.2.2.2.2.2.1 with hl | ⟨q, hq, hl⟩
        · rw [if_pos hl, if_pos (show gI σB' o 10 < 0 by rw [hl]; decide)]
          exact FIN t3 hY hb hpp hpM fB' fM' fP' N' d' t4 (Or.inl rfl)
        · rw [hl, if_neg (nI_nm1 (j := q) (by omega)), if_neg (nI_neg (j := q) (by omega)), l11]
          have S8 : SR n BM Y (sI σB' o 11 (gI σB' o 11 + 1)) o (sA σM' 0 56 b (gI σB' o 11 + 1)) b := t3.setI 11 _ (by unfold isS; omega) (Nat.le_refl _) ⟨fun z => by omega, fun z => by omega, fun z => by omega, fun z => by omega⟩
          have fB8 : frB o σB' (sI σB' o 11 (gI σB' o 11 + 1)) := frB.wI _ _ _ (by omega)
          have fM8 : frM b σM' (sA σM' 0 56 b (gI σB' o 11 + 1)) := frM.wA _ _ _ _ (Or.inr ⟨by omega, by omega, rfl⟩)
          have fP8 : frP σM' (sA σM' 0 56 b (gI σB' o 11 + 1)) := frP.wA _ _ _ _ (by omega)
          have N8 : NR (sI σB' o 11 (gI σB' o 11 + 1)) o (sA σM' 0 56 b (gI σB' o 11 + 1)) := by
            unfold NR at *
            simp only [gI_sI, gI_sAr, gJ_sAr]
            rw [if_neg (by omega)]
            exact N'
          have d8 : nodr σM (sA σM' 0 56 b (gI σB' o 11 + 1)) := d'
          have w8 : gI (sA σM' 0 56 b (gI σB' o 11 + 1)) 0 66 = -1 := t4
          have C8 := C'.cg ho fB8 fM8
          generalize sI σB' o 11 (gI σB' o 11 + 1) = σ16 at *
          generalize sA σM' 0 56 b (gI σB' o 11 + 1) = σ25 at *
          have l8 : gA σ25 0 56 b = gI σ16 o 11 := (S8.2.2.1 11 (by unfold isS; omega)).symm
          have hc : gI σ16 (tx (gR σ16 2)) 12 = gA σ25 0 19 0 := by rw [C8.2.1]; exact C8.1.on 0 (by omega)
          rw [l8, hc, cl_lit 0 0 rfl (by omega)]
          have SF : ∀ f : Int32, f = 0 ∨ f = 1 → SIM (yrQ n np BM Y o b σB σM) (some (-1, sI (sI σ16 o 14 f) o 8 (gI (sI σ16 o 14 f) o 8 + 1))) ((bV (fX10_partsGo (sA σ25 0 57 b f) (nI b)) fun σ6 => (some (sA σ6 0 59 b ((gA σ6 0 59 b) + (1 : Int32)))))) := by
            intro f hf
            have S9 : SR n BM Y (sI σ16 o 14 f) o (sA σ25 0 57 b f) b := S8.setI 14 _ (by unfold isS; omega) (Nat.le_refl _) ⟨fun z => by omega, fun z => by omega, fun z => by omega, fun _ => hf⟩
            refine FIN S9 hY hb hpp hpM ((fB'.tr fB8).tr (frB.wI _ _ _ (by omega))) ((fM'.tr fM8).tr (frM.wA _ _ _ _ (Or.inr ⟨by omega, by omega, rfl⟩))) ((fP'.tr fP8).tr (frP.wA _ _ _ _ (by omega))) ?_ d8 w8 (Or.inl rfl)
            unfold NR at *
            simp only [gI_sI, gI_sAr, gJ_sAr]
            rw [if_neg (by omega)]
            exact N8
          by_cases cc : gI σ16 o 11 < gA σ25 0 19 0
          · rw [if_pos cc, if_pos cc, nar0, gdb0]
            exact SF 0 (Or.inl rfl)
          · rw [if_neg cc, if_neg cc, nar1, gdb1]
            exact SF 1 (Or.inr rfl)
      · rw [if_neg (nI_nm1 (j := q) (by omega)), if_pos (nI_pos' (n := q) (by omega))]
        exact FIN t3 hY hb hpp hpM fB' fM' fP' N' d' t4 (Or.inr ⟨q, hq, rfl⟩)
    · rw [if_neg (fun z => ci ((leN (by omega) (by omega)).mp z)), if_neg (fun z => ci ((leN (by omega) (by omega)).mp z))]
      simp only [six, gdN (show 6 * b + i < 12 by omega) (show 12 ≤ 1000000 by omega), clN (show 6 * b + i < 1000000 by omega)]
      obtain ⟨m, m1, m2, m3⟩ := S7.2.1
      rw [holds_eq m2 (by omega) (by omega), m3 i (by omega), bS]
      cases hm : m.testBit i
      · simp only [Bool.false_eq_true, if_false, if_true]
        exact ih (j - 1) _ _ _ _ (by omega) ⟨i + 1, by omega, nI_1 i, nI_1 i, S7, C7, N7, fB7, fM7, fP7, c7, w7, d7⟩
      · simp only [if_true, if_neg ne10]
        obtain ⟨σB', σM', h1, h2, h3, h4, h5, h6, h7, h8, h9, h10⟩ := head_sim C7 S7 N7 hBM.1 ho hb (show i < n by omega)
        rw [h1]
        have e : ∀ {β : Type} (K : Int32 → Option β) (c : Prop) [Decidable c] (x y : Int32), (if c then K x else K y) = K (if c then x else y) := fun K c _ x y => by split <;> rfl
        rw [e (fun x46 => bI (fX10_isDying (sA σ12 0 47 (6 * b + i) x46) (nI b) (nI i)) fun r51 σ52 => if r51 = 0 then (sG (nI i + 1) σ52) else (bV (fX10_dies σ52 (nI b) (nI i)) fun σ55 => sG (nI i + 1) σ55))]
        rw [h2 _ (fun σ => sG (nI i + 1) σ)]
        rw [bVs]
        exact ih (j - 1) _ _ _ _ (by omega) ⟨i + 1, by omega, nI_1 i, nI_1 i, h3, C7.cg ho h5 h6, h4, fB7.tr h5, fM7.tr h6, fP7.tr h7, h10.trans c7, h9.trans w7, fun z => by rw [h8 (by rw [fM7.1 61 (by omega) (by omega)]; exact z)]; exact d7 z⟩
  · rw [if_neg c, if_neg c]
    exact FIN S0 hY hb hpp hpM (frB.rf _ _) F0 P0 N0 D0 W0 (Or.inl rfl)
