theorem isOn_eq {σ : St} {n b h : Nat} {c : Bool} (hM : gI σ 0 12 = nI n) (hn6 : n ≤ 6) (hb : b < 2) (hh : h < n) (hv : gA σ 0 49 (6 * b + h) = if c then 1 else 0) : fX10_isOn σ (nI b) (nI h) = some (if c then 1 else 0) := by
  unfold fX10_isOn
  simp only [jnx1_eq, hM, six, gdN (show 6 * b + h < 12 by omega) (show 12 ≤ 1000000 by omega), clN (show 6 * b + h < 1000000 by omega), hv, gdb0, gdb1]
  rw [if_neg (fun z => by have := (leN (by omega) (by omega)).mp z; omega)]
  cases c
  · rfl
  · rfl
theorem SIM.ex {α β : Type} {Q : α → β → Prop} {a : Option α} {b : Option β} (h : SIM Q a b) : ∃ x y, a = some x ∧ b = some y ∧ Q x y := h
theorem turn_sim {t : Bool} {n np BM Y o b : Nat} {σB σM : St} (T : TX t n np σB σM) (ht : gR σB 2 = t) (S : SR n BM Y σB o σM b) (hY : Y ≤ 100000) (hb : b < 2) :
    ∃ r, fX0_whoseTurn σB o = some r ∧ fX10_turnOf σM (nI b) = some r ∧ (r = -1 ∨ ∃ j, j < n ∧ r = nI j ∧ gA σM 0 49 (6 * b + j) = 1) := by
  have hn6 := T.n6
  have hp6 := pow6 hn6
  obtain ⟨m, m1, m2, m3⟩ := S.2.1
  obtain ⟨y, y1, y2⟩ := S.2.2.2.2.2.2.1
  have y3 : gA σM 0 59 b = nI y := by rw [← y2]; exact (S.2.2.1 8 (by unfold isS; omega)).symm
  have key : SIM (fun r r' => r = r' ∧ (r = -1 ∨ ∃ j, j < n ∧ r = nI j ∧ gA σM 0 49 (6 * b + j) = 1)) (fX0_whoseTurn σB o) (fX10_turnOf σM (nI b)) := by
    unfold fX0_whoseTurn fX10_turnOf
    generalize hFU : FU = N
    simp only [lt_eq, ht, T.hB, T.hM, y2, y3, clN (show b < 1000000 by omega), gdN (show b < 2 by omega) (show 2 ≤ 1000000 by omega)]
    refine simlp1_1 _ (fun j x x' => ∃ i, i + j = n ∧ x = nI i ∧ x' = nI i) ?_ N N n 0 0 (by rw [← hFU]; exact FU_gt (by omega)) (by rw [← hFU]; exact FU_gt (by omega)) ⟨0, by omega, rfl, rfl⟩
    rintro j sF sG x x' ⟨i, hi, rfl, rfl⟩ ih
    by_cases c : n ≤ i
    · rw [if_pos ((leN (by omega) (by omega)).mpr c), if_pos ((leN (by omega) (by omega)).mpr c)]
      exact SIM.ret ⟨rfl, Or.inl rfl⟩
    · have hz : ¬ nI n = 0 := fun z => by have := (eqN (a := n) (b := 0) (by omega) (by omega)).mp z; omega
      rw [if_neg (fun z => c ((leN (by omega) (by omega)).mp z)), if_neg (fun z => c ((leN (by omega) (by omega)).mp z)), gd_pos hz, gd_pos hz, nI_add, pk_rem (by omega) (by omega) (by omega)]
      have hlt : (y + i) % n < n := Nat.mod_lt _ (by omega)
      generalize (y + i) % n = q at hlt
      rw [holds_eq m2 (by omega) (by omega), isOn_eq T.hM hn6 hb hlt (m3 q hlt), bS, bS]
      cases hq : m.testBit q
      · simp only [Bool.false_eq_true, if_false, if_true]
        exact ih (j - 1) _ _ (by omega) ⟨i + 1, by omega, nI_1 i, nI_1 i⟩
      · simp only [if_true, if_neg ne10]
        refine SIM.ret ⟨rfl, Or.inr ⟨q, hlt, rfl, ?_⟩⟩
        rw [m3 q hlt, hq]
        rfl
  obtain ⟨x, y, e1, e2, rfl, e4⟩ := key
  exact ⟨x, e1, e2, e4⟩
def stpB (σ : St) (h : Nat) : Int32 := if gI σ 14 5 = 0 then gA σ (tx (gR σ 2)) 5 h else 1
def stpM (σ : St) (h : Nat) : Int32 := if gI σ 0 64 = 0 then gA σ 0 23 h else 1
theorem stepB_eq (σ : St) (h : Nat) (hh : h < 6) : fX0_stepOf σ (nI h) = some (stpB σ h) := by
  unfold fX0_stepOf stpB
  simp only [jnx1_eq, gdN hh (show 6 ≤ 1000000 by omega), clN (show h < 1000000 by omega)]
  split <;> rfl
theorem stepM_eq (σ : St) (h : Nat) (hh : h < 6) : fX10_stepOf σ (nI h) = some (stpM σ h) := by
  unfold fX10_stepOf stpM
  simp only [jnx1_eq, gdN (show h < 12 by omega) (show 12 ≤ 1000000 by omega), clN (show h < 1000000 by omega)]
  split <;> rfl
theorem CX.stp {t : Bool} {n np : Nat} {σB σM : St} (C : CX t n np σB σM) {h : Nat} (hh : h < n) : stpB σB h = stpM σM h ∧ ∃ v, 1 ≤ v ∧ v ≤ 99 ∧ stpM σM h = nI v := by
  have e5 : gI σB 14 5 = gI σM 0 64 := C.2.2.1 5 (by omega) (by omega)
  unfold stpB stpM
  rw [e5, C.2.1, C.1.hA 5 (by omega) (by omega) h hh]
  refine ⟨rfl, ?_⟩
  split
  · exact C.1.stp h hh
  · exact ⟨1, by omega, by omega, rfl⟩
theorem mayB_eq {σ : St} {o m h : Nat} (hm : gI σ o 6 = nI m) (h64 : m < 64) (hh : h < 6) : fX0_mayNod σ o (nI h) = some (if gI σ o 14 = 0 ∧ m.testBit h = true ∧ ¬ gI σ o 10 = nI h ∧ ¬ gA σ o 0 h < gI σ o 9 + stpB σ h then 1 else 0) := by
  unfold fX0_mayNod
  simp only [jnx1_eq, holds_eq hm h64 hh, stepB_eq σ h hh, bS, gdN hh (show 6 ≤ 1000000 by omega), clN (show h < 1000000 by omega), gdb0, gdb1]
  by_cases c1 : gI σ o 14 = 0
  · rw [if_pos c1]
    by_cases c2 : m.testBit h = true
    · simp only [c2, if_true, if_neg ne10]
      by_cases c3 : gI σ o 10 = nI h
      · rw [if_pos c3, if_neg (fun z => z.2.2.1 c3)]
      · rw [if_neg c3]
        by_cases c4 : gA σ o 0 h < gI σ o 9 + stpB σ h
        · rw [if_pos c4, if_neg (fun z => z.2.2.2 c4)]
        · rw [if_neg c4, if_pos ⟨c1, by trivial, c3, c4⟩]
    · simp only [c2, if_false, if_true, Bool.false_eq_true, false_and, and_false]
  · rw [if_neg c1, if_neg (fun z => c1 z.1)]
theorem mayM_eq {σ : St} {b h : Nat} (hb : b < 2) (hh : h < 6) : fX10_mayRaise σ (nI b) (nI h) = some (if ¬ gA σ 0 55 b = nI h ∧ ¬ gA σ 0 46 (6 * b + h) < gA σ 0 54 b + stpM σ h then 1 else 0) := by
  unfold fX10_mayRaise
  simp only [jnx1_eq, six, stepM_eq σ h hh, bS, gdN (show 6 * b + h < 12 by omega) (show 12 ≤ 1000000 by omega), gdN (show b < 2 by omega) (show 2 ≤ 1000000 by omega), clN (show b < 1000000 by omega), clN (show 6 * b + h < 1000000 by omega), gdb0, gdb1]
  by_cases c3 : gA σ 0 55 b = nI h
  · rw [if_pos c3, if_neg (fun z => z.1 c3)]
  · rw [if_neg c3]
    by_cases c4 : gA σ 0 46 (6 * b + h) < gA σ 0 54 b + stpM σ h
    · rw [if_pos c4, if_neg (fun z => z.2 c4)]
    · rw [if_neg c4, if_pos ⟨c3, c4⟩]
/-- may a house raise: both sides -/
theorem may_sim {t : Bool} {n np BM Y o b h : Nat} {σB σM : St} (C : CX t n np σB σM) (S : SR n BM Y σB o σM b) (hb : b < 2) (hh : h < n) :
    ∃ c : Prop, ∃ _ : Decidable c, fX10_mayRaise σM (nI b) (nI h) = some (if c then 1 else 0) ∧ fX0_mayNod σB o (nI h) = some (if gA σM 0 57 b = 0 ∧ gA σM 0 49 (6 * b + h) = 1 ∧ c then 1 else 0) ∧ (c → ¬ gA σB o 0 h < gI σB o 9 + stpB σB h) := by
  have hn6 := C.1.n6
  have hp6 := pow6 hn6
  obtain ⟨m, m1, m2, m3⟩ := S.2.1
  refine ⟨¬ gA σM 0 55 b = nI h ∧ ¬ gA σM 0 46 (6 * b + h) < gA σM 0 54 b + stpM σM h, inferInstance, mayM_eq hb (by omega), ?_, ?_⟩
  · rw [mayB_eq m2 (by omega) (by omega)]
    have a1 : gI σB o 14 = gA σM 0 57 b := S.2.2.1 14 (by unfold isS; omega)
    have a2 : gI σB o 10 = gA σM 0 55 b := S.2.2.1 10 (by unfold isS; omega)
    have a3 : gI σB o 9 = gA σM 0 54 b := S.2.2.1 9 (by unfold isS; omega)
    have a4 : gA σB o 0 h = gA σM 0 46 (6 * b + h) := S.1 0 (by omega) h hh
    rw [a1, a2, a3, a4, (C.stp hh).1, m3 h hh]
    congr 1
    cases m.testBit h
    · simp
    · simp
  · intro z
    have a3 : gI σB o 9 = gA σM 0 54 b := S.2.2.1 9 (by unfold isS; omega)
    have a4 : gA σB o 0 h = gA σM 0 46 (6 * b + h) := S.1 0 (by omega) h hh
    rw [a3, a4, (C.stp hh).1]
    exact z.2
set_option maxHeartbeats 1000000 in
theorem raise_sim {t : Bool} {n np BM Y o b h : Nat} {σB σM : St} (C : CX t n np σB σM) (S : SR n BM Y σB o σM b) (hBM : BM ≤ 20000) (ho : 5 ≤ o ∧ o ≤ 8) (hb : b < 2) (hh : h < n) (hc : ¬ gA σB o 0 h < gI σB o 9 + stpB σB h) :
    ∃ σB' σM', fX0_raise σB o (nI h) = some σB' ∧ fX10_raises σM (nI b) (nI h) = some σM' ∧ SR n BM Y σB' o σM' b ∧ frB o σB σB' ∧ frM b σM σM' ∧ frP σM σM' ∧ gI σB' o 13 = gI σB o 13 ∧ gJ σM' = gJ σM ∧ gI σM' 0 66 = nI h ∧ (∃ u v, gI σB o 9 = nI u ∧ gI σB' o 9 = nI v ∧ u < v ∧ v ≤ BM) := by
  have hn6 := C.1.n6
  obtain ⟨es, v, v1, v2, v3⟩ := C.stp hh
  obtain ⟨u, u1, u2⟩ := S.2.2.2.2.2.2.2.1
  obtain ⟨w, -, w1, w2⟩ := S.2.2.2.1 h hh
  have a3 : gA σM 0 54 b = gI σB o 9 := (S.2.2.1 9 (by unfold isS; omega)).symm
  have hx : gI σB o 9 + stpB σB h = nI (u + v) := by rw [es, v3, u2, nI_add]
  have huv : u + v ≤ w := by
    rw [hx, w2] at hc
    have : ¬ w < u + v := fun z => hc ((ltN (a := w) (b := u + v) (by omega) (by omega)).mpr z)
    omega
  unfold fX0_raise fX10_raises
  simp only [lt_eq, six, stepB_eq σB h (by omega), stepM_eq σM h (by omega), bS, clN (show h < 1000000 by omega), clN (show b < 1000000 by omega), clN (show 6 * b + h < 1000000 by omega), gdN (show h < 6 by omega) (show 6 ≤ 1000000 by omega), gdN (show b < 2 by omega) (show 2 ≤ 1000000 by omega), gdN (show 6 * b + h < 12 by omega) (show 12 ≤ 1000000 by omega), a3, ← es, hx]
  have S1 : SR n BM Y (sI σB o 9 (nI (u + v))) o (sA σM 0 54 b (nI (u + v))) b := S.setI 9 _ (by unfold isS; omega) (Nat.le_refl _) ⟨fun z => by omega, fun _ => ⟨u + v, by omega, rfl⟩, fun z => by omega, fun z => by omega⟩
  have fB1 : frB o σB (sI σB o 9 (nI (u + v))) := frB.wI _ _ _ (by omega)
  have fM1 : frM b σM (sA σM 0 54 b (nI (u + v))) := frM.wA _ _ _ _ (Or.inr ⟨by omega, by omega, rfl⟩)
  have p1 : frP σM (sA σM 0 54 b (nI (u + v))) := frP.wA _ _ _ _ (by omega)
  have n1 : gI (sI σB o 9 (nI (u + v))) o 13 = gI σB o 13 := by simp only [gI_sI]; rw [if_neg (by omega)]
  have b1 : gI (sI σB o 9 (nI (u + v))) o 9 = nI (u + v) := by simp only [gI_sI, and_self, if_true]
  have j1 : gJ (sA σM 0 54 b (nI (u + v))) = gJ σM := rfl
  generalize sI σB o 9 (nI (u + v)) = σ3 at *
  generalize sA σM 0 54 b (nI (u + v)) = σ5 at *
  have S2 : SR n BM Y (sI σ3 o 10 (nI h)) o (sA σ5 0 55 b (nI h)) b := S1.setI 10 _ (by unfold isS; omega) (Nat.le_refl _) ⟨fun z => by omega, fun z => by omega, fun _ => Or.inr ⟨h, hh, rfl⟩, fun z => by omega⟩
  have S3 : SR n BM Y (sI (sI σ3 o 10 (nI h)) o 11 0) o (sA (sA σ5 0 55 b (nI h)) 0 56 b 0) b := S2.setI 11 _ (by unfold isS; omega) (Nat.le_refl _) ⟨fun z => by omega, fun z => by omega, fun z => by omega, fun z => by omega⟩
  have fB3 : frB o σ3 (sI (sI σ3 o 10 (nI h)) o 11 0) := (frB.wI _ _ _ (by omega)).tr (frB.wI _ _ _ (by omega))
  have fM3 : frM b σ5 (sA (sA σ5 0 55 b (nI h)) 0 56 b 0) := (frM.wA _ _ _ _ (Or.inr ⟨by omega, by omega, rfl⟩)).tr (frM.wA _ _ _ _ (Or.inr ⟨by omega, by omega, rfl⟩))
  have p3 : frP σ5 (sA (sA σ5 0 55 b (nI h)) 0 56 b 0) := (frP.wA _ _ _ _ (by omega)).tr (frP.wA _ _ _ _ (by omega))
  have n3 : gI (sI (sI σ3 o 10 (nI h)) o 11 0) o 13 = gI σ3 o 13 := by simp only [gI_sI]; rw [if_neg (by omega), if_neg (by omega)]
  have b3 : gI (sI (sI σ3 o 10 (nI h)) o 11 0) o 9 = gI σ3 o 9 := by simp only [gI_sI]; rw [if_neg (by omega), if_neg (by omega)]
  have j3 : gJ (sA (sA σ5 0 55 b (nI h)) 0 56 b 0) = gJ σ5 := rfl
  generalize sI (sI σ3 o 10 (nI h)) o 11 0 = σ6 at *
  generalize sA (sA σ5 0 55 b (nI h)) 0 56 b 0 = σ9 at *
  have r1 : gA σ9 0 50 (6 * b + h) = gA σ6 o 3 h := (S3.1 3 (by omega) h hh).symm
  rw [r1]
  have S4 : SR n BM Y (sA σ6 o 3 h (gA σ6 o 3 h + 1)) o (sA σ9 0 50 (6 * b + h) (gA σ6 o 3 h + 1)) b := S3.setA 3 h _ (by omega) ⟨fun z => by omega, fun z => by omega, fun z => by omega⟩
  have r2 : gA (sA σ9 0 50 (6 * b + h) (gA σ6 o 3 h + 1)) 0 54 b = gI (sA σ6 o 3 h (gA σ6 o 3 h + 1)) o 9 := (S4.2.2.1 9 (by unfold isS; omega)).symm
  rw [r2]
  have S5 := S4.setA 4 h (gI (sA σ6 o 3 h (gA σ6 o 3 h + 1)) o 9) (by omega) ⟨fun z => by omega, fun z => by omega, fun z => by omega⟩
  refine ⟨_, _, rfl, rfl, S5.cg (agB.rf _ _) (agM.wG rfl), ((fB1.tr fB3).tr (frB.wA _ _ _ _ (by omega))).tr (frB.wA _ _ _ _ (by omega)), (((fM1.tr fM3).tr (frM.wA _ _ _ _ (Or.inl ⟨by omega, by omega, by omega, by omega⟩))).tr (frM.wA _ _ _ _ (Or.inl ⟨by omega, by omega, by omega, by omega⟩))).tr ⟨fun k _ h2 => ?_, fun _ _ => rfl, fun _ _ _ _ _ => rfl, fun _ _ _ _ _ => rfl, fun _ _ => rfl⟩, (((p1.tr p3).tr (frP.wA _ _ _ _ (by omega))).tr (frP.wA _ _ _ _ (by omega))).tr ⟨rfl, rfl⟩, n3.trans n1, j3.trans j1, ?_, ⟨u, u + v, u2, b3.trans b1, by omega, by omega⟩⟩
  · simp only [gI_sI, true_and]
    rw [if_neg h2]
  · simp only [gI_sI, and_self, if_true]
