theorem isOf_eq (σ : St) (x : Int32) (h : Int32) : fX10_isOf σ x h = some (if (x >>> (h &&& 31)) &&& (1 : Int32) = 1 then 1 else 0) := by
  unfold fX10_isOf
  simp only [jnx1_eq, gdb0, gdb1]
  split <;> rfl
theorem nI_neg {j : Nat} (hj : j < 1000000) : ¬ nI j < 0 := nI_pos (by omega)
theorem nI_nm1 {j : Nat} (hj : j < 1000000) : ¬ nI j = -1 := fun z => by
  have := congrArg Int32.toInt z
  rw [nI_toInt (by omega)] at this
  have e : (-1 : Int32).toInt = -1 := rfl
  omega
set_option maxHeartbeats 1000000 in
/-- a turn: both sides (the table hasn't fallen) -/
theorem take_sim {t : Bool} {n np BM Y o b : Nat} {σB σM : St} (C : CX t n np σB σM) (S : SR n BM Y σB o σM b) (hBM : BM ≤ 20000) (hY : Y ≤ 100000) (ho : 5 ≤ o ∧ o ≤ 8) (hb : b < 2) (hf : gI σB o 14 = 0) (hw : gI σM 0 66 = -1) :
    ∃ r σB' σM', fX0_takeTurn σB o = some (r, σB') ∧ (∀ J : St → Option St, (Option.bind (fX10_turnOf σM (nI b)) fun r17 => if r17 < 0 then (J σM) else (bI (fX10_wantsRaise σM (nI b) r17) fun r34 σ35 => if r34 = 0 then (J σ35) else (bV (fX10_raises σ35 (nI b) r17) fun σ38 => J σ38))) = J σM') ∧ SR n BM Y σB' o σM' b ∧ gI σM' 0 66 = r ∧ (r = -1 ∨ ∃ j, j < n ∧ r = nI j) ∧ frB o σB σB' ∧ frM b σM σM' ∧ frP σM σM' ∧ gI σB' o 13 = gI σB o 13 ∧ gJ σM' = gJ σM := by
  have hn6 := C.1.n6
  obtain ⟨r, e1, e2, e3⟩ := turn_sim C.1 C.2.1 S hY hb
  unfold fX0_takeTurn
  rw [e1, e2]
  simp only [bS, jnx1_eq]
  rcases e3 with rfl | ⟨h, hh, rfl, hbit⟩
  · refine ⟨-1, σB, σM, by rw [if_pos rfl], fun J => by rw [if_pos (by decide)], S, hw, Or.inl rfl, frB.rf _ _, frM.rf _ _, frP.rf _, rfl, rfl⟩
  · rw [if_neg (nI_nm1 (by omega))]
    have e6 : gI σB 14 6 = gI σM 0 65 := C.2.2.1 6 (by omega) (by omega)
    obtain ⟨c, hdec, k1, k2, k3⟩ := may_sim C S hb hh
    have g0 : ¬ nI h < 0 := nI_neg (by omega)
    have hf' : gA σM 0 57 b = 0 := by rw [← hf]; exact (S.2.2.1 14 (by unfold isS; omega)).symm
    rw [e6]
    have eW : fX10_wantsRaise σM (nI b) (nI h) = if (gI σM 0 65 >>> (nI h &&& 31)) &&& (1 : Int32) = 1 then some (0, σM) else if c then (if (gA σM 0 29 2) = 0 then (some ((1 : Int32), σM)) else (bV (fX10_layNames σM (nI b) (nI h)) fun σ10 => bL (fX10_lawOf σ10 (2 : Int32)) fun r12 σ13 => some (if gI σ13 0 45 = 0 ∧ r12 = 0 then 0 else 1, σ13))) else some (0, σM) := by
      unfold fX10_wantsRaise
      rw [isOf_eq, k1]
      simp only [bS, jnx1_eq, gdb0, gdb1, cl_lit 2 2 rfl (by omega), lc_eq]
      by_cases q1 : (gI σM 0 65 >>> (nI h &&& 31)) &&& (1 : Int32) = 1
      · rw [if_pos q1, if_pos q1, if_neg ne10]
      · rw [if_neg q1, if_neg q1, if_pos rfl]
        by_cases q2 : c
        · simp only [if_pos q2, if_neg ne10]
          split
          · rfl
          · congr 1
            funext σ10
            congr 1
            funext r12 σ13
            by_cases q3 : gI σ13 0 45 = 0
            · rw [if_pos q3]
              by_cases q4 : r12 = 0
              · rw [if_pos q4, if_pos ⟨q3, q4⟩]
              · rw [if_neg q4, if_neg (fun z => q4 z.2)]
            · rw [if_neg q3, if_neg (fun z => q3 z.1)]
        · simp only [if_neg q2, if_true]
    by_cases q1 : (gI σM 0 65 >>> (nI h &&& 31)) &&& (1 : Int32) = 1
    · refine ⟨-1, σB, σM, by rw [if_pos q1], fun J => ?_, S, hw, Or.inl rfl, frB.rf _ _, frM.rf _ _, frP.rf _, rfl, rfl⟩
      rw [if_neg g0, eW, if_pos q1, bIs, if_pos rfl]
    · rw [if_neg q1, k2, bS, ifi0]
      by_cases q2 : c
      · rw [if_pos (show gA σM 0 57 b = 0 ∧ gA σM 0 49 (6 * b + h) = 1 ∧ c from ⟨hf', hbit, q2⟩)]
        obtain ⟨σ1, f1, f2, f3⟩ := layNames_eq σM b h hb (by omega)
        obtain ⟨Lv, rB, σB1, l1, l2, l3, l4, l5, l6, l7⟩ := lawBoth (o := o) (h := h) (w := 2) (σM := σ1) C.2.1 (by omega) (by omega) (lawR_gA f2.2.1 (C.1.law 2 (by omega))) (fun k hk => by rw [f3 k hk, names_eq C S hh k hk])
        have l1' : fX0_valueOf σB 2 o (nI h) = some (rB, σB1) := l1
        rw [l1', bLs]
        simp only [lc_eq]
        have e29 : gA σ1 0 29 2 = gA σM 0 29 2 := by rw [f2.2.1]
        -- what the reference answers
        have hM : ∃ σM1, fX10_wantsRaise σM (nI b) (nI h) = some (if Lv = some 0 then 0 else 1, σM1) ∧ onlyLN σM σM1 := by
          rw [eW, if_neg q1, if_pos q2]
          by_cases q3 : gA σM 0 29 2 = 0
          · rw [if_pos q3, l5 (e29.trans q3), if_neg (by simp)]
            exact ⟨_, rfl, ⟨fun _ _ => rfl, rfl, fun _ _ _ => rfl, rfl⟩⟩
          · rw [if_neg q3, f1]
            obtain ⟨v, σ2, m1, m2, m3, m4⟩ := l7 (by rw [e29]; exact q3)
            have m1' : fX10_lawOf σ1 2 = some (v, σ2) := m1
            simp only [bVs, m1', bLs]
            refine ⟨σ2, ?_, onlyLN.of f2 m2⟩
            congr 2
            cases Lv with
            | none => rw [if_neg (by rw [m4 rfl]; exact fun z => absurd z.1 ne10), if_neg (by simp)]
            | some z =>
              obtain ⟨rfl, m5⟩ := m3 z rfl
              by_cases q4 : v = 0
              · rw [if_pos ⟨m5, q4⟩, if_pos (by rw [q4])]
              · rw [if_neg (fun z => q4 z.2), if_neg (fun z => q4 (by cases z; rfl))]
        obtain ⟨σM1, hM1, hM2⟩ := hM
        have S1 : SR n BM Y σB1 o σM1 b := S.cg (agB.stk l2) (agM.wG hM2.2.1)
        have fB := frB.stk (o := o) l2
        have fM := frM.ln (b := b) hM2
        have C1 := C.cg ho fB fM
        have hrB : rB = 0 ↔ Lv = some 0 := by
          cases Lv with
          | none => rw [l4 rfl]; exact ⟨fun z => absurd z (by decide), fun z => by cases z⟩
          | some z =>
            rw [(l3 z rfl).1]
            exact ⟨fun z => by rw [z], fun z => by cases z; rfl⟩
        by_cases q5 : Lv = some 0
        · refine ⟨-1, σB1, σM1, by rw [if_pos (hrB.mpr q5)], fun J => ?_, S1, (hM2.1 66 (by omega)).trans hw, Or.inl rfl, fB, fM, frP.ln hM2, by rw [l2.1], hM2.2.2.2⟩
          rw [if_neg g0, hM1, if_pos q5, bIs, if_pos rfl]
        · rw [if_neg (fun z => q5 (hrB.mp z))]
          have hc1 : ¬ gA σB1 o 0 h < gI σB1 o 9 + stpB σB1 h := by
            have := k3 q2
            unfold stpB at *
            rw [l2.1, l2.2.1, l2.2.2.2.1]
            exact this
          obtain ⟨σB2, σM2, p1, p2, p3, p4, p5, p6, p7, p8, p9, -⟩ := raise_sim C1 S1 hBM ho hb hh hc1
          refine ⟨nI h, σB2, σM2, ?_, fun J => ?_, p3, p9, Or.inr ⟨h, hh, rfl⟩, fB.tr p4, fM.tr p5, (frP.ln hM2).tr p6, ?_, p8.trans hM2.2.2.2⟩
          · rw [p1, bVs]
          · rw [if_neg g0, hM1, if_neg q5, bIs, if_neg ne10, p2, bVs]
          · rw [p7, l2.1]
      · rw [if_neg (show ¬ (gA σM 0 57 b = 0 ∧ gA σM 0 49 (6 * b + h) = 1 ∧ c) from fun z => q2 z.2.2)]
        refine ⟨-1, σB, σM, rfl, fun J => ?_, S, hw, Or.inl rfl, frB.rf _ _, frM.rf _ _, frP.rf _, rfl, rfl⟩
        rw [if_neg g0, eW, if_neg q1, if_neg q2, bIs, if_pos rfl]
theorem sAr_comm (σ : St) (o k k' : Nat) (f g : Nat → Int32) (h : k ≠ k') : sAr (sAr σ o k f) o k' g = sAr (sAr σ o k' g) o k f := by
  unfold sAr
  refine Prod.ext rfl (Prod.ext ?_ rfl)
  funext o' k2
  simp only [beq_dec]
  by_cases h1 : o' = o <;> by_cases h2 : k2 = k' <;> by_cases h3 : k2 = k <;> simp_all
/-! THE PARTS: a year of theirs -/
def pgOld (σ : St) (b np : Nat) : Nat → Int32 := fun j => if 6 * b ≤ j ∧ j < 6 * b + np then (if gA σ 0 27 (j - 6 * b) ≤ gA σ 0 52 j + 1 then 0 else gA σ 0 52 j + 1) else gA σ 0 52 j
def pgFst (σ : St) (b np : Nat) : Nat → Int32 := fun j => if 6 * b ≤ j ∧ j < 6 * b + np ∧ gA σ 0 27 (j - 6 * b) ≤ gA σ 0 52 j + 1 then 0 else gA σ 0 53 j
theorem upd_out {f : Nat → Int32} {k : Nat} {x : Int32} {j : Nat} (h : j ≠ k) : upd f k x j = f j := by rw [upd_at, if_neg h]
set_option maxHeartbeats 1000000 in
theorem partsGo_eq (σ : St) (b np : Nat) (hb : b < 2) (hp : np ≤ 6) (hM : gI σ 0 13 = nI np) : fX10_partsGo σ (nI b) = some (sAr (sAr σ 0 52 (pgOld σ b np)) 0 53 (pgFst σ b np)) := by
  unfold fX10_partsGo
  generalize hFU : FU = N
  refine lpx2_wp (fun q => q = some (sAr (sAr σ 0 52 (pgOld σ b np)) 0 53 (pgFst σ b np))) (fun j x σ' => ∃ i, i + j = np ∧ x = nI i ∧ σ' = sAr (sAr σ 0 52 (pgOld σ b i)) 0 53 (pgFst σ b i)) ?_ N np 0 σ (by rw [← hFU]; exact FU_gt (by omega)) ⟨0, by omega, rfl, ?_⟩
  · rintro j self x σ' ⟨i, hi, rfl, rfl⟩ ih
    simp only [gI_sAr, hM]
    by_cases c : np ≤ i
    · rw [if_pos ((leN (by omega) (by omega)).mpr c)]
      have : i = np := by omega
      rw [this]
    · rw [if_neg (fun z => c ((leN (by omega) (by omega)).mp z))]
      simp only [lt_eq, six, jnx1_eq, gdN (show 6 * b + i < 12 by omega) (show 12 ≤ 1000000 by omega), gdN (show i < 12 by omega) (show 12 ≤ 1000000 by omega), clN (show 6 * b + i < 1000000 by omega), clN (show i < 1000000 by omega), nar0]
      have e52 : gA (sAr (sAr σ 0 52 (pgOld σ b i)) 0 53 (pgFst σ b i)) 0 52 = pgOld σ b i := by
        rw [gAn (by omega), gAe]
      have ei : pgOld σ b i (6 * b + i) = gA σ 0 52 (6 * b + i) := by
        unfold pgOld
        rw [if_neg (by omega)]
      simp only [e52, ei]
      have s1 : sA (sAr (sAr σ 0 52 (pgOld σ b i)) 0 53 (pgFst σ b i)) 0 52 (6 * b + i) (gA σ 0 52 (6 * b + i) + 1) = sAr (sAr σ 0 52 (upd (pgOld σ b i) (6 * b + i) (gA σ 0 52 (6 * b + i) + 1))) 0 53 (pgFst σ b i) := by
        unfold sA
        rw [e52, sAr_comm _ _ _ _ _ _ (show 53 ≠ 52 by omega), sAr_sAr]
      rw [s1]
      have g27 : gA (sAr (sAr σ 0 52 (upd (pgOld σ b i) (6 * b + i) (gA σ 0 52 (6 * b + i) + 1))) 0 53 (pgFst σ b i)) 0 27 = gA σ 0 27 := by
        simp only [gA_sAr]
        rw [if_neg (by omega), if_neg (by omega)]
      have g52 : gA (sAr (sAr σ 0 52 (upd (pgOld σ b i) (6 * b + i) (gA σ 0 52 (6 * b + i) + 1))) 0 53 (pgFst σ b i)) 0 52 = upd (pgOld σ b i) (6 * b + i) (gA σ 0 52 (6 * b + i) + 1) := by
        rw [gAn (by omega), gAe]
      rw [g27, g52, upd_at, if_pos rfl]
      by_cases c2 : gA σ 0 27 i ≤ gA σ 0 52 (6 * b + i) + 1
      · rw [if_pos c2]
        refine ih (j - 1) _ _ (by omega) ⟨i + 1, by omega, nI_1 i, ?_⟩
        unfold sA
        rw [g52]
        have s2 : sAr (sAr (sAr σ 0 52 (upd (pgOld σ b i) (6 * b + i) (gA σ 0 52 (6 * b + i) + 1))) 0 53 (pgFst σ b i)) 0 52 (upd (upd (pgOld σ b i) (6 * b + i) (gA σ 0 52 (6 * b + i) + 1)) (6 * b + i) 0) = sAr (sAr σ 0 52 (pgOld σ b (i + 1))) 0 53 (pgFst σ b i) := by
          rw [sAr_comm _ _ _ _ _ _ (show 53 ≠ 52 by omega), sAr_sAr]
          congr 2
          funext q
          unfold pgOld
          simp only [upd_at]
          by_cases q1 : q = 6 * b + i
          · subst q1
            rw [if_pos rfl, if_pos (by omega), show 6 * b + i - 6 * b = i by omega, if_pos c2]
          · rw [if_neg q1, if_neg q1]
            by_cases q2 : 6 * b ≤ q ∧ q < 6 * b + i
            · rw [if_pos q2, if_pos (show 6 * b ≤ q ∧ q < 6 * b + (i + 1) from ⟨q2.1, by omega⟩)]
            · rw [if_neg q2, if_neg (by omega)]
        rw [s2]
        have g53 : gA (sAr (sAr σ 0 52 (pgOld σ b (i + 1))) 0 53 (pgFst σ b i)) 0 53 = pgFst σ b i := by
          simp only [gA_sAr, and_self, if_true]
        rw [g53, sAr_sAr]
        congr 1
        funext q
        unfold pgFst
        simp only [upd_at]
        by_cases q1 : q = 6 * b + i
        · subst q1
          rw [if_pos rfl, if_pos ⟨by omega, by omega, by rw [show 6 * b + i - 6 * b = i by omega]; exact c2⟩]
        · rw [if_neg q1]
          by_cases q2 : 6 * b ≤ q ∧ q < 6 * b + i ∧ gA σ 0 27 (q - 6 * b) ≤ gA σ 0 52 q + 1
          · rw [if_pos q2, if_pos ⟨q2.1, by omega, q2.2.2⟩]
          · rw [if_neg q2, if_neg (fun z => q2 ⟨z.1, by omega, z.2.2⟩)]
      · rw [if_neg c2]
        refine ih (j - 1) _ _ (by omega) ⟨i + 1, by omega, nI_1 i, ?_⟩
        have s3 : upd (pgOld σ b i) (6 * b + i) (gA σ 0 52 (6 * b + i) + 1) = pgOld σ b (i + 1) := by
          funext q
          unfold pgOld
          simp only [upd_at]
          by_cases q1 : q = 6 * b + i
          · subst q1
            rw [if_pos rfl, if_pos (by omega), show 6 * b + i - 6 * b = i by omega, if_neg c2]
          · rw [if_neg q1]
            by_cases q2 : 6 * b ≤ q ∧ q < 6 * b + i
            · rw [if_pos q2, if_pos (show 6 * b ≤ q ∧ q < 6 * b + (i + 1) from ⟨q2.1, by omega⟩)]
            · rw [if_neg q2, if_neg (by omega)]
        have s4 : pgFst σ b i = pgFst σ b (i + 1) := by
          funext q
          unfold pgFst
          by_cases q1 : q = 6 * b + i
          · subst q1
            rw [if_neg (by omega), if_neg (fun z => c2 (by have := z.2.2; rw [show 6 * b + i - 6 * b = i by omega] at this; exact this))]
          · by_cases q2 : 6 * b ≤ q ∧ q < 6 * b + i ∧ gA σ 0 27 (q - 6 * b) ≤ gA σ 0 52 q + 1
            · rw [if_pos q2, if_pos ⟨q2.1, by omega, q2.2.2⟩]
            · rw [if_neg q2, if_neg (fun z => q2 ⟨z.1, by omega, z.2.2⟩)]
        rw [s3, s4]
  · have z1 : pgOld σ b 0 = gA σ 0 52 := by
      funext q
      unfold pgOld
      rw [if_neg (by omega)]
    have z2 : pgFst σ b 0 = gA σ 0 53 := by
      funext q
      unfold pgFst
      rw [if_neg (by omega)]
    rw [z1, z2, sAr_self, sAr_self]
