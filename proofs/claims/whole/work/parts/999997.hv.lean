/-! HOUSE -/
def fHs (σ : St) (p0 p1 : Int32) : Option (Int32 × Int32) :=
  Option.bind (fX9_isHouse σ p0) fun r => if r = 0 then some (1, 0) else (if p1 = (0 : Int32) then gd (ixI p0 6) (some (0, gA σ 5 0 (Int32.toNatClampNeg p0))) else (if p1 = (1 : Int32) then gd (ixI p0 6) (some (0, gA σ (tx (gR σ 0)) 4 (Int32.toNatClampNeg p0))) else (if p1 = (2 : Int32) then gd (ixI p0 6) (some (0, gA σ (tx (gR σ 0)) 5 (Int32.toNatClampNeg p0))) else (if p1 = (3 : Int32) then gd (ixI p0 6) (some (0, gA σ 5 1 (Int32.toNatClampNeg p0))) else (if p1 = (4 : Int32) then gd (ixI p0 6) (some (0, gA σ 5 2 (Int32.toNatClampNeg p0))) else (if p1 = (5 : Int32) then (Option.bind (fX4_holds σ 5 p0) fun r4 => if r4 = 0 then some (0, 0) else some (0, 1)) else (if p1 = (6 : Int32) then gd (ixI p0 6) (some (0, gA σ 5 3 (Int32.toNatClampNeg p0))) else (if p1 = (7 : Int32) then gd (ixI p0 6) (some (0, gA σ 5 4 (Int32.toNatClampNeg p0))) else some (2, 0)))))))))
theorem hv_ret {v r0 : Int32} {σ : St} (h : some ((0 : Int32), v) = some ((0 : Int32), r0)) : some (v, σ) = some (r0, σ) := by
  injection h with h
  injection h with _ h
  rw [h]
theorem hv_no {k v r0 : Int32} (hk : ¬ k = 0) (h : some (k, v) = some ((0 : Int32), r0)) : False := by
  injection h with h
  injection h with h _
  exact hk h
set_option maxRecDepth 100000 in
set_option maxHeartbeats 4000000 in
theorem kX9_houseV (L : Launch) (D : va_G) (g : GwT) (t0 : Nat) (p0 : Int32) (p1 : Int32) (σ : St) (r0 : Int32) (hf : fHs σ p0 p1 = some (0, r0)) : CtI L D (ttG g) (wB g) t0 yX9_house cX9_house 3 (some .int) { frames := 1, cells := 0, slots := 0, locals := 21 } [.ref (g.1 0), .int p0, .int p1] σ r0 σ := by
  refine CtI.of (own := RX9) (by decide) rfl (Nat.le_of_ble_eq_true rfl) [(0, .ref (g.1 0)), (1, .int p0), (2, .int p1)] rfl ?_
  intro X C hN K
  unfold fHs at hf
  obtain ⟨r, hr, hf⟩ := bd_elim hf
  refine kw_aload_n C dX9_house_0 rfl 0 rfl ?_
  refine kw_iload_n C dX9_house_1 rfl 1 rfl ?_
  refine kw_callVI C [.int p0] (kX9_isHouse L D g t0 p0 σ _ hr) RX9 mV_X9_132 ⟨rfl, rfl⟩ dd_X9_isHouse ⟨Nat.le_of_ble_eq_true rfl, Nat.le_of_ble_eq_true rfl⟩ _ (hO9 g σ) rfl rfl rfl (Nat.le_of_ble_eq_true rfl) dX9_house_2 ?_
  refine kw_if_ne C 18 dX9_house_5 rfl (fun c => ?_) (fun c => ?_)
  · have hf := if_n c hf
    refine kw_iload_n C dX9_house_18 rfl 2 rfl ?_
    by_cases c0 : p1 = (0 : Int32)
    · have hf := if_p c0 hf
      refine kw_tabIn C 64 dX9_house_19 c0 (by decide) (by decide) rfl rfl ?_
      refine kw_aload_n C dX9_house_64 rfl 0 rfl ?_
      refine kw_get C inG9 _ (hO9 g σ) rfl 7 (Nat.le_of_ble_eq_true rfl) mf_9_47 rfl rfl dX9_house_65 ?_
      refine kw_get C inG4 _ (hO4 g σ 5 (by simp [isSale])) rfl 0 (Nat.le_of_ble_eq_true rfl) mf_9_153 rfl rfl dX9_house_68 ?_
      refine kw_iload_n C dX9_house_71 rfl 1 rfl ?_
      obtain ⟨h6, hf⟩ := gd_elim hf
      refine kw_iald C _ 0 (hA4_0 g σ 5 (by simp [isSale])) rfl h6 dX9_house_72 ?_
      exact kw_iret C K dX9_house_73 (hv_ret hf)
    have hf := if_n c0 hf
    by_cases c1 : p1 = (1 : Int32)
    · have hf := if_p c1 hf
      refine kw_tabIn C 74 dX9_house_19 c1 (by decide) (by decide) rfl rfl ?_
      refine kw_aload_n C dX9_house_74 rfl 0 rfl ?_
      refine kw_get C inG9 _ (hO9 g σ) rfl 2 (Nat.le_of_ble_eq_true rfl) mf_9_22 rfl rfl dX9_house_75 ?_
      refine kw_get C inG6 _ (hO6 g σ (gR σ 0)) rfl 4 (Nat.le_of_ble_eq_true rfl) mf_9_156 rfl rfl dX9_house_78 ?_
      refine kw_iload_n C dX9_house_81 rfl 1 rfl ?_
      obtain ⟨h6, hf⟩ := gd_elim hf
      refine kw_iald C _ 0 (hA6_4 g σ (gR σ 0)) rfl h6 dX9_house_82 ?_
      exact kw_iret C K dX9_house_83 (hv_ret hf)
    have hf := if_n c1 hf
    by_cases c2 : p1 = (2 : Int32)
    · have hf := if_p c2 hf
      refine kw_tabIn C 84 dX9_house_19 c2 (by decide) (by decide) rfl rfl ?_
      refine kw_aload_n C dX9_house_84 rfl 0 rfl ?_
      refine kw_get C inG9 _ (hO9 g σ) rfl 2 (Nat.le_of_ble_eq_true rfl) mf_9_22 rfl rfl dX9_house_85 ?_
      refine kw_get C inG6 _ (hO6 g σ (gR σ 0)) rfl 5 (Nat.le_of_ble_eq_true rfl) mf_9_159 rfl rfl dX9_house_88 ?_
      refine kw_iload_n C dX9_house_91 rfl 1 rfl ?_
      obtain ⟨h6, hf⟩ := gd_elim hf
      refine kw_iald C _ 0 (hA6_5 g σ (gR σ 0)) rfl h6 dX9_house_92 ?_
      exact kw_iret C K dX9_house_93 (hv_ret hf)
    have hf := if_n c2 hf
    by_cases c3 : p1 = (3 : Int32)
    · have hf := if_p c3 hf
      refine kw_tabIn C 94 dX9_house_19 c3 (by decide) (by decide) rfl rfl ?_
      refine kw_aload_n C dX9_house_94 rfl 0 rfl ?_
      refine kw_get C inG9 _ (hO9 g σ) rfl 7 (Nat.le_of_ble_eq_true rfl) mf_9_47 rfl rfl dX9_house_95 ?_
      refine kw_get C inG4 _ (hO4 g σ 5 (by simp [isSale])) rfl 1 (Nat.le_of_ble_eq_true rfl) mf_9_162 rfl rfl dX9_house_98 ?_
      refine kw_iload_n C dX9_house_101 rfl 1 rfl ?_
      obtain ⟨h6, hf⟩ := gd_elim hf
      refine kw_iald C _ 0 (hA4_1 g σ 5 (by simp [isSale])) rfl h6 dX9_house_102 ?_
      exact kw_iret C K dX9_house_103 (hv_ret hf)
    have hf := if_n c3 hf
    by_cases c4 : p1 = (4 : Int32)
    · have hf := if_p c4 hf
      refine kw_tabIn C 104 dX9_house_19 c4 (by decide) (by decide) rfl rfl ?_
      refine kw_aload_n C dX9_house_104 rfl 0 rfl ?_
      refine kw_get C inG9 _ (hO9 g σ) rfl 7 (Nat.le_of_ble_eq_true rfl) mf_9_47 rfl rfl dX9_house_105 ?_
      refine kw_get C inG4 _ (hO4 g σ 5 (by simp [isSale])) rfl 2 (Nat.le_of_ble_eq_true rfl) mf_9_165 rfl rfl dX9_house_108 ?_
      refine kw_iload_n C dX9_house_111 rfl 1 rfl ?_
      obtain ⟨h6, hf⟩ := gd_elim hf
      refine kw_iald C _ 0 (hA4_2 g σ 5 (by simp [isSale])) rfl h6 dX9_house_112 ?_
      exact kw_iret C K dX9_house_113 (hv_ret hf)
    have hf := if_n c4 hf
    by_cases c5 : p1 = (5 : Int32)
    · have hf := if_p c5 hf
      refine kw_tabIn C 114 dX9_house_19 c5 (by decide) (by decide) rfl rfl ?_
      refine kw_aload_n C dX9_house_114 rfl 0 rfl ?_
      refine kw_get C inG9 _ (hO9 g σ) rfl 7 (Nat.le_of_ble_eq_true rfl) mf_9_47 rfl rfl dX9_house_115 ?_
      refine kw_iload_n C dX9_house_118 rfl 1 rfl ?_
      obtain ⟨r4, hr4, hf⟩ := bd_elim hf
      refine kw_callVI C [.int p0] (kX4_holds L D g t0 5 (by simp [isSale]) p0 σ _ hr4) RX4 mV_X9_136 ⟨rfl, rfl⟩ dd_X4_holds ⟨Nat.le_of_ble_eq_true rfl, Nat.le_of_ble_eq_true rfl⟩ _ (hO4 g σ 5 (by simp [isSale])) rfl rfl rfl (Nat.le_of_ble_eq_true rfl) dX9_house_119 ?_
      refine kw_if_eq C 129 dX9_house_122 rfl (fun d => ?_) (fun d => ?_)
      · have hf := if_p d hf
        refine kw_iconst C (0 : Int32) dX9_house_129 rfl ?_
        exact kw_iret C K dX9_house_130 (hv_ret hf)
      · have hf := if_n d hf
        refine kw_iconst C (1 : Int32) dX9_house_125 rfl ?_
        refine kw_goto C 130 dX9_house_126 rfl ?_
        exact kw_iret C K dX9_house_130 (hv_ret hf)
    have hf := if_n c5 hf
    by_cases c6 : p1 = (6 : Int32)
    · have hf := if_p c6 hf
      refine kw_tabIn C 131 dX9_house_19 c6 (by decide) (by decide) rfl rfl ?_
      refine kw_aload_n C dX9_house_131 rfl 0 rfl ?_
      refine kw_get C inG9 _ (hO9 g σ) rfl 7 (Nat.le_of_ble_eq_true rfl) mf_9_47 rfl rfl dX9_house_132 ?_
      refine kw_get C inG4 _ (hO4 g σ 5 (by simp [isSale])) rfl 3 (Nat.le_of_ble_eq_true rfl) mf_9_168 rfl rfl dX9_house_135 ?_
      refine kw_iload_n C dX9_house_138 rfl 1 rfl ?_
      obtain ⟨h6, hf⟩ := gd_elim hf
      refine kw_iald C _ 0 (hA4_3 g σ 5 (by simp [isSale])) rfl h6 dX9_house_139 ?_
      exact kw_iret C K dX9_house_140 (hv_ret hf)
    have hf := if_n c6 hf
    by_cases c7 : p1 = (7 : Int32)
    · have hf := if_p c7 hf
      refine kw_tabIn C 141 dX9_house_19 c7 (by decide) (by decide) rfl rfl ?_
      refine kw_aload_n C dX9_house_141 rfl 0 rfl ?_
      refine kw_get C inG9 _ (hO9 g σ) rfl 7 (Nat.le_of_ble_eq_true rfl) mf_9_47 rfl rfl dX9_house_142 ?_
      refine kw_get C inG4 _ (hO4 g σ 5 (by simp [isSale])) rfl 4 (Nat.le_of_ble_eq_true rfl) mf_9_171 rfl rfl dX9_house_145 ?_
      refine kw_iload_n C dX9_house_148 rfl 1 rfl ?_
      obtain ⟨h6, hf⟩ := gd_elim hf
      refine kw_iald C _ 0 (hA4_4 g σ 5 (by simp [isSale])) rfl h6 dX9_house_149 ?_
      exact kw_iret C K dX9_house_150 (hv_ret hf)
    have hf := if_n c7 hf
    exact (hv_no (by decide) hf).elim
  · exact (hv_no (by decide) (if_p c hf)).elim
theorem st4 {σB σM : St} (p0 p1 : Int32) (R : REL σB σM) : ∃ k v b σM', fHs σB p0 p1 = some (k, v) ∧ fX10_house σM p0 p1 = some (b, σM') ∧ gI σM' 0 2 = k ∧ (k = 0 → b = v) ∧ (k = 0 ∨ k = 1 ∨ k = 2) ∧ REL σB σM' := by
  obtain ⟨t, n, np, R⟩ := R
  have R0 := R.th
  have hn6 := R.2.2.1.n6
  unfold fHs fX10_house fX9_isHouse fX10_isHouse fX10_fails
  have g2 : gI (sI σM 0 2 0) 0 2 = 0 := gIe ..
  simp only [lt_eq, jnx1_eq]
  generalize hs : sI σM 0 2 0 = σ1 at *
  have fails : ∀ w : Int32, REL σB (sI σ1 0 2 w) := fun w => (R0.q (qB.rf _) (qM.sI _ _ _ (Or.inl rfl))).r
  rw [R0.1, R0.2.2.1.hB, R0.2.2.1.hM]
  by_cases c0 : p0 < 0
  · rw [if_pos c0, if_pos c0, gdb0, bS, if_pos (show (0 : Int32) = 0 from rfl), bS, if_pos (show (0 : Int32) = 0 from rfl), bIs]
    exact ⟨1, 0, 0, _, rfl, rfl, gIe .., fun z => absurd z (by decide), Or.inr (Or.inl rfl), fails 1⟩
  · rw [if_neg c0, if_neg c0]
    by_cases c1 : p0 < nI n
    · rw [if_neg (Int32.not_le.mpr c1), if_neg (Int32.not_le.mpr c1)]
      obtain ⟨p, hp, rfl⟩ := house_nat hn6 ⟨Int32.not_lt.mp c0, c1⟩
      obtain ⟨m, m1, m2, m3, m4⟩ := R0.bits
      rw [if_neg (show ¬ (6 : Int32) ≤ nI p from fun z => absurd ((leN (a := 6) (b := p) (by omega) (by omega)).mp z) (by omega)), gdb1, bS, if_neg (show ¬ (1 : Int32) = 0 by decide), bS, if_neg (show ¬ (1 : Int32) = 0 by decide)]
      simp only [gdN (show p < 6 by omega) (show 6 ≤ 1000000 by omega), gdN (show p < 12 by omega) (show 12 ≤ 1000000 by omega), clN (show p < 1000000 by omega)]
      have tx4 : gA σB (tx t) 4 p = gA σ1 0 22 p := R0.2.2.1.2.2.2.2.2.2.2.1 4 (by omega) (by omega) p hp
      have tx5 : gA σB (tx t) 5 p = gA σ1 0 23 p := R0.2.2.1.2.2.2.2.2.2.2.1 5 (by omega) (by omega) p hp
      have a0 : gA σB 5 0 p = gA σ1 0 46 p := R0.a5 0 p (by omega) hp
      have a1 : gA σB 5 1 p = gA σ1 0 47 p := R0.a5 1 p (by omega) hp
      have a2 : gA σB 5 2 p = gA σ1 0 48 p := R0.a5 2 p (by omega) hp
      have a3 : gA σB 5 3 p = gA σ1 0 50 p := R0.a5 3 p (by omega) hp
      have a4 : gA σB 5 4 p = gA σ1 0 51 p := R0.a5 4 p (by omega) hp
      have ho : fX4_holds σB 5 (nI p) = some (if m.testBit p then 1 else 0) := holds_eq m3 m2 (by omega)
      rw [tx4, tx5, a0, a1, a2, a3, a4, ho, m4 p hp]
      by_cases d0 : p1 = (0 : Int32)
      · rw [if_pos d0, if_pos d0]
        exact ⟨0, _, _, σ1, rfl, rfl, g2, fun _ => rfl, Or.inl rfl, R0.r⟩
      rw [if_neg d0, if_neg d0]
      by_cases d1 : p1 = (1 : Int32)
      · rw [if_pos d1, if_pos d1]
        exact ⟨0, _, _, σ1, rfl, rfl, g2, fun _ => rfl, Or.inl rfl, R0.r⟩
      rw [if_neg d1, if_neg d1]
      by_cases d2 : p1 = (2 : Int32)
      · rw [if_pos d2, if_pos d2]
        exact ⟨0, _, _, σ1, rfl, rfl, g2, fun _ => rfl, Or.inl rfl, R0.r⟩
      rw [if_neg d2, if_neg d2]
      by_cases d3 : p1 = (3 : Int32)
      · rw [if_pos d3, if_pos d3]
        exact ⟨0, _, _, σ1, rfl, rfl, g2, fun _ => rfl, Or.inl rfl, R0.r⟩
      rw [if_neg d3, if_neg d3]
      by_cases d4 : p1 = (4 : Int32)
      · rw [if_pos d4, if_pos d4]
        exact ⟨0, _, _, σ1, rfl, rfl, g2, fun _ => rfl, Or.inl rfl, R0.r⟩
      rw [if_neg d4, if_neg d4]
      by_cases d5 : p1 = (5 : Int32)
      · rw [if_pos d5, if_pos d5, bS]
        cases m.testBit p
        · exact ⟨0, 0, 0, σ1, rfl, rfl, g2, fun _ => rfl, Or.inl rfl, R0.r⟩
        · exact ⟨0, 1, 1, σ1, rfl, rfl, g2, fun _ => rfl, Or.inl rfl, R0.r⟩
      rw [if_neg d5, if_neg d5]
      by_cases d6 : p1 = (6 : Int32)
      · rw [if_pos d6, if_pos d6]
        exact ⟨0, _, _, σ1, rfl, rfl, g2, fun _ => rfl, Or.inl rfl, R0.r⟩
      rw [if_neg d6, if_neg d6]
      by_cases d7 : p1 = (7 : Int32)
      · rw [if_pos d7, if_pos d7]
        exact ⟨0, _, _, σ1, rfl, rfl, g2, fun _ => rfl, Or.inl rfl, R0.r⟩
      rw [if_neg d7, if_neg d7]
      rw [bIs]
      exact ⟨2, 0, 0, _, rfl, rfl, gIe .., fun z => absurd z (by decide), Or.inr (Or.inr rfl), fails 2⟩
    · rw [if_pos (Int32.not_lt.mp c1), if_pos (Int32.not_lt.mp c1), gdb0, bS, if_pos (show (0 : Int32) = 0 from rfl), bS, if_pos (show (0 : Int32) = 0 from rfl), bIs]
      exact ⟨1, 0, 0, _, rfl, rfl, gIe .., fun z => absurd z (by decide), Or.inr (Or.inl rfl), fails 1⟩
