set_option maxRecDepth 100000 in
set_option maxHeartbeats 4000000 in
theorem kX3_faultKind (L : Launch) (D : va_G) (g : GwT) (t0 : Nat) (σ : St) (r0 : Int32) (hf : fX3_faultKind σ  = some r0) : CtI L D (ttG g) (wB g) t0 yX3_faultKind cX3_faultKind 1 (some .int) { frames := 0, cells := 0, slots := 0, locals := 0 } [.ref (g.1 9)] σ r0 σ := by
  refine CtI.of (own := RX3) (by decide) rfl (Nat.le_of_ble_eq_true rfl) [(0, .ref (g.1 9))] rfl ?_
  intro X C hN K
  unfold fX3_faultKind at hf
  refine kw_aload_n C dX3_faultKind_0 rfl 0 rfl ?_
  refine kw_get C inG3 _ (hO3 g σ) rfl 3 (Nat.le_of_ble_eq_true rfl) mf_3_39 rfl rfl dX3_faultKind_1 ?_
  exact kw_iret C K dX3_faultKind_4 (pr_ret hf)
set_option maxRecDepth 100000 in
set_option maxHeartbeats 4000000 in
theorem kX3_faultAt (L : Launch) (D : va_G) (g : GwT) (t0 : Nat) (σ : St) (r0 : Int32) (hf : fX3_faultAt σ  = some r0) : CtI L D (ttG g) (wB g) t0 yX3_faultAt cX3_faultAt 1 (some .int) { frames := 0, cells := 0, slots := 0, locals := 0 } [.ref (g.1 9)] σ r0 σ := by
  refine CtI.of (own := RX3) (by decide) rfl (Nat.le_of_ble_eq_true rfl) [(0, .ref (g.1 9))] rfl ?_
  intro X C hN K
  unfold fX3_faultAt at hf
  refine kw_aload_n C dX3_faultAt_0 rfl 0 rfl ?_
  refine kw_get C inG3 _ (hO3 g σ) rfl 0 (Nat.le_of_ble_eq_true rfl) mf_3_20 rfl rfl dX3_faultAt_1 ?_
  refine kw_get C inG7 _ (hO7 g σ) rfl 4 (Nat.le_of_ble_eq_true rfl) mf_3_43 rfl rfl dX3_faultAt_4 ?_
  exact kw_iret C K dX3_faultAt_7 (pr_ret hf)
set_option maxRecDepth 100000 in
set_option maxHeartbeats 4000000 in
theorem kX0_asItGoes (L : Launch) (D : va_G) (g : GwT) (t0 : Nat) (p0 : Bool) (σ : St) (σ0 : St) (hf : fX0_asItGoes σ p0 = some σ0) : CtV L D (ttG g) (wB g) t0 yX0_asItGoes cX0_asItGoes 2 none { frames := 0, cells := 0, slots := 0, locals := 0 } [.ref (g.1 14), .ref (g.1 (tx p0))] σ σ0 := by
  refine CtV.of (own := RX0) (by decide) rfl (Nat.le_of_ble_eq_true rfl) [(0, .ref (g.1 14)), (1, .ref (g.1 (tx p0)))] rfl ?_
  intro X C hN K
  unfold fX0_asItGoes at hf
  refine kw_aload_n C dX0_asItGoes_0 rfl 0 rfl ?_
  refine kw_aload_n C dX0_asItGoes_1 rfl 1 rfl ?_
  obtain ⟨σ1, eσ1, hf⟩ := lt_elim hf
  refine kw_put C inG0 tyX0 tyX0_ok nmX0 _ (hO0 g σ) rfl 1 (Nat.le_of_ble_eq_true rfl) mf_0_15 rfl rfl (tyX0_ok 1 (Nat.le_of_ble_eq_true rfl)) rfl rfl (Nat.le_of_ble_eq_true rfl) ((hF0_1 g σ _).trans (congrArg (wB g) eσ1.symm)) dX0_asItGoes_2 ?_
  refine kw_aload_n C dX0_asItGoes_5 rfl 0 rfl ?_
  refine kw_iconst C (0 : Int32) dX0_asItGoes_6 rfl ?_
  obtain ⟨σ2, eσ2, hf⟩ := lt_elim hf
  refine kw_put C inG0 tyX0 tyX0_ok nmX0 _ (hO0 g σ1) rfl 2 (Nat.le_of_ble_eq_true rfl) mf_0_19 rfl rfl (tyX0_ok 2 (Nat.le_of_ble_eq_true rfl)) (narrow_bz (by decide)) (fits_bz (by decide)) (Nat.le_of_ble_eq_true rfl) ((hF0_2 g σ1 _).trans (congrArg (wB g) eσ2.symm)) dX0_asItGoes_7 ?_
  refine kw_aload_n C dX0_asItGoes_10 rfl 0 rfl ?_
  refine kw_iconst C (0 : Int32) dX0_asItGoes_11 rfl ?_
  obtain ⟨σ3, eσ3, hf⟩ := lt_elim hf
  refine kw_put C inG0 tyX0 tyX0_ok nmX0 _ (hO0 g σ2) rfl 3 (Nat.le_of_ble_eq_true rfl) mf_0_23 rfl rfl (tyX0_ok 3 (Nat.le_of_ble_eq_true rfl)) (narrow_bz (by decide)) (fits_bz (by decide)) (Nat.le_of_ble_eq_true rfl) ((hF0_3 g σ2 _).trans (congrArg (wB g) eσ3.symm)) dX0_asItGoes_12 ?_
  refine kw_aload_n C dX0_asItGoes_15 rfl 0 rfl ?_
  refine kw_iconst C (0 : Int32) dX0_asItGoes_16 rfl ?_
  obtain ⟨σ4, eσ4, hf⟩ := lt_elim hf
  refine kw_put C inG0 tyX0 tyX0_ok nmX0 _ (hO0 g σ3) rfl 4 (Nat.le_of_ble_eq_true rfl) mf_0_26 rfl rfl (tyX0_ok 4 (Nat.le_of_ble_eq_true rfl)) (narrow_bz (by decide)) (fits_bz (by decide)) (Nat.le_of_ble_eq_true rfl) ((hF0_4 g σ3 _).trans (congrArg (wB g) eσ4.symm)) dX0_asItGoes_17 ?_
  refine kw_aload_n C dX0_asItGoes_20 rfl 0 rfl ?_
  refine kw_iconst C (0 : Int32) dX0_asItGoes_21 rfl ?_
  obtain ⟨σ5, eσ5, hf⟩ := lt_elim hf
  refine kw_put C inG0 tyX0 tyX0_ok nmX0 _ (hO0 g σ4) rfl 5 (Nat.le_of_ble_eq_true rfl) mf_0_29 rfl rfl (tyX0_ok 5 (Nat.le_of_ble_eq_true rfl)) (narrow_bz (by decide)) (fits_bz (by decide)) (Nat.le_of_ble_eq_true rfl) ((hF0_5 g σ4 _).trans (congrArg (wB g) eσ5.symm)) dX0_asItGoes_22 ?_
  refine kw_aload_n C dX0_asItGoes_25 rfl 0 rfl ?_
  refine kw_iconst C (0 : Int32) dX0_asItGoes_26 rfl ?_
  obtain ⟨σ6, eσ6, hf⟩ := lt_elim hf
  refine kw_put C inG0 tyX0 tyX0_ok nmX0 _ (hO0 g σ5) rfl 6 (Nat.le_of_ble_eq_true rfl) mf_0_32 rfl rfl (tyX0_ok 6 (Nat.le_of_ble_eq_true rfl)) rfl rfl (Nat.le_of_ble_eq_true rfl) ((hF0_6 g σ5 _).trans (congrArg (wB g) eσ6.symm)) dX0_asItGoes_27 ?_
  exact kw_vret (u9 := ()) C K dX0_asItGoes_30 hf
set_option maxRecDepth 100000 in
set_option maxHeartbeats 4000000 in
theorem kX0_nameOf (L : Launch) (D : va_G) (g : GwT) (t0 : Nat) (p0 : Int32) (p1 : Nat) (ho_p1 : isSale p1) (p2 : Int32) (σ : St) (r0 : Int32) (hf : fX0_nameOf σ p0 p1 p2 = some r0) : CtI L D (ttG g) (wB g) t0 yX0_nameOf cX0_nameOf 4 (some .int) { frames := 0, cells := 0, slots := 0, locals := 0 } [.ref (g.1 14), .int p0, .ref (g.1 p1), .int p2] σ r0 σ := by
  refine CtI.of (own := RX0) (by decide) rfl (Nat.le_of_ble_eq_true rfl) [(0, .ref (g.1 14)), (1, .int p0), (2, .ref (g.1 p1)), (3, .int p2)] rfl ?_
  intro X C hN K
  unfold fX0_nameOf at hf
  refine kw_iload_n C dX0_nameOf_0 rfl 1 rfl ?_
  by_cases c1 : p0 = (12 : Int32)
  · have hf := if_p c1 hf
    refine kw_tabIn C 40 dX0_nameOf_1 c1 (by decide) (by decide) rfl rfl ?_
    refine kw_aload_n C dX0_nameOf_40 rfl 2 rfl ?_
    refine kw_get C inG4 _ (hO4 g σ p1 ho_p1) rfl 9 (Nat.le_of_ble_eq_true rfl) mf_0_149 rfl rfl dX0_nameOf_41 ?_
    exact kw_iret C K dX0_nameOf_44 (pr_ret hf)
  have hf := if_n c1 hf
  by_cases c2 : p0 = (13 : Int32)
  · have hf := if_p c2 hf
    refine kw_tabIn C 45 dX0_nameOf_1 c2 (by decide) (by decide) rfl rfl ?_
    refine kw_aload_n C dX0_nameOf_45 rfl 2 rfl ?_
    refine kw_get C inG4 _ (hO4 g σ p1 ho_p1) rfl 0 (Nat.le_of_ble_eq_true rfl) mf_0_132 rfl rfl dX0_nameOf_46 ?_
    refine kw_iload_n C dX0_nameOf_49 rfl 3 rfl ?_
    obtain ⟨h3, hf⟩ := gd_elim hf
    refine kw_iald C _ 0 (hA4_0 g σ p1 ho_p1) rfl h3 dX0_nameOf_50 ?_
    exact kw_iret C K dX0_nameOf_51 (pr_ret hf)
  have hf := if_n c2 hf
  by_cases c4 : p0 = (14 : Int32)
  · have hf := if_p c4 hf
    refine kw_tabIn C 52 dX0_nameOf_1 c4 (by decide) (by decide) rfl rfl ?_
    refine kw_aload_n C dX0_nameOf_52 rfl 0 rfl ?_
    refine kw_get C inG0 _ (hO0 g σ) rfl 1 (Nat.le_of_ble_eq_true rfl) mf_0_15 rfl rfl dX0_nameOf_53 ?_
    refine kw_get C inG6 _ (hO6 g σ (gR σ 2)) rfl 4 (Nat.le_of_ble_eq_true rfl) mf_0_196 rfl rfl dX0_nameOf_56 ?_
    refine kw_iload_n C dX0_nameOf_59 rfl 3 rfl ?_
    obtain ⟨h5, hf⟩ := gd_elim hf
    refine kw_iald C _ 0 (hA6_4 g σ (gR σ 2)) rfl h5 dX0_nameOf_60 ?_
    exact kw_iret C K dX0_nameOf_61 (pr_ret hf)
  have hf := if_n c4 hf
  by_cases c6 : p0 = (15 : Int32)
  · have hf := if_p c6 hf
    refine kw_tabIn C 62 dX0_nameOf_1 c6 (by decide) (by decide) rfl rfl ?_
    refine kw_aload_n C dX0_nameOf_62 rfl 2 rfl ?_
    refine kw_get C inG4 _ (hO4 g σ p1 ho_p1) rfl 1 (Nat.le_of_ble_eq_true rfl) mf_0_105 rfl rfl dX0_nameOf_63 ?_
    refine kw_iload_n C dX0_nameOf_66 rfl 3 rfl ?_
    obtain ⟨h7, hf⟩ := gd_elim hf
    refine kw_iald C _ 0 (hA4_1 g σ p1 ho_p1) rfl h7 dX0_nameOf_67 ?_
    exact kw_iret C K dX0_nameOf_68 (pr_ret hf)
  have hf := if_n c6 hf
  by_cases c8 : p0 = (16 : Int32)
  · have hf := if_p c8 hf
    refine kw_tabIn C 69 dX0_nameOf_1 c8 (by decide) (by decide) rfl rfl ?_
    refine kw_aload_n C dX0_nameOf_69 rfl 2 rfl ?_
    refine kw_get C inG4 _ (hO4 g σ p1 ho_p1) rfl 2 (Nat.le_of_ble_eq_true rfl) mf_0_126 rfl rfl dX0_nameOf_70 ?_
    refine kw_iload_n C dX0_nameOf_73 rfl 3 rfl ?_
    obtain ⟨h9, hf⟩ := gd_elim hf
    refine kw_iald C _ 0 (hA4_2 g σ p1 ho_p1) rfl h9 dX0_nameOf_74 ?_
    exact kw_iret C K dX0_nameOf_75 (pr_ret hf)
  have hf := if_n c8 hf
  by_cases c10 : p0 = (17 : Int32)
  · have hf := if_p c10 hf
    refine kw_tabIn C 76 dX0_nameOf_1 c10 (by decide) (by decide) rfl rfl ?_
    refine kw_aload_n C dX0_nameOf_76 rfl 2 rfl ?_
    refine kw_get C inG4 _ (hO4 g σ p1 ho_p1) rfl 11 (Nat.le_of_ble_eq_true rfl) mf_0_71 rfl rfl dX0_nameOf_77 ?_
    exact kw_iret C K dX0_nameOf_80 (pr_ret hf)
  have hf := if_n c10 hf
  have c1_ : p0.toInt ≠ 12 := ne_ti c1
  have c2_ : p0.toInt ≠ 13 := ne_ti c2
  have c4_ : p0.toInt ≠ 14 := ne_ti c4
  have c6_ : p0.toInt ≠ 15 := ne_ti c6
  have c8_ : p0.toInt ≠ 16 := ne_ti c8
  have c10_ : p0.toInt ≠ 17 := ne_ti c10
  refine kw_tabOut C 81 dX0_nameOf_1 (by omega) rfl ?_
  refine kw_aload_n C dX0_nameOf_81 rfl 2 rfl ?_
  refine kw_get C inG4 _ (hO4 g σ p1 ho_p1) rfl 8 (Nat.le_of_ble_eq_true rfl) mf_0_77 rfl rfl dX0_nameOf_82 ?_
  exact kw_iret C K dX0_nameOf_85 (pr_ret hf)
set_option maxRecDepth 100000 in
set_option maxHeartbeats 4000000 in
theorem kX0_join (L : Launch) (D : va_G) (g : GwT) (t0 : Nat) (p0 : Int32) (p1 : Int64) (p2 : Int64) (σ : St) (r0 : Int64) (hf : fX0_join σ p0 p1 p2 = some r0) : CtL L D (ttG g) (wB g) t0 yX0_join cX0_join 5 (some .long) { frames := 1, cells := 0, slots := 0, locals := 23 } [.int p0, .long p1, .long p2] σ r0 σ := by
  refine CtL.of (own := RX0) (by decide) rfl (Nat.le_of_ble_eq_true rfl) [(0, .int p0), (1, .long p1), (3, .long p2)] rfl ?_
  intro X C hN K
  unfold fX0_join at hf
  refine kw_iload_n C dX0_join_0 rfl 0 rfl ?_
  obtain ⟨J1, hJ1, hf⟩ := jnx1_elim hf
  have kJ1 : ∀ (u9 : Unit), J1 u9 = some r0 → KW X σ 280 [(1, .long p1), (3, .long p2)] [] := by
    clear hf
    intro u9 hf
    have hf := (hJ1 u9).symm.trans hf
    refine kw_lload_n C dX0_join_280 rfl 1 rfl ?_
    refine kw_lconst C (0 : Int64) dX0_join_281 rfl ?_
    refine kw_lcmp C dX0_join_282 ?_
    obtain ⟨J3, hJ3, hf⟩ := jnx1_elim hf
    have kJ3 : ∀ (x2 : Int64), J3 x2 = some r0 → KW X σ 295 [] [.long x2] := by
      clear hf
      intro x2 hf
      have hf := (hJ3 x2).symm.trans hf
      exact kw_lret C K dX0_join_295 (pr_ret hf)
    refine kw_if_ne C 292 dX0_join_283 rfl (fun c4 => ?_) (fun c4 => ?_)
    · have hf := if_n c4 hf
      refine kw_lload_n C dX0_join_292 rfl 0 rfl ?_
      refine kw_lload_n C dX0_join_293 rfl 1 rfl ?_
      obtain ⟨h5, hf⟩ := gd_elim hf
      refine kw_ldiv C dX0_join_294 h5 ?_
      refine kw_sub [] _ rfl ?_
      exact kJ3 _ hf
    · have hf := if_p c4 hf
      refine kw_ldc2 C dX0_join_286 mk2_X0_103 ?_
      refine kw_goto C 295 dX0_join_289 rfl ?_
      refine kw_sub [] _ rfl ?_
      exact kJ3 _ hf
  by_cases c6 : p0 = (9 : Int32)
  · have hf := if_p c6 hf
    refine kw_tabIn C 132 dX0_join_1 c6 (by decide) (by decide) rfl rfl ?_
    refine kw_lload_n C dX0_join_132 rfl 1 rfl ?_
    refine kw_lconst C (0 : Int64) dX0_join_133 rfl ?_
    refine kw_lcmp C dX0_join_134 ?_
    obtain ⟨J8, hJ8, hf⟩ := jnx1_elim hf
    have kJ8 : ∀ (x7 : Int64), J8 x7 = some r0 → KW X σ 149 [] [.long x7] := by
      clear hf
      intro x7 hf
      have hf := (hJ8 x7).symm.trans hf
      exact kw_lret C K dX0_join_149 (pr_ret hf)
    obtain ⟨J9, hJ9, hf⟩ := jnx1_elim hf
    have kJ9 : ∀ (u9 : Unit), J9 u9 = some r0 → KW X σ 144 [] [] := by
      clear hf
      intro u9 hf
      have hf := (hJ9 u9).symm.trans hf
      refine kw_lconst C (1 : Int64) dX0_join_144 rfl ?_
      refine kw_goto C 149 dX0_join_145 rfl ?_
      exact kJ8 _ hf
    refine kw_if_ne C 144 dX0_join_135 rfl (fun c10 => ?_) (fun c10 => ?_)
    · have hf := if_n c10 hf
      refine kw_sub [] _ rfl ?_
      exact kJ9 _ hf
    · have hf := if_p c10 hf
      refine kw_lload_n C dX0_join_138 rfl 2 rfl ?_
      refine kw_lconst C (0 : Int64) dX0_join_139 rfl ?_
      refine kw_lcmp C dX0_join_140 ?_
      refine kw_if_eq C 148 dX0_join_141 rfl (fun c11 => ?_) (fun c11 => ?_)
      · have hf := if_p c11 hf
        refine kw_lconst C (0 : Int64) dX0_join_148 rfl ?_
        refine kw_sub [] _ rfl ?_
        exact kJ8 _ hf
      · have hf := if_n c11 hf
        refine kw_sub [] _ rfl ?_
        exact kJ9 _ hf
  have hf := if_n c6 hf
  by_cases c12 : p0 = (10 : Int32)
  · have hf := if_p c12 hf
    refine kw_tabIn C 150 dX0_join_1 c12 (by decide) (by decide) rfl rfl ?_
    refine kw_lload_n C dX0_join_150 rfl 1 rfl ?_
    refine kw_lconst C (0 : Int64) dX0_join_151 rfl ?_
    refine kw_lcmp C dX0_join_152 ?_
    obtain ⟨J14, hJ14, hf⟩ := jnx1_elim hf
    have kJ14 : ∀ (x13 : Int64), J14 x13 = some r0 → KW X σ 167 [] [.long x13] := by
      clear hf
      intro x13 hf
      have hf := (hJ14 x13).symm.trans hf
      exact kw_lret C K dX0_join_167 (pr_ret hf)
    obtain ⟨J15, hJ15, hf⟩ := jnx1_elim hf
    have kJ15 : ∀ (u9 : Unit), J15 u9 = some r0 → KW X σ 166 [] [] := by
      clear hf
      intro u9 hf
      have hf := (hJ15 u9).symm.trans hf
      refine kw_lconst C (0 : Int64) dX0_join_166 rfl ?_
      exact kJ14 _ hf
    refine kw_if_eq C 166 dX0_join_153 rfl (fun c16 => ?_) (fun c16 => ?_)
    · have hf := if_p c16 hf
      refine kw_sub [] _ rfl ?_
      exact kJ15 _ hf
    · have hf := if_n c16 hf
      refine kw_lload_n C dX0_join_156 rfl 2 rfl ?_
      refine kw_lconst C (0 : Int64) dX0_join_157 rfl ?_
      refine kw_lcmp C dX0_join_158 ?_
      refine kw_if_eq C 166 dX0_join_159 rfl (fun c17 => ?_) (fun c17 => ?_)
      · have hf := if_p c17 hf
        refine kw_sub [] _ rfl ?_
        exact kJ15 _ hf
      · have hf := if_n c17 hf
        refine kw_lconst C (1 : Int64) dX0_join_162 rfl ?_
        refine kw_goto C 167 dX0_join_163 rfl ?_
        refine kw_sub [] _ rfl ?_
        exact kJ14 _ hf
  have hf := if_n c12 hf
  by_cases c18 : p0 = (11 : Int32)
  · have hf := if_p c18 hf
    refine kw_tabIn C 120 dX0_join_1 c18 (by decide) (by decide) rfl rfl ?_
    refine kw_lload_n C dX0_join_120 rfl 1 rfl ?_
    refine kw_lconst C (0 : Int64) dX0_join_121 rfl ?_
    refine kw_lcmp C dX0_join_122 ?_
    obtain ⟨J20, hJ20, hf⟩ := jnx1_elim hf
    have kJ20 : ∀ (x19 : Int64), J20 x19 = some r0 → KW X σ 131 [] [.long x19] := by
      clear hf
      intro x19 hf
      have hf := (hJ20 x19).symm.trans hf
      exact kw_lret C K dX0_join_131 (pr_ret hf)
    refine kw_if_ne C 130 dX0_join_123 rfl (fun c21 => ?_) (fun c21 => ?_)
    · have hf := if_n c21 hf
      refine kw_lconst C (0 : Int64) dX0_join_130 rfl ?_
      refine kw_sub [] _ rfl ?_
      exact kJ20 _ hf
    · have hf := if_p c21 hf
      refine kw_lconst C (1 : Int64) dX0_join_126 rfl ?_
      refine kw_goto C 131 dX0_join_127 rfl ?_
      refine kw_sub [] _ rfl ?_
      exact kJ20 _ hf
  have hf := if_n c18 hf
  by_cases c22 : p0 = (12 : Int32)
  · have hf := if_p c22 hf
    refine kw_tabIn C 280 dX0_join_1 c22 (by decide) (by decide) rfl rfl ?_
    refine kw_sub [1, 2] _ rfl ?_
    exact kJ1 _ hf
  have hf := if_n c22 hf
  by_cases c23 : p0 = (13 : Int32)
  · have hf := if_p c23 hf
    refine kw_tabIn C 280 dX0_join_1 c23 (by decide) (by decide) rfl rfl ?_
    refine kw_sub [1, 2] _ rfl ?_
    exact kJ1 _ hf
  have hf := if_n c23 hf
  by_cases c24 : p0 = (14 : Int32)
  · have hf := if_p c24 hf
    refine kw_tabIn C 280 dX0_join_1 c24 (by decide) (by decide) rfl rfl ?_
    refine kw_sub [1, 2] _ rfl ?_
    exact kJ1 _ hf
  have hf := if_n c24 hf
  by_cases c25 : p0 = (15 : Int32)
  · have hf := if_p c25 hf
    refine kw_tabIn C 280 dX0_join_1 c25 (by decide) (by decide) rfl rfl ?_
    refine kw_sub [1, 2] _ rfl ?_
    exact kJ1 _ hf
  have hf := if_n c25 hf
  by_cases c26 : p0 = (16 : Int32)
  · have hf := if_p c26 hf
    refine kw_tabIn C 280 dX0_join_1 c26 (by decide) (by decide) rfl rfl ?_
    refine kw_sub [1, 2] _ rfl ?_
    exact kJ1 _ hf
  have hf := if_n c26 hf
  by_cases c27 : p0 = (17 : Int32)
  · have hf := if_p c27 hf
    refine kw_tabIn C 280 dX0_join_1 c27 (by decide) (by decide) rfl rfl ?_
    refine kw_sub [1, 2] _ rfl ?_
    exact kJ1 _ hf
  have hf := if_n c27 hf
  by_cases c28 : p0 = (18 : Int32)
  · have hf := if_p c28 hf
    refine kw_tabIn C 280 dX0_join_1 c28 (by decide) (by decide) rfl rfl ?_
    refine kw_sub [1, 2] _ rfl ?_
    exact kJ1 _ hf
  have hf := if_n c28 hf
  by_cases c29 : p0 = (19 : Int32)
  · have hf := if_p c29 hf
    refine kw_tabIn C 280 dX0_join_1 c29 (by decide) (by decide) rfl rfl ?_
    refine kw_sub [1, 2] _ rfl ?_
    exact kJ1 _ hf
  have hf := if_n c29 hf
  by_cases c30 : p0 = (20 : Int32)
  · have hf := if_p c30 hf
    refine kw_tabIn C 280 dX0_join_1 c30 (by decide) (by decide) rfl rfl ?_
    refine kw_sub [1, 2] _ rfl ?_
    exact kJ1 _ hf
  have hf := if_n c30 hf
  by_cases c31 : p0 = (21 : Int32)
  · have hf := if_p c31 hf
    refine kw_tabIn C 280 dX0_join_1 c31 (by decide) (by decide) rfl rfl ?_
    refine kw_sub [1, 2] _ rfl ?_
    exact kJ1 _ hf
  have hf := if_n c31 hf
  by_cases c32 : p0 = (22 : Int32)
  · have hf := if_p c32 hf
    refine kw_tabIn C 280 dX0_join_1 c32 (by decide) (by decide) rfl rfl ?_
    refine kw_sub [1, 2] _ rfl ?_
    exact kJ1 _ hf
  have hf := if_n c32 hf
  by_cases c33 : p0 = (23 : Int32)
  · have hf := if_p c33 hf
    refine kw_tabIn C 280 dX0_join_1 c33 (by decide) (by decide) rfl rfl ?_
    refine kw_sub [1, 2] _ rfl ?_
    exact kJ1 _ hf
  have hf := if_n c33 hf
  by_cases c34 : p0 = (24 : Int32)
  · have hf := if_p c34 hf
    refine kw_tabIn C 280 dX0_join_1 c34 (by decide) (by decide) rfl rfl ?_
    refine kw_sub [1, 2] _ rfl ?_
    exact kJ1 _ hf
  have hf := if_n c34 hf
  by_cases c35 : p0 = (25 : Int32)
  · have hf := if_p c35 hf
    refine kw_tabIn C 280 dX0_join_1 c35 (by decide) (by decide) rfl rfl ?_
    refine kw_sub [1, 2] _ rfl ?_
    exact kJ1 _ hf
  have hf := if_n c35 hf
  by_cases c36 : p0 = (26 : Int32)
  · have hf := if_p c36 hf
    refine kw_tabIn C 168 dX0_join_1 c36 (by decide) (by decide) rfl rfl ?_
    refine kw_lload_n C dX0_join_168 rfl 1 rfl ?_
    refine kw_lload_n C dX0_join_169 rfl 2 rfl ?_
    refine kw_lcmp C dX0_join_170 ?_
    obtain ⟨J38, hJ38, hf⟩ := jnx1_elim hf
    have kJ38 : ∀ (x37 : Int64), J38 x37 = some r0 → KW X σ 179 [] [.long x37] := by
      clear hf
      intro x37 hf
      have hf := (hJ38 x37).symm.trans hf
      exact kw_lret C K dX0_join_179 (pr_ret hf)
    refine kw_if_ge C 178 dX0_join_171 rfl (fun c39 => ?_) (fun c39 => ?_)
    · have hf := if_p c39 hf
      refine kw_lconst C (0 : Int64) dX0_join_178 rfl ?_
      refine kw_sub [] _ rfl ?_
      exact kJ38 _ hf
    · have hf := if_n c39 hf
      refine kw_lconst C (1 : Int64) dX0_join_174 rfl ?_
      refine kw_goto C 179 dX0_join_175 rfl ?_
      refine kw_sub [] _ rfl ?_
      exact kJ38 _ hf
  have hf := if_n c36 hf
  by_cases c40 : p0 = (27 : Int32)
  · have hf := if_p c40 hf
    refine kw_tabIn C 180 dX0_join_1 c40 (by decide) (by decide) rfl rfl ?_
    refine kw_lload_n C dX0_join_180 rfl 1 rfl ?_
    refine kw_lload_n C dX0_join_181 rfl 2 rfl ?_
    refine kw_lcmp C dX0_join_182 ?_
    obtain ⟨J42, hJ42, hf⟩ := jnx1_elim hf
    have kJ42 : ∀ (x41 : Int64), J42 x41 = some r0 → KW X σ 191 [] [.long x41] := by
      clear hf
      intro x41 hf
      have hf := (hJ42 x41).symm.trans hf
      exact kw_lret C K dX0_join_191 (pr_ret hf)
    refine kw_if_gt C 190 dX0_join_183 rfl (fun c43 => ?_) (fun c43 => ?_)
    · have hf := if_p c43 hf
      refine kw_lconst C (0 : Int64) dX0_join_190 rfl ?_
      refine kw_sub [] _ rfl ?_
      exact kJ42 _ hf
    · have hf := if_n c43 hf
      refine kw_lconst C (1 : Int64) dX0_join_186 rfl ?_
      refine kw_goto C 191 dX0_join_187 rfl ?_
      refine kw_sub [] _ rfl ?_
      exact kJ42 _ hf
  have hf := if_n c40 hf
  by_cases c44 : p0 = (28 : Int32)
  · have hf := if_p c44 hf
    refine kw_tabIn C 192 dX0_join_1 c44 (by decide) (by decide) rfl rfl ?_
    refine kw_lload_n C dX0_join_192 rfl 1 rfl ?_
    refine kw_lload_n C dX0_join_193 rfl 2 rfl ?_
    refine kw_lcmp C dX0_join_194 ?_
    obtain ⟨J46, hJ46, hf⟩ := jnx1_elim hf
    have kJ46 : ∀ (x45 : Int64), J46 x45 = some r0 → KW X σ 203 [] [.long x45] := by
      clear hf
      intro x45 hf
      have hf := (hJ46 x45).symm.trans hf
      exact kw_lret C K dX0_join_203 (pr_ret hf)
    refine kw_if_ne C 202 dX0_join_195 rfl (fun c47 => ?_) (fun c47 => ?_)
    · have hf := if_n c47 hf
      refine kw_lconst C (0 : Int64) dX0_join_202 rfl ?_
      refine kw_sub [] _ rfl ?_
      exact kJ46 _ hf
    · have hf := if_p c47 hf
      refine kw_lconst C (1 : Int64) dX0_join_198 rfl ?_
      refine kw_goto C 203 dX0_join_199 rfl ?_
      refine kw_sub [] _ rfl ?_
      exact kJ46 _ hf
  have hf := if_n c44 hf
  by_cases c48 : p0 = (29 : Int32)
  · have hf := if_p c48 hf
    refine kw_tabIn C 204 dX0_join_1 c48 (by decide) (by decide) rfl rfl ?_
    refine kw_lload_n C dX0_join_204 rfl 1 rfl ?_
    refine kw_lload_n C dX0_join_205 rfl 2 rfl ?_
    refine kw_lcmp C dX0_join_206 ?_
    obtain ⟨J50, hJ50, hf⟩ := jnx1_elim hf
    have kJ50 : ∀ (x49 : Int64), J50 x49 = some r0 → KW X σ 215 [] [.long x49] := by
      clear hf
      intro x49 hf
      have hf := (hJ50 x49).symm.trans hf
      exact kw_lret C K dX0_join_215 (pr_ret hf)
    refine kw_if_eq C 214 dX0_join_207 rfl (fun c51 => ?_) (fun c51 => ?_)
    · have hf := if_p c51 hf
      refine kw_lconst C (0 : Int64) dX0_join_214 rfl ?_
      refine kw_sub [] _ rfl ?_
      exact kJ50 _ hf
    · have hf := if_n c51 hf
      refine kw_lconst C (1 : Int64) dX0_join_210 rfl ?_
      refine kw_goto C 215 dX0_join_211 rfl ?_
      refine kw_sub [] _ rfl ?_
      exact kJ50 _ hf
  have hf := if_n c48 hf
  by_cases c52 : p0 = (30 : Int32)
  · have hf := if_p c52 hf
    refine kw_tabIn C 216 dX0_join_1 c52 (by decide) (by decide) rfl rfl ?_
    refine kw_lload_n C dX0_join_216 rfl 1 rfl ?_
    refine kw_lload_n C dX0_join_217 rfl 2 rfl ?_
    refine kw_lcmp C dX0_join_218 ?_
    obtain ⟨J54, hJ54, hf⟩ := jnx1_elim hf
    have kJ54 : ∀ (x53 : Int64), J54 x53 = some r0 → KW X σ 227 [] [.long x53] := by
      clear hf
      intro x53 hf
      have hf := (hJ54 x53).symm.trans hf
      exact kw_lret C K dX0_join_227 (pr_ret hf)
    refine kw_if_lt C 226 dX0_join_219 rfl (fun c55 => ?_) (fun c55 => ?_)
    · have hf := if_p c55 hf
      refine kw_lconst C (0 : Int64) dX0_join_226 rfl ?_
      refine kw_sub [] _ rfl ?_
      exact kJ54 _ hf
    · have hf := if_n c55 hf
      refine kw_lconst C (1 : Int64) dX0_join_222 rfl ?_
      refine kw_goto C 227 dX0_join_223 rfl ?_
      refine kw_sub [] _ rfl ?_
      exact kJ54 _ hf
  have hf := if_n c52 hf
  by_cases c56 : p0 = (31 : Int32)
  · have hf := if_p c56 hf
    refine kw_tabIn C 228 dX0_join_1 c56 (by decide) (by decide) rfl rfl ?_
    refine kw_lload_n C dX0_join_228 rfl 1 rfl ?_
    refine kw_lload_n C dX0_join_229 rfl 2 rfl ?_
    refine kw_lcmp C dX0_join_230 ?_
    obtain ⟨J58, hJ58, hf⟩ := jnx1_elim hf
    have kJ58 : ∀ (x57 : Int64), J58 x57 = some r0 → KW X σ 239 [] [.long x57] := by
      clear hf
      intro x57 hf
      have hf := (hJ58 x57).symm.trans hf
      exact kw_lret C K dX0_join_239 (pr_ret hf)
    refine kw_if_le C 238 dX0_join_231 rfl (fun c59 => ?_) (fun c59 => ?_)
    · have hf := if_p c59 hf
      refine kw_lconst C (0 : Int64) dX0_join_238 rfl ?_
      refine kw_sub [] _ rfl ?_
      exact kJ58 _ hf
    · have hf := if_n c59 hf
      refine kw_lconst C (1 : Int64) dX0_join_234 rfl ?_
      refine kw_goto C 239 dX0_join_235 rfl ?_
      refine kw_sub [] _ rfl ?_
      exact kJ58 _ hf
  have hf := if_n c56 hf
  by_cases c60 : p0 = (32 : Int32)
  · have hf := if_p c60 hf
    refine kw_tabIn C 240 dX0_join_1 c60 (by decide) (by decide) rfl rfl ?_
    refine kw_lload_n C dX0_join_240 rfl 1 rfl ?_
    refine kw_lload_n C dX0_join_241 rfl 2 rfl ?_
    refine kw_ladd C dX0_join_242 ?_
    exact kw_lret C K dX0_join_243 (pr_ret hf)
  have hf := if_n c60 hf
  by_cases c61 : p0 = (33 : Int32)
  · have hf := if_p c61 hf
    refine kw_tabIn C 244 dX0_join_1 c61 (by decide) (by decide) rfl rfl ?_
    refine kw_lload_n C dX0_join_244 rfl 1 rfl ?_
    refine kw_lload_n C dX0_join_245 rfl 2 rfl ?_
    refine kw_lsub C dX0_join_246 ?_
    exact kw_lret C K dX0_join_247 (pr_ret hf)
  have hf := if_n c61 hf
  by_cases c62 : p0 = (34 : Int32)
  · have hf := if_p c62 hf
    refine kw_tabIn C 248 dX0_join_1 c62 (by decide) (by decide) rfl rfl ?_
    refine kw_lload_n C dX0_join_248 rfl 1 rfl ?_
    refine kw_lconst C (0 : Int64) dX0_join_249 rfl ?_
    refine kw_lcmp C dX0_join_250 ?_
    obtain ⟨J64, hJ64, hf⟩ := jnx1_elim hf
    have kJ64 : ∀ (x63 : Int64), J64 x63 = some r0 → KW X σ 279 [] [.long x63] := by
      clear hf
      intro x63 hf
      have hf := (hJ64 x63).symm.trans hf
      exact kw_lret C K dX0_join_279 (pr_ret hf)
    obtain ⟨J65, hJ65, hf⟩ := jnx1_elim hf
    have kJ65 : ∀ (u9 : Unit), J65 u9 = some r0 → KW X σ 276 [(1, .long p1), (3, .long p2)] [] := by
      clear hf
      intro u9 hf
      have hf := (hJ65 u9).symm.trans hf
      refine kw_lload_n C dX0_join_276 rfl 0 rfl ?_
      refine kw_lload_n C dX0_join_277 rfl 1 rfl ?_
      refine kw_lmul C dX0_join_278 ?_
      refine kw_sub [] _ rfl ?_
      exact kJ64 _ hf
    refine kw_if_eq C 276 dX0_join_251 rfl (fun c66 => ?_) (fun c66 => ?_)
    · have hf := if_p c66 hf
      refine kw_sub [1, 2] _ rfl ?_
      exact kJ65 _ hf
    · have hf := if_n c66 hf
      refine kw_lload_n C dX0_join_254 rfl 2 rfl ?_
      refine kw_mabs_long C ml_X0_199 mst_abs_long mi_Math mcode_abs_long ⟨Nat.le_of_ble_eq_true rfl, Nat.le_of_ble_eq_true rfl⟩ dX0_join_255 ?_
      refine kw_ldc2 C dX0_join_258 mk2_X0_192 ?_
      refine kw_lload_n C dX0_join_261 rfl 1 rfl ?_
      refine kw_mabs_long C ml_X0_199 mst_abs_long mi_Math mcode_abs_long ⟨Nat.le_of_ble_eq_true rfl, Nat.le_of_ble_eq_true rfl⟩ dX0_join_262 ?_
      obtain ⟨h67, hf⟩ := gd_elim hf
      refine kw_ldiv C dX0_join_265 h67 ?_
      refine kw_lcmp C dX0_join_266 ?_
      refine kw_if_le C 276 dX0_join_267 rfl (fun c68 => ?_) (fun c68 => ?_)
      · have hf := if_p c68 hf
        refine kw_sub [1, 2] _ rfl ?_
        exact kJ65 _ hf
      · have hf := if_n c68 hf
        refine kw_ldc2 C dX0_join_270 mk2_X0_103 ?_
        refine kw_goto C 279 dX0_join_273 rfl ?_
        refine kw_sub [] _ rfl ?_
        exact kJ64 _ hf
  have hf := if_n c62 hf
  have c6_ : p0.toInt ≠ 9 := ne_ti c6
  have c12_ : p0.toInt ≠ 10 := ne_ti c12
  have c18_ : p0.toInt ≠ 11 := ne_ti c18
  have c22_ : p0.toInt ≠ 12 := ne_ti c22
  have c23_ : p0.toInt ≠ 13 := ne_ti c23
  have c24_ : p0.toInt ≠ 14 := ne_ti c24
  have c25_ : p0.toInt ≠ 15 := ne_ti c25
  have c26_ : p0.toInt ≠ 16 := ne_ti c26
  have c27_ : p0.toInt ≠ 17 := ne_ti c27
  have c28_ : p0.toInt ≠ 18 := ne_ti c28
  have c29_ : p0.toInt ≠ 19 := ne_ti c29
  have c30_ : p0.toInt ≠ 20 := ne_ti c30
  have c31_ : p0.toInt ≠ 21 := ne_ti c31
  have c32_ : p0.toInt ≠ 22 := ne_ti c32
  have c33_ : p0.toInt ≠ 23 := ne_ti c33
  have c34_ : p0.toInt ≠ 24 := ne_ti c34
  have c35_ : p0.toInt ≠ 25 := ne_ti c35
  have c36_ : p0.toInt ≠ 26 := ne_ti c36
  have c40_ : p0.toInt ≠ 27 := ne_ti c40
  have c44_ : p0.toInt ≠ 28 := ne_ti c44
  have c48_ : p0.toInt ≠ 29 := ne_ti c48
  have c52_ : p0.toInt ≠ 30 := ne_ti c52
  have c56_ : p0.toInt ≠ 31 := ne_ti c56
  have c60_ : p0.toInt ≠ 32 := ne_ti c60
  have c61_ : p0.toInt ≠ 33 := ne_ti c61
  have c62_ : p0.toInt ≠ 34 := ne_ti c62
  refine kw_tabOut C 280 dX0_join_1 (by omega) rfl ?_
  refine kw_sub [1, 2] _ rfl ?_
  exact kJ1 _ hf
set_option maxRecDepth 100000 in
set_option maxHeartbeats 4000000 in
theorem kX0_valueOf (L : Launch) (D : va_G) (g : GwT) (t0 : Nat) (p0 : Int32) (p1 : Nat) (ho_p1 : isSale p1) (p2 : Int32) (σ : St) (r0 : Int64) (σ0 : St) (hf : fX0_valueOf σ p0 p1 p2 = some (r0, σ0)) : CtL L D (ttG g) (wB g) t0 yX0_valueOf cX0_valueOf 11 (some .long) { frames := 2, cells := 0, slots := 0, locals := 47 } [.ref (g.1 14), .int p0, .ref (g.1 p1), .int p2] σ r0 σ0 := by
  refine CtL.of (own := RX0) (by decide) rfl (Nat.le_of_ble_eq_true rfl) [(0, .ref (g.1 14)), (1, .int p0), (2, .ref (g.1 p1)), (3, .int p2)] rfl ?_
  intro X C hN K
  unfold fX0_valueOf at hf
  refine kw_aload_n C dX0_valueOf_0 rfl 0 rfl ?_
  refine kw_get C inG0 _ (hO0 g σ) rfl 1 (Nat.le_of_ble_eq_true rfl) mf_0_15 rfl rfl dX0_valueOf_1 ?_
  refine kw_get C inG6 _ (hO6 g σ (gR σ 2)) rfl 15 (Nat.le_of_ble_eq_true rfl) mf_0_162 rfl rfl dX0_valueOf_4 ?_
  refine kw_astore C dX0_valueOf_7 hN (Nat.le_of_ble_eq_true rfl) [(4, .ref (g.1 (lw (gR σ 2)))), (0, .ref (g.1 14)), (1, .int p0), (2, .ref (g.1 p1)), (3, .int p2)] rfl ?_
  refine kw_iconst C (0 : Int32) dX0_valueOf_9 rfl ?_
  refine kw_istore C dX0_valueOf_10 hN (Nat.le_of_ble_eq_true rfl) [(5, .int (0 : Int32)), (4, .ref (g.1 (lw (gR σ 2)))), (0, .ref (g.1 14)), (1, .int p0), (2, .ref (g.1 p1)), (3, .int p2)] rfl ?_
  refine kw_aload C dX0_valueOf_12 1 rfl ?_
  refine kw_get C inG2 _ (hO2 g σ (gR σ 2)) rfl 2 (Nat.le_of_ble_eq_true rfl) mf_0_166 rfl rfl dX0_valueOf_14 ?_
  refine kw_iload_n C dX0_valueOf_17 rfl 3 rfl ?_
  obtain ⟨h1, hf⟩ := gd_elim hf
  refine kw_iald C _ 0 (hA2_2 g σ (gR σ 2)) rfl h1 dX0_valueOf_18 ?_
  obtain ⟨x2, ex2, hf⟩ := lt_elim hf
  refine kw_topi ex2 ?_
  refine kw_istore C dX0_valueOf_19 hN (Nat.le_of_ble_eq_true rfl) [(6, .int x2), (5, .int (0 : Int32)), (4, .ref (g.1 (lw (gR σ 2)))), (0, .ref (g.1 14)), (1, .int p0), (2, .ref (g.1 p1)), (3, .int p2)] rfl ?_
  refine kw_sub [3, 4, 5, 6, 2, 1, 0] _ rfl ?_
  refine lpx3_walk (P := fun (x3 : Int32) (x4 : Int32) (σ5 : St) => KW X σ5 21 [(0, .ref (g.1 14)), (1, .int p0), (2, .ref (g.1 p1)), (3, .int p2), (4, .ref (g.1 (lw (gR σ 2)))), (5, .int x3), (6, .int x4)] []) ?_ FU _ _ _ hf
  intro self6 x3 x4 σ5 ih7 hf
  refine kw_iload C dX0_valueOf_21 6 rfl ?_
  refine kw_aload C dX0_valueOf_23 4 rfl ?_
  refine kw_get C inG2 _ (hO2 g σ5 (gR σ 2)) rfl 3 (Nat.le_of_ble_eq_true rfl) mf_0_171 rfl rfl dX0_valueOf_25 ?_
  refine kw_iload_n C dX0_valueOf_28 rfl 1 rfl ?_
  obtain ⟨h8, hf⟩ := gd_elim hf
  refine kw_iald C _ 0 (hA2_3 g σ5 (gR σ 2)) rfl h8 dX0_valueOf_29 ?_
  refine kw_icmp_ge C 209 dX0_valueOf_30 rfl (fun c9 => ?_) (fun c9 => ?_)
  · have hf := if_p c9 hf
    refine kw_iload C dX0_valueOf_209 5 rfl ?_
    refine kw_iconst C (1 : Int32) dX0_valueOf_211 rfl ?_
    obtain ⟨J11, hJ11, hf⟩ := jnx1_elim hf
    have kJ11 : ∀ (x10 : Int64), J11 x10 = some (r0, σ0) → KW X σ5 227 [] [.long x10] := by
      clear hf
      intro x10 hf
      have hf := (hJ11 x10).symm.trans hf
      exact kw_lret C K dX0_valueOf_227 hf
    refine kw_icmp_ne C 224 dX0_valueOf_212 rfl (fun c12 => ?_) (fun c12 => ?_)
    · have hf := if_n c12 hf
      refine kw_ldc2 C dX0_valueOf_224 mk2_X0_103 ?_
      refine kw_sub [] _ rfl ?_
      exact kJ11 _ hf
    · have hf := if_p c12 hf
      refine kw_aload_n C dX0_valueOf_215 rfl 0 rfl ?_
      refine kw_get C inG0 _ (hO0 g σ5) rfl 0 (Nat.le_of_ble_eq_true rfl) mf_0_9 rfl rfl dX0_valueOf_216 ?_
      refine kw_iconst C (0 : Int32) dX0_valueOf_219 rfl ?_
      refine kw_lald C _ 2 (hA0_0 g σ5) rfl (by decide) dX0_valueOf_220 ?_
      refine kw_goto C 227 dX0_valueOf_221 rfl ?_
      refine kw_sub [] _ rfl ?_
      exact kJ11 _ hf
  · have hf := if_n c9 hf
    refine kw_aload C dX0_valueOf_33 4 rfl ?_
    refine kw_get C inG2 _ (hO2 g σ5 (gR σ 2)) rfl 0 (Nat.le_of_ble_eq_true rfl) mf_0_174 rfl rfl dX0_valueOf_35 ?_
    refine kw_iload C dX0_valueOf_38 6 rfl ?_
    obtain ⟨h13, hf⟩ := gd_elim hf
    refine kw_iald C _ 0 (hA2_0 g σ5 (gR σ 2)) rfl h13 dX0_valueOf_40 ?_
    obtain ⟨x14, ex14, hf⟩ := lt_elim hf
    refine kw_topi ex14 ?_
    refine kw_istore C dX0_valueOf_41 hN (Nat.le_of_ble_eq_true rfl) [(7, .int x14), (0, .ref (g.1 14)), (1, .int p0), (2, .ref (g.1 p1)), (3, .int p2), (4, .ref (g.1 (lw (gR σ 2)))), (5, .int x3), (6, .int x4)] rfl ?_
    refine kw_iload C dX0_valueOf_43 0 rfl ?_
    refine kw_bipush C (20 : Int32) dX0_valueOf_45 rfl ?_
    obtain ⟨J17, hJ17, hf⟩ := jnx2_elim hf
    have kJ17 : ∀ (x15 : Int32) (σ16 : St), J17 x15 σ16 = some (r0, σ0) → KW X σ16 203 [(0, .ref (g.1 14)), (1, .int p0), (2, .ref (g.1 p1)), (3, .int p2), (4, .ref (g.1 (lw (gR σ 2)))), (5, .int x15), (6, .int x4)] [] := by
      clear hf
      intro x15 σ16 hf
      have hf := (hJ17 x15 σ16).symm.trans hf
      obtain ⟨x18, ex18, hf⟩ := lt_elim hf
      refine kw_iinc C x18 dX0_valueOf_203 6 rfl ex18.symm hN (Nat.le_of_ble_eq_true rfl) [(6, .int x18), (0, .ref (g.1 14)), (1, .int p0), (2, .ref (g.1 p1)), (3, .int p2), (4, .ref (g.1 (lw (gR σ 2)))), (5, .int x15)] rfl ?_
      refine kw_goto C 21 dX0_valueOf_206 rfl ?_
      refine kw_sub [1, 2, 3, 4, 5, 6, 0] _ rfl ?_
      exact ih7 _ _ _ hf
    obtain ⟨J19, hJ19, hf⟩ := jnx1_elim hf
    have kJ19 : ∀ (u9 : Unit), J19 u9 = some (r0, σ0) → KW X σ5 62 [(0, .ref (g.1 14)), (1, .int p0), (2, .ref (g.1 p1)), (3, .int p2), (4, .ref (g.1 (lw (gR σ 2)))), (5, .int x3), (6, .int x4), (7, .int x14)] [] := by
      clear hf
      intro u9 hf
      have hf := (hJ19 u9).symm.trans hf
      refine kw_iload C dX0_valueOf_62 5 rfl ?_
      refine kw_bipush C (64 : Int32) dX0_valueOf_64 rfl ?_
      refine kw_icmp_lt C 73 dX0_valueOf_66 rfl (fun c20 => ?_) (fun c20 => ?_)
      · have hf := if_p c20 hf
        refine kw_aload_n C dX0_valueOf_73 rfl 0 rfl ?_
        refine kw_get C inG0 _ (hO0 g σ5) rfl 0 (Nat.le_of_ble_eq_true rfl) mf_0_9 rfl rfl dX0_valueOf_74 ?_
        refine kw_iload C dX0_valueOf_77 5 rfl ?_
        refine kw_iload C dX0_valueOf_79 7 rfl ?_
        refine kw_bipush C (20 : Int32) dX0_valueOf_81 rfl ?_
        obtain ⟨J22, hJ22, hf⟩ := jnx1_elim hf
        have kJ22 : ∀ (x21 : Int64), J22 x21 = some (r0, σ0) → KW X σ5 107 [(0, .ref (g.1 14)), (1, .int p0), (2, .ref (g.1 p1)), (3, .int p2), (4, .ref (g.1 (lw (gR σ 2)))), (5, .int x3), (6, .int x4)] [.long x21, .int x3, .ref (g.2.1 14 0)] := by
          clear hf
          intro x21 hf
          have hf := (hJ22 x21).symm.trans hf
          obtain ⟨h23, hf⟩ := gd_elim hf
          obtain ⟨σ24, eσ24, hf⟩ := lt_elim hf
          refine kw_last C _ 2 (hA0_0 g σ5) rfl h23 ((hS0_0 g σ5 _).trans (congrArg (wB g) eσ24.symm)) dX0_valueOf_107 ?_
          obtain ⟨x25, ex25, hf⟩ := lt_elim hf
          refine kw_iinc C x25 dX0_valueOf_108 5 rfl ex25.symm hN (Nat.le_of_ble_eq_true rfl) [(5, .int x25), (0, .ref (g.1 14)), (1, .int p0), (2, .ref (g.1 p1)), (3, .int p2), (4, .ref (g.1 (lw (gR σ 2)))), (6, .int x4)] rfl ?_
          refine kw_goto C 203 dX0_valueOf_111 rfl ?_
          refine kw_sub [1, 2, 3, 4, 5, 0, 6] _ rfl ?_
          exact kJ17 _ _ hf
        refine kw_icmp_ne C 98 dX0_valueOf_83 rfl (fun c26 => ?_) (fun c26 => ?_)
        · have hf := if_n c26 hf
          refine kw_aload_n C dX0_valueOf_98 rfl 0 rfl ?_
          refine kw_iload C dX0_valueOf_99 7 rfl ?_
          refine kw_aload_n C dX0_valueOf_101 rfl 2 rfl ?_
          refine kw_iload_n C dX0_valueOf_102 rfl 3 rfl ?_
          obtain ⟨r28, hc27, hf⟩ := bd_elim hf
          refine kw_callVI C [.int x14, .ref (g.1 p1), .int p2] (kX0_nameOf L D g t0 x14 p1 ho_p1 p2 σ5 _ hc27) RX0 mV_X0_184 ⟨rfl, rfl⟩ dd_X0_nameOf ⟨Nat.le_of_ble_eq_true rfl, Nat.le_of_ble_eq_true rfl⟩ _ (hO0 g σ5) rfl rfl rfl (Nat.le_of_ble_eq_true rfl) dX0_valueOf_103 ?_
          refine kw_i2l C dX0_valueOf_106 ?_
          refine kw_sub [0, 1, 2, 3, 4, 5, 6] _ rfl ?_
          exact kJ22 _ hf
        · have hf := if_p c26 hf
          refine kw_aload C dX0_valueOf_86 4 rfl ?_
          refine kw_get C inG2 _ (hO2 g σ5 (gR σ 2)) rfl 1 (Nat.le_of_ble_eq_true rfl) mf_0_181 rfl rfl dX0_valueOf_88 ?_
          refine kw_iload C dX0_valueOf_91 6 rfl ?_
          obtain ⟨h29, hf⟩ := gd_elim hf
          refine kw_iald C _ 0 (hA2_1 g σ5 (gR σ 2)) rfl h29 dX0_valueOf_93 ?_
          refine kw_i2l C dX0_valueOf_94 ?_
          refine kw_goto C 107 dX0_valueOf_95 rfl ?_
          refine kw_sub [0, 1, 2, 3, 4, 5, 6] _ rfl ?_
          exact kJ22 _ hf
      · have hf := if_n c20 hf
        refine kw_ldc2 C dX0_valueOf_69 mk2_X0_103 ?_
        exact kw_lret C K dX0_valueOf_72 hf
    refine kw_icmp_eq C 62 dX0_valueOf_47 rfl (fun c30 => ?_) (fun c30 => ?_)
    · have hf := if_p c30 hf
      refine kw_sub [1, 2, 3, 4, 5, 6, 7, 0] _ rfl ?_
      exact kJ19 _ hf
    · have hf := if_n c30 hf
      refine kw_iload C dX0_valueOf_50 0 rfl ?_
      refine kw_bipush C (12 : Int32) dX0_valueOf_52 rfl ?_
      refine kw_bipush C (18 : Int32) dX0_valueOf_54 rfl ?_
      obtain ⟨r32, hc31, hf⟩ := bd_elim hf
      refine kw_callNI C [.int x14, .int (12 : Int32), .int (18 : Int32)] (kX9_isWithin L D g t0 x14 (12 : Int32) (18 : Int32) σ5 _ hc31) "BidLines" (fun _ h => h.1) (GT_c mcode_X9_isWithin (fun _ h => h)) mi_X9 mst_X9_isWithin ⟨rfl, rfl⟩ dd_X9_isWithin.2 ⟨Nat.le_of_ble_eq_true rfl, Nat.le_of_ble_eq_true rfl⟩ rfl (Nat.le_of_ble_eq_true rfl) dX0_valueOf_56 ?_
      refine kw_if_eq C 114 dX0_valueOf_59 rfl (fun c33 => ?_) (fun c33 => ?_)
      · have hf := if_p c33 hf
        refine kw_iload C dX0_valueOf_114 0 rfl ?_
        refine kw_bipush C (11 : Int32) dX0_valueOf_116 rfl ?_
        obtain ⟨J35, hJ35, hf⟩ := jnx1_elim hf
        have kJ35 : ∀ (x34 : Int32), J35 x34 = some (r0, σ0) → KW X σ5 132 [(0, .ref (g.1 14)), (1, .int p0), (2, .ref (g.1 p1)), (3, .int p2), (4, .ref (g.1 (lw (gR σ 2)))), (5, .int x3), (6, .int x4), (7, .int x14)] [.int x34] := by
          clear hf
          intro x34 hf
          have hf := (hJ35 x34).symm.trans hf
          refine kw_istore C dX0_valueOf_132 hN (Nat.le_of_ble_eq_true rfl) [(8, .int x34), (0, .ref (g.1 14)), (1, .int p0), (2, .ref (g.1 p1)), (3, .int p2), (4, .ref (g.1 (lw (gR σ 2)))), (5, .int x3), (6, .int x4), (7, .int x14)] rfl ?_
          refine kw_iload C dX0_valueOf_134 0 rfl ?_
          refine kw_if_ge C 143 dX0_valueOf_136 rfl (fun c36 => ?_) (fun c36 => ?_)
          · have hf := if_p c36 hf
            refine kw_iload C dX0_valueOf_143 8 rfl ?_
            refine kw_aload_n C dX0_valueOf_145 rfl 1 rfl ?_
            refine kw_get C inG0 _ (hO0 g σ5) rfl 0 (Nat.le_of_ble_eq_true rfl) mf_0_9 rfl rfl dX0_valueOf_146 ?_
            refine kw_iload C dX0_valueOf_149 0 rfl ?_
            obtain ⟨h37, hf⟩ := gd_elim hf
            refine kw_lald C _ 2 (hA0_0 g σ5) rfl h37 dX0_valueOf_151 ?_
            refine kw_aload_n C dX0_valueOf_152 rfl 1 rfl ?_
            refine kw_get C inG0 _ (hO0 g σ5) rfl 0 (Nat.le_of_ble_eq_true rfl) mf_0_9 rfl rfl dX0_valueOf_153 ?_
            refine kw_iload C dX0_valueOf_156 6 rfl ?_
            refine kw_iconst C (1 : Int32) dX0_valueOf_158 rfl ?_
            refine kw_isub C dX0_valueOf_159 ?_
            obtain ⟨h38, hf⟩ := gd_elim hf
            refine kw_lald C _ 2 (hA0_0 g σ5) rfl h38 dX0_valueOf_160 ?_
            obtain ⟨r40, hc39, hf⟩ := bd_elim hf
            refine kw_callSL C [.int x14, .long (gL σ5 14 0 (Int32.toNatClampNeg x34)), .long (gL σ5 14 0 (Int32.toNatClampNeg (x3 - (1 : Int32))))] (kX0_join L D g t0 x14 (gL σ5 14 0 (Int32.toNatClampNeg x34)) (gL σ5 14 0 (Int32.toNatClampNeg (x3 - (1 : Int32)))) σ5 _ hc39) mS_X0_188 ⟨rfl, rfl⟩ dd_X0_join ⟨Nat.le_of_ble_eq_true rfl, Nat.le_of_ble_eq_true rfl⟩ rfl (Nat.le_of_ble_eq_true rfl) dX0_valueOf_161 ?_
            refine kw_lstore C dX0_valueOf_164 hN (Nat.le_of_ble_eq_true rfl) [(9, .long r40), (8, .int x34), (0, .ref (g.1 14)), (1, .int p0), (2, .ref (g.1 p1)), (3, .int p2), (4, .ref (g.1 (lw (gR σ 2)))), (5, .int x3), (6, .int x4), (7, .int x14)] rfl ?_
            refine kw_lload C dX0_valueOf_166 0 rfl ?_
            refine kw_ldc2 C dX0_valueOf_168 mk2_X0_192 ?_
            refine kw_lcmp C dX0_valueOf_171 ?_
            obtain ⟨J41, hJ41, hf⟩ := jnx1_elim hf
            have kJ41 : ∀ (u9 : Unit), J41 u9 = some (r0, σ0) → KW X σ5 184 [] [] := by
              clear hf
              intro u9 hf
              have hf := (hJ41 u9).symm.trans hf
              refine kw_ldc2 C dX0_valueOf_184 mk2_X0_103 ?_
              exact kw_lret C K dX0_valueOf_187 hf
            refine kw_if_gt C 184 dX0_valueOf_172 rfl (fun c42 => ?_) (fun c42 => ?_)
            · have hf := if_p c42 hf
              refine kw_sub [] _ rfl ?_
              exact kJ41 _ hf
            · have hf := if_n c42 hf
              refine kw_lload C dX0_valueOf_175 0 rfl ?_
              refine kw_ldc2 C dX0_valueOf_177 mk2_X0_194 ?_
              refine kw_lcmp C dX0_valueOf_180 ?_
              refine kw_if_ge C 188 dX0_valueOf_181 rfl (fun c43 => ?_) (fun c43 => ?_)
              · have hf := if_p c43 hf
                refine kw_aload_n C dX0_valueOf_188 rfl 2 rfl ?_
                refine kw_get C inG0 _ (hO0 g σ5) rfl 0 (Nat.le_of_ble_eq_true rfl) mf_0_9 rfl rfl dX0_valueOf_189 ?_
                refine kw_iload C dX0_valueOf_192 1 rfl ?_
                refine kw_lload C dX0_valueOf_194 0 rfl ?_
                obtain ⟨h44, hf⟩ := gd_elim hf
                obtain ⟨σ45, eσ45, hf⟩ := lt_elim hf
                refine kw_last C _ 2 (hA0_0 g σ5) rfl h44 ((hS0_0 g σ5 _).trans (congrArg (wB g) eσ45.symm)) dX0_valueOf_196 ?_
                refine kw_iload C dX0_valueOf_197 1 rfl ?_
                refine kw_iconst C (1 : Int32) dX0_valueOf_199 rfl ?_
                refine kw_iadd C dX0_valueOf_200 ?_
                obtain ⟨x46, ex46, hf⟩ := lt_elim hf
                refine kw_topi ex46 ?_
                refine kw_istore C dX0_valueOf_201 hN (Nat.le_of_ble_eq_true rfl) [(5, .int x46), (9, .long r40), (8, .int x34), (0, .ref (g.1 14)), (1, .int p0), (2, .ref (g.1 p1)), (3, .int p2), (4, .ref (g.1 (lw (gR σ 2)))), (6, .int x4), (7, .int x14)] rfl ?_
                refine kw_sub [3, 4, 5, 6, 7, 0, 8] _ rfl ?_
                exact kJ17 _ _ hf
              · have hf := if_n c43 hf
                refine kw_sub [] _ rfl ?_
                exact kJ41 _ hf
          · have hf := if_n c36 hf
            refine kw_ldc2 C dX0_valueOf_139 mk2_X0_103 ?_
            exact kw_lret C K dX0_valueOf_142 hf
        refine kw_icmp_ne C 128 dX0_valueOf_118 rfl (fun c47 => ?_) (fun c47 => ?_)
        · have hf := if_n c47 hf
          refine kw_iload C dX0_valueOf_128 6 rfl ?_
          refine kw_iconst C (2 : Int32) dX0_valueOf_130 rfl ?_
          refine kw_isub C dX0_valueOf_131 ?_
          refine kw_sub [1, 2, 3, 4, 5, 6, 7, 0] _ rfl ?_
          exact kJ35 _ hf
        · have hf := if_p c47 hf
          refine kw_iload C dX0_valueOf_121 6 rfl ?_
          refine kw_iconst C (1 : Int32) dX0_valueOf_123 rfl ?_
          refine kw_isub C dX0_valueOf_124 ?_
          refine kw_goto C 132 dX0_valueOf_125 rfl ?_
          refine kw_sub [1, 2, 3, 4, 5, 6, 7, 0] _ rfl ?_
          exact kJ35 _ hf
      · have hf := if_n c33 hf
        refine kw_sub [1, 2, 3, 4, 5, 6, 7, 0] _ rfl ?_
        exact kJ19 _ hf
set_option maxRecDepth 100000 in
set_option maxHeartbeats 4000000 in
theorem kX0_whoseTurn (L : Launch) (D : va_G) (g : GwT) (t0 : Nat) (p0 : Nat) (ho_p0 : isSale p0) (σ : St) (r0 : Int32) (hf : fX0_whoseTurn σ p0 = some r0) : CtI L D (ttG g) (wB g) t0 yX0_whoseTurn cX0_whoseTurn 5 (some .int) { frames := 1, cells := 0, slots := 0, locals := 21 } [.ref (g.1 14), .ref (g.1 p0)] σ r0 σ := by
  refine CtI.of (own := RX0) (by decide) rfl (Nat.le_of_ble_eq_true rfl) [(0, .ref (g.1 14)), (1, .ref (g.1 p0))] rfl ?_
  intro X C hN K
  unfold fX0_whoseTurn at hf
  refine kw_aload_n C dX0_whoseTurn_0 rfl 0 rfl ?_
  refine kw_get C inG0 _ (hO0 g σ) rfl 1 (Nat.le_of_ble_eq_true rfl) mf_0_15 rfl rfl dX0_whoseTurn_1 ?_
  refine kw_get C inG6 _ (hO6 g σ (gR σ 2)) rfl 1 (Nat.le_of_ble_eq_true rfl) mf_0_55 rfl rfl dX0_whoseTurn_4 ?_
  obtain ⟨x1, ex1, hf⟩ := lt_elim hf
  refine kw_topi ex1 ?_
  refine kw_istore_n C dX0_whoseTurn_7 rfl hN (Nat.le_of_ble_eq_true rfl) [(2, .int x1), (0, .ref (g.1 14)), (1, .ref (g.1 p0))] rfl ?_
  refine kw_iconst C (0 : Int32) dX0_whoseTurn_8 rfl ?_
  refine kw_istore_n C dX0_whoseTurn_9 rfl hN (Nat.le_of_ble_eq_true rfl) [(3, .int (0 : Int32)), (2, .int x1), (0, .ref (g.1 14)), (1, .ref (g.1 p0))] rfl ?_
  refine kw_sub [3, 1, 0] _ rfl ?_
  refine lpx1_walk (P := fun (x2 : Int32) => KW X σ 10 [(1, .ref (g.1 p0)), (2, .int x1), (3, .int x2)] []) ?_ FU _ hf
  intro self3 x2 ih4 hf
  refine kw_iload_n C dX0_whoseTurn_10 rfl 2 rfl ?_
  refine kw_iload_n C dX0_whoseTurn_11 rfl 1 rfl ?_
  refine kw_icmp_ge C 43 dX0_whoseTurn_12 rfl (fun c5 => ?_) (fun c5 => ?_)
  · have hf := if_p c5 hf
    refine kw_iconst C (-1 : Int32) dX0_whoseTurn_43 rfl ?_
    exact kw_iret C K dX0_whoseTurn_44 (pr_ret hf)
  · have hf := if_n c5 hf
    refine kw_aload_n C dX0_whoseTurn_15 rfl 0 rfl ?_
    refine kw_get C inG4 _ (hO4 g σ p0 ho_p0) rfl 8 (Nat.le_of_ble_eq_true rfl) mf_0_77 rfl rfl dX0_whoseTurn_16 ?_
    refine kw_iload_n C dX0_whoseTurn_19 rfl 2 rfl ?_
    refine kw_iadd C dX0_whoseTurn_20 ?_
    refine kw_iload_n C dX0_whoseTurn_21 rfl 1 rfl ?_
    obtain ⟨h6, hf⟩ := gd_elim hf
    refine kw_irem C dX0_whoseTurn_22 h6 ?_
    obtain ⟨x7, ex7, hf⟩ := lt_elim hf
    refine kw_topi ex7 ?_
    refine kw_istore C dX0_whoseTurn_23 hN (Nat.le_of_ble_eq_true rfl) [(4, .int x7), (1, .ref (g.1 p0)), (2, .int x1), (3, .int x2)] rfl ?_
    refine kw_aload_n C dX0_whoseTurn_25 rfl 1 rfl ?_
    refine kw_iload C dX0_whoseTurn_26 0 rfl ?_
    obtain ⟨r9, hc8, hf⟩ := bd_elim hf
    refine kw_callVI C [.int x7] (kX4_holds L D g t0 p0 ho_p0 x7 σ _ hc8) RX4 mV_X0_60 ⟨rfl, rfl⟩ dd_X4_holds ⟨Nat.le_of_ble_eq_true rfl, Nat.le_of_ble_eq_true rfl⟩ _ (hO4 g σ p0 ho_p0) rfl rfl rfl (Nat.le_of_ble_eq_true rfl) dX0_whoseTurn_28 ?_
    refine kw_if_eq C 37 dX0_whoseTurn_31 rfl (fun c10 => ?_) (fun c10 => ?_)
    · have hf := if_p c10 hf
      obtain ⟨x11, ex11, hf⟩ := lt_elim hf
      refine kw_iinc C x11 dX0_whoseTurn_37 3 rfl ex11.symm hN (Nat.le_of_ble_eq_true rfl) [(3, .int x11), (4, .int x7), (1, .ref (g.1 p0)), (2, .int x1)] rfl ?_
      refine kw_goto C 10 dX0_whoseTurn_40 rfl ?_
      refine kw_sub [2, 3, 0] _ rfl ?_
      exact ih4 _ hf
    · have hf := if_n c10 hf
      refine kw_iload C dX0_whoseTurn_34 0 rfl ?_
      exact kw_iret C K dX0_whoseTurn_36 (pr_ret hf)
set_option maxRecDepth 100000 in
set_option maxHeartbeats 4000000 in
theorem kX0_stepOf (L : Launch) (D : va_G) (g : GwT) (t0 : Nat) (p0 : Int32) (σ : St) (r0 : Int32) (hf : fX0_stepOf σ p0 = some r0) : CtI L D (ttG g) (wB g) t0 yX0_stepOf cX0_stepOf 2 (some .int) { frames := 0, cells := 0, slots := 0, locals := 0 } [.ref (g.1 14), .int p0] σ r0 σ := by
  refine CtI.of (own := RX0) (by decide) rfl (Nat.le_of_ble_eq_true rfl) [(0, .ref (g.1 14)), (1, .int p0)] rfl ?_
  intro X C hN K
  unfold fX0_stepOf at hf
  refine kw_aload_n C dX0_stepOf_0 rfl 0 rfl ?_
  refine kw_get C inG0 _ (hO0 g σ) rfl 5 (Nat.le_of_ble_eq_true rfl) mf_0_29 rfl rfl dX0_stepOf_1 ?_
  obtain ⟨J2, hJ2, hf⟩ := jnx1_elim hf
  have kJ2 : ∀ (x1 : Int32), J2 x1 = some r0 → KW X σ 20 [] [.int x1] := by
    clear hf
    intro x1 hf
    have hf := (hJ2 x1).symm.trans hf
    exact kw_iret C K dX0_stepOf_20 (pr_ret hf)
  refine kw_if_eq C 11 dX0_stepOf_4 rfl (fun c3 => ?_) (fun c3 => ?_)
  · have hf := if_p c3 hf
    refine kw_aload_n C dX0_stepOf_11 rfl 0 rfl ?_
    refine kw_get C inG0 _ (hO0 g σ) rfl 1 (Nat.le_of_ble_eq_true rfl) mf_0_15 rfl rfl dX0_stepOf_12 ?_
    refine kw_get C inG6 _ (hO6 g σ (gR σ 2)) rfl 5 (Nat.le_of_ble_eq_true rfl) mf_0_146 rfl rfl dX0_stepOf_15 ?_
    refine kw_iload_n C dX0_stepOf_18 rfl 1 rfl ?_
    obtain ⟨h4, hf⟩ := gd_elim hf
    refine kw_iald C _ 0 (hA6_5 g σ (gR σ 2)) rfl h4 dX0_stepOf_19 ?_
    refine kw_sub [] _ rfl ?_
    exact kJ2 _ hf
  · have hf := if_n c3 hf
    refine kw_iconst C (1 : Int32) dX0_stepOf_7 rfl ?_
    refine kw_goto C 20 dX0_stepOf_8 rfl ?_
    refine kw_sub [] _ rfl ?_
    exact kJ2 _ hf
set_option maxRecDepth 100000 in
set_option maxHeartbeats 4000000 in
theorem kX0_mayNod (L : Launch) (D : va_G) (g : GwT) (t0 : Nat) (p0 : Nat) (ho_p0 : isSale p0) (p1 : Int32) (σ : St) (r0 : Int32) (hf : fX0_mayNod σ p0 p1 = some r0) : CtI L D (ttG g) (wB g) t0 yX0_mayNod cX0_mayNod 3 (some .boolean) { frames := 1, cells := 0, slots := 0, locals := 21 } [.ref (g.1 14), .ref (g.1 p0), .int p1] σ r0 σ := by
  refine CtI.of (own := RX0) (by decide) rfl (Nat.le_of_ble_eq_true rfl) [(0, .ref (g.1 14)), (1, .ref (g.1 p0)), (2, .int p1)] rfl ?_
  intro X C hN K
  unfold fX0_mayNod at hf
  refine kw_aload_n C dX0_mayNod_0 rfl 1 rfl ?_
  refine kw_get C inG4 _ (hO4 g σ p0 ho_p0) rfl 14 (Nat.le_of_ble_eq_true rfl) mf_0_40 rfl rfl dX0_mayNod_1 ?_
  obtain ⟨J2, hJ2, hf⟩ := jnx1_elim hf
  have kJ2 : ∀ (x1 : Int32), J2 x1 = some r0 → KW X σ 47 [] [.int x1] := by
    clear hf
    intro x1 hf
    have hf := (hJ2 x1).symm.trans hf
    obtain ⟨h3, hf⟩ := gd_elim hf
    exact kw_zret C K h3 dX0_mayNod_47 (pr_ret hf)
  obtain ⟨J4, hJ4, hf⟩ := jnx1_elim hf
  have kJ4 : ∀ (u9 : Unit), J4 u9 = some r0 → KW X σ 46 [] [] := by
    clear hf
    intro u9 hf
    have hf := (hJ4 u9).symm.trans hf
    refine kw_iconst C (0 : Int32) dX0_mayNod_46 rfl ?_
    exact kJ2 _ hf
  refine kw_if_ne C 46 dX0_mayNod_4 rfl (fun c5 => ?_) (fun c5 => ?_)
  · have hf := if_n c5 hf
    refine kw_sub [] _ rfl ?_
    exact kJ4 _ hf
  · have hf := if_p c5 hf
    refine kw_aload_n C dX0_mayNod_7 rfl 1 rfl ?_
    refine kw_iload_n C dX0_mayNod_8 rfl 2 rfl ?_
    obtain ⟨r7, hc6, hf⟩ := bd_elim hf
    refine kw_callVI C [.int p1] (kX4_holds L D g t0 p0 ho_p0 p1 σ _ hc6) RX4 mV_X0_60 ⟨rfl, rfl⟩ dd_X4_holds ⟨Nat.le_of_ble_eq_true rfl, Nat.le_of_ble_eq_true rfl⟩ _ (hO4 g σ p0 ho_p0) rfl rfl rfl (Nat.le_of_ble_eq_true rfl) dX0_mayNod_9 ?_
    refine kw_if_eq C 46 dX0_mayNod_12 rfl (fun c8 => ?_) (fun c8 => ?_)
    · have hf := if_p c8 hf
      refine kw_sub [] _ rfl ?_
      exact kJ4 _ hf
    · have hf := if_n c8 hf
      refine kw_aload_n C dX0_mayNod_15 rfl 1 rfl ?_
      refine kw_get C inG4 _ (hO4 g σ p0 ho_p0) rfl 10 (Nat.le_of_ble_eq_true rfl) mf_0_52 rfl rfl dX0_mayNod_16 ?_
      refine kw_iload_n C dX0_mayNod_19 rfl 2 rfl ?_
      refine kw_icmp_eq C 46 dX0_mayNod_20 rfl (fun c9 => ?_) (fun c9 => ?_)
      · have hf := if_p c9 hf
        refine kw_sub [] _ rfl ?_
        exact kJ4 _ hf
      · have hf := if_n c9 hf
        refine kw_aload_n C dX0_mayNod_23 rfl 1 rfl ?_
        refine kw_get C inG4 _ (hO4 g σ p0 ho_p0) rfl 9 (Nat.le_of_ble_eq_true rfl) mf_0_149 rfl rfl dX0_mayNod_24 ?_
        refine kw_aload_n C dX0_mayNod_27 rfl 0 rfl ?_
        refine kw_iload_n C dX0_mayNod_28 rfl 2 rfl ?_
        obtain ⟨r11, hc10, hf⟩ := bd_elim hf
        refine kw_callVI C [.int p1] (kX0_stepOf L D g t0 p1 σ _ hc10) RX0 mV_X0_152 ⟨rfl, rfl⟩ dd_X0_stepOf ⟨Nat.le_of_ble_eq_true rfl, Nat.le_of_ble_eq_true rfl⟩ _ (hO0 g σ) rfl rfl rfl (Nat.le_of_ble_eq_true rfl) dX0_mayNod_29 ?_
        refine kw_iadd C dX0_mayNod_32 ?_
        refine kw_aload_n C dX0_mayNod_33 rfl 1 rfl ?_
        refine kw_get C inG4 _ (hO4 g σ p0 ho_p0) rfl 0 (Nat.le_of_ble_eq_true rfl) mf_0_132 rfl rfl dX0_mayNod_34 ?_
        refine kw_iload_n C dX0_mayNod_37 rfl 2 rfl ?_
        obtain ⟨h12, hf⟩ := gd_elim hf
        refine kw_iald C _ 0 (hA4_0 g σ p0 ho_p0) rfl h12 dX0_mayNod_38 ?_
        refine kw_icmp_gt C 46 dX0_mayNod_39 rfl (fun c13 => ?_) (fun c13 => ?_)
        · have hf := if_p c13 hf
          refine kw_sub [] _ rfl ?_
          exact kJ4 _ hf
        · have hf := if_n c13 hf
          refine kw_iconst C (1 : Int32) dX0_mayNod_42 rfl ?_
          refine kw_goto C 47 dX0_mayNod_43 rfl ?_
          refine kw_sub [] _ rfl ?_
          exact kJ2 _ hf
set_option maxRecDepth 100000 in
set_option maxHeartbeats 4000000 in
theorem kX0_raise (L : Launch) (D : va_G) (g : GwT) (t0 : Nat) (p0 : Nat) (ho_p0 : isSale p0) (p1 : Int32) (σ : St) (σ0 : St) (hf : fX0_raise σ p0 p1 = some σ0) : CtV L D (ttG g) (wB g) t0 yX0_raise cX0_raise 3 none { frames := 1, cells := 0, slots := 0, locals := 21 } [.ref (g.1 14), .ref (g.1 p0), .int p1] σ σ0 := by
  refine CtV.of (own := RX0) (by decide) rfl (Nat.le_of_ble_eq_true rfl) [(0, .ref (g.1 14)), (1, .ref (g.1 p0)), (2, .int p1)] rfl ?_
  intro X C hN K
  unfold fX0_raise at hf
  refine kw_aload_n C dX0_raise_0 rfl 1 rfl ?_
  refine kw_dup C dX0_raise_1 rfl ?_
  refine kw_get C inG4 _ (hO4 g σ p0 ho_p0) rfl 9 (Nat.le_of_ble_eq_true rfl) mf_0_149 rfl rfl dX0_raise_2 ?_
  refine kw_aload_n C dX0_raise_5 rfl 0 rfl ?_
  refine kw_iload_n C dX0_raise_6 rfl 2 rfl ?_
  obtain ⟨r2, hc1, hf⟩ := bd_elim hf
  refine kw_callVI C [.int p1] (kX0_stepOf L D g t0 p1 σ _ hc1) RX0 mV_X0_152 ⟨rfl, rfl⟩ dd_X0_stepOf ⟨Nat.le_of_ble_eq_true rfl, Nat.le_of_ble_eq_true rfl⟩ _ (hO0 g σ) rfl rfl rfl (Nat.le_of_ble_eq_true rfl) dX0_raise_7 ?_
  refine kw_iadd C dX0_raise_10 ?_
  obtain ⟨σ3, eσ3, hf⟩ := lt_elim hf
  refine kw_put C inG4 tyX4 tyX4_ok nmX4 _ (hO4 g σ p0 ho_p0) rfl 9 (Nat.le_of_ble_eq_true rfl) mf_0_149 rfl rfl (tyX4_ok 9 (Nat.le_of_ble_eq_true rfl)) rfl rfl (Nat.le_of_ble_eq_true rfl) ((hF4_9 g σ p0 ho_p0 _).trans (congrArg (wB g) eσ3.symm)) dX0_raise_11 ?_
  refine kw_aload_n C dX0_raise_14 rfl 1 rfl ?_
  refine kw_iload_n C dX0_raise_15 rfl 2 rfl ?_
  obtain ⟨σ4, eσ4, hf⟩ := lt_elim hf
  refine kw_put C inG4 tyX4 tyX4_ok nmX4 _ (hO4 g σ3 p0 ho_p0) rfl 10 (Nat.le_of_ble_eq_true rfl) mf_0_52 rfl rfl (tyX4_ok 10 (Nat.le_of_ble_eq_true rfl)) rfl rfl (Nat.le_of_ble_eq_true rfl) ((hF4_10 g σ3 p0 ho_p0 _).trans (congrArg (wB g) eσ4.symm)) dX0_raise_16 ?_
  refine kw_aload_n C dX0_raise_19 rfl 1 rfl ?_
  refine kw_iconst C (0 : Int32) dX0_raise_20 rfl ?_
  obtain ⟨σ5, eσ5, hf⟩ := lt_elim hf
  refine kw_put C inG4 tyX4 tyX4_ok nmX4 _ (hO4 g σ4 p0 ho_p0) rfl 11 (Nat.le_of_ble_eq_true rfl) mf_0_71 rfl rfl (tyX4_ok 11 (Nat.le_of_ble_eq_true rfl)) rfl rfl (Nat.le_of_ble_eq_true rfl) ((hF4_11 g σ4 p0 ho_p0 _).trans (congrArg (wB g) eσ5.symm)) dX0_raise_21 ?_
  refine kw_aload_n C dX0_raise_24 rfl 1 rfl ?_
  refine kw_get C inG4 _ (hO4 g σ5 p0 ho_p0) rfl 3 (Nat.le_of_ble_eq_true rfl) mf_0_156 rfl rfl dX0_raise_25 ?_
  refine kw_iload_n C dX0_raise_28 rfl 2 rfl ?_
  refine kw_dup2 C dX0_raise_29 rfl rfl ?_
  obtain ⟨h6, hf⟩ := gd_elim hf
  refine kw_iald C _ 0 (hA4_3 g σ5 p0 ho_p0) rfl h6 dX0_raise_30 ?_
  refine kw_iconst C (1 : Int32) dX0_raise_31 rfl ?_
  refine kw_iadd C dX0_raise_32 ?_
  obtain ⟨h7, hf⟩ := gd_elim hf
  obtain ⟨σ8, eσ8, hf⟩ := lt_elim hf
  refine kw_iast C _ 0 (hA4_3 g σ5 p0 ho_p0) rfl h7 ((hS4_3 g σ5 p0 ho_p0 _).trans (congrArg (wB g) eσ8.symm)) dX0_raise_33 ?_
  refine kw_aload_n C dX0_raise_34 rfl 1 rfl ?_
  refine kw_get C inG4 _ (hO4 g σ8 p0 ho_p0) rfl 4 (Nat.le_of_ble_eq_true rfl) mf_0_159 rfl rfl dX0_raise_35 ?_
  refine kw_iload_n C dX0_raise_38 rfl 2 rfl ?_
  refine kw_aload_n C dX0_raise_39 rfl 1 rfl ?_
  refine kw_get C inG4 _ (hO4 g σ8 p0 ho_p0) rfl 9 (Nat.le_of_ble_eq_true rfl) mf_0_149 rfl rfl dX0_raise_40 ?_
  obtain ⟨h9, hf⟩ := gd_elim hf
  obtain ⟨σ10, eσ10, hf⟩ := lt_elim hf
  refine kw_iast C _ 0 (hA4_4 g σ8 p0 ho_p0) rfl h9 ((hS4_4 g σ8 p0 ho_p0 _).trans (congrArg (wB g) eσ10.symm)) dX0_raise_43 ?_
  exact kw_vret (u9 := ()) C K dX0_raise_44 hf
set_option maxRecDepth 100000 in
set_option maxHeartbeats 4000000 in
theorem kX0_byNumbers (L : Launch) (D : va_G) (g : GwT) (t0 : Nat) (p0 : Bool) (σ : St) (σ0 : St) (hf : fX0_byNumbers σ p0 = some σ0) : CtV L D (ttG g) (wB g) t0 yX0_byNumbers cX0_byNumbers 2 none { frames := 1, cells := 0, slots := 0, locals := 21 } [.ref (g.1 14), .ref (g.1 (tx p0))] σ σ0 := by
  refine CtV.of (own := RX0) (by decide) rfl (Nat.le_of_ble_eq_true rfl) [(0, .ref (g.1 14)), (1, .ref (g.1 (tx p0)))] rfl ?_
  intro X C hN K
  unfold fX0_byNumbers at hf
  refine kw_aload_n C dX0_byNumbers_0 rfl 0 rfl ?_
  refine kw_aload_n C dX0_byNumbers_1 rfl 1 rfl ?_
  obtain ⟨σ2, hc1, hf⟩ := bV_elim hf
  refine kw_callVV C [.ref (g.1 (tx p0))] (kX0_asItGoes L D g t0 p0 σ _ hc1) RX0 mV_X0_36 ⟨rfl, rfl⟩ dd_X0_asItGoes ⟨Nat.le_of_ble_eq_true rfl, Nat.le_of_ble_eq_true rfl⟩ _ (hO0 g σ) rfl rfl rfl (Nat.le_of_ble_eq_true rfl) dX0_byNumbers_2 ?_
  refine kw_aload_n C dX0_byNumbers_5 rfl 0 rfl ?_
  refine kw_iconst C (1 : Int32) dX0_byNumbers_6 rfl ?_
  obtain ⟨σ3, eσ3, hf⟩ := lt_elim hf
  refine kw_put C inG0 tyX0 tyX0_ok nmX0 _ (hO0 g σ2) rfl 2 (Nat.le_of_ble_eq_true rfl) mf_0_19 rfl rfl (tyX0_ok 2 (Nat.le_of_ble_eq_true rfl)) (narrow_bz (by decide)) (fits_bz (by decide)) (Nat.le_of_ble_eq_true rfl) ((hF0_2 g σ2 _).trans (congrArg (wB g) eσ3.symm)) dX0_byNumbers_7 ?_
  exact kw_vret (u9 := ()) C K dX0_byNumbers_10 hf
set_option maxRecDepth 100000 in
set_option maxHeartbeats 4000000 in
theorem kX0_takeTurn (L : Launch) (D : va_G) (g : GwT) (t0 : Nat) (p0 : Nat) (ho_p0 : isSale p0) (σ : St) (r0 : Int32) (σ0 : St) (hf : fX0_takeTurn σ p0 = some (r0, σ0)) : CtI L D (ttG g) (wB g) t0 yX0_takeTurn cX0_takeTurn 3 (some .int) { frames := 3, cells := 0, slots := 0, locals := 77 } [.ref (g.1 14), .ref (g.1 p0)] σ r0 σ0 := by
  refine CtI.of (own := RX0) (by decide) rfl (Nat.le_of_ble_eq_true rfl) [(0, .ref (g.1 14)), (1, .ref (g.1 p0))] rfl ?_
  intro X C hN K
  unfold fX0_takeTurn at hf
  refine kw_aload_n C dX0_takeTurn_0 rfl 0 rfl ?_
  refine kw_aload_n C dX0_takeTurn_1 rfl 1 rfl ?_
  obtain ⟨r2, hc1, hf⟩ := bd_elim hf
  refine kw_callVI C [.ref (g.1 p0)] (kX0_whoseTurn L D g t0 p0 ho_p0 σ _ hc1) RX0 mV_X0_137 ⟨rfl, rfl⟩ dd_X0_whoseTurn ⟨Nat.le_of_ble_eq_true rfl, Nat.le_of_ble_eq_true rfl⟩ _ (hO0 g σ) rfl rfl rfl (Nat.le_of_ble_eq_true rfl) dX0_takeTurn_2 ?_
  refine kw_istore_n C dX0_takeTurn_5 rfl hN (Nat.le_of_ble_eq_true rfl) [(2, .int r2), (0, .ref (g.1 14)), (1, .ref (g.1 p0))] rfl ?_
  refine kw_iload_n C dX0_takeTurn_6 rfl 0 rfl ?_
  refine kw_iconst C (-1 : Int32) dX0_takeTurn_7 rfl ?_
  obtain ⟨J3, hJ3, hf⟩ := jnx1_elim hf
  have kJ3 : ∀ (u9 : Unit), J3 u9 = some (r0, σ0) → KW X σ 32 [] [] := by
    clear hf
    intro u9 hf
    have hf := (hJ3 u9).symm.trans hf
    refine kw_iconst C (-1 : Int32) dX0_takeTurn_32 rfl ?_
    exact kw_iret C K dX0_takeTurn_33 hf
  refine kw_icmp_eq C 32 dX0_takeTurn_8 rfl (fun c4 => ?_) (fun c4 => ?_)
  · have hf := if_p c4 hf
    refine kw_sub [] _ rfl ?_
    exact kJ3 _ hf
  · have hf := if_n c4 hf
    refine kw_aload_n C dX0_takeTurn_11 rfl 1 rfl ?_
    refine kw_get C inG0 _ (hO0 g σ) rfl 6 (Nat.le_of_ble_eq_true rfl) mf_0_32 rfl rfl dX0_takeTurn_12 ?_
    refine kw_iload_n C dX0_takeTurn_15 rfl 0 rfl ?_
    refine kw_ishr C dX0_takeTurn_16 ?_
    refine kw_iconst C (1 : Int32) dX0_takeTurn_17 rfl ?_
    refine kw_iand C dX0_takeTurn_18 ?_
    refine kw_iconst C (1 : Int32) dX0_takeTurn_19 rfl ?_
    refine kw_icmp_eq C 32 dX0_takeTurn_20 rfl (fun c5 => ?_) (fun c5 => ?_)
    · have hf := if_p c5 hf
      refine kw_sub [] _ rfl ?_
      exact kJ3 _ hf
    · have hf := if_n c5 hf
      refine kw_aload_n C dX0_takeTurn_23 rfl 1 rfl ?_
      refine kw_aload_n C dX0_takeTurn_24 rfl 2 rfl ?_
      refine kw_iload_n C dX0_takeTurn_25 rfl 0 rfl ?_
      obtain ⟨r7, hc6, hf⟩ := bd_elim hf
      refine kw_callVI C [.ref (g.1 p0), .int r2] (kX0_mayNod L D g t0 p0 ho_p0 r2 σ _ hc6) RX0 mV_X0_140 ⟨rfl, rfl⟩ dd_X0_mayNod ⟨Nat.le_of_ble_eq_true rfl, Nat.le_of_ble_eq_true rfl⟩ _ (hO0 g σ) rfl rfl rfl (Nat.le_of_ble_eq_true rfl) dX0_takeTurn_26 ?_
      refine kw_if_ne C 34 dX0_takeTurn_29 rfl (fun c8 => ?_) (fun c8 => ?_)
      · have hf := if_n c8 hf
        refine kw_aload_n C dX0_takeTurn_34 rfl 1 rfl ?_
        refine kw_iconst C (2 : Int32) dX0_takeTurn_35 rfl ?_
        refine kw_aload_n C dX0_takeTurn_36 rfl 2 rfl ?_
        refine kw_iload_n C dX0_takeTurn_37 rfl 0 rfl ?_
        obtain ⟨r10, σ11, hc9, hf⟩ := bL_elim hf
        refine kw_callVL C [.int (2 : Int32), .ref (g.1 p0), .int r2] (kX0_valueOf L D g t0 (2 : Int32) p0 ho_p0 r2 σ _ _ hc9) RX0 mV_X0_99 ⟨rfl, rfl⟩ dd_X0_valueOf ⟨Nat.le_of_ble_eq_true rfl, Nat.le_of_ble_eq_true rfl⟩ _ (hO0 g σ) rfl rfl rfl (Nat.le_of_ble_eq_true rfl) dX0_takeTurn_38 ?_
        refine kw_lconst C (0 : Int64) dX0_takeTurn_41 rfl ?_
        refine kw_lcmp C dX0_takeTurn_42 ?_
        refine kw_if_ne C 48 dX0_takeTurn_43 rfl (fun c12 => ?_) (fun c12 => ?_)
        · have hf := if_n c12 hf
          refine kw_aload_n C dX0_takeTurn_48 rfl 1 rfl ?_
          refine kw_aload_n C dX0_takeTurn_49 rfl 2 rfl ?_
          refine kw_iload_n C dX0_takeTurn_50 rfl 0 rfl ?_
          obtain ⟨σ14, hc13, hf⟩ := bV_elim hf
          refine kw_callVV C [.ref (g.1 p0), .int r2] (kX0_raise L D g t0 p0 ho_p0 r2 σ11 _ hc13) RX0 mV_X0_143 ⟨rfl, rfl⟩ dd_X0_raise ⟨Nat.le_of_ble_eq_true rfl, Nat.le_of_ble_eq_true rfl⟩ _ (hO0 g σ11) rfl rfl rfl (Nat.le_of_ble_eq_true rfl) dX0_takeTurn_51 ?_
          refine kw_iload_n C dX0_takeTurn_54 rfl 0 rfl ?_
          exact kw_iret C K dX0_takeTurn_55 hf
        · have hf := if_p c12 hf
          refine kw_iconst C (-1 : Int32) dX0_takeTurn_46 rfl ?_
          exact kw_iret C K dX0_takeTurn_47 hf
      · have hf := if_p c8 hf
        refine kw_sub [] _ rfl ?_
        exact kJ3 _ hf
set_option maxRecDepth 100000 in
set_option maxHeartbeats 4000000 in
theorem kX0_deathOf (L : Launch) (D : va_G) (g : GwT) (t0 : Nat) (p0 : Nat) (ho_p0 : isSale p0) (p1 : Int32) (σ : St) (r0 : Int32) (σ0 : St) (hf : fX0_deathOf σ p0 p1 = some (r0, σ0)) : CtI L D (ttG g) (wB g) t0 yX0_deathOf cX0_deathOf 5 (some .int) { frames := 3, cells := 0, slots := 0, locals := 77 } [.ref (g.1 14), .ref (g.1 p0), .int p1] σ r0 σ0 := by
  refine CtI.of (own := RX0) (by decide) rfl (Nat.le_of_ble_eq_true rfl) [(0, .ref (g.1 14)), (1, .ref (g.1 p0)), (2, .int p1)] rfl ?_
  intro X C hN K
  unfold fX0_deathOf at hf
  refine kw_aload_n C dX0_deathOf_0 rfl 0 rfl ?_
  refine kw_iconst C (0 : Int32) dX0_deathOf_1 rfl ?_
  refine kw_aload_n C dX0_deathOf_2 rfl 1 rfl ?_
  refine kw_iload_n C dX0_deathOf_3 rfl 2 rfl ?_
  obtain ⟨r2, σ3, hc1, hf⟩ := bL_elim hf
  refine kw_callVL C [.int (0 : Int32), .ref (g.1 p0), .int p1] (kX0_valueOf L D g t0 (0 : Int32) p0 ho_p0 p1 σ _ _ hc1) RX0 mV_X0_99 ⟨rfl, rfl⟩ dd_X0_valueOf ⟨Nat.le_of_ble_eq_true rfl, Nat.le_of_ble_eq_true rfl⟩ _ (hO0 g σ) rfl rfl rfl (Nat.le_of_ble_eq_true rfl) dX0_deathOf_4 ?_
  refine kw_lstore_n C dX0_deathOf_7 rfl hN (Nat.le_of_ble_eq_true rfl) [(3, .long r2), (0, .ref (g.1 14)), (1, .ref (g.1 p0)), (2, .int p1)] rfl ?_
  refine kw_lload_n C dX0_deathOf_8 rfl 0 rfl ?_
  refine kw_ldc2 C dX0_deathOf_9 mk2_X0_103 ?_
  refine kw_lcmp C dX0_deathOf_12 ?_
  refine kw_if_ne C 30 dX0_deathOf_13 rfl (fun c4 => ?_) (fun c4 => ?_)
  · have hf := if_n c4 hf
    refine kw_lconst C (0 : Int64) dX0_deathOf_30 rfl ?_
    refine kw_ldc2 C dX0_deathOf_31 mk2_X0_115 ?_
    refine kw_lload_n C dX0_deathOf_34 rfl 0 rfl ?_
    refine kw_mmin_long C ml_X0_117 mst_min_long mi_Math mcode_min_long ⟨Nat.le_of_ble_eq_true rfl, Nat.le_of_ble_eq_true rfl⟩ dX0_deathOf_35 ?_
    refine kw_mmax_long C ml_X0_121 mst_max_long mi_Math mcode_max_long ⟨Nat.le_of_ble_eq_true rfl, Nat.le_of_ble_eq_true rfl⟩ dX0_deathOf_38 ?_
    refine kw_l2i C dX0_deathOf_41 ?_
    exact kw_iret C K dX0_deathOf_42 hf
  · have hf := if_p c4 hf
    refine kw_iconst C (0 : Int32) dX0_deathOf_16 rfl ?_
    refine kw_aload_n C dX0_deathOf_17 rfl 2 rfl ?_
    refine kw_get C inG4 _ (hO4 g σ3 p0 ho_p0) rfl 1 (Nat.le_of_ble_eq_true rfl) mf_0_105 rfl rfl dX0_deathOf_18 ?_
    refine kw_iload_n C dX0_deathOf_21 rfl 3 rfl ?_
    obtain ⟨h5, hf⟩ := gd_elim hf
    refine kw_iald C _ 0 (hA4_1 g σ3 p0 ho_p0) rfl h5 dX0_deathOf_22 ?_
    refine kw_bipush C (40 : Int32) dX0_deathOf_23 rfl ?_
    refine kw_isub C dX0_deathOf_25 ?_
    refine kw_mmax C ml_X0_109 mst_max mi_Math mcode_max ⟨Nat.le_of_ble_eq_true rfl, Nat.le_of_ble_eq_true rfl⟩ dX0_deathOf_26 ?_
    exact kw_iret C K dX0_deathOf_29 hf
set_option maxRecDepth 100000 in
set_option maxHeartbeats 4000000 in
theorem kX0_isDying (L : Launch) (D : va_G) (g : GwT) (t0 : Nat) (p0 : Nat) (ho_p0 : isSale p0) (p1 : Int32) (σ : St) (r0 : Int32) (σ0 : St) (hf : fX0_isDying σ p0 p1 = some (r0, σ0)) : CtI L D (ttG g) (wB g) t0 yX0_isDying cX0_isDying 3 (some .boolean) { frames := 1, cells := 0, slots := 0, locals := 20 } [.ref (g.1 14), .ref (g.1 p0), .int p1] σ r0 σ0 := by
  refine CtI.of (own := RX0) (by decide) rfl (Nat.le_of_ble_eq_true rfl) [(0, .ref (g.1 14)), (1, .ref (g.1 p0)), (2, .int p1)] rfl ?_
  intro X C hN K
  unfold fX0_isDying at hf
  refine kw_aload_n C dX0_isDying_0 rfl 0 rfl ?_
  refine kw_get C inG0 _ (hO0 g σ) rfl 2 (Nat.le_of_ble_eq_true rfl) mf_0_19 rfl rfl dX0_isDying_1 ?_
  refine kw_if_ne C 19 dX0_isDying_4 rfl (fun c1 => ?_) (fun c1 => ?_)
  · have hf := if_n c1 hf
    refine kw_iload_n C dX0_isDying_19 rfl 2 rfl ?_
    obtain ⟨J2, hJ2, hf⟩ := jnx1_elim hf
    have kJ2 : ∀ (u9 : Unit), J2 u9 = some (r0, σ0) → KW X σ 29 [(2, .int p1)] [] := by
      clear hf
      intro u9 hf
      have hf := (hJ2 u9).symm.trans hf
      refine kw_iload_n C dX0_isDying_29 rfl 0 rfl ?_
      refine kw_bipush C (100 : Int32) dX0_isDying_30 rfl ?_
      obtain ⟨J4, hJ4, hf⟩ := jnx1_elim hf
      have kJ4 : ∀ (x3 : Int32), J4 x3 = some (r0, σ0) → KW X σ 40 [] [.int x3] := by
        clear hf
        intro x3 hf
        have hf := (hJ4 x3).symm.trans hf
        obtain ⟨h5, hf⟩ := gd_elim hf
        exact kw_zret C K h5 dX0_isDying_40 hf
      refine kw_icmp_ne C 39 dX0_isDying_32 rfl (fun c6 => ?_) (fun c6 => ?_)
      · have hf := if_n c6 hf
        refine kw_iconst C (0 : Int32) dX0_isDying_39 rfl ?_
        refine kw_sub [] _ rfl ?_
        exact kJ4 _ hf
      · have hf := if_p c6 hf
        refine kw_iconst C (1 : Int32) dX0_isDying_35 rfl ?_
        refine kw_goto C 40 dX0_isDying_36 rfl ?_
        refine kw_sub [] _ rfl ?_
        exact kJ4 _ hf
    refine kw_if_eq C 29 dX0_isDying_20 rfl (fun c7 => ?_) (fun c7 => ?_)
    · have hf := if_p c7 hf
      refine kw_sub [2] _ rfl ?_
      exact kJ2 _ hf
    · have hf := if_n c7 hf
      refine kw_iload_n C dX0_isDying_23 rfl 2 rfl ?_
      refine kw_bipush C (100 : Int32) dX0_isDying_24 rfl ?_
      refine kw_icmp_ne C 41 dX0_isDying_26 rfl (fun c8 => ?_) (fun c8 => ?_)
      · have hf := if_n c8 hf
        refine kw_aload_n C dX0_isDying_41 rfl 1 rfl ?_
        obtain ⟨r10, σ11, hc9, hf⟩ := bI_elim hf
        refine kw_callVI C [] (kX4_nextNumber L D g t0 p0 ho_p0 σ _ _ hc9) RX4 mV_X0_95 ⟨rfl, rfl⟩ dd_X4_nextNumber ⟨Nat.le_of_ble_eq_true rfl, Nat.le_of_ble_eq_true rfl⟩ _ (hO4 g σ p0 ho_p0) rfl rfl rfl (Nat.le_of_ble_eq_true rfl) dX0_isDying_42 ?_
        refine kw_bipush C (100 : Int32) dX0_isDying_45 rfl ?_
        refine kw_irem C dX0_isDying_47 (by decide) ?_
        refine kw_iload_n C dX0_isDying_48 rfl 2 rfl ?_
        obtain ⟨J13, hJ13, hf⟩ := jnx1_elim hf
        have kJ13 : ∀ (x12 : Int32), J13 x12 = some (r0, σ0) → KW X σ11 57 [] [.int x12] := by
          clear hf
          intro x12 hf
          have hf := (hJ13 x12).symm.trans hf
          obtain ⟨h14, hf⟩ := gd_elim hf
          exact kw_zret C K h14 dX0_isDying_57 hf
        refine kw_icmp_ge C 56 dX0_isDying_49 rfl (fun c15 => ?_) (fun c15 => ?_)
        · have hf := if_p c15 hf
          refine kw_iconst C (0 : Int32) dX0_isDying_56 rfl ?_
          refine kw_sub [] _ rfl ?_
          exact kJ13 _ hf
        · have hf := if_n c15 hf
          refine kw_iconst C (1 : Int32) dX0_isDying_52 rfl ?_
          refine kw_goto C 57 dX0_isDying_53 rfl ?_
          refine kw_sub [] _ rfl ?_
          exact kJ13 _ hf
      · have hf := if_p c8 hf
        refine kw_sub [2] _ rfl ?_
        exact kJ2 _ hf
  · have hf := if_p c1 hf
    refine kw_iload_n C dX0_isDying_7 rfl 2 rfl ?_
    refine kw_bipush C (50 : Int32) dX0_isDying_8 rfl ?_
    obtain ⟨J17, hJ17, hf⟩ := jnx1_elim hf
    have kJ17 : ∀ (x16 : Int32), J17 x16 = some (r0, σ0) → KW X σ 18 [] [.int x16] := by
      clear hf
      intro x16 hf
      have hf := (hJ17 x16).symm.trans hf
      obtain ⟨h18, hf⟩ := gd_elim hf
      exact kw_zret C K h18 dX0_isDying_18 hf
    refine kw_icmp_lt C 17 dX0_isDying_10 rfl (fun c19 => ?_) (fun c19 => ?_)
    · have hf := if_p c19 hf
      refine kw_iconst C (0 : Int32) dX0_isDying_17 rfl ?_
      refine kw_sub [] _ rfl ?_
      exact kJ17 _ hf
    · have hf := if_n c19 hf
      refine kw_iconst C (1 : Int32) dX0_isDying_13 rfl ?_
      refine kw_goto C 18 dX0_isDying_14 rfl ?_
      refine kw_sub [] _ rfl ?_
      exact kJ17 _ hf
set_option maxRecDepth 100000 in
set_option maxHeartbeats 4000000 in
theorem kX0_handOn (L : Launch) (D : va_G) (g : GwT) (t0 : Nat) (p0 : Nat) (ho_p0 : isSale p0) (p1 : Int32) (σ : St) (σ0 : St) (hf : fX0_handOn σ p0 p1 = some σ0) : CtV L D (ttG g) (wB g) t0 yX0_handOn cX0_handOn 5 none { frames := 3, cells := 0, slots := 0, locals := 77 } [.ref (g.1 14), .ref (g.1 p0), .int p1] σ σ0 := by
  refine CtV.of (own := RX0) (by decide) rfl (Nat.le_of_ble_eq_true rfl) [(0, .ref (g.1 14)), (1, .ref (g.1 p0)), (2, .int p1)] rfl ?_
  intro X C hN K
  unfold fX0_handOn at hf
  refine kw_aload_n C dX0_handOn_0 rfl 1 rfl ?_
  refine kw_dup C dX0_handOn_1 rfl ?_
  refine kw_get C inG4 _ (hO4 g σ p0 ho_p0) rfl 12 (Nat.le_of_ble_eq_true rfl) mf_0_123 rfl rfl dX0_handOn_2 ?_
  refine kw_iconst C (1 : Int32) dX0_handOn_5 rfl ?_
  refine kw_iadd C dX0_handOn_6 ?_
  obtain ⟨σ1, eσ1, hf⟩ := lt_elim hf
  refine kw_put C inG4 tyX4 tyX4_ok nmX4 _ (hO4 g σ p0 ho_p0) rfl 12 (Nat.le_of_ble_eq_true rfl) mf_0_123 rfl rfl (tyX4_ok 12 (Nat.le_of_ble_eq_true rfl)) rfl rfl (Nat.le_of_ble_eq_true rfl) ((hF4_12 g σ p0 ho_p0 _).trans (congrArg (wB g) eσ1.symm)) dX0_handOn_7 ?_
  refine kw_aload_n C dX0_handOn_10 rfl 1 rfl ?_
  refine kw_get C inG4 _ (hO4 g σ1 p0 ho_p0) rfl 2 (Nat.le_of_ble_eq_true rfl) mf_0_126 rfl rfl dX0_handOn_11 ?_
  refine kw_iload_n C dX0_handOn_14 rfl 2 rfl ?_
  obtain ⟨h2, hf⟩ := gd_elim hf
  refine kw_iald C _ 0 (hA4_2 g σ1 p0 ho_p0) rfl h2 dX0_handOn_15 ?_
  obtain ⟨J4, hJ4, hf⟩ := jnx1_elim hf
  have kJ4 : ∀ (σ3 : St), J4 σ3 = some σ0 → KW X σ3 33 [(0, .ref (g.1 14)), (1, .ref (g.1 p0)), (2, .int p1)] [] := by
    clear hf
    intro σ3 hf
    have hf := (hJ4 σ3).symm.trans hf
    refine kw_aload_n C dX0_handOn_33 rfl 1 rfl ?_
    refine kw_get C inG4 _ (hO4 g σ3 p0 ho_p0) rfl 2 (Nat.le_of_ble_eq_true rfl) mf_0_126 rfl rfl dX0_handOn_34 ?_
    refine kw_iload_n C dX0_handOn_37 rfl 2 rfl ?_
    obtain ⟨h5, hf⟩ := gd_elim hf
    refine kw_iald C _ 0 (hA4_2 g σ3 p0 ho_p0) rfl h5 dX0_handOn_38 ?_
    refine kw_if_ne C 48 dX0_handOn_39 rfl (fun c6 => ?_) (fun c6 => ?_)
    · have hf := if_n c6 hf
      refine kw_aload_n C dX0_handOn_48 rfl 1 rfl ?_
      refine kw_get C inG4 _ (hO4 g σ3 p0 ho_p0) rfl 2 (Nat.le_of_ble_eq_true rfl) mf_0_126 rfl rfl dX0_handOn_49 ?_
      refine kw_iload_n C dX0_handOn_52 rfl 2 rfl ?_
      refine kw_dup2 C dX0_handOn_53 rfl rfl ?_
      obtain ⟨h7, hf⟩ := gd_elim hf
      refine kw_iald C _ 0 (hA4_2 g σ3 p0 ho_p0) rfl h7 dX0_handOn_54 ?_
      refine kw_iconst C (1 : Int32) dX0_handOn_55 rfl ?_
      refine kw_isub C dX0_handOn_56 ?_
      obtain ⟨h8, hf⟩ := gd_elim hf
      obtain ⟨σ9, eσ9, hf⟩ := lt_elim hf
      refine kw_iast C _ 0 (hA4_2 g σ3 p0 ho_p0) rfl h8 ((hS4_2 g σ3 p0 ho_p0 _).trans (congrArg (wB g) eσ9.symm)) dX0_handOn_57 ?_
      refine kw_aload_n C dX0_handOn_58 rfl 0 rfl ?_
      refine kw_iconst C (1 : Int32) dX0_handOn_59 rfl ?_
      refine kw_aload_n C dX0_handOn_60 rfl 1 rfl ?_
      refine kw_iload_n C dX0_handOn_61 rfl 2 rfl ?_
      obtain ⟨r11, σ12, hc10, hf⟩ := bL_elim hf
      refine kw_callVL C [.int (1 : Int32), .ref (g.1 p0), .int p1] (kX0_valueOf L D g t0 (1 : Int32) p0 ho_p0 p1 σ9 _ _ hc10) RX0 mV_X0_99 ⟨rfl, rfl⟩ dd_X0_valueOf ⟨Nat.le_of_ble_eq_true rfl, Nat.le_of_ble_eq_true rfl⟩ _ (hO0 g σ9) rfl rfl rfl (Nat.le_of_ble_eq_true rfl) dX0_handOn_62 ?_
      refine kw_lstore_n C dX0_handOn_65 rfl hN (Nat.le_of_ble_eq_true rfl) [(3, .long r11), (0, .ref (g.1 14)), (1, .ref (g.1 p0)), (2, .int p1)] rfl ?_
      refine kw_lload_n C dX0_handOn_66 rfl 0 rfl ?_
      refine kw_ldc2 C dX0_handOn_67 mk2_X0_103 ?_
      refine kw_lcmp C dX0_handOn_70 ?_
      obtain ⟨J14, hJ14, hf⟩ := jnx1_elim hf
      have kJ14 : ∀ (σ13 : St), J14 σ13 = some σ0 → KW X σ13 92 [(1, .ref (g.1 p0)), (2, .int p1)] [] := by
        clear hf
        intro σ13 hf
        have hf := (hJ14 σ13).symm.trans hf
        refine kw_aload_n C dX0_handOn_92 rfl 0 rfl ?_
        refine kw_get C inG4 _ (hO4 g σ13 p0 ho_p0) rfl 1 (Nat.le_of_ble_eq_true rfl) mf_0_105 rfl rfl dX0_handOn_93 ?_
        refine kw_iload_n C dX0_handOn_96 rfl 1 rfl ?_
        refine kw_bipush C (20 : Int32) dX0_handOn_97 rfl ?_
        obtain ⟨h15, hf⟩ := gd_elim hf
        obtain ⟨σ16, eσ16, hf⟩ := lt_elim hf
        refine kw_iast C _ 0 (hA4_1 g σ13 p0 ho_p0) rfl h15 ((hS4_1 g σ13 p0 ho_p0 _).trans (congrArg (wB g) eσ16.symm)) dX0_handOn_99 ?_
        exact kw_vret (u9 := ()) C K dX0_handOn_100 hf
      refine kw_if_eq C 92 dX0_handOn_71 rfl (fun c17 => ?_) (fun c17 => ?_)
      · have hf := if_p c17 hf
        refine kw_sub [2, 3] _ rfl ?_
        exact kJ14 _ hf
      · have hf := if_n c17 hf
        refine kw_aload_n C dX0_handOn_74 rfl 2 rfl ?_
        refine kw_get C inG4 _ (hO4 g σ12 p0 ho_p0) rfl 0 (Nat.le_of_ble_eq_true rfl) mf_0_132 rfl rfl dX0_handOn_75 ?_
        refine kw_iload_n C dX0_handOn_78 rfl 3 rfl ?_
        refine kw_lconst C (0 : Int64) dX0_handOn_79 rfl ?_
        refine kw_ldc2 C dX0_handOn_80 mk2_X0_135 ?_
        refine kw_lload_n C dX0_handOn_83 rfl 0 rfl ?_
        refine kw_mmin_long C ml_X0_117 mst_min_long mi_Math mcode_min_long ⟨Nat.le_of_ble_eq_true rfl, Nat.le_of_ble_eq_true rfl⟩ dX0_handOn_84 ?_
        refine kw_mmax_long C ml_X0_121 mst_max_long mi_Math mcode_max_long ⟨Nat.le_of_ble_eq_true rfl, Nat.le_of_ble_eq_true rfl⟩ dX0_handOn_87 ?_
        refine kw_l2i C dX0_handOn_90 ?_
        obtain ⟨h18, hf⟩ := gd_elim hf
        obtain ⟨σ19, eσ19, hf⟩ := lt_elim hf
        refine kw_iast C _ 0 (hA4_0 g σ12 p0 ho_p0) rfl h18 ((hS4_0 g σ12 p0 ho_p0 _).trans (congrArg (wB g) eσ19.symm)) dX0_handOn_91 ?_
        refine kw_sub [2, 3] _ rfl ?_
        exact kJ14 _ hf
    · have hf := if_p c6 hf
      refine kw_aload_n C dX0_handOn_42 rfl 1 rfl ?_
      refine kw_iload_n C dX0_handOn_43 rfl 2 rfl ?_
      obtain ⟨σ21, hc20, hf⟩ := bV_elim hf
      refine kw_callVV C [.int p1] (kX4_end L D g t0 p0 ho_p0 p1 σ3 _ hc20) RX4 mV_X0_129 ⟨rfl, rfl⟩ dd_X4_end ⟨Nat.le_of_ble_eq_true rfl, Nat.le_of_ble_eq_true rfl⟩ _ (hO4 g σ3 p0 ho_p0) rfl rfl rfl (Nat.le_of_ble_eq_true rfl) dX0_handOn_44 ?_
      exact kw_vret (u9 := ()) C K dX0_handOn_47 hf
  refine kw_if_ne C 33 dX0_handOn_16 rfl (fun c22 => ?_) (fun c22 => ?_)
  · have hf := if_n c22 hf
    exact kJ4 _ hf
  · have hf := if_p c22 hf
    refine kw_aload_n C dX0_handOn_19 rfl 0 rfl ?_
    refine kw_get C inG0 _ (hO0 g σ1) rfl 4 (Nat.le_of_ble_eq_true rfl) mf_0_26 rfl rfl dX0_handOn_20 ?_
    refine kw_if_eq C 33 dX0_handOn_23 rfl (fun c23 => ?_) (fun c23 => ?_)
    · have hf := if_p c23 hf
      exact kJ4 _ hf
    · have hf := if_n c23 hf
      refine kw_aload_n C dX0_handOn_26 rfl 1 rfl ?_
      refine kw_get C inG4 _ (hO4 g σ1 p0 ho_p0) rfl 2 (Nat.le_of_ble_eq_true rfl) mf_0_126 rfl rfl dX0_handOn_27 ?_
      refine kw_iload_n C dX0_handOn_30 rfl 2 rfl ?_
      refine kw_iconst C (1 : Int32) dX0_handOn_31 rfl ?_
      obtain ⟨h24, hf⟩ := gd_elim hf
      obtain ⟨σ25, eσ25, hf⟩ := lt_elim hf
      refine kw_iast C _ 0 (hA4_2 g σ1 p0 ho_p0) rfl h24 ((hS4_2 g σ1 p0 ho_p0 _).trans (congrArg (wB g) eσ25.symm)) dX0_handOn_32 ?_
      exact kJ4 _ hf
set_option maxRecDepth 100000 in
set_option maxHeartbeats 4000000 in
theorem kX0_passHead (L : Launch) (D : va_G) (g : GwT) (t0 : Nat) (p0 : Nat) (ho_p0 : isSale p0) (p1 : Int32) (σ : St) (σ0 : St) (hf : fX0_passHead σ p0 p1 = some σ0) : CtV L D (ttG g) (wB g) t0 yX0_passHead cX0_passHead 3 none { frames := 4, cells := 0, slots := 0, locals := 101 } [.ref (g.1 14), .ref (g.1 p0), .int p1] σ σ0 := by
  refine CtV.of (own := RX0) (by decide) rfl (Nat.le_of_ble_eq_true rfl) [(0, .ref (g.1 14)), (1, .ref (g.1 p0)), (2, .int p1)] rfl ?_
  intro X C hN K
  unfold fX0_passHead at hf
  refine kw_aload_n C dX0_passHead_0 rfl 1 rfl ?_
  refine kw_iload_n C dX0_passHead_1 rfl 2 rfl ?_
  obtain ⟨σ2, hc1, hf⟩ := bV_elim hf
  refine kw_callVV C [.int p1] (kX4_growOlder L D g t0 p0 ho_p0 p1 σ _ hc1) RX4 mV_X0_80 ⟨rfl, rfl⟩ dd_X4_growOlder ⟨Nat.le_of_ble_eq_true rfl, Nat.le_of_ble_eq_true rfl⟩ _ (hO4 g σ p0 ho_p0) rfl rfl rfl (Nat.le_of_ble_eq_true rfl) dX0_passHead_2 ?_
  refine kw_aload_n C dX0_passHead_5 rfl 0 rfl ?_
  refine kw_get C inG0 _ (hO0 g σ2) rfl 3 (Nat.le_of_ble_eq_true rfl) mf_0_23 rfl rfl dX0_passHead_6 ?_
  obtain ⟨J4, hJ4, hf⟩ := jnx1_elim hf
  have kJ4 : ∀ (σ3 : St), J4 σ3 = some σ0 → KW X σ3 32 [] [] := by
    clear hf
    intro σ3 hf
    have hf := (hJ4 σ3).symm.trans hf
    exact kw_vret (u9 := ()) C K dX0_passHead_32 hf
  refine kw_if_ne C 32 dX0_passHead_9 rfl (fun c5 => ?_) (fun c5 => ?_)
  · have hf := if_n c5 hf
    refine kw_sub [] _ rfl ?_
    exact kJ4 _ hf
  · have hf := if_p c5 hf
    refine kw_aload_n C dX0_passHead_12 rfl 0 rfl ?_
    refine kw_aload_n C dX0_passHead_13 rfl 1 rfl ?_
    refine kw_aload_n C dX0_passHead_14 rfl 0 rfl ?_
    refine kw_aload_n C dX0_passHead_15 rfl 1 rfl ?_
    refine kw_iload_n C dX0_passHead_16 rfl 2 rfl ?_
    obtain ⟨r7, σ8, hc6, hf⟩ := bI_elim hf
    refine kw_callVI C [.ref (g.1 p0), .int p1] (kX0_deathOf L D g t0 p0 ho_p0 p1 σ2 _ _ hc6) RX0 mV_X0_84 ⟨rfl, rfl⟩ dd_X0_deathOf ⟨Nat.le_of_ble_eq_true rfl, Nat.le_of_ble_eq_true rfl⟩ _ (hO0 g σ2) rfl rfl rfl (Nat.le_of_ble_eq_true rfl) dX0_passHead_17 ?_
    obtain ⟨r10, σ11, hc9, hf⟩ := bI_elim hf
    refine kw_callVI C [.ref (g.1 p0), .int r7] (kX0_isDying L D g t0 p0 ho_p0 r7 σ8 _ _ hc9) RX0 mV_X0_88 ⟨rfl, rfl⟩ dd_X0_isDying ⟨Nat.le_of_ble_eq_true rfl, Nat.le_of_ble_eq_true rfl⟩ _ (hO0 g σ8) rfl rfl rfl (Nat.le_of_ble_eq_true rfl) dX0_passHead_20 ?_
    refine kw_if_eq C 32 dX0_passHead_23 rfl (fun c12 => ?_) (fun c12 => ?_)
    · have hf := if_p c12 hf
      refine kw_sub [] _ rfl ?_
      exact kJ4 _ hf
    · have hf := if_n c12 hf
      refine kw_aload_n C dX0_passHead_26 rfl 0 rfl ?_
      refine kw_aload_n C dX0_passHead_27 rfl 1 rfl ?_
      refine kw_iload_n C dX0_passHead_28 rfl 2 rfl ?_
      obtain ⟨σ14, hc13, hf⟩ := bV_elim hf
      refine kw_callVV C [.ref (g.1 p0), .int p1] (kX0_handOn L D g t0 p0 ho_p0 p1 σ11 _ hc13) RX0 mV_X0_92 ⟨rfl, rfl⟩ dd_X0_handOn ⟨Nat.le_of_ble_eq_true rfl, Nat.le_of_ble_eq_true rfl⟩ _ (hO0 g σ11) rfl rfl rfl (Nat.le_of_ble_eq_true rfl) dX0_passHead_29 ?_
      refine kw_sub [] _ rfl ?_
      exact kJ4 _ hf
set_option maxRecDepth 100000 in
set_option maxHeartbeats 4000000 in
theorem kX0_passYear (L : Launch) (D : va_G) (g : GwT) (t0 : Nat) (p0 : Nat) (ho_p0 : isSale p0) (σ : St) (r0 : Int32) (σ0 : St) (hf : fX0_passYear σ p0 = some (r0, σ0)) : CtI L D (ttG g) (wB g) t0 yX0_passYear cX0_passYear 4 (some .int) { frames := 5, cells := 0, slots := 0, locals := 123 } [.ref (g.1 14), .ref (g.1 p0)] σ r0 σ0 := by
  refine CtI.of (own := RX0) (by decide) rfl (Nat.le_of_ble_eq_true rfl) [(0, .ref (g.1 14)), (1, .ref (g.1 p0))] rfl ?_
  intro X C hN K
  unfold fX0_passYear at hf
  refine kw_iconst C (-1 : Int32) dX0_passYear_0 rfl ?_
  refine kw_istore_n C dX0_passYear_1 rfl hN (Nat.le_of_ble_eq_true rfl) [(2, .int (-1 : Int32)), (0, .ref (g.1 14)), (1, .ref (g.1 p0))] rfl ?_
  refine kw_aload_n C dX0_passYear_2 rfl 2 rfl ?_
  refine kw_get C inG4 _ (hO4 g σ p0 ho_p0) rfl 14 (Nat.le_of_ble_eq_true rfl) mf_0_40 rfl rfl dX0_passYear_3 ?_
  obtain ⟨J3, hJ3, hf⟩ := jnx2_elim hf
  have kJ3 : ∀ (x1 : Int32) (σ2 : St), J3 x1 σ2 = some (r0, σ0) → KW X σ2 94 [(1, .ref (g.1 p0)), (2, .int x1)] [] := by
    clear hf
    intro x1 σ2 hf
    have hf := (hJ3 x1 σ2).symm.trans hf
    refine kw_aload_n C dX0_passYear_94 rfl 0 rfl ?_
    refine kw_dup C dX0_passYear_95 rfl ?_
    refine kw_get C inG4 _ (hO4 g σ2 p0 ho_p0) rfl 8 (Nat.le_of_ble_eq_true rfl) mf_0_77 rfl rfl dX0_passYear_96 ?_
    refine kw_iconst C (1 : Int32) dX0_passYear_99 rfl ?_
    refine kw_iadd C dX0_passYear_100 ?_
    obtain ⟨σ4, eσ4, hf⟩ := lt_elim hf
    refine kw_put C inG4 tyX4 tyX4_ok nmX4 _ (hO4 g σ2 p0 ho_p0) rfl 8 (Nat.le_of_ble_eq_true rfl) mf_0_77 rfl rfl (tyX4_ok 8 (Nat.le_of_ble_eq_true rfl)) rfl rfl (Nat.le_of_ble_eq_true rfl) ((hF4_8 g σ2 p0 ho_p0 _).trans (congrArg (wB g) eσ4.symm)) dX0_passYear_101 ?_
    refine kw_iload_n C dX0_passYear_104 rfl 1 rfl ?_
    exact kw_iret C K dX0_passYear_105 hf
  refine kw_if_ne C 94 dX0_passYear_6 rfl (fun c5 => ?_) (fun c5 => ?_)
  · have hf := if_n c5 hf
    refine kw_sub [2, 0] _ rfl ?_
    exact kJ3 _ _ hf
  · have hf := if_p c5 hf
    refine kw_iconst C (0 : Int32) dX0_passYear_9 rfl ?_
    refine kw_istore_n C dX0_passYear_10 rfl hN (Nat.le_of_ble_eq_true rfl) [(3, .int (0 : Int32)), (2, .int (-1 : Int32)), (0, .ref (g.1 14)), (1, .ref (g.1 p0))] rfl ?_
    refine kw_sub [2, 3, 0] _ rfl ?_
    refine lpx2_walk (P := fun (x6 : Int32) (σ7 : St) => KW X σ7 11 [(0, .ref (g.1 14)), (1, .ref (g.1 p0)), (3, .int x6)] []) ?_ FU _ _ hf
    intro self8 x6 σ7 ih9 hf
    refine kw_iload_n C dX0_passYear_11 rfl 2 rfl ?_
    refine kw_aload_n C dX0_passYear_12 rfl 0 rfl ?_
    refine kw_get C inG0 _ (hO0 g σ7) rfl 1 (Nat.le_of_ble_eq_true rfl) mf_0_15 rfl rfl dX0_passYear_13 ?_
    refine kw_get C inG6 _ (hO6 g σ7 (gR σ7 2)) rfl 1 (Nat.le_of_ble_eq_true rfl) mf_0_55 rfl rfl dX0_passYear_16 ?_
    refine kw_icmp_ge C 42 dX0_passYear_19 rfl (fun c10 => ?_) (fun c10 => ?_)
    · have hf := if_p c10 hf
      refine kw_aload_n C dX0_passYear_42 rfl 0 rfl ?_
      refine kw_aload_n C dX0_passYear_43 rfl 1 rfl ?_
      obtain ⟨r12, σ13, hc11, hf⟩ := bI_elim hf
      refine kw_callVI C [.ref (g.1 p0)] (kX0_takeTurn L D g t0 p0 ho_p0 σ7 _ _ hc11) RX0 mV_X0_68 ⟨rfl, rfl⟩ dd_X0_takeTurn ⟨Nat.le_of_ble_eq_true rfl, Nat.le_of_ble_eq_true rfl⟩ _ (hO0 g σ7) rfl rfl rfl (Nat.le_of_ble_eq_true rfl) dX0_passYear_44 ?_
      refine kw_istore_n C dX0_passYear_47 rfl hN (Nat.le_of_ble_eq_true rfl) [(2, .int r12), (0, .ref (g.1 14)), (1, .ref (g.1 p0)), (3, .int x6)] rfl ?_
      refine kw_iload_n C dX0_passYear_48 rfl 0 rfl ?_
      refine kw_iconst C (-1 : Int32) dX0_passYear_49 rfl ?_
      refine kw_icmp_ne C 94 dX0_passYear_50 rfl (fun c14 => ?_) (fun c14 => ?_)
      · have hf := if_n c14 hf
        refine kw_sub [2, 0] _ rfl ?_
        exact kJ3 _ _ hf
      · have hf := if_p c14 hf
        refine kw_aload_n C dX0_passYear_53 rfl 2 rfl ?_
        refine kw_get C inG4 _ (hO4 g σ13 p0 ho_p0) rfl 10 (Nat.le_of_ble_eq_true rfl) mf_0_52 rfl rfl dX0_passYear_54 ?_
        refine kw_iconst C (-1 : Int32) dX0_passYear_57 rfl ?_
        refine kw_icmp_eq C 94 dX0_passYear_58 rfl (fun c15 => ?_) (fun c15 => ?_)
        · have hf := if_p c15 hf
          refine kw_sub [2, 0] _ rfl ?_
          exact kJ3 _ _ hf
        · have hf := if_n c15 hf
          refine kw_aload_n C dX0_passYear_61 rfl 2 rfl ?_
          refine kw_dup C dX0_passYear_62 rfl ?_
          refine kw_get C inG4 _ (hO4 g σ13 p0 ho_p0) rfl 11 (Nat.le_of_ble_eq_true rfl) mf_0_71 rfl rfl dX0_passYear_63 ?_
          refine kw_iconst C (1 : Int32) dX0_passYear_66 rfl ?_
          refine kw_iadd C dX0_passYear_67 ?_
          obtain ⟨σ16, eσ16, hf⟩ := lt_elim hf
          refine kw_put C inG4 tyX4 tyX4_ok nmX4 _ (hO4 g σ13 p0 ho_p0) rfl 11 (Nat.le_of_ble_eq_true rfl) mf_0_71 rfl rfl (tyX4_ok 11 (Nat.le_of_ble_eq_true rfl)) rfl rfl (Nat.le_of_ble_eq_true rfl) ((hF4_11 g σ13 p0 ho_p0 _).trans (congrArg (wB g) eσ16.symm)) dX0_passYear_68 ?_
          refine kw_aload_n C dX0_passYear_71 rfl 2 rfl ?_
          refine kw_aload_n C dX0_passYear_72 rfl 2 rfl ?_
          refine kw_get C inG4 _ (hO4 g σ16 p0 ho_p0) rfl 11 (Nat.le_of_ble_eq_true rfl) mf_0_71 rfl rfl dX0_passYear_73 ?_
          refine kw_aload_n C dX0_passYear_76 rfl 1 rfl ?_
          refine kw_get C inG0 _ (hO0 g σ16) rfl 1 (Nat.le_of_ble_eq_true rfl) mf_0_15 rfl rfl dX0_passYear_77 ?_
          refine kw_get C inG6 _ (hO6 g σ16 (gR σ16 2)) rfl 12 (Nat.le_of_ble_eq_true rfl) mf_0_74 rfl rfl dX0_passYear_80 ?_
          obtain ⟨J18, hJ18, hf⟩ := jnx1_elim hf
          have kJ18 : ∀ (x17 : Int32), J18 x17 = some (r0, σ0) → KW X σ16 91 [(1, .ref (g.1 p0)), (2, .int r12)] [.int x17, .ref (g.1 p0)] := by
            clear hf
            intro x17 hf
            have hf := (hJ18 x17).symm.trans hf
            obtain ⟨h19, hf⟩ := gd_elim hf
            obtain ⟨σ20, eσ20, hf⟩ := lt_elim hf
            refine kw_put C inG4 tyX4 tyX4_ok nmX4 _ (hO4 g σ16 p0 ho_p0) rfl 14 (Nat.le_of_ble_eq_true rfl) mf_0_40 rfl rfl (tyX4_ok 14 (Nat.le_of_ble_eq_true rfl)) (narrow_bz h19) (fits_bz h19) (Nat.le_of_ble_eq_true rfl) ((hF4_14 g σ16 p0 ho_p0 _).trans (congrArg (wB g) eσ20.symm)) dX0_passYear_91 ?_
            exact kJ3 _ _ hf
          refine kw_icmp_lt C 90 dX0_passYear_83 rfl (fun c21 => ?_) (fun c21 => ?_)
          · have hf := if_p c21 hf
            refine kw_iconst C (0 : Int32) dX0_passYear_90 rfl ?_
            refine kw_sub [2, 0] _ rfl ?_
            exact kJ18 _ hf
          · have hf := if_n c21 hf
            refine kw_iconst C (1 : Int32) dX0_passYear_86 rfl ?_
            refine kw_goto C 91 dX0_passYear_87 rfl ?_
            refine kw_sub [2, 0] _ rfl ?_
            exact kJ18 _ hf
    · have hf := if_n c10 hf
      refine kw_aload_n C dX0_passYear_22 rfl 1 rfl ?_
      refine kw_iload_n C dX0_passYear_23 rfl 2 rfl ?_
      obtain ⟨r23, hc22, hf⟩ := bd_elim hf
      refine kw_callVI C [.int x6] (kX4_holds L D g t0 p0 ho_p0 x6 σ7 _ hc22) RX4 mV_X0_60 ⟨rfl, rfl⟩ dd_X4_holds ⟨Nat.le_of_ble_eq_true rfl, Nat.le_of_ble_eq_true rfl⟩ _ (hO4 g σ7 p0 ho_p0) rfl rfl rfl (Nat.le_of_ble_eq_true rfl) dX0_passYear_24 ?_
      obtain ⟨J25, hJ25, hf⟩ := jnx1_elim hf
      have kJ25 : ∀ (σ24 : St), J25 σ24 = some (r0, σ0) → KW X σ24 36 [(0, .ref (g.1 14)), (1, .ref (g.1 p0)), (3, .int x6)] [] := by
        clear hf
        intro σ24 hf
        have hf := (hJ25 σ24).symm.trans hf
        obtain ⟨x26, ex26, hf⟩ := lt_elim hf
        refine kw_iinc C x26 dX0_passYear_36 2 rfl ex26.symm hN (Nat.le_of_ble_eq_true rfl) [(3, .int x26), (0, .ref (g.1 14)), (1, .ref (g.1 p0))] rfl ?_
        refine kw_goto C 11 dX0_passYear_39 rfl ?_
        refine kw_sub [1, 2, 0] _ rfl ?_
        exact ih9 _ _ hf
      refine kw_if_eq C 36 dX0_passYear_27 rfl (fun c27 => ?_) (fun c27 => ?_)
      · have hf := if_p c27 hf
        exact kJ25 _ hf
      · have hf := if_n c27 hf
        refine kw_aload_n C dX0_passYear_30 rfl 0 rfl ?_
        refine kw_aload_n C dX0_passYear_31 rfl 1 rfl ?_
        refine kw_iload_n C dX0_passYear_32 rfl 2 rfl ?_
        obtain ⟨σ29, hc28, hf⟩ := bV_elim hf
        refine kw_callVV C [.ref (g.1 p0), .int x6] (kX0_passHead L D g t0 p0 ho_p0 x6 σ7 _ hc28) RX0 mV_X0_64 ⟨rfl, rfl⟩ dd_X0_passHead ⟨Nat.le_of_ble_eq_true rfl, Nat.le_of_ble_eq_true rfl⟩ _ (hO0 g σ7) rfl rfl rfl (Nat.le_of_ble_eq_true rfl) dX0_passYear_33 ?_
        exact kJ25 _ hf
set_option maxRecDepth 100000 in
set_option maxHeartbeats 4000000 in
theorem kX0_passYears (L : Launch) (D : va_G) (g : GwT) (t0 : Nat) (p0 : Nat) (ho_p0 : isSale p0) (p1 : Int32) (σ : St) (σ0 : St) (hf : fX0_passYears σ p0 p1 = some σ0) : CtV L D (ttG g) (wB g) t0 yX0_passYears cX0_passYears 4 none { frames := 6, cells := 0, slots := 0, locals := 146 } [.ref (g.1 14), .ref (g.1 p0), .int p1] σ σ0 := by
  refine CtV.of (own := RX0) (by decide) rfl (Nat.le_of_ble_eq_true rfl) [(0, .ref (g.1 14)), (1, .ref (g.1 p0)), (2, .int p1)] rfl ?_
  intro X C hN K
  unfold fX0_passYears at hf
  refine kw_iconst C (0 : Int32) dX0_passYears_0 rfl ?_
  refine kw_istore_n C dX0_passYears_1 rfl hN (Nat.le_of_ble_eq_true rfl) [(3, .int (0 : Int32)), (0, .ref (g.1 14)), (1, .ref (g.1 p0)), (2, .int p1)] rfl ?_
  refine kw_sub [1, 2, 3, 0] _ rfl ?_
  refine lpx2_walk (P := fun (x1 : Int32) (σ2 : St) => KW X σ2 2 [(0, .ref (g.1 14)), (1, .ref (g.1 p0)), (2, .int p1), (3, .int x1)] []) ?_ FU _ _ hf
  intro self3 x1 σ2 ih4 hf
  refine kw_iload_n C dX0_passYears_2 rfl 3 rfl ?_
  refine kw_iload_n C dX0_passYears_3 rfl 2 rfl ?_
  obtain ⟨J5, hJ5, hf⟩ := jnx1_elim hf
  have kJ5 : ∀ (u9 : Unit), J5 u9 = some σ0 → KW X σ2 26 [] [] := by
    clear hf
    intro u9 hf
    have hf := (hJ5 u9).symm.trans hf
    exact kw_vret (u9 := ()) C K dX0_passYears_26 hf
  refine kw_icmp_ge C 26 dX0_passYears_4 rfl (fun c6 => ?_) (fun c6 => ?_)
  · have hf := if_p c6 hf
    refine kw_sub [] _ rfl ?_
    exact kJ5 _ hf
  · have hf := if_n c6 hf
    refine kw_aload_n C dX0_passYears_7 rfl 1 rfl ?_
    refine kw_get C inG4 _ (hO4 g σ2 p0 ho_p0) rfl 14 (Nat.le_of_ble_eq_true rfl) mf_0_40 rfl rfl dX0_passYears_8 ?_
    refine kw_if_ne C 26 dX0_passYears_11 rfl (fun c7 => ?_) (fun c7 => ?_)
    · have hf := if_n c7 hf
      refine kw_sub [] _ rfl ?_
      exact kJ5 _ hf
    · have hf := if_p c7 hf
      refine kw_aload_n C dX0_passYears_14 rfl 0 rfl ?_
      refine kw_aload_n C dX0_passYears_15 rfl 1 rfl ?_
      obtain ⟨r9, σ10, hc8, hf⟩ := bI_elim hf
      refine kw_callVI C [.ref (g.1 p0)] (kX0_passYear L D g t0 p0 ho_p0 σ2 _ _ hc8) RX0 mV_X0_45 ⟨rfl, rfl⟩ dd_X0_passYear ⟨Nat.le_of_ble_eq_true rfl, Nat.le_of_ble_eq_true rfl⟩ _ (hO0 g σ2) rfl rfl rfl (Nat.le_of_ble_eq_true rfl) dX0_passYears_16 ?_
      refine kw_pop C dX0_passYears_19 rfl ?_
      obtain ⟨x11, ex11, hf⟩ := lt_elim hf
      refine kw_iinc C x11 dX0_passYears_20 3 rfl ex11.symm hN (Nat.le_of_ble_eq_true rfl) [(3, .int x11), (0, .ref (g.1 14)), (1, .ref (g.1 p0)), (2, .int p1)] rfl ?_
      refine kw_goto C 2 dX0_passYears_23 rfl ?_
      refine kw_sub [1, 2, 3, 0] _ rfl ?_
      exact ih4 _ _ hf
set_option maxRecDepth 100000 in
set_option maxHeartbeats 4000000 in
theorem kX0_yearsToFall (L : Launch) (D : va_G) (g : GwT) (t0 : Nat) (p0 : Nat) (ho_p0 : isSale p0) (p1 : Int32) (σ : St) (r0 : Int32) (σ0 : St) (hf : fX0_yearsToFall σ p0 p1 = some (r0, σ0)) : CtI L D (ttG g) (wB g) t0 yX0_yearsToFall cX0_yearsToFall 4 (some .int) { frames := 6, cells := 0, slots := 0, locals := 146 } [.ref (g.1 14), .ref (g.1 p0), .int p1] σ r0 σ0 := by
  refine CtI.of (own := RX0) (by decide) rfl (Nat.le_of_ble_eq_true rfl) [(0, .ref (g.1 14)), (1, .ref (g.1 p0)), (2, .int p1)] rfl ?_
  intro X C hN K
  unfold fX0_yearsToFall at hf
  refine kw_iconst C (0 : Int32) dX0_yearsToFall_0 rfl ?_
  refine kw_istore_n C dX0_yearsToFall_1 rfl hN (Nat.le_of_ble_eq_true rfl) [(3, .int (0 : Int32)), (0, .ref (g.1 14)), (1, .ref (g.1 p0)), (2, .int p1)] rfl ?_
  refine kw_sub [1, 2, 3, 0] _ rfl ?_
  refine lpx2_walk (P := fun (x1 : Int32) (σ2 : St) => KW X σ2 2 [(0, .ref (g.1 14)), (1, .ref (g.1 p0)), (2, .int p1), (3, .int x1)] []) ?_ FU _ _ hf
  intro self3 x1 σ2 ih4 hf
  refine kw_iload_n C dX0_yearsToFall_2 rfl 3 rfl ?_
  refine kw_iload_n C dX0_yearsToFall_3 rfl 2 rfl ?_
  obtain ⟨J5, hJ5, hf⟩ := jnx1_elim hf
  have kJ5 : ∀ (u9 : Unit), J5 u9 = some (r0, σ0) → KW X σ2 55 [(1, .ref (g.1 p0))] [] := by
    clear hf
    intro u9 hf
    have hf := (hJ5 u9).symm.trans hf
    refine kw_aload_n C dX0_yearsToFall_55 rfl 0 rfl ?_
    refine kw_get C inG4 _ (hO4 g σ2 p0 ho_p0) rfl 14 (Nat.le_of_ble_eq_true rfl) mf_0_40 rfl rfl dX0_yearsToFall_56 ?_
    obtain ⟨J7, hJ7, hf⟩ := jnx1_elim hf
    have kJ7 : ∀ (x6 : Int32), J7 x6 = some (r0, σ0) → KW X σ2 68 [] [.int x6] := by
      clear hf
      intro x6 hf
      have hf := (hJ7 x6).symm.trans hf
      exact kw_iret C K dX0_yearsToFall_68 hf
    refine kw_if_eq C 66 dX0_yearsToFall_59 rfl (fun c8 => ?_) (fun c8 => ?_)
    · have hf := if_p c8 hf
      refine kw_bipush C (-2 : Int32) dX0_yearsToFall_66 rfl ?_
      refine kw_sub [] _ rfl ?_
      exact kJ7 _ hf
    · have hf := if_n c8 hf
      refine kw_iconst C (0 : Int32) dX0_yearsToFall_62 rfl ?_
      refine kw_goto C 68 dX0_yearsToFall_63 rfl ?_
      refine kw_sub [] _ rfl ?_
      exact kJ7 _ hf
  refine kw_icmp_ge C 55 dX0_yearsToFall_4 rfl (fun c9 => ?_) (fun c9 => ?_)
  · have hf := if_p c9 hf
    refine kw_sub [1] _ rfl ?_
    exact kJ5 _ hf
  · have hf := if_n c9 hf
    refine kw_aload_n C dX0_yearsToFall_7 rfl 1 rfl ?_
    refine kw_get C inG4 _ (hO4 g σ2 p0 ho_p0) rfl 14 (Nat.le_of_ble_eq_true rfl) mf_0_40 rfl rfl dX0_yearsToFall_8 ?_
    refine kw_if_ne C 55 dX0_yearsToFall_11 rfl (fun c10 => ?_) (fun c10 => ?_)
    · have hf := if_n c10 hf
      refine kw_sub [1] _ rfl ?_
      exact kJ5 _ hf
    · have hf := if_p c10 hf
      refine kw_aload_n C dX0_yearsToFall_14 rfl 1 rfl ?_
      refine kw_get C inG4 _ (hO4 g σ2 p0 ho_p0) rfl 6 (Nat.le_of_ble_eq_true rfl) mf_0_49 rfl rfl dX0_yearsToFall_15 ?_
      obtain ⟨J11, hJ11, hf⟩ := jnx1_elim hf
      have kJ11 : ∀ (u9 : Unit), J11 u9 = some (r0, σ0) → KW X σ2 32 [(0, .ref (g.1 14)), (1, .ref (g.1 p0)), (2, .int p1), (3, .int x1)] [] := by
        clear hf
        intro u9 hf
        have hf := (hJ11 u9).symm.trans hf
        refine kw_aload_n C dX0_yearsToFall_32 rfl 0 rfl ?_
        refine kw_aload_n C dX0_yearsToFall_33 rfl 1 rfl ?_
        obtain ⟨r13, σ14, hc12, hf⟩ := bI_elim hf
        refine kw_callVI C [.ref (g.1 p0)] (kX0_passYear L D g t0 p0 ho_p0 σ2 _ _ hc12) RX0 mV_X0_45 ⟨rfl, rfl⟩ dd_X0_passYear ⟨Nat.le_of_ble_eq_true rfl, Nat.le_of_ble_eq_true rfl⟩ _ (hO0 g σ2) rfl rfl rfl (Nat.le_of_ble_eq_true rfl) dX0_yearsToFall_34 ?_
        refine kw_pop C dX0_yearsToFall_37 rfl ?_
        refine kw_aload_n C dX0_yearsToFall_38 rfl 1 rfl ?_
        refine kw_get C inG4 _ (hO4 g σ14 p0 ho_p0) rfl 14 (Nat.le_of_ble_eq_true rfl) mf_0_40 rfl rfl dX0_yearsToFall_39 ?_
        refine kw_if_eq C 49 dX0_yearsToFall_42 rfl (fun c15 => ?_) (fun c15 => ?_)
        · have hf := if_p c15 hf
          obtain ⟨x16, ex16, hf⟩ := lt_elim hf
          refine kw_iinc C x16 dX0_yearsToFall_49 3 rfl ex16.symm hN (Nat.le_of_ble_eq_true rfl) [(3, .int x16), (0, .ref (g.1 14)), (1, .ref (g.1 p0)), (2, .int p1)] rfl ?_
          refine kw_goto C 2 dX0_yearsToFall_52 rfl ?_
          refine kw_sub [1, 2, 3, 0] _ rfl ?_
          exact ih4 _ _ hf
        · have hf := if_n c15 hf
          refine kw_iload_n C dX0_yearsToFall_45 rfl 3 rfl ?_
          refine kw_iconst C (1 : Int32) dX0_yearsToFall_46 rfl ?_
          refine kw_iadd C dX0_yearsToFall_47 ?_
          exact kw_iret C K dX0_yearsToFall_48 hf
      refine kw_if_ne C 32 dX0_yearsToFall_18 rfl (fun c17 => ?_) (fun c17 => ?_)
      · have hf := if_n c17 hf
        exact kJ11 _ hf
      · have hf := if_p c17 hf
        refine kw_aload_n C dX0_yearsToFall_21 rfl 1 rfl ?_
        refine kw_get C inG4 _ (hO4 g σ2 p0 ho_p0) rfl 10 (Nat.le_of_ble_eq_true rfl) mf_0_52 rfl rfl dX0_yearsToFall_22 ?_
        refine kw_iconst C (-1 : Int32) dX0_yearsToFall_25 rfl ?_
        refine kw_icmp_ne C 32 dX0_yearsToFall_26 rfl (fun c18 => ?_) (fun c18 => ?_)
        · have hf := if_n c18 hf
          exact kJ11 _ hf
        · have hf := if_p c18 hf
          refine kw_bipush C (-2 : Int32) dX0_yearsToFall_29 rfl ?_
          exact kw_iret C K dX0_yearsToFall_31 hf
