set_option maxRecDepth 100000 in
set_option maxHeartbeats 4000000 in
theorem kX7_kindOfSign (L : Launch) (D : va_G) (g : GwT) (t0 : Nat) (p0 : Int32) (σ : St) (r0 : Int32) (hf : fX7_kindOfSign σ p0 = some r0) : CtI L D (ttG g) (wB g) t0 yX7_kindOfSign cX7_kindOfSign 1 (some .int) { frames := 0, cells := 0, slots := 0, locals := 0 } [.int p0] σ r0 σ := by
  refine CtI.of (own := RX7) (by decide) rfl (Nat.le_of_ble_eq_true rfl) [(0, .int p0)] rfl ?_
  intro X C hN K
  unfold fX7_kindOfSign at hf
  refine kw_iload_n C dX7_kindOfSign_0 rfl 0 rfl ?_
  obtain ⟨J1, hJ1, hf⟩ := jnx1_elim hf
  have kJ1 : ∀ (u9 : Unit), J1 u9 = some r0 → KW X σ 138 [] [] := by
    clear hf
    intro u9 hf
    have hf := (hJ1 u9).symm.trans hf
    refine kw_bipush C (22 : Int32) dX7_kindOfSign_138 rfl ?_
    exact kw_iret C K dX7_kindOfSign_140 (pr_ret hf)
  by_cases c2 : p0 = (40 : Int32)
  · have hf := if_p c2 hf
    refine kw_tabIn C 111 dX7_kindOfSign_1 c2 (by decide) (by decide) rfl rfl ?_
    refine kw_bipush C (24 : Int32) dX7_kindOfSign_111 rfl ?_
    exact kw_iret C K dX7_kindOfSign_113 (pr_ret hf)
  have hf := if_n c2 hf
  by_cases c3 : p0 = (41 : Int32)
  · have hf := if_p c3 hf
    refine kw_tabIn C 114 dX7_kindOfSign_1 c3 (by decide) (by decide) rfl rfl ?_
    refine kw_bipush C (25 : Int32) dX7_kindOfSign_114 rfl ?_
    exact kw_iret C K dX7_kindOfSign_116 (pr_ret hf)
  have hf := if_n c3 hf
  by_cases c4 : p0 = (42 : Int32)
  · have hf := if_p c4 hf
    refine kw_tabIn C 132 dX7_kindOfSign_1 c4 (by decide) (by decide) rfl rfl ?_
    refine kw_bipush C (34 : Int32) dX7_kindOfSign_132 rfl ?_
    exact kw_iret C K dX7_kindOfSign_134 (pr_ret hf)
  have hf := if_n c4 hf
  by_cases c5 : p0 = (43 : Int32)
  · have hf := if_p c5 hf
    refine kw_tabIn C 126 dX7_kindOfSign_1 c5 (by decide) (by decide) rfl rfl ?_
    refine kw_bipush C (32 : Int32) dX7_kindOfSign_126 rfl ?_
    exact kw_iret C K dX7_kindOfSign_128 (pr_ret hf)
  have hf := if_n c5 hf
  by_cases c6 : p0 = (44 : Int32)
  · have hf := if_p c6 hf
    refine kw_tabIn C 138 dX7_kindOfSign_1 c6 (by decide) (by decide) rfl rfl ?_
    refine kw_sub [] _ rfl ?_
    exact kJ1 _ hf
  have hf := if_n c6 hf
  by_cases c7 : p0 = (45 : Int32)
  · have hf := if_p c7 hf
    refine kw_tabIn C 129 dX7_kindOfSign_1 c7 (by decide) (by decide) rfl rfl ?_
    refine kw_bipush C (33 : Int32) dX7_kindOfSign_129 rfl ?_
    exact kw_iret C K dX7_kindOfSign_131 (pr_ret hf)
  have hf := if_n c7 hf
  by_cases c8 : p0 = (46 : Int32)
  · have hf := if_p c8 hf
    refine kw_tabIn C 138 dX7_kindOfSign_1 c8 (by decide) (by decide) rfl rfl ?_
    refine kw_sub [] _ rfl ?_
    exact kJ1 _ hf
  have hf := if_n c8 hf
  by_cases c9 : p0 = (47 : Int32)
  · have hf := if_p c9 hf
    refine kw_tabIn C 135 dX7_kindOfSign_1 c9 (by decide) (by decide) rfl rfl ?_
    refine kw_bipush C (35 : Int32) dX7_kindOfSign_135 rfl ?_
    exact kw_iret C K dX7_kindOfSign_137 (pr_ret hf)
  have hf := if_n c9 hf
  by_cases c10 : p0 = (48 : Int32)
  · have hf := if_p c10 hf
    refine kw_tabIn C 138 dX7_kindOfSign_1 c10 (by decide) (by decide) rfl rfl ?_
    refine kw_sub [] _ rfl ?_
    exact kJ1 _ hf
  have hf := if_n c10 hf
  by_cases c11 : p0 = (49 : Int32)
  · have hf := if_p c11 hf
    refine kw_tabIn C 138 dX7_kindOfSign_1 c11 (by decide) (by decide) rfl rfl ?_
    refine kw_sub [] _ rfl ?_
    exact kJ1 _ hf
  have hf := if_n c11 hf
  by_cases c12 : p0 = (50 : Int32)
  · have hf := if_p c12 hf
    refine kw_tabIn C 138 dX7_kindOfSign_1 c12 (by decide) (by decide) rfl rfl ?_
    refine kw_sub [] _ rfl ?_
    exact kJ1 _ hf
  have hf := if_n c12 hf
  by_cases c13 : p0 = (51 : Int32)
  · have hf := if_p c13 hf
    refine kw_tabIn C 138 dX7_kindOfSign_1 c13 (by decide) (by decide) rfl rfl ?_
    refine kw_sub [] _ rfl ?_
    exact kJ1 _ hf
  have hf := if_n c13 hf
  by_cases c14 : p0 = (52 : Int32)
  · have hf := if_p c14 hf
    refine kw_tabIn C 138 dX7_kindOfSign_1 c14 (by decide) (by decide) rfl rfl ?_
    refine kw_sub [] _ rfl ?_
    exact kJ1 _ hf
  have hf := if_n c14 hf
  by_cases c15 : p0 = (53 : Int32)
  · have hf := if_p c15 hf
    refine kw_tabIn C 138 dX7_kindOfSign_1 c15 (by decide) (by decide) rfl rfl ?_
    refine kw_sub [] _ rfl ?_
    exact kJ1 _ hf
  have hf := if_n c15 hf
  by_cases c16 : p0 = (54 : Int32)
  · have hf := if_p c16 hf
    refine kw_tabIn C 138 dX7_kindOfSign_1 c16 (by decide) (by decide) rfl rfl ?_
    refine kw_sub [] _ rfl ?_
    exact kJ1 _ hf
  have hf := if_n c16 hf
  by_cases c17 : p0 = (55 : Int32)
  · have hf := if_p c17 hf
    refine kw_tabIn C 138 dX7_kindOfSign_1 c17 (by decide) (by decide) rfl rfl ?_
    refine kw_sub [] _ rfl ?_
    exact kJ1 _ hf
  have hf := if_n c17 hf
  by_cases c18 : p0 = (56 : Int32)
  · have hf := if_p c18 hf
    refine kw_tabIn C 138 dX7_kindOfSign_1 c18 (by decide) (by decide) rfl rfl ?_
    refine kw_sub [] _ rfl ?_
    exact kJ1 _ hf
  have hf := if_n c18 hf
  by_cases c19 : p0 = (57 : Int32)
  · have hf := if_p c19 hf
    refine kw_tabIn C 138 dX7_kindOfSign_1 c19 (by decide) (by decide) rfl rfl ?_
    refine kw_sub [] _ rfl ?_
    exact kJ1 _ hf
  have hf := if_n c19 hf
  by_cases c20 : p0 = (58 : Int32)
  · have hf := if_p c20 hf
    refine kw_tabIn C 138 dX7_kindOfSign_1 c20 (by decide) (by decide) rfl rfl ?_
    refine kw_sub [] _ rfl ?_
    exact kJ1 _ hf
  have hf := if_n c20 hf
  by_cases c21 : p0 = (59 : Int32)
  · have hf := if_p c21 hf
    refine kw_tabIn C 108 dX7_kindOfSign_1 c21 (by decide) (by decide) rfl rfl ?_
    refine kw_bipush C (23 : Int32) dX7_kindOfSign_108 rfl ?_
    exact kw_iret C K dX7_kindOfSign_110 (pr_ret hf)
  have hf := if_n c21 hf
  by_cases c22 : p0 = (60 : Int32)
  · have hf := if_p c22 hf
    refine kw_tabIn C 117 dX7_kindOfSign_1 c22 (by decide) (by decide) rfl rfl ?_
    refine kw_bipush C (26 : Int32) dX7_kindOfSign_117 rfl ?_
    exact kw_iret C K dX7_kindOfSign_119 (pr_ret hf)
  have hf := if_n c22 hf
  by_cases c23 : p0 = (61 : Int32)
  · have hf := if_p c23 hf
    refine kw_tabIn C 120 dX7_kindOfSign_1 c23 (by decide) (by decide) rfl rfl ?_
    refine kw_bipush C (28 : Int32) dX7_kindOfSign_120 rfl ?_
    exact kw_iret C K dX7_kindOfSign_122 (pr_ret hf)
  have hf := if_n c23 hf
  by_cases c24 : p0 = (62 : Int32)
  · have hf := if_p c24 hf
    refine kw_tabIn C 123 dX7_kindOfSign_1 c24 (by decide) (by decide) rfl rfl ?_
    refine kw_bipush C (31 : Int32) dX7_kindOfSign_123 rfl ?_
    exact kw_iret C K dX7_kindOfSign_125 (pr_ret hf)
  have hf := if_n c24 hf
  have c2_ : p0.toInt ≠ 40 := ne_ti c2
  have c3_ : p0.toInt ≠ 41 := ne_ti c3
  have c4_ : p0.toInt ≠ 42 := ne_ti c4
  have c5_ : p0.toInt ≠ 43 := ne_ti c5
  have c6_ : p0.toInt ≠ 44 := ne_ti c6
  have c7_ : p0.toInt ≠ 45 := ne_ti c7
  have c8_ : p0.toInt ≠ 46 := ne_ti c8
  have c9_ : p0.toInt ≠ 47 := ne_ti c9
  have c10_ : p0.toInt ≠ 48 := ne_ti c10
  have c11_ : p0.toInt ≠ 49 := ne_ti c11
  have c12_ : p0.toInt ≠ 50 := ne_ti c12
  have c13_ : p0.toInt ≠ 51 := ne_ti c13
  have c14_ : p0.toInt ≠ 52 := ne_ti c14
  have c15_ : p0.toInt ≠ 53 := ne_ti c15
  have c16_ : p0.toInt ≠ 54 := ne_ti c16
  have c17_ : p0.toInt ≠ 55 := ne_ti c17
  have c18_ : p0.toInt ≠ 56 := ne_ti c18
  have c19_ : p0.toInt ≠ 57 := ne_ti c19
  have c20_ : p0.toInt ≠ 58 := ne_ti c20
  have c21_ : p0.toInt ≠ 59 := ne_ti c21
  have c22_ : p0.toInt ≠ 60 := ne_ti c22
  have c23_ : p0.toInt ≠ 61 := ne_ti c23
  have c24_ : p0.toInt ≠ 62 := ne_ti c24
  refine kw_tabOut C 138 dX7_kindOfSign_1 (by omega) rfl ?_
  refine kw_sub [] _ rfl ?_
  exact kJ1 _ hf
set_option maxRecDepth 100000 in
set_option maxHeartbeats 4000000 in
theorem kX7_isNext (L : Launch) (D : va_G) (g : GwT) (t0 : Nat) (p0 : Int32) (σ : St) (r0 : Int32) (hf : fX7_isNext σ p0 = some r0) : CtI L D (ttG g) (wB g) t0 yX7_isNext cX7_isNext 2 (some .boolean) { frames := 0, cells := 0, slots := 0, locals := 0 } [.ref (g.1 10), .int p0] σ r0 σ := by
  refine CtI.of (own := RX7) (by decide) rfl (Nat.le_of_ble_eq_true rfl) [(0, .ref (g.1 10)), (1, .int p0)] rfl ?_
  intro X C hN K
  unfold fX7_isNext at hf
  refine kw_aload_n C dX7_isNext_0 rfl 0 rfl ?_
  refine kw_get C inG7 _ (hO7 g σ) rfl 2 (Nat.le_of_ble_eq_true rfl) mf_7_25 rfl rfl dX7_isNext_1 ?_
  refine kw_aload_n C dX7_isNext_4 rfl 0 rfl ?_
  refine kw_get C inG7 _ (hO7 g σ) rfl 1 (Nat.le_of_ble_eq_true rfl) mf_7_21 rfl rfl dX7_isNext_5 ?_
  obtain ⟨J2, hJ2, hf⟩ := jnx1_elim hf
  have kJ2 : ∀ (x1 : Int32), J2 x1 = some r0 → KW X σ 29 [] [.int x1] := by
    clear hf
    intro x1 hf
    have hf := (hJ2 x1).symm.trans hf
    obtain ⟨h3, hf⟩ := gd_elim hf
    exact kw_zret C K h3 dX7_isNext_29 (pr_ret hf)
  obtain ⟨J4, hJ4, hf⟩ := jnx1_elim hf
  have kJ4 : ∀ (u9 : Unit), J4 u9 = some r0 → KW X σ 28 [] [] := by
    clear hf
    intro u9 hf
    have hf := (hJ4 u9).symm.trans hf
    refine kw_iconst C (0 : Int32) dX7_isNext_28 rfl ?_
    exact kJ2 _ hf
  refine kw_icmp_ge C 28 dX7_isNext_8 rfl (fun c5 => ?_) (fun c5 => ?_)
  · have hf := if_p c5 hf
    refine kw_sub [] _ rfl ?_
    exact kJ4 _ hf
  · have hf := if_n c5 hf
    refine kw_aload_n C dX7_isNext_11 rfl 0 rfl ?_
    refine kw_get C inG7 _ (hO7 g σ) rfl 0 (Nat.le_of_ble_eq_true rfl) mf_7_9 rfl rfl dX7_isNext_12 ?_
    refine kw_aload_n C dX7_isNext_15 rfl 0 rfl ?_
    refine kw_get C inG7 _ (hO7 g σ) rfl 2 (Nat.le_of_ble_eq_true rfl) mf_7_25 rfl rfl dX7_isNext_16 ?_
    obtain ⟨h6, hf⟩ := gd_elim hf
    refine kw_bald C _ 1 (hA9_0 g σ) rfl h6 dX7_isNext_19 ?_
    refine kw_iload_n C dX7_isNext_20 rfl 1 rfl ?_
    refine kw_icmp_ne C 28 dX7_isNext_21 rfl (fun c7 => ?_) (fun c7 => ?_)
    · have hf := if_n c7 hf
      refine kw_sub [] _ rfl ?_
      exact kJ4 _ hf
    · have hf := if_p c7 hf
      refine kw_iconst C (1 : Int32) dX7_isNext_24 rfl ?_
      refine kw_goto C 29 dX7_isNext_25 rfl ?_
      refine kw_sub [] _ rfl ?_
      exact kJ2 _ hf
set_option maxRecDepth 100000 in
set_option maxHeartbeats 4000000 in
theorem kX7_readSign (L : Launch) (D : va_G) (g : GwT) (t0 : Nat) (p0 : Int32) (σ : St) (σ0 : St) (hf : fX7_readSign σ p0 = some σ0) : CtV L D (ttG g) (wB g) t0 yX7_readSign cX7_readSign 2 none { frames := 1, cells := 0, slots := 0, locals := 21 } [.ref (g.1 10), .int p0] σ σ0 := by
  refine CtV.of (own := RX7) (by decide) rfl (Nat.le_of_ble_eq_true rfl) [(0, .ref (g.1 10)), (1, .int p0)] rfl ?_
  intro X C hN K
  unfold fX7_readSign at hf
  refine kw_aload_n C dX7_readSign_0 rfl 0 rfl ?_
  refine kw_iload_n C dX7_readSign_1 rfl 1 rfl ?_
  obtain ⟨r2, hc1, hf⟩ := bd_elim hf
  refine kw_callSI C [.int p0] (kX7_kindOfSign L D g t0 p0 σ _ hc1) mS_X7_66 ⟨rfl, rfl⟩ dd_X7_kindOfSign ⟨Nat.le_of_ble_eq_true rfl, Nat.le_of_ble_eq_true rfl⟩ rfl (Nat.le_of_ble_eq_true rfl) dX7_readSign_2 ?_
  obtain ⟨σ3, eσ3, hf⟩ := lt_elim hf
  refine kw_put C inG7 tyX7 tyX7_ok nmX7 _ (hO7 g σ) rfl 3 (Nat.le_of_ble_eq_true rfl) mf_7_37 rfl rfl (tyX7_ok 3 (Nat.le_of_ble_eq_true rfl)) rfl rfl (Nat.le_of_ble_eq_true rfl) ((hF7_3 g σ _).trans (congrArg (wB g) eσ3.symm)) dX7_readSign_5 ?_
  refine kw_aload_n C dX7_readSign_8 rfl 0 rfl ?_
  refine kw_dup C dX7_readSign_9 rfl ?_
  refine kw_get C inG7 _ (hO7 g σ3) rfl 2 (Nat.le_of_ble_eq_true rfl) mf_7_25 rfl rfl dX7_readSign_10 ?_
  refine kw_iconst C (1 : Int32) dX7_readSign_13 rfl ?_
  refine kw_iadd C dX7_readSign_14 ?_
  obtain ⟨σ4, eσ4, hf⟩ := lt_elim hf
  refine kw_put C inG7 tyX7 tyX7_ok nmX7 _ (hO7 g σ3) rfl 2 (Nat.le_of_ble_eq_true rfl) mf_7_25 rfl rfl (tyX7_ok 2 (Nat.le_of_ble_eq_true rfl)) rfl rfl (Nat.le_of_ble_eq_true rfl) ((hF7_2 g σ3 _).trans (congrArg (wB g) eσ4.symm)) dX7_readSign_15 ?_
  refine kw_aload_n C dX7_readSign_18 rfl 0 rfl ?_
  refine kw_get C inG7 _ (hO7 g σ4) rfl 3 (Nat.le_of_ble_eq_true rfl) mf_7_37 rfl rfl dX7_readSign_19 ?_
  refine kw_bipush C (26 : Int32) dX7_readSign_22 rfl ?_
  obtain ⟨J6, hJ6, hf⟩ := jnx1_elim hf
  have kJ6 : ∀ (σ5 : St), J6 σ5 = some σ0 → KW X σ5 126 [] [] := by
    clear hf
    intro σ5 hf
    have hf := (hJ6 σ5).symm.trans hf
    exact kw_vret (u9 := ()) C K dX7_readSign_126 hf
  obtain ⟨J7, hJ7, hf⟩ := jnx1_elim hf
  have kJ7 : ∀ (u9 : Unit), J7 u9 = some σ0 → KW X σ4 55 [(0, .ref (g.1 10))] [] := by
    clear hf
    intro u9 hf
    have hf := (hJ7 u9).symm.trans hf
    refine kw_aload_n C dX7_readSign_55 rfl 0 rfl ?_
    refine kw_get C inG7 _ (hO7 g σ4) rfl 3 (Nat.le_of_ble_eq_true rfl) mf_7_37 rfl rfl dX7_readSign_56 ?_
    refine kw_bipush C (26 : Int32) dX7_readSign_59 rfl ?_
    obtain ⟨J8, hJ8, hf⟩ := jnx1_elim hf
    have kJ8 : ∀ (u9 : Unit), J8 u9 = some σ0 → KW X σ4 92 [(0, .ref (g.1 10))] [] := by
      clear hf
      intro u9 hf
      have hf := (hJ8 u9).symm.trans hf
      refine kw_aload_n C dX7_readSign_92 rfl 0 rfl ?_
      refine kw_get C inG7 _ (hO7 g σ4) rfl 3 (Nat.le_of_ble_eq_true rfl) mf_7_37 rfl rfl dX7_readSign_93 ?_
      refine kw_bipush C (31 : Int32) dX7_readSign_96 rfl ?_
      refine kw_icmp_ne C 126 dX7_readSign_98 rfl (fun c9 => ?_) (fun c9 => ?_)
      · have hf := if_n c9 hf
        refine kw_sub [] _ rfl ?_
        exact kJ6 _ hf
      · have hf := if_p c9 hf
        refine kw_aload_n C dX7_readSign_101 rfl 0 rfl ?_
        refine kw_bipush C (61 : Int32) dX7_readSign_102 rfl ?_
        obtain ⟨r11, hc10, hf⟩ := bd_elim hf
        refine kw_callVI C [.int (61 : Int32)] (kX7_isNext L D g t0 (61 : Int32) σ4 _ hc10) RX7 mV_X7_70 ⟨rfl, rfl⟩ dd_X7_isNext ⟨Nat.le_of_ble_eq_true rfl, Nat.le_of_ble_eq_true rfl⟩ _ (hO7 g σ4) rfl rfl rfl (Nat.le_of_ble_eq_true rfl) dX7_readSign_104 ?_
        refine kw_if_eq C 126 dX7_readSign_107 rfl (fun c12 => ?_) (fun c12 => ?_)
        · have hf := if_p c12 hf
          refine kw_sub [] _ rfl ?_
          exact kJ6 _ hf
        · have hf := if_n c12 hf
          refine kw_aload_n C dX7_readSign_110 rfl 0 rfl ?_
          refine kw_bipush C (30 : Int32) dX7_readSign_111 rfl ?_
          obtain ⟨σ13, eσ13, hf⟩ := lt_elim hf
          refine kw_put C inG7 tyX7 tyX7_ok nmX7 _ (hO7 g σ4) rfl 3 (Nat.le_of_ble_eq_true rfl) mf_7_37 rfl rfl (tyX7_ok 3 (Nat.le_of_ble_eq_true rfl)) rfl rfl (Nat.le_of_ble_eq_true rfl) ((hF7_3 g σ4 _).trans (congrArg (wB g) eσ13.symm)) dX7_readSign_113 ?_
          refine kw_aload_n C dX7_readSign_116 rfl 0 rfl ?_
          refine kw_dup C dX7_readSign_117 rfl ?_
          refine kw_get C inG7 _ (hO7 g σ13) rfl 2 (Nat.le_of_ble_eq_true rfl) mf_7_25 rfl rfl dX7_readSign_118 ?_
          refine kw_iconst C (1 : Int32) dX7_readSign_121 rfl ?_
          refine kw_iadd C dX7_readSign_122 ?_
          obtain ⟨σ14, eσ14, hf⟩ := lt_elim hf
          refine kw_put C inG7 tyX7 tyX7_ok nmX7 _ (hO7 g σ13) rfl 2 (Nat.le_of_ble_eq_true rfl) mf_7_25 rfl rfl (tyX7_ok 2 (Nat.le_of_ble_eq_true rfl)) rfl rfl (Nat.le_of_ble_eq_true rfl) ((hF7_2 g σ13 _).trans (congrArg (wB g) eσ14.symm)) dX7_readSign_123 ?_
          refine kw_sub [] _ rfl ?_
          exact kJ6 _ hf
    refine kw_icmp_ne C 92 dX7_readSign_61 rfl (fun c15 => ?_) (fun c15 => ?_)
    · have hf := if_n c15 hf
      exact kJ8 _ hf
    · have hf := if_p c15 hf
      refine kw_aload_n C dX7_readSign_64 rfl 0 rfl ?_
      refine kw_bipush C (62 : Int32) dX7_readSign_65 rfl ?_
      obtain ⟨r17, hc16, hf⟩ := bd_elim hf
      refine kw_callVI C [.int (62 : Int32)] (kX7_isNext L D g t0 (62 : Int32) σ4 _ hc16) RX7 mV_X7_70 ⟨rfl, rfl⟩ dd_X7_isNext ⟨Nat.le_of_ble_eq_true rfl, Nat.le_of_ble_eq_true rfl⟩ _ (hO7 g σ4) rfl rfl rfl (Nat.le_of_ble_eq_true rfl) dX7_readSign_67 ?_
      refine kw_if_eq C 92 dX7_readSign_70 rfl (fun c18 => ?_) (fun c18 => ?_)
      · have hf := if_p c18 hf
        exact kJ8 _ hf
      · have hf := if_n c18 hf
        refine kw_aload_n C dX7_readSign_73 rfl 0 rfl ?_
        refine kw_bipush C (29 : Int32) dX7_readSign_74 rfl ?_
        obtain ⟨σ19, eσ19, hf⟩ := lt_elim hf
        refine kw_put C inG7 tyX7 tyX7_ok nmX7 _ (hO7 g σ4) rfl 3 (Nat.le_of_ble_eq_true rfl) mf_7_37 rfl rfl (tyX7_ok 3 (Nat.le_of_ble_eq_true rfl)) rfl rfl (Nat.le_of_ble_eq_true rfl) ((hF7_3 g σ4 _).trans (congrArg (wB g) eσ19.symm)) dX7_readSign_76 ?_
        refine kw_aload_n C dX7_readSign_79 rfl 0 rfl ?_
        refine kw_dup C dX7_readSign_80 rfl ?_
        refine kw_get C inG7 _ (hO7 g σ19) rfl 2 (Nat.le_of_ble_eq_true rfl) mf_7_25 rfl rfl dX7_readSign_81 ?_
        refine kw_iconst C (1 : Int32) dX7_readSign_84 rfl ?_
        refine kw_iadd C dX7_readSign_85 ?_
        obtain ⟨σ20, eσ20, hf⟩ := lt_elim hf
        refine kw_put C inG7 tyX7 tyX7_ok nmX7 _ (hO7 g σ19) rfl 2 (Nat.le_of_ble_eq_true rfl) mf_7_25 rfl rfl (tyX7_ok 2 (Nat.le_of_ble_eq_true rfl)) rfl rfl (Nat.le_of_ble_eq_true rfl) ((hF7_2 g σ19 _).trans (congrArg (wB g) eσ20.symm)) dX7_readSign_86 ?_
        refine kw_goto C 126 dX7_readSign_89 rfl ?_
        refine kw_sub [] _ rfl ?_
        exact kJ6 _ hf
  refine kw_icmp_ne C 55 dX7_readSign_24 rfl (fun c21 => ?_) (fun c21 => ?_)
  · have hf := if_n c21 hf
    refine kw_sub [0] _ rfl ?_
    exact kJ7 _ hf
  · have hf := if_p c21 hf
    refine kw_aload_n C dX7_readSign_27 rfl 0 rfl ?_
    refine kw_bipush C (61 : Int32) dX7_readSign_28 rfl ?_
    obtain ⟨r23, hc22, hf⟩ := bd_elim hf
    refine kw_callVI C [.int (61 : Int32)] (kX7_isNext L D g t0 (61 : Int32) σ4 _ hc22) RX7 mV_X7_70 ⟨rfl, rfl⟩ dd_X7_isNext ⟨Nat.le_of_ble_eq_true rfl, Nat.le_of_ble_eq_true rfl⟩ _ (hO7 g σ4) rfl rfl rfl (Nat.le_of_ble_eq_true rfl) dX7_readSign_30 ?_
    refine kw_if_eq C 55 dX7_readSign_33 rfl (fun c24 => ?_) (fun c24 => ?_)
    · have hf := if_p c24 hf
      refine kw_sub [0] _ rfl ?_
      exact kJ7 _ hf
    · have hf := if_n c24 hf
      refine kw_aload_n C dX7_readSign_36 rfl 0 rfl ?_
      refine kw_bipush C (27 : Int32) dX7_readSign_37 rfl ?_
      obtain ⟨σ25, eσ25, hf⟩ := lt_elim hf
      refine kw_put C inG7 tyX7 tyX7_ok nmX7 _ (hO7 g σ4) rfl 3 (Nat.le_of_ble_eq_true rfl) mf_7_37 rfl rfl (tyX7_ok 3 (Nat.le_of_ble_eq_true rfl)) rfl rfl (Nat.le_of_ble_eq_true rfl) ((hF7_3 g σ4 _).trans (congrArg (wB g) eσ25.symm)) dX7_readSign_39 ?_
      refine kw_aload_n C dX7_readSign_42 rfl 0 rfl ?_
      refine kw_dup C dX7_readSign_43 rfl ?_
      refine kw_get C inG7 _ (hO7 g σ25) rfl 2 (Nat.le_of_ble_eq_true rfl) mf_7_25 rfl rfl dX7_readSign_44 ?_
      refine kw_iconst C (1 : Int32) dX7_readSign_47 rfl ?_
      refine kw_iadd C dX7_readSign_48 ?_
      obtain ⟨σ26, eσ26, hf⟩ := lt_elim hf
      refine kw_put C inG7 tyX7 tyX7_ok nmX7 _ (hO7 g σ25) rfl 2 (Nat.le_of_ble_eq_true rfl) mf_7_25 rfl rfl (tyX7_ok 2 (Nat.le_of_ble_eq_true rfl)) rfl rfl (Nat.le_of_ble_eq_true rfl) ((hF7_2 g σ25 _).trans (congrArg (wB g) eσ26.symm)) dX7_readSign_49 ?_
      refine kw_goto C 126 dX7_readSign_52 rfl ?_
      refine kw_sub [] _ rfl ?_
      exact kJ6 _ hf
set_option maxRecDepth 100000 in
set_option maxHeartbeats 4000000 in
theorem kX7_readNumber (L : Launch) (D : va_G) (g : GwT) (t0 : Nat) (σ : St) (σ0 : St) (hf : fX7_readNumber σ  = some σ0) : CtV L D (ttG g) (wB g) t0 yX7_readNumber cX7_readNumber 1 none { frames := 1, cells := 0, slots := 0, locals := 23 } [.ref (g.1 10)] σ σ0 := by
  refine CtV.of (own := RX7) (by decide) rfl (Nat.le_of_ble_eq_true rfl) [(0, .ref (g.1 10))] rfl ?_
  intro X C hN K
  unfold fX7_readNumber at hf
  refine kw_aload_n C dX7_readNumber_0 rfl 0 rfl ?_
  refine kw_bipush C (20 : Int32) dX7_readNumber_1 rfl ?_
  obtain ⟨σ1, eσ1, hf⟩ := lt_elim hf
  refine kw_put C inG7 tyX7 tyX7_ok nmX7 _ (hO7 g σ) rfl 3 (Nat.le_of_ble_eq_true rfl) mf_7_37 rfl rfl (tyX7_ok 3 (Nat.le_of_ble_eq_true rfl)) rfl rfl (Nat.le_of_ble_eq_true rfl) ((hF7_3 g σ _).trans (congrArg (wB g) eσ1.symm)) dX7_readNumber_3 ?_
  refine lpx1_walk (P := fun (σ2 : St) => KW X σ2 6 [(0, .ref (g.1 10))] []) ?_ FU _ hf
  intro self3 σ2 ih4 hf
  refine kw_aload_n C dX7_readNumber_6 rfl 0 rfl ?_
  refine kw_get C inG7 _ (hO7 g σ2) rfl 2 (Nat.le_of_ble_eq_true rfl) mf_7_25 rfl rfl dX7_readNumber_7 ?_
  refine kw_aload_n C dX7_readNumber_10 rfl 0 rfl ?_
  refine kw_get C inG7 _ (hO7 g σ2) rfl 1 (Nat.le_of_ble_eq_true rfl) mf_7_21 rfl rfl dX7_readNumber_11 ?_
  obtain ⟨J5, hJ5, hf⟩ := jnx1_elim hf
  have kJ5 : ∀ (u9 : Unit), J5 u9 = some σ0 → KW X σ2 74 [] [] := by
    clear hf
    intro u9 hf
    have hf := (hJ5 u9).symm.trans hf
    exact kw_vret (u9 := ()) C K dX7_readNumber_74 hf
  refine kw_icmp_ge C 74 dX7_readNumber_14 rfl (fun c6 => ?_) (fun c6 => ?_)
  · have hf := if_p c6 hf
    refine kw_sub [] _ rfl ?_
    exact kJ5 _ hf
  · have hf := if_n c6 hf
    refine kw_aload_n C dX7_readNumber_17 rfl 0 rfl ?_
    refine kw_get C inG7 _ (hO7 g σ2) rfl 0 (Nat.le_of_ble_eq_true rfl) mf_7_9 rfl rfl dX7_readNumber_18 ?_
    refine kw_aload_n C dX7_readNumber_21 rfl 0 rfl ?_
    refine kw_get C inG7 _ (hO7 g σ2) rfl 2 (Nat.le_of_ble_eq_true rfl) mf_7_25 rfl rfl dX7_readNumber_22 ?_
    obtain ⟨h7, hf⟩ := gd_elim hf
    refine kw_bald C _ 1 (hA9_0 g σ2) rfl h7 dX7_readNumber_25 ?_
    obtain ⟨r9, hc8, hf⟩ := bd_elim hf
    refine kw_callSI C [.int (gA σ2 0 0 (Int32.toNatClampNeg (gI σ2 10 2)))] (kX7_isDigit L D g t0 (gA σ2 0 0 (Int32.toNatClampNeg (gI σ2 10 2))) σ2 _ hc8) mS_X7_47 ⟨rfl, rfl⟩ dd_X7_isDigit ⟨Nat.le_of_ble_eq_true rfl, Nat.le_of_ble_eq_true rfl⟩ rfl (Nat.le_of_ble_eq_true rfl) dX7_readNumber_26 ?_
    refine kw_if_eq C 74 dX7_readNumber_29 rfl (fun c10 => ?_) (fun c10 => ?_)
    · have hf := if_p c10 hf
      refine kw_sub [] _ rfl ?_
      exact kJ5 _ hf
    · have hf := if_n c10 hf
      refine kw_aload_n C dX7_readNumber_32 rfl 0 rfl ?_
      refine kw_ldc C dX7_readNumber_33 mk_X7_65 ?_
      refine kw_bipush C (10 : Int32) dX7_readNumber_35 rfl ?_
      refine kw_aload_n C dX7_readNumber_37 rfl 0 rfl ?_
      refine kw_get C inG7 _ (hO7 g σ2) rfl 5 (Nat.le_of_ble_eq_true rfl) mf_7_34 rfl rfl dX7_readNumber_38 ?_
      refine kw_imul C dX7_readNumber_41 ?_
      refine kw_aload_n C dX7_readNumber_42 rfl 0 rfl ?_
      refine kw_get C inG7 _ (hO7 g σ2) rfl 0 (Nat.le_of_ble_eq_true rfl) mf_7_9 rfl rfl dX7_readNumber_43 ?_
      refine kw_aload_n C dX7_readNumber_46 rfl 0 rfl ?_
      refine kw_get C inG7 _ (hO7 g σ2) rfl 2 (Nat.le_of_ble_eq_true rfl) mf_7_25 rfl rfl dX7_readNumber_47 ?_
      obtain ⟨h11, hf⟩ := gd_elim hf
      refine kw_bald C _ 1 (hA9_0 g σ2) rfl h11 dX7_readNumber_50 ?_
      refine kw_iadd C dX7_readNumber_51 ?_
      refine kw_bipush C (48 : Int32) dX7_readNumber_52 rfl ?_
      refine kw_isub C dX7_readNumber_54 ?_
      refine kw_mmin C ml_X7_15 mst_min mi_Math mcode_min ⟨Nat.le_of_ble_eq_true rfl, Nat.le_of_ble_eq_true rfl⟩ dX7_readNumber_55 ?_
      obtain ⟨σ12, eσ12, hf⟩ := lt_elim hf
      refine kw_put C inG7 tyX7 tyX7_ok nmX7 _ (hO7 g σ2) rfl 5 (Nat.le_of_ble_eq_true rfl) mf_7_34 rfl rfl (tyX7_ok 5 (Nat.le_of_ble_eq_true rfl)) rfl rfl (Nat.le_of_ble_eq_true rfl) ((hF7_5 g σ2 _).trans (congrArg (wB g) eσ12.symm)) dX7_readNumber_58 ?_
      refine kw_aload_n C dX7_readNumber_61 rfl 0 rfl ?_
      refine kw_dup C dX7_readNumber_62 rfl ?_
      refine kw_get C inG7 _ (hO7 g σ12) rfl 2 (Nat.le_of_ble_eq_true rfl) mf_7_25 rfl rfl dX7_readNumber_63 ?_
      refine kw_iconst C (1 : Int32) dX7_readNumber_66 rfl ?_
      refine kw_iadd C dX7_readNumber_67 ?_
      obtain ⟨σ13, eσ13, hf⟩ := lt_elim hf
      refine kw_put C inG7 tyX7 tyX7_ok nmX7 _ (hO7 g σ12) rfl 2 (Nat.le_of_ble_eq_true rfl) mf_7_25 rfl rfl (tyX7_ok 2 (Nat.le_of_ble_eq_true rfl)) rfl rfl (Nat.le_of_ble_eq_true rfl) ((hF7_2 g σ12 _).trans (congrArg (wB g) eσ13.symm)) dX7_readNumber_68 ?_
      refine kw_goto C 6 dX7_readNumber_71 rfl ?_
      exact ih4 _ hf
set_option maxRecDepth 100000 in
set_option maxHeartbeats 4000000 in
theorem kX9_placeOf_w (L : Launch) (D : va_G) (g : GwT) (t0 : Nat) (p0 : Int32) (p2 : Int32) (σ : St) (r0 : Int32) (hf : fX9_placeOf_w σ p0 p2 = some r0) : CtI L D (ttG g) (wB g) t0 yX9_placeOf cX9_placeOf 4 (some .int) { frames := 0, cells := 0, slots := 0, locals := 0 } [.int p0, .ref t0, .int p2] σ r0 σ := by
  refine CtI.of (own := RX9) (by decide) rfl (Nat.le_of_ble_eq_true rfl) [(0, .int p0), (1, .ref t0), (2, .int p2)] rfl ?_
  intro X C hN K
  unfold fX9_placeOf_w at hf
  refine kw_iconst C (0 : Int32) dX9_placeOf_0 rfl ?_
  refine kw_istore_n C dX9_placeOf_1 rfl hN (Nat.le_of_ble_eq_true rfl) [(3, .int (0 : Int32)), (0, .int p0), (1, .ref t0), (2, .int p2)] rfl ?_
  refine kw_sub [1, 2, 3, 0] _ rfl ?_
  refine lpx1_walk (P := fun (x1 : Int32) => KW X σ 2 [(0, .int p0), (1, .ref t0), (2, .int p2), (3, .int x1)] []) ?_ FU _ hf
  intro self2 x1 ih3 hf
  refine kw_iload_n C dX9_placeOf_2 rfl 3 rfl ?_
  refine kw_iload_n C dX9_placeOf_3 rfl 2 rfl ?_
  obtain ⟨J4, hJ4, hf⟩ := jnx1_elim hf
  have kJ4 : ∀ (u9 : Unit), J4 u9 = some r0 → KW X σ 28 [] [] := by
    clear hf
    intro u9 hf
    have hf := (hJ4 u9).symm.trans hf
    refine kw_iconst C (-1 : Int32) dX9_placeOf_28 rfl ?_
    exact kw_iret C K dX9_placeOf_29 (pr_ret hf)
  refine kw_icmp_ge C 28 dX9_placeOf_4 rfl (fun c5 => ?_) (fun c5 => ?_)
  · have hf := if_p c5 hf
    refine kw_sub [] _ rfl ?_
    exact kJ4 _ hf
  · have hf := if_n c5 hf
    refine kw_iload_n C dX9_placeOf_7 rfl 3 rfl ?_
    refine kw_aload_n C dX9_placeOf_8 rfl 1 rfl ?_
    refine kw_tlen C dX9_placeOf_9 ?_
    refine kw_icmp_ge C 28 dX9_placeOf_10 rfl (fun c6 => ?_) (fun c6 => ?_)
    · have hf := if_p c6 hf
      refine kw_sub [] _ rfl ?_
      exact kJ4 _ hf
    · have hf := if_n c6 hf
      refine kw_aload_n C dX9_placeOf_13 rfl 1 rfl ?_
      refine kw_iload_n C dX9_placeOf_14 rfl 3 rfl ?_
      obtain ⟨h7, hf⟩ := gd_elim hf
      refine kw_ti C h7 dX9_placeOf_15 ?_
      refine kw_iload_n C dX9_placeOf_16 rfl 0 rfl ?_
      refine kw_icmp_ne C 22 dX9_placeOf_17 rfl (fun c8 => ?_) (fun c8 => ?_)
      · have hf := if_n c8 hf
        obtain ⟨x9, ex9, hf⟩ := lt_elim hf
        refine kw_iinc C x9 dX9_placeOf_22 3 rfl ex9.symm hN (Nat.le_of_ble_eq_true rfl) [(3, .int x9), (0, .int p0), (1, .ref t0), (2, .int p2)] rfl ?_
        refine kw_goto C 2 dX9_placeOf_25 rfl ?_
        refine kw_sub [1, 2, 3, 0] _ rfl ?_
        exact ih3 _ hf
      · have hf := if_p c8 hf
        refine kw_iload_n C dX9_placeOf_20 rfl 3 rfl ?_
        exact kw_iret C K dX9_placeOf_21 (pr_ret hf)
set_option maxRecDepth 100000 in
set_option maxHeartbeats 4000000 in
theorem kX7_readWord (L : Launch) (D : va_G) (g : GwT) (t0 : Nat) (σ : St) (σ0 : St) (hf : fX7_readWord σ  = some σ0) : CtV L D (ttG g) (wB g) t0 yX7_readWord cX7_readWord 3 none { frames := 1, cells := 0, slots := 0, locals := 23 } [.ref (g.1 10)] σ σ0 := by
  refine CtV.of (own := RX7) (by decide) rfl (Nat.le_of_ble_eq_true rfl) [(0, .ref (g.1 10))] rfl ?_
  intro X C hN K
  unfold fX7_readWord at hf
  refine kw_iconst C (0 : Int32) dX7_readWord_0 rfl ?_
  refine kw_istore_n C dX7_readWord_1 rfl hN (Nat.le_of_ble_eq_true rfl) [(1, .int (0 : Int32)), (0, .ref (g.1 10))] rfl ?_
  refine kw_sub [1, 0] _ rfl ?_
  refine lpx2_walk (P := fun (x1 : Int32) (σ2 : St) => KW X σ2 2 [(0, .ref (g.1 10)), (1, .int x1)] []) ?_ FU _ _ hf
  intro self3 x1 σ2 ih4 hf
  refine kw_aload_n C dX7_readWord_2 rfl 0 rfl ?_
  refine kw_get C inG7 _ (hO7 g σ2) rfl 2 (Nat.le_of_ble_eq_true rfl) mf_7_25 rfl rfl dX7_readWord_3 ?_
  refine kw_aload_n C dX7_readWord_6 rfl 0 rfl ?_
  refine kw_get C inG7 _ (hO7 g σ2) rfl 1 (Nat.le_of_ble_eq_true rfl) mf_7_21 rfl rfl dX7_readWord_7 ?_
  obtain ⟨J5, hJ5, hf⟩ := jnx1_elim hf
  have kJ5 : ∀ (u9 : Unit), J5 u9 = some σ0 → KW X σ2 80 [(0, .ref (g.1 10)), (1, .int x1)] [] := by
    clear hf
    intro u9 hf
    have hf := (hJ5 u9).symm.trans hf
    refine kw_iload_n C dX7_readWord_80 rfl 1 rfl ?_
    refine kw_bipush C (6 : Int32) dX7_readWord_81 rfl ?_
    obtain ⟨J7, hJ7, hf⟩ := jnx1_elim hf
    have kJ7 : ∀ (x6 : Int32), J7 x6 = some σ0 → KW X σ2 104 [(0, .ref (g.1 10)), (1, .int x1)] [.int x6] := by
      clear hf
      intro x6 hf
      have hf := (hJ7 x6).symm.trans hf
      refine kw_istore_n C dX7_readWord_104 rfl hN (Nat.le_of_ble_eq_true rfl) [(2, .int x6), (0, .ref (g.1 10)), (1, .int x1)] rfl ?_
      refine kw_iload_n C dX7_readWord_105 rfl 0 rfl ?_
      refine kw_iconst C (-1 : Int32) dX7_readWord_106 rfl ?_
      obtain ⟨J9, hJ9, hf⟩ := jnx1_elim hf
      have kJ9 : ∀ (σ8 : St), J9 σ8 = some σ0 → KW X σ8 135 [] [] := by
        clear hf
        intro σ8 hf
        have hf := (hJ9 σ8).symm.trans hf
        exact kw_vret (u9 := ()) C K dX7_readWord_135 hf
      refine kw_icmp_eq C 118 dX7_readWord_107 rfl (fun c10 => ?_) (fun c10 => ?_)
      · have hf := if_p c10 hf
        refine kw_aload_n C dX7_readWord_118 rfl 1 rfl ?_
        refine kw_iload_n C dX7_readWord_119 rfl 2 rfl ?_
        refine kw_bipush C (6 : Int32) dX7_readWord_120 rfl ?_
        obtain ⟨J12, hJ12, hf⟩ := jnx1_elim hf
        have kJ12 : ∀ (x11 : Int32), J12 x11 = some σ0 → KW X σ2 132 [] [.int x11, .ref (g.1 10)] := by
          clear hf
          intro x11 hf
          have hf := (hJ12 x11).symm.trans hf
          obtain ⟨σ13, eσ13, hf⟩ := lt_elim hf
          refine kw_put C inG7 tyX7 tyX7_ok nmX7 _ (hO7 g σ2) rfl 3 (Nat.le_of_ble_eq_true rfl) mf_7_37 rfl rfl (tyX7_ok 3 (Nat.le_of_ble_eq_true rfl)) rfl rfl (Nat.le_of_ble_eq_true rfl) ((hF7_3 g σ2 _).trans (congrArg (wB g) eσ13.symm)) dX7_readWord_132 ?_
          exact kJ9 _ hf
        refine kw_icmp_le C 130 dX7_readWord_122 rfl (fun c14 => ?_) (fun c14 => ?_)
        · have hf := if_p c14 hf
          refine kw_bipush C (19 : Int32) dX7_readWord_130 rfl ?_
          refine kw_sub [] _ rfl ?_
          exact kJ12 _ hf
        · have hf := if_n c14 hf
          refine kw_bipush C (22 : Int32) dX7_readWord_125 rfl ?_
          refine kw_goto C 132 dX7_readWord_127 rfl ?_
          refine kw_sub [] _ rfl ?_
          exact kJ12 _ hf
      · have hf := if_n c10 hf
        refine kw_aload_n C dX7_readWord_110 rfl 1 rfl ?_
        refine kw_iload_n C dX7_readWord_111 rfl 0 rfl ?_
        obtain ⟨σ15, eσ15, hf⟩ := lt_elim hf
        refine kw_put C inG7 tyX7 tyX7_ok nmX7 _ (hO7 g σ2) rfl 3 (Nat.le_of_ble_eq_true rfl) mf_7_37 rfl rfl (tyX7_ok 3 (Nat.le_of_ble_eq_true rfl)) rfl rfl (Nat.le_of_ble_eq_true rfl) ((hF7_3 g σ2 _).trans (congrArg (wB g) eσ15.symm)) dX7_readWord_112 ?_
        refine kw_goto C 135 dX7_readWord_115 rfl ?_
        refine kw_sub [] _ rfl ?_
        exact kJ9 _ hf
    refine kw_icmp_le C 90 dX7_readWord_83 rfl (fun c16 => ?_) (fun c16 => ?_)
    · have hf := if_p c16 hf
      refine kw_aload_n C dX7_readWord_90 rfl 0 rfl ?_
      refine kw_get C inG7 _ (hO7 g σ2) rfl 5 (Nat.le_of_ble_eq_true rfl) mf_7_34 rfl rfl dX7_readWord_91 ?_
      refine kw_getsN C (fun _ h => h.2.2.2.2.2) dX7_readWord_94 ?_
      refine kw_getsN C (fun _ h => h.2.2.2.2.2) dX7_readWord_97 ?_
      refine kw_tlen C dX7_readWord_100 ?_
      obtain ⟨r18, hc17, hf⟩ := bd_elim hf
      refine kw_callNI C [.int (gI σ2 10 5), .ref t0, .int (19 : Int32)] (kX9_placeOf_w L D g t0 (gI σ2 10 5) (19 : Int32) σ2 _ hc17) "BidLines" (fun _ h => h.2.2.2.2.1) (GT_c mcode_X9_placeOf (fun _ h => h)) mi_X9 mst_X9_placeOf ⟨rfl, rfl⟩ dd_X9_placeOf.2 ⟨Nat.le_of_ble_eq_true rfl, Nat.le_of_ble_eq_true rfl⟩ rfl (Nat.le_of_ble_eq_true rfl) dX7_readWord_101 ?_
      exact kJ7 _ hf
    · have hf := if_n c16 hf
      refine kw_iconst C (-1 : Int32) dX7_readWord_86 rfl ?_
      refine kw_goto C 104 dX7_readWord_87 rfl ?_
      exact kJ7 _ hf
  refine kw_icmp_ge C 80 dX7_readWord_10 rfl (fun c19 => ?_) (fun c19 => ?_)
  · have hf := if_p c19 hf
    exact kJ5 _ hf
  · have hf := if_n c19 hf
    refine kw_aload_n C dX7_readWord_13 rfl 0 rfl ?_
    refine kw_get C inG7 _ (hO7 g σ2) rfl 0 (Nat.le_of_ble_eq_true rfl) mf_7_9 rfl rfl dX7_readWord_14 ?_
    refine kw_aload_n C dX7_readWord_17 rfl 0 rfl ?_
    refine kw_get C inG7 _ (hO7 g σ2) rfl 2 (Nat.le_of_ble_eq_true rfl) mf_7_25 rfl rfl dX7_readWord_18 ?_
    obtain ⟨h20, hf⟩ := gd_elim hf
    refine kw_bald C _ 1 (hA9_0 g σ2) rfl h20 dX7_readWord_21 ?_
    obtain ⟨r22, hc21, hf⟩ := bd_elim hf
    refine kw_callSI C [.int (gA σ2 0 0 (Int32.toNatClampNeg (gI σ2 10 2)))] (kX7_isLetter L D g t0 (gA σ2 0 0 (Int32.toNatClampNeg (gI σ2 10 2))) σ2 _ hc21) mS_X7_40 ⟨rfl, rfl⟩ dd_X7_isLetter ⟨Nat.le_of_ble_eq_true rfl, Nat.le_of_ble_eq_true rfl⟩ rfl (Nat.le_of_ble_eq_true rfl) dX7_readWord_22 ?_
    refine kw_if_eq C 80 dX7_readWord_25 rfl (fun c23 => ?_) (fun c23 => ?_)
    · have hf := if_p c23 hf
      exact kJ5 _ hf
    · have hf := if_n c23 hf
      refine kw_iload_n C dX7_readWord_28 rfl 1 rfl ?_
      refine kw_bipush C (6 : Int32) dX7_readWord_29 rfl ?_
      obtain ⟨J25, hJ25, hf⟩ := jnx1_elim hf
      have kJ25 : ∀ (σ24 : St), J25 σ24 = some σ0 → KW X σ24 64 [(0, .ref (g.1 10)), (1, .int x1)] [] := by
        clear hf
        intro σ24 hf
        have hf := (hJ25 σ24).symm.trans hf
        obtain ⟨x26, ex26, hf⟩ := lt_elim hf
        refine kw_iinc C x26 dX7_readWord_64 1 rfl ex26.symm hN (Nat.le_of_ble_eq_true rfl) [(1, .int x26), (0, .ref (g.1 10))] rfl ?_
        refine kw_aload_n C dX7_readWord_67 rfl 1 rfl ?_
        refine kw_dup C dX7_readWord_68 rfl ?_
        refine kw_get C inG7 _ (hO7 g σ24) rfl 2 (Nat.le_of_ble_eq_true rfl) mf_7_25 rfl rfl dX7_readWord_69 ?_
        refine kw_iconst C (1 : Int32) dX7_readWord_72 rfl ?_
        refine kw_iadd C dX7_readWord_73 ?_
        obtain ⟨σ27, eσ27, hf⟩ := lt_elim hf
        refine kw_put C inG7 tyX7 tyX7_ok nmX7 _ (hO7 g σ24) rfl 2 (Nat.le_of_ble_eq_true rfl) mf_7_25 rfl rfl (tyX7_ok 2 (Nat.le_of_ble_eq_true rfl)) rfl rfl (Nat.le_of_ble_eq_true rfl) ((hF7_2 g σ24 _).trans (congrArg (wB g) eσ27.symm)) dX7_readWord_74 ?_
        refine kw_goto C 2 dX7_readWord_77 rfl ?_
        refine kw_sub [1, 0] _ rfl ?_
        exact ih4 _ _ hf
      refine kw_icmp_ge C 64 dX7_readWord_31 rfl (fun c28 => ?_) (fun c28 => ?_)
      · have hf := if_p c28 hf
        exact kJ25 _ hf
      · have hf := if_n c28 hf
        refine kw_aload_n C dX7_readWord_34 rfl 0 rfl ?_
        refine kw_dup C dX7_readWord_35 rfl ?_
        refine kw_get C inG7 _ (hO7 g σ2) rfl 5 (Nat.le_of_ble_eq_true rfl) mf_7_34 rfl rfl dX7_readWord_36 ?_
        refine kw_aload_n C dX7_readWord_39 rfl 0 rfl ?_
        refine kw_get C inG7 _ (hO7 g σ2) rfl 0 (Nat.le_of_ble_eq_true rfl) mf_7_9 rfl rfl dX7_readWord_40 ?_
        refine kw_aload_n C dX7_readWord_43 rfl 0 rfl ?_
        refine kw_get C inG7 _ (hO7 g σ2) rfl 2 (Nat.le_of_ble_eq_true rfl) mf_7_25 rfl rfl dX7_readWord_44 ?_
        obtain ⟨h29, hf⟩ := gd_elim hf
        refine kw_bald C _ 1 (hA9_0 g σ2) rfl h29 dX7_readWord_47 ?_
        refine kw_bipush C (97 : Int32) dX7_readWord_48 rfl ?_
        refine kw_isub C dX7_readWord_50 ?_
        refine kw_iconst C (1 : Int32) dX7_readWord_51 rfl ?_
        refine kw_iadd C dX7_readWord_52 ?_
        refine kw_bipush C (25 : Int32) dX7_readWord_53 rfl ?_
        refine kw_iconst C (5 : Int32) dX7_readWord_55 rfl ?_
        refine kw_iload_n C dX7_readWord_56 rfl 1 rfl ?_
        refine kw_imul C dX7_readWord_57 ?_
        refine kw_isub C dX7_readWord_58 ?_
        refine kw_ishl C dX7_readWord_59 ?_
        refine kw_ior C dX7_readWord_60 ?_
        obtain ⟨σ30, eσ30, hf⟩ := lt_elim hf
        refine kw_put C inG7 tyX7 tyX7_ok nmX7 _ (hO7 g σ2) rfl 5 (Nat.le_of_ble_eq_true rfl) mf_7_34 rfl rfl (tyX7_ok 5 (Nat.le_of_ble_eq_true rfl)) rfl rfl (Nat.le_of_ble_eq_true rfl) ((hF7_5 g σ2 _).trans (congrArg (wB g) eσ30.symm)) dX7_readWord_61 ?_
        exact kJ25 _ hf
set_option maxRecDepth 100000 in
set_option maxHeartbeats 4000000 in
theorem kX7_advance (L : Launch) (D : va_G) (g : GwT) (t0 : Nat) (σ : St) (σ0 : St) (hf : fX7_advance σ  = some σ0) : CtV L D (ttG g) (wB g) t0 yX7_advance cX7_advance 1 none { frames := 2, cells := 0, slots := 0, locals := 45 } [.ref (g.1 10)] σ σ0 := by
  refine CtV.of (own := RX7) (by decide) rfl (Nat.le_of_ble_eq_true rfl) [(0, .ref (g.1 10))] rfl ?_
  intro X C hN K
  unfold fX7_advance at hf
  refine lpx1_walk (P := fun (σ1 : St) => KW X σ1 0 [(0, .ref (g.1 10))] []) ?_ FU _ hf
  intro self2 σ1 ih3 hf
  refine kw_aload_n C dX7_advance_0 rfl 0 rfl ?_
  refine kw_get C inG7 _ (hO7 g σ1) rfl 2 (Nat.le_of_ble_eq_true rfl) mf_7_25 rfl rfl dX7_advance_1 ?_
  refine kw_aload_n C dX7_advance_4 rfl 0 rfl ?_
  refine kw_get C inG7 _ (hO7 g σ1) rfl 1 (Nat.le_of_ble_eq_true rfl) mf_7_21 rfl rfl dX7_advance_5 ?_
  obtain ⟨J4, hJ4, hf⟩ := jnx1_elim hf
  have kJ4 : ∀ (u9 : Unit), J4 u9 = some σ0 → KW X σ1 52 [(0, .ref (g.1 10))] [] := by
    clear hf
    intro u9 hf
    have hf := (hJ4 u9).symm.trans hf
    refine kw_aload_n C dX7_advance_52 rfl 0 rfl ?_
    refine kw_aload_n C dX7_advance_53 rfl 0 rfl ?_
    refine kw_get C inG7 _ (hO7 g σ1) rfl 2 (Nat.le_of_ble_eq_true rfl) mf_7_25 rfl rfl dX7_advance_54 ?_
    obtain ⟨σ5, eσ5, hf⟩ := lt_elim hf
    refine kw_put C inG7 tyX7 tyX7_ok nmX7 _ (hO7 g σ1) rfl 4 (Nat.le_of_ble_eq_true rfl) mf_7_31 rfl rfl (tyX7_ok 4 (Nat.le_of_ble_eq_true rfl)) rfl rfl (Nat.le_of_ble_eq_true rfl) ((hF7_4 g σ1 _).trans (congrArg (wB g) eσ5.symm)) dX7_advance_57 ?_
    refine kw_aload_n C dX7_advance_60 rfl 0 rfl ?_
    refine kw_iconst C (0 : Int32) dX7_advance_61 rfl ?_
    obtain ⟨σ6, eσ6, hf⟩ := lt_elim hf
    refine kw_put C inG7 tyX7 tyX7_ok nmX7 _ (hO7 g σ5) rfl 5 (Nat.le_of_ble_eq_true rfl) mf_7_34 rfl rfl (tyX7_ok 5 (Nat.le_of_ble_eq_true rfl)) rfl rfl (Nat.le_of_ble_eq_true rfl) ((hF7_5 g σ5 _).trans (congrArg (wB g) eσ6.symm)) dX7_advance_62 ?_
    refine kw_aload_n C dX7_advance_65 rfl 0 rfl ?_
    refine kw_get C inG7 _ (hO7 g σ6) rfl 2 (Nat.le_of_ble_eq_true rfl) mf_7_25 rfl rfl dX7_advance_66 ?_
    refine kw_aload_n C dX7_advance_69 rfl 0 rfl ?_
    refine kw_get C inG7 _ (hO7 g σ6) rfl 1 (Nat.le_of_ble_eq_true rfl) mf_7_21 rfl rfl dX7_advance_70 ?_
    obtain ⟨J8, hJ8, hf⟩ := jnx1_elim hf
    have kJ8 : ∀ (σ7 : St), J8 σ7 = some σ0 → KW X σ7 142 [] [] := by
      clear hf
      intro σ7 hf
      have hf := (hJ8 σ7).symm.trans hf
      exact kw_vret (u9 := ()) C K dX7_advance_142 hf
    refine kw_icmp_lt C 85 dX7_advance_73 rfl (fun c9 => ?_) (fun c9 => ?_)
    · have hf := if_p c9 hf
      refine kw_aload_n C dX7_advance_85 rfl 0 rfl ?_
      refine kw_get C inG7 _ (hO7 g σ6) rfl 0 (Nat.le_of_ble_eq_true rfl) mf_7_9 rfl rfl dX7_advance_86 ?_
      refine kw_aload_n C dX7_advance_89 rfl 0 rfl ?_
      refine kw_get C inG7 _ (hO7 g σ6) rfl 2 (Nat.le_of_ble_eq_true rfl) mf_7_25 rfl rfl dX7_advance_90 ?_
      obtain ⟨h10, hf⟩ := gd_elim hf
      refine kw_bald C _ 1 (hA9_0 g σ6) rfl h10 dX7_advance_93 ?_
      obtain ⟨r12, hc11, hf⟩ := bd_elim hf
      refine kw_callSI C [.int (gA σ6 0 0 (Int32.toNatClampNeg (gI σ6 10 2)))] (kX7_isLetter L D g t0 (gA σ6 0 0 (Int32.toNatClampNeg (gI σ6 10 2))) σ6 _ hc11) mS_X7_40 ⟨rfl, rfl⟩ dd_X7_isLetter ⟨Nat.le_of_ble_eq_true rfl, Nat.le_of_ble_eq_true rfl⟩ rfl (Nat.le_of_ble_eq_true rfl) dX7_advance_94 ?_
      refine kw_if_eq C 107 dX7_advance_97 rfl (fun c13 => ?_) (fun c13 => ?_)
      · have hf := if_p c13 hf
        refine kw_aload_n C dX7_advance_107 rfl 0 rfl ?_
        refine kw_get C inG7 _ (hO7 g σ6) rfl 0 (Nat.le_of_ble_eq_true rfl) mf_7_9 rfl rfl dX7_advance_108 ?_
        refine kw_aload_n C dX7_advance_111 rfl 0 rfl ?_
        refine kw_get C inG7 _ (hO7 g σ6) rfl 2 (Nat.le_of_ble_eq_true rfl) mf_7_25 rfl rfl dX7_advance_112 ?_
        obtain ⟨h14, hf⟩ := gd_elim hf
        refine kw_bald C _ 1 (hA9_0 g σ6) rfl h14 dX7_advance_115 ?_
        obtain ⟨r16, hc15, hf⟩ := bd_elim hf
        refine kw_callSI C [.int (gA σ6 0 0 (Int32.toNatClampNeg (gI σ6 10 2)))] (kX7_isDigit L D g t0 (gA σ6 0 0 (Int32.toNatClampNeg (gI σ6 10 2))) σ6 _ hc15) mS_X7_47 ⟨rfl, rfl⟩ dd_X7_isDigit ⟨Nat.le_of_ble_eq_true rfl, Nat.le_of_ble_eq_true rfl⟩ rfl (Nat.le_of_ble_eq_true rfl) dX7_advance_116 ?_
        refine kw_if_eq C 129 dX7_advance_119 rfl (fun c17 => ?_) (fun c17 => ?_)
        · have hf := if_p c17 hf
          refine kw_aload_n C dX7_advance_129 rfl 0 rfl ?_
          refine kw_aload_n C dX7_advance_130 rfl 0 rfl ?_
          refine kw_get C inG7 _ (hO7 g σ6) rfl 0 (Nat.le_of_ble_eq_true rfl) mf_7_9 rfl rfl dX7_advance_131 ?_
          refine kw_aload_n C dX7_advance_134 rfl 0 rfl ?_
          refine kw_get C inG7 _ (hO7 g σ6) rfl 2 (Nat.le_of_ble_eq_true rfl) mf_7_25 rfl rfl dX7_advance_135 ?_
          obtain ⟨h18, hf⟩ := gd_elim hf
          refine kw_bald C _ 1 (hA9_0 g σ6) rfl h18 dX7_advance_138 ?_
          obtain ⟨σ20, hc19, hf⟩ := bV_elim hf
          refine kw_callVV C [.int (gA σ6 0 0 (Int32.toNatClampNeg (gI σ6 10 2)))] (kX7_readSign L D g t0 (gA σ6 0 0 (Int32.toNatClampNeg (gI σ6 10 2))) σ6 _ hc19) RX7 mV_X7_53 ⟨rfl, rfl⟩ dd_X7_readSign ⟨Nat.le_of_ble_eq_true rfl, Nat.le_of_ble_eq_true rfl⟩ _ (hO7 g σ6) rfl rfl rfl (Nat.le_of_ble_eq_true rfl) dX7_advance_139 ?_
          refine kw_sub [] _ rfl ?_
          exact kJ8 _ hf
        · have hf := if_n c17 hf
          refine kw_aload_n C dX7_advance_122 rfl 0 rfl ?_
          obtain ⟨σ22, hc21, hf⟩ := bV_elim hf
          refine kw_callVV C [] (kX7_readNumber L D g t0 σ6 _ hc21) RX7 mV_X7_50 ⟨rfl, rfl⟩ dd_X7_readNumber ⟨Nat.le_of_ble_eq_true rfl, Nat.le_of_ble_eq_true rfl⟩ _ (hO7 g σ6) rfl rfl rfl (Nat.le_of_ble_eq_true rfl) dX7_advance_123 ?_
          refine kw_goto C 142 dX7_advance_126 rfl ?_
          refine kw_sub [] _ rfl ?_
          exact kJ8 _ hf
      · have hf := if_n c13 hf
        refine kw_aload_n C dX7_advance_100 rfl 0 rfl ?_
        obtain ⟨σ24, hc23, hf⟩ := bV_elim hf
        refine kw_callVV C [] (kX7_readWord L D g t0 σ6 _ hc23) RX7 mV_X7_44 ⟨rfl, rfl⟩ dd_X7_readWord ⟨Nat.le_of_ble_eq_true rfl, Nat.le_of_ble_eq_true rfl⟩ _ (hO7 g σ6) rfl rfl rfl (Nat.le_of_ble_eq_true rfl) dX7_advance_101 ?_
        refine kw_goto C 142 dX7_advance_104 rfl ?_
        refine kw_sub [] _ rfl ?_
        exact kJ8 _ hf
    · have hf := if_n c9 hf
      refine kw_aload_n C dX7_advance_76 rfl 0 rfl ?_
      refine kw_bipush C (21 : Int32) dX7_advance_77 rfl ?_
      obtain ⟨σ25, eσ25, hf⟩ := lt_elim hf
      refine kw_put C inG7 tyX7 tyX7_ok nmX7 _ (hO7 g σ6) rfl 3 (Nat.le_of_ble_eq_true rfl) mf_7_37 rfl rfl (tyX7_ok 3 (Nat.le_of_ble_eq_true rfl)) rfl rfl (Nat.le_of_ble_eq_true rfl) ((hF7_3 g σ6 _).trans (congrArg (wB g) eσ25.symm)) dX7_advance_79 ?_
      refine kw_goto C 142 dX7_advance_82 rfl ?_
      refine kw_sub [] _ rfl ?_
      exact kJ8 _ hf
  refine kw_icmp_ge C 52 dX7_advance_8 rfl (fun c26 => ?_) (fun c26 => ?_)
  · have hf := if_p c26 hf
    exact kJ4 _ hf
  · have hf := if_n c26 hf
    refine kw_aload_n C dX7_advance_11 rfl 0 rfl ?_
    refine kw_get C inG7 _ (hO7 g σ1) rfl 0 (Nat.le_of_ble_eq_true rfl) mf_7_9 rfl rfl dX7_advance_12 ?_
    refine kw_aload_n C dX7_advance_15 rfl 0 rfl ?_
    refine kw_get C inG7 _ (hO7 g σ1) rfl 2 (Nat.le_of_ble_eq_true rfl) mf_7_25 rfl rfl dX7_advance_16 ?_
    obtain ⟨h27, hf⟩ := gd_elim hf
    refine kw_bald C _ 1 (hA9_0 g σ1) rfl h27 dX7_advance_19 ?_
    refine kw_bipush C (32 : Int32) dX7_advance_20 rfl ?_
    obtain ⟨J28, hJ28, hf⟩ := jnx1_elim hf
    have kJ28 : ∀ (u9 : Unit), J28 u9 = some σ0 → KW X σ1 39 [(0, .ref (g.1 10))] [] := by
      clear hf
      intro u9 hf
      have hf := (hJ28 u9).symm.trans hf
      refine kw_aload_n C dX7_advance_39 rfl 0 rfl ?_
      refine kw_dup C dX7_advance_40 rfl ?_
      refine kw_get C inG7 _ (hO7 g σ1) rfl 2 (Nat.le_of_ble_eq_true rfl) mf_7_25 rfl rfl dX7_advance_41 ?_
      refine kw_iconst C (1 : Int32) dX7_advance_44 rfl ?_
      refine kw_iadd C dX7_advance_45 ?_
      obtain ⟨σ29, eσ29, hf⟩ := lt_elim hf
      refine kw_put C inG7 tyX7 tyX7_ok nmX7 _ (hO7 g σ1) rfl 2 (Nat.le_of_ble_eq_true rfl) mf_7_25 rfl rfl (tyX7_ok 2 (Nat.le_of_ble_eq_true rfl)) rfl rfl (Nat.le_of_ble_eq_true rfl) ((hF7_2 g σ1 _).trans (congrArg (wB g) eσ29.symm)) dX7_advance_46 ?_
      refine kw_goto C 0 dX7_advance_49 rfl ?_
      exact ih3 _ hf
    refine kw_icmp_eq C 39 dX7_advance_22 rfl (fun c30 => ?_) (fun c30 => ?_)
    · have hf := if_p c30 hf
      exact kJ28 _ hf
    · have hf := if_n c30 hf
      refine kw_aload_n C dX7_advance_25 rfl 0 rfl ?_
      refine kw_get C inG7 _ (hO7 g σ1) rfl 0 (Nat.le_of_ble_eq_true rfl) mf_7_9 rfl rfl dX7_advance_26 ?_
      refine kw_aload_n C dX7_advance_29 rfl 0 rfl ?_
      refine kw_get C inG7 _ (hO7 g σ1) rfl 2 (Nat.le_of_ble_eq_true rfl) mf_7_25 rfl rfl dX7_advance_30 ?_
      obtain ⟨h31, hf⟩ := gd_elim hf
      refine kw_bald C _ 1 (hA9_0 g σ1) rfl h31 dX7_advance_33 ?_
      refine kw_bipush C (10 : Int32) dX7_advance_34 rfl ?_
      refine kw_icmp_ne C 52 dX7_advance_36 rfl (fun c32 => ?_) (fun c32 => ?_)
      · have hf := if_n c32 hf
        exact kJ4 _ hf
      · have hf := if_p c32 hf
        exact kJ28 _ hf
set_option maxRecDepth 100000 in
set_option maxHeartbeats 4000000 in
theorem kX7_start (L : Launch) (D : va_G) (g : GwT) (t0 : Nat) (p0 : Int32) (σ : St) (σ0 : St) (hf : fX7_start σ p0 = some σ0) : CtV L D (ttG g) (wB g) t0 yX7_start cX7_start 2 none { frames := 3, cells := 0, slots := 0, locals := 65 } [.ref (g.1 10), .int p0] σ σ0 := by
  refine CtV.of (own := RX7) (by decide) rfl (Nat.le_of_ble_eq_true rfl) [(0, .ref (g.1 10)), (1, .int p0)] rfl ?_
  intro X C hN K
  unfold fX7_start at hf
  refine kw_aload_n C dX7_start_0 rfl 0 rfl ?_
  refine kw_iload_n C dX7_start_1 rfl 1 rfl ?_
  refine kw_aload_n C dX7_start_2 rfl 0 rfl ?_
  refine kw_get C inG7 _ (hO7 g σ) rfl 0 (Nat.le_of_ble_eq_true rfl) mf_7_9 rfl rfl dX7_start_3 ?_
  refine kw_alen C _ 1 (hA9_0 g σ) rfl (700 : Int32) rfl dX7_start_6 ?_
  refine kw_mmin C ml_X7_15 mst_min mi_Math mcode_min ⟨Nat.le_of_ble_eq_true rfl, Nat.le_of_ble_eq_true rfl⟩ dX7_start_7 ?_
  obtain ⟨σ1, eσ1, hf⟩ := lt_elim hf
  refine kw_put C inG7 tyX7 tyX7_ok nmX7 _ (hO7 g σ) rfl 1 (Nat.le_of_ble_eq_true rfl) mf_7_21 rfl rfl (tyX7_ok 1 (Nat.le_of_ble_eq_true rfl)) rfl rfl (Nat.le_of_ble_eq_true rfl) ((hF7_1 g σ _).trans (congrArg (wB g) eσ1.symm)) dX7_start_10 ?_
  refine kw_aload_n C dX7_start_13 rfl 0 rfl ?_
  refine kw_iconst C (0 : Int32) dX7_start_14 rfl ?_
  obtain ⟨σ2, eσ2, hf⟩ := lt_elim hf
  refine kw_put C inG7 tyX7 tyX7_ok nmX7 _ (hO7 g σ1) rfl 2 (Nat.le_of_ble_eq_true rfl) mf_7_25 rfl rfl (tyX7_ok 2 (Nat.le_of_ble_eq_true rfl)) rfl rfl (Nat.le_of_ble_eq_true rfl) ((hF7_2 g σ1 _).trans (congrArg (wB g) eσ2.symm)) dX7_start_15 ?_
  refine kw_aload_n C dX7_start_18 rfl 0 rfl ?_
  obtain ⟨σ4, hc3, hf⟩ := bV_elim hf
  refine kw_callVV C [] (kX7_advance L D g t0 σ2 _ hc3) RX7 mV_X7_28 ⟨rfl, rfl⟩ dd_X7_advance ⟨Nat.le_of_ble_eq_true rfl, Nat.le_of_ble_eq_true rfl⟩ _ (hO7 g σ2) rfl rfl rfl (Nat.le_of_ble_eq_true rfl) dX7_start_19 ?_
  exact kw_vret (u9 := ()) C K dX7_start_22 hf
set_option maxRecDepth 100000 in
set_option maxHeartbeats 4000000 in
theorem kX1_begin (L : Launch) (D : va_G) (g : GwT) (t0 : Nat) (σ : St) (σ0 : St) (hf : fX1_begin σ  = some σ0) : CtV L D (ttG g) (wB g) t0 yX1_begin cX1_begin 1 none { frames := 0, cells := 0, slots := 0, locals := 0 } [.ref (g.1 11)] σ σ0 := by
  refine CtV.of (own := RX1) (by decide) rfl (Nat.le_of_ble_eq_true rfl) [(0, .ref (g.1 11))] rfl ?_
  intro X C hN K
  unfold fX1_begin at hf
  refine kw_aload_n C dX1_begin_0 rfl 0 rfl ?_
  refine kw_iconst C (0 : Int32) dX1_begin_1 rfl ?_
  obtain ⟨σ1, eσ1, hf⟩ := lt_elim hf
  refine kw_put C inG1 tyX1 tyX1_ok nmX1 _ (hO1 g σ) rfl 8 (Nat.le_of_ble_eq_true rfl) mf_1_23 rfl rfl (tyX1_ok 8 (Nat.le_of_ble_eq_true rfl)) rfl rfl (Nat.le_of_ble_eq_true rfl) ((hF1_8 g σ _).trans (congrArg (wB g) eσ1.symm)) dX1_begin_2 ?_
  exact kw_vret (u9 := ()) C K dX1_begin_5 hf
set_option maxRecDepth 100000 in
set_option maxHeartbeats 4000000 in
theorem kX1_rankOf (L : Launch) (D : va_G) (g : GwT) (t0 : Nat) (p0 : Int32) (σ : St) (r0 : Int32) (hf : fX1_rankOf σ p0 = some r0) : CtI L D (ttG g) (wB g) t0 yX1_rankOf cX1_rankOf 1 (some .int) { frames := 0, cells := 0, slots := 0, locals := 0 } [.int p0] σ r0 σ := by
  refine CtI.of (own := RX1) (by decide) rfl (Nat.le_of_ble_eq_true rfl) [(0, .int p0)] rfl ?_
  intro X C hN K
  unfold fX1_rankOf at hf
  refine kw_iload_n C dX1_rankOf_0 rfl 0 rfl ?_
  obtain ⟨J1, hJ1, hf⟩ := jnx1_elim hf
  have kJ1 : ∀ (u9 : Unit), J1 u9 = some r0 → KW X σ 137 [] [] := by
    clear hf
    intro u9 hf
    have hf := (hJ1 u9).symm.trans hf
    refine kw_iconst C (0 : Int32) dX1_rankOf_137 rfl ?_
    exact kw_iret C K dX1_rankOf_138 (pr_ret hf)
  obtain ⟨J2, hJ2, hf⟩ := jnx1_elim hf
  have kJ2 : ∀ (u9 : Unit), J2 u9 = some r0 → KW X σ 130 [] [] := by
    clear hf
    intro u9 hf
    have hf := (hJ2 u9).symm.trans hf
    refine kw_iconst C (4 : Int32) dX1_rankOf_130 rfl ?_
    exact kw_iret C K dX1_rankOf_131 (pr_ret hf)
  obtain ⟨J3, hJ3, hf⟩ := jnx1_elim hf
  have kJ3 : ∀ (u9 : Unit), J3 u9 = some r0 → KW X σ 132 [] [] := by
    clear hf
    intro u9 hf
    have hf := (hJ3 u9).symm.trans hf
    refine kw_iconst C (5 : Int32) dX1_rankOf_132 rfl ?_
    exact kw_iret C K dX1_rankOf_133 (pr_ret hf)
  obtain ⟨J4, hJ4, hf⟩ := jnx1_elim hf
  have kJ4 : ∀ (u9 : Unit), J4 u9 = some r0 → KW X σ 134 [] [] := by
    clear hf
    intro u9 hf
    have hf := (hJ4 u9).symm.trans hf
    refine kw_bipush C (6 : Int32) dX1_rankOf_134 rfl ?_
    exact kw_iret C K dX1_rankOf_136 (pr_ret hf)
  by_cases c5 : p0 = (9 : Int32)
  · have hf := if_p c5 hf
    refine kw_tabIn C 124 dX1_rankOf_1 c5 (by decide) (by decide) rfl rfl ?_
    refine kw_iconst C (1 : Int32) dX1_rankOf_124 rfl ?_
    exact kw_iret C K dX1_rankOf_125 (pr_ret hf)
  have hf := if_n c5 hf
  by_cases c6 : p0 = (10 : Int32)
  · have hf := if_p c6 hf
    refine kw_tabIn C 126 dX1_rankOf_1 c6 (by decide) (by decide) rfl rfl ?_
    refine kw_iconst C (2 : Int32) dX1_rankOf_126 rfl ?_
    exact kw_iret C K dX1_rankOf_127 (pr_ret hf)
  have hf := if_n c6 hf
  by_cases c7 : p0 = (11 : Int32)
  · have hf := if_p c7 hf
    refine kw_tabIn C 128 dX1_rankOf_1 c7 (by decide) (by decide) rfl rfl ?_
    refine kw_iconst C (3 : Int32) dX1_rankOf_128 rfl ?_
    exact kw_iret C K dX1_rankOf_129 (pr_ret hf)
  have hf := if_n c7 hf
  by_cases c8 : p0 = (12 : Int32)
  · have hf := if_p c8 hf
    refine kw_tabIn C 137 dX1_rankOf_1 c8 (by decide) (by decide) rfl rfl ?_
    refine kw_sub [] _ rfl ?_
    exact kJ1 _ hf
  have hf := if_n c8 hf
  by_cases c9 : p0 = (13 : Int32)
  · have hf := if_p c9 hf
    refine kw_tabIn C 137 dX1_rankOf_1 c9 (by decide) (by decide) rfl rfl ?_
    refine kw_sub [] _ rfl ?_
    exact kJ1 _ hf
  have hf := if_n c9 hf
  by_cases c10 : p0 = (14 : Int32)
  · have hf := if_p c10 hf
    refine kw_tabIn C 137 dX1_rankOf_1 c10 (by decide) (by decide) rfl rfl ?_
    refine kw_sub [] _ rfl ?_
    exact kJ1 _ hf
  have hf := if_n c10 hf
  by_cases c11 : p0 = (15 : Int32)
  · have hf := if_p c11 hf
    refine kw_tabIn C 137 dX1_rankOf_1 c11 (by decide) (by decide) rfl rfl ?_
    refine kw_sub [] _ rfl ?_
    exact kJ1 _ hf
  have hf := if_n c11 hf
  by_cases c12 : p0 = (16 : Int32)
  · have hf := if_p c12 hf
    refine kw_tabIn C 137 dX1_rankOf_1 c12 (by decide) (by decide) rfl rfl ?_
    refine kw_sub [] _ rfl ?_
    exact kJ1 _ hf
  have hf := if_n c12 hf
  by_cases c13 : p0 = (17 : Int32)
  · have hf := if_p c13 hf
    refine kw_tabIn C 137 dX1_rankOf_1 c13 (by decide) (by decide) rfl rfl ?_
    refine kw_sub [] _ rfl ?_
    exact kJ1 _ hf
  have hf := if_n c13 hf
  by_cases c14 : p0 = (18 : Int32)
  · have hf := if_p c14 hf
    refine kw_tabIn C 137 dX1_rankOf_1 c14 (by decide) (by decide) rfl rfl ?_
    refine kw_sub [] _ rfl ?_
    exact kJ1 _ hf
  have hf := if_n c14 hf
  by_cases c15 : p0 = (19 : Int32)
  · have hf := if_p c15 hf
    refine kw_tabIn C 137 dX1_rankOf_1 c15 (by decide) (by decide) rfl rfl ?_
    refine kw_sub [] _ rfl ?_
    exact kJ1 _ hf
  have hf := if_n c15 hf
  by_cases c16 : p0 = (20 : Int32)
  · have hf := if_p c16 hf
    refine kw_tabIn C 137 dX1_rankOf_1 c16 (by decide) (by decide) rfl rfl ?_
    refine kw_sub [] _ rfl ?_
    exact kJ1 _ hf
  have hf := if_n c16 hf
  by_cases c17 : p0 = (21 : Int32)
  · have hf := if_p c17 hf
    refine kw_tabIn C 137 dX1_rankOf_1 c17 (by decide) (by decide) rfl rfl ?_
    refine kw_sub [] _ rfl ?_
    exact kJ1 _ hf
  have hf := if_n c17 hf
  by_cases c18 : p0 = (22 : Int32)
  · have hf := if_p c18 hf
    refine kw_tabIn C 137 dX1_rankOf_1 c18 (by decide) (by decide) rfl rfl ?_
    refine kw_sub [] _ rfl ?_
    exact kJ1 _ hf
  have hf := if_n c18 hf
  by_cases c19 : p0 = (23 : Int32)
  · have hf := if_p c19 hf
    refine kw_tabIn C 137 dX1_rankOf_1 c19 (by decide) (by decide) rfl rfl ?_
    refine kw_sub [] _ rfl ?_
    exact kJ1 _ hf
  have hf := if_n c19 hf
  by_cases c20 : p0 = (24 : Int32)
  · have hf := if_p c20 hf
    refine kw_tabIn C 137 dX1_rankOf_1 c20 (by decide) (by decide) rfl rfl ?_
    refine kw_sub [] _ rfl ?_
    exact kJ1 _ hf
  have hf := if_n c20 hf
  by_cases c21 : p0 = (25 : Int32)
  · have hf := if_p c21 hf
    refine kw_tabIn C 137 dX1_rankOf_1 c21 (by decide) (by decide) rfl rfl ?_
    refine kw_sub [] _ rfl ?_
    exact kJ1 _ hf
  have hf := if_n c21 hf
  by_cases c22 : p0 = (26 : Int32)
  · have hf := if_p c22 hf
    refine kw_tabIn C 130 dX1_rankOf_1 c22 (by decide) (by decide) rfl rfl ?_
    refine kw_sub [] _ rfl ?_
    exact kJ2 _ hf
  have hf := if_n c22 hf
  by_cases c23 : p0 = (27 : Int32)
  · have hf := if_p c23 hf
    refine kw_tabIn C 130 dX1_rankOf_1 c23 (by decide) (by decide) rfl rfl ?_
    refine kw_sub [] _ rfl ?_
    exact kJ2 _ hf
  have hf := if_n c23 hf
  by_cases c24 : p0 = (28 : Int32)
  · have hf := if_p c24 hf
    refine kw_tabIn C 130 dX1_rankOf_1 c24 (by decide) (by decide) rfl rfl ?_
    refine kw_sub [] _ rfl ?_
    exact kJ2 _ hf
  have hf := if_n c24 hf
  by_cases c25 : p0 = (29 : Int32)
  · have hf := if_p c25 hf
    refine kw_tabIn C 130 dX1_rankOf_1 c25 (by decide) (by decide) rfl rfl ?_
    refine kw_sub [] _ rfl ?_
    exact kJ2 _ hf
  have hf := if_n c25 hf
  by_cases c26 : p0 = (30 : Int32)
  · have hf := if_p c26 hf
    refine kw_tabIn C 130 dX1_rankOf_1 c26 (by decide) (by decide) rfl rfl ?_
    refine kw_sub [] _ rfl ?_
    exact kJ2 _ hf
  have hf := if_n c26 hf
  by_cases c27 : p0 = (31 : Int32)
  · have hf := if_p c27 hf
    refine kw_tabIn C 130 dX1_rankOf_1 c27 (by decide) (by decide) rfl rfl ?_
    refine kw_sub [] _ rfl ?_
    exact kJ2 _ hf
  have hf := if_n c27 hf
  by_cases c28 : p0 = (32 : Int32)
  · have hf := if_p c28 hf
    refine kw_tabIn C 132 dX1_rankOf_1 c28 (by decide) (by decide) rfl rfl ?_
    refine kw_sub [] _ rfl ?_
    exact kJ3 _ hf
  have hf := if_n c28 hf
  by_cases c29 : p0 = (33 : Int32)
  · have hf := if_p c29 hf
    refine kw_tabIn C 132 dX1_rankOf_1 c29 (by decide) (by decide) rfl rfl ?_
    refine kw_sub [] _ rfl ?_
    exact kJ3 _ hf
  have hf := if_n c29 hf
  by_cases c30 : p0 = (34 : Int32)
  · have hf := if_p c30 hf
    refine kw_tabIn C 134 dX1_rankOf_1 c30 (by decide) (by decide) rfl rfl ?_
    refine kw_sub [] _ rfl ?_
    exact kJ4 _ hf
  have hf := if_n c30 hf
  by_cases c31 : p0 = (35 : Int32)
  · have hf := if_p c31 hf
    refine kw_tabIn C 134 dX1_rankOf_1 c31 (by decide) (by decide) rfl rfl ?_
    refine kw_sub [] _ rfl ?_
    exact kJ4 _ hf
  have hf := if_n c31 hf
  have c5_ : p0.toInt ≠ 9 := ne_ti c5
  have c6_ : p0.toInt ≠ 10 := ne_ti c6
  have c7_ : p0.toInt ≠ 11 := ne_ti c7
  have c8_ : p0.toInt ≠ 12 := ne_ti c8
  have c9_ : p0.toInt ≠ 13 := ne_ti c9
  have c10_ : p0.toInt ≠ 14 := ne_ti c10
  have c11_ : p0.toInt ≠ 15 := ne_ti c11
  have c12_ : p0.toInt ≠ 16 := ne_ti c12
  have c13_ : p0.toInt ≠ 17 := ne_ti c13
  have c14_ : p0.toInt ≠ 18 := ne_ti c14
  have c15_ : p0.toInt ≠ 19 := ne_ti c15
  have c16_ : p0.toInt ≠ 20 := ne_ti c16
  have c17_ : p0.toInt ≠ 21 := ne_ti c17
  have c18_ : p0.toInt ≠ 22 := ne_ti c18
  have c19_ : p0.toInt ≠ 23 := ne_ti c19
  have c20_ : p0.toInt ≠ 24 := ne_ti c20
  have c21_ : p0.toInt ≠ 25 := ne_ti c21
  have c22_ : p0.toInt ≠ 26 := ne_ti c22
  have c23_ : p0.toInt ≠ 27 := ne_ti c23
  have c24_ : p0.toInt ≠ 28 := ne_ti c24
  have c25_ : p0.toInt ≠ 29 := ne_ti c25
  have c26_ : p0.toInt ≠ 30 := ne_ti c26
  have c27_ : p0.toInt ≠ 31 := ne_ti c27
  have c28_ : p0.toInt ≠ 32 := ne_ti c28
  have c29_ : p0.toInt ≠ 33 := ne_ti c29
  have c30_ : p0.toInt ≠ 34 := ne_ti c30
  have c31_ : p0.toInt ≠ 35 := ne_ti c31
  refine kw_tabOut C 137 dX1_rankOf_1 (by omega) rfl ?_
  refine kw_sub [] _ rfl ?_
  exact kJ1 _ hf
set_option maxRecDepth 100000 in
set_option maxHeartbeats 4000000 in
theorem kX1_releaseDownTo (L : Launch) (D : va_G) (g : GwT) (t0 : Nat) (p0 : Int32) (σ : St) (σ0 : St) (hf : fX1_releaseDownTo σ p0 = some σ0) : CtV L D (ttG g) (wB g) t0 yX1_releaseDownTo cX1_releaseDownTo 2 none { frames := 1, cells := 0, slots := 0, locals := 22 } [.ref (g.1 11), .int p0] σ σ0 := by
  refine CtV.of (own := RX1) (by decide) rfl (Nat.le_of_ble_eq_true rfl) [(0, .ref (g.1 11)), (1, .int p0)] rfl ?_
  intro X C hN K
  unfold fX1_releaseDownTo at hf
  refine lpx1_walk (P := fun (σ1 : St) => KW X σ1 0 [(0, .ref (g.1 11)), (1, .int p0)] []) ?_ FU _ hf
  intro self2 σ1 ih3 hf
  refine kw_aload_n C dX1_releaseDownTo_0 rfl 0 rfl ?_
  refine kw_get C inG1 _ (hO1 g σ1) rfl 3 (Nat.le_of_ble_eq_true rfl) mf_1_27 rfl rfl dX1_releaseDownTo_1 ?_
  obtain ⟨J4, hJ4, hf⟩ := jnx1_elim hf
  have kJ4 : ∀ (u9 : Unit), J4 u9 = some σ0 → KW X σ1 71 [] [] := by
    clear hf
    intro u9 hf
    have hf := (hJ4 u9).symm.trans hf
    exact kw_vret (u9 := ()) C K dX1_releaseDownTo_71 hf
  refine kw_if_le C 71 dX1_releaseDownTo_4 rfl (fun c5 => ?_) (fun c5 => ?_)
  · have hf := if_p c5 hf
    refine kw_sub [] _ rfl ?_
    exact kJ4 _ hf
  · have hf := if_n c5 hf
    refine kw_aload_n C dX1_releaseDownTo_7 rfl 0 rfl ?_
    refine kw_get C inG1 _ (hO1 g σ1) rfl 2 (Nat.le_of_ble_eq_true rfl) mf_1_9 rfl rfl dX1_releaseDownTo_8 ?_
    refine kw_aload_n C dX1_releaseDownTo_11 rfl 0 rfl ?_
    refine kw_get C inG1 _ (hO1 g σ1) rfl 3 (Nat.le_of_ble_eq_true rfl) mf_1_27 rfl rfl dX1_releaseDownTo_12 ?_
    refine kw_iconst C (1 : Int32) dX1_releaseDownTo_15 rfl ?_
    refine kw_isub C dX1_releaseDownTo_16 ?_
    obtain ⟨h6, hf⟩ := gd_elim hf
    refine kw_iald C _ 0 (hA1_2 g σ1) rfl h6 dX1_releaseDownTo_17 ?_
    refine kw_bipush C (24 : Int32) dX1_releaseDownTo_18 rfl ?_
    refine kw_icmp_eq C 71 dX1_releaseDownTo_20 rfl (fun c7 => ?_) (fun c7 => ?_)
    · have hf := if_p c7 hf
      refine kw_sub [] _ rfl ?_
      exact kJ4 _ hf
    · have hf := if_n c7 hf
      refine kw_aload_n C dX1_releaseDownTo_23 rfl 0 rfl ?_
      refine kw_get C inG1 _ (hO1 g σ1) rfl 2 (Nat.le_of_ble_eq_true rfl) mf_1_9 rfl rfl dX1_releaseDownTo_24 ?_
      refine kw_aload_n C dX1_releaseDownTo_27 rfl 0 rfl ?_
      refine kw_get C inG1 _ (hO1 g σ1) rfl 3 (Nat.le_of_ble_eq_true rfl) mf_1_27 rfl rfl dX1_releaseDownTo_28 ?_
      refine kw_iconst C (1 : Int32) dX1_releaseDownTo_31 rfl ?_
      refine kw_isub C dX1_releaseDownTo_32 ?_
      obtain ⟨h8, hf⟩ := gd_elim hf
      refine kw_iald C _ 0 (hA1_2 g σ1) rfl h8 dX1_releaseDownTo_33 ?_
      obtain ⟨r10, hc9, hf⟩ := bd_elim hf
      refine kw_callSI C [.int (gA σ1 11 2 (Int32.toNatClampNeg ((gI σ1 11 3) - (1 : Int32))))] (kX1_rankOf L D g t0 (gA σ1 11 2 (Int32.toNatClampNeg ((gI σ1 11 3) - (1 : Int32)))) σ1 _ hc9) mS_X1_104 ⟨rfl, rfl⟩ dd_X1_rankOf ⟨Nat.le_of_ble_eq_true rfl, Nat.le_of_ble_eq_true rfl⟩ rfl (Nat.le_of_ble_eq_true rfl) dX1_releaseDownTo_34 ?_
      refine kw_iload_n C dX1_releaseDownTo_37 rfl 1 rfl ?_
      refine kw_icmp_lt C 71 dX1_releaseDownTo_38 rfl (fun c11 => ?_) (fun c11 => ?_)
      · have hf := if_p c11 hf
        refine kw_sub [] _ rfl ?_
        exact kJ4 _ hf
      · have hf := if_n c11 hf
        refine kw_aload_n C dX1_releaseDownTo_41 rfl 0 rfl ?_
        refine kw_dup C dX1_releaseDownTo_42 rfl ?_
        refine kw_get C inG1 _ (hO1 g σ1) rfl 3 (Nat.le_of_ble_eq_true rfl) mf_1_27 rfl rfl dX1_releaseDownTo_43 ?_
        refine kw_iconst C (1 : Int32) dX1_releaseDownTo_46 rfl ?_
        refine kw_isub C dX1_releaseDownTo_47 ?_
        obtain ⟨σ12, eσ12, hf⟩ := lt_elim hf
        refine kw_put C inG1 tyX1 tyX1_ok nmX1 _ (hO1 g σ1) rfl 3 (Nat.le_of_ble_eq_true rfl) mf_1_27 rfl rfl (tyX1_ok 3 (Nat.le_of_ble_eq_true rfl)) rfl rfl (Nat.le_of_ble_eq_true rfl) ((hF1_3 g σ1 _).trans (congrArg (wB g) eσ12.symm)) dX1_releaseDownTo_48 ?_
        refine kw_aload_n C dX1_releaseDownTo_51 rfl 0 rfl ?_
        refine kw_get C inG1 _ (hO1 g σ12) rfl 1 (Nat.le_of_ble_eq_true rfl) mf_1_19 rfl rfl dX1_releaseDownTo_52 ?_
        refine kw_aload_n C dX1_releaseDownTo_55 rfl 0 rfl ?_
        refine kw_get C inG1 _ (hO1 g σ12) rfl 2 (Nat.le_of_ble_eq_true rfl) mf_1_9 rfl rfl dX1_releaseDownTo_56 ?_
        refine kw_aload_n C dX1_releaseDownTo_59 rfl 0 rfl ?_
        refine kw_get C inG1 _ (hO1 g σ12) rfl 3 (Nat.le_of_ble_eq_true rfl) mf_1_27 rfl rfl dX1_releaseDownTo_60 ?_
        obtain ⟨h13, hf⟩ := gd_elim hf
        refine kw_iald C _ 0 (hA1_2 g σ12) rfl h13 dX1_releaseDownTo_63 ?_
        refine kw_iconst C (0 : Int32) dX1_releaseDownTo_64 rfl ?_
        obtain ⟨σ15, hc14, hf⟩ := bV_elim hf
        refine kw_callVV C [.int (gA σ12 11 2 (Int32.toNatClampNeg (gI σ12 11 3))), .int (0 : Int32)] (kX2_add L D g t0 (gR σ12 4) (gA σ12 11 2 (Int32.toNatClampNeg (gI σ12 11 3))) (0 : Int32) σ12 _ hc14) RX2 mV_X1_100 ⟨rfl, rfl⟩ dd_X2_add ⟨Nat.le_of_ble_eq_true rfl, Nat.le_of_ble_eq_true rfl⟩ _ (hO2 g σ12 (gR σ12 4)) rfl rfl rfl (Nat.le_of_ble_eq_true rfl) dX1_releaseDownTo_65 ?_
        refine kw_goto C 0 dX1_releaseDownTo_68 rfl ?_
        exact ih3 _ hf
set_option maxRecDepth 100000 in
set_option maxHeartbeats 4000000 in
theorem kX1_isEnd (L : Launch) (D : va_G) (g : GwT) (t0 : Nat) (σ : St) (r0 : Int32) (hf : fX1_isEnd σ  = some r0) : CtI L D (ttG g) (wB g) t0 yX1_isEnd cX1_isEnd 1 (some .boolean) { frames := 0, cells := 0, slots := 0, locals := 0 } [.ref (g.1 11)] σ r0 σ := by
  refine CtI.of (own := RX1) (by decide) rfl (Nat.le_of_ble_eq_true rfl) [(0, .ref (g.1 11))] rfl ?_
  intro X C hN K
  unfold fX1_isEnd at hf
  refine kw_aload_n C dX1_isEnd_0 rfl 0 rfl ?_
  refine kw_get C inG1 _ (hO1 g σ) rfl 6 (Nat.le_of_ble_eq_true rfl) mf_1_36 rfl rfl dX1_isEnd_1 ?_
  obtain ⟨J2, hJ2, hf⟩ := jnx1_elim hf
  have kJ2 : ∀ (x1 : Int32), J2 x1 = some r0 → KW X σ 31 [] [.int x1] := by
    clear hf
    intro x1 hf
    have hf := (hJ2 x1).symm.trans hf
    obtain ⟨h3, hf⟩ := gd_elim hf
    exact kw_zret C K h3 dX1_isEnd_31 (pr_ret hf)
  obtain ⟨J4, hJ4, hf⟩ := jnx1_elim hf
  have kJ4 : ∀ (u9 : Unit), J4 u9 = some r0 → KW X σ 30 [] [] := by
    clear hf
    intro u9 hf
    have hf := (hJ4 u9).symm.trans hf
    refine kw_iconst C (0 : Int32) dX1_isEnd_30 rfl ?_
    exact kJ2 _ hf
  refine kw_if_ne C 30 dX1_isEnd_4 rfl (fun c5 => ?_) (fun c5 => ?_)
  · have hf := if_n c5 hf
    refine kw_sub [] _ rfl ?_
    exact kJ4 _ hf
  · have hf := if_p c5 hf
    refine kw_aload_n C dX1_isEnd_7 rfl 0 rfl ?_
    refine kw_get C inG1 _ (hO1 g σ) rfl 4 (Nat.le_of_ble_eq_true rfl) mf_1_30 rfl rfl dX1_isEnd_8 ?_
    refine kw_if_ne C 30 dX1_isEnd_11 rfl (fun c6 => ?_) (fun c6 => ?_)
    · have hf := if_n c6 hf
      refine kw_sub [] _ rfl ?_
      exact kJ4 _ hf
    · have hf := if_p c6 hf
      refine kw_aload_n C dX1_isEnd_14 rfl 0 rfl ?_
      refine kw_get C inG1 _ (hO1 g σ) rfl 0 (Nat.le_of_ble_eq_true rfl) mf_1_15 rfl rfl dX1_isEnd_15 ?_
      refine kw_get C inG7 _ (hO7 g σ) rfl 3 (Nat.le_of_ble_eq_true rfl) mf_1_56 rfl rfl dX1_isEnd_18 ?_
      refine kw_bipush C (23 : Int32) dX1_isEnd_21 rfl ?_
      refine kw_icmp_ne C 30 dX1_isEnd_23 rfl (fun c7 => ?_) (fun c7 => ?_)
      · have hf := if_n c7 hf
        refine kw_sub [] _ rfl ?_
        exact kJ4 _ hf
      · have hf := if_p c7 hf
        refine kw_iconst C (1 : Int32) dX1_isEnd_26 rfl ?_
        refine kw_goto C 31 dX1_isEnd_27 rfl ?_
        refine kw_sub [] _ rfl ?_
        exact kJ2 _ hf
set_option maxRecDepth 100000 in
set_option maxHeartbeats 4000000 in
theorem kX9_isWithin (L : Launch) (D : va_G) (g : GwT) (t0 : Nat) (p0 : Int32) (p1 : Int32) (p2 : Int32) (σ : St) (r0 : Int32) (hf : fX9_isWithin σ p0 p1 p2 = some r0) : CtI L D (ttG g) (wB g) t0 yX9_isWithin cX9_isWithin 3 (some .boolean) { frames := 0, cells := 0, slots := 0, locals := 0 } [.int p0, .int p1, .int p2] σ r0 σ := by
  refine CtI.of (own := RX9) (by decide) rfl (Nat.le_of_ble_eq_true rfl) [(0, .int p0), (1, .int p1), (2, .int p2)] rfl ?_
  intro X C hN K
  unfold fX9_isWithin at hf
  refine kw_iload_n C dX9_isWithin_0 rfl 0 rfl ?_
  refine kw_iload_n C dX9_isWithin_1 rfl 1 rfl ?_
  obtain ⟨J2, hJ2, hf⟩ := jnx1_elim hf
  have kJ2 : ∀ (x1 : Int32), J2 x1 = some r0 → KW X σ 15 [] [.int x1] := by
    clear hf
    intro x1 hf
    have hf := (hJ2 x1).symm.trans hf
    obtain ⟨h3, hf⟩ := gd_elim hf
    exact kw_zret C K h3 dX9_isWithin_15 (pr_ret hf)
  obtain ⟨J4, hJ4, hf⟩ := jnx1_elim hf
  have kJ4 : ∀ (u9 : Unit), J4 u9 = some r0 → KW X σ 14 [] [] := by
    clear hf
    intro u9 hf
    have hf := (hJ4 u9).symm.trans hf
    refine kw_iconst C (0 : Int32) dX9_isWithin_14 rfl ?_
    exact kJ2 _ hf
  refine kw_icmp_lt C 14 dX9_isWithin_2 rfl (fun c5 => ?_) (fun c5 => ?_)
  · have hf := if_p c5 hf
    refine kw_sub [] _ rfl ?_
    exact kJ4 _ hf
  · have hf := if_n c5 hf
    refine kw_iload_n C dX9_isWithin_5 rfl 0 rfl ?_
    refine kw_iload_n C dX9_isWithin_6 rfl 2 rfl ?_
    refine kw_icmp_gt C 14 dX9_isWithin_7 rfl (fun c6 => ?_) (fun c6 => ?_)
    · have hf := if_p c6 hf
      refine kw_sub [] _ rfl ?_
      exact kJ4 _ hf
    · have hf := if_n c6 hf
      refine kw_iconst C (1 : Int32) dX9_isWithin_10 rfl ?_
      refine kw_goto C 15 dX9_isWithin_11 rfl ?_
      refine kw_sub [] _ rfl ?_
      exact kJ2 _ hf
set_option maxRecDepth 100000 in
set_option maxHeartbeats 4000000 in
theorem kX1_meetKnot (L : Launch) (D : va_G) (g : GwT) (t0 : Nat) (σ : St) (r0 : Int32) (σ0 : St) (hf : fX1_meetKnot σ  = some (r0, σ0)) : CtI L D (ttG g) (wB g) t0 yX1_meetKnot cX1_meetKnot 1 (some .boolean) { frames := 0, cells := 0, slots := 0, locals := 0 } [.ref (g.1 11)] σ r0 σ0 := by
  refine CtI.of (own := RX1) (by decide) rfl (Nat.le_of_ble_eq_true rfl) [(0, .ref (g.1 11))] rfl ?_
  intro X C hN K
  unfold fX1_meetKnot at hf
  refine kw_aload_n C dX1_meetKnot_0 rfl 0 rfl ?_
  refine kw_dup C dX1_meetKnot_1 rfl ?_
  refine kw_get C inG1 _ (hO1 g σ) rfl 8 (Nat.le_of_ble_eq_true rfl) mf_1_23 rfl rfl dX1_meetKnot_2 ?_
  refine kw_iconst C (1 : Int32) dX1_meetKnot_5 rfl ?_
  refine kw_iadd C dX1_meetKnot_6 ?_
  obtain ⟨σ1, eσ1, hf⟩ := lt_elim hf
  refine kw_put C inG1 tyX1 tyX1_ok nmX1 _ (hO1 g σ) rfl 8 (Nat.le_of_ble_eq_true rfl) mf_1_23 rfl rfl (tyX1_ok 8 (Nat.le_of_ble_eq_true rfl)) rfl rfl (Nat.le_of_ble_eq_true rfl) ((hF1_8 g σ _).trans (congrArg (wB g) eσ1.symm)) dX1_meetKnot_7 ?_
  refine kw_aload_n C dX1_meetKnot_10 rfl 0 rfl ?_
  refine kw_get C inG1 _ (hO1 g σ1) rfl 8 (Nat.le_of_ble_eq_true rfl) mf_1_23 rfl rfl dX1_meetKnot_11 ?_
  refine kw_bipush C (64 : Int32) dX1_meetKnot_14 rfl ?_
  obtain ⟨J3, hJ3, hf⟩ := jnx1_elim hf
  have kJ3 : ∀ (x2 : Int32), J3 x2 = some (r0, σ0) → KW X σ1 24 [] [.int x2] := by
    clear hf
    intro x2 hf
    have hf := (hJ3 x2).symm.trans hf
    obtain ⟨h4, hf⟩ := gd_elim hf
    exact kw_zret C K h4 dX1_meetKnot_24 hf
  refine kw_icmp_gt C 23 dX1_meetKnot_16 rfl (fun c5 => ?_) (fun c5 => ?_)
  · have hf := if_p c5 hf
    refine kw_iconst C (0 : Int32) dX1_meetKnot_23 rfl ?_
    refine kw_sub [] _ rfl ?_
    exact kJ3 _ hf
  · have hf := if_n c5 hf
    refine kw_iconst C (1 : Int32) dX1_meetKnot_19 rfl ?_
    refine kw_goto C 24 dX1_meetKnot_20 rfl ?_
    refine kw_sub [] _ rfl ?_
    exact kJ3 _ hf
set_option maxRecDepth 100000 in
set_option maxHeartbeats 4000000 in
theorem kX1_putOff (L : Launch) (D : va_G) (g : GwT) (t0 : Nat) (p0 : Int32) (σ : St) (σ0 : St) (hf : fX1_putOff σ p0 = some σ0) : CtV L D (ttG g) (wB g) t0 yX1_putOff cX1_putOff 2 none { frames := 0, cells := 0, slots := 0, locals := 0 } [.ref (g.1 11), .int p0] σ σ0 := by
  refine CtV.of (own := RX1) (by decide) rfl (Nat.le_of_ble_eq_true rfl) [(0, .ref (g.1 11)), (1, .int p0)] rfl ?_
  intro X C hN K
  unfold fX1_putOff at hf
  refine kw_aload_n C dX1_putOff_0 rfl 0 rfl ?_
  refine kw_get C inG1 _ (hO1 g σ) rfl 3 (Nat.le_of_ble_eq_true rfl) mf_1_27 rfl rfl dX1_putOff_1 ?_
  refine kw_aload_n C dX1_putOff_4 rfl 0 rfl ?_
  refine kw_get C inG1 _ (hO1 g σ) rfl 2 (Nat.le_of_ble_eq_true rfl) mf_1_9 rfl rfl dX1_putOff_5 ?_
  refine kw_alen C _ 0 (hA1_2 g σ) rfl (72 : Int32) rfl dX1_putOff_8 ?_
  obtain ⟨J2, hJ2, hf⟩ := jnx1_elim hf
  have kJ2 : ∀ (σ1 : St), J2 σ1 = some σ0 → KW X σ1 32 [] [] := by
    clear hf
    intro σ1 hf
    have hf := (hJ2 σ1).symm.trans hf
    exact kw_vret (u9 := ()) C K dX1_putOff_32 hf
  refine kw_icmp_ge C 32 dX1_putOff_9 rfl (fun c3 => ?_) (fun c3 => ?_)
  · have hf := if_p c3 hf
    refine kw_sub [] _ rfl ?_
    exact kJ2 _ hf
  · have hf := if_n c3 hf
    refine kw_aload_n C dX1_putOff_12 rfl 0 rfl ?_
    refine kw_get C inG1 _ (hO1 g σ) rfl 2 (Nat.le_of_ble_eq_true rfl) mf_1_9 rfl rfl dX1_putOff_13 ?_
    refine kw_aload_n C dX1_putOff_16 rfl 0 rfl ?_
    refine kw_get C inG1 _ (hO1 g σ) rfl 3 (Nat.le_of_ble_eq_true rfl) mf_1_27 rfl rfl dX1_putOff_17 ?_
    refine kw_iload_n C dX1_putOff_20 rfl 1 rfl ?_
    obtain ⟨h4, hf⟩ := gd_elim hf
    obtain ⟨σ5, eσ5, hf⟩ := lt_elim hf
    refine kw_iast C _ 0 (hA1_2 g σ) rfl h4 ((hS1_2 g σ _).trans (congrArg (wB g) eσ5.symm)) dX1_putOff_21 ?_
    refine kw_aload_n C dX1_putOff_22 rfl 0 rfl ?_
    refine kw_dup C dX1_putOff_23 rfl ?_
    refine kw_get C inG1 _ (hO1 g σ5) rfl 3 (Nat.le_of_ble_eq_true rfl) mf_1_27 rfl rfl dX1_putOff_24 ?_
    refine kw_iconst C (1 : Int32) dX1_putOff_27 rfl ?_
    refine kw_iadd C dX1_putOff_28 ?_
    obtain ⟨σ6, eσ6, hf⟩ := lt_elim hf
    refine kw_put C inG1 tyX1 tyX1_ok nmX1 _ (hO1 g σ5) rfl 3 (Nat.le_of_ble_eq_true rfl) mf_1_27 rfl rfl (tyX1_ok 3 (Nat.le_of_ble_eq_true rfl)) rfl rfl (Nat.le_of_ble_eq_true rfl) ((hF1_3 g σ5 _).trans (congrArg (wB g) eσ6.symm)) dX1_putOff_29 ?_
    refine kw_sub [] _ rfl ?_
    exact kJ2 _ hf
set_option maxRecDepth 100000 in
set_option maxHeartbeats 4000000 in
theorem kX1_takeSign (L : Launch) (D : va_G) (g : GwT) (t0 : Nat) (σ : St) (r0 : Int32) (σ0 : St) (hf : fX1_takeSign σ  = some (r0, σ0)) : CtI L D (ttG g) (wB g) t0 yX1_takeSign cX1_takeSign 4 (some .int) { frames := 2, cells := 0, slots := 0, locals := 43 } [.ref (g.1 11)] σ r0 σ0 := by
  refine CtI.of (own := RX1) (by decide) rfl (Nat.le_of_ble_eq_true rfl) [(0, .ref (g.1 11))] rfl ?_
  intro X C hN K
  unfold fX1_takeSign at hf
  refine kw_aload_n C dX1_takeSign_0 rfl 0 rfl ?_
  refine kw_get C inG1 _ (hO1 g σ) rfl 0 (Nat.le_of_ble_eq_true rfl) mf_1_15 rfl rfl dX1_takeSign_1 ?_
  refine kw_get C inG7 _ (hO7 g σ) rfl 3 (Nat.le_of_ble_eq_true rfl) mf_1_56 rfl rfl dX1_takeSign_4 ?_
  obtain ⟨x1, ex1, hf⟩ := lt_elim hf
  refine kw_topi ex1 ?_
  refine kw_istore_n C dX1_takeSign_7 rfl hN (Nat.le_of_ble_eq_true rfl) [(1, .int x1), (0, .ref (g.1 11))] rfl ?_
  refine kw_iload_n C dX1_takeSign_8 rfl 0 rfl ?_
  refine kw_bipush C (26 : Int32) dX1_takeSign_9 rfl ?_
  refine kw_bipush C (31 : Int32) dX1_takeSign_11 rfl ?_
  obtain ⟨r3, hc2, hf⟩ := bd_elim hf
  refine kw_callNI C [.int x1, .int (26 : Int32), .int (31 : Int32)] (kX9_isWithin L D g t0 x1 (26 : Int32) (31 : Int32) σ _ hc2) "BidLines" (fun _ h => h.2.1) (GT_c mcode_X9_isWithin (fun _ h => h)) mi_X9 mst_X9_isWithin ⟨rfl, rfl⟩ dd_X9_isWithin.2 ⟨Nat.le_of_ble_eq_true rfl, Nat.le_of_ble_eq_true rfl⟩ rfl (Nat.le_of_ble_eq_true rfl) dX1_takeSign_13 ?_
  refine kw_istore_n C dX1_takeSign_16 rfl hN (Nat.le_of_ble_eq_true rfl) [(2, .int r3), (1, .int x1), (0, .ref (g.1 11))] rfl ?_
  refine kw_iload_n C dX1_takeSign_17 rfl 0 rfl ?_
  obtain ⟨J5, hJ5, hf⟩ := jnx1_elim hf
  have kJ5 : ∀ (x4 : Int32), J5 x4 = some (r0, σ0) → KW X σ 41 [(0, .ref (g.1 11)), (1, .int x1), (2, .int r3)] [.int x4] := by
    clear hf
    intro x4 hf
    have hf := (hJ5 x4).symm.trans hf
    refine kw_istore_n C dX1_takeSign_41 rfl hN (Nat.le_of_ble_eq_true rfl) [(3, .int x4), (0, .ref (g.1 11)), (1, .int x1), (2, .int r3)] rfl ?_
    refine kw_iload_n C dX1_takeSign_42 rfl 2 rfl ?_
    obtain ⟨r7, hc6, hf⟩ := bd_elim hf
    refine kw_callSI C [.int x1] (kX1_rankOf L D g t0 x1 σ _ hc6) mS_X1_104 ⟨rfl, rfl⟩ dd_X1_rankOf ⟨Nat.le_of_ble_eq_true rfl, Nat.le_of_ble_eq_true rfl⟩ rfl (Nat.le_of_ble_eq_true rfl) dX1_takeSign_43 ?_
    obtain ⟨J8, hJ8, hf⟩ := jnx1_elim hf
    have kJ8 : ∀ (u9 : Unit), J8 u9 = some (r0, σ0) → KW X σ 59 [] [] := by
      clear hf
      intro u9 hf
      have hf := (hJ8 u9).symm.trans hf
      refine kw_iconst C (1 : Int32) dX1_takeSign_59 rfl ?_
      exact kw_iret C K dX1_takeSign_60 hf
    refine kw_if_eq C 59 dX1_takeSign_46 rfl (fun c9 => ?_) (fun c9 => ?_)
    · have hf := if_p c9 hf
      refine kw_sub [] _ rfl ?_
      exact kJ8 _ hf
    · have hf := if_n c9 hf
      refine kw_iload_n C dX1_takeSign_49 rfl 2 rfl ?_
      refine kw_bipush C (11 : Int32) dX1_takeSign_50 rfl ?_
      refine kw_icmp_eq C 59 dX1_takeSign_52 rfl (fun c10 => ?_) (fun c10 => ?_)
      · have hf := if_p c10 hf
        refine kw_sub [] _ rfl ?_
        exact kJ8 _ hf
      · have hf := if_n c10 hf
        refine kw_iload_n C dX1_takeSign_55 rfl 0 rfl ?_
        refine kw_if_eq C 61 dX1_takeSign_56 rfl (fun c11 => ?_) (fun c11 => ?_)
        · have hf := if_p c11 hf
          refine kw_aload_n C dX1_takeSign_61 rfl 1 rfl ?_
          obtain ⟨r13, σ14, hc12, hf⟩ := bI_elim hf
          refine kw_callVI C [] (kX1_meetKnot L D g t0 σ _ _ hc12) RX1 mV_X1_91 ⟨rfl, rfl⟩ dd_X1_meetKnot ⟨Nat.le_of_ble_eq_true rfl, Nat.le_of_ble_eq_true rfl⟩ _ (hO1 g σ) rfl rfl rfl (Nat.le_of_ble_eq_true rfl) dX1_takeSign_62 ?_
          refine kw_if_ne C 70 dX1_takeSign_65 rfl (fun c15 => ?_) (fun c15 => ?_)
          · have hf := if_n c15 hf
            refine kw_aload_n C dX1_takeSign_70 rfl 1 rfl ?_
            refine kw_iload_n C dX1_takeSign_71 rfl 2 rfl ?_
            refine kw_bipush C (10 : Int32) dX1_takeSign_72 rfl ?_
            obtain ⟨J17, hJ17, hf⟩ := jnx1_elim hf
            have kJ17 : ∀ (x16 : Int32), J17 x16 = some (r0, σ0) → KW X σ14 88 [(0, .ref (g.1 11)), (1, .int x1), (2, .int r3)] [.int x16, .ref (g.1 11)] := by
              clear hf
              intro x16 hf
              have hf := (hJ17 x16).symm.trans hf
              obtain ⟨h18, hf⟩ := gd_elim hf
              obtain ⟨σ19, eσ19, hf⟩ := lt_elim hf
              refine kw_put C inG1 tyX1 tyX1_ok nmX1 _ (hO1 g σ14) rfl 7 (Nat.le_of_ble_eq_true rfl) mf_1_40 rfl rfl (tyX1_ok 7 (Nat.le_of_ble_eq_true rfl)) (narrow_bz h18) (fits_bz h18) (Nat.le_of_ble_eq_true rfl) ((hF1_7 g σ14 _).trans (congrArg (wB g) eσ19.symm)) dX1_takeSign_88 ?_
              refine kw_aload_n C dX1_takeSign_91 rfl 0 rfl ?_
              refine kw_get C inG1 _ (hO1 g σ19) rfl 7 (Nat.le_of_ble_eq_true rfl) mf_1_40 rfl rfl dX1_takeSign_92 ?_
              obtain ⟨J21, hJ21, hf⟩ := jnx1_elim hf
              have kJ21 : ∀ (σ20 : St), J21 σ20 = some (r0, σ0) → KW X σ20 137 [(0, .ref (g.1 11)), (1, .int x1)] [] := by
                clear hf
                intro σ20 hf
                have hf := (hJ21 σ20).symm.trans hf
                refine kw_aload_n C dX1_takeSign_137 rfl 0 rfl ?_
                refine kw_iload_n C dX1_takeSign_138 rfl 1 rfl ?_
                obtain ⟨r23, hc22, hf⟩ := bd_elim hf
                refine kw_callSI C [.int x1] (kX1_rankOf L D g t0 x1 σ20 _ hc22) mS_X1_104 ⟨rfl, rfl⟩ dd_X1_rankOf ⟨Nat.le_of_ble_eq_true rfl, Nat.le_of_ble_eq_true rfl⟩ rfl (Nat.le_of_ble_eq_true rfl) dX1_takeSign_139 ?_
                obtain ⟨σ25, hc24, hf⟩ := bV_elim hf
                refine kw_callVV C [.int r23] (kX1_releaseDownTo L D g t0 r23 σ20 _ hc24) RX1 mV_X1_70 ⟨rfl, rfl⟩ dd_X1_releaseDownTo ⟨Nat.le_of_ble_eq_true rfl, Nat.le_of_ble_eq_true rfl⟩ _ (hO1 g σ20) rfl rfl rfl (Nat.le_of_ble_eq_true rfl) dX1_takeSign_142 ?_
                refine kw_aload_n C dX1_takeSign_145 rfl 0 rfl ?_
                refine kw_iload_n C dX1_takeSign_146 rfl 1 rfl ?_
                obtain ⟨σ27, hc26, hf⟩ := bV_elim hf
                refine kw_callVV C [.int x1] (kX1_putOff L D g t0 x1 σ25 _ hc26) RX1 mV_X1_94 ⟨rfl, rfl⟩ dd_X1_putOff ⟨Nat.le_of_ble_eq_true rfl, Nat.le_of_ble_eq_true rfl⟩ _ (hO1 g σ25) rfl rfl rfl (Nat.le_of_ble_eq_true rfl) dX1_takeSign_147 ?_
                refine kw_aload_n C dX1_takeSign_150 rfl 0 rfl ?_
                refine kw_iconst C (1 : Int32) dX1_takeSign_151 rfl ?_
                obtain ⟨σ28, eσ28, hf⟩ := lt_elim hf
                refine kw_put C inG1 tyX1 tyX1_ok nmX1 _ (hO1 g σ27) rfl 6 (Nat.le_of_ble_eq_true rfl) mf_1_36 rfl rfl (tyX1_ok 6 (Nat.le_of_ble_eq_true rfl)) (narrow_bz (by decide)) (fits_bz (by decide)) (Nat.le_of_ble_eq_true rfl) ((hF1_6 g σ27 _).trans (congrArg (wB g) eσ28.symm)) dX1_takeSign_152 ?_
                refine kw_iconst C (0 : Int32) dX1_takeSign_155 rfl ?_
                exact kw_iret C K dX1_takeSign_156 hf
              refine kw_if_eq C 118 dX1_takeSign_95 rfl (fun c29 => ?_) (fun c29 => ?_)
              · have hf := if_p c29 hf
                refine kw_iload_n C dX1_takeSign_118 rfl 2 rfl ?_
                refine kw_if_eq C 137 dX1_takeSign_119 rfl (fun c30 => ?_) (fun c30 => ?_)
                · have hf := if_p c30 hf
                  refine kw_sub [0, 1] _ rfl ?_
                  exact kJ21 _ hf
                · have hf := if_n c30 hf
                  refine kw_aload_n C dX1_takeSign_122 rfl 0 rfl ?_
                  refine kw_dup C dX1_takeSign_123 rfl ?_
                  refine kw_get C inG1 _ (hO1 g σ19) rfl 5 (Nat.le_of_ble_eq_true rfl) mf_1_33 rfl rfl dX1_takeSign_124 ?_
                  refine kw_iconst C (1 : Int32) dX1_takeSign_127 rfl ?_
                  refine kw_aload_n C dX1_takeSign_128 rfl 0 rfl ?_
                  refine kw_get C inG1 _ (hO1 g σ19) rfl 4 (Nat.le_of_ble_eq_true rfl) mf_1_30 rfl rfl dX1_takeSign_129 ?_
                  refine kw_ishl C dX1_takeSign_132 ?_
                  refine kw_ior C dX1_takeSign_133 ?_
                  obtain ⟨σ31, eσ31, hf⟩ := lt_elim hf
                  refine kw_put C inG1 tyX1 tyX1_ok nmX1 _ (hO1 g σ19) rfl 5 (Nat.le_of_ble_eq_true rfl) mf_1_33 rfl rfl (tyX1_ok 5 (Nat.le_of_ble_eq_true rfl)) rfl rfl (Nat.le_of_ble_eq_true rfl) ((hF1_5 g σ19 _).trans (congrArg (wB g) eσ31.symm)) dX1_takeSign_134 ?_
                  refine kw_sub [0, 1] _ rfl ?_
                  exact kJ21 _ hf
              · have hf := if_n c29 hf
                refine kw_aload_n C dX1_takeSign_98 rfl 0 rfl ?_
                refine kw_dup C dX1_takeSign_99 rfl ?_
                refine kw_get C inG1 _ (hO1 g σ19) rfl 5 (Nat.le_of_ble_eq_true rfl) mf_1_33 rfl rfl dX1_takeSign_100 ?_
                refine kw_iconst C (1 : Int32) dX1_takeSign_103 rfl ?_
                refine kw_aload_n C dX1_takeSign_104 rfl 0 rfl ?_
                refine kw_get C inG1 _ (hO1 g σ19) rfl 4 (Nat.le_of_ble_eq_true rfl) mf_1_30 rfl rfl dX1_takeSign_105 ?_
                refine kw_ishl C dX1_takeSign_108 ?_
                refine kw_iconst C (-1 : Int32) dX1_takeSign_109 rfl ?_
                refine kw_ixor C dX1_takeSign_110 ?_
                refine kw_iand C dX1_takeSign_111 ?_
                obtain ⟨σ32, eσ32, hf⟩ := lt_elim hf
                refine kw_put C inG1 tyX1 tyX1_ok nmX1 _ (hO1 g σ19) rfl 5 (Nat.le_of_ble_eq_true rfl) mf_1_33 rfl rfl (tyX1_ok 5 (Nat.le_of_ble_eq_true rfl)) rfl rfl (Nat.le_of_ble_eq_true rfl) ((hF1_5 g σ19 _).trans (congrArg (wB g) eσ32.symm)) dX1_takeSign_112 ?_
                refine kw_goto C 137 dX1_takeSign_115 rfl ?_
                refine kw_sub [0, 1] _ rfl ?_
                exact kJ21 _ hf
            obtain ⟨J33, hJ33, hf⟩ := jnx1_elim hf
            have kJ33 : ∀ (u9 : Unit), J33 u9 = some (r0, σ0) → KW X σ14 83 [(0, .ref (g.1 11)), (1, .int x1), (2, .int r3)] [.ref (g.1 11)] := by
              clear hf
              intro u9 hf
              have hf := (hJ33 u9).symm.trans hf
              refine kw_iconst C (1 : Int32) dX1_takeSign_83 rfl ?_
              refine kw_goto C 88 dX1_takeSign_84 rfl ?_
              exact kJ17 _ hf
            refine kw_icmp_eq C 83 dX1_takeSign_74 rfl (fun c34 => ?_) (fun c34 => ?_)
            · have hf := if_p c34 hf
              refine kw_sub [1, 2, 3] _ rfl ?_
              exact kJ33 _ hf
            · have hf := if_n c34 hf
              refine kw_iload_n C dX1_takeSign_77 rfl 2 rfl ?_
              refine kw_bipush C (9 : Int32) dX1_takeSign_78 rfl ?_
              refine kw_icmp_ne C 87 dX1_takeSign_80 rfl (fun c35 => ?_) (fun c35 => ?_)
              · have hf := if_n c35 hf
                refine kw_iconst C (0 : Int32) dX1_takeSign_87 rfl ?_
                refine kw_sub [1, 2, 3] _ rfl ?_
                exact kJ17 _ hf
              · have hf := if_p c35 hf
                refine kw_sub [1, 2, 3] _ rfl ?_
                exact kJ33 _ hf
          · have hf := if_p c15 hf
            refine kw_iconst C (2 : Int32) dX1_takeSign_68 rfl ?_
            exact kw_iret C K dX1_takeSign_69 hf
        · have hf := if_n c11 hf
          refine kw_sub [] _ rfl ?_
          exact kJ8 _ hf
  obtain ⟨J36, hJ36, hf⟩ := jnx1_elim hf
  have kJ36 : ∀ (u9 : Unit), J36 u9 = some (r0, σ0) → KW X σ 40 [(0, .ref (g.1 11)), (1, .int x1), (2, .int r3)] [] := by
    clear hf
    intro u9 hf
    have hf := (hJ36 u9).symm.trans hf
    refine kw_iconst C (0 : Int32) dX1_takeSign_40 rfl ?_
    exact kJ5 _ hf
  refine kw_if_eq C 40 dX1_takeSign_18 rfl (fun c37 => ?_) (fun c37 => ?_)
  · have hf := if_p c37 hf
    refine kw_sub [2, 1, 0] _ rfl ?_
    exact kJ36 _ hf
  · have hf := if_n c37 hf
    refine kw_aload_n C dX1_takeSign_21 rfl 2 rfl ?_
    refine kw_get C inG1 _ (hO1 g σ) rfl 5 (Nat.le_of_ble_eq_true rfl) mf_1_33 rfl rfl dX1_takeSign_22 ?_
    refine kw_aload_n C dX1_takeSign_25 rfl 2 rfl ?_
    refine kw_get C inG1 _ (hO1 g σ) rfl 4 (Nat.le_of_ble_eq_true rfl) mf_1_30 rfl rfl dX1_takeSign_26 ?_
    refine kw_ishr C dX1_takeSign_29 ?_
    refine kw_iconst C (1 : Int32) dX1_takeSign_30 rfl ?_
    refine kw_iand C dX1_takeSign_31 ?_
    refine kw_iconst C (1 : Int32) dX1_takeSign_32 rfl ?_
    refine kw_icmp_ne C 40 dX1_takeSign_33 rfl (fun c38 => ?_) (fun c38 => ?_)
    · have hf := if_n c38 hf
      refine kw_sub [2, 1, 0] _ rfl ?_
      exact kJ36 _ hf
    · have hf := if_p c38 hf
      refine kw_iconst C (1 : Int32) dX1_takeSign_36 rfl ?_
      refine kw_goto C 41 dX1_takeSign_37 rfl ?_
      refine kw_sub [2, 1, 0] _ rfl ?_
      exact kJ5 _ hf
set_option maxRecDepth 100000 in
set_option maxHeartbeats 4000000 in
theorem kX1_takeClosing (L : Launch) (D : va_G) (g : GwT) (t0 : Nat) (σ : St) (r0 : Int32) (σ0 : St) (hf : fX1_takeClosing σ  = some (r0, σ0)) : CtI L D (ttG g) (wB g) t0 yX1_takeClosing cX1_takeClosing 1 (some .int) { frames := 2, cells := 0, slots := 0, locals := 43 } [.ref (g.1 11)] σ r0 σ0 := by
  refine CtI.of (own := RX1) (by decide) rfl (Nat.le_of_ble_eq_true rfl) [(0, .ref (g.1 11))] rfl ?_
  intro X C hN K
  unfold fX1_takeClosing at hf
  refine kw_aload_n C dX1_takeClosing_0 rfl 0 rfl ?_
  refine kw_get C inG1 _ (hO1 g σ) rfl 4 (Nat.le_of_ble_eq_true rfl) mf_1_30 rfl rfl dX1_takeClosing_1 ?_
  refine kw_if_ne C 9 dX1_takeClosing_4 rfl (fun c1 => ?_) (fun c1 => ?_)
  · have hf := if_n c1 hf
    refine kw_aload_n C dX1_takeClosing_9 rfl 0 rfl ?_
    refine kw_iconst C (1 : Int32) dX1_takeClosing_10 rfl ?_
    obtain ⟨σ3, hc2, hf⟩ := bV_elim hf
    refine kw_callVV C [.int (1 : Int32)] (kX1_releaseDownTo L D g t0 (1 : Int32) σ _ hc2) RX1 mV_X1_70 ⟨rfl, rfl⟩ dd_X1_releaseDownTo ⟨Nat.le_of_ble_eq_true rfl, Nat.le_of_ble_eq_true rfl⟩ _ (hO1 g σ) rfl rfl rfl (Nat.le_of_ble_eq_true rfl) dX1_takeClosing_11 ?_
    refine kw_aload_n C dX1_takeClosing_14 rfl 0 rfl ?_
    refine kw_iconst C (0 : Int32) dX1_takeClosing_15 rfl ?_
    refine kw_aload_n C dX1_takeClosing_16 rfl 0 rfl ?_
    refine kw_get C inG1 _ (hO1 g σ3) rfl 3 (Nat.le_of_ble_eq_true rfl) mf_1_27 rfl rfl dX1_takeClosing_17 ?_
    refine kw_iconst C (1 : Int32) dX1_takeClosing_20 rfl ?_
    refine kw_isub C dX1_takeClosing_21 ?_
    refine kw_mmax C ml_X1_107 mst_max mi_Math mcode_max ⟨Nat.le_of_ble_eq_true rfl, Nat.le_of_ble_eq_true rfl⟩ dX1_takeClosing_22 ?_
    obtain ⟨σ4, eσ4, hf⟩ := lt_elim hf
    refine kw_put C inG1 tyX1 tyX1_ok nmX1 _ (hO1 g σ3) rfl 3 (Nat.le_of_ble_eq_true rfl) mf_1_27 rfl rfl (tyX1_ok 3 (Nat.le_of_ble_eq_true rfl)) rfl rfl (Nat.le_of_ble_eq_true rfl) ((hF1_3 g σ3 _).trans (congrArg (wB g) eσ4.symm)) dX1_takeClosing_25 ?_
    refine kw_aload_n C dX1_takeClosing_28 rfl 0 rfl ?_
    refine kw_dup C dX1_takeClosing_29 rfl ?_
    refine kw_get C inG1 _ (hO1 g σ4) rfl 4 (Nat.le_of_ble_eq_true rfl) mf_1_30 rfl rfl dX1_takeClosing_30 ?_
    refine kw_iconst C (1 : Int32) dX1_takeClosing_33 rfl ?_
    refine kw_isub C dX1_takeClosing_34 ?_
    obtain ⟨σ5, eσ5, hf⟩ := lt_elim hf
    refine kw_put C inG1 tyX1 tyX1_ok nmX1 _ (hO1 g σ4) rfl 4 (Nat.le_of_ble_eq_true rfl) mf_1_30 rfl rfl (tyX1_ok 4 (Nat.le_of_ble_eq_true rfl)) rfl rfl (Nat.le_of_ble_eq_true rfl) ((hF1_4 g σ4 _).trans (congrArg (wB g) eσ5.symm)) dX1_takeClosing_35 ?_
    refine kw_iconst C (0 : Int32) dX1_takeClosing_38 rfl ?_
    exact kw_iret C K dX1_takeClosing_39 hf
  · have hf := if_p c1 hf
    refine kw_iconst C (1 : Int32) dX1_takeClosing_7 rfl ?_
    exact kw_iret C K dX1_takeClosing_8 hf
set_option maxRecDepth 100000 in
set_option maxHeartbeats 4000000 in
theorem kX1_takeValue (L : Launch) (D : va_G) (g : GwT) (t0 : Nat) (p0 : Int32) (σ : St) (r0 : Int32) (σ0 : St) (hf : fX1_takeValue σ p0 = some (r0, σ0)) : CtI L D (ttG g) (wB g) t0 yX1_takeValue cX1_takeValue 2 (some .int) { frames := 1, cells := 0, slots := 0, locals := 22 } [.ref (g.1 11), .int p0] σ r0 σ0 := by
  refine CtI.of (own := RX1) (by decide) rfl (Nat.le_of_ble_eq_true rfl) [(0, .ref (g.1 11)), (1, .int p0)] rfl ?_
  intro X C hN K
  unfold fX1_takeValue at hf
  refine kw_aload_n C dX1_takeValue_0 rfl 0 rfl ?_
  obtain ⟨r2, σ3, hc1, hf⟩ := bI_elim hf
  refine kw_callVI C [] (kX1_meetKnot L D g t0 σ _ _ hc1) RX1 mV_X1_91 ⟨rfl, rfl⟩ dd_X1_meetKnot ⟨Nat.le_of_ble_eq_true rfl, Nat.le_of_ble_eq_true rfl⟩ _ (hO1 g σ) rfl rfl rfl (Nat.le_of_ble_eq_true rfl) dX1_takeValue_1 ?_
  obtain ⟨J4, hJ4, hf⟩ := jnx1_elim hf
  have kJ4 : ∀ (u9 : Unit), J4 u9 = some (r0, σ0) → KW X σ3 26 [] [] := by
    clear hf
    intro u9 hf
    have hf := (hJ4 u9).symm.trans hf
    refine kw_iconst C (2 : Int32) dX1_takeValue_26 rfl ?_
    exact kw_iret C K dX1_takeValue_27 hf
  refine kw_if_eq C 26 dX1_takeValue_4 rfl (fun c5 => ?_) (fun c5 => ?_)
  · have hf := if_p c5 hf
    refine kw_sub [] _ rfl ?_
    exact kJ4 _ hf
  · have hf := if_n c5 hf
    refine kw_aload_n C dX1_takeValue_7 rfl 0 rfl ?_
    refine kw_get C inG1 _ (hO1 g σ3) rfl 0 (Nat.le_of_ble_eq_true rfl) mf_1_15 rfl rfl dX1_takeValue_8 ?_
    refine kw_get C inG7 _ (hO7 g σ3) rfl 5 (Nat.le_of_ble_eq_true rfl) mf_1_97 rfl rfl dX1_takeValue_11 ?_
    refine kw_sipush C (9999 : Int32) dX1_takeValue_14 rfl ?_
    obtain ⟨J6, hJ6, hf⟩ := jnx1_elim hf
    have kJ6 : ∀ (u9 : Unit), J6 u9 = some (r0, σ0) → KW X σ3 28 [(0, .ref (g.1 11)), (1, .int p0)] [] := by
      clear hf
      intro u9 hf
      have hf := (hJ6 u9).symm.trans hf
      refine kw_aload_n C dX1_takeValue_28 rfl 0 rfl ?_
      refine kw_get C inG1 _ (hO1 g σ3) rfl 1 (Nat.le_of_ble_eq_true rfl) mf_1_19 rfl rfl dX1_takeValue_29 ?_
      refine kw_iload_n C dX1_takeValue_32 rfl 1 rfl ?_
      refine kw_aload_n C dX1_takeValue_33 rfl 0 rfl ?_
      refine kw_get C inG1 _ (hO1 g σ3) rfl 0 (Nat.le_of_ble_eq_true rfl) mf_1_15 rfl rfl dX1_takeValue_34 ?_
      refine kw_get C inG7 _ (hO7 g σ3) rfl 5 (Nat.le_of_ble_eq_true rfl) mf_1_97 rfl rfl dX1_takeValue_37 ?_
      obtain ⟨σ8, hc7, hf⟩ := bV_elim hf
      refine kw_callVV C [.int p0, .int (gI σ3 10 5)] (kX2_add L D g t0 (gR σ3 4) p0 (gI σ3 10 5) σ3 _ hc7) RX2 mV_X1_100 ⟨rfl, rfl⟩ dd_X2_add ⟨Nat.le_of_ble_eq_true rfl, Nat.le_of_ble_eq_true rfl⟩ _ (hO2 g σ3 (gR σ3 4)) rfl rfl rfl (Nat.le_of_ble_eq_true rfl) dX1_takeValue_40 ?_
      refine kw_aload_n C dX1_takeValue_43 rfl 0 rfl ?_
      refine kw_iconst C (0 : Int32) dX1_takeValue_44 rfl ?_
      obtain ⟨σ9, eσ9, hf⟩ := lt_elim hf
      refine kw_put C inG1 tyX1 tyX1_ok nmX1 _ (hO1 g σ8) rfl 6 (Nat.le_of_ble_eq_true rfl) mf_1_36 rfl rfl (tyX1_ok 6 (Nat.le_of_ble_eq_true rfl)) (narrow_bz (by decide)) (fits_bz (by decide)) (Nat.le_of_ble_eq_true rfl) ((hF1_6 g σ8 _).trans (congrArg (wB g) eσ9.symm)) dX1_takeValue_45 ?_
      refine kw_iconst C (0 : Int32) dX1_takeValue_48 rfl ?_
      exact kw_iret C K dX1_takeValue_49 hf
    refine kw_icmp_le C 28 dX1_takeValue_17 rfl (fun c10 => ?_) (fun c10 => ?_)
    · have hf := if_p c10 hf
      exact kJ6 _ hf
    · have hf := if_n c10 hf
      refine kw_iload_n C dX1_takeValue_20 rfl 1 rfl ?_
      refine kw_bipush C (20 : Int32) dX1_takeValue_21 rfl ?_
      refine kw_icmp_ne C 28 dX1_takeValue_23 rfl (fun c11 => ?_) (fun c11 => ?_)
      · have hf := if_n c11 hf
        exact kJ6 _ hf
      · have hf := if_p c11 hf
        refine kw_sub [] _ rfl ?_
        exact kJ4 _ hf
set_option maxRecDepth 100000 in
set_option maxHeartbeats 4000000 in
theorem kX1_takeOpening (L : Launch) (D : va_G) (g : GwT) (t0 : Nat) (σ : St) (r0 : Int32) (σ0 : St) (hf : fX1_takeOpening σ  = some (r0, σ0)) : CtI L D (ttG g) (wB g) t0 yX1_takeOpening cX1_takeOpening 1 (some .int) { frames := 1, cells := 0, slots := 0, locals := 21 } [.ref (g.1 11)] σ r0 σ0 := by
  refine CtI.of (own := RX1) (by decide) rfl (Nat.le_of_ble_eq_true rfl) [(0, .ref (g.1 11))] rfl ?_
  intro X C hN K
  unfold fX1_takeOpening at hf
  refine kw_aload_n C dX1_takeOpening_0 rfl 0 rfl ?_
  refine kw_get C inG1 _ (hO1 g σ) rfl 4 (Nat.le_of_ble_eq_true rfl) mf_1_30 rfl rfl dX1_takeOpening_1 ?_
  refine kw_bipush C (8 : Int32) dX1_takeOpening_4 rfl ?_
  refine kw_icmp_lt C 11 dX1_takeOpening_6 rfl (fun c1 => ?_) (fun c1 => ?_)
  · have hf := if_p c1 hf
    refine kw_aload_n C dX1_takeOpening_11 rfl 0 rfl ?_
    refine kw_dup C dX1_takeOpening_12 rfl ?_
    refine kw_get C inG1 _ (hO1 g σ) rfl 4 (Nat.le_of_ble_eq_true rfl) mf_1_30 rfl rfl dX1_takeOpening_13 ?_
    refine kw_iconst C (1 : Int32) dX1_takeOpening_16 rfl ?_
    refine kw_iadd C dX1_takeOpening_17 ?_
    obtain ⟨σ2, eσ2, hf⟩ := lt_elim hf
    refine kw_put C inG1 tyX1 tyX1_ok nmX1 _ (hO1 g σ) rfl 4 (Nat.le_of_ble_eq_true rfl) mf_1_30 rfl rfl (tyX1_ok 4 (Nat.le_of_ble_eq_true rfl)) rfl rfl (Nat.le_of_ble_eq_true rfl) ((hF1_4 g σ _).trans (congrArg (wB g) eσ2.symm)) dX1_takeOpening_18 ?_
    refine kw_aload_n C dX1_takeOpening_21 rfl 0 rfl ?_
    refine kw_dup C dX1_takeOpening_22 rfl ?_
    refine kw_get C inG1 _ (hO1 g σ2) rfl 5 (Nat.le_of_ble_eq_true rfl) mf_1_33 rfl rfl dX1_takeOpening_23 ?_
    refine kw_iconst C (1 : Int32) dX1_takeOpening_26 rfl ?_
    refine kw_aload_n C dX1_takeOpening_27 rfl 0 rfl ?_
    refine kw_get C inG1 _ (hO1 g σ2) rfl 4 (Nat.le_of_ble_eq_true rfl) mf_1_30 rfl rfl dX1_takeOpening_28 ?_
    refine kw_ishl C dX1_takeOpening_31 ?_
    refine kw_iconst C (-1 : Int32) dX1_takeOpening_32 rfl ?_
    refine kw_ixor C dX1_takeOpening_33 ?_
    refine kw_iand C dX1_takeOpening_34 ?_
    obtain ⟨σ3, eσ3, hf⟩ := lt_elim hf
    refine kw_put C inG1 tyX1 tyX1_ok nmX1 _ (hO1 g σ2) rfl 5 (Nat.le_of_ble_eq_true rfl) mf_1_33 rfl rfl (tyX1_ok 5 (Nat.le_of_ble_eq_true rfl)) rfl rfl (Nat.le_of_ble_eq_true rfl) ((hF1_5 g σ2 _).trans (congrArg (wB g) eσ3.symm)) dX1_takeOpening_35 ?_
    refine kw_aload_n C dX1_takeOpening_38 rfl 0 rfl ?_
    refine kw_iconst C (1 : Int32) dX1_takeOpening_39 rfl ?_
    obtain ⟨σ4, eσ4, hf⟩ := lt_elim hf
    refine kw_put C inG1 tyX1 tyX1_ok nmX1 _ (hO1 g σ3) rfl 7 (Nat.le_of_ble_eq_true rfl) mf_1_40 rfl rfl (tyX1_ok 7 (Nat.le_of_ble_eq_true rfl)) (narrow_bz (by decide)) (fits_bz (by decide)) (Nat.le_of_ble_eq_true rfl) ((hF1_7 g σ3 _).trans (congrArg (wB g) eσ4.symm)) dX1_takeOpening_40 ?_
    refine kw_aload_n C dX1_takeOpening_43 rfl 0 rfl ?_
    refine kw_bipush C (24 : Int32) dX1_takeOpening_44 rfl ?_
    obtain ⟨σ6, hc5, hf⟩ := bV_elim hf
    refine kw_callVV C [.int (24 : Int32)] (kX1_putOff L D g t0 (24 : Int32) σ4 _ hc5) RX1 mV_X1_94 ⟨rfl, rfl⟩ dd_X1_putOff ⟨Nat.le_of_ble_eq_true rfl, Nat.le_of_ble_eq_true rfl⟩ _ (hO1 g σ4) rfl rfl rfl (Nat.le_of_ble_eq_true rfl) dX1_takeOpening_46 ?_
    refine kw_iconst C (0 : Int32) dX1_takeOpening_49 rfl ?_
    exact kw_iret C K dX1_takeOpening_50 hf
  · have hf := if_n c1 hf
    refine kw_iconst C (2 : Int32) dX1_takeOpening_9 rfl ?_
    exact kw_iret C K dX1_takeOpening_10 hf
