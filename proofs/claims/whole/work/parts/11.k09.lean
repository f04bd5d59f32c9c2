set_option maxRecDepth 100000 in
set_option maxHeartbeats 4000000 in
theorem kX10_isHouse (L : Launch) (D : va_G) (g : GwT) (t0 : Nat) (p0 : Int32) (σ : St) (r0 : Int32) (hf : fX10_isHouse σ p0 = some r0) : CtI L D (ttG g) (wM g) t0 yX10_isHouse cX10_isHouse 2 (some .boolean) { frames := 0, cells := 0, slots := 0, locals := 0 } [.ref (g.1 0), .int p0] σ r0 σ := by
  refine CtI.of (own := RX10) (by decide) rfl (Nat.le_of_ble_eq_true rfl) [(0, .ref (g.1 0)), (1, .int p0)] rfl ?_
  intro X C hN K
  unfold fX10_isHouse at hf
  refine kw_iload_n C dX10_isHouse_0 rfl 1 rfl ?_
  obtain ⟨J2, hJ2, hf⟩ := jnx1_elim hf
  have kJ2 : ∀ (x1 : Int32), J2 x1 = some r0 → KW X σ 17 [] [.int x1] := by
    clear hf
    intro x1 hf
    have hf := (hJ2 x1).symm.trans hf
    obtain ⟨h3, hf⟩ := gd_elim hf
    exact kw_zret C K h3 dX10_isHouse_17 (pr_ret hf)
  obtain ⟨J4, hJ4, hf⟩ := jnx1_elim hf
  have kJ4 : ∀ (u9 : Unit), J4 u9 = some r0 → KW X σ 16 [] [] := by
    clear hf
    intro u9 hf
    have hf := (hJ4 u9).symm.trans hf
    refine kw_iconst C (0 : Int32) dX10_isHouse_16 rfl ?_
    exact kJ2 _ hf
  refine kw_if_lt C 16 dX10_isHouse_1 rfl (fun c5 => ?_) (fun c5 => ?_)
  · have hf := if_p c5 hf
    refine kw_sub [] _ rfl ?_
    exact kJ4 _ hf
  · have hf := if_n c5 hf
    refine kw_iload_n C dX10_isHouse_4 rfl 1 rfl ?_
    refine kw_aload_n C dX10_isHouse_5 rfl 0 rfl ?_
    refine kw_get C inG10 _ (hO10 g σ) rfl 12 (Nat.le_of_ble_eq_true rfl) mf_10_225 rfl rfl dX10_isHouse_6 ?_
    refine kw_icmp_ge C 16 dX10_isHouse_9 rfl (fun c6 => ?_) (fun c6 => ?_)
    · have hf := if_p c6 hf
      refine kw_sub [] _ rfl ?_
      exact kJ4 _ hf
    · have hf := if_n c6 hf
      refine kw_iconst C (1 : Int32) dX10_isHouse_12 rfl ?_
      refine kw_goto C 17 dX10_isHouse_13 rfl ?_
      refine kw_sub [] _ rfl ?_
      exact kJ2 _ hf
set_option maxRecDepth 100000 in
set_option maxHeartbeats 4000000 in
theorem kX10_fails (L : Launch) (D : va_G) (g : GwT) (t0 : Nat) (p0 : Int32) (σ : St) (r0 : Int32) (σ0 : St) (hf : fX10_fails σ p0 = some (r0, σ0)) : CtI L D (ttG g) (wM g) t0 yX10_fails cX10_fails 2 (some .int) { frames := 0, cells := 0, slots := 0, locals := 0 } [.ref (g.1 0), .int p0] σ r0 σ0 := by
  refine CtI.of (own := RX10) (by decide) rfl (Nat.le_of_ble_eq_true rfl) [(0, .ref (g.1 0)), (1, .int p0)] rfl ?_
  intro X C hN K
  unfold fX10_fails at hf
  refine kw_aload_n C dX10_fails_0 rfl 0 rfl ?_
  refine kw_iload_n C dX10_fails_1 rfl 1 rfl ?_
  obtain ⟨σ1, eσ1, hf⟩ := lt_elim hf
  refine kw_put C inG10 tyX10 tyX10_ok nmX10 _ (hO10 g σ) rfl 2 (Nat.le_of_ble_eq_true rfl) mf_10_151 rfl rfl (tyX10_ok 2 (Nat.le_of_ble_eq_true rfl)) rfl rfl (Nat.le_of_ble_eq_true rfl) ((hF10_2 g σ _).trans (congrArg (wM g) eσ1.symm)) dX10_fails_2 ?_
  refine kw_iconst C (0 : Int32) dX10_fails_5 rfl ?_
  exact kw_iret C K dX10_fails_6 hf
set_option maxRecDepth 100000 in
set_option maxHeartbeats 4000000 in
theorem kX10_house (L : Launch) (D : va_G) (g : GwT) (t0 : Nat) (p0 : Int32) (p1 : Int32) (σ : St) (r0 : Int32) (σ0 : St) (hf : fX10_house σ p0 p1 = some (r0, σ0)) : CtI L D (ttG g) (wM g) t0 yX10_house cX10_house 3 (some .int) { frames := 1, cells := 0, slots := 0, locals := 21 } [.ref (g.1 0), .int p0, .int p1] σ r0 σ0 := by
  refine CtI.of (own := RX10) (by decide) rfl (Nat.le_of_ble_eq_true rfl) [(0, .ref (g.1 0)), (1, .int p0), (2, .int p1)] rfl ?_
  intro X C hN K
  unfold fX10_house at hf
  refine kw_aload_n C dX10_house_0 rfl 0 rfl ?_
  refine kw_iconst C (0 : Int32) dX10_house_1 rfl ?_
  obtain ⟨σ1, eσ1, hf⟩ := lt_elim hf
  refine kw_put C inG10 tyX10 tyX10_ok nmX10 _ (hO10 g σ) rfl 2 (Nat.le_of_ble_eq_true rfl) mf_10_151 rfl rfl (tyX10_ok 2 (Nat.le_of_ble_eq_true rfl)) rfl rfl (Nat.le_of_ble_eq_true rfl) ((hF10_2 g σ _).trans (congrArg (wM g) eσ1.symm)) dX10_house_2 ?_
  refine kw_aload_n C dX10_house_5 rfl 0 rfl ?_
  refine kw_iload_n C dX10_house_6 rfl 1 rfl ?_
  obtain ⟨r3, hc2, hf⟩ := bd_elim hf
  refine kw_callVI C [.int p0] (kX10_isHouse L D g t0 p0 σ1 _ hc2) RX10 mV_X10_368 ⟨rfl, rfl⟩ dd_X10_isHouse ⟨Nat.le_of_ble_eq_true rfl, Nat.le_of_ble_eq_true rfl⟩ _ (hO10 g σ1) rfl rfl rfl (Nat.le_of_ble_eq_true rfl) dX10_house_7 ?_
  refine kw_if_ne C 19 dX10_house_10 rfl (fun c4 => ?_) (fun c4 => ?_)
  · have hf := if_n c4 hf
    refine kw_iload_n C dX10_house_19 rfl 2 rfl ?_
    by_cases c5 : p1 = (0 : Int32)
    · have hf := if_p c5 hf
      refine kw_tabIn C 68 dX10_house_20 c5 (by decide) (by decide) rfl rfl ?_
      refine kw_aload_n C dX10_house_68 rfl 0 rfl ?_
      refine kw_get C inG10 _ (hO10 g σ1) rfl 46 (Nat.le_of_ble_eq_true rfl) mf_10_85 rfl rfl dX10_house_69 ?_
      refine kw_iload_n C dX10_house_72 rfl 1 rfl ?_
      obtain ⟨h6, hf⟩ := gd_elim hf
      refine kw_iald C _ 0 (hA10_46 g σ1) rfl h6 dX10_house_73 ?_
      exact kw_iret C K dX10_house_74 hf
    have hf := if_n c5 hf
    by_cases c7 : p1 = (1 : Int32)
    · have hf := if_p c7 hf
      refine kw_tabIn C 75 dX10_house_20 c7 (by decide) (by decide) rfl rfl ?_
      refine kw_aload_n C dX10_house_75 rfl 0 rfl ?_
      refine kw_get C inG10 _ (hO10 g σ1) rfl 22 (Nat.le_of_ble_eq_true rfl) mf_10_33 rfl rfl dX10_house_76 ?_
      refine kw_iload_n C dX10_house_79 rfl 1 rfl ?_
      obtain ⟨h8, hf⟩ := gd_elim hf
      refine kw_iald C _ 0 (hA10_22 g σ1) rfl h8 dX10_house_80 ?_
      exact kw_iret C K dX10_house_81 hf
    have hf := if_n c7 hf
    by_cases c9 : p1 = (2 : Int32)
    · have hf := if_p c9 hf
      refine kw_tabIn C 82 dX10_house_20 c9 (by decide) (by decide) rfl rfl ?_
      refine kw_aload_n C dX10_house_82 rfl 0 rfl ?_
      refine kw_get C inG10 _ (hO10 g σ1) rfl 23 (Nat.le_of_ble_eq_true rfl) mf_10_36 rfl rfl dX10_house_83 ?_
      refine kw_iload_n C dX10_house_86 rfl 1 rfl ?_
      obtain ⟨h10, hf⟩ := gd_elim hf
      refine kw_iald C _ 0 (hA10_23 g σ1) rfl h10 dX10_house_87 ?_
      exact kw_iret C K dX10_house_88 hf
    have hf := if_n c9 hf
    by_cases c11 : p1 = (3 : Int32)
    · have hf := if_p c11 hf
      refine kw_tabIn C 89 dX10_house_20 c11 (by decide) (by decide) rfl rfl ?_
      refine kw_aload_n C dX10_house_89 rfl 0 rfl ?_
      refine kw_get C inG10 _ (hO10 g σ1) rfl 47 (Nat.le_of_ble_eq_true rfl) mf_10_88 rfl rfl dX10_house_90 ?_
      refine kw_iload_n C dX10_house_93 rfl 1 rfl ?_
      obtain ⟨h12, hf⟩ := gd_elim hf
      refine kw_iald C _ 0 (hA10_47 g σ1) rfl h12 dX10_house_94 ?_
      exact kw_iret C K dX10_house_95 hf
    have hf := if_n c11 hf
    by_cases c13 : p1 = (4 : Int32)
    · have hf := if_p c13 hf
      refine kw_tabIn C 96 dX10_house_20 c13 (by decide) (by decide) rfl rfl ?_
      refine kw_aload_n C dX10_house_96 rfl 0 rfl ?_
      refine kw_get C inG10 _ (hO10 g σ1) rfl 48 (Nat.le_of_ble_eq_true rfl) mf_10_91 rfl rfl dX10_house_97 ?_
      refine kw_iload_n C dX10_house_100 rfl 1 rfl ?_
      obtain ⟨h14, hf⟩ := gd_elim hf
      refine kw_iald C _ 0 (hA10_48 g σ1) rfl h14 dX10_house_101 ?_
      exact kw_iret C K dX10_house_102 hf
    have hf := if_n c13 hf
    by_cases c15 : p1 = (5 : Int32)
    · have hf := if_p c15 hf
      refine kw_tabIn C 103 dX10_house_20 c15 (by decide) (by decide) rfl rfl ?_
      refine kw_aload_n C dX10_house_103 rfl 0 rfl ?_
      refine kw_get C inG10 _ (hO10 g σ1) rfl 49 (Nat.le_of_ble_eq_true rfl) mf_10_94 rfl rfl dX10_house_104 ?_
      refine kw_iload_n C dX10_house_107 rfl 1 rfl ?_
      obtain ⟨h16, hf⟩ := gd_elim hf
      refine kw_zald C _ 3 (hA10_49 g σ1) rfl h16 dX10_house_108 ?_
      obtain ⟨J18, hJ18, hf⟩ := jnx1_elim hf
      have kJ18 : ∀ (x17 : Int32), J18 x17 = some (r0, σ0) → KW X σ1 117 [] [.int x17] := by
        clear hf
        intro x17 hf
        have hf := (hJ18 x17).symm.trans hf
        exact kw_iret C K dX10_house_117 hf
      refine kw_if_eq C 116 dX10_house_109 rfl (fun c19 => ?_) (fun c19 => ?_)
      · have hf := if_p c19 hf
        refine kw_iconst C (0 : Int32) dX10_house_116 rfl ?_
        refine kw_sub [] _ rfl ?_
        exact kJ18 _ hf
      · have hf := if_n c19 hf
        refine kw_iconst C (1 : Int32) dX10_house_112 rfl ?_
        refine kw_goto C 117 dX10_house_113 rfl ?_
        refine kw_sub [] _ rfl ?_
        exact kJ18 _ hf
    have hf := if_n c15 hf
    by_cases c20 : p1 = (6 : Int32)
    · have hf := if_p c20 hf
      refine kw_tabIn C 118 dX10_house_20 c20 (by decide) (by decide) rfl rfl ?_
      refine kw_aload_n C dX10_house_118 rfl 0 rfl ?_
      refine kw_get C inG10 _ (hO10 g σ1) rfl 50 (Nat.le_of_ble_eq_true rfl) mf_10_97 rfl rfl dX10_house_119 ?_
      refine kw_iload_n C dX10_house_122 rfl 1 rfl ?_
      obtain ⟨h21, hf⟩ := gd_elim hf
      refine kw_iald C _ 0 (hA10_50 g σ1) rfl h21 dX10_house_123 ?_
      exact kw_iret C K dX10_house_124 hf
    have hf := if_n c20 hf
    by_cases c22 : p1 = (7 : Int32)
    · have hf := if_p c22 hf
      refine kw_tabIn C 125 dX10_house_20 c22 (by decide) (by decide) rfl rfl ?_
      refine kw_aload_n C dX10_house_125 rfl 0 rfl ?_
      refine kw_get C inG10 _ (hO10 g σ1) rfl 51 (Nat.le_of_ble_eq_true rfl) mf_10_100 rfl rfl dX10_house_126 ?_
      refine kw_iload_n C dX10_house_129 rfl 1 rfl ?_
      obtain ⟨h23, hf⟩ := gd_elim hf
      refine kw_iald C _ 0 (hA10_51 g σ1) rfl h23 dX10_house_130 ?_
      exact kw_iret C K dX10_house_131 hf
    have hf := if_n c22 hf
    have c5_ : p1.toInt ≠ 0 := ne_ti c5
    have c7_ : p1.toInt ≠ 1 := ne_ti c7
    have c9_ : p1.toInt ≠ 2 := ne_ti c9
    have c11_ : p1.toInt ≠ 3 := ne_ti c11
    have c13_ : p1.toInt ≠ 4 := ne_ti c13
    have c15_ : p1.toInt ≠ 5 := ne_ti c15
    have c20_ : p1.toInt ≠ 6 := ne_ti c20
    have c22_ : p1.toInt ≠ 7 := ne_ti c22
    refine kw_tabOut C 132 dX10_house_20 (by omega) rfl ?_
    refine kw_aload_n C dX10_house_132 rfl 0 rfl ?_
    refine kw_iconst C (2 : Int32) dX10_house_133 rfl ?_
    obtain ⟨r25, σ26, hc24, hf⟩ := bI_elim hf
    refine kw_callVI C [.int (2 : Int32)] (kX10_fails L D g t0 (2 : Int32) σ1 _ _ hc24) RX10 mV_X10_436 ⟨rfl, rfl⟩ dd_X10_fails ⟨Nat.le_of_ble_eq_true rfl, Nat.le_of_ble_eq_true rfl⟩ _ (hO10 g σ1) rfl rfl rfl (Nat.le_of_ble_eq_true rfl) dX10_house_134 ?_
    exact kw_iret C K dX10_house_137 hf
  · have hf := if_p c4 hf
    refine kw_aload_n C dX10_house_13 rfl 0 rfl ?_
    refine kw_iconst C (1 : Int32) dX10_house_14 rfl ?_
    obtain ⟨r28, σ29, hc27, hf⟩ := bI_elim hf
    refine kw_callVI C [.int (1 : Int32)] (kX10_fails L D g t0 (1 : Int32) σ1 _ _ hc27) RX10 mV_X10_436 ⟨rfl, rfl⟩ dd_X10_fails ⟨Nat.le_of_ble_eq_true rfl, Nat.le_of_ble_eq_true rfl⟩ _ (hO10 g σ1) rfl rfl rfl (Nat.le_of_ble_eq_true rfl) dX10_house_15 ?_
    exact kw_iret C K dX10_house_18 hf
set_option maxRecDepth 100000 in
set_option maxHeartbeats 4000000 in
theorem kX10_part (L : Launch) (D : va_G) (g : GwT) (t0 : Nat) (p0 : Int32) (p1 : Int32) (σ : St) (r0 : Int32) (σ0 : St) (hf : fX10_part σ p0 p1 = some (r0, σ0)) : CtI L D (ttG g) (wM g) t0 yX10_part cX10_part 3 (some .int) { frames := 0, cells := 0, slots := 0, locals := 0 } [.ref (g.1 0), .int p0, .int p1] σ r0 σ0 := by
  refine CtI.of (own := RX10) (by decide) rfl (Nat.le_of_ble_eq_true rfl) [(0, .ref (g.1 0)), (1, .int p0), (2, .int p1)] rfl ?_
  intro X C hN K
  unfold fX10_part at hf
  refine kw_aload_n C dX10_part_0 rfl 0 rfl ?_
  refine kw_iconst C (0 : Int32) dX10_part_1 rfl ?_
  obtain ⟨σ1, eσ1, hf⟩ := lt_elim hf
  refine kw_put C inG10 tyX10 tyX10_ok nmX10 _ (hO10 g σ) rfl 2 (Nat.le_of_ble_eq_true rfl) mf_10_151 rfl rfl (tyX10_ok 2 (Nat.le_of_ble_eq_true rfl)) rfl rfl (Nat.le_of_ble_eq_true rfl) ((hF10_2 g σ _).trans (congrArg (wM g) eσ1.symm)) dX10_part_2 ?_
  refine kw_iload_n C dX10_part_5 rfl 1 rfl ?_
  obtain ⟨J2, hJ2, hf⟩ := jnx1_elim hf
  have kJ2 : ∀ (u9 : Unit), J2 u9 = some (r0, σ0) → KW X σ1 17 [] [] := by
    clear hf
    intro u9 hf
    have hf := (hJ2 u9).symm.trans hf
    refine kw_iconst C (-1 : Int32) dX10_part_17 rfl ?_
    exact kw_iret C K dX10_part_18 hf
  refine kw_if_lt C 17 dX10_part_6 rfl (fun c3 => ?_) (fun c3 => ?_)
  · have hf := if_p c3 hf
    refine kw_sub [] _ rfl ?_
    exact kJ2 _ hf
  · have hf := if_n c3 hf
    refine kw_iload_n C dX10_part_9 rfl 1 rfl ?_
    refine kw_aload_n C dX10_part_10 rfl 0 rfl ?_
    refine kw_get C inG10 _ (hO10 g σ1) rfl 13 (Nat.le_of_ble_eq_true rfl) mf_10_228 rfl rfl dX10_part_11 ?_
    refine kw_icmp_lt C 19 dX10_part_14 rfl (fun c4 => ?_) (fun c4 => ?_)
    · have hf := if_p c4 hf
      refine kw_iload_n C dX10_part_19 rfl 2 rfl ?_
      obtain ⟨J6, hJ6, hf⟩ := jnx1_elim hf
      have kJ6 : ∀ (x5 : Int32), J6 x5 = some (r0, σ0) → KW X σ1 69 [] [.int x5] := by
        clear hf
        intro x5 hf
        have hf := (hJ6 x5).symm.trans hf
        exact kw_iret C K dX10_part_69 hf
      refine kw_if_ne C 32 dX10_part_20 rfl (fun c7 => ?_) (fun c7 => ?_)
      · have hf := if_n c7 hf
        refine kw_iload_n C dX10_part_32 rfl 2 rfl ?_
        refine kw_iconst C (1 : Int32) dX10_part_33 rfl ?_
        refine kw_icmp_ne C 46 dX10_part_34 rfl (fun c8 => ?_) (fun c8 => ?_)
        · have hf := if_n c8 hf
          refine kw_iload_n C dX10_part_46 rfl 2 rfl ?_
          refine kw_iconst C (2 : Int32) dX10_part_47 rfl ?_
          refine kw_icmp_ne C 68 dX10_part_48 rfl (fun c9 => ?_) (fun c9 => ?_)
          · have hf := if_n c9 hf
            refine kw_iconst C (-1 : Int32) dX10_part_68 rfl ?_
            refine kw_sub [] _ rfl ?_
            exact kJ6 _ hf
          · have hf := if_p c9 hf
            refine kw_aload_n C dX10_part_51 rfl 0 rfl ?_
            refine kw_get C inG10 _ (hO10 g σ1) rfl 53 (Nat.le_of_ble_eq_true rfl) mf_10_106 rfl rfl dX10_part_52 ?_
            refine kw_iload_n C dX10_part_55 rfl 1 rfl ?_
            obtain ⟨h10, hf⟩ := gd_elim hf
            refine kw_zald C _ 3 (hA10_53 g σ1) rfl h10 dX10_part_56 ?_
            refine kw_if_eq C 64 dX10_part_57 rfl (fun c11 => ?_) (fun c11 => ?_)
            · have hf := if_p c11 hf
              refine kw_iconst C (0 : Int32) dX10_part_64 rfl ?_
              refine kw_goto C 69 dX10_part_65 rfl ?_
              refine kw_sub [] _ rfl ?_
              exact kJ6 _ hf
            · have hf := if_n c11 hf
              refine kw_iconst C (1 : Int32) dX10_part_60 rfl ?_
              refine kw_goto C 69 dX10_part_61 rfl ?_
              refine kw_sub [] _ rfl ?_
              exact kJ6 _ hf
        · have hf := if_p c8 hf
          refine kw_aload_n C dX10_part_37 rfl 0 rfl ?_
          refine kw_get C inG10 _ (hO10 g σ1) rfl 52 (Nat.le_of_ble_eq_true rfl) mf_10_103 rfl rfl dX10_part_38 ?_
          refine kw_iload_n C dX10_part_41 rfl 1 rfl ?_
          obtain ⟨h12, hf⟩ := gd_elim hf
          refine kw_iald C _ 0 (hA10_52 g σ1) rfl h12 dX10_part_42 ?_
          refine kw_goto C 69 dX10_part_43 rfl ?_
          refine kw_sub [] _ rfl ?_
          exact kJ6 _ hf
      · have hf := if_p c7 hf
        refine kw_aload_n C dX10_part_23 rfl 0 rfl ?_
        refine kw_get C inG10 _ (hO10 g σ1) rfl 27 (Nat.le_of_ble_eq_true rfl) mf_10_48 rfl rfl dX10_part_24 ?_
        refine kw_iload_n C dX10_part_27 rfl 1 rfl ?_
        obtain ⟨h13, hf⟩ := gd_elim hf
        refine kw_iald C _ 0 (hA10_27 g σ1) rfl h13 dX10_part_28 ?_
        refine kw_goto C 69 dX10_part_29 rfl ?_
        refine kw_sub [] _ rfl ?_
        exact kJ6 _ hf
    · have hf := if_n c4 hf
      refine kw_sub [] _ rfl ?_
      exact kJ2 _ hf
set_option maxRecDepth 100000 in
set_option maxHeartbeats 4000000 in
theorem kX10_layNames (L : Launch) (D : va_G) (g : GwT) (t0 : Nat) (p0 : Int32) (p1 : Int32) (σ : St) (σ0 : St) (hf : fX10_layNames σ p0 p1 = some σ0) : CtV L D (ttG g) (wM g) t0 yX10_layNames cX10_layNames 3 none { frames := 0, cells := 0, slots := 0, locals := 0 } [.ref (g.1 0), .int p0, .int p1] σ σ0 := by
  refine CtV.of (own := RX10) (by decide) rfl (Nat.le_of_ble_eq_true rfl) [(0, .ref (g.1 0)), (1, .int p0), (2, .int p1)] rfl ?_
  intro X C hN K
  unfold fX10_layNames at hf
  refine kw_aload_n C dX10_layNames_0 rfl 0 rfl ?_
  refine kw_get C inG10 _ (hO10 g σ) rfl 43 (Nat.le_of_ble_eq_true rfl) mf_10_78 rfl rfl dX10_layNames_1 ?_
  refine kw_iconst C (0 : Int32) dX10_layNames_4 rfl ?_
  refine kw_aload_n C dX10_layNames_5 rfl 0 rfl ?_
  refine kw_get C inG10 _ (hO10 g σ) rfl 54 (Nat.le_of_ble_eq_true rfl) mf_10_109 rfl rfl dX10_layNames_6 ?_
  refine kw_iload_n C dX10_layNames_9 rfl 1 rfl ?_
  obtain ⟨h1, hf⟩ := gd_elim hf
  refine kw_iald C _ 0 (hA10_54 g σ) rfl h1 dX10_layNames_10 ?_
  refine kw_i2l C dX10_layNames_11 ?_
  obtain ⟨σ2, eσ2, hf⟩ := lt_elim hf
  refine kw_last C _ 2 (hA10_43 g σ) rfl (by decide) ((hS10_43 g σ _).trans (congrArg (wM g) eσ2.symm)) dX10_layNames_12 ?_
  refine kw_aload_n C dX10_layNames_13 rfl 0 rfl ?_
  refine kw_get C inG10 _ (hO10 g σ2) rfl 43 (Nat.le_of_ble_eq_true rfl) mf_10_78 rfl rfl dX10_layNames_14 ?_
  refine kw_iconst C (1 : Int32) dX10_layNames_17 rfl ?_
  refine kw_aload_n C dX10_layNames_18 rfl 0 rfl ?_
  refine kw_get C inG10 _ (hO10 g σ2) rfl 46 (Nat.le_of_ble_eq_true rfl) mf_10_85 rfl rfl dX10_layNames_19 ?_
  refine kw_bipush C (6 : Int32) dX10_layNames_22 rfl ?_
  refine kw_iload_n C dX10_layNames_24 rfl 1 rfl ?_
  refine kw_imul C dX10_layNames_25 ?_
  refine kw_iload_n C dX10_layNames_26 rfl 2 rfl ?_
  refine kw_iadd C dX10_layNames_27 ?_
  obtain ⟨h3, hf⟩ := gd_elim hf
  refine kw_iald C _ 0 (hA10_46 g σ2) rfl h3 dX10_layNames_28 ?_
  refine kw_i2l C dX10_layNames_29 ?_
  obtain ⟨σ4, eσ4, hf⟩ := lt_elim hf
  refine kw_last C _ 2 (hA10_43 g σ2) rfl (by decide) ((hS10_43 g σ2 _).trans (congrArg (wM g) eσ4.symm)) dX10_layNames_30 ?_
  refine kw_aload_n C dX10_layNames_31 rfl 0 rfl ?_
  refine kw_get C inG10 _ (hO10 g σ4) rfl 43 (Nat.le_of_ble_eq_true rfl) mf_10_78 rfl rfl dX10_layNames_32 ?_
  refine kw_iconst C (2 : Int32) dX10_layNames_35 rfl ?_
  refine kw_aload_n C dX10_layNames_36 rfl 0 rfl ?_
  refine kw_get C inG10 _ (hO10 g σ4) rfl 22 (Nat.le_of_ble_eq_true rfl) mf_10_33 rfl rfl dX10_layNames_37 ?_
  refine kw_iload_n C dX10_layNames_40 rfl 2 rfl ?_
  obtain ⟨h5, hf⟩ := gd_elim hf
  refine kw_iald C _ 0 (hA10_22 g σ4) rfl h5 dX10_layNames_41 ?_
  refine kw_i2l C dX10_layNames_42 ?_
  obtain ⟨σ6, eσ6, hf⟩ := lt_elim hf
  refine kw_last C _ 2 (hA10_43 g σ4) rfl (by decide) ((hS10_43 g σ4 _).trans (congrArg (wM g) eσ6.symm)) dX10_layNames_43 ?_
  refine kw_aload_n C dX10_layNames_44 rfl 0 rfl ?_
  refine kw_get C inG10 _ (hO10 g σ6) rfl 43 (Nat.le_of_ble_eq_true rfl) mf_10_78 rfl rfl dX10_layNames_45 ?_
  refine kw_iconst C (3 : Int32) dX10_layNames_48 rfl ?_
  refine kw_aload_n C dX10_layNames_49 rfl 0 rfl ?_
  refine kw_get C inG10 _ (hO10 g σ6) rfl 47 (Nat.le_of_ble_eq_true rfl) mf_10_88 rfl rfl dX10_layNames_50 ?_
  refine kw_bipush C (6 : Int32) dX10_layNames_53 rfl ?_
  refine kw_iload_n C dX10_layNames_55 rfl 1 rfl ?_
  refine kw_imul C dX10_layNames_56 ?_
  refine kw_iload_n C dX10_layNames_57 rfl 2 rfl ?_
  refine kw_iadd C dX10_layNames_58 ?_
  obtain ⟨h7, hf⟩ := gd_elim hf
  refine kw_iald C _ 0 (hA10_47 g σ6) rfl h7 dX10_layNames_59 ?_
  refine kw_i2l C dX10_layNames_60 ?_
  obtain ⟨σ8, eσ8, hf⟩ := lt_elim hf
  refine kw_last C _ 2 (hA10_43 g σ6) rfl (by decide) ((hS10_43 g σ6 _).trans (congrArg (wM g) eσ8.symm)) dX10_layNames_61 ?_
  refine kw_aload_n C dX10_layNames_62 rfl 0 rfl ?_
  refine kw_get C inG10 _ (hO10 g σ8) rfl 43 (Nat.le_of_ble_eq_true rfl) mf_10_78 rfl rfl dX10_layNames_63 ?_
  refine kw_iconst C (4 : Int32) dX10_layNames_66 rfl ?_
  refine kw_aload_n C dX10_layNames_67 rfl 0 rfl ?_
  refine kw_get C inG10 _ (hO10 g σ8) rfl 48 (Nat.le_of_ble_eq_true rfl) mf_10_91 rfl rfl dX10_layNames_68 ?_
  refine kw_bipush C (6 : Int32) dX10_layNames_71 rfl ?_
  refine kw_iload_n C dX10_layNames_73 rfl 1 rfl ?_
  refine kw_imul C dX10_layNames_74 ?_
  refine kw_iload_n C dX10_layNames_75 rfl 2 rfl ?_
  refine kw_iadd C dX10_layNames_76 ?_
  obtain ⟨h9, hf⟩ := gd_elim hf
  refine kw_iald C _ 0 (hA10_48 g σ8) rfl h9 dX10_layNames_77 ?_
  refine kw_i2l C dX10_layNames_78 ?_
  obtain ⟨σ10, eσ10, hf⟩ := lt_elim hf
  refine kw_last C _ 2 (hA10_43 g σ8) rfl (by decide) ((hS10_43 g σ8 _).trans (congrArg (wM g) eσ10.symm)) dX10_layNames_79 ?_
  refine kw_aload_n C dX10_layNames_80 rfl 0 rfl ?_
  refine kw_get C inG10 _ (hO10 g σ10) rfl 43 (Nat.le_of_ble_eq_true rfl) mf_10_78 rfl rfl dX10_layNames_81 ?_
  refine kw_iconst C (5 : Int32) dX10_layNames_84 rfl ?_
  refine kw_aload_n C dX10_layNames_85 rfl 0 rfl ?_
  refine kw_get C inG10 _ (hO10 g σ10) rfl 56 (Nat.le_of_ble_eq_true rfl) mf_10_115 rfl rfl dX10_layNames_86 ?_
  refine kw_iload_n C dX10_layNames_89 rfl 1 rfl ?_
  obtain ⟨h11, hf⟩ := gd_elim hf
  refine kw_iald C _ 0 (hA10_56 g σ10) rfl h11 dX10_layNames_90 ?_
  refine kw_i2l C dX10_layNames_91 ?_
  obtain ⟨σ12, eσ12, hf⟩ := lt_elim hf
  refine kw_last C _ 2 (hA10_43 g σ10) rfl (by decide) ((hS10_43 g σ10 _).trans (congrArg (wM g) eσ12.symm)) dX10_layNames_92 ?_
  refine kw_aload_n C dX10_layNames_93 rfl 0 rfl ?_
  refine kw_get C inG10 _ (hO10 g σ12) rfl 43 (Nat.le_of_ble_eq_true rfl) mf_10_78 rfl rfl dX10_layNames_94 ?_
  refine kw_bipush C (6 : Int32) dX10_layNames_97 rfl ?_
  refine kw_aload_n C dX10_layNames_99 rfl 0 rfl ?_
  refine kw_get C inG10 _ (hO10 g σ12) rfl 59 (Nat.le_of_ble_eq_true rfl) mf_10_124 rfl rfl dX10_layNames_100 ?_
  refine kw_iload_n C dX10_layNames_103 rfl 1 rfl ?_
  obtain ⟨h13, hf⟩ := gd_elim hf
  refine kw_iald C _ 0 (hA10_59 g σ12) rfl h13 dX10_layNames_104 ?_
  refine kw_i2l C dX10_layNames_105 ?_
  obtain ⟨σ14, eσ14, hf⟩ := lt_elim hf
  refine kw_last C _ 2 (hA10_43 g σ12) rfl (by decide) ((hS10_43 g σ12 _).trans (congrArg (wM g) eσ14.symm)) dX10_layNames_106 ?_
  exact kw_vret (u9 := ()) C K dX10_layNames_107 hf
set_option maxRecDepth 100000 in
set_option maxHeartbeats 4000000 in
theorem kX10_compares (L : Launch) (D : va_G) (g : GwT) (t0 : Nat) (p0 : Int32) (p1 : Int64) (p2 : Int64) (σ : St) (r0 : Int32) (hf : fX10_compares σ p0 p1 p2 = some r0) : CtI L D (ttG g) (wM g) t0 yX10_compares cX10_compares 5 (some .boolean) { frames := 0, cells := 0, slots := 0, locals := 0 } [.int p0, .long p1, .long p2] σ r0 σ := by
  refine CtI.of (own := RX10) (by decide) rfl (Nat.le_of_ble_eq_true rfl) [(0, .int p0), (1, .long p1), (3, .long p2)] rfl ?_
  intro X C hN K
  unfold fX10_compares at hf
  refine kw_iload_n C dX10_compares_0 rfl 0 rfl ?_
  by_cases c1 : p0 = (5 : Int32)
  · have hf := if_p c1 hf
    refine kw_tabIn C 36 dX10_compares_1 c1 (by decide) (by decide) rfl rfl ?_
    refine kw_lload_n C dX10_compares_36 rfl 1 rfl ?_
    refine kw_lload_n C dX10_compares_37 rfl 2 rfl ?_
    refine kw_lcmp C dX10_compares_38 ?_
    obtain ⟨J3, hJ3, hf⟩ := jnx1_elim hf
    have kJ3 : ∀ (x2 : Int32), J3 x2 = some r0 → KW X σ 47 [] [.int x2] := by
      clear hf
      intro x2 hf
      have hf := (hJ3 x2).symm.trans hf
      obtain ⟨h4, hf⟩ := gd_elim hf
      exact kw_zret C K h4 dX10_compares_47 (pr_ret hf)
    refine kw_if_ge C 46 dX10_compares_39 rfl (fun c5 => ?_) (fun c5 => ?_)
    · have hf := if_p c5 hf
      refine kw_iconst C (0 : Int32) dX10_compares_46 rfl ?_
      refine kw_sub [] _ rfl ?_
      exact kJ3 _ hf
    · have hf := if_n c5 hf
      refine kw_iconst C (1 : Int32) dX10_compares_42 rfl ?_
      refine kw_goto C 47 dX10_compares_43 rfl ?_
      refine kw_sub [] _ rfl ?_
      exact kJ3 _ hf
  have hf := if_n c1 hf
  by_cases c6 : p0 = (6 : Int32)
  · have hf := if_p c6 hf
    refine kw_tabIn C 48 dX10_compares_1 c6 (by decide) (by decide) rfl rfl ?_
    refine kw_lload_n C dX10_compares_48 rfl 1 rfl ?_
    refine kw_lload_n C dX10_compares_49 rfl 2 rfl ?_
    refine kw_lcmp C dX10_compares_50 ?_
    obtain ⟨J8, hJ8, hf⟩ := jnx1_elim hf
    have kJ8 : ∀ (x7 : Int32), J8 x7 = some r0 → KW X σ 59 [] [.int x7] := by
      clear hf
      intro x7 hf
      have hf := (hJ8 x7).symm.trans hf
      obtain ⟨h9, hf⟩ := gd_elim hf
      exact kw_zret C K h9 dX10_compares_59 (pr_ret hf)
    refine kw_if_gt C 58 dX10_compares_51 rfl (fun c10 => ?_) (fun c10 => ?_)
    · have hf := if_p c10 hf
      refine kw_iconst C (0 : Int32) dX10_compares_58 rfl ?_
      refine kw_sub [] _ rfl ?_
      exact kJ8 _ hf
    · have hf := if_n c10 hf
      refine kw_iconst C (1 : Int32) dX10_compares_54 rfl ?_
      refine kw_goto C 59 dX10_compares_55 rfl ?_
      refine kw_sub [] _ rfl ?_
      exact kJ8 _ hf
  have hf := if_n c6 hf
  by_cases c11 : p0 = (7 : Int32)
  · have hf := if_p c11 hf
    refine kw_tabIn C 60 dX10_compares_1 c11 (by decide) (by decide) rfl rfl ?_
    refine kw_lload_n C dX10_compares_60 rfl 1 rfl ?_
    refine kw_lload_n C dX10_compares_61 rfl 2 rfl ?_
    refine kw_lcmp C dX10_compares_62 ?_
    obtain ⟨J13, hJ13, hf⟩ := jnx1_elim hf
    have kJ13 : ∀ (x12 : Int32), J13 x12 = some r0 → KW X σ 71 [] [.int x12] := by
      clear hf
      intro x12 hf
      have hf := (hJ13 x12).symm.trans hf
      obtain ⟨h14, hf⟩ := gd_elim hf
      exact kw_zret C K h14 dX10_compares_71 (pr_ret hf)
    refine kw_if_ne C 70 dX10_compares_63 rfl (fun c15 => ?_) (fun c15 => ?_)
    · have hf := if_n c15 hf
      refine kw_iconst C (0 : Int32) dX10_compares_70 rfl ?_
      refine kw_sub [] _ rfl ?_
      exact kJ13 _ hf
    · have hf := if_p c15 hf
      refine kw_iconst C (1 : Int32) dX10_compares_66 rfl ?_
      refine kw_goto C 71 dX10_compares_67 rfl ?_
      refine kw_sub [] _ rfl ?_
      exact kJ13 _ hf
  have hf := if_n c11 hf
  by_cases c16 : p0 = (8 : Int32)
  · have hf := if_p c16 hf
    refine kw_tabIn C 72 dX10_compares_1 c16 (by decide) (by decide) rfl rfl ?_
    refine kw_lload_n C dX10_compares_72 rfl 1 rfl ?_
    refine kw_lload_n C dX10_compares_73 rfl 2 rfl ?_
    refine kw_lcmp C dX10_compares_74 ?_
    obtain ⟨J18, hJ18, hf⟩ := jnx1_elim hf
    have kJ18 : ∀ (x17 : Int32), J18 x17 = some r0 → KW X σ 83 [] [.int x17] := by
      clear hf
      intro x17 hf
      have hf := (hJ18 x17).symm.trans hf
      obtain ⟨h19, hf⟩ := gd_elim hf
      exact kw_zret C K h19 dX10_compares_83 (pr_ret hf)
    refine kw_if_eq C 82 dX10_compares_75 rfl (fun c20 => ?_) (fun c20 => ?_)
    · have hf := if_p c20 hf
      refine kw_iconst C (0 : Int32) dX10_compares_82 rfl ?_
      refine kw_sub [] _ rfl ?_
      exact kJ18 _ hf
    · have hf := if_n c20 hf
      refine kw_iconst C (1 : Int32) dX10_compares_78 rfl ?_
      refine kw_goto C 83 dX10_compares_79 rfl ?_
      refine kw_sub [] _ rfl ?_
      exact kJ18 _ hf
  have hf := if_n c16 hf
  by_cases c21 : p0 = (9 : Int32)
  · have hf := if_p c21 hf
    refine kw_tabIn C 84 dX10_compares_1 c21 (by decide) (by decide) rfl rfl ?_
    refine kw_lload_n C dX10_compares_84 rfl 1 rfl ?_
    refine kw_lload_n C dX10_compares_85 rfl 2 rfl ?_
    refine kw_lcmp C dX10_compares_86 ?_
    obtain ⟨J23, hJ23, hf⟩ := jnx1_elim hf
    have kJ23 : ∀ (x22 : Int32), J23 x22 = some r0 → KW X σ 95 [] [.int x22] := by
      clear hf
      intro x22 hf
      have hf := (hJ23 x22).symm.trans hf
      obtain ⟨h24, hf⟩ := gd_elim hf
      exact kw_zret C K h24 dX10_compares_95 (pr_ret hf)
    refine kw_if_lt C 94 dX10_compares_87 rfl (fun c25 => ?_) (fun c25 => ?_)
    · have hf := if_p c25 hf
      refine kw_iconst C (0 : Int32) dX10_compares_94 rfl ?_
      refine kw_sub [] _ rfl ?_
      exact kJ23 _ hf
    · have hf := if_n c25 hf
      refine kw_iconst C (1 : Int32) dX10_compares_90 rfl ?_
      refine kw_goto C 95 dX10_compares_91 rfl ?_
      refine kw_sub [] _ rfl ?_
      exact kJ23 _ hf
  have hf := if_n c21 hf
  have c1_ : p0.toInt ≠ 5 := ne_ti c1
  have c6_ : p0.toInt ≠ 6 := ne_ti c6
  have c11_ : p0.toInt ≠ 7 := ne_ti c11
  have c16_ : p0.toInt ≠ 8 := ne_ti c16
  have c21_ : p0.toInt ≠ 9 := ne_ti c21
  refine kw_tabOut C 96 dX10_compares_1 (by omega) rfl ?_
  refine kw_lload_n C dX10_compares_96 rfl 1 rfl ?_
  refine kw_lload_n C dX10_compares_97 rfl 2 rfl ?_
  refine kw_lcmp C dX10_compares_98 ?_
  obtain ⟨J27, hJ27, hf⟩ := jnx1_elim hf
  have kJ27 : ∀ (x26 : Int32), J27 x26 = some r0 → KW X σ 107 [] [.int x26] := by
    clear hf
    intro x26 hf
    have hf := (hJ27 x26).symm.trans hf
    obtain ⟨h28, hf⟩ := gd_elim hf
    exact kw_zret C K h28 dX10_compares_107 (pr_ret hf)
  refine kw_if_le C 106 dX10_compares_99 rfl (fun c29 => ?_) (fun c29 => ?_)
  · have hf := if_p c29 hf
    refine kw_iconst C (0 : Int32) dX10_compares_106 rfl ?_
    refine kw_sub [] _ rfl ?_
    exact kJ27 _ hf
  · have hf := if_n c29 hf
    refine kw_iconst C (1 : Int32) dX10_compares_102 rfl ?_
    refine kw_goto C 107 dX10_compares_103 rfl ?_
    refine kw_sub [] _ rfl ?_
    exact kJ27 _ hf
set_option maxRecDepth 100000 in
set_option maxHeartbeats 4000000 in
theorem kX10_bounded (L : Launch) (D : va_G) (g : GwT) (t0 : Nat) (p0 : Int64) (σ : St) (r0 : Int64) (σ0 : St) (hf : fX10_bounded σ p0 = some (r0, σ0)) : CtL L D (ttG g) (wM g) t0 yX10_bounded cX10_bounded 3 (some .long) { frames := 0, cells := 0, slots := 0, locals := 0 } [.ref (g.1 0), .long p0] σ r0 σ0 := by
  refine CtL.of (own := RX10) (by decide) rfl (Nat.le_of_ble_eq_true rfl) [(0, .ref (g.1 0)), (1, .long p0)] rfl ?_
  intro X C hN K
  unfold fX10_bounded at hf
  refine kw_aload_n C dX10_bounded_0 rfl 0 rfl ?_
  refine kw_aload_n C dX10_bounded_1 rfl 0 rfl ?_
  refine kw_get C inG10 _ (hO10 g σ) rfl 45 (Nat.le_of_ble_eq_true rfl) mf_10_315 rfl rfl dX10_bounded_2 ?_
  obtain ⟨J2, hJ2, hf⟩ := jnx1_elim hf
  have kJ2 : ∀ (x1 : Int32), J2 x1 = some (r0, σ0) → KW X σ 29 [(0, .ref (g.1 0)), (1, .long p0)] [.int x1, .ref (g.1 0)] := by
    clear hf
    intro x1 hf
    have hf := (hJ2 x1).symm.trans hf
    obtain ⟨h3, hf⟩ := gd_elim hf
    obtain ⟨σ4, eσ4, hf⟩ := lt_elim hf
    refine kw_put C inG10 tyX10 tyX10_ok nmX10 _ (hO10 g σ) rfl 45 (Nat.le_of_ble_eq_true rfl) mf_10_315 rfl rfl (tyX10_ok 45 (Nat.le_of_ble_eq_true rfl)) (narrow_bz h3) (fits_bz h3) (Nat.le_of_ble_eq_true rfl) ((hF10_45 g σ _).trans (congrArg (wM g) eσ4.symm)) dX10_bounded_29 ?_
    refine kw_aload_n C dX10_bounded_32 rfl 0 rfl ?_
    refine kw_get C inG10 _ (hO10 g σ4) rfl 45 (Nat.le_of_ble_eq_true rfl) mf_10_315 rfl rfl dX10_bounded_33 ?_
    obtain ⟨J6, hJ6, hf⟩ := jnx1_elim hf
    have kJ6 : ∀ (x5 : Int64), J6 x5 = some (r0, σ0) → KW X σ4 44 [] [.long x5] := by
      clear hf
      intro x5 hf
      have hf := (hJ6 x5).symm.trans hf
      exact kw_lret C K dX10_bounded_44 hf
    refine kw_if_eq C 43 dX10_bounded_36 rfl (fun c7 => ?_) (fun c7 => ?_)
    · have hf := if_p c7 hf
      refine kw_lload_n C dX10_bounded_43 rfl 1 rfl ?_
      refine kw_sub [] _ rfl ?_
      exact kJ6 _ hf
    · have hf := if_n c7 hf
      refine kw_lconst C (0 : Int64) dX10_bounded_39 rfl ?_
      refine kw_goto C 44 dX10_bounded_40 rfl ?_
      refine kw_sub [] _ rfl ?_
      exact kJ6 _ hf
  obtain ⟨J8, hJ8, hf⟩ := jnx1_elim hf
  have kJ8 : ∀ (u9 : Unit), J8 u9 = some (r0, σ0) → KW X σ 24 [(0, .ref (g.1 0)), (1, .long p0)] [.ref (g.1 0)] := by
    clear hf
    intro u9 hf
    have hf := (hJ8 u9).symm.trans hf
    refine kw_iconst C (1 : Int32) dX10_bounded_24 rfl ?_
    refine kw_goto C 29 dX10_bounded_25 rfl ?_
    exact kJ2 _ hf
  refine kw_if_ne C 24 dX10_bounded_5 rfl (fun c9 => ?_) (fun c9 => ?_)
  · have hf := if_n c9 hf
    exact kJ8 _ hf
  · have hf := if_p c9 hf
    refine kw_lload_n C dX10_bounded_8 rfl 1 rfl ?_
    refine kw_ldc2 C dX10_bounded_9 mk2_X10_318 ?_
    refine kw_lcmp C dX10_bounded_12 ?_
    refine kw_if_gt C 24 dX10_bounded_13 rfl (fun c10 => ?_) (fun c10 => ?_)
    · have hf := if_p c10 hf
      exact kJ8 _ hf
    · have hf := if_n c10 hf
      refine kw_lload_n C dX10_bounded_16 rfl 1 rfl ?_
      refine kw_ldc2 C dX10_bounded_17 mk2_X10_320 ?_
      refine kw_lcmp C dX10_bounded_20 ?_
      refine kw_if_ge C 28 dX10_bounded_21 rfl (fun c11 => ?_) (fun c11 => ?_)
      · have hf := if_p c11 hf
        refine kw_iconst C (0 : Int32) dX10_bounded_28 rfl ?_
        exact kJ2 _ hf
      · have hf := if_n c11 hf
        exact kJ8 _ hf
set_option maxRecDepth 100000 in
set_option maxHeartbeats 4000000 in
theorem kX10_times (L : Launch) (D : va_G) (g : GwT) (t0 : Nat) (p0 : Int64) (p1 : Int64) (σ : St) (r0 : Int64) (σ0 : St) (hf : fX10_times σ p0 p1 = some (r0, σ0)) : CtL L D (ttG g) (wM g) t0 yX10_times cX10_times 6 (some .long) { frames := 0, cells := 0, slots := 0, locals := 0 } [.ref (g.1 0), .long p0, .long p1] σ r0 σ0 := by
  refine CtL.of (own := RX10) (by decide) rfl (Nat.le_of_ble_eq_true rfl) [(0, .ref (g.1 0)), (1, .long p0), (3, .long p1)] rfl ?_
  intro X C hN K
  unfold fX10_times at hf
  refine kw_lload_n C dX10_times_0 rfl 1 rfl ?_
  refine kw_lconst C (0 : Int64) dX10_times_1 rfl ?_
  refine kw_lcmp C dX10_times_2 ?_
  obtain ⟨J2, hJ2, hf⟩ := jnx1_elim hf
  have kJ2 : ∀ (x1 : Int32), J2 x1 = some (r0, σ0) → KW X σ 49 [(0, .ref (g.1 0)), (1, .long p0), (3, .long p1)] [.int x1] := by
    clear hf
    intro x1 hf
    have hf := (hJ2 x1).symm.trans hf
    refine kw_istore C dX10_times_49 hN (Nat.le_of_ble_eq_true rfl) [(5, .int x1), (0, .ref (g.1 0)), (1, .long p0), (3, .long p1)] rfl ?_
    refine kw_aload_n C dX10_times_51 rfl 1 rfl ?_
    refine kw_aload_n C dX10_times_52 rfl 1 rfl ?_
    refine kw_get C inG10 _ (hO10 g σ) rfl 45 (Nat.le_of_ble_eq_true rfl) mf_10_315 rfl rfl dX10_times_53 ?_
    obtain ⟨J4, hJ4, hf⟩ := jnx1_elim hf
    have kJ4 : ∀ (x3 : Int32), J4 x3 = some (r0, σ0) → KW X σ 69 [(0, .ref (g.1 0)), (1, .long p0), (3, .long p1)] [.int x3, .ref (g.1 0)] := by
      clear hf
      intro x3 hf
      have hf := (hJ4 x3).symm.trans hf
      obtain ⟨h5, hf⟩ := gd_elim hf
      obtain ⟨σ6, eσ6, hf⟩ := lt_elim hf
      refine kw_put C inG10 tyX10 tyX10_ok nmX10 _ (hO10 g σ) rfl 45 (Nat.le_of_ble_eq_true rfl) mf_10_315 rfl rfl (tyX10_ok 45 (Nat.le_of_ble_eq_true rfl)) (narrow_bz h5) (fits_bz h5) (Nat.le_of_ble_eq_true rfl) ((hF10_45 g σ _).trans (congrArg (wM g) eσ6.symm)) dX10_times_69 ?_
      refine kw_aload_n C dX10_times_72 rfl 0 rfl ?_
      refine kw_get C inG10 _ (hO10 g σ6) rfl 45 (Nat.le_of_ble_eq_true rfl) mf_10_315 rfl rfl dX10_times_73 ?_
      obtain ⟨J8, hJ8, hf⟩ := jnx1_elim hf
      have kJ8 : ∀ (x7 : Int64), J8 x7 = some (r0, σ0) → KW X σ6 86 [] [.long x7] := by
        clear hf
        intro x7 hf
        have hf := (hJ8 x7).symm.trans hf
        exact kw_lret C K dX10_times_86 hf
      refine kw_if_eq C 83 dX10_times_76 rfl (fun c9 => ?_) (fun c9 => ?_)
      · have hf := if_p c9 hf
        refine kw_lload_n C dX10_times_83 rfl 1 rfl ?_
        refine kw_lload_n C dX10_times_84 rfl 2 rfl ?_
        refine kw_lmul C dX10_times_85 ?_
        refine kw_sub [] _ rfl ?_
        exact kJ8 _ hf
      · have hf := if_n c9 hf
        refine kw_lconst C (0 : Int64) dX10_times_79 rfl ?_
        refine kw_goto C 86 dX10_times_80 rfl ?_
        refine kw_sub [] _ rfl ?_
        exact kJ8 _ hf
    obtain ⟨J10, hJ10, hf⟩ := jnx1_elim hf
    have kJ10 : ∀ (u9 : Unit), J10 u9 = some (r0, σ0) → KW X σ 64 [(0, .ref (g.1 0)), (1, .long p0), (3, .long p1)] [.ref (g.1 0)] := by
      clear hf
      intro u9 hf
      have hf := (hJ10 u9).symm.trans hf
      refine kw_iconst C (1 : Int32) dX10_times_64 rfl ?_
      refine kw_goto C 69 dX10_times_65 rfl ?_
      exact kJ4 _ hf
    refine kw_if_ne C 64 dX10_times_56 rfl (fun c11 => ?_) (fun c11 => ?_)
    · have hf := if_n c11 hf
      refine kw_sub [1, 2, 3] _ rfl ?_
      exact kJ10 _ hf
    · have hf := if_p c11 hf
      refine kw_iload C dX10_times_59 0 rfl ?_
      refine kw_if_eq C 68 dX10_times_61 rfl (fun c12 => ?_) (fun c12 => ?_)
      · have hf := if_p c12 hf
        refine kw_iconst C (0 : Int32) dX10_times_68 rfl ?_
        refine kw_sub [1, 2, 3] _ rfl ?_
        exact kJ4 _ hf
      · have hf := if_n c12 hf
        refine kw_sub [1, 2, 3] _ rfl ?_
        exact kJ10 _ hf
  obtain ⟨J13, hJ13, hf⟩ := jnx1_elim hf
  have kJ13 : ∀ (u9 : Unit), J13 u9 = some (r0, σ0) → KW X σ 48 [(0, .ref (g.1 0)), (1, .long p0), (3, .long p1)] [] := by
    clear hf
    intro u9 hf
    have hf := (hJ13 u9).symm.trans hf
    refine kw_iconst C (0 : Int32) dX10_times_48 rfl ?_
    exact kJ2 _ hf
  refine kw_if_eq C 48 dX10_times_3 rfl (fun c14 => ?_) (fun c14 => ?_)
  · have hf := if_p c14 hf
    exact kJ13 _ hf
  · have hf := if_n c14 hf
    refine kw_lload_n C dX10_times_6 rfl 2 rfl ?_
    refine kw_lconst C (0 : Int64) dX10_times_7 rfl ?_
    refine kw_lcmp C dX10_times_8 ?_
    refine kw_if_eq C 48 dX10_times_9 rfl (fun c15 => ?_) (fun c15 => ?_)
    · have hf := if_p c15 hf
      exact kJ13 _ hf
    · have hf := if_n c15 hf
      refine kw_lload_n C dX10_times_12 rfl 2 rfl ?_
      refine kw_lconst C (0 : Int64) dX10_times_13 rfl ?_
      refine kw_lcmp C dX10_times_14 ?_
      obtain ⟨J17, hJ17, hf⟩ := jnx1_elim hf
      have kJ17 : ∀ (x16 : Int64), J17 x16 = some (r0, σ0) → KW X σ 24 [(0, .ref (g.1 0)), (1, .long p0), (3, .long p1)] [.long x16] := by
        clear hf
        intro x16 hf
        have hf := (hJ17 x16).symm.trans hf
        refine kw_ldc2 C dX10_times_24 mk2_X10_318 ?_
        refine kw_lload_n C dX10_times_27 rfl 1 rfl ?_
        refine kw_lconst C (0 : Int64) dX10_times_28 rfl ?_
        refine kw_lcmp C dX10_times_29 ?_
        obtain ⟨J19, hJ19, hf⟩ := jnx1_elim hf
        have kJ19 : ∀ (x18 : Int64), J19 x18 = some (r0, σ0) → KW X σ 39 [(0, .ref (g.1 0)), (1, .long p0), (3, .long p1)] [.long x18, .long (1000000000000 : Int64), .long x16] := by
          clear hf
          intro x18 hf
          have hf := (hJ19 x18).symm.trans hf
          obtain ⟨h20, hf⟩ := gd_elim hf
          refine kw_ldiv C dX10_times_39 h20 ?_
          refine kw_lcmp C dX10_times_40 ?_
          refine kw_if_le C 48 dX10_times_41 rfl (fun c21 => ?_) (fun c21 => ?_)
          · have hf := if_p c21 hf
            exact kJ13 _ hf
          · have hf := if_n c21 hf
            refine kw_iconst C (1 : Int32) dX10_times_44 rfl ?_
            refine kw_goto C 49 dX10_times_45 rfl ?_
            exact kJ2 _ hf
        refine kw_if_ge C 38 dX10_times_30 rfl (fun c22 => ?_) (fun c22 => ?_)
        · have hf := if_p c22 hf
          refine kw_lload_n C dX10_times_38 rfl 1 rfl ?_
          exact kJ19 _ hf
        · have hf := if_n c22 hf
          refine kw_lload_n C dX10_times_33 rfl 1 rfl ?_
          refine kw_lneg C dX10_times_34 ?_
          refine kw_goto C 39 dX10_times_35 rfl ?_
          exact kJ19 _ hf
      refine kw_if_ge C 23 dX10_times_15 rfl (fun c23 => ?_) (fun c23 => ?_)
      · have hf := if_p c23 hf
        refine kw_lload_n C dX10_times_23 rfl 2 rfl ?_
        exact kJ17 _ hf
      · have hf := if_n c23 hf
        refine kw_lload_n C dX10_times_18 rfl 2 rfl ?_
        refine kw_lneg C dX10_times_19 ?_
        refine kw_goto C 24 dX10_times_20 rfl ?_
        exact kJ17 _ hf
set_option maxRecDepth 100000 in
set_option maxHeartbeats 4000000 in
theorem kX10_valueOf (L : Launch) (D : va_G) (g : GwT) (t0 : Nat) (p0 : Int32) (σ : St) (r0 : Int64) (σ0 : St) (hf : fX10_valueOf σ p0 = some (r0, σ0)) : CtL L D (ttG g) (wM g) t0 yX10_valueOf cX10_valueOf 6 (some .long) { frames := 1, cells := 0, slots := 0, locals := 25 } [.ref (g.1 0), .int p0] σ r0 σ0 := by
  refine CtL.of (own := RX10) (by decide) rfl (Nat.le_of_ble_eq_true rfl) [(0, .ref (g.1 0)), (1, .int p0)] rfl ?_
  intro X C hN K
  unfold fX10_valueOf at hf
  refine kw_aload_n C dX10_valueOf_0 rfl 0 rfl ?_
  refine kw_get C inG10 _ (hO10 g σ) rfl 32 (Nat.le_of_ble_eq_true rfl) mf_10_63 rfl rfl dX10_valueOf_1 ?_
  refine kw_iload_n C dX10_valueOf_4 rfl 1 rfl ?_
  obtain ⟨h1, hf⟩ := gd_elim hf
  refine kw_iald C _ 0 (hA10_32 g σ) rfl h1 dX10_valueOf_5 ?_
  refine kw_if_ne C 17 dX10_valueOf_6 rfl (fun c2 => ?_) (fun c2 => ?_)
  · have hf := if_n c2 hf
    refine kw_aload_n C dX10_valueOf_17 rfl 0 rfl ?_
    refine kw_get C inG10 _ (hO10 g σ) rfl 32 (Nat.le_of_ble_eq_true rfl) mf_10_63 rfl rfl dX10_valueOf_18 ?_
    refine kw_iload_n C dX10_valueOf_21 rfl 1 rfl ?_
    obtain ⟨h3, hf⟩ := gd_elim hf
    refine kw_iald C _ 0 (hA10_32 g σ) rfl h3 dX10_valueOf_22 ?_
    refine kw_iconst C (1 : Int32) dX10_valueOf_23 rfl ?_
    refine kw_icmp_ne C 39 dX10_valueOf_24 rfl (fun c4 => ?_) (fun c4 => ?_)
    · have hf := if_n c4 hf
      refine kw_aload_n C dX10_valueOf_39 rfl 0 rfl ?_
      refine kw_get C inG10 _ (hO10 g σ) rfl 44 (Nat.le_of_ble_eq_true rfl) mf_10_82 rfl rfl dX10_valueOf_40 ?_
      refine kw_aload_n C dX10_valueOf_43 rfl 0 rfl ?_
      refine kw_get C inG10 _ (hO10 g σ) rfl 33 (Nat.le_of_ble_eq_true rfl) mf_10_66 rfl rfl dX10_valueOf_44 ?_
      refine kw_iload_n C dX10_valueOf_47 rfl 1 rfl ?_
      obtain ⟨h5, hf⟩ := gd_elim hf
      refine kw_iald C _ 0 (hA10_33 g σ) rfl h5 dX10_valueOf_48 ?_
      obtain ⟨h6, hf⟩ := gd_elim hf
      refine kw_lald C _ 2 (hA10_44 g σ) rfl h6 dX10_valueOf_49 ?_
      obtain ⟨x7, ex7, hf⟩ := lt_elim hf
      refine kw_topl ex7 ?_
      refine kw_lstore_n C dX10_valueOf_50 rfl hN (Nat.le_of_ble_eq_true rfl) [(2, .long x7), (0, .ref (g.1 0)), (1, .int p0)] rfl ?_
      refine kw_aload_n C dX10_valueOf_51 rfl 1 rfl ?_
      refine kw_get C inG10 _ (hO10 g σ) rfl 32 (Nat.le_of_ble_eq_true rfl) mf_10_63 rfl rfl dX10_valueOf_52 ?_
      refine kw_iload_n C dX10_valueOf_55 rfl 2 rfl ?_
      obtain ⟨h8, hf⟩ := gd_elim hf
      refine kw_iald C _ 0 (hA10_32 g σ) rfl h8 dX10_valueOf_56 ?_
      refine kw_iconst C (2 : Int32) dX10_valueOf_57 rfl ?_
      refine kw_icmp_ne C 73 dX10_valueOf_58 rfl (fun c9 => ?_) (fun c9 => ?_)
      · have hf := if_n c9 hf
        refine kw_aload_n C dX10_valueOf_73 rfl 1 rfl ?_
        refine kw_get C inG10 _ (hO10 g σ) rfl 44 (Nat.le_of_ble_eq_true rfl) mf_10_82 rfl rfl dX10_valueOf_74 ?_
        refine kw_aload_n C dX10_valueOf_77 rfl 1 rfl ?_
        refine kw_get C inG10 _ (hO10 g σ) rfl 34 (Nat.le_of_ble_eq_true rfl) mf_10_69 rfl rfl dX10_valueOf_78 ?_
        refine kw_iload_n C dX10_valueOf_81 rfl 2 rfl ?_
        obtain ⟨h10, hf⟩ := gd_elim hf
        refine kw_iald C _ 0 (hA10_34 g σ) rfl h10 dX10_valueOf_82 ?_
        obtain ⟨h11, hf⟩ := gd_elim hf
        refine kw_lald C _ 2 (hA10_44 g σ) rfl h11 dX10_valueOf_83 ?_
        obtain ⟨x12, ex12, hf⟩ := lt_elim hf
        refine kw_topl ex12 ?_
        refine kw_lstore C dX10_valueOf_84 hN (Nat.le_of_ble_eq_true rfl) [(4, .long x12), (2, .long x7), (0, .ref (g.1 0)), (1, .int p0)] rfl ?_
        refine kw_aload_n C dX10_valueOf_86 rfl 2 rfl ?_
        refine kw_get C inG10 _ (hO10 g σ) rfl 32 (Nat.le_of_ble_eq_true rfl) mf_10_63 rfl rfl dX10_valueOf_87 ?_
        refine kw_iload_n C dX10_valueOf_90 rfl 3 rfl ?_
        obtain ⟨h13, hf⟩ := gd_elim hf
        refine kw_iald C _ 0 (hA10_32 g σ) rfl h13 dX10_valueOf_91 ?_
        obtain ⟨x14, ex14, hf⟩ := lt_elim hf
        refine kw_topi ex14 ?_
        obtain ⟨J15, hJ15, hf⟩ := jnx1_elim hf
        have kJ15 : ∀ (u9 : Unit), J15 u9 = some (r0, σ0) → KW X σ 259 [(0, .ref (g.1 0)), (1, .int p0), (2, .long x7), (4, .long x12)] [] := by
          clear hf
          intro u9 hf
          have hf := (hJ15 u9).symm.trans hf
          refine kw_aload_n C dX10_valueOf_259 rfl 0 rfl ?_
          refine kw_get C inG10 _ (hO10 g σ) rfl 32 (Nat.le_of_ble_eq_true rfl) mf_10_63 rfl rfl dX10_valueOf_260 ?_
          refine kw_iload_n C dX10_valueOf_263 rfl 1 rfl ?_
          obtain ⟨h16, hf⟩ := gd_elim hf
          refine kw_iald C _ 0 (hA10_32 g σ) rfl h16 dX10_valueOf_264 ?_
          refine kw_lload_n C dX10_valueOf_265 rfl 2 rfl ?_
          refine kw_lload C dX10_valueOf_266 3 rfl ?_
          obtain ⟨r18, hc17, hf⟩ := bd_elim hf
          refine kw_callSI C [.int (gA σ 0 32 (Int32.toNatClampNeg p0)), .long x7, .long x12] (kX10_compares L D g t0 (gA σ 0 32 (Int32.toNatClampNeg p0)) x7 x12 σ _ hc17) mS_X10_330 ⟨rfl, rfl⟩ dd_X10_compares ⟨Nat.le_of_ble_eq_true rfl, Nat.le_of_ble_eq_true rfl⟩ rfl (Nat.le_of_ble_eq_true rfl) dX10_valueOf_268 ?_
          obtain ⟨J20, hJ20, hf⟩ := jnx1_elim hf
          have kJ20 : ∀ (x19 : Int64), J20 x19 = some (r0, σ0) → KW X σ 279 [] [.long x19] := by
            clear hf
            intro x19 hf
            have hf := (hJ20 x19).symm.trans hf
            exact kw_lret C K dX10_valueOf_279 hf
          refine kw_if_eq C 278 dX10_valueOf_271 rfl (fun c21 => ?_) (fun c21 => ?_)
          · have hf := if_p c21 hf
            refine kw_lconst C (0 : Int64) dX10_valueOf_278 rfl ?_
            refine kw_sub [] _ rfl ?_
            exact kJ20 _ hf
          · have hf := if_n c21 hf
            refine kw_lconst C (1 : Int64) dX10_valueOf_274 rfl ?_
            refine kw_goto C 279 dX10_valueOf_275 rfl ?_
            refine kw_sub [] _ rfl ?_
            exact kJ20 _ hf
        by_cases c22 : x14 = (3 : Int32)
        · have hf := if_p c22 hf
          refine kw_tabIn C 156 dX10_valueOf_92 c22 (by decide) (by decide) rfl rfl ?_
          refine kw_lload_n C dX10_valueOf_156 rfl 1 rfl ?_
          refine kw_lconst C (0 : Int64) dX10_valueOf_157 rfl ?_
          refine kw_lcmp C dX10_valueOf_158 ?_
          obtain ⟨J24, hJ24, hf⟩ := jnx1_elim hf
          have kJ24 : ∀ (x23 : Int64), J24 x23 = some (r0, σ0) → KW X σ 174 [] [.long x23] := by
            clear hf
            intro x23 hf
            have hf := (hJ24 x23).symm.trans hf
            exact kw_lret C K dX10_valueOf_174 hf
          obtain ⟨J25, hJ25, hf⟩ := jnx1_elim hf
          have kJ25 : ∀ (u9 : Unit), J25 u9 = some (r0, σ0) → KW X σ 173 [] [] := by
            clear hf
            intro u9 hf
            have hf := (hJ25 u9).symm.trans hf
            refine kw_lconst C (0 : Int64) dX10_valueOf_173 rfl ?_
            exact kJ24 _ hf
          refine kw_if_eq C 173 dX10_valueOf_159 rfl (fun c26 => ?_) (fun c26 => ?_)
          · have hf := if_p c26 hf
            refine kw_sub [] _ rfl ?_
            exact kJ25 _ hf
          · have hf := if_n c26 hf
            refine kw_lload C dX10_valueOf_162 0 rfl ?_
            refine kw_lconst C (0 : Int64) dX10_valueOf_164 rfl ?_
            refine kw_lcmp C dX10_valueOf_165 ?_
            refine kw_if_eq C 173 dX10_valueOf_166 rfl (fun c27 => ?_) (fun c27 => ?_)
            · have hf := if_p c27 hf
              refine kw_sub [] _ rfl ?_
              exact kJ25 _ hf
            · have hf := if_n c27 hf
              refine kw_lconst C (1 : Int64) dX10_valueOf_169 rfl ?_
              refine kw_goto C 174 dX10_valueOf_170 rfl ?_
              refine kw_sub [] _ rfl ?_
              exact kJ24 _ hf
        have hf := if_n c22 hf
        by_cases c28 : x14 = (4 : Int32)
        · have hf := if_p c28 hf
          refine kw_tabIn C 175 dX10_valueOf_92 c28 (by decide) (by decide) rfl rfl ?_
          refine kw_lload_n C dX10_valueOf_175 rfl 1 rfl ?_
          refine kw_lconst C (0 : Int64) dX10_valueOf_176 rfl ?_
          refine kw_lcmp C dX10_valueOf_177 ?_
          obtain ⟨J30, hJ30, hf⟩ := jnx1_elim hf
          have kJ30 : ∀ (x29 : Int64), J30 x29 = some (r0, σ0) → KW X σ 193 [] [.long x29] := by
            clear hf
            intro x29 hf
            have hf := (hJ30 x29).symm.trans hf
            exact kw_lret C K dX10_valueOf_193 hf
          obtain ⟨J31, hJ31, hf⟩ := jnx1_elim hf
          have kJ31 : ∀ (u9 : Unit), J31 u9 = some (r0, σ0) → KW X σ 188 [] [] := by
            clear hf
            intro u9 hf
            have hf := (hJ31 u9).symm.trans hf
            refine kw_lconst C (1 : Int64) dX10_valueOf_188 rfl ?_
            refine kw_goto C 193 dX10_valueOf_189 rfl ?_
            exact kJ30 _ hf
          refine kw_if_ne C 188 dX10_valueOf_178 rfl (fun c32 => ?_) (fun c32 => ?_)
          · have hf := if_n c32 hf
            refine kw_sub [] _ rfl ?_
            exact kJ31 _ hf
          · have hf := if_p c32 hf
            refine kw_lload C dX10_valueOf_181 0 rfl ?_
            refine kw_lconst C (0 : Int64) dX10_valueOf_183 rfl ?_
            refine kw_lcmp C dX10_valueOf_184 ?_
            refine kw_if_eq C 192 dX10_valueOf_185 rfl (fun c33 => ?_) (fun c33 => ?_)
            · have hf := if_p c33 hf
              refine kw_lconst C (0 : Int64) dX10_valueOf_192 rfl ?_
              refine kw_sub [] _ rfl ?_
              exact kJ30 _ hf
            · have hf := if_n c33 hf
              refine kw_sub [] _ rfl ?_
              exact kJ31 _ hf
        have hf := if_n c28 hf
        by_cases c34 : x14 = (5 : Int32)
        · have hf := if_p c34 hf
          refine kw_tabIn C 259 dX10_valueOf_92 c34 (by decide) (by decide) rfl rfl ?_
          refine kw_sub [2, 3, 1, 0] _ rfl ?_
          exact kJ15 _ hf
        have hf := if_n c34 hf
        by_cases c35 : x14 = (6 : Int32)
        · have hf := if_p c35 hf
          refine kw_tabIn C 259 dX10_valueOf_92 c35 (by decide) (by decide) rfl rfl ?_
          refine kw_sub [2, 3, 1, 0] _ rfl ?_
          exact kJ15 _ hf
        have hf := if_n c35 hf
        by_cases c36 : x14 = (7 : Int32)
        · have hf := if_p c36 hf
          refine kw_tabIn C 259 dX10_valueOf_92 c36 (by decide) (by decide) rfl rfl ?_
          refine kw_sub [2, 3, 1, 0] _ rfl ?_
          exact kJ15 _ hf
        have hf := if_n c36 hf
        by_cases c37 : x14 = (8 : Int32)
        · have hf := if_p c37 hf
          refine kw_tabIn C 259 dX10_valueOf_92 c37 (by decide) (by decide) rfl rfl ?_
          refine kw_sub [2, 3, 1, 0] _ rfl ?_
          exact kJ15 _ hf
        have hf := if_n c37 hf
        by_cases c38 : x14 = (9 : Int32)
        · have hf := if_p c38 hf
          refine kw_tabIn C 259 dX10_valueOf_92 c38 (by decide) (by decide) rfl rfl ?_
          refine kw_sub [2, 3, 1, 0] _ rfl ?_
          exact kJ15 _ hf
        have hf := if_n c38 hf
        by_cases c39 : x14 = (10 : Int32)
        · have hf := if_p c39 hf
          refine kw_tabIn C 259 dX10_valueOf_92 c39 (by decide) (by decide) rfl rfl ?_
          refine kw_sub [2, 3, 1, 0] _ rfl ?_
          exact kJ15 _ hf
        have hf := if_n c39 hf
        by_cases c40 : x14 = (11 : Int32)
        · have hf := if_p c40 hf
          refine kw_tabIn C 194 dX10_valueOf_92 c40 (by decide) (by decide) rfl rfl ?_
          refine kw_aload_n C dX10_valueOf_194 rfl 2 rfl ?_
          refine kw_lload_n C dX10_valueOf_195 rfl 1 rfl ?_
          refine kw_lload C dX10_valueOf_196 0 rfl ?_
          refine kw_ladd C dX10_valueOf_198 ?_
          obtain ⟨r42, σ43, hc41, hf⟩ := bL_elim hf
          refine kw_callVL C [.long (x7 + x12)] (kX10_bounded L D g t0 (x7 + x12) σ _ _ hc41) RX10 mV_X10_322 ⟨rfl, rfl⟩ dd_X10_bounded ⟨Nat.le_of_ble_eq_true rfl, Nat.le_of_ble_eq_true rfl⟩ _ (hO10 g σ) rfl rfl rfl (Nat.le_of_ble_eq_true rfl) dX10_valueOf_199 ?_
          exact kw_lret C K dX10_valueOf_202 hf
        have hf := if_n c40 hf
        by_cases c44 : x14 = (12 : Int32)
        · have hf := if_p c44 hf
          refine kw_tabIn C 203 dX10_valueOf_92 c44 (by decide) (by decide) rfl rfl ?_
          refine kw_aload_n C dX10_valueOf_203 rfl 2 rfl ?_
          refine kw_lload_n C dX10_valueOf_204 rfl 1 rfl ?_
          refine kw_lload C dX10_valueOf_205 0 rfl ?_
          refine kw_lsub C dX10_valueOf_207 ?_
          obtain ⟨r46, σ47, hc45, hf⟩ := bL_elim hf
          refine kw_callVL C [.long (x7 - x12)] (kX10_bounded L D g t0 (x7 - x12) σ _ _ hc45) RX10 mV_X10_322 ⟨rfl, rfl⟩ dd_X10_bounded ⟨Nat.le_of_ble_eq_true rfl, Nat.le_of_ble_eq_true rfl⟩ _ (hO10 g σ) rfl rfl rfl (Nat.le_of_ble_eq_true rfl) dX10_valueOf_208 ?_
          exact kw_lret C K dX10_valueOf_211 hf
        have hf := if_n c44 hf
        by_cases c48 : x14 = (13 : Int32)
        · have hf := if_p c48 hf
          refine kw_tabIn C 212 dX10_valueOf_92 c48 (by decide) (by decide) rfl rfl ?_
          refine kw_aload_n C dX10_valueOf_212 rfl 2 rfl ?_
          refine kw_lload_n C dX10_valueOf_213 rfl 1 rfl ?_
          refine kw_lload C dX10_valueOf_214 0 rfl ?_
          obtain ⟨r50, σ51, hc49, hf⟩ := bL_elim hf
          refine kw_callVL C [.long x7, .long x12] (kX10_times L D g t0 x7 x12 σ _ _ hc49) RX10 mV_X10_326 ⟨rfl, rfl⟩ dd_X10_times ⟨Nat.le_of_ble_eq_true rfl, Nat.le_of_ble_eq_true rfl⟩ _ (hO10 g σ) rfl rfl rfl (Nat.le_of_ble_eq_true rfl) dX10_valueOf_216 ?_
          exact kw_lret C K dX10_valueOf_219 hf
        have hf := if_n c48 hf
        by_cases c52 : x14 = (14 : Int32)
        · have hf := if_p c52 hf
          refine kw_tabIn C 220 dX10_valueOf_92 c52 (by decide) (by decide) rfl rfl ?_
          refine kw_aload_n C dX10_valueOf_220 rfl 2 rfl ?_
          refine kw_aload_n C dX10_valueOf_221 rfl 2 rfl ?_
          refine kw_get C inG10 _ (hO10 g σ) rfl 45 (Nat.le_of_ble_eq_true rfl) mf_10_315 rfl rfl dX10_valueOf_222 ?_
          obtain ⟨J54, hJ54, hf⟩ := jnx1_elim hf
          have kJ54 : ∀ (x53 : Int32), J54 x53 = some (r0, σ0) → KW X σ 240 [(0, .ref (g.1 0)), (2, .long x7), (4, .long x12)] [.int x53, .ref (g.1 0)] := by
            clear hf
            intro x53 hf
            have hf := (hJ54 x53).symm.trans hf
            obtain ⟨h55, hf⟩ := gd_elim hf
            obtain ⟨σ56, eσ56, hf⟩ := lt_elim hf
            refine kw_put C inG10 tyX10 tyX10_ok nmX10 _ (hO10 g σ) rfl 45 (Nat.le_of_ble_eq_true rfl) mf_10_315 rfl rfl (tyX10_ok 45 (Nat.le_of_ble_eq_true rfl)) (narrow_bz h55) (fits_bz h55) (Nat.le_of_ble_eq_true rfl) ((hF10_45 g σ _).trans (congrArg (wM g) eσ56.symm)) dX10_valueOf_240 ?_
            refine kw_aload_n C dX10_valueOf_243 rfl 0 rfl ?_
            refine kw_get C inG10 _ (hO10 g σ56) rfl 45 (Nat.le_of_ble_eq_true rfl) mf_10_315 rfl rfl dX10_valueOf_244 ?_
            obtain ⟨J58, hJ58, hf⟩ := jnx1_elim hf
            have kJ58 : ∀ (x57 : Int64), J58 x57 = some (r0, σ0) → KW X σ56 258 [] [.long x57] := by
              clear hf
              intro x57 hf
              have hf := (hJ58 x57).symm.trans hf
              exact kw_lret C K dX10_valueOf_258 hf
            refine kw_if_eq C 254 dX10_valueOf_247 rfl (fun c59 => ?_) (fun c59 => ?_)
            · have hf := if_p c59 hf
              refine kw_lload_n C dX10_valueOf_254 rfl 1 rfl ?_
              refine kw_lload C dX10_valueOf_255 2 rfl ?_
              obtain ⟨h60, hf⟩ := gd_elim hf
              refine kw_ldiv C dX10_valueOf_257 h60 ?_
              refine kw_sub [] _ rfl ?_
              exact kJ58 _ hf
            · have hf := if_n c59 hf
              refine kw_lconst C (0 : Int64) dX10_valueOf_250 rfl ?_
              refine kw_goto C 258 dX10_valueOf_251 rfl ?_
              refine kw_sub [] _ rfl ?_
              exact kJ58 _ hf
          obtain ⟨J61, hJ61, hf⟩ := jnx1_elim hf
          have kJ61 : ∀ (u9 : Unit), J61 u9 = some (r0, σ0) → KW X σ 235 [(0, .ref (g.1 0)), (2, .long x7), (4, .long x12)] [.ref (g.1 0)] := by
            clear hf
            intro u9 hf
            have hf := (hJ61 u9).symm.trans hf
            refine kw_iconst C (1 : Int32) dX10_valueOf_235 rfl ?_
            refine kw_goto C 240 dX10_valueOf_236 rfl ?_
            exact kJ54 _ hf
          refine kw_if_ne C 235 dX10_valueOf_225 rfl (fun c62 => ?_) (fun c62 => ?_)
          · have hf := if_n c62 hf
            refine kw_sub [2, 1, 0] _ rfl ?_
            exact kJ61 _ hf
          · have hf := if_p c62 hf
            refine kw_lload C dX10_valueOf_228 0 rfl ?_
            refine kw_lconst C (0 : Int64) dX10_valueOf_230 rfl ?_
            refine kw_lcmp C dX10_valueOf_231 ?_
            refine kw_if_ne C 239 dX10_valueOf_232 rfl (fun c63 => ?_) (fun c63 => ?_)
            · have hf := if_n c63 hf
              refine kw_iconst C (0 : Int32) dX10_valueOf_239 rfl ?_
              refine kw_sub [2, 1, 0] _ rfl ?_
              exact kJ54 _ hf
            · have hf := if_p c63 hf
              refine kw_sub [2, 1, 0] _ rfl ?_
              exact kJ61 _ hf
        have hf := if_n c52 hf
        have c22_ : x14.toInt ≠ 3 := ne_ti c22
        have c28_ : x14.toInt ≠ 4 := ne_ti c28
        have c34_ : x14.toInt ≠ 5 := ne_ti c34
        have c35_ : x14.toInt ≠ 6 := ne_ti c35
        have c36_ : x14.toInt ≠ 7 := ne_ti c36
        have c37_ : x14.toInt ≠ 8 := ne_ti c37
        have c38_ : x14.toInt ≠ 9 := ne_ti c38
        have c39_ : x14.toInt ≠ 10 := ne_ti c39
        have c40_ : x14.toInt ≠ 11 := ne_ti c40
        have c44_ : x14.toInt ≠ 12 := ne_ti c44
        have c48_ : x14.toInt ≠ 13 := ne_ti c48
        have c52_ : x14.toInt ≠ 14 := ne_ti c52
        refine kw_tabOut C 259 dX10_valueOf_92 (by omega) rfl ?_
        refine kw_sub [2, 3, 1, 0] _ rfl ?_
        exact kJ15 _ hf
      · have hf := if_p c9 hf
        refine kw_lload_n C dX10_valueOf_61 rfl 0 rfl ?_
        refine kw_lconst C (0 : Int64) dX10_valueOf_62 rfl ?_
        refine kw_lcmp C dX10_valueOf_63 ?_
        obtain ⟨J65, hJ65, hf⟩ := jnx1_elim hf
        have kJ65 : ∀ (x64 : Int64), J65 x64 = some (r0, σ0) → KW X σ 72 [] [.long x64] := by
          clear hf
          intro x64 hf
          have hf := (hJ65 x64).symm.trans hf
          exact kw_lret C K dX10_valueOf_72 hf
        refine kw_if_ne C 71 dX10_valueOf_64 rfl (fun c66 => ?_) (fun c66 => ?_)
        · have hf := if_n c66 hf
          refine kw_lconst C (0 : Int64) dX10_valueOf_71 rfl ?_
          refine kw_sub [] _ rfl ?_
          exact kJ65 _ hf
        · have hf := if_p c66 hf
          refine kw_lconst C (1 : Int64) dX10_valueOf_67 rfl ?_
          refine kw_goto C 72 dX10_valueOf_68 rfl ?_
          refine kw_sub [] _ rfl ?_
          exact kJ65 _ hf
    · have hf := if_p c4 hf
      refine kw_aload_n C dX10_valueOf_27 rfl 0 rfl ?_
      refine kw_get C inG10 _ (hO10 g σ) rfl 43 (Nat.le_of_ble_eq_true rfl) mf_10_78 rfl rfl dX10_valueOf_28 ?_
      refine kw_aload_n C dX10_valueOf_31 rfl 0 rfl ?_
      refine kw_get C inG10 _ (hO10 g σ) rfl 33 (Nat.le_of_ble_eq_true rfl) mf_10_66 rfl rfl dX10_valueOf_32 ?_
      refine kw_iload_n C dX10_valueOf_35 rfl 1 rfl ?_
      obtain ⟨h67, hf⟩ := gd_elim hf
      refine kw_iald C _ 0 (hA10_33 g σ) rfl h67 dX10_valueOf_36 ?_
      obtain ⟨h68, hf⟩ := gd_elim hf
      refine kw_lald C _ 2 (hA10_43 g σ) rfl h68 dX10_valueOf_37 ?_
      exact kw_lret C K dX10_valueOf_38 hf
  · have hf := if_p c2 hf
    refine kw_aload_n C dX10_valueOf_9 rfl 0 rfl ?_
    refine kw_get C inG10 _ (hO10 g σ) rfl 33 (Nat.le_of_ble_eq_true rfl) mf_10_66 rfl rfl dX10_valueOf_10 ?_
    refine kw_iload_n C dX10_valueOf_13 rfl 1 rfl ?_
    obtain ⟨h69, hf⟩ := gd_elim hf
    refine kw_iald C _ 0 (hA10_33 g σ) rfl h69 dX10_valueOf_14 ?_
    refine kw_i2l C dX10_valueOf_15 ?_
    exact kw_lret C K dX10_valueOf_16 hf
set_option maxRecDepth 100000 in
set_option maxHeartbeats 4000000 in
theorem kX10_lawOf (L : Launch) (D : va_G) (g : GwT) (t0 : Nat) (p0 : Int32) (σ : St) (r0 : Int64) (σ0 : St) (hf : fX10_lawOf σ p0 = some (r0, σ0)) : CtL L D (ttG g) (wM g) t0 yX10_lawOf cX10_lawOf 3 (some .long) { frames := 2, cells := 0, slots := 0, locals := 50 } [.ref (g.1 0), .int p0] σ r0 σ0 := by
  refine CtL.of (own := RX10) (by decide) rfl (Nat.le_of_ble_eq_true rfl) [(0, .ref (g.1 0)), (1, .int p0)] rfl ?_
  intro X C hN K
  unfold fX10_lawOf at hf
  refine kw_aload_n C dX10_lawOf_0 rfl 0 rfl ?_
  refine kw_iconst C (0 : Int32) dX10_lawOf_1 rfl ?_
  obtain ⟨σ1, eσ1, hf⟩ := lt_elim hf
  refine kw_put C inG10 tyX10 tyX10_ok nmX10 _ (hO10 g σ) rfl 45 (Nat.le_of_ble_eq_true rfl) mf_10_315 rfl rfl (tyX10_ok 45 (Nat.le_of_ble_eq_true rfl)) (narrow_bz (by decide)) (fits_bz (by decide)) (Nat.le_of_ble_eq_true rfl) ((hF10_45 g σ _).trans (congrArg (wM g) eσ1.symm)) dX10_lawOf_2 ?_
  refine kw_aload_n C dX10_lawOf_5 rfl 0 rfl ?_
  refine kw_get C inG10 _ (hO10 g σ1) rfl 30 (Nat.le_of_ble_eq_true rfl) mf_10_57 rfl rfl dX10_lawOf_6 ?_
  refine kw_iload_n C dX10_lawOf_9 rfl 1 rfl ?_
  obtain ⟨h2, hf⟩ := gd_elim hf
  refine kw_iald C _ 0 (hA10_30 g σ1) rfl h2 dX10_lawOf_10 ?_
  obtain ⟨x3, ex3, hf⟩ := lt_elim hf
  refine kw_topi ex3 ?_
  refine kw_istore_n C dX10_lawOf_11 rfl hN (Nat.le_of_ble_eq_true rfl) [(2, .int x3), (0, .ref (g.1 0)), (1, .int p0)] rfl ?_
  refine kw_sub [1, 2, 0] _ rfl ?_
  refine lpx2_walk (P := fun (x4 : Int32) (σ5 : St) => KW X σ5 12 [(0, .ref (g.1 0)), (1, .int p0), (2, .int x4)] []) ?_ FU _ _ hf
  intro self6 x4 σ5 ih7 hf
  refine kw_iload_n C dX10_lawOf_12 rfl 2 rfl ?_
  refine kw_aload_n C dX10_lawOf_13 rfl 0 rfl ?_
  refine kw_get C inG10 _ (hO10 g σ5) rfl 31 (Nat.le_of_ble_eq_true rfl) mf_10_60 rfl rfl dX10_lawOf_14 ?_
  refine kw_iload_n C dX10_lawOf_17 rfl 1 rfl ?_
  obtain ⟨h8, hf⟩ := gd_elim hf
  refine kw_iald C _ 0 (hA10_31 g σ5) rfl h8 dX10_lawOf_18 ?_
  refine kw_icmp_ge C 39 dX10_lawOf_19 rfl (fun c9 => ?_) (fun c9 => ?_)
  · have hf := if_p c9 hf
    refine kw_aload_n C dX10_lawOf_39 rfl 0 rfl ?_
    refine kw_get C inG10 _ (hO10 g σ5) rfl 45 (Nat.le_of_ble_eq_true rfl) mf_10_315 rfl rfl dX10_lawOf_40 ?_
    obtain ⟨J11, hJ11, hf⟩ := jnx1_elim hf
    have kJ11 : ∀ (x10 : Int64), J11 x10 = some (r0, σ0) → KW X σ5 63 [] [.long x10] := by
      clear hf
      intro x10 hf
      have hf := (hJ11 x10).symm.trans hf
      exact kw_lret C K dX10_lawOf_63 hf
    refine kw_if_eq C 50 dX10_lawOf_43 rfl (fun c12 => ?_) (fun c12 => ?_)
    · have hf := if_p c12 hf
      refine kw_aload_n C dX10_lawOf_50 rfl 0 rfl ?_
      refine kw_get C inG10 _ (hO10 g σ5) rfl 44 (Nat.le_of_ble_eq_true rfl) mf_10_82 rfl rfl dX10_lawOf_51 ?_
      refine kw_aload_n C dX10_lawOf_54 rfl 0 rfl ?_
      refine kw_get C inG10 _ (hO10 g σ5) rfl 31 (Nat.le_of_ble_eq_true rfl) mf_10_60 rfl rfl dX10_lawOf_55 ?_
      refine kw_iload_n C dX10_lawOf_58 rfl 1 rfl ?_
      obtain ⟨h13, hf⟩ := gd_elim hf
      refine kw_iald C _ 0 (hA10_31 g σ5) rfl h13 dX10_lawOf_59 ?_
      refine kw_iconst C (1 : Int32) dX10_lawOf_60 rfl ?_
      refine kw_isub C dX10_lawOf_61 ?_
      obtain ⟨h14, hf⟩ := gd_elim hf
      refine kw_lald C _ 2 (hA10_44 g σ5) rfl h14 dX10_lawOf_62 ?_
      refine kw_sub [] _ rfl ?_
      exact kJ11 _ hf
    · have hf := if_n c12 hf
      refine kw_lconst C (0 : Int64) dX10_lawOf_46 rfl ?_
      refine kw_goto C 63 dX10_lawOf_47 rfl ?_
      refine kw_sub [] _ rfl ?_
      exact kJ11 _ hf
  · have hf := if_n c9 hf
    refine kw_aload_n C dX10_lawOf_22 rfl 0 rfl ?_
    refine kw_get C inG10 _ (hO10 g σ5) rfl 44 (Nat.le_of_ble_eq_true rfl) mf_10_82 rfl rfl dX10_lawOf_23 ?_
    refine kw_iload_n C dX10_lawOf_26 rfl 2 rfl ?_
    refine kw_aload_n C dX10_lawOf_27 rfl 0 rfl ?_
    refine kw_iload_n C dX10_lawOf_28 rfl 2 rfl ?_
    obtain ⟨r16, σ17, hc15, hf⟩ := bL_elim hf
    refine kw_callVL C [.int x4] (kX10_valueOf L D g t0 x4 σ5 _ _ hc15) RX10 mV_X10_371 ⟨rfl, rfl⟩ dd_X10_valueOf ⟨Nat.le_of_ble_eq_true rfl, Nat.le_of_ble_eq_true rfl⟩ _ (hO10 g σ5) rfl rfl rfl (Nat.le_of_ble_eq_true rfl) dX10_lawOf_29 ?_
    obtain ⟨h18, hf⟩ := gd_elim hf
    obtain ⟨σ19, eσ19, hf⟩ := lt_elim hf
    refine kw_last C _ 2 (hA10_44 g σ17) rfl h18 ((hS10_44 g σ17 _).trans (congrArg (wM g) eσ19.symm)) dX10_lawOf_32 ?_
    obtain ⟨x20, ex20, hf⟩ := lt_elim hf
    refine kw_iinc C x20 dX10_lawOf_33 2 rfl ex20.symm hN (Nat.le_of_ble_eq_true rfl) [(2, .int x20), (0, .ref (g.1 0)), (1, .int p0)] rfl ?_
    refine kw_goto C 12 dX10_lawOf_36 rfl ?_
    refine kw_sub [1, 2, 0] _ rfl ?_
    exact ih7 _ _ hf
set_option maxRecDepth 100000 in
set_option maxHeartbeats 4000000 in
theorem kX10_law (L : Launch) (D : va_G) (g : GwT) (t0 : Nat) (p0 : Int32) (p1 : Int32) (σ : St) (r0 : Int64) (σ0 : St) (hf : fX10_law σ p0 p1 = some (r0, σ0)) : CtL L D (ttG g) (wM g) t0 yX10_law cX10_law 5 (some .long) { frames := 3, cells := 0, slots := 0, locals := 72 } [.ref (g.1 0), .int p0, .int p1] σ r0 σ0 := by
  refine CtL.of (own := RX10) (by decide) rfl (Nat.le_of_ble_eq_true rfl) [(0, .ref (g.1 0)), (1, .int p0), (2, .int p1)] rfl ?_
  intro X C hN K
  unfold fX10_law at hf
  refine kw_aload_n C dX10_law_0 rfl 0 rfl ?_
  refine kw_iconst C (0 : Int32) dX10_law_1 rfl ?_
  obtain ⟨σ1, eσ1, hf⟩ := lt_elim hf
  refine kw_put C inG10 tyX10 tyX10_ok nmX10 _ (hO10 g σ) rfl 2 (Nat.le_of_ble_eq_true rfl) mf_10_151 rfl rfl (tyX10_ok 2 (Nat.le_of_ble_eq_true rfl)) rfl rfl (Nat.le_of_ble_eq_true rfl) ((hF10_2 g σ _).trans (congrArg (wM g) eσ1.symm)) dX10_law_2 ?_
  refine kw_iload_n C dX10_law_5 rfl 1 rfl ?_
  refine kw_iconst C (0 : Int32) dX10_law_6 rfl ?_
  refine kw_iconst C (2 : Int32) dX10_law_7 rfl ?_
  obtain ⟨r3, hc2, hf⟩ := bd_elim hf
  refine kw_callSI C [.int p0, .int (0 : Int32), .int (2 : Int32)] (kX10_isIn L D g t0 p0 (0 : Int32) (2 : Int32) σ1 _ hc2) mS_X10_196 ⟨rfl, rfl⟩ dd_X10_isIn ⟨Nat.le_of_ble_eq_true rfl, Nat.le_of_ble_eq_true rfl⟩ rfl (Nat.le_of_ble_eq_true rfl) dX10_law_8 ?_
  obtain ⟨J4, hJ4, hf⟩ := jnx1_elim hf
  have kJ4 : ∀ (u9 : Unit), J4 u9 = some (r0, σ0) → KW X σ1 31 [] [] := by
    clear hf
    intro u9 hf
    have hf := (hJ4 u9).symm.trans hf
    refine kw_ldc2 C dX10_law_31 mk2_X10_439 ?_
    exact kw_lret C K dX10_law_34 hf
  refine kw_if_eq C 31 dX10_law_11 rfl (fun c5 => ?_) (fun c5 => ?_)
  · have hf := if_p c5 hf
    refine kw_sub [] _ rfl ?_
    exact kJ4 _ hf
  · have hf := if_n c5 hf
    refine kw_aload_n C dX10_law_14 rfl 0 rfl ?_
    refine kw_get C inG10 _ (hO10 g σ1) rfl 29 (Nat.le_of_ble_eq_true rfl) mf_10_54 rfl rfl dX10_law_15 ?_
    refine kw_iload_n C dX10_law_18 rfl 1 rfl ?_
    obtain ⟨h6, hf⟩ := gd_elim hf
    refine kw_zald C _ 3 (hA10_29 g σ1) rfl h6 dX10_law_19 ?_
    refine kw_if_eq C 31 dX10_law_20 rfl (fun c7 => ?_) (fun c7 => ?_)
    · have hf := if_p c7 hf
      refine kw_sub [] _ rfl ?_
      exact kJ4 _ hf
    · have hf := if_n c7 hf
      refine kw_aload_n C dX10_law_23 rfl 0 rfl ?_
      refine kw_iload_n C dX10_law_24 rfl 2 rfl ?_
      obtain ⟨r9, hc8, hf⟩ := bd_elim hf
      refine kw_callVI C [.int p1] (kX10_isHouse L D g t0 p1 σ1 _ hc8) RX10 mV_X10_368 ⟨rfl, rfl⟩ dd_X10_isHouse ⟨Nat.le_of_ble_eq_true rfl, Nat.le_of_ble_eq_true rfl⟩ _ (hO10 g σ1) rfl rfl rfl (Nat.le_of_ble_eq_true rfl) dX10_law_25 ?_
      refine kw_if_ne C 35 dX10_law_28 rfl (fun c10 => ?_) (fun c10 => ?_)
      · have hf := if_n c10 hf
        refine kw_aload_n C dX10_law_35 rfl 0 rfl ?_
        obtain ⟨σ12, hc11, hf⟩ := bV_elim hf
        refine kw_callVV C [] (kX10_plainTried L D g t0 σ1 _ hc11) RX10 mV_X10_341 ⟨rfl, rfl⟩ dd_X10_plainTried ⟨Nat.le_of_ble_eq_true rfl, Nat.le_of_ble_eq_true rfl⟩ _ (hO10 g σ1) rfl rfl rfl (Nat.le_of_ble_eq_true rfl) dX10_law_36 ?_
        refine kw_aload_n C dX10_law_39 rfl 0 rfl ?_
        refine kw_iconst C (0 : Int32) dX10_law_40 rfl ?_
        refine kw_iload_n C dX10_law_41 rfl 2 rfl ?_
        obtain ⟨σ14, hc13, hf⟩ := bV_elim hf
        refine kw_callVV C [.int (0 : Int32), .int p1] (kX10_layNames L D g t0 (0 : Int32) p1 σ12 _ hc13) RX10 mV_X10_378 ⟨rfl, rfl⟩ dd_X10_layNames ⟨Nat.le_of_ble_eq_true rfl, Nat.le_of_ble_eq_true rfl⟩ _ (hO10 g σ12) rfl rfl rfl (Nat.le_of_ble_eq_true rfl) dX10_law_42 ?_
        refine kw_aload_n C dX10_law_45 rfl 0 rfl ?_
        refine kw_iload_n C dX10_law_46 rfl 1 rfl ?_
        obtain ⟨r16, σ17, hc15, hf⟩ := bL_elim hf
        refine kw_callVL C [.int p0] (kX10_lawOf L D g t0 p0 σ14 _ _ hc15) RX10 mV_X10_375 ⟨rfl, rfl⟩ dd_X10_lawOf ⟨Nat.le_of_ble_eq_true rfl, Nat.le_of_ble_eq_true rfl⟩ _ (hO10 g σ14) rfl rfl rfl (Nat.le_of_ble_eq_true rfl) dX10_law_47 ?_
        refine kw_lstore_n C dX10_law_50 rfl hN (Nat.le_of_ble_eq_true rfl) [(3, .long r16), (0, .ref (g.1 0)), (1, .int p0), (2, .int p1)] rfl ?_
        refine kw_aload_n C dX10_law_51 rfl 1 rfl ?_
        refine kw_get C inG10 _ (hO10 g σ17) rfl 45 (Nat.le_of_ble_eq_true rfl) mf_10_315 rfl rfl dX10_law_52 ?_
        obtain ⟨J19, hJ19, hf⟩ := jnx1_elim hf
        have kJ19 : ∀ (x18 : Int64), J19 x18 = some (r0, σ0) → KW X σ17 65 [] [.long x18] := by
          clear hf
          intro x18 hf
          have hf := (hJ19 x18).symm.trans hf
          exact kw_lret C K dX10_law_65 hf
        refine kw_if_eq C 64 dX10_law_55 rfl (fun c20 => ?_) (fun c20 => ?_)
        · have hf := if_p c20 hf
          refine kw_lload_n C dX10_law_64 rfl 0 rfl ?_
          refine kw_sub [] _ rfl ?_
          exact kJ19 _ hf
        · have hf := if_n c20 hf
          refine kw_ldc2 C dX10_law_58 mk2_X10_439 ?_
          refine kw_goto C 65 dX10_law_61 rfl ?_
          refine kw_sub [] _ rfl ?_
          exact kJ19 _ hf
      · have hf := if_p c10 hf
        refine kw_sub [] _ rfl ?_
        exact kJ4 _ hf
set_option maxRecDepth 100000 in
set_option maxHeartbeats 4000000 in
theorem kX10_stepOf (L : Launch) (D : va_G) (g : GwT) (t0 : Nat) (p0 : Int32) (σ : St) (r0 : Int32) (hf : fX10_stepOf σ p0 = some r0) : CtI L D (ttG g) (wM g) t0 yX10_stepOf cX10_stepOf 2 (some .int) { frames := 0, cells := 0, slots := 0, locals := 0 } [.ref (g.1 0), .int p0] σ r0 σ := by
  refine CtI.of (own := RX10) (by decide) rfl (Nat.le_of_ble_eq_true rfl) [(0, .ref (g.1 0)), (1, .int p0)] rfl ?_
  intro X C hN K
  unfold fX10_stepOf at hf
  refine kw_aload_n C dX10_stepOf_0 rfl 0 rfl ?_
  refine kw_get C inG10 _ (hO10 g σ) rfl 64 (Nat.le_of_ble_eq_true rfl) mf_10_362 rfl rfl dX10_stepOf_1 ?_
  obtain ⟨J2, hJ2, hf⟩ := jnx1_elim hf
  have kJ2 : ∀ (x1 : Int32), J2 x1 = some r0 → KW X σ 17 [] [.int x1] := by
    clear hf
    intro x1 hf
    have hf := (hJ2 x1).symm.trans hf
    exact kw_iret C K dX10_stepOf_17 (pr_ret hf)
  refine kw_if_eq C 11 dX10_stepOf_4 rfl (fun c3 => ?_) (fun c3 => ?_)
  · have hf := if_p c3 hf
    refine kw_aload_n C dX10_stepOf_11 rfl 0 rfl ?_
    refine kw_get C inG10 _ (hO10 g σ) rfl 23 (Nat.le_of_ble_eq_true rfl) mf_10_36 rfl rfl dX10_stepOf_12 ?_
    refine kw_iload_n C dX10_stepOf_15 rfl 1 rfl ?_
    obtain ⟨h4, hf⟩ := gd_elim hf
    refine kw_iald C _ 0 (hA10_23 g σ) rfl h4 dX10_stepOf_16 ?_
    refine kw_sub [] _ rfl ?_
    exact kJ2 _ hf
  · have hf := if_n c3 hf
    refine kw_iconst C (1 : Int32) dX10_stepOf_7 rfl ?_
    refine kw_goto C 17 dX10_stepOf_8 rfl ?_
    refine kw_sub [] _ rfl ?_
    exact kJ2 _ hf
set_option maxRecDepth 100000 in
set_option maxHeartbeats 4000000 in
theorem kX10_mayRaise (L : Launch) (D : va_G) (g : GwT) (t0 : Nat) (p0 : Int32) (p1 : Int32) (σ : St) (r0 : Int32) (hf : fX10_mayRaise σ p0 p1 = some r0) : CtI L D (ttG g) (wM g) t0 yX10_mayRaise cX10_mayRaise 3 (some .boolean) { frames := 1, cells := 0, slots := 0, locals := 21 } [.ref (g.1 0), .int p0, .int p1] σ r0 σ := by
  refine CtI.of (own := RX10) (by decide) rfl (Nat.le_of_ble_eq_true rfl) [(0, .ref (g.1 0)), (1, .int p0), (2, .int p1)] rfl ?_
  intro X C hN K
  unfold fX10_mayRaise at hf
  refine kw_aload_n C dX10_mayRaise_0 rfl 0 rfl ?_
  refine kw_get C inG10 _ (hO10 g σ) rfl 55 (Nat.le_of_ble_eq_true rfl) mf_10_112 rfl rfl dX10_mayRaise_1 ?_
  refine kw_iload_n C dX10_mayRaise_4 rfl 1 rfl ?_
  obtain ⟨h1, hf⟩ := gd_elim hf
  refine kw_iald C _ 0 (hA10_55 g σ) rfl h1 dX10_mayRaise_5 ?_
  refine kw_iload_n C dX10_mayRaise_6 rfl 2 rfl ?_
  obtain ⟨J3, hJ3, hf⟩ := jnx1_elim hf
  have kJ3 : ∀ (x2 : Int32), J3 x2 = some r0 → KW X σ 41 [] [.int x2] := by
    clear hf
    intro x2 hf
    have hf := (hJ3 x2).symm.trans hf
    obtain ⟨h4, hf⟩ := gd_elim hf
    exact kw_zret C K h4 dX10_mayRaise_41 (pr_ret hf)
  obtain ⟨J5, hJ5, hf⟩ := jnx1_elim hf
  have kJ5 : ∀ (u9 : Unit), J5 u9 = some r0 → KW X σ 40 [] [] := by
    clear hf
    intro u9 hf
    have hf := (hJ5 u9).symm.trans hf
    refine kw_iconst C (0 : Int32) dX10_mayRaise_40 rfl ?_
    exact kJ3 _ hf
  refine kw_icmp_eq C 40 dX10_mayRaise_7 rfl (fun c6 => ?_) (fun c6 => ?_)
  · have hf := if_p c6 hf
    refine kw_sub [] _ rfl ?_
    exact kJ5 _ hf
  · have hf := if_n c6 hf
    refine kw_aload_n C dX10_mayRaise_10 rfl 0 rfl ?_
    refine kw_get C inG10 _ (hO10 g σ) rfl 54 (Nat.le_of_ble_eq_true rfl) mf_10_109 rfl rfl dX10_mayRaise_11 ?_
    refine kw_iload_n C dX10_mayRaise_14 rfl 1 rfl ?_
    obtain ⟨h7, hf⟩ := gd_elim hf
    refine kw_iald C _ 0 (hA10_54 g σ) rfl h7 dX10_mayRaise_15 ?_
    refine kw_aload_n C dX10_mayRaise_16 rfl 0 rfl ?_
    refine kw_iload_n C dX10_mayRaise_17 rfl 2 rfl ?_
    obtain ⟨r9, hc8, hf⟩ := bd_elim hf
    refine kw_callVI C [.int p1] (kX10_stepOf L D g t0 p1 σ _ hc8) RX10 mV_X10_403 ⟨rfl, rfl⟩ dd_X10_stepOf ⟨Nat.le_of_ble_eq_true rfl, Nat.le_of_ble_eq_true rfl⟩ _ (hO10 g σ) rfl rfl rfl (Nat.le_of_ble_eq_true rfl) dX10_mayRaise_18 ?_
    refine kw_iadd C dX10_mayRaise_21 ?_
    refine kw_aload_n C dX10_mayRaise_22 rfl 0 rfl ?_
    refine kw_get C inG10 _ (hO10 g σ) rfl 46 (Nat.le_of_ble_eq_true rfl) mf_10_85 rfl rfl dX10_mayRaise_23 ?_
    refine kw_bipush C (6 : Int32) dX10_mayRaise_26 rfl ?_
    refine kw_iload_n C dX10_mayRaise_28 rfl 1 rfl ?_
    refine kw_imul C dX10_mayRaise_29 ?_
    refine kw_iload_n C dX10_mayRaise_30 rfl 2 rfl ?_
    refine kw_iadd C dX10_mayRaise_31 ?_
    obtain ⟨h10, hf⟩ := gd_elim hf
    refine kw_iald C _ 0 (hA10_46 g σ) rfl h10 dX10_mayRaise_32 ?_
    refine kw_icmp_gt C 40 dX10_mayRaise_33 rfl (fun c11 => ?_) (fun c11 => ?_)
    · have hf := if_p c11 hf
      refine kw_sub [] _ rfl ?_
      exact kJ5 _ hf
    · have hf := if_n c11 hf
      refine kw_iconst C (1 : Int32) dX10_mayRaise_36 rfl ?_
      refine kw_goto C 41 dX10_mayRaise_37 rfl ?_
      refine kw_sub [] _ rfl ?_
      exact kJ3 _ hf
set_option maxRecDepth 100000 in
set_option maxHeartbeats 4000000 in
theorem kX10_put_a10_72 (L : Launch) (D : va_G) (g : GwT) (t0 : Nat) (p1 : Int32) (σ : St) (σ0 : St) (hf : fX10_put_a10_72 σ p1 = some σ0) : CtV L D (ttG g) (wM g) t0 yX10_put cX10_put 4 none { frames := 0, cells := 0, slots := 0, locals := 0 } [.ref (g.1 0), .ref (g.2.1 0 72), .int p1] σ σ0 := by
  refine CtV.of (own := RX10) (by decide) rfl (Nat.le_of_ble_eq_true rfl) [(0, .ref (g.1 0)), (1, .ref (g.2.1 0 72)), (2, .int p1)] rfl ?_
  intro X C hN K
  unfold fX10_put_a10_72 at hf
  refine kw_iconst C (0 : Int32) dX10_put_0 rfl ?_
  refine kw_istore_n C dX10_put_1 rfl hN (Nat.le_of_ble_eq_true rfl) [(3, .int (0 : Int32)), (0, .ref (g.1 0)), (1, .ref (g.2.1 0 72)), (2, .int p1)] rfl ?_
  refine kw_sub [1, 2, 3, 0] _ rfl ?_
  refine lpx2_walk (P := fun (x1 : Int32) (σ2 : St) => KW X σ2 2 [(0, .ref (g.1 0)), (1, .ref (g.2.1 0 72)), (2, .int p1), (3, .int x1)] []) ?_ FU _ _ hf
  intro self3 x1 σ2 ih4 hf
  refine kw_iload_n C dX10_put_2 rfl 3 rfl ?_
  refine kw_bipush C (6 : Int32) dX10_put_3 rfl ?_
  refine kw_icmp_ge C 89 dX10_put_5 rfl (fun c5 => ?_) (fun c5 => ?_)
  · have hf := if_p c5 hf
    refine kw_aload_n C dX10_put_89 rfl 1 rfl ?_
    refine kw_iload_n C dX10_put_90 rfl 2 rfl ?_
    refine kw_bipush C (30 : Int32) dX10_put_91 rfl ?_
    refine kw_iadd C dX10_put_93 ?_
    refine kw_aload_n C dX10_put_94 rfl 0 rfl ?_
    refine kw_get C inG10 _ (hO10 g σ2) rfl 54 (Nat.le_of_ble_eq_true rfl) mf_10_109 rfl rfl dX10_put_95 ?_
    refine kw_iconst C (0 : Int32) dX10_put_98 rfl ?_
    refine kw_iald C _ 0 (hA10_54 g σ2) rfl (by decide) dX10_put_99 ?_
    obtain ⟨h6, hf⟩ := gd_elim hf
    obtain ⟨σ7, eσ7, hf⟩ := lt_elim hf
    refine kw_iast C _ 0 (hA10_72 g σ2) rfl h6 ((hS10_72 g σ2 _).trans (congrArg (wM g) eσ7.symm)) dX10_put_100 ?_
    refine kw_aload_n C dX10_put_101 rfl 1 rfl ?_
    refine kw_iload_n C dX10_put_102 rfl 2 rfl ?_
    refine kw_bipush C (31 : Int32) dX10_put_103 rfl ?_
    refine kw_iadd C dX10_put_105 ?_
    refine kw_aload_n C dX10_put_106 rfl 0 rfl ?_
    refine kw_get C inG10 _ (hO10 g σ7) rfl 55 (Nat.le_of_ble_eq_true rfl) mf_10_112 rfl rfl dX10_put_107 ?_
    refine kw_iconst C (0 : Int32) dX10_put_110 rfl ?_
    refine kw_iald C _ 0 (hA10_55 g σ7) rfl (by decide) dX10_put_111 ?_
    obtain ⟨h8, hf⟩ := gd_elim hf
    obtain ⟨σ9, eσ9, hf⟩ := lt_elim hf
    refine kw_iast C _ 0 (hA10_72 g σ7) rfl h8 ((hS10_72 g σ7 _).trans (congrArg (wM g) eσ9.symm)) dX10_put_112 ?_
    refine kw_aload_n C dX10_put_113 rfl 1 rfl ?_
    refine kw_iload_n C dX10_put_114 rfl 2 rfl ?_
    refine kw_bipush C (32 : Int32) dX10_put_115 rfl ?_
    refine kw_iadd C dX10_put_117 ?_
    refine kw_aload_n C dX10_put_118 rfl 0 rfl ?_
    refine kw_get C inG10 _ (hO10 g σ9) rfl 56 (Nat.le_of_ble_eq_true rfl) mf_10_115 rfl rfl dX10_put_119 ?_
    refine kw_iconst C (0 : Int32) dX10_put_122 rfl ?_
    refine kw_iald C _ 0 (hA10_56 g σ9) rfl (by decide) dX10_put_123 ?_
    obtain ⟨h10, hf⟩ := gd_elim hf
    obtain ⟨σ11, eσ11, hf⟩ := lt_elim hf
    refine kw_iast C _ 0 (hA10_72 g σ9) rfl h10 ((hS10_72 g σ9 _).trans (congrArg (wM g) eσ11.symm)) dX10_put_124 ?_
    exact kw_vret (u9 := ()) C K dX10_put_125 hf
  · have hf := if_n c5 hf
    refine kw_aload_n C dX10_put_8 rfl 1 rfl ?_
    refine kw_iload_n C dX10_put_9 rfl 2 rfl ?_
    refine kw_iload_n C dX10_put_10 rfl 3 rfl ?_
    refine kw_iadd C dX10_put_11 ?_
    refine kw_aload_n C dX10_put_12 rfl 0 rfl ?_
    refine kw_get C inG10 _ (hO10 g σ2) rfl 46 (Nat.le_of_ble_eq_true rfl) mf_10_85 rfl rfl dX10_put_13 ?_
    refine kw_iload_n C dX10_put_16 rfl 3 rfl ?_
    obtain ⟨h12, hf⟩ := gd_elim hf
    refine kw_iald C _ 0 (hA10_46 g σ2) rfl h12 dX10_put_17 ?_
    obtain ⟨h13, hf⟩ := gd_elim hf
    obtain ⟨σ14, eσ14, hf⟩ := lt_elim hf
    refine kw_iast C _ 0 (hA10_72 g σ2) rfl h13 ((hS10_72 g σ2 _).trans (congrArg (wM g) eσ14.symm)) dX10_put_18 ?_
    refine kw_aload_n C dX10_put_19 rfl 1 rfl ?_
    refine kw_iload_n C dX10_put_20 rfl 2 rfl ?_
    refine kw_bipush C (6 : Int32) dX10_put_21 rfl ?_
    refine kw_iadd C dX10_put_23 ?_
    refine kw_iload_n C dX10_put_24 rfl 3 rfl ?_
    refine kw_iadd C dX10_put_25 ?_
    refine kw_aload_n C dX10_put_26 rfl 0 rfl ?_
    refine kw_get C inG10 _ (hO10 g σ14) rfl 48 (Nat.le_of_ble_eq_true rfl) mf_10_91 rfl rfl dX10_put_27 ?_
    refine kw_iload_n C dX10_put_30 rfl 3 rfl ?_
    obtain ⟨h15, hf⟩ := gd_elim hf
    refine kw_iald C _ 0 (hA10_48 g σ14) rfl h15 dX10_put_31 ?_
    obtain ⟨h16, hf⟩ := gd_elim hf
    obtain ⟨σ17, eσ17, hf⟩ := lt_elim hf
    refine kw_iast C _ 0 (hA10_72 g σ14) rfl h16 ((hS10_72 g σ14 _).trans (congrArg (wM g) eσ17.symm)) dX10_put_32 ?_
    refine kw_aload_n C dX10_put_33 rfl 1 rfl ?_
    refine kw_iload_n C dX10_put_34 rfl 2 rfl ?_
    refine kw_bipush C (12 : Int32) dX10_put_35 rfl ?_
    refine kw_iadd C dX10_put_37 ?_
    refine kw_iload_n C dX10_put_38 rfl 3 rfl ?_
    refine kw_iadd C dX10_put_39 ?_
    refine kw_aload_n C dX10_put_40 rfl 0 rfl ?_
    refine kw_get C inG10 _ (hO10 g σ17) rfl 49 (Nat.le_of_ble_eq_true rfl) mf_10_94 rfl rfl dX10_put_41 ?_
    refine kw_iload_n C dX10_put_44 rfl 3 rfl ?_
    obtain ⟨h18, hf⟩ := gd_elim hf
    refine kw_zald C _ 3 (hA10_49 g σ17) rfl h18 dX10_put_45 ?_
    obtain ⟨J20, hJ20, hf⟩ := jnx1_elim hf
    have kJ20 : ∀ (x19 : Int32), J20 x19 = some σ0 → KW X σ17 54 [(0, .ref (g.1 0)), (1, .ref (g.2.1 0 72)), (2, .int p1), (3, .int x1)] [.int x19, .int ((p1 + (12 : Int32)) + x1), .ref (g.2.1 0 72)] := by
      clear hf
      intro x19 hf
      have hf := (hJ20 x19).symm.trans hf
      obtain ⟨h21, hf⟩ := gd_elim hf
      obtain ⟨σ22, eσ22, hf⟩ := lt_elim hf
      refine kw_iast C _ 0 (hA10_72 g σ17) rfl h21 ((hS10_72 g σ17 _).trans (congrArg (wM g) eσ22.symm)) dX10_put_54 ?_
      refine kw_aload_n C dX10_put_55 rfl 1 rfl ?_
      refine kw_iload_n C dX10_put_56 rfl 2 rfl ?_
      refine kw_bipush C (18 : Int32) dX10_put_57 rfl ?_
      refine kw_iadd C dX10_put_59 ?_
      refine kw_iload_n C dX10_put_60 rfl 3 rfl ?_
      refine kw_iadd C dX10_put_61 ?_
      refine kw_aload_n C dX10_put_62 rfl 0 rfl ?_
      refine kw_get C inG10 _ (hO10 g σ22) rfl 50 (Nat.le_of_ble_eq_true rfl) mf_10_97 rfl rfl dX10_put_63 ?_
      refine kw_iload_n C dX10_put_66 rfl 3 rfl ?_
      obtain ⟨h23, hf⟩ := gd_elim hf
      refine kw_iald C _ 0 (hA10_50 g σ22) rfl h23 dX10_put_67 ?_
      obtain ⟨h24, hf⟩ := gd_elim hf
      obtain ⟨σ25, eσ25, hf⟩ := lt_elim hf
      refine kw_iast C _ 0 (hA10_72 g σ22) rfl h24 ((hS10_72 g σ22 _).trans (congrArg (wM g) eσ25.symm)) dX10_put_68 ?_
      refine kw_aload_n C dX10_put_69 rfl 1 rfl ?_
      refine kw_iload_n C dX10_put_70 rfl 2 rfl ?_
      refine kw_bipush C (24 : Int32) dX10_put_71 rfl ?_
      refine kw_iadd C dX10_put_73 ?_
      refine kw_iload_n C dX10_put_74 rfl 3 rfl ?_
      refine kw_iadd C dX10_put_75 ?_
      refine kw_aload_n C dX10_put_76 rfl 0 rfl ?_
      refine kw_get C inG10 _ (hO10 g σ25) rfl 51 (Nat.le_of_ble_eq_true rfl) mf_10_100 rfl rfl dX10_put_77 ?_
      refine kw_iload_n C dX10_put_80 rfl 3 rfl ?_
      obtain ⟨h26, hf⟩ := gd_elim hf
      refine kw_iald C _ 0 (hA10_51 g σ25) rfl h26 dX10_put_81 ?_
      obtain ⟨h27, hf⟩ := gd_elim hf
      obtain ⟨σ28, eσ28, hf⟩ := lt_elim hf
      refine kw_iast C _ 0 (hA10_72 g σ25) rfl h27 ((hS10_72 g σ25 _).trans (congrArg (wM g) eσ28.symm)) dX10_put_82 ?_
      obtain ⟨x29, ex29, hf⟩ := lt_elim hf
      refine kw_iinc C x29 dX10_put_83 3 rfl ex29.symm hN (Nat.le_of_ble_eq_true rfl) [(3, .int x29), (0, .ref (g.1 0)), (1, .ref (g.2.1 0 72)), (2, .int p1)] rfl ?_
      refine kw_goto C 2 dX10_put_86 rfl ?_
      refine kw_sub [1, 2, 3, 0] _ rfl ?_
      exact ih4 _ _ hf
    refine kw_if_eq C 53 dX10_put_46 rfl (fun c30 => ?_) (fun c30 => ?_)
    · have hf := if_p c30 hf
      refine kw_iconst C (0 : Int32) dX10_put_53 rfl ?_
      exact kJ20 _ hf
    · have hf := if_n c30 hf
      refine kw_iconst C (1 : Int32) dX10_put_49 rfl ?_
      refine kw_goto C 54 dX10_put_50 rfl ?_
      exact kJ20 _ hf
set_option maxRecDepth 100000 in
set_option maxHeartbeats 4000000 in
theorem kX10_remember (L : Launch) (D : va_G) (g : GwT) (t0 : Nat) (σ : St) (σ0 : St) (hf : fX10_remember σ  = some σ0) : CtV L D (ttG g) (wM g) t0 yX10_remember cX10_remember 2 none { frames := 1, cells := 0, slots := 0, locals := 23 } [.ref (g.1 0)] σ σ0 := by
  refine CtV.of (own := RX10) (by decide) rfl (Nat.le_of_ble_eq_true rfl) [(0, .ref (g.1 0))] rfl ?_
  intro X C hN K
  unfold fX10_remember at hf
  refine kw_aload_n C dX10_remember_0 rfl 0 rfl ?_
  refine kw_get C inG10 _ (hO10 g σ) rfl 71 (Nat.le_of_ble_eq_true rfl) mf_10_347 rfl rfl dX10_remember_1 ?_
  refine kw_bipush C (20 : Int32) dX10_remember_4 rfl ?_
  obtain ⟨J2, hJ2, hf⟩ := jnx1_elim hf
  have kJ2 : ∀ (σ1 : St), J2 σ1 = some σ0 → KW X σ1 49 [(0, .ref (g.1 0))] [] := by
    clear hf
    intro σ1 hf
    have hf := (hJ2 σ1).symm.trans hf
    refine kw_aload_n C dX10_remember_49 rfl 0 rfl ?_
    refine kw_aload_n C dX10_remember_50 rfl 0 rfl ?_
    refine kw_get C inG10 _ (hO10 g σ1) rfl 72 (Nat.le_of_ble_eq_true rfl) mf_10_136 rfl rfl dX10_remember_51 ?_
    refine kw_bipush C (33 : Int32) dX10_remember_54 rfl ?_
    refine kw_aload_n C dX10_remember_56 rfl 0 rfl ?_
    refine kw_get C inG10 _ (hO10 g σ1) rfl 71 (Nat.le_of_ble_eq_true rfl) mf_10_347 rfl rfl dX10_remember_57 ?_
    refine kw_imul C dX10_remember_60 ?_
    obtain ⟨σ4, hc3, hf⟩ := bV_elim hf
    refine kw_callVV C [.ref (g.2.1 0 72), .int ((33 : Int32) * (gI σ1 0 71))] (kX10_put_a10_72 L D g t0 ((33 : Int32) * (gI σ1 0 71)) σ1 _ hc3) RX10 mV_X10_499 ⟨rfl, rfl⟩ dd_X10_put ⟨Nat.le_of_ble_eq_true rfl, Nat.le_of_ble_eq_true rfl⟩ _ (hO10 g σ1) rfl rfl rfl (Nat.le_of_ble_eq_true rfl) dX10_remember_61 ?_
    refine kw_aload_n C dX10_remember_64 rfl 0 rfl ?_
    refine kw_dup C dX10_remember_65 rfl ?_
    refine kw_get C inG10 _ (hO10 g σ4) rfl 71 (Nat.le_of_ble_eq_true rfl) mf_10_347 rfl rfl dX10_remember_66 ?_
    refine kw_iconst C (1 : Int32) dX10_remember_69 rfl ?_
    refine kw_iadd C dX10_remember_70 ?_
    obtain ⟨σ5, eσ5, hf⟩ := lt_elim hf
    refine kw_put C inG10 tyX10 tyX10_ok nmX10 _ (hO10 g σ4) rfl 71 (Nat.le_of_ble_eq_true rfl) mf_10_347 rfl rfl (tyX10_ok 71 (Nat.le_of_ble_eq_true rfl)) rfl rfl (Nat.le_of_ble_eq_true rfl) ((hF10_71 g σ4 _).trans (congrArg (wM g) eσ5.symm)) dX10_remember_71 ?_
    exact kw_vret (u9 := ()) C K dX10_remember_74 hf
  refine kw_icmp_ne C 49 dX10_remember_6 rfl (fun c6 => ?_) (fun c6 => ?_)
  · have hf := if_n c6 hf
    exact kJ2 _ hf
  · have hf := if_p c6 hf
    refine kw_iconst C (0 : Int32) dX10_remember_9 rfl ?_
    refine kw_istore_n C dX10_remember_10 rfl hN (Nat.le_of_ble_eq_true rfl) [(1, .int (0 : Int32)), (0, .ref (g.1 0))] rfl ?_
    refine kw_sub [1, 0] _ rfl ?_
    refine lpx2_walk (P := fun (x7 : Int32) (σ8 : St) => KW X σ8 11 [(0, .ref (g.1 0)), (1, .int x7)] []) ?_ FU _ _ hf
    intro self9 x7 σ8 ih10 hf
    refine kw_iload_n C dX10_remember_11 rfl 1 rfl ?_
    refine kw_sipush C (627 : Int32) dX10_remember_12 rfl ?_
    refine kw_icmp_ge C 39 dX10_remember_15 rfl (fun c11 => ?_) (fun c11 => ?_)
    · have hf := if_p c11 hf
      refine kw_aload_n C dX10_remember_39 rfl 0 rfl ?_
      refine kw_dup C dX10_remember_40 rfl ?_
      refine kw_get C inG10 _ (hO10 g σ8) rfl 71 (Nat.le_of_ble_eq_true rfl) mf_10_347 rfl rfl dX10_remember_41 ?_
      refine kw_iconst C (1 : Int32) dX10_remember_44 rfl ?_
      refine kw_isub C dX10_remember_45 ?_
      obtain ⟨σ12, eσ12, hf⟩ := lt_elim hf
      refine kw_put C inG10 tyX10 tyX10_ok nmX10 _ (hO10 g σ8) rfl 71 (Nat.le_of_ble_eq_true rfl) mf_10_347 rfl rfl (tyX10_ok 71 (Nat.le_of_ble_eq_true rfl)) rfl rfl (Nat.le_of_ble_eq_true rfl) ((hF10_71 g σ8 _).trans (congrArg (wM g) eσ12.symm)) dX10_remember_46 ?_
      refine kw_sub [0] _ rfl ?_
      exact kJ2 _ hf
    · have hf := if_n c11 hf
      refine kw_aload_n C dX10_remember_18 rfl 0 rfl ?_
      refine kw_get C inG10 _ (hO10 g σ8) rfl 72 (Nat.le_of_ble_eq_true rfl) mf_10_136 rfl rfl dX10_remember_19 ?_
      refine kw_iload_n C dX10_remember_22 rfl 1 rfl ?_
      refine kw_aload_n C dX10_remember_23 rfl 0 rfl ?_
      refine kw_get C inG10 _ (hO10 g σ8) rfl 72 (Nat.le_of_ble_eq_true rfl) mf_10_136 rfl rfl dX10_remember_24 ?_
      refine kw_iload_n C dX10_remember_27 rfl 1 rfl ?_
      refine kw_bipush C (33 : Int32) dX10_remember_28 rfl ?_
      refine kw_iadd C dX10_remember_30 ?_
      obtain ⟨h13, hf⟩ := gd_elim hf
      refine kw_iald C _ 0 (hA10_72 g σ8) rfl h13 dX10_remember_31 ?_
      obtain ⟨h14, hf⟩ := gd_elim hf
      obtain ⟨σ15, eσ15, hf⟩ := lt_elim hf
      refine kw_iast C _ 0 (hA10_72 g σ8) rfl h14 ((hS10_72 g σ8 _).trans (congrArg (wM g) eσ15.symm)) dX10_remember_32 ?_
      obtain ⟨x16, ex16, hf⟩ := lt_elim hf
      refine kw_iinc C x16 dX10_remember_33 1 rfl ex16.symm hN (Nat.le_of_ble_eq_true rfl) [(1, .int x16), (0, .ref (g.1 0))] rfl ?_
      refine kw_goto C 11 dX10_remember_36 rfl ?_
      refine kw_sub [1, 0] _ rfl ?_
      exact ih10 _ _ hf
