set_option maxRecDepth 100000 in
set_option maxHeartbeats 4000000 in
theorem kX1_takeOperand (L : Launch) (D : va_G) (g : GwT) (t0 : Nat) (σ : St) (r0 : Int32) (σ0 : St) (hf : fX1_takeOperand σ  = some (r0, σ0)) : CtI L D (ttG g) (wB g) t0 yX1_takeOperand cX1_takeOperand 2 (some .int) { frames := 2, cells := 0, slots := 0, locals := 43 } [.ref (g.1 11)] σ r0 σ0 := by
  refine CtI.of (own := RX1) (by decide) rfl (Nat.le_of_ble_eq_true rfl) [(0, .ref (g.1 11))] rfl ?_
  intro X C hN K
  unfold fX1_takeOperand at hf
  refine kw_aload_n C dX1_takeOperand_0 rfl 0 rfl ?_
  refine kw_get C inG1 _ (hO1 g σ) rfl 0 (Nat.le_of_ble_eq_true rfl) mf_1_15 rfl rfl dX1_takeOperand_1 ?_
  refine kw_get C inG7 _ (hO7 g σ) rfl 3 (Nat.le_of_ble_eq_true rfl) mf_1_56 rfl rfl dX1_takeOperand_4 ?_
  obtain ⟨x1, ex1, hf⟩ := lt_elim hf
  refine kw_topi ex1 ?_
  refine kw_istore_n C dX1_takeOperand_7 rfl hN (Nat.le_of_ble_eq_true rfl) [(1, .int x1), (0, .ref (g.1 11))] rfl ?_
  refine kw_iload_n C dX1_takeOperand_8 rfl 0 rfl ?_
  refine kw_bipush C (20 : Int32) dX1_takeOperand_9 rfl ?_
  obtain ⟨J2, hJ2, hf⟩ := jnx1_elim hf
  have kJ2 : ∀ (u9 : Unit), J2 u9 = some (r0, σ0) → KW X σ 25 [(0, .ref (g.1 11)), (1, .int x1)] [] := by
    clear hf
    intro u9 hf
    have hf := (hJ2 u9).symm.trans hf
    refine kw_aload_n C dX1_takeOperand_25 rfl 0 rfl ?_
    refine kw_iload_n C dX1_takeOperand_26 rfl 1 rfl ?_
    obtain ⟨r4, σ5, hc3, hf⟩ := bI_elim hf
    refine kw_callVI C [.int x1] (kX1_takeValue L D g t0 x1 σ _ _ hc3) RX1 mV_X1_84 ⟨rfl, rfl⟩ dd_X1_takeValue ⟨Nat.le_of_ble_eq_true rfl, Nat.le_of_ble_eq_true rfl⟩ _ (hO1 g σ) rfl rfl rfl (Nat.le_of_ble_eq_true rfl) dX1_takeOperand_27 ?_
    exact kw_iret C K dX1_takeOperand_30 hf
  refine kw_icmp_eq C 25 dX1_takeOperand_11 rfl (fun c6 => ?_) (fun c6 => ?_)
  · have hf := if_p c6 hf
    refine kw_sub [1, 0] _ rfl ?_
    exact kJ2 _ hf
  · have hf := if_n c6 hf
    refine kw_iload_n C dX1_takeOperand_14 rfl 0 rfl ?_
    refine kw_bipush C (12 : Int32) dX1_takeOperand_15 rfl ?_
    refine kw_bipush C (18 : Int32) dX1_takeOperand_17 rfl ?_
    obtain ⟨r8, hc7, hf⟩ := bd_elim hf
    refine kw_callNI C [.int x1, .int (12 : Int32), .int (18 : Int32)] (kX9_isWithin L D g t0 x1 (12 : Int32) (18 : Int32) σ _ hc7) "BidLines" (fun _ h => h.2.1) (GT_c mcode_X9_isWithin (fun _ h => h)) mi_X9 mst_X9_isWithin ⟨rfl, rfl⟩ dd_X9_isWithin.2 ⟨Nat.le_of_ble_eq_true rfl, Nat.le_of_ble_eq_true rfl⟩ rfl (Nat.le_of_ble_eq_true rfl) dX1_takeOperand_19 ?_
    refine kw_if_eq C 31 dX1_takeOperand_22 rfl (fun c9 => ?_) (fun c9 => ?_)
    · have hf := if_p c9 hf
      refine kw_iload_n C dX1_takeOperand_31 rfl 0 rfl ?_
      refine kw_bipush C (24 : Int32) dX1_takeOperand_32 rfl ?_
      refine kw_icmp_ne C 42 dX1_takeOperand_34 rfl (fun c10 => ?_) (fun c10 => ?_)
      · have hf := if_n c10 hf
        refine kw_iload_n C dX1_takeOperand_42 rfl 0 rfl ?_
        refine kw_bipush C (11 : Int32) dX1_takeOperand_43 rfl ?_
        obtain ⟨J11, hJ11, hf⟩ := jnx1_elim hf
        have kJ11 : ∀ (u9 : Unit), J11 u9 = some (r0, σ0) → KW X σ 55 [] [] := by
          clear hf
          intro u9 hf
          have hf := (hJ11 u9).symm.trans hf
          refine kw_iconst C (1 : Int32) dX1_takeOperand_55 rfl ?_
          exact kw_iret C K dX1_takeOperand_56 hf
        refine kw_icmp_ne C 55 dX1_takeOperand_45 rfl (fun c12 => ?_) (fun c12 => ?_)
        · have hf := if_n c12 hf
          refine kw_sub [] _ rfl ?_
          exact kJ11 _ hf
        · have hf := if_p c12 hf
          refine kw_aload_n C dX1_takeOperand_48 rfl 1 rfl ?_
          refine kw_get C inG1 _ (hO1 g σ) rfl 7 (Nat.le_of_ble_eq_true rfl) mf_1_40 rfl rfl dX1_takeOperand_49 ?_
          refine kw_if_ne C 57 dX1_takeOperand_52 rfl (fun c13 => ?_) (fun c13 => ?_)
          · have hf := if_n c13 hf
            refine kw_aload_n C dX1_takeOperand_57 rfl 1 rfl ?_
            obtain ⟨r15, σ16, hc14, hf⟩ := bI_elim hf
            refine kw_callVI C [] (kX1_meetKnot L D g t0 σ _ _ hc14) RX1 mV_X1_91 ⟨rfl, rfl⟩ dd_X1_meetKnot ⟨Nat.le_of_ble_eq_true rfl, Nat.le_of_ble_eq_true rfl⟩ _ (hO1 g σ) rfl rfl rfl (Nat.le_of_ble_eq_true rfl) dX1_takeOperand_58 ?_
            refine kw_if_ne C 66 dX1_takeOperand_61 rfl (fun c17 => ?_) (fun c17 => ?_)
            · have hf := if_n c17 hf
              refine kw_aload_n C dX1_takeOperand_66 rfl 1 rfl ?_
              refine kw_bipush C (11 : Int32) dX1_takeOperand_67 rfl ?_
              obtain ⟨σ19, hc18, hf⟩ := bV_elim hf
              refine kw_callVV C [.int (11 : Int32)] (kX1_putOff L D g t0 (11 : Int32) σ16 _ hc18) RX1 mV_X1_94 ⟨rfl, rfl⟩ dd_X1_putOff ⟨Nat.le_of_ble_eq_true rfl, Nat.le_of_ble_eq_true rfl⟩ _ (hO1 g σ16) rfl rfl rfl (Nat.le_of_ble_eq_true rfl) dX1_takeOperand_69 ?_
              refine kw_iconst C (0 : Int32) dX1_takeOperand_72 rfl ?_
              exact kw_iret C K dX1_takeOperand_73 hf
            · have hf := if_p c17 hf
              refine kw_iconst C (2 : Int32) dX1_takeOperand_64 rfl ?_
              exact kw_iret C K dX1_takeOperand_65 hf
          · have hf := if_p c13 hf
            refine kw_sub [] _ rfl ?_
            exact kJ11 _ hf
      · have hf := if_p c10 hf
        refine kw_aload_n C dX1_takeOperand_37 rfl 1 rfl ?_
        obtain ⟨r21, σ22, hc20, hf⟩ := bI_elim hf
        refine kw_callVI C [] (kX1_takeOpening L D g t0 σ _ _ hc20) RX1 mV_X1_88 ⟨rfl, rfl⟩ dd_X1_takeOpening ⟨Nat.le_of_ble_eq_true rfl, Nat.le_of_ble_eq_true rfl⟩ _ (hO1 g σ) rfl rfl rfl (Nat.le_of_ble_eq_true rfl) dX1_takeOperand_38 ?_
        exact kw_iret C K dX1_takeOperand_41 hf
    · have hf := if_n c9 hf
      refine kw_sub [1, 0] _ rfl ?_
      exact kJ2 _ hf
set_option maxRecDepth 100000 in
set_option maxHeartbeats 4000000 in
theorem kX1_readFormula (L : Launch) (D : va_G) (g : GwT) (t0 : Nat) (p0 : Bool) (p1 : Int32) (σ : St) (r0 : Int32) (σ0 : St) (hf : fX1_readFormula σ p0 p1 = some (r0, σ0)) : CtI L D (ttG g) (wB g) t0 yX1_readFormula cX1_readFormula 6 (some .int) { frames := 3, cells := 0, slots := 0, locals := 66 } [.ref (g.1 11), .ref (g.1 (lw p0)), .int p1] σ r0 σ0 := by
  refine CtI.of (own := RX1) (by decide) rfl (Nat.le_of_ble_eq_true rfl) [(0, .ref (g.1 11)), (1, .ref (g.1 (lw p0))), (2, .int p1)] rfl ?_
  intro X C hN K
  unfold fX1_readFormula at hf
  refine kw_aload_n C dX1_readFormula_0 rfl 0 rfl ?_
  refine kw_aload_n C dX1_readFormula_1 rfl 1 rfl ?_
  obtain ⟨σ1, eσ1, hf⟩ := lt_elim hf
  refine kw_put C inG1 tyX1 tyX1_ok nmX1 _ (hO1 g σ) rfl 1 (Nat.le_of_ble_eq_true rfl) mf_1_19 rfl rfl (tyX1_ok 1 (Nat.le_of_ble_eq_true rfl)) rfl rfl (Nat.le_of_ble_eq_true rfl) ((hF1_1 g σ _).trans (congrArg (wB g) eσ1.symm)) dX1_readFormula_2 ?_
  refine kw_aload_n C dX1_readFormula_5 rfl 0 rfl ?_
  refine kw_iconst C (0 : Int32) dX1_readFormula_6 rfl ?_
  obtain ⟨σ2, eσ2, hf⟩ := lt_elim hf
  refine kw_put C inG1 tyX1 tyX1_ok nmX1 _ (hO1 g σ1) rfl 3 (Nat.le_of_ble_eq_true rfl) mf_1_27 rfl rfl (tyX1_ok 3 (Nat.le_of_ble_eq_true rfl)) rfl rfl (Nat.le_of_ble_eq_true rfl) ((hF1_3 g σ1 _).trans (congrArg (wB g) eσ2.symm)) dX1_readFormula_7 ?_
  refine kw_aload_n C dX1_readFormula_10 rfl 0 rfl ?_
  refine kw_iconst C (0 : Int32) dX1_readFormula_11 rfl ?_
  obtain ⟨σ3, eσ3, hf⟩ := lt_elim hf
  refine kw_put C inG1 tyX1 tyX1_ok nmX1 _ (hO1 g σ2) rfl 4 (Nat.le_of_ble_eq_true rfl) mf_1_30 rfl rfl (tyX1_ok 4 (Nat.le_of_ble_eq_true rfl)) rfl rfl (Nat.le_of_ble_eq_true rfl) ((hF1_4 g σ2 _).trans (congrArg (wB g) eσ3.symm)) dX1_readFormula_12 ?_
  refine kw_aload_n C dX1_readFormula_15 rfl 0 rfl ?_
  refine kw_iconst C (0 : Int32) dX1_readFormula_16 rfl ?_
  obtain ⟨σ4, eσ4, hf⟩ := lt_elim hf
  refine kw_put C inG1 tyX1 tyX1_ok nmX1 _ (hO1 g σ3) rfl 5 (Nat.le_of_ble_eq_true rfl) mf_1_33 rfl rfl (tyX1_ok 5 (Nat.le_of_ble_eq_true rfl)) rfl rfl (Nat.le_of_ble_eq_true rfl) ((hF1_5 g σ3 _).trans (congrArg (wB g) eσ4.symm)) dX1_readFormula_17 ?_
  refine kw_aload_n C dX1_readFormula_20 rfl 0 rfl ?_
  refine kw_iconst C (1 : Int32) dX1_readFormula_21 rfl ?_
  obtain ⟨σ5, eσ5, hf⟩ := lt_elim hf
  refine kw_put C inG1 tyX1 tyX1_ok nmX1 _ (hO1 g σ4) rfl 6 (Nat.le_of_ble_eq_true rfl) mf_1_36 rfl rfl (tyX1_ok 6 (Nat.le_of_ble_eq_true rfl)) (narrow_bz (by decide)) (fits_bz (by decide)) (Nat.le_of_ble_eq_true rfl) ((hF1_6 g σ4 _).trans (congrArg (wB g) eσ5.symm)) dX1_readFormula_22 ?_
  refine kw_aload_n C dX1_readFormula_25 rfl 0 rfl ?_
  refine kw_iconst C (1 : Int32) dX1_readFormula_26 rfl ?_
  obtain ⟨σ6, eσ6, hf⟩ := lt_elim hf
  refine kw_put C inG1 tyX1 tyX1_ok nmX1 _ (hO1 g σ5) rfl 7 (Nat.le_of_ble_eq_true rfl) mf_1_40 rfl rfl (tyX1_ok 7 (Nat.le_of_ble_eq_true rfl)) (narrow_bz (by decide)) (fits_bz (by decide)) (Nat.le_of_ble_eq_true rfl) ((hF1_7 g σ5 _).trans (congrArg (wB g) eσ6.symm)) dX1_readFormula_27 ?_
  refine kw_aload_n C dX1_readFormula_30 rfl 0 rfl ?_
  refine kw_get C inG1 _ (hO1 g σ6) rfl 1 (Nat.le_of_ble_eq_true rfl) mf_1_19 rfl rfl dX1_readFormula_31 ?_
  refine kw_get C inG2 _ (hO2 g σ6 (gR σ6 4)) rfl 4 (Nat.le_of_ble_eq_true rfl) mf_1_43 rfl rfl dX1_readFormula_34 ?_
  obtain ⟨x7, ex7, hf⟩ := lt_elim hf
  refine kw_topi ex7 ?_
  refine kw_istore_n C dX1_readFormula_37 rfl hN (Nat.le_of_ble_eq_true rfl) [(3, .int x7), (0, .ref (g.1 11)), (1, .ref (g.1 (lw p0))), (2, .int p1)] rfl ?_
  refine kw_iconst C (0 : Int32) dX1_readFormula_38 rfl ?_
  refine kw_istore C dX1_readFormula_39 hN (Nat.le_of_ble_eq_true rfl) [(4, .int (0 : Int32)), (3, .int x7), (0, .ref (g.1 11)), (1, .ref (g.1 (lw p0))), (2, .int p1)] rfl ?_
  refine kw_iconst C (0 : Int32) dX1_readFormula_41 rfl ?_
  refine kw_istore C dX1_readFormula_42 hN (Nat.le_of_ble_eq_true rfl) [(5, .int (0 : Int32)), (4, .int (0 : Int32)), (3, .int x7), (0, .ref (g.1 11)), (1, .ref (g.1 (lw p0))), (2, .int p1)] rfl ?_
  refine kw_sub [3, 5, 2, 1, 0] _ rfl ?_
  refine lpx3_walk (P := fun (x8 : Int32) (x9 : Int32) (σ10 : St) => KW X σ10 44 [(0, .ref (g.1 11)), (2, .int p1), (3, .int x7), (4, .int x8), (5, .int x9)] []) ?_ FU _ _ _ hf
  intro self11 x8 x9 σ10 ih12 hf
  refine kw_iload C dX1_readFormula_44 4 rfl ?_
  refine kw_sipush C (700 : Int32) dX1_readFormula_46 rfl ?_
  obtain ⟨J13, hJ13, hf⟩ := jnx1_elim hf
  have kJ13 : ∀ (u9 : Unit), J13 u9 = some (r0, σ0) → KW X σ10 123 [(0, .ref (g.1 11)), (2, .int p1), (3, .int x7), (4, .int x8)] [] := by
    clear hf
    intro u9 hf
    have hf := (hJ13 u9).symm.trans hf
    refine kw_iload C dX1_readFormula_123 3 rfl ?_
    obtain ⟨J15, hJ15, hf⟩ := jnx1_elim hf
    have kJ15 : ∀ (σ14 : St), J15 σ14 = some (r0, σ0) → KW X σ14 159 [(4, .int x8)] [] := by
      clear hf
      intro σ14 hf
      have hf := (hJ15 σ14).symm.trans hf
      refine kw_iload C dX1_readFormula_159 0 rfl ?_
      exact kw_iret C K dX1_readFormula_161 hf
    refine kw_if_ne C 159 dX1_readFormula_125 rfl (fun c16 => ?_) (fun c16 => ?_)
    · have hf := if_n c16 hf
      refine kw_sub [3] _ rfl ?_
      exact kJ15 _ hf
    · have hf := if_p c16 hf
      refine kw_aload_n C dX1_readFormula_128 rfl 0 rfl ?_
      refine kw_iconst C (0 : Int32) dX1_readFormula_129 rfl ?_
      obtain ⟨σ18, hc17, hf⟩ := bV_elim hf
      refine kw_callVV C [.int (0 : Int32)] (kX1_releaseDownTo L D g t0 (0 : Int32) σ10 _ hc17) RX1 mV_X1_70 ⟨rfl, rfl⟩ dd_X1_releaseDownTo ⟨Nat.le_of_ble_eq_true rfl, Nat.le_of_ble_eq_true rfl⟩ _ (hO1 g σ10) rfl rfl rfl (Nat.le_of_ble_eq_true rfl) dX1_readFormula_130 ?_
      refine kw_aload_n C dX1_readFormula_133 rfl 0 rfl ?_
      refine kw_get C inG1 _ (hO1 g σ18) rfl 1 (Nat.le_of_ble_eq_true rfl) mf_1_19 rfl rfl dX1_readFormula_134 ?_
      refine kw_get C inG2 _ (hO2 g σ18 (gR σ18 4)) rfl 2 (Nat.le_of_ble_eq_true rfl) mf_1_74 rfl rfl dX1_readFormula_137 ?_
      refine kw_iload_n C dX1_readFormula_140 rfl 1 rfl ?_
      refine kw_iload_n C dX1_readFormula_141 rfl 2 rfl ?_
      obtain ⟨h19, hf⟩ := gd_elim hf
      obtain ⟨σ20, eσ20, hf⟩ := lt_elim hf
      refine kw_iast C _ 0 (hA2_2 g σ18 (gR σ18 4)) rfl h19 ((hS2_2 g σ18 (gR σ18 4) _).trans (congrArg (wB g) eσ20.symm)) dX1_readFormula_142 ?_
      refine kw_aload_n C dX1_readFormula_143 rfl 0 rfl ?_
      refine kw_get C inG1 _ (hO1 g σ20) rfl 1 (Nat.le_of_ble_eq_true rfl) mf_1_19 rfl rfl dX1_readFormula_144 ?_
      refine kw_get C inG2 _ (hO2 g σ20 (gR σ20 4)) rfl 3 (Nat.le_of_ble_eq_true rfl) mf_1_77 rfl rfl dX1_readFormula_147 ?_
      refine kw_iload_n C dX1_readFormula_150 rfl 1 rfl ?_
      refine kw_aload_n C dX1_readFormula_151 rfl 0 rfl ?_
      refine kw_get C inG1 _ (hO1 g σ20) rfl 1 (Nat.le_of_ble_eq_true rfl) mf_1_19 rfl rfl dX1_readFormula_152 ?_
      refine kw_get C inG2 _ (hO2 g σ20 (gR σ20 4)) rfl 4 (Nat.le_of_ble_eq_true rfl) mf_1_43 rfl rfl dX1_readFormula_155 ?_
      obtain ⟨h21, hf⟩ := gd_elim hf
      obtain ⟨σ22, eσ22, hf⟩ := lt_elim hf
      refine kw_iast C _ 0 (hA2_3 g σ20 (gR σ20 4)) rfl h21 ((hS2_3 g σ20 (gR σ20 4) _).trans (congrArg (wB g) eσ22.symm)) dX1_readFormula_158 ?_
      refine kw_sub [3] _ rfl ?_
      exact kJ15 _ hf
  refine kw_icmp_gt C 123 dX1_readFormula_49 rfl (fun c23 => ?_) (fun c23 => ?_)
  · have hf := if_p c23 hf
    refine kw_sub [0, 1, 2, 3] _ rfl ?_
    exact kJ13 _ hf
  · have hf := if_n c23 hf
    refine kw_iload C dX1_readFormula_52 3 rfl ?_
    refine kw_if_ne C 123 dX1_readFormula_54 rfl (fun c24 => ?_) (fun c24 => ?_)
    · have hf := if_n c24 hf
      refine kw_sub [0, 1, 2, 3] _ rfl ?_
      exact kJ13 _ hf
    · have hf := if_p c24 hf
      refine kw_aload_n C dX1_readFormula_57 rfl 0 rfl ?_
      obtain ⟨r26, hc25, hf⟩ := bd_elim hf
      refine kw_callVI C [] (kX1_isEnd L D g t0 σ10 _ hc25) RX1 mV_X1_48 ⟨rfl, rfl⟩ dd_X1_isEnd ⟨Nat.le_of_ble_eq_true rfl, Nat.le_of_ble_eq_true rfl⟩ _ (hO1 g σ10) rfl rfl rfl (Nat.le_of_ble_eq_true rfl) dX1_readFormula_58 ?_
      refine kw_if_ne C 123 dX1_readFormula_61 rfl (fun c27 => ?_) (fun c27 => ?_)
      · have hf := if_n c27 hf
        refine kw_sub [0, 1, 2, 3] _ rfl ?_
        exact kJ13 _ hf
      · have hf := if_p c27 hf
        refine kw_aload_n C dX1_readFormula_64 rfl 0 rfl ?_
        refine kw_get C inG1 _ (hO1 g σ10) rfl 6 (Nat.le_of_ble_eq_true rfl) mf_1_36 rfl rfl dX1_readFormula_65 ?_
        obtain ⟨J30, hJ30, hf⟩ := jnx2_elim hf
        have kJ30 : ∀ (x28 : Int32) (σ29 : St), J30 x28 σ29 = some (r0, σ0) → KW X σ29 105 [(0, .ref (g.1 11)), (2, .int p1), (3, .int x7), (4, .int x28), (5, .int x9)] [] := by
          clear hf
          intro x28 σ29 hf
          have hf := (hJ30 x28 σ29).symm.trans hf
          refine kw_iload C dX1_readFormula_105 3 rfl ?_
          obtain ⟨J32, hJ32, hf⟩ := jnx1_elim hf
          have kJ32 : ∀ (σ31 : St), J32 σ31 = some (r0, σ0) → KW X σ31 117 [(0, .ref (g.1 11)), (2, .int p1), (3, .int x7), (4, .int x28), (5, .int x9)] [] := by
            clear hf
            intro σ31 hf
            have hf := (hJ32 σ31).symm.trans hf
            obtain ⟨x33, ex33, hf⟩ := lt_elim hf
            refine kw_iinc C x33 dX1_readFormula_117 4 rfl ex33.symm hN (Nat.le_of_ble_eq_true rfl) [(5, .int x33), (0, .ref (g.1 11)), (2, .int p1), (3, .int x7), (4, .int x28)] rfl ?_
            refine kw_goto C 44 dX1_readFormula_120 rfl ?_
            refine kw_sub [1, 2, 3, 4, 0] _ rfl ?_
            exact ih12 _ _ _ hf
          refine kw_if_ne C 117 dX1_readFormula_107 rfl (fun c34 => ?_) (fun c34 => ?_)
          · have hf := if_n c34 hf
            exact kJ32 _ hf
          · have hf := if_p c34 hf
            refine kw_aload_n C dX1_readFormula_110 rfl 0 rfl ?_
            refine kw_get C inG1 _ (hO1 g σ29) rfl 0 (Nat.le_of_ble_eq_true rfl) mf_1_15 rfl rfl dX1_readFormula_111 ?_
            obtain ⟨σ36, hc35, hf⟩ := bV_elim hf
            refine kw_callVV C [] (kX7_advance L D g t0 σ29 _ hc35) RX7 mV_X1_67 ⟨rfl, rfl⟩ dd_X7_advance ⟨Nat.le_of_ble_eq_true rfl, Nat.le_of_ble_eq_true rfl⟩ _ (hO7 g σ29) rfl rfl rfl (Nat.le_of_ble_eq_true rfl) dX1_readFormula_114 ?_
            exact kJ32 _ hf
        refine kw_if_eq C 80 dX1_readFormula_68 rfl (fun c37 => ?_) (fun c37 => ?_)
        · have hf := if_p c37 hf
          refine kw_aload_n C dX1_readFormula_80 rfl 0 rfl ?_
          refine kw_get C inG1 _ (hO1 g σ10) rfl 0 (Nat.le_of_ble_eq_true rfl) mf_1_15 rfl rfl dX1_readFormula_81 ?_
          refine kw_get C inG7 _ (hO7 g σ10) rfl 3 (Nat.le_of_ble_eq_true rfl) mf_1_56 rfl rfl dX1_readFormula_84 ?_
          refine kw_bipush C (25 : Int32) dX1_readFormula_87 rfl ?_
          obtain ⟨J40, hJ40, hf⟩ := jnx2_elim hf
          have kJ40 : ∀ (x38 : Int32) (σ39 : St), J40 x38 σ39 = some (r0, σ0) → KW X σ39 103 [(0, .ref (g.1 11)), (2, .int p1), (3, .int x7), (5, .int x9)] [.int x38] := by
            clear hf
            intro x38 σ39 hf
            have hf := (hJ40 x38 σ39).symm.trans hf
            refine kw_istore C dX1_readFormula_103 hN (Nat.le_of_ble_eq_true rfl) [(4, .int x38), (0, .ref (g.1 11)), (2, .int p1), (3, .int x7), (5, .int x9)] rfl ?_
            refine kw_sub [1, 2, 3, 0, 4] _ rfl ?_
            exact kJ30 _ _ hf
          refine kw_icmp_ne C 99 dX1_readFormula_89 rfl (fun c41 => ?_) (fun c41 => ?_)
          · have hf := if_n c41 hf
            refine kw_aload_n C dX1_readFormula_99 rfl 0 rfl ?_
            obtain ⟨r43, σ44, hc42, hf⟩ := bI_elim hf
            refine kw_callVI C [] (kX1_takeSign L D g t0 σ10 _ _ hc42) RX1 mV_X1_64 ⟨rfl, rfl⟩ dd_X1_takeSign ⟨Nat.le_of_ble_eq_true rfl, Nat.le_of_ble_eq_true rfl⟩ _ (hO1 g σ10) rfl rfl rfl (Nat.le_of_ble_eq_true rfl) dX1_readFormula_100 ?_
            refine kw_sub [0, 1, 2, 4] _ rfl ?_
            exact kJ40 _ _ hf
          · have hf := if_p c41 hf
            refine kw_aload_n C dX1_readFormula_92 rfl 0 rfl ?_
            obtain ⟨r46, σ47, hc45, hf⟩ := bI_elim hf
            refine kw_callVI C [] (kX1_takeClosing L D g t0 σ10 _ _ hc45) RX1 mV_X1_61 ⟨rfl, rfl⟩ dd_X1_takeClosing ⟨Nat.le_of_ble_eq_true rfl, Nat.le_of_ble_eq_true rfl⟩ _ (hO1 g σ10) rfl rfl rfl (Nat.le_of_ble_eq_true rfl) dX1_readFormula_93 ?_
            refine kw_goto C 103 dX1_readFormula_96 rfl ?_
            refine kw_sub [0, 1, 2, 4] _ rfl ?_
            exact kJ40 _ _ hf
        · have hf := if_n c37 hf
          refine kw_aload_n C dX1_readFormula_71 rfl 0 rfl ?_
          obtain ⟨r49, σ50, hc48, hf⟩ := bI_elim hf
          refine kw_callVI C [] (kX1_takeOperand L D g t0 σ10 _ _ hc48) RX1 mV_X1_52 ⟨rfl, rfl⟩ dd_X1_takeOperand ⟨Nat.le_of_ble_eq_true rfl, Nat.le_of_ble_eq_true rfl⟩ _ (hO1 g σ10) rfl rfl rfl (Nat.le_of_ble_eq_true rfl) dX1_readFormula_72 ?_
          refine kw_istore C dX1_readFormula_75 hN (Nat.le_of_ble_eq_true rfl) [(4, .int r49), (0, .ref (g.1 11)), (2, .int p1), (3, .int x7), (5, .int x9)] rfl ?_
          refine kw_goto C 105 dX1_readFormula_77 rfl ?_
          refine kw_sub [1, 2, 3, 0, 4] _ rfl ?_
          exact kJ30 _ _ hf
set_option maxRecDepth 100000 in
set_option maxHeartbeats 4000000 in
theorem kX3_mostOfSetting (L : Launch) (D : va_G) (g : GwT) (t0 : Nat) (p0 : Int32) (σ : St) (r0 : Int32) (hf : fX3_mostOfSetting σ p0 = some r0) : CtI L D (ttG g) (wB g) t0 yX3_mostOfSetting cX3_mostOfSetting 1 (some .int) { frames := 0, cells := 0, slots := 0, locals := 0 } [.int p0] σ r0 σ := by
  refine CtI.of (own := RX3) (by decide) rfl (Nat.le_of_ble_eq_true rfl) [(0, .int p0)] rfl ?_
  intro X C hN K
  unfold fX3_mostOfSetting at hf
  refine kw_iload_n C dX3_mostOfSetting_0 rfl 0 rfl ?_
  by_cases c1 : p0 = (2 : Int32)
  · have hf := if_p c1 hf
    refine kw_look (off := 27) C 28 dX3_mostOfSetting_1 rfl (by rw [c1]; rfl) rfl ?_
    refine kw_bipush C (20 : Int32) dX3_mostOfSetting_28 rfl ?_
    exact kw_iret C K dX3_mostOfSetting_30 (pr_ret hf)
  have hf := if_n c1 hf
  by_cases c2 : p0 = (3 : Int32)
  · have hf := if_p c2 hf
    refine kw_look (off := 30) C 31 dX3_mostOfSetting_1 rfl (by rw [c2]; rfl) rfl ?_
    refine kw_sipush C (999 : Int32) dX3_mostOfSetting_31 rfl ?_
    exact kw_iret C K dX3_mostOfSetting_34 (pr_ret hf)
  have hf := if_n c2 hf
  have c1_ : p0.toInt ≠ 2 := ne_ti c1
  have c2_ : p0.toInt ≠ 3 := ne_ti c2
  refine kw_look (off := 34) C 35 dX3_mostOfSetting_1 rfl (by simp only [Op.lookupswitch.offset_cons, Op.lookupswitch.offset_nil, if_neg (Ne.symm c1_), if_neg (Ne.symm c2_)]; try rfl) rfl ?_
  refine kw_ldc C dX3_mostOfSetting_35 mk_X3_161 ?_
  exact kw_iret C K dX3_mostOfSetting_37 (pr_ret hf)
set_option maxRecDepth 100000 in
set_option maxHeartbeats 4000000 in
theorem kX3_refuse (L : Launch) (D : va_G) (g : GwT) (t0 : Nat) (p0 : Int32) (σ : St) (r0 : Int32) (σ0 : St) (hf : fX3_refuse σ p0 = some (r0, σ0)) : CtI L D (ttG g) (wB g) t0 yX3_refuse cX3_refuse 2 (some .boolean) { frames := 0, cells := 0, slots := 0, locals := 0 } [.ref (g.1 9), .int p0] σ r0 σ0 := by
  refine CtI.of (own := RX3) (by decide) rfl (Nat.le_of_ble_eq_true rfl) [(0, .ref (g.1 9)), (1, .int p0)] rfl ?_
  intro X C hN K
  unfold fX3_refuse at hf
  refine kw_aload_n C dX3_refuse_0 rfl 0 rfl ?_
  refine kw_iload_n C dX3_refuse_1 rfl 1 rfl ?_
  obtain ⟨σ1, eσ1, hf⟩ := lt_elim hf
  refine kw_put C inG3 tyX3 tyX3_ok nmX3 _ (hO3 g σ) rfl 3 (Nat.le_of_ble_eq_true rfl) mf_3_39 rfl rfl (tyX3_ok 3 (Nat.le_of_ble_eq_true rfl)) rfl rfl (Nat.le_of_ble_eq_true rfl) ((hF3_3 g σ _).trans (congrArg (wB g) eσ1.symm)) dX3_refuse_2 ?_
  refine kw_iconst C (0 : Int32) dX3_refuse_5 rfl ?_
  exact kw_zret C K (by decide) dX3_refuse_6 hf
set_option maxRecDepth 100000 in
set_option maxHeartbeats 4000000 in
theorem kX3_isNumber (L : Launch) (D : va_G) (g : GwT) (t0 : Nat) (p0 : Int32) (p1 : Int32) (σ : St) (r0 : Int32) (σ0 : St) (hf : fX3_isNumber σ p0 p1 = some (r0, σ0)) : CtI L D (ttG g) (wB g) t0 yX3_isNumber cX3_isNumber 3 (some .boolean) { frames := 1, cells := 0, slots := 0, locals := 22 } [.ref (g.1 9), .int p0, .int p1] σ r0 σ0 := by
  refine CtI.of (own := RX3) (by decide) rfl (Nat.le_of_ble_eq_true rfl) [(0, .ref (g.1 9)), (1, .int p0), (2, .int p1)] rfl ?_
  intro X C hN K
  unfold fX3_isNumber at hf
  refine kw_aload_n C dX3_isNumber_0 rfl 0 rfl ?_
  refine kw_get C inG3 _ (hO3 g σ) rfl 0 (Nat.le_of_ble_eq_true rfl) mf_3_20 rfl rfl dX3_isNumber_1 ?_
  refine kw_get C inG7 _ (hO7 g σ) rfl 3 (Nat.le_of_ble_eq_true rfl) mf_3_59 rfl rfl dX3_isNumber_4 ?_
  refine kw_bipush C (20 : Int32) dX3_isNumber_7 rfl ?_
  refine kw_icmp_eq C 18 dX3_isNumber_9 rfl (fun c1 => ?_) (fun c1 => ?_)
  · have hf := if_p c1 hf
    refine kw_aload_n C dX3_isNumber_18 rfl 0 rfl ?_
    refine kw_get C inG3 _ (hO3 g σ) rfl 0 (Nat.le_of_ble_eq_true rfl) mf_3_20 rfl rfl dX3_isNumber_19 ?_
    refine kw_get C inG7 _ (hO7 g σ) rfl 5 (Nat.le_of_ble_eq_true rfl) mf_3_133 rfl rfl dX3_isNumber_22 ?_
    refine kw_iload_n C dX3_isNumber_25 rfl 1 rfl ?_
    refine kw_iload_n C dX3_isNumber_26 rfl 2 rfl ?_
    obtain ⟨r3, hc2, hf⟩ := bd_elim hf
    refine kw_callNI C [.int (gI σ 10 5), .int p0, .int p1] (kX9_isWithin L D g t0 (gI σ 10 5) p0 p1 σ _ hc2) "BidLines" (fun _ h => h.2.2.2.1) (GT_c mcode_X9_isWithin (fun _ h => h)) mi_X9 mst_X9_isWithin ⟨rfl, rfl⟩ dd_X9_isWithin.2 ⟨Nat.le_of_ble_eq_true rfl, Nat.le_of_ble_eq_true rfl⟩ rfl (Nat.le_of_ble_eq_true rfl) dX3_isNumber_27 ?_
    obtain ⟨J6, hJ6, hf⟩ := jnx2_elim hf
    have kJ6 : ∀ (x4 : Int32) (σ5 : St), J6 x4 σ5 = some (r0, σ0) → KW X σ5 46 [] [.int x4] := by
      clear hf
      intro x4 σ5 hf
      have hf := (hJ6 x4 σ5).symm.trans hf
      obtain ⟨h7, hf⟩ := gd_elim hf
      exact kw_zret C K h7 dX3_isNumber_46 hf
    obtain ⟨J9, hJ9, hf⟩ := jnx1_elim hf
    have kJ9 : ∀ (σ8 : St), J9 σ8 = some (r0, σ0) → KW X σ8 41 [] [] := by
      clear hf
      intro σ8 hf
      have hf := (hJ9 σ8).symm.trans hf
      refine kw_iconst C (1 : Int32) dX3_isNumber_41 rfl ?_
      refine kw_goto C 46 dX3_isNumber_42 rfl ?_
      exact kJ6 _ _ hf
    refine kw_if_ne C 41 dX3_isNumber_30 rfl (fun c10 => ?_) (fun c10 => ?_)
    · have hf := if_n c10 hf
      refine kw_sub [] _ rfl ?_
      exact kJ9 _ hf
    · have hf := if_p c10 hf
      refine kw_aload_n C dX3_isNumber_33 rfl 0 rfl ?_
      refine kw_iconst C (2 : Int32) dX3_isNumber_34 rfl ?_
      obtain ⟨r12, σ13, hc11, hf⟩ := bI_elim hf
      refine kw_callVI C [.int (2 : Int32)] (kX3_refuse L D g t0 (2 : Int32) σ _ _ hc11) RX3 mV_X3_69 ⟨rfl, rfl⟩ dd_X3_refuse ⟨Nat.le_of_ble_eq_true rfl, Nat.le_of_ble_eq_true rfl⟩ _ (hO3 g σ) rfl rfl rfl (Nat.le_of_ble_eq_true rfl) dX3_isNumber_35 ?_
      refine kw_if_eq C 45 dX3_isNumber_38 rfl (fun c14 => ?_) (fun c14 => ?_)
      · have hf := if_p c14 hf
        refine kw_iconst C (0 : Int32) dX3_isNumber_45 rfl ?_
        refine kw_sub [] _ rfl ?_
        exact kJ6 _ _ hf
      · have hf := if_n c14 hf
        refine kw_sub [] _ rfl ?_
        exact kJ9 _ hf
  · have hf := if_n c1 hf
    refine kw_aload_n C dX3_isNumber_12 rfl 0 rfl ?_
    refine kw_iconst C (1 : Int32) dX3_isNumber_13 rfl ?_
    obtain ⟨r16, σ17, hc15, hf⟩ := bI_elim hf
    refine kw_callVI C [.int (1 : Int32)] (kX3_refuse L D g t0 (1 : Int32) σ _ _ hc15) RX3 mV_X3_69 ⟨rfl, rfl⟩ dd_X3_refuse ⟨Nat.le_of_ble_eq_true rfl, Nat.le_of_ble_eq_true rfl⟩ _ (hO3 g σ) rfl rfl rfl (Nat.le_of_ble_eq_true rfl) dX3_isNumber_14 ?_
    obtain ⟨h18, hf⟩ := gd_elim hf
    exact kw_zret C K h18 dX3_isNumber_17 hf
set_option maxRecDepth 100000 in
set_option maxHeartbeats 4000000 in
theorem kX3_readSetting (L : Launch) (D : va_G) (g : GwT) (t0 : Nat) (p0 : Int32) (σ : St) (r0 : Int32) (σ0 : St) (hf : fX3_readSetting σ p0 = some (r0, σ0)) : CtI L D (ttG g) (wB g) t0 yX3_readSetting cX3_readSetting 2 (some .boolean) { frames := 3, cells := 0, slots := 0, locals := 65 } [.ref (g.1 9), .int p0] σ r0 σ0 := by
  refine CtI.of (own := RX3) (by decide) rfl (Nat.le_of_ble_eq_true rfl) [(0, .ref (g.1 9)), (1, .int p0)] rfl ?_
  intro X C hN K
  unfold fX3_readSetting at hf
  refine kw_aload_n C dX3_readSetting_0 rfl 0 rfl ?_
  refine kw_get C inG3 _ (hO3 g σ) rfl 4 (Nat.le_of_ble_eq_true rfl) mf_3_49 rfl rfl dX3_readSetting_1 ?_
  refine kw_iload_n C dX3_readSetting_4 rfl 1 rfl ?_
  refine kw_ishr C dX3_readSetting_5 ?_
  refine kw_iconst C (1 : Int32) dX3_readSetting_6 rfl ?_
  refine kw_iand C dX3_readSetting_7 ?_
  refine kw_iconst C (1 : Int32) dX3_readSetting_8 rfl ?_
  refine kw_icmp_ne C 18 dX3_readSetting_9 rfl (fun c1 => ?_) (fun c1 => ?_)
  · have hf := if_n c1 hf
    refine kw_aload_n C dX3_readSetting_18 rfl 0 rfl ?_
    refine kw_dup C dX3_readSetting_19 rfl ?_
    refine kw_get C inG3 _ (hO3 g σ) rfl 4 (Nat.le_of_ble_eq_true rfl) mf_3_49 rfl rfl dX3_readSetting_20 ?_
    refine kw_iconst C (1 : Int32) dX3_readSetting_23 rfl ?_
    refine kw_iload_n C dX3_readSetting_24 rfl 1 rfl ?_
    refine kw_ishl C dX3_readSetting_25 ?_
    refine kw_ior C dX3_readSetting_26 ?_
    obtain ⟨σ2, eσ2, hf⟩ := lt_elim hf
    refine kw_put C inG3 tyX3 tyX3_ok nmX3 _ (hO3 g σ) rfl 4 (Nat.le_of_ble_eq_true rfl) mf_3_49 rfl rfl (tyX3_ok 4 (Nat.le_of_ble_eq_true rfl)) rfl rfl (Nat.le_of_ble_eq_true rfl) ((hF3_4 g σ _).trans (congrArg (wB g) eσ2.symm)) dX3_readSetting_27 ?_
    refine kw_aload_n C dX3_readSetting_30 rfl 0 rfl ?_
    refine kw_get C inG3 _ (hO3 g σ2) rfl 0 (Nat.le_of_ble_eq_true rfl) mf_3_20 rfl rfl dX3_readSetting_31 ?_
    obtain ⟨σ4, hc3, hf⟩ := bV_elim hf
    refine kw_callVV C [] (kX7_advance L D g t0 σ2 _ hc3) RX7 mV_X3_73 ⟨rfl, rfl⟩ dd_X7_advance ⟨Nat.le_of_ble_eq_true rfl, Nat.le_of_ble_eq_true rfl⟩ _ (hO7 g σ2) rfl rfl rfl (Nat.le_of_ble_eq_true rfl) dX3_readSetting_34 ?_
    refine kw_aload_n C dX3_readSetting_37 rfl 0 rfl ?_
    refine kw_iload_n C dX3_readSetting_38 rfl 1 rfl ?_
    refine kw_iconst C (2 : Int32) dX3_readSetting_39 rfl ?_
    obtain ⟨J6, hJ6, hf⟩ := jnx1_elim hf
    have kJ6 : ∀ (x5 : Int32), J6 x5 = some (r0, σ0) → KW X σ4 48 [(0, .ref (g.1 9)), (1, .int p0)] [.int x5, .ref (g.1 9)] := by
      clear hf
      intro x5 hf
      have hf := (hJ6 x5).symm.trans hf
      refine kw_iload_n C dX3_readSetting_48 rfl 1 rfl ?_
      obtain ⟨r8, hc7, hf⟩ := bd_elim hf
      refine kw_callSI C [.int p0] (kX3_mostOfSetting L D g t0 p0 σ4 _ hc7) mS_X3_148 ⟨rfl, rfl⟩ dd_X3_mostOfSetting ⟨Nat.le_of_ble_eq_true rfl, Nat.le_of_ble_eq_true rfl⟩ rfl (Nat.le_of_ble_eq_true rfl) dX3_readSetting_49 ?_
      obtain ⟨r10, σ11, hc9, hf⟩ := bI_elim hf
      refine kw_callVI C [.int x5, .int r8] (kX3_isNumber L D g t0 x5 r8 σ4 _ _ hc9) RX3 mV_X3_140 ⟨rfl, rfl⟩ dd_X3_isNumber ⟨Nat.le_of_ble_eq_true rfl, Nat.le_of_ble_eq_true rfl⟩ _ (hO3 g σ4) rfl rfl rfl (Nat.le_of_ble_eq_true rfl) dX3_readSetting_52 ?_
      refine kw_if_ne C 60 dX3_readSetting_55 rfl (fun c12 => ?_) (fun c12 => ?_)
      · have hf := if_n c12 hf
        refine kw_iload_n C dX3_readSetting_60 rfl 1 rfl ?_
        refine kw_iconst C (2 : Int32) dX3_readSetting_61 rfl ?_
        obtain ⟨J14, hJ14, hf⟩ := jnx1_elim hf
        have kJ14 : ∀ (σ13 : St), J14 σ13 = some (r0, σ0) → KW X σ13 118 [(0, .ref (g.1 9))] [] := by
          clear hf
          intro σ13 hf
          have hf := (hJ14 σ13).symm.trans hf
          refine kw_aload_n C dX3_readSetting_118 rfl 0 rfl ?_
          refine kw_get C inG3 _ (hO3 g σ13) rfl 0 (Nat.le_of_ble_eq_true rfl) mf_3_20 rfl rfl dX3_readSetting_119 ?_
          obtain ⟨σ16, hc15, hf⟩ := bV_elim hf
          refine kw_callVV C [] (kX7_advance L D g t0 σ13 _ hc15) RX7 mV_X3_73 ⟨rfl, rfl⟩ dd_X7_advance ⟨Nat.le_of_ble_eq_true rfl, Nat.le_of_ble_eq_true rfl⟩ _ (hO7 g σ13) rfl rfl rfl (Nat.le_of_ble_eq_true rfl) dX3_readSetting_122 ?_
          refine kw_iconst C (1 : Int32) dX3_readSetting_125 rfl ?_
          exact kw_zret C K (by decide) dX3_readSetting_126 hf
        refine kw_icmp_ne C 82 dX3_readSetting_62 rfl (fun c17 => ?_) (fun c17 => ?_)
        · have hf := if_n c17 hf
          refine kw_iload_n C dX3_readSetting_82 rfl 1 rfl ?_
          refine kw_iconst C (3 : Int32) dX3_readSetting_83 rfl ?_
          refine kw_icmp_ne C 104 dX3_readSetting_84 rfl (fun c18 => ?_) (fun c18 => ?_)
          · have hf := if_n c18 hf
            refine kw_aload_n C dX3_readSetting_104 rfl 0 rfl ?_
            refine kw_get C inG3 _ (hO3 g σ11) rfl 2 (Nat.le_of_ble_eq_true rfl) mf_3_9 rfl rfl dX3_readSetting_105 ?_
            refine kw_aload_n C dX3_readSetting_108 rfl 0 rfl ?_
            refine kw_get C inG3 _ (hO3 g σ11) rfl 0 (Nat.le_of_ble_eq_true rfl) mf_3_20 rfl rfl dX3_readSetting_109 ?_
            refine kw_get C inG7 _ (hO7 g σ11) rfl 5 (Nat.le_of_ble_eq_true rfl) mf_3_133 rfl rfl dX3_readSetting_112 ?_
            obtain ⟨σ19, eσ19, hf⟩ := lt_elim hf
            refine kw_put C inG6 tyX6 tyX6_ok nmX6 _ (hO6 g σ11 (gR σ11 3)) rfl 14 (Nat.le_of_ble_eq_true rfl) mf_3_158 rfl rfl (tyX6_ok 14 (Nat.le_of_ble_eq_true rfl)) rfl rfl (Nat.le_of_ble_eq_true rfl) ((hF6_14 g σ11 (gR σ11 3) _).trans (congrArg (wB g) eσ19.symm)) dX3_readSetting_115 ?_
            refine kw_sub [0] _ rfl ?_
            exact kJ14 _ hf
          · have hf := if_p c18 hf
            refine kw_aload_n C dX3_readSetting_87 rfl 0 rfl ?_
            refine kw_get C inG3 _ (hO3 g σ11) rfl 2 (Nat.le_of_ble_eq_true rfl) mf_3_9 rfl rfl dX3_readSetting_88 ?_
            refine kw_aload_n C dX3_readSetting_91 rfl 0 rfl ?_
            refine kw_get C inG3 _ (hO3 g σ11) rfl 0 (Nat.le_of_ble_eq_true rfl) mf_3_20 rfl rfl dX3_readSetting_92 ?_
            refine kw_get C inG7 _ (hO7 g σ11) rfl 5 (Nat.le_of_ble_eq_true rfl) mf_3_133 rfl rfl dX3_readSetting_95 ?_
            obtain ⟨σ20, eσ20, hf⟩ := lt_elim hf
            refine kw_put C inG6 tyX6 tyX6_ok nmX6 _ (hO6 g σ11 (gR σ11 3)) rfl 13 (Nat.le_of_ble_eq_true rfl) mf_3_155 rfl rfl (tyX6_ok 13 (Nat.le_of_ble_eq_true rfl)) rfl rfl (Nat.le_of_ble_eq_true rfl) ((hF6_13 g σ11 (gR σ11 3) _).trans (congrArg (wB g) eσ20.symm)) dX3_readSetting_98 ?_
            refine kw_goto C 118 dX3_readSetting_101 rfl ?_
            refine kw_sub [0] _ rfl ?_
            exact kJ14 _ hf
        · have hf := if_p c17 hf
          refine kw_aload_n C dX3_readSetting_65 rfl 0 rfl ?_
          refine kw_get C inG3 _ (hO3 g σ11) rfl 2 (Nat.le_of_ble_eq_true rfl) mf_3_9 rfl rfl dX3_readSetting_66 ?_
          refine kw_aload_n C dX3_readSetting_69 rfl 0 rfl ?_
          refine kw_get C inG3 _ (hO3 g σ11) rfl 0 (Nat.le_of_ble_eq_true rfl) mf_3_20 rfl rfl dX3_readSetting_70 ?_
          refine kw_get C inG7 _ (hO7 g σ11) rfl 5 (Nat.le_of_ble_eq_true rfl) mf_3_133 rfl rfl dX3_readSetting_73 ?_
          obtain ⟨σ21, eσ21, hf⟩ := lt_elim hf
          refine kw_put C inG6 tyX6 tyX6_ok nmX6 _ (hO6 g σ11 (gR σ11 3)) rfl 12 (Nat.le_of_ble_eq_true rfl) mf_3_152 rfl rfl (tyX6_ok 12 (Nat.le_of_ble_eq_true rfl)) rfl rfl (Nat.le_of_ble_eq_true rfl) ((hF6_12 g σ11 (gR σ11 3) _).trans (congrArg (wB g) eσ21.symm)) dX3_readSetting_76 ?_
          refine kw_goto C 118 dX3_readSetting_79 rfl ?_
          refine kw_sub [0] _ rfl ?_
          exact kJ14 _ hf
      · have hf := if_p c12 hf
        refine kw_iconst C (0 : Int32) dX3_readSetting_58 rfl ?_
        exact kw_zret C K (by decide) dX3_readSetting_59 hf
    refine kw_icmp_ne C 47 dX3_readSetting_40 rfl (fun c22 => ?_) (fun c22 => ?_)
    · have hf := if_n c22 hf
      refine kw_iconst C (0 : Int32) dX3_readSetting_47 rfl ?_
      exact kJ6 _ hf
    · have hf := if_p c22 hf
      refine kw_iconst C (1 : Int32) dX3_readSetting_43 rfl ?_
      refine kw_goto C 48 dX3_readSetting_44 rfl ?_
      exact kJ6 _ hf
  · have hf := if_p c1 hf
    refine kw_aload_n C dX3_readSetting_12 rfl 0 rfl ?_
    refine kw_iconst C (3 : Int32) dX3_readSetting_13 rfl ?_
    obtain ⟨r24, σ25, hc23, hf⟩ := bI_elim hf
    refine kw_callVI C [.int (3 : Int32)] (kX3_refuse L D g t0 (3 : Int32) σ _ _ hc23) RX3 mV_X3_69 ⟨rfl, rfl⟩ dd_X3_refuse ⟨Nat.le_of_ble_eq_true rfl, Nat.le_of_ble_eq_true rfl⟩ _ (hO3 g σ) rfl rfl rfl (Nat.le_of_ble_eq_true rfl) dX3_readSetting_14 ?_
    obtain ⟨h26, hf⟩ := gd_elim hf
    exact kw_zret C K h26 dX3_readSetting_17 hf
set_option maxRecDepth 100000 in
set_option maxHeartbeats 4000000 in
theorem kX9_placeOf_a6_2 (L : Launch) (D : va_G) (g : GwT) (t0 : Nat) (p0 : Int32) (p1 : Bool) (p2 : Int32) (σ : St) (r0 : Int32) (hf : fX9_placeOf_a6_2 σ p0 p1 p2 = some r0) : CtI L D (ttG g) (wB g) t0 yX9_placeOf cX9_placeOf 4 (some .int) { frames := 0, cells := 0, slots := 0, locals := 0 } [.int p0, .ref (g.2.1 (tx p1) 2), .int p2] σ r0 σ := by
  refine CtI.of (own := RX9) (by decide) rfl (Nat.le_of_ble_eq_true rfl) [(0, .int p0), (1, .ref (g.2.1 (tx p1) 2)), (2, .int p2)] rfl ?_
  intro X C hN K
  unfold fX9_placeOf_a6_2 at hf
  refine kw_iconst C (0 : Int32) dX9_placeOf_0 rfl ?_
  refine kw_istore_n C dX9_placeOf_1 rfl hN (Nat.le_of_ble_eq_true rfl) [(3, .int (0 : Int32)), (0, .int p0), (1, .ref (g.2.1 (tx p1) 2)), (2, .int p2)] rfl ?_
  refine kw_sub [1, 2, 3, 0] _ rfl ?_
  refine lpx1_walk (P := fun (x1 : Int32) => KW X σ 2 [(0, .int p0), (1, .ref (g.2.1 (tx p1) 2)), (2, .int p2), (3, .int x1)] []) ?_ FU _ hf
  intro self2 x1 ih3 hf
  refine kw_iload_n C dX9_placeOf_2 rfl 3 rfl ?_
  refine kw_iload_n C dX9_placeOf_3 rfl 2 rfl ?_
  obtain ⟨J4, hJ4, hf⟩ := jnx1_elim hf
  have kJ4 : ∀ (u9 : Unit), J4 u9 = some r0 → KW X σ 28 [] [] := by
    clear hf
    intro u9 hf
    have hf := (hJ4 u9).symm.trans hf
    refine kw_iconst C (-1 : Int32) dX9_placeOf_28 rfl ?_
    exact kw_iret C K dX9_placeOf_29 (pr_ret hf)
  refine kw_icmp_ge C 28 dX9_placeOf_4 rfl (fun c5 => ?_) (fun c5 => ?_)
  · have hf := if_p c5 hf
    refine kw_sub [] _ rfl ?_
    exact kJ4 _ hf
  · have hf := if_n c5 hf
    refine kw_iload_n C dX9_placeOf_7 rfl 3 rfl ?_
    refine kw_aload_n C dX9_placeOf_8 rfl 1 rfl ?_
    refine kw_alen C _ 0 (hA6_2 g σ p1) rfl (6 : Int32) rfl dX9_placeOf_9 ?_
    refine kw_icmp_ge C 28 dX9_placeOf_10 rfl (fun c6 => ?_) (fun c6 => ?_)
    · have hf := if_p c6 hf
      refine kw_sub [] _ rfl ?_
      exact kJ4 _ hf
    · have hf := if_n c6 hf
      refine kw_aload_n C dX9_placeOf_13 rfl 1 rfl ?_
      refine kw_iload_n C dX9_placeOf_14 rfl 3 rfl ?_
      obtain ⟨h7, hf⟩ := gd_elim hf
      refine kw_iald C _ 0 (hA6_2 g σ p1) rfl h7 dX9_placeOf_15 ?_
      refine kw_iload_n C dX9_placeOf_16 rfl 0 rfl ?_
      refine kw_icmp_ne C 22 dX9_placeOf_17 rfl (fun c8 => ?_) (fun c8 => ?_)
      · have hf := if_n c8 hf
        obtain ⟨x9, ex9, hf⟩ := lt_elim hf
        refine kw_iinc C x9 dX9_placeOf_22 3 rfl ex9.symm hN (Nat.le_of_ble_eq_true rfl) [(3, .int x9), (0, .int p0), (1, .ref (g.2.1 (tx p1) 2)), (2, .int p2)] rfl ?_
        refine kw_goto C 2 dX9_placeOf_25 rfl ?_
        refine kw_sub [1, 2, 3, 0] _ rfl ?_
        exact ih3 _ hf
      · have hf := if_p c8 hf
        refine kw_iload_n C dX9_placeOf_20 rfl 3 rfl ?_
        exact kw_iret C K dX9_placeOf_21 (pr_ret hf)
set_option maxRecDepth 100000 in
set_option maxHeartbeats 4000000 in
theorem kX3_readName_a6_2 (L : Launch) (D : va_G) (g : GwT) (t0 : Nat) (p0 : Bool) (p1 : Int32) (σ : St) (r0 : Int32) (σ0 : St) (hf : fX3_readName_a6_2 σ p0 p1 = some (r0, σ0)) : CtI L D (ttG g) (wB g) t0 yX3_readName cX3_readName 3 (some .boolean) { frames := 3, cells := 0, slots := 0, locals := 65 } [.ref (g.1 9), .ref (g.2.1 (tx p0) 2), .int p1] σ r0 σ0 := by
  refine CtI.of (own := RX3) (by decide) rfl (Nat.le_of_ble_eq_true rfl) [(0, .ref (g.1 9)), (1, .ref (g.2.1 (tx p0) 2)), (2, .int p1)] rfl ?_
  intro X C hN K
  unfold fX3_readName_a6_2 at hf
  refine kw_aload_n C dX3_readName_0 rfl 0 rfl ?_
  refine kw_get C inG3 _ (hO3 g σ) rfl 0 (Nat.le_of_ble_eq_true rfl) mf_3_20 rfl rfl dX3_readName_1 ?_
  refine kw_get C inG7 _ (hO7 g σ) rfl 3 (Nat.le_of_ble_eq_true rfl) mf_3_59 rfl rfl dX3_readName_4 ?_
  refine kw_bipush C (19 : Int32) dX3_readName_7 rfl ?_
  refine kw_icmp_eq C 18 dX3_readName_9 rfl (fun c1 => ?_) (fun c1 => ?_)
  · have hf := if_p c1 hf
    refine kw_aload_n C dX3_readName_18 rfl 0 rfl ?_
    refine kw_get C inG3 _ (hO3 g σ) rfl 0 (Nat.le_of_ble_eq_true rfl) mf_3_20 rfl rfl dX3_readName_19 ?_
    refine kw_get C inG7 _ (hO7 g σ) rfl 5 (Nat.le_of_ble_eq_true rfl) mf_3_133 rfl rfl dX3_readName_22 ?_
    refine kw_aload_n C dX3_readName_25 rfl 1 rfl ?_
    refine kw_iload_n C dX3_readName_26 rfl 2 rfl ?_
    obtain ⟨r3, hc2, hf⟩ := bd_elim hf
    refine kw_callNI C [.int (gI σ 10 5), .ref (g.2.1 (tx p0) 2), .int p1] (kX9_placeOf_a6_2 L D g t0 (gI σ 10 5) p0 p1 σ _ hc2) "BidLines" (fun _ h => h.2.2.1) (GT_c mcode_X9_placeOf (fun _ h => h)) mi_X9 mst_X9_placeOf ⟨rfl, rfl⟩ dd_X9_placeOf.2 ⟨Nat.le_of_ble_eq_true rfl, Nat.le_of_ble_eq_true rfl⟩ rfl (Nat.le_of_ble_eq_true rfl) dX3_readName_27 ?_
    refine kw_iconst C (-1 : Int32) dX3_readName_30 rfl ?_
    refine kw_icmp_eq C 40 dX3_readName_31 rfl (fun c4 => ?_) (fun c4 => ?_)
    · have hf := if_p c4 hf
      refine kw_iload_n C dX3_readName_40 rfl 2 rfl ?_
      refine kw_aload_n C dX3_readName_41 rfl 1 rfl ?_
      refine kw_alen C _ 0 (hA6_2 g σ p0) rfl (6 : Int32) rfl dX3_readName_42 ?_
      obtain ⟨J6, hJ6, hf⟩ := jnx1_elim hf
      have kJ6 : ∀ (σ5 : St), J6 σ5 = some (r0, σ0) → KW X σ5 56 [(0, .ref (g.1 9))] [] := by
        clear hf
        intro σ5 hf
        have hf := (hJ6 σ5).symm.trans hf
        refine kw_aload_n C dX3_readName_56 rfl 0 rfl ?_
        refine kw_get C inG3 _ (hO3 g σ5) rfl 0 (Nat.le_of_ble_eq_true rfl) mf_3_20 rfl rfl dX3_readName_57 ?_
        obtain ⟨σ8, hc7, hf⟩ := bV_elim hf
        refine kw_callVV C [] (kX7_advance L D g t0 σ5 _ hc7) RX7 mV_X3_73 ⟨rfl, rfl⟩ dd_X7_advance ⟨Nat.le_of_ble_eq_true rfl, Nat.le_of_ble_eq_true rfl⟩ _ (hO7 g σ5) rfl rfl rfl (Nat.le_of_ble_eq_true rfl) dX3_readName_60 ?_
        refine kw_iconst C (1 : Int32) dX3_readName_63 rfl ?_
        exact kw_zret C K (by decide) dX3_readName_64 hf
      refine kw_icmp_ge C 56 dX3_readName_43 rfl (fun c9 => ?_) (fun c9 => ?_)
      · have hf := if_p c9 hf
        refine kw_sub [0] _ rfl ?_
        exact kJ6 _ hf
      · have hf := if_n c9 hf
        refine kw_aload_n C dX3_readName_46 rfl 1 rfl ?_
        refine kw_iload_n C dX3_readName_47 rfl 2 rfl ?_
        refine kw_aload_n C dX3_readName_48 rfl 0 rfl ?_
        refine kw_get C inG3 _ (hO3 g σ) rfl 0 (Nat.le_of_ble_eq_true rfl) mf_3_20 rfl rfl dX3_readName_49 ?_
        refine kw_get C inG7 _ (hO7 g σ) rfl 5 (Nat.le_of_ble_eq_true rfl) mf_3_133 rfl rfl dX3_readName_52 ?_
        obtain ⟨h10, hf⟩ := gd_elim hf
        obtain ⟨σ11, eσ11, hf⟩ := lt_elim hf
        refine kw_iast C _ 0 (hA6_2 g σ p0) rfl h10 ((hS6_2 g σ p0 _).trans (congrArg (wB g) eσ11.symm)) dX3_readName_55 ?_
        refine kw_sub [0] _ rfl ?_
        exact kJ6 _ hf
    · have hf := if_n c4 hf
      refine kw_aload_n C dX3_readName_34 rfl 0 rfl ?_
      refine kw_iconst C (3 : Int32) dX3_readName_35 rfl ?_
      obtain ⟨r13, σ14, hc12, hf⟩ := bI_elim hf
      refine kw_callVI C [.int (3 : Int32)] (kX3_refuse L D g t0 (3 : Int32) σ _ _ hc12) RX3 mV_X3_69 ⟨rfl, rfl⟩ dd_X3_refuse ⟨Nat.le_of_ble_eq_true rfl, Nat.le_of_ble_eq_true rfl⟩ _ (hO3 g σ) rfl rfl rfl (Nat.le_of_ble_eq_true rfl) dX3_readName_36 ?_
      obtain ⟨h15, hf⟩ := gd_elim hf
      exact kw_zret C K h15 dX3_readName_39 hf
  · have hf := if_n c1 hf
    refine kw_aload_n C dX3_readName_12 rfl 0 rfl ?_
    refine kw_iconst C (1 : Int32) dX3_readName_13 rfl ?_
    obtain ⟨r17, σ18, hc16, hf⟩ := bI_elim hf
    refine kw_callVI C [.int (1 : Int32)] (kX3_refuse L D g t0 (1 : Int32) σ _ _ hc16) RX3 mV_X3_69 ⟨rfl, rfl⟩ dd_X3_refuse ⟨Nat.le_of_ble_eq_true rfl, Nat.le_of_ble_eq_true rfl⟩ _ (hO3 g σ) rfl rfl rfl (Nat.le_of_ble_eq_true rfl) dX3_readName_14 ?_
    obtain ⟨h19, hf⟩ := gd_elim hf
    exact kw_zret C K h19 dX3_readName_17 hf
set_option maxRecDepth 100000 in
set_option maxHeartbeats 4000000 in
theorem kX3_readNumber_a6_3 (L : Launch) (D : va_G) (g : GwT) (t0 : Nat) (p0 : Bool) (p1 : Int32) (p2 : Int32) (p3 : Int32) (σ : St) (r0 : Int32) (σ0 : St) (hf : fX3_readNumber_a6_3 σ p0 p1 p2 p3 = some (r0, σ0)) : CtI L D (ttG g) (wB g) t0 yX3_readNumber cX3_readNumber 5 (some .boolean) { frames := 3, cells := 0, slots := 0, locals := 65 } [.ref (g.1 9), .ref (g.2.1 (tx p0) 3), .int p1, .int p2, .int p3] σ r0 σ0 := by
  refine CtI.of (own := RX3) (by decide) rfl (Nat.le_of_ble_eq_true rfl) [(0, .ref (g.1 9)), (1, .ref (g.2.1 (tx p0) 3)), (2, .int p1), (3, .int p2), (4, .int p3)] rfl ?_
  intro X C hN K
  unfold fX3_readNumber_a6_3 at hf
  refine kw_aload_n C dX3_readNumber_0 rfl 0 rfl ?_
  refine kw_iload_n C dX3_readNumber_1 rfl 3 rfl ?_
  refine kw_iload C dX3_readNumber_2 4 rfl ?_
  obtain ⟨r2, σ3, hc1, hf⟩ := bI_elim hf
  refine kw_callVI C [.int p2, .int p3] (kX3_isNumber L D g t0 p2 p3 σ _ _ hc1) RX3 mV_X3_140 ⟨rfl, rfl⟩ dd_X3_isNumber ⟨Nat.le_of_ble_eq_true rfl, Nat.le_of_ble_eq_true rfl⟩ _ (hO3 g σ) rfl rfl rfl (Nat.le_of_ble_eq_true rfl) dX3_readNumber_4 ?_
  refine kw_if_ne C 12 dX3_readNumber_7 rfl (fun c4 => ?_) (fun c4 => ?_)
  · have hf := if_n c4 hf
    refine kw_iload_n C dX3_readNumber_12 rfl 2 rfl ?_
    refine kw_aload_n C dX3_readNumber_13 rfl 1 rfl ?_
    refine kw_alen C _ 0 (hA6_3 g σ3 p0) rfl (6 : Int32) rfl dX3_readNumber_14 ?_
    obtain ⟨J6, hJ6, hf⟩ := jnx1_elim hf
    have kJ6 : ∀ (σ5 : St), J6 σ5 = some (r0, σ0) → KW X σ5 28 [(0, .ref (g.1 9))] [] := by
      clear hf
      intro σ5 hf
      have hf := (hJ6 σ5).symm.trans hf
      refine kw_aload_n C dX3_readNumber_28 rfl 0 rfl ?_
      refine kw_get C inG3 _ (hO3 g σ5) rfl 0 (Nat.le_of_ble_eq_true rfl) mf_3_20 rfl rfl dX3_readNumber_29 ?_
      obtain ⟨σ8, hc7, hf⟩ := bV_elim hf
      refine kw_callVV C [] (kX7_advance L D g t0 σ5 _ hc7) RX7 mV_X3_73 ⟨rfl, rfl⟩ dd_X7_advance ⟨Nat.le_of_ble_eq_true rfl, Nat.le_of_ble_eq_true rfl⟩ _ (hO7 g σ5) rfl rfl rfl (Nat.le_of_ble_eq_true rfl) dX3_readNumber_32 ?_
      refine kw_iconst C (1 : Int32) dX3_readNumber_35 rfl ?_
      exact kw_zret C K (by decide) dX3_readNumber_36 hf
    refine kw_icmp_ge C 28 dX3_readNumber_15 rfl (fun c9 => ?_) (fun c9 => ?_)
    · have hf := if_p c9 hf
      refine kw_sub [0] _ rfl ?_
      exact kJ6 _ hf
    · have hf := if_n c9 hf
      refine kw_aload_n C dX3_readNumber_18 rfl 1 rfl ?_
      refine kw_iload_n C dX3_readNumber_19 rfl 2 rfl ?_
      refine kw_aload_n C dX3_readNumber_20 rfl 0 rfl ?_
      refine kw_get C inG3 _ (hO3 g σ3) rfl 0 (Nat.le_of_ble_eq_true rfl) mf_3_20 rfl rfl dX3_readNumber_21 ?_
      refine kw_get C inG7 _ (hO7 g σ3) rfl 5 (Nat.le_of_ble_eq_true rfl) mf_3_133 rfl rfl dX3_readNumber_24 ?_
      obtain ⟨h10, hf⟩ := gd_elim hf
      obtain ⟨σ11, eσ11, hf⟩ := lt_elim hf
      refine kw_iast C _ 0 (hA6_3 g σ3 p0) rfl h10 ((hS6_3 g σ3 p0 _).trans (congrArg (wB g) eσ11.symm)) dX3_readNumber_27 ?_
      refine kw_sub [0] _ rfl ?_
      exact kJ6 _ hf
  · have hf := if_p c4 hf
    refine kw_iconst C (0 : Int32) dX3_readNumber_10 rfl ?_
    exact kw_zret C K (by decide) dX3_readNumber_11 hf
set_option maxRecDepth 100000 in
set_option maxHeartbeats 4000000 in
theorem kX3_readNumber_a6_4 (L : Launch) (D : va_G) (g : GwT) (t0 : Nat) (p0 : Bool) (p1 : Int32) (p2 : Int32) (p3 : Int32) (σ : St) (r0 : Int32) (σ0 : St) (hf : fX3_readNumber_a6_4 σ p0 p1 p2 p3 = some (r0, σ0)) : CtI L D (ttG g) (wB g) t0 yX3_readNumber cX3_readNumber 5 (some .boolean) { frames := 3, cells := 0, slots := 0, locals := 65 } [.ref (g.1 9), .ref (g.2.1 (tx p0) 4), .int p1, .int p2, .int p3] σ r0 σ0 := by
  refine CtI.of (own := RX3) (by decide) rfl (Nat.le_of_ble_eq_true rfl) [(0, .ref (g.1 9)), (1, .ref (g.2.1 (tx p0) 4)), (2, .int p1), (3, .int p2), (4, .int p3)] rfl ?_
  intro X C hN K
  unfold fX3_readNumber_a6_4 at hf
  refine kw_aload_n C dX3_readNumber_0 rfl 0 rfl ?_
  refine kw_iload_n C dX3_readNumber_1 rfl 3 rfl ?_
  refine kw_iload C dX3_readNumber_2 4 rfl ?_
  obtain ⟨r2, σ3, hc1, hf⟩ := bI_elim hf
  refine kw_callVI C [.int p2, .int p3] (kX3_isNumber L D g t0 p2 p3 σ _ _ hc1) RX3 mV_X3_140 ⟨rfl, rfl⟩ dd_X3_isNumber ⟨Nat.le_of_ble_eq_true rfl, Nat.le_of_ble_eq_true rfl⟩ _ (hO3 g σ) rfl rfl rfl (Nat.le_of_ble_eq_true rfl) dX3_readNumber_4 ?_
  refine kw_if_ne C 12 dX3_readNumber_7 rfl (fun c4 => ?_) (fun c4 => ?_)
  · have hf := if_n c4 hf
    refine kw_iload_n C dX3_readNumber_12 rfl 2 rfl ?_
    refine kw_aload_n C dX3_readNumber_13 rfl 1 rfl ?_
    refine kw_alen C _ 0 (hA6_4 g σ3 p0) rfl (6 : Int32) rfl dX3_readNumber_14 ?_
    obtain ⟨J6, hJ6, hf⟩ := jnx1_elim hf
    have kJ6 : ∀ (σ5 : St), J6 σ5 = some (r0, σ0) → KW X σ5 28 [(0, .ref (g.1 9))] [] := by
      clear hf
      intro σ5 hf
      have hf := (hJ6 σ5).symm.trans hf
      refine kw_aload_n C dX3_readNumber_28 rfl 0 rfl ?_
      refine kw_get C inG3 _ (hO3 g σ5) rfl 0 (Nat.le_of_ble_eq_true rfl) mf_3_20 rfl rfl dX3_readNumber_29 ?_
      obtain ⟨σ8, hc7, hf⟩ := bV_elim hf
      refine kw_callVV C [] (kX7_advance L D g t0 σ5 _ hc7) RX7 mV_X3_73 ⟨rfl, rfl⟩ dd_X7_advance ⟨Nat.le_of_ble_eq_true rfl, Nat.le_of_ble_eq_true rfl⟩ _ (hO7 g σ5) rfl rfl rfl (Nat.le_of_ble_eq_true rfl) dX3_readNumber_32 ?_
      refine kw_iconst C (1 : Int32) dX3_readNumber_35 rfl ?_
      exact kw_zret C K (by decide) dX3_readNumber_36 hf
    refine kw_icmp_ge C 28 dX3_readNumber_15 rfl (fun c9 => ?_) (fun c9 => ?_)
    · have hf := if_p c9 hf
      refine kw_sub [0] _ rfl ?_
      exact kJ6 _ hf
    · have hf := if_n c9 hf
      refine kw_aload_n C dX3_readNumber_18 rfl 1 rfl ?_
      refine kw_iload_n C dX3_readNumber_19 rfl 2 rfl ?_
      refine kw_aload_n C dX3_readNumber_20 rfl 0 rfl ?_
      refine kw_get C inG3 _ (hO3 g σ3) rfl 0 (Nat.le_of_ble_eq_true rfl) mf_3_20 rfl rfl dX3_readNumber_21 ?_
      refine kw_get C inG7 _ (hO7 g σ3) rfl 5 (Nat.le_of_ble_eq_true rfl) mf_3_133 rfl rfl dX3_readNumber_24 ?_
      obtain ⟨h10, hf⟩ := gd_elim hf
      obtain ⟨σ11, eσ11, hf⟩ := lt_elim hf
      refine kw_iast C _ 0 (hA6_4 g σ3 p0) rfl h10 ((hS6_4 g σ3 p0 _).trans (congrArg (wB g) eσ11.symm)) dX3_readNumber_27 ?_
      refine kw_sub [0] _ rfl ?_
      exact kJ6 _ hf
  · have hf := if_p c4 hf
    refine kw_iconst C (0 : Int32) dX3_readNumber_10 rfl ?_
    exact kw_zret C K (by decide) dX3_readNumber_11 hf
set_option maxRecDepth 100000 in
set_option maxHeartbeats 4000000 in
theorem kX3_readNumber_a6_5 (L : Launch) (D : va_G) (g : GwT) (t0 : Nat) (p0 : Bool) (p1 : Int32) (p2 : Int32) (p3 : Int32) (σ : St) (r0 : Int32) (σ0 : St) (hf : fX3_readNumber_a6_5 σ p0 p1 p2 p3 = some (r0, σ0)) : CtI L D (ttG g) (wB g) t0 yX3_readNumber cX3_readNumber 5 (some .boolean) { frames := 3, cells := 0, slots := 0, locals := 65 } [.ref (g.1 9), .ref (g.2.1 (tx p0) 5), .int p1, .int p2, .int p3] σ r0 σ0 := by
  refine CtI.of (own := RX3) (by decide) rfl (Nat.le_of_ble_eq_true rfl) [(0, .ref (g.1 9)), (1, .ref (g.2.1 (tx p0) 5)), (2, .int p1), (3, .int p2), (4, .int p3)] rfl ?_
  intro X C hN K
  unfold fX3_readNumber_a6_5 at hf
  refine kw_aload_n C dX3_readNumber_0 rfl 0 rfl ?_
  refine kw_iload_n C dX3_readNumber_1 rfl 3 rfl ?_
  refine kw_iload C dX3_readNumber_2 4 rfl ?_
  obtain ⟨r2, σ3, hc1, hf⟩ := bI_elim hf
  refine kw_callVI C [.int p2, .int p3] (kX3_isNumber L D g t0 p2 p3 σ _ _ hc1) RX3 mV_X3_140 ⟨rfl, rfl⟩ dd_X3_isNumber ⟨Nat.le_of_ble_eq_true rfl, Nat.le_of_ble_eq_true rfl⟩ _ (hO3 g σ) rfl rfl rfl (Nat.le_of_ble_eq_true rfl) dX3_readNumber_4 ?_
  refine kw_if_ne C 12 dX3_readNumber_7 rfl (fun c4 => ?_) (fun c4 => ?_)
  · have hf := if_n c4 hf
    refine kw_iload_n C dX3_readNumber_12 rfl 2 rfl ?_
    refine kw_aload_n C dX3_readNumber_13 rfl 1 rfl ?_
    refine kw_alen C _ 0 (hA6_5 g σ3 p0) rfl (6 : Int32) rfl dX3_readNumber_14 ?_
    obtain ⟨J6, hJ6, hf⟩ := jnx1_elim hf
    have kJ6 : ∀ (σ5 : St), J6 σ5 = some (r0, σ0) → KW X σ5 28 [(0, .ref (g.1 9))] [] := by
      clear hf
      intro σ5 hf
      have hf := (hJ6 σ5).symm.trans hf
      refine kw_aload_n C dX3_readNumber_28 rfl 0 rfl ?_
      refine kw_get C inG3 _ (hO3 g σ5) rfl 0 (Nat.le_of_ble_eq_true rfl) mf_3_20 rfl rfl dX3_readNumber_29 ?_
      obtain ⟨σ8, hc7, hf⟩ := bV_elim hf
      refine kw_callVV C [] (kX7_advance L D g t0 σ5 _ hc7) RX7 mV_X3_73 ⟨rfl, rfl⟩ dd_X7_advance ⟨Nat.le_of_ble_eq_true rfl, Nat.le_of_ble_eq_true rfl⟩ _ (hO7 g σ5) rfl rfl rfl (Nat.le_of_ble_eq_true rfl) dX3_readNumber_32 ?_
      refine kw_iconst C (1 : Int32) dX3_readNumber_35 rfl ?_
      exact kw_zret C K (by decide) dX3_readNumber_36 hf
    refine kw_icmp_ge C 28 dX3_readNumber_15 rfl (fun c9 => ?_) (fun c9 => ?_)
    · have hf := if_p c9 hf
      refine kw_sub [0] _ rfl ?_
      exact kJ6 _ hf
    · have hf := if_n c9 hf
      refine kw_aload_n C dX3_readNumber_18 rfl 1 rfl ?_
      refine kw_iload_n C dX3_readNumber_19 rfl 2 rfl ?_
      refine kw_aload_n C dX3_readNumber_20 rfl 0 rfl ?_
      refine kw_get C inG3 _ (hO3 g σ3) rfl 0 (Nat.le_of_ble_eq_true rfl) mf_3_20 rfl rfl dX3_readNumber_21 ?_
      refine kw_get C inG7 _ (hO7 g σ3) rfl 5 (Nat.le_of_ble_eq_true rfl) mf_3_133 rfl rfl dX3_readNumber_24 ?_
      obtain ⟨h10, hf⟩ := gd_elim hf
      obtain ⟨σ11, eσ11, hf⟩ := lt_elim hf
      refine kw_iast C _ 0 (hA6_5 g σ3 p0) rfl h10 ((hS6_5 g σ3 p0 _).trans (congrArg (wB g) eσ11.symm)) dX3_readNumber_27 ?_
      refine kw_sub [0] _ rfl ?_
      exact kJ6 _ hf
  · have hf := if_p c4 hf
    refine kw_iconst C (0 : Int32) dX3_readNumber_10 rfl ?_
    exact kw_zret C K (by decide) dX3_readNumber_11 hf
set_option maxRecDepth 100000 in
set_option maxHeartbeats 4000000 in
theorem kX3_readNumber_a6_6 (L : Launch) (D : va_G) (g : GwT) (t0 : Nat) (p0 : Bool) (p1 : Int32) (p2 : Int32) (p3 : Int32) (σ : St) (r0 : Int32) (σ0 : St) (hf : fX3_readNumber_a6_6 σ p0 p1 p2 p3 = some (r0, σ0)) : CtI L D (ttG g) (wB g) t0 yX3_readNumber cX3_readNumber 5 (some .boolean) { frames := 3, cells := 0, slots := 0, locals := 65 } [.ref (g.1 9), .ref (g.2.1 (tx p0) 6), .int p1, .int p2, .int p3] σ r0 σ0 := by
  refine CtI.of (own := RX3) (by decide) rfl (Nat.le_of_ble_eq_true rfl) [(0, .ref (g.1 9)), (1, .ref (g.2.1 (tx p0) 6)), (2, .int p1), (3, .int p2), (4, .int p3)] rfl ?_
  intro X C hN K
  unfold fX3_readNumber_a6_6 at hf
  refine kw_aload_n C dX3_readNumber_0 rfl 0 rfl ?_
  refine kw_iload_n C dX3_readNumber_1 rfl 3 rfl ?_
  refine kw_iload C dX3_readNumber_2 4 rfl ?_
  obtain ⟨r2, σ3, hc1, hf⟩ := bI_elim hf
  refine kw_callVI C [.int p2, .int p3] (kX3_isNumber L D g t0 p2 p3 σ _ _ hc1) RX3 mV_X3_140 ⟨rfl, rfl⟩ dd_X3_isNumber ⟨Nat.le_of_ble_eq_true rfl, Nat.le_of_ble_eq_true rfl⟩ _ (hO3 g σ) rfl rfl rfl (Nat.le_of_ble_eq_true rfl) dX3_readNumber_4 ?_
  refine kw_if_ne C 12 dX3_readNumber_7 rfl (fun c4 => ?_) (fun c4 => ?_)
  · have hf := if_n c4 hf
    refine kw_iload_n C dX3_readNumber_12 rfl 2 rfl ?_
    refine kw_aload_n C dX3_readNumber_13 rfl 1 rfl ?_
    refine kw_alen C _ 0 (hA6_6 g σ3 p0) rfl (6 : Int32) rfl dX3_readNumber_14 ?_
    obtain ⟨J6, hJ6, hf⟩ := jnx1_elim hf
    have kJ6 : ∀ (σ5 : St), J6 σ5 = some (r0, σ0) → KW X σ5 28 [(0, .ref (g.1 9))] [] := by
      clear hf
      intro σ5 hf
      have hf := (hJ6 σ5).symm.trans hf
      refine kw_aload_n C dX3_readNumber_28 rfl 0 rfl ?_
      refine kw_get C inG3 _ (hO3 g σ5) rfl 0 (Nat.le_of_ble_eq_true rfl) mf_3_20 rfl rfl dX3_readNumber_29 ?_
      obtain ⟨σ8, hc7, hf⟩ := bV_elim hf
      refine kw_callVV C [] (kX7_advance L D g t0 σ5 _ hc7) RX7 mV_X3_73 ⟨rfl, rfl⟩ dd_X7_advance ⟨Nat.le_of_ble_eq_true rfl, Nat.le_of_ble_eq_true rfl⟩ _ (hO7 g σ5) rfl rfl rfl (Nat.le_of_ble_eq_true rfl) dX3_readNumber_32 ?_
      refine kw_iconst C (1 : Int32) dX3_readNumber_35 rfl ?_
      exact kw_zret C K (by decide) dX3_readNumber_36 hf
    refine kw_icmp_ge C 28 dX3_readNumber_15 rfl (fun c9 => ?_) (fun c9 => ?_)
    · have hf := if_p c9 hf
      refine kw_sub [0] _ rfl ?_
      exact kJ6 _ hf
    · have hf := if_n c9 hf
      refine kw_aload_n C dX3_readNumber_18 rfl 1 rfl ?_
      refine kw_iload_n C dX3_readNumber_19 rfl 2 rfl ?_
      refine kw_aload_n C dX3_readNumber_20 rfl 0 rfl ?_
      refine kw_get C inG3 _ (hO3 g σ3) rfl 0 (Nat.le_of_ble_eq_true rfl) mf_3_20 rfl rfl dX3_readNumber_21 ?_
      refine kw_get C inG7 _ (hO7 g σ3) rfl 5 (Nat.le_of_ble_eq_true rfl) mf_3_133 rfl rfl dX3_readNumber_24 ?_
      obtain ⟨h10, hf⟩ := gd_elim hf
      obtain ⟨σ11, eσ11, hf⟩ := lt_elim hf
      refine kw_iast C _ 0 (hA6_6 g σ3 p0) rfl h10 ((hS6_6 g σ3 p0 _).trans (congrArg (wB g) eσ11.symm)) dX3_readNumber_27 ?_
      refine kw_sub [0] _ rfl ?_
      exact kJ6 _ hf
  · have hf := if_p c4 hf
    refine kw_iconst C (0 : Int32) dX3_readNumber_10 rfl ?_
    exact kw_zret C K (by decide) dX3_readNumber_11 hf
set_option maxRecDepth 100000 in
set_option maxHeartbeats 4000000 in
theorem kX3_readNumber_a6_7 (L : Launch) (D : va_G) (g : GwT) (t0 : Nat) (p0 : Bool) (p1 : Int32) (p2 : Int32) (p3 : Int32) (σ : St) (r0 : Int32) (σ0 : St) (hf : fX3_readNumber_a6_7 σ p0 p1 p2 p3 = some (r0, σ0)) : CtI L D (ttG g) (wB g) t0 yX3_readNumber cX3_readNumber 5 (some .boolean) { frames := 3, cells := 0, slots := 0, locals := 65 } [.ref (g.1 9), .ref (g.2.1 (tx p0) 7), .int p1, .int p2, .int p3] σ r0 σ0 := by
  refine CtI.of (own := RX3) (by decide) rfl (Nat.le_of_ble_eq_true rfl) [(0, .ref (g.1 9)), (1, .ref (g.2.1 (tx p0) 7)), (2, .int p1), (3, .int p2), (4, .int p3)] rfl ?_
  intro X C hN K
  unfold fX3_readNumber_a6_7 at hf
  refine kw_aload_n C dX3_readNumber_0 rfl 0 rfl ?_
  refine kw_iload_n C dX3_readNumber_1 rfl 3 rfl ?_
  refine kw_iload C dX3_readNumber_2 4 rfl ?_
  obtain ⟨r2, σ3, hc1, hf⟩ := bI_elim hf
  refine kw_callVI C [.int p2, .int p3] (kX3_isNumber L D g t0 p2 p3 σ _ _ hc1) RX3 mV_X3_140 ⟨rfl, rfl⟩ dd_X3_isNumber ⟨Nat.le_of_ble_eq_true rfl, Nat.le_of_ble_eq_true rfl⟩ _ (hO3 g σ) rfl rfl rfl (Nat.le_of_ble_eq_true rfl) dX3_readNumber_4 ?_
  refine kw_if_ne C 12 dX3_readNumber_7 rfl (fun c4 => ?_) (fun c4 => ?_)
  · have hf := if_n c4 hf
    refine kw_iload_n C dX3_readNumber_12 rfl 2 rfl ?_
    refine kw_aload_n C dX3_readNumber_13 rfl 1 rfl ?_
    refine kw_alen C _ 0 (hA6_7 g σ3 p0) rfl (6 : Int32) rfl dX3_readNumber_14 ?_
    obtain ⟨J6, hJ6, hf⟩ := jnx1_elim hf
    have kJ6 : ∀ (σ5 : St), J6 σ5 = some (r0, σ0) → KW X σ5 28 [(0, .ref (g.1 9))] [] := by
      clear hf
      intro σ5 hf
      have hf := (hJ6 σ5).symm.trans hf
      refine kw_aload_n C dX3_readNumber_28 rfl 0 rfl ?_
      refine kw_get C inG3 _ (hO3 g σ5) rfl 0 (Nat.le_of_ble_eq_true rfl) mf_3_20 rfl rfl dX3_readNumber_29 ?_
      obtain ⟨σ8, hc7, hf⟩ := bV_elim hf
      refine kw_callVV C [] (kX7_advance L D g t0 σ5 _ hc7) RX7 mV_X3_73 ⟨rfl, rfl⟩ dd_X7_advance ⟨Nat.le_of_ble_eq_true rfl, Nat.le_of_ble_eq_true rfl⟩ _ (hO7 g σ5) rfl rfl rfl (Nat.le_of_ble_eq_true rfl) dX3_readNumber_32 ?_
      refine kw_iconst C (1 : Int32) dX3_readNumber_35 rfl ?_
      exact kw_zret C K (by decide) dX3_readNumber_36 hf
    refine kw_icmp_ge C 28 dX3_readNumber_15 rfl (fun c9 => ?_) (fun c9 => ?_)
    · have hf := if_p c9 hf
      refine kw_sub [0] _ rfl ?_
      exact kJ6 _ hf
    · have hf := if_n c9 hf
      refine kw_aload_n C dX3_readNumber_18 rfl 1 rfl ?_
      refine kw_iload_n C dX3_readNumber_19 rfl 2 rfl ?_
      refine kw_aload_n C dX3_readNumber_20 rfl 0 rfl ?_
      refine kw_get C inG3 _ (hO3 g σ3) rfl 0 (Nat.le_of_ble_eq_true rfl) mf_3_20 rfl rfl dX3_readNumber_21 ?_
      refine kw_get C inG7 _ (hO7 g σ3) rfl 5 (Nat.le_of_ble_eq_true rfl) mf_3_133 rfl rfl dX3_readNumber_24 ?_
      obtain ⟨h10, hf⟩ := gd_elim hf
      obtain ⟨σ11, eσ11, hf⟩ := lt_elim hf
      refine kw_iast C _ 0 (hA6_7 g σ3 p0) rfl h10 ((hS6_7 g σ3 p0 _).trans (congrArg (wB g) eσ11.symm)) dX3_readNumber_27 ?_
      refine kw_sub [0] _ rfl ?_
      exact kJ6 _ hf
  · have hf := if_p c4 hf
    refine kw_iconst C (0 : Int32) dX3_readNumber_10 rfl ?_
    exact kw_zret C K (by decide) dX3_readNumber_11 hf
set_option maxRecDepth 100000 in
set_option maxHeartbeats 4000000 in
theorem kX3_readHouse (L : Launch) (D : va_G) (g : GwT) (t0 : Nat) (σ : St) (r0 : Int32) (σ0 : St) (hf : fX3_readHouse σ  = some (r0, σ0)) : CtI L D (ttG g) (wB g) t0 yX3_readHouse cX3_readHouse 3 (some .boolean) { frames := 4, cells := 0, slots := 0, locals := 89 } [.ref (g.1 9)] σ r0 σ0 := by
  refine CtI.of (own := RX3) (by decide) rfl (Nat.le_of_ble_eq_true rfl) [(0, .ref (g.1 9))] rfl ?_
  intro X C hN K
  unfold fX3_readHouse at hf
  refine kw_aload_n C dX3_readHouse_0 rfl 0 rfl ?_
  refine kw_get C inG3 _ (hO3 g σ) rfl 2 (Nat.le_of_ble_eq_true rfl) mf_3_9 rfl rfl dX3_readHouse_1 ?_
  refine kw_get C inG6 _ (hO6 g σ (gR σ 3)) rfl 1 (Nat.le_of_ble_eq_true rfl) mf_3_91 rfl rfl dX3_readHouse_4 ?_
  obtain ⟨x1, ex1, hf⟩ := lt_elim hf
  refine kw_topi ex1 ?_
  refine kw_istore_n C dX3_readHouse_7 rfl hN (Nat.le_of_ble_eq_true rfl) [(1, .int x1), (0, .ref (g.1 9))] rfl ?_
  refine kw_iload_n C dX3_readHouse_8 rfl 0 rfl ?_
  refine kw_bipush C (6 : Int32) dX3_readHouse_9 rfl ?_
  refine kw_icmp_lt C 20 dX3_readHouse_11 rfl (fun c2 => ?_) (fun c2 => ?_)
  · have hf := if_p c2 hf
    refine kw_aload_n C dX3_readHouse_20 rfl 1 rfl ?_
    refine kw_get C inG3 _ (hO3 g σ) rfl 0 (Nat.le_of_ble_eq_true rfl) mf_3_20 rfl rfl dX3_readHouse_21 ?_
    obtain ⟨σ4, hc3, hf⟩ := bV_elim hf
    refine kw_callVV C [] (kX7_advance L D g t0 σ _ hc3) RX7 mV_X3_73 ⟨rfl, rfl⟩ dd_X7_advance ⟨Nat.le_of_ble_eq_true rfl, Nat.le_of_ble_eq_true rfl⟩ _ (hO7 g σ) rfl rfl rfl (Nat.le_of_ble_eq_true rfl) dX3_readHouse_24 ?_
    refine kw_aload_n C dX3_readHouse_27 rfl 1 rfl ?_
    refine kw_aload_n C dX3_readHouse_28 rfl 1 rfl ?_
    refine kw_get C inG3 _ (hO3 g σ4) rfl 2 (Nat.le_of_ble_eq_true rfl) mf_3_9 rfl rfl dX3_readHouse_29 ?_
    refine kw_get C inG6 _ (hO6 g σ4 (gR σ4 3)) rfl 2 (Nat.le_of_ble_eq_true rfl) mf_3_94 rfl rfl dX3_readHouse_32 ?_
    refine kw_iload_n C dX3_readHouse_35 rfl 0 rfl ?_
    obtain ⟨r6, σ7, hc5, hf⟩ := bI_elim hf
    refine kw_callVI C [.ref (g.2.1 (tx (gR σ4 3)) 2), .int x1] (kX3_readName_a6_2 L D g t0 (gR σ4 3) x1 σ4 _ _ hc5) RX3 mV_X3_98 ⟨rfl, rfl⟩ dd_X3_readName ⟨Nat.le_of_ble_eq_true rfl, Nat.le_of_ble_eq_true rfl⟩ _ (hO3 g σ4) rfl rfl rfl (Nat.le_of_ble_eq_true rfl) dX3_readHouse_36 ?_
    refine kw_if_ne C 44 dX3_readHouse_39 rfl (fun c8 => ?_) (fun c8 => ?_)
    · have hf := if_n c8 hf
      refine kw_aload_n C dX3_readHouse_44 rfl 1 rfl ?_
      refine kw_aload_n C dX3_readHouse_45 rfl 1 rfl ?_
      refine kw_get C inG3 _ (hO3 g σ7) rfl 2 (Nat.le_of_ble_eq_true rfl) mf_3_9 rfl rfl dX3_readHouse_46 ?_
      refine kw_get C inG6 _ (hO6 g σ7 (gR σ7 3)) rfl 3 (Nat.le_of_ble_eq_true rfl) mf_3_102 rfl rfl dX3_readHouse_49 ?_
      refine kw_iload_n C dX3_readHouse_52 rfl 0 rfl ?_
      refine kw_iconst C (0 : Int32) dX3_readHouse_53 rfl ?_
      refine kw_sipush C (999 : Int32) dX3_readHouse_54 rfl ?_
      obtain ⟨r10, σ11, hc9, hf⟩ := bI_elim hf
      refine kw_callVI C [.ref (g.2.1 (tx (gR σ7 3)) 3), .int x1, .int (0 : Int32), .int (999 : Int32)] (kX3_readNumber_a6_3 L D g t0 (gR σ7 3) x1 (0 : Int32) (999 : Int32) σ7 _ _ hc9) RX3 mV_X3_105 ⟨rfl, rfl⟩ dd_X3_readNumber ⟨Nat.le_of_ble_eq_true rfl, Nat.le_of_ble_eq_true rfl⟩ _ (hO3 g σ7) rfl rfl rfl (Nat.le_of_ble_eq_true rfl) dX3_readHouse_57 ?_
      obtain ⟨J14, hJ14, hf⟩ := jnx2_elim hf
      have kJ14 : ∀ (x12 : Int32) (σ13 : St), J14 x12 σ13 = some (r0, σ0) → KW X σ13 141 [(0, .ref (g.1 9))] [.int x12] := by
        clear hf
        intro x12 σ13 hf
        have hf := (hJ14 x12 σ13).symm.trans hf
        refine kw_istore_n C dX3_readHouse_141 rfl hN (Nat.le_of_ble_eq_true rfl) [(2, .int x12), (0, .ref (g.1 9))] rfl ?_
        refine kw_aload_n C dX3_readHouse_142 rfl 1 rfl ?_
        refine kw_get C inG3 _ (hO3 g σ13) rfl 2 (Nat.le_of_ble_eq_true rfl) mf_3_9 rfl rfl dX3_readHouse_143 ?_
        refine kw_dup C dX3_readHouse_146 rfl ?_
        refine kw_get C inG6 _ (hO6 g σ13 (gR σ13 3)) rfl 1 (Nat.le_of_ble_eq_true rfl) mf_3_91 rfl rfl dX3_readHouse_147 ?_
        refine kw_iconst C (1 : Int32) dX3_readHouse_150 rfl ?_
        refine kw_iadd C dX3_readHouse_151 ?_
        obtain ⟨σ15, eσ15, hf⟩ := lt_elim hf
        refine kw_put C inG6 tyX6 tyX6_ok nmX6 _ (hO6 g σ13 (gR σ13 3)) rfl 1 (Nat.le_of_ble_eq_true rfl) mf_3_91 rfl rfl (tyX6_ok 1 (Nat.le_of_ble_eq_true rfl)) rfl rfl (Nat.le_of_ble_eq_true rfl) ((hF6_1 g σ13 (gR σ13 3) _).trans (congrArg (wB g) eσ15.symm)) dX3_readHouse_152 ?_
        refine kw_iload_n C dX3_readHouse_155 rfl 0 rfl ?_
        obtain ⟨h16, hf⟩ := gd_elim hf
        exact kw_zret C K h16 dX3_readHouse_156 hf
      obtain ⟨J18, hJ18, hf⟩ := jnx1_elim hf
      have kJ18 : ∀ (σ17 : St), J18 σ17 = some (r0, σ0) → KW X σ17 140 [(0, .ref (g.1 9))] [] := by
        clear hf
        intro σ17 hf
        have hf := (hJ18 σ17).symm.trans hf
        refine kw_iconst C (0 : Int32) dX3_readHouse_140 rfl ?_
        exact kJ14 _ _ hf
      refine kw_if_eq C 140 dX3_readHouse_60 rfl (fun c19 => ?_) (fun c19 => ?_)
      · have hf := if_p c19 hf
        refine kw_sub [1] _ rfl ?_
        exact kJ18 _ hf
      · have hf := if_n c19 hf
        refine kw_aload_n C dX3_readHouse_63 rfl 1 rfl ?_
        refine kw_aload_n C dX3_readHouse_64 rfl 1 rfl ?_
        refine kw_get C inG3 _ (hO3 g σ11) rfl 2 (Nat.le_of_ble_eq_true rfl) mf_3_9 rfl rfl dX3_readHouse_65 ?_
        refine kw_get C inG6 _ (hO6 g σ11 (gR σ11 3)) rfl 4 (Nat.le_of_ble_eq_true rfl) mf_3_109 rfl rfl dX3_readHouse_68 ?_
        refine kw_iload_n C dX3_readHouse_71 rfl 0 rfl ?_
        refine kw_iconst C (0 : Int32) dX3_readHouse_72 rfl ?_
        refine kw_sipush C (999 : Int32) dX3_readHouse_73 rfl ?_
        obtain ⟨r21, σ22, hc20, hf⟩ := bI_elim hf
        refine kw_callVI C [.ref (g.2.1 (tx (gR σ11 3)) 4), .int x1, .int (0 : Int32), .int (999 : Int32)] (kX3_readNumber_a6_4 L D g t0 (gR σ11 3) x1 (0 : Int32) (999 : Int32) σ11 _ _ hc20) RX3 mV_X3_105 ⟨rfl, rfl⟩ dd_X3_readNumber ⟨Nat.le_of_ble_eq_true rfl, Nat.le_of_ble_eq_true rfl⟩ _ (hO3 g σ11) rfl rfl rfl (Nat.le_of_ble_eq_true rfl) dX3_readHouse_76 ?_
        refine kw_if_eq C 140 dX3_readHouse_79 rfl (fun c23 => ?_) (fun c23 => ?_)
        · have hf := if_p c23 hf
          refine kw_sub [1] _ rfl ?_
          exact kJ18 _ hf
        · have hf := if_n c23 hf
          refine kw_aload_n C dX3_readHouse_82 rfl 1 rfl ?_
          refine kw_aload_n C dX3_readHouse_83 rfl 1 rfl ?_
          refine kw_get C inG3 _ (hO3 g σ22) rfl 2 (Nat.le_of_ble_eq_true rfl) mf_3_9 rfl rfl dX3_readHouse_84 ?_
          refine kw_get C inG6 _ (hO6 g σ22 (gR σ22 3)) rfl 5 (Nat.le_of_ble_eq_true rfl) mf_3_112 rfl rfl dX3_readHouse_87 ?_
          refine kw_iload_n C dX3_readHouse_90 rfl 0 rfl ?_
          refine kw_iconst C (1 : Int32) dX3_readHouse_91 rfl ?_
          refine kw_bipush C (99 : Int32) dX3_readHouse_92 rfl ?_
          obtain ⟨r25, σ26, hc24, hf⟩ := bI_elim hf
          refine kw_callVI C [.ref (g.2.1 (tx (gR σ22 3)) 5), .int x1, .int (1 : Int32), .int (99 : Int32)] (kX3_readNumber_a6_5 L D g t0 (gR σ22 3) x1 (1 : Int32) (99 : Int32) σ22 _ _ hc24) RX3 mV_X3_105 ⟨rfl, rfl⟩ dd_X3_readNumber ⟨Nat.le_of_ble_eq_true rfl, Nat.le_of_ble_eq_true rfl⟩ _ (hO3 g σ22) rfl rfl rfl (Nat.le_of_ble_eq_true rfl) dX3_readHouse_94 ?_
          refine kw_if_eq C 140 dX3_readHouse_97 rfl (fun c27 => ?_) (fun c27 => ?_)
          · have hf := if_p c27 hf
            refine kw_sub [1] _ rfl ?_
            exact kJ18 _ hf
          · have hf := if_n c27 hf
            refine kw_aload_n C dX3_readHouse_100 rfl 1 rfl ?_
            refine kw_aload_n C dX3_readHouse_101 rfl 1 rfl ?_
            refine kw_get C inG3 _ (hO3 g σ26) rfl 2 (Nat.le_of_ble_eq_true rfl) mf_3_9 rfl rfl dX3_readHouse_102 ?_
            refine kw_get C inG6 _ (hO6 g σ26 (gR σ26 3)) rfl 6 (Nat.le_of_ble_eq_true rfl) mf_3_115 rfl rfl dX3_readHouse_105 ?_
            refine kw_iload_n C dX3_readHouse_108 rfl 0 rfl ?_
            refine kw_iconst C (0 : Int32) dX3_readHouse_109 rfl ?_
            refine kw_bipush C (99 : Int32) dX3_readHouse_110 rfl ?_
            obtain ⟨r29, σ30, hc28, hf⟩ := bI_elim hf
            refine kw_callVI C [.ref (g.2.1 (tx (gR σ26 3)) 6), .int x1, .int (0 : Int32), .int (99 : Int32)] (kX3_readNumber_a6_6 L D g t0 (gR σ26 3) x1 (0 : Int32) (99 : Int32) σ26 _ _ hc28) RX3 mV_X3_105 ⟨rfl, rfl⟩ dd_X3_readNumber ⟨Nat.le_of_ble_eq_true rfl, Nat.le_of_ble_eq_true rfl⟩ _ (hO3 g σ26) rfl rfl rfl (Nat.le_of_ble_eq_true rfl) dX3_readHouse_112 ?_
            refine kw_if_eq C 140 dX3_readHouse_115 rfl (fun c31 => ?_) (fun c31 => ?_)
            · have hf := if_p c31 hf
              refine kw_sub [1] _ rfl ?_
              exact kJ18 _ hf
            · have hf := if_n c31 hf
              refine kw_aload_n C dX3_readHouse_118 rfl 1 rfl ?_
              refine kw_aload_n C dX3_readHouse_119 rfl 1 rfl ?_
              refine kw_get C inG3 _ (hO3 g σ30) rfl 2 (Nat.le_of_ble_eq_true rfl) mf_3_9 rfl rfl dX3_readHouse_120 ?_
              refine kw_get C inG6 _ (hO6 g σ30 (gR σ30 3)) rfl 7 (Nat.le_of_ble_eq_true rfl) mf_3_118 rfl rfl dX3_readHouse_123 ?_
              refine kw_iload_n C dX3_readHouse_126 rfl 0 rfl ?_
              refine kw_iconst C (0 : Int32) dX3_readHouse_127 rfl ?_
              refine kw_bipush C (9 : Int32) dX3_readHouse_128 rfl ?_
              obtain ⟨r33, σ34, hc32, hf⟩ := bI_elim hf
              refine kw_callVI C [.ref (g.2.1 (tx (gR σ30 3)) 7), .int x1, .int (0 : Int32), .int (9 : Int32)] (kX3_readNumber_a6_7 L D g t0 (gR σ30 3) x1 (0 : Int32) (9 : Int32) σ30 _ _ hc32) RX3 mV_X3_105 ⟨rfl, rfl⟩ dd_X3_readNumber ⟨Nat.le_of_ble_eq_true rfl, Nat.le_of_ble_eq_true rfl⟩ _ (hO3 g σ30) rfl rfl rfl (Nat.le_of_ble_eq_true rfl) dX3_readHouse_130 ?_
              refine kw_if_eq C 140 dX3_readHouse_133 rfl (fun c35 => ?_) (fun c35 => ?_)
              · have hf := if_p c35 hf
                refine kw_sub [1] _ rfl ?_
                exact kJ18 _ hf
              · have hf := if_n c35 hf
                refine kw_iconst C (1 : Int32) dX3_readHouse_136 rfl ?_
                refine kw_goto C 141 dX3_readHouse_137 rfl ?_
                refine kw_sub [1] _ rfl ?_
                exact kJ14 _ _ hf
    · have hf := if_p c8 hf
      refine kw_iconst C (0 : Int32) dX3_readHouse_42 rfl ?_
      exact kw_zret C K (by decide) dX3_readHouse_43 hf
  · have hf := if_n c2 hf
    refine kw_aload_n C dX3_readHouse_14 rfl 1 rfl ?_
    refine kw_iconst C (2 : Int32) dX3_readHouse_15 rfl ?_
    obtain ⟨r37, σ38, hc36, hf⟩ := bI_elim hf
    refine kw_callVI C [.int (2 : Int32)] (kX3_refuse L D g t0 (2 : Int32) σ _ _ hc36) RX3 mV_X3_69 ⟨rfl, rfl⟩ dd_X3_refuse ⟨Nat.le_of_ble_eq_true rfl, Nat.le_of_ble_eq_true rfl⟩ _ (hO3 g σ) rfl rfl rfl (Nat.le_of_ble_eq_true rfl) dX3_readHouse_16 ?_
    obtain ⟨h39, hf⟩ := gd_elim hf
    exact kw_zret C K h39 dX3_readHouse_19 hf
set_option maxRecDepth 100000 in
set_option maxHeartbeats 4000000 in
theorem kX9_placeOf_a6_9 (L : Launch) (D : va_G) (g : GwT) (t0 : Nat) (p0 : Int32) (p1 : Bool) (p2 : Int32) (σ : St) (r0 : Int32) (hf : fX9_placeOf_a6_9 σ p0 p1 p2 = some r0) : CtI L D (ttG g) (wB g) t0 yX9_placeOf cX9_placeOf 4 (some .int) { frames := 0, cells := 0, slots := 0, locals := 0 } [.int p0, .ref (g.2.1 (tx p1) 9), .int p2] σ r0 σ := by
  refine CtI.of (own := RX9) (by decide) rfl (Nat.le_of_ble_eq_true rfl) [(0, .int p0), (1, .ref (g.2.1 (tx p1) 9)), (2, .int p2)] rfl ?_
  intro X C hN K
  unfold fX9_placeOf_a6_9 at hf
  refine kw_iconst C (0 : Int32) dX9_placeOf_0 rfl ?_
  refine kw_istore_n C dX9_placeOf_1 rfl hN (Nat.le_of_ble_eq_true rfl) [(3, .int (0 : Int32)), (0, .int p0), (1, .ref (g.2.1 (tx p1) 9)), (2, .int p2)] rfl ?_
  refine kw_sub [1, 2, 3, 0] _ rfl ?_
  refine lpx1_walk (P := fun (x1 : Int32) => KW X σ 2 [(0, .int p0), (1, .ref (g.2.1 (tx p1) 9)), (2, .int p2), (3, .int x1)] []) ?_ FU _ hf
  intro self2 x1 ih3 hf
  refine kw_iload_n C dX9_placeOf_2 rfl 3 rfl ?_
  refine kw_iload_n C dX9_placeOf_3 rfl 2 rfl ?_
  obtain ⟨J4, hJ4, hf⟩ := jnx1_elim hf
  have kJ4 : ∀ (u9 : Unit), J4 u9 = some r0 → KW X σ 28 [] [] := by
    clear hf
    intro u9 hf
    have hf := (hJ4 u9).symm.trans hf
    refine kw_iconst C (-1 : Int32) dX9_placeOf_28 rfl ?_
    exact kw_iret C K dX9_placeOf_29 (pr_ret hf)
  refine kw_icmp_ge C 28 dX9_placeOf_4 rfl (fun c5 => ?_) (fun c5 => ?_)
  · have hf := if_p c5 hf
    refine kw_sub [] _ rfl ?_
    exact kJ4 _ hf
  · have hf := if_n c5 hf
    refine kw_iload_n C dX9_placeOf_7 rfl 3 rfl ?_
    refine kw_aload_n C dX9_placeOf_8 rfl 1 rfl ?_
    refine kw_alen C _ 0 (hA6_9 g σ p1) rfl (6 : Int32) rfl dX9_placeOf_9 ?_
    refine kw_icmp_ge C 28 dX9_placeOf_10 rfl (fun c6 => ?_) (fun c6 => ?_)
    · have hf := if_p c6 hf
      refine kw_sub [] _ rfl ?_
      exact kJ4 _ hf
    · have hf := if_n c6 hf
      refine kw_aload_n C dX9_placeOf_13 rfl 1 rfl ?_
      refine kw_iload_n C dX9_placeOf_14 rfl 3 rfl ?_
      obtain ⟨h7, hf⟩ := gd_elim hf
      refine kw_iald C _ 0 (hA6_9 g σ p1) rfl h7 dX9_placeOf_15 ?_
      refine kw_iload_n C dX9_placeOf_16 rfl 0 rfl ?_
      refine kw_icmp_ne C 22 dX9_placeOf_17 rfl (fun c8 => ?_) (fun c8 => ?_)
      · have hf := if_n c8 hf
        obtain ⟨x9, ex9, hf⟩ := lt_elim hf
        refine kw_iinc C x9 dX9_placeOf_22 3 rfl ex9.symm hN (Nat.le_of_ble_eq_true rfl) [(3, .int x9), (0, .int p0), (1, .ref (g.2.1 (tx p1) 9)), (2, .int p2)] rfl ?_
        refine kw_goto C 2 dX9_placeOf_25 rfl ?_
        refine kw_sub [1, 2, 3, 0] _ rfl ?_
        exact ih3 _ hf
      · have hf := if_p c8 hf
        refine kw_iload_n C dX9_placeOf_20 rfl 3 rfl ?_
        exact kw_iret C K dX9_placeOf_21 (pr_ret hf)
set_option maxRecDepth 100000 in
set_option maxHeartbeats 4000000 in
theorem kX3_readName_a6_9 (L : Launch) (D : va_G) (g : GwT) (t0 : Nat) (p0 : Bool) (p1 : Int32) (σ : St) (r0 : Int32) (σ0 : St) (hf : fX3_readName_a6_9 σ p0 p1 = some (r0, σ0)) : CtI L D (ttG g) (wB g) t0 yX3_readName cX3_readName 3 (some .boolean) { frames := 3, cells := 0, slots := 0, locals := 65 } [.ref (g.1 9), .ref (g.2.1 (tx p0) 9), .int p1] σ r0 σ0 := by
  refine CtI.of (own := RX3) (by decide) rfl (Nat.le_of_ble_eq_true rfl) [(0, .ref (g.1 9)), (1, .ref (g.2.1 (tx p0) 9)), (2, .int p1)] rfl ?_
  intro X C hN K
  unfold fX3_readName_a6_9 at hf
  refine kw_aload_n C dX3_readName_0 rfl 0 rfl ?_
  refine kw_get C inG3 _ (hO3 g σ) rfl 0 (Nat.le_of_ble_eq_true rfl) mf_3_20 rfl rfl dX3_readName_1 ?_
  refine kw_get C inG7 _ (hO7 g σ) rfl 3 (Nat.le_of_ble_eq_true rfl) mf_3_59 rfl rfl dX3_readName_4 ?_
  refine kw_bipush C (19 : Int32) dX3_readName_7 rfl ?_
  refine kw_icmp_eq C 18 dX3_readName_9 rfl (fun c1 => ?_) (fun c1 => ?_)
  · have hf := if_p c1 hf
    refine kw_aload_n C dX3_readName_18 rfl 0 rfl ?_
    refine kw_get C inG3 _ (hO3 g σ) rfl 0 (Nat.le_of_ble_eq_true rfl) mf_3_20 rfl rfl dX3_readName_19 ?_
    refine kw_get C inG7 _ (hO7 g σ) rfl 5 (Nat.le_of_ble_eq_true rfl) mf_3_133 rfl rfl dX3_readName_22 ?_
    refine kw_aload_n C dX3_readName_25 rfl 1 rfl ?_
    refine kw_iload_n C dX3_readName_26 rfl 2 rfl ?_
    obtain ⟨r3, hc2, hf⟩ := bd_elim hf
    refine kw_callNI C [.int (gI σ 10 5), .ref (g.2.1 (tx p0) 9), .int p1] (kX9_placeOf_a6_9 L D g t0 (gI σ 10 5) p0 p1 σ _ hc2) "BidLines" (fun _ h => h.2.2.1) (GT_c mcode_X9_placeOf (fun _ h => h)) mi_X9 mst_X9_placeOf ⟨rfl, rfl⟩ dd_X9_placeOf.2 ⟨Nat.le_of_ble_eq_true rfl, Nat.le_of_ble_eq_true rfl⟩ rfl (Nat.le_of_ble_eq_true rfl) dX3_readName_27 ?_
    refine kw_iconst C (-1 : Int32) dX3_readName_30 rfl ?_
    refine kw_icmp_eq C 40 dX3_readName_31 rfl (fun c4 => ?_) (fun c4 => ?_)
    · have hf := if_p c4 hf
      refine kw_iload_n C dX3_readName_40 rfl 2 rfl ?_
      refine kw_aload_n C dX3_readName_41 rfl 1 rfl ?_
      refine kw_alen C _ 0 (hA6_9 g σ p0) rfl (6 : Int32) rfl dX3_readName_42 ?_
      obtain ⟨J6, hJ6, hf⟩ := jnx1_elim hf
      have kJ6 : ∀ (σ5 : St), J6 σ5 = some (r0, σ0) → KW X σ5 56 [(0, .ref (g.1 9))] [] := by
        clear hf
        intro σ5 hf
        have hf := (hJ6 σ5).symm.trans hf
        refine kw_aload_n C dX3_readName_56 rfl 0 rfl ?_
        refine kw_get C inG3 _ (hO3 g σ5) rfl 0 (Nat.le_of_ble_eq_true rfl) mf_3_20 rfl rfl dX3_readName_57 ?_
        obtain ⟨σ8, hc7, hf⟩ := bV_elim hf
        refine kw_callVV C [] (kX7_advance L D g t0 σ5 _ hc7) RX7 mV_X3_73 ⟨rfl, rfl⟩ dd_X7_advance ⟨Nat.le_of_ble_eq_true rfl, Nat.le_of_ble_eq_true rfl⟩ _ (hO7 g σ5) rfl rfl rfl (Nat.le_of_ble_eq_true rfl) dX3_readName_60 ?_
        refine kw_iconst C (1 : Int32) dX3_readName_63 rfl ?_
        exact kw_zret C K (by decide) dX3_readName_64 hf
      refine kw_icmp_ge C 56 dX3_readName_43 rfl (fun c9 => ?_) (fun c9 => ?_)
      · have hf := if_p c9 hf
        refine kw_sub [0] _ rfl ?_
        exact kJ6 _ hf
      · have hf := if_n c9 hf
        refine kw_aload_n C dX3_readName_46 rfl 1 rfl ?_
        refine kw_iload_n C dX3_readName_47 rfl 2 rfl ?_
        refine kw_aload_n C dX3_readName_48 rfl 0 rfl ?_
        refine kw_get C inG3 _ (hO3 g σ) rfl 0 (Nat.le_of_ble_eq_true rfl) mf_3_20 rfl rfl dX3_readName_49 ?_
        refine kw_get C inG7 _ (hO7 g σ) rfl 5 (Nat.le_of_ble_eq_true rfl) mf_3_133 rfl rfl dX3_readName_52 ?_
        obtain ⟨h10, hf⟩ := gd_elim hf
        obtain ⟨σ11, eσ11, hf⟩ := lt_elim hf
        refine kw_iast C _ 0 (hA6_9 g σ p0) rfl h10 ((hS6_9 g σ p0 _).trans (congrArg (wB g) eσ11.symm)) dX3_readName_55 ?_
        refine kw_sub [0] _ rfl ?_
        exact kJ6 _ hf
    · have hf := if_n c4 hf
      refine kw_aload_n C dX3_readName_34 rfl 0 rfl ?_
      refine kw_iconst C (3 : Int32) dX3_readName_35 rfl ?_
      obtain ⟨r13, σ14, hc12, hf⟩ := bI_elim hf
      refine kw_callVI C [.int (3 : Int32)] (kX3_refuse L D g t0 (3 : Int32) σ _ _ hc12) RX3 mV_X3_69 ⟨rfl, rfl⟩ dd_X3_refuse ⟨Nat.le_of_ble_eq_true rfl, Nat.le_of_ble_eq_true rfl⟩ _ (hO3 g σ) rfl rfl rfl (Nat.le_of_ble_eq_true rfl) dX3_readName_36 ?_
      obtain ⟨h15, hf⟩ := gd_elim hf
      exact kw_zret C K h15 dX3_readName_39 hf
  · have hf := if_n c1 hf
    refine kw_aload_n C dX3_readName_12 rfl 0 rfl ?_
    refine kw_iconst C (1 : Int32) dX3_readName_13 rfl ?_
    obtain ⟨r17, σ18, hc16, hf⟩ := bI_elim hf
    refine kw_callVI C [.int (1 : Int32)] (kX3_refuse L D g t0 (1 : Int32) σ _ _ hc16) RX3 mV_X3_69 ⟨rfl, rfl⟩ dd_X3_refuse ⟨Nat.le_of_ble_eq_true rfl, Nat.le_of_ble_eq_true rfl⟩ _ (hO3 g σ) rfl rfl rfl (Nat.le_of_ble_eq_true rfl) dX3_readName_14 ?_
    obtain ⟨h19, hf⟩ := gd_elim hf
    exact kw_zret C K h19 dX3_readName_17 hf
set_option maxRecDepth 100000 in
set_option maxHeartbeats 4000000 in
theorem kX3_readNumber_a6_10 (L : Launch) (D : va_G) (g : GwT) (t0 : Nat) (p0 : Bool) (p1 : Int32) (p2 : Int32) (p3 : Int32) (σ : St) (r0 : Int32) (σ0 : St) (hf : fX3_readNumber_a6_10 σ p0 p1 p2 p3 = some (r0, σ0)) : CtI L D (ttG g) (wB g) t0 yX3_readNumber cX3_readNumber 5 (some .boolean) { frames := 3, cells := 0, slots := 0, locals := 65 } [.ref (g.1 9), .ref (g.2.1 (tx p0) 10), .int p1, .int p2, .int p3] σ r0 σ0 := by
  refine CtI.of (own := RX3) (by decide) rfl (Nat.le_of_ble_eq_true rfl) [(0, .ref (g.1 9)), (1, .ref (g.2.1 (tx p0) 10)), (2, .int p1), (3, .int p2), (4, .int p3)] rfl ?_
  intro X C hN K
  unfold fX3_readNumber_a6_10 at hf
  refine kw_aload_n C dX3_readNumber_0 rfl 0 rfl ?_
  refine kw_iload_n C dX3_readNumber_1 rfl 3 rfl ?_
  refine kw_iload C dX3_readNumber_2 4 rfl ?_
  obtain ⟨r2, σ3, hc1, hf⟩ := bI_elim hf
  refine kw_callVI C [.int p2, .int p3] (kX3_isNumber L D g t0 p2 p3 σ _ _ hc1) RX3 mV_X3_140 ⟨rfl, rfl⟩ dd_X3_isNumber ⟨Nat.le_of_ble_eq_true rfl, Nat.le_of_ble_eq_true rfl⟩ _ (hO3 g σ) rfl rfl rfl (Nat.le_of_ble_eq_true rfl) dX3_readNumber_4 ?_
  refine kw_if_ne C 12 dX3_readNumber_7 rfl (fun c4 => ?_) (fun c4 => ?_)
  · have hf := if_n c4 hf
    refine kw_iload_n C dX3_readNumber_12 rfl 2 rfl ?_
    refine kw_aload_n C dX3_readNumber_13 rfl 1 rfl ?_
    refine kw_alen C _ 0 (hA6_10 g σ3 p0) rfl (6 : Int32) rfl dX3_readNumber_14 ?_
    obtain ⟨J6, hJ6, hf⟩ := jnx1_elim hf
    have kJ6 : ∀ (σ5 : St), J6 σ5 = some (r0, σ0) → KW X σ5 28 [(0, .ref (g.1 9))] [] := by
      clear hf
      intro σ5 hf
      have hf := (hJ6 σ5).symm.trans hf
      refine kw_aload_n C dX3_readNumber_28 rfl 0 rfl ?_
      refine kw_get C inG3 _ (hO3 g σ5) rfl 0 (Nat.le_of_ble_eq_true rfl) mf_3_20 rfl rfl dX3_readNumber_29 ?_
      obtain ⟨σ8, hc7, hf⟩ := bV_elim hf
      refine kw_callVV C [] (kX7_advance L D g t0 σ5 _ hc7) RX7 mV_X3_73 ⟨rfl, rfl⟩ dd_X7_advance ⟨Nat.le_of_ble_eq_true rfl, Nat.le_of_ble_eq_true rfl⟩ _ (hO7 g σ5) rfl rfl rfl (Nat.le_of_ble_eq_true rfl) dX3_readNumber_32 ?_
      refine kw_iconst C (1 : Int32) dX3_readNumber_35 rfl ?_
      exact kw_zret C K (by decide) dX3_readNumber_36 hf
    refine kw_icmp_ge C 28 dX3_readNumber_15 rfl (fun c9 => ?_) (fun c9 => ?_)
    · have hf := if_p c9 hf
      refine kw_sub [0] _ rfl ?_
      exact kJ6 _ hf
    · have hf := if_n c9 hf
      refine kw_aload_n C dX3_readNumber_18 rfl 1 rfl ?_
      refine kw_iload_n C dX3_readNumber_19 rfl 2 rfl ?_
      refine kw_aload_n C dX3_readNumber_20 rfl 0 rfl ?_
      refine kw_get C inG3 _ (hO3 g σ3) rfl 0 (Nat.le_of_ble_eq_true rfl) mf_3_20 rfl rfl dX3_readNumber_21 ?_
      refine kw_get C inG7 _ (hO7 g σ3) rfl 5 (Nat.le_of_ble_eq_true rfl) mf_3_133 rfl rfl dX3_readNumber_24 ?_
      obtain ⟨h10, hf⟩ := gd_elim hf
      obtain ⟨σ11, eσ11, hf⟩ := lt_elim hf
      refine kw_iast C _ 0 (hA6_10 g σ3 p0) rfl h10 ((hS6_10 g σ3 p0 _).trans (congrArg (wB g) eσ11.symm)) dX3_readNumber_27 ?_
      refine kw_sub [0] _ rfl ?_
      exact kJ6 _ hf
  · have hf := if_p c4 hf
    refine kw_iconst C (0 : Int32) dX3_readNumber_10 rfl ?_
    exact kw_zret C K (by decide) dX3_readNumber_11 hf
set_option maxRecDepth 100000 in
set_option maxHeartbeats 4000000 in
theorem kX3_readNumber_a6_11 (L : Launch) (D : va_G) (g : GwT) (t0 : Nat) (p0 : Bool) (p1 : Int32) (p2 : Int32) (p3 : Int32) (σ : St) (r0 : Int32) (σ0 : St) (hf : fX3_readNumber_a6_11 σ p0 p1 p2 p3 = some (r0, σ0)) : CtI L D (ttG g) (wB g) t0 yX3_readNumber cX3_readNumber 5 (some .boolean) { frames := 3, cells := 0, slots := 0, locals := 65 } [.ref (g.1 9), .ref (g.2.1 (tx p0) 11), .int p1, .int p2, .int p3] σ r0 σ0 := by
  refine CtI.of (own := RX3) (by decide) rfl (Nat.le_of_ble_eq_true rfl) [(0, .ref (g.1 9)), (1, .ref (g.2.1 (tx p0) 11)), (2, .int p1), (3, .int p2), (4, .int p3)] rfl ?_
  intro X C hN K
  unfold fX3_readNumber_a6_11 at hf
  refine kw_aload_n C dX3_readNumber_0 rfl 0 rfl ?_
  refine kw_iload_n C dX3_readNumber_1 rfl 3 rfl ?_
  refine kw_iload C dX3_readNumber_2 4 rfl ?_
  obtain ⟨r2, σ3, hc1, hf⟩ := bI_elim hf
  refine kw_callVI C [.int p2, .int p3] (kX3_isNumber L D g t0 p2 p3 σ _ _ hc1) RX3 mV_X3_140 ⟨rfl, rfl⟩ dd_X3_isNumber ⟨Nat.le_of_ble_eq_true rfl, Nat.le_of_ble_eq_true rfl⟩ _ (hO3 g σ) rfl rfl rfl (Nat.le_of_ble_eq_true rfl) dX3_readNumber_4 ?_
  refine kw_if_ne C 12 dX3_readNumber_7 rfl (fun c4 => ?_) (fun c4 => ?_)
  · have hf := if_n c4 hf
    refine kw_iload_n C dX3_readNumber_12 rfl 2 rfl ?_
    refine kw_aload_n C dX3_readNumber_13 rfl 1 rfl ?_
    refine kw_alen C _ 0 (hA6_11 g σ3 p0) rfl (6 : Int32) rfl dX3_readNumber_14 ?_
    obtain ⟨J6, hJ6, hf⟩ := jnx1_elim hf
    have kJ6 : ∀ (σ5 : St), J6 σ5 = some (r0, σ0) → KW X σ5 28 [(0, .ref (g.1 9))] [] := by
      clear hf
      intro σ5 hf
      have hf := (hJ6 σ5).symm.trans hf
      refine kw_aload_n C dX3_readNumber_28 rfl 0 rfl ?_
      refine kw_get C inG3 _ (hO3 g σ5) rfl 0 (Nat.le_of_ble_eq_true rfl) mf_3_20 rfl rfl dX3_readNumber_29 ?_
      obtain ⟨σ8, hc7, hf⟩ := bV_elim hf
      refine kw_callVV C [] (kX7_advance L D g t0 σ5 _ hc7) RX7 mV_X3_73 ⟨rfl, rfl⟩ dd_X7_advance ⟨Nat.le_of_ble_eq_true rfl, Nat.le_of_ble_eq_true rfl⟩ _ (hO7 g σ5) rfl rfl rfl (Nat.le_of_ble_eq_true rfl) dX3_readNumber_32 ?_
      refine kw_iconst C (1 : Int32) dX3_readNumber_35 rfl ?_
      exact kw_zret C K (by decide) dX3_readNumber_36 hf
    refine kw_icmp_ge C 28 dX3_readNumber_15 rfl (fun c9 => ?_) (fun c9 => ?_)
    · have hf := if_p c9 hf
      refine kw_sub [0] _ rfl ?_
      exact kJ6 _ hf
    · have hf := if_n c9 hf
      refine kw_aload_n C dX3_readNumber_18 rfl 1 rfl ?_
      refine kw_iload_n C dX3_readNumber_19 rfl 2 rfl ?_
      refine kw_aload_n C dX3_readNumber_20 rfl 0 rfl ?_
      refine kw_get C inG3 _ (hO3 g σ3) rfl 0 (Nat.le_of_ble_eq_true rfl) mf_3_20 rfl rfl dX3_readNumber_21 ?_
      refine kw_get C inG7 _ (hO7 g σ3) rfl 5 (Nat.le_of_ble_eq_true rfl) mf_3_133 rfl rfl dX3_readNumber_24 ?_
      obtain ⟨h10, hf⟩ := gd_elim hf
      obtain ⟨σ11, eσ11, hf⟩ := lt_elim hf
      refine kw_iast C _ 0 (hA6_11 g σ3 p0) rfl h10 ((hS6_11 g σ3 p0 _).trans (congrArg (wB g) eσ11.symm)) dX3_readNumber_27 ?_
      refine kw_sub [0] _ rfl ?_
      exact kJ6 _ hf
  · have hf := if_p c4 hf
    refine kw_iconst C (0 : Int32) dX3_readNumber_10 rfl ?_
    exact kw_zret C K (by decide) dX3_readNumber_11 hf
set_option maxRecDepth 100000 in
set_option maxHeartbeats 4000000 in
theorem kX3_readPart (L : Launch) (D : va_G) (g : GwT) (t0 : Nat) (σ : St) (r0 : Int32) (σ0 : St) (hf : fX3_readPart σ  = some (r0, σ0)) : CtI L D (ttG g) (wB g) t0 yX3_readPart cX3_readPart 3 (some .boolean) { frames := 4, cells := 0, slots := 0, locals := 89 } [.ref (g.1 9)] σ r0 σ0 := by
  refine CtI.of (own := RX3) (by decide) rfl (Nat.le_of_ble_eq_true rfl) [(0, .ref (g.1 9))] rfl ?_
  intro X C hN K
  unfold fX3_readPart at hf
  refine kw_aload_n C dX3_readPart_0 rfl 0 rfl ?_
  refine kw_get C inG3 _ (hO3 g σ) rfl 2 (Nat.le_of_ble_eq_true rfl) mf_3_9 rfl rfl dX3_readPart_1 ?_
  refine kw_get C inG6 _ (hO6 g σ (gR σ 3)) rfl 8 (Nat.le_of_ble_eq_true rfl) mf_3_121 rfl rfl dX3_readPart_4 ?_
  obtain ⟨x1, ex1, hf⟩ := lt_elim hf
  refine kw_topi ex1 ?_
  refine kw_istore_n C dX3_readPart_7 rfl hN (Nat.le_of_ble_eq_true rfl) [(1, .int x1), (0, .ref (g.1 9))] rfl ?_
  refine kw_iload_n C dX3_readPart_8 rfl 0 rfl ?_
  refine kw_bipush C (6 : Int32) dX3_readPart_9 rfl ?_
  refine kw_icmp_lt C 20 dX3_readPart_11 rfl (fun c2 => ?_) (fun c2 => ?_)
  · have hf := if_p c2 hf
    refine kw_aload_n C dX3_readPart_20 rfl 1 rfl ?_
    refine kw_get C inG3 _ (hO3 g σ) rfl 0 (Nat.le_of_ble_eq_true rfl) mf_3_20 rfl rfl dX3_readPart_21 ?_
    obtain ⟨σ4, hc3, hf⟩ := bV_elim hf
    refine kw_callVV C [] (kX7_advance L D g t0 σ _ hc3) RX7 mV_X3_73 ⟨rfl, rfl⟩ dd_X7_advance ⟨Nat.le_of_ble_eq_true rfl, Nat.le_of_ble_eq_true rfl⟩ _ (hO7 g σ) rfl rfl rfl (Nat.le_of_ble_eq_true rfl) dX3_readPart_24 ?_
    refine kw_aload_n C dX3_readPart_27 rfl 1 rfl ?_
    refine kw_aload_n C dX3_readPart_28 rfl 1 rfl ?_
    refine kw_get C inG3 _ (hO3 g σ4) rfl 2 (Nat.le_of_ble_eq_true rfl) mf_3_9 rfl rfl dX3_readPart_29 ?_
    refine kw_get C inG6 _ (hO6 g σ4 (gR σ4 3)) rfl 9 (Nat.le_of_ble_eq_true rfl) mf_3_124 rfl rfl dX3_readPart_32 ?_
    refine kw_iload_n C dX3_readPart_35 rfl 0 rfl ?_
    obtain ⟨r6, σ7, hc5, hf⟩ := bI_elim hf
    refine kw_callVI C [.ref (g.2.1 (tx (gR σ4 3)) 9), .int x1] (kX3_readName_a6_9 L D g t0 (gR σ4 3) x1 σ4 _ _ hc5) RX3 mV_X3_98 ⟨rfl, rfl⟩ dd_X3_readName ⟨Nat.le_of_ble_eq_true rfl, Nat.le_of_ble_eq_true rfl⟩ _ (hO3 g σ4) rfl rfl rfl (Nat.le_of_ble_eq_true rfl) dX3_readPart_36 ?_
    refine kw_if_ne C 44 dX3_readPart_39 rfl (fun c8 => ?_) (fun c8 => ?_)
    · have hf := if_n c8 hf
      refine kw_aload_n C dX3_readPart_44 rfl 1 rfl ?_
      refine kw_aload_n C dX3_readPart_45 rfl 1 rfl ?_
      refine kw_get C inG3 _ (hO3 g σ7) rfl 2 (Nat.le_of_ble_eq_true rfl) mf_3_9 rfl rfl dX3_readPart_46 ?_
      refine kw_get C inG6 _ (hO6 g σ7 (gR σ7 3)) rfl 10 (Nat.le_of_ble_eq_true rfl) mf_3_127 rfl rfl dX3_readPart_49 ?_
      refine kw_iload_n C dX3_readPart_52 rfl 0 rfl ?_
      refine kw_iconst C (1 : Int32) dX3_readPart_53 rfl ?_
      refine kw_bipush C (99 : Int32) dX3_readPart_54 rfl ?_
      obtain ⟨r10, σ11, hc9, hf⟩ := bI_elim hf
      refine kw_callVI C [.ref (g.2.1 (tx (gR σ7 3)) 10), .int x1, .int (1 : Int32), .int (99 : Int32)] (kX3_readNumber_a6_10 L D g t0 (gR σ7 3) x1 (1 : Int32) (99 : Int32) σ7 _ _ hc9) RX3 mV_X3_105 ⟨rfl, rfl⟩ dd_X3_readNumber ⟨Nat.le_of_ble_eq_true rfl, Nat.le_of_ble_eq_true rfl⟩ _ (hO3 g σ7) rfl rfl rfl (Nat.le_of_ble_eq_true rfl) dX3_readPart_56 ?_
      obtain ⟨J14, hJ14, hf⟩ := jnx2_elim hf
      have kJ14 : ∀ (x12 : Int32) (σ13 : St), J14 x12 σ13 = some (r0, σ0) → KW X σ13 85 [(0, .ref (g.1 9))] [.int x12] := by
        clear hf
        intro x12 σ13 hf
        have hf := (hJ14 x12 σ13).symm.trans hf
        refine kw_istore_n C dX3_readPart_85 rfl hN (Nat.le_of_ble_eq_true rfl) [(2, .int x12), (0, .ref (g.1 9))] rfl ?_
        refine kw_aload_n C dX3_readPart_86 rfl 1 rfl ?_
        refine kw_get C inG3 _ (hO3 g σ13) rfl 2 (Nat.le_of_ble_eq_true rfl) mf_3_9 rfl rfl dX3_readPart_87 ?_
        refine kw_dup C dX3_readPart_90 rfl ?_
        refine kw_get C inG6 _ (hO6 g σ13 (gR σ13 3)) rfl 8 (Nat.le_of_ble_eq_true rfl) mf_3_121 rfl rfl dX3_readPart_91 ?_
        refine kw_iconst C (1 : Int32) dX3_readPart_94 rfl ?_
        refine kw_iadd C dX3_readPart_95 ?_
        obtain ⟨σ15, eσ15, hf⟩ := lt_elim hf
        refine kw_put C inG6 tyX6 tyX6_ok nmX6 _ (hO6 g σ13 (gR σ13 3)) rfl 8 (Nat.le_of_ble_eq_true rfl) mf_3_121 rfl rfl (tyX6_ok 8 (Nat.le_of_ble_eq_true rfl)) rfl rfl (Nat.le_of_ble_eq_true rfl) ((hF6_8 g σ13 (gR σ13 3) _).trans (congrArg (wB g) eσ15.symm)) dX3_readPart_96 ?_
        refine kw_iload_n C dX3_readPart_99 rfl 0 rfl ?_
        obtain ⟨h16, hf⟩ := gd_elim hf
        exact kw_zret C K h16 dX3_readPart_100 hf
      obtain ⟨J18, hJ18, hf⟩ := jnx1_elim hf
      have kJ18 : ∀ (σ17 : St), J18 σ17 = some (r0, σ0) → KW X σ17 84 [(0, .ref (g.1 9))] [] := by
        clear hf
        intro σ17 hf
        have hf := (hJ18 σ17).symm.trans hf
        refine kw_iconst C (0 : Int32) dX3_readPart_84 rfl ?_
        exact kJ14 _ _ hf
      refine kw_if_eq C 84 dX3_readPart_59 rfl (fun c19 => ?_) (fun c19 => ?_)
      · have hf := if_p c19 hf
        refine kw_sub [1] _ rfl ?_
        exact kJ18 _ hf
      · have hf := if_n c19 hf
        refine kw_aload_n C dX3_readPart_62 rfl 1 rfl ?_
        refine kw_aload_n C dX3_readPart_63 rfl 1 rfl ?_
        refine kw_get C inG3 _ (hO3 g σ11) rfl 2 (Nat.le_of_ble_eq_true rfl) mf_3_9 rfl rfl dX3_readPart_64 ?_
        refine kw_get C inG6 _ (hO6 g σ11 (gR σ11 3)) rfl 11 (Nat.le_of_ble_eq_true rfl) mf_3_130 rfl rfl dX3_readPart_67 ?_
        refine kw_iload_n C dX3_readPart_70 rfl 0 rfl ?_
        refine kw_iconst C (0 : Int32) dX3_readPart_71 rfl ?_
        refine kw_bipush C (99 : Int32) dX3_readPart_72 rfl ?_
        obtain ⟨r21, σ22, hc20, hf⟩ := bI_elim hf
        refine kw_callVI C [.ref (g.2.1 (tx (gR σ11 3)) 11), .int x1, .int (0 : Int32), .int (99 : Int32)] (kX3_readNumber_a6_11 L D g t0 (gR σ11 3) x1 (0 : Int32) (99 : Int32) σ11 _ _ hc20) RX3 mV_X3_105 ⟨rfl, rfl⟩ dd_X3_readNumber ⟨Nat.le_of_ble_eq_true rfl, Nat.le_of_ble_eq_true rfl⟩ _ (hO3 g σ11) rfl rfl rfl (Nat.le_of_ble_eq_true rfl) dX3_readPart_74 ?_
        refine kw_if_eq C 84 dX3_readPart_77 rfl (fun c23 => ?_) (fun c23 => ?_)
        · have hf := if_p c23 hf
          refine kw_sub [1] _ rfl ?_
          exact kJ18 _ hf
        · have hf := if_n c23 hf
          refine kw_iconst C (1 : Int32) dX3_readPart_80 rfl ?_
          refine kw_goto C 85 dX3_readPart_81 rfl ?_
          refine kw_sub [1] _ rfl ?_
          exact kJ14 _ _ hf
    · have hf := if_p c8 hf
      refine kw_iconst C (0 : Int32) dX3_readPart_42 rfl ?_
      exact kw_zret C K (by decide) dX3_readPart_43 hf
  · have hf := if_n c2 hf
    refine kw_aload_n C dX3_readPart_14 rfl 1 rfl ?_
    refine kw_iconst C (2 : Int32) dX3_readPart_15 rfl ?_
    obtain ⟨r25, σ26, hc24, hf⟩ := bI_elim hf
    refine kw_callVI C [.int (2 : Int32)] (kX3_refuse L D g t0 (2 : Int32) σ _ _ hc24) RX3 mV_X3_69 ⟨rfl, rfl⟩ dd_X3_refuse ⟨Nat.le_of_ble_eq_true rfl, Nat.le_of_ble_eq_true rfl⟩ _ (hO3 g σ) rfl rfl rfl (Nat.le_of_ble_eq_true rfl) dX3_readPart_16 ?_
    obtain ⟨h27, hf⟩ := gd_elim hf
    exact kw_zret C K h27 dX3_readPart_19 hf
set_option maxRecDepth 100000 in
set_option maxHeartbeats 4000000 in
theorem kX3_readLaw (L : Launch) (D : va_G) (g : GwT) (t0 : Nat) (σ : St) (r0 : Int32) (σ0 : St) (hf : fX3_readLaw σ  = some (r0, σ0)) : CtI L D (ttG g) (wB g) t0 yX3_readLaw cX3_readLaw 3 (some .boolean) { frames := 4, cells := 0, slots := 0, locals := 91 } [.ref (g.1 9)] σ r0 σ0 := by
  refine CtI.of (own := RX3) (by decide) rfl (Nat.le_of_ble_eq_true rfl) [(0, .ref (g.1 9))] rfl ?_
  intro X C hN K
  unfold fX3_readLaw at hf
  refine kw_aload_n C dX3_readLaw_0 rfl 0 rfl ?_
  refine kw_get C inG3 _ (hO3 g σ) rfl 0 (Nat.le_of_ble_eq_true rfl) mf_3_20 rfl rfl dX3_readLaw_1 ?_
  obtain ⟨σ2, hc1, hf⟩ := bV_elim hf
  refine kw_callVV C [] (kX7_advance L D g t0 σ _ hc1) RX7 mV_X3_73 ⟨rfl, rfl⟩ dd_X7_advance ⟨Nat.le_of_ble_eq_true rfl, Nat.le_of_ble_eq_true rfl⟩ _ (hO7 g σ) rfl rfl rfl (Nat.le_of_ble_eq_true rfl) dX3_readLaw_4 ?_
  refine kw_aload_n C dX3_readLaw_7 rfl 0 rfl ?_
  refine kw_get C inG3 _ (hO3 g σ2) rfl 0 (Nat.le_of_ble_eq_true rfl) mf_3_20 rfl rfl dX3_readLaw_8 ?_
  refine kw_get C inG7 _ (hO7 g σ2) rfl 3 (Nat.le_of_ble_eq_true rfl) mf_3_59 rfl rfl dX3_readLaw_11 ?_
  refine kw_bipush C (6 : Int32) dX3_readLaw_14 rfl ?_
  refine kw_bipush C (8 : Int32) dX3_readLaw_16 rfl ?_
  obtain ⟨r4, hc3, hf⟩ := bd_elim hf
  refine kw_callNI C [.int (gI σ2 10 3), .int (6 : Int32), .int (8 : Int32)] (kX9_isWithin L D g t0 (gI σ2 10 3) (6 : Int32) (8 : Int32) σ2 _ hc3) "BidLines" (fun _ h => h.2.2.2.1) (GT_c mcode_X9_isWithin (fun _ h => h)) mi_X9 mst_X9_isWithin ⟨rfl, rfl⟩ dd_X9_isWithin.2 ⟨Nat.le_of_ble_eq_true rfl, Nat.le_of_ble_eq_true rfl⟩ rfl (Nat.le_of_ble_eq_true rfl) dX3_readLaw_18 ?_
  refine kw_if_ne C 30 dX3_readLaw_21 rfl (fun c5 => ?_) (fun c5 => ?_)
  · have hf := if_n c5 hf
    refine kw_aload_n C dX3_readLaw_30 rfl 0 rfl ?_
    refine kw_get C inG3 _ (hO3 g σ2) rfl 0 (Nat.le_of_ble_eq_true rfl) mf_3_20 rfl rfl dX3_readLaw_31 ?_
    refine kw_get C inG7 _ (hO7 g σ2) rfl 3 (Nat.le_of_ble_eq_true rfl) mf_3_59 rfl rfl dX3_readLaw_34 ?_
    refine kw_bipush C (6 : Int32) dX3_readLaw_37 rfl ?_
    refine kw_isub C dX3_readLaw_39 ?_
    obtain ⟨x6, ex6, hf⟩ := lt_elim hf
    refine kw_topi ex6 ?_
    refine kw_istore_n C dX3_readLaw_40 rfl hN (Nat.le_of_ble_eq_true rfl) [(1, .int x6), (0, .ref (g.1 9))] rfl ?_
    refine kw_aload_n C dX3_readLaw_41 rfl 1 rfl ?_
    refine kw_get C inG3 _ (hO3 g σ2) rfl 2 (Nat.le_of_ble_eq_true rfl) mf_3_9 rfl rfl dX3_readLaw_42 ?_
    refine kw_get C inG6 _ (hO6 g σ2 (gR σ2 3)) rfl 15 (Nat.le_of_ble_eq_true rfl) mf_3_26 rfl rfl dX3_readLaw_45 ?_
    refine kw_iload_n C dX3_readLaw_48 rfl 0 rfl ?_
    obtain ⟨r8, hc7, hf⟩ := bd_elim hf
    refine kw_callVI C [.int x6] (kX2_isTold L D g t0 (gR σ2 3) x6 σ2 _ hc7) RX2 mV_X3_162 ⟨rfl, rfl⟩ dd_X2_isTold ⟨Nat.le_of_ble_eq_true rfl, Nat.le_of_ble_eq_true rfl⟩ _ (hO2 g σ2 (gR σ2 3)) rfl rfl rfl (Nat.le_of_ble_eq_true rfl) dX3_readLaw_49 ?_
    refine kw_if_eq C 61 dX3_readLaw_52 rfl (fun c9 => ?_) (fun c9 => ?_)
    · have hf := if_p c9 hf
      refine kw_aload_n C dX3_readLaw_61 rfl 1 rfl ?_
      refine kw_get C inG3 _ (hO3 g σ2) rfl 0 (Nat.le_of_ble_eq_true rfl) mf_3_20 rfl rfl dX3_readLaw_62 ?_
      obtain ⟨σ11, hc10, hf⟩ := bV_elim hf
      refine kw_callVV C [] (kX7_advance L D g t0 σ2 _ hc10) RX7 mV_X3_73 ⟨rfl, rfl⟩ dd_X7_advance ⟨Nat.le_of_ble_eq_true rfl, Nat.le_of_ble_eq_true rfl⟩ _ (hO7 g σ2) rfl rfl rfl (Nat.le_of_ble_eq_true rfl) dX3_readLaw_65 ?_
      refine kw_aload_n C dX3_readLaw_68 rfl 1 rfl ?_
      refine kw_get C inG3 _ (hO3 g σ11) rfl 1 (Nat.le_of_ble_eq_true rfl) mf_3_35 rfl rfl dX3_readLaw_69 ?_
      refine kw_aload_n C dX3_readLaw_72 rfl 1 rfl ?_
      refine kw_get C inG3 _ (hO3 g σ11) rfl 2 (Nat.le_of_ble_eq_true rfl) mf_3_9 rfl rfl dX3_readLaw_73 ?_
      refine kw_get C inG6 _ (hO6 g σ11 (gR σ11 3)) rfl 15 (Nat.le_of_ble_eq_true rfl) mf_3_26 rfl rfl dX3_readLaw_76 ?_
      refine kw_iload_n C dX3_readLaw_79 rfl 0 rfl ?_
      obtain ⟨r13, σ14, hc12, hf⟩ := bI_elim hf
      refine kw_callVI C [.ref (g.1 (lw (gR σ11 3))), .int x6] (kX1_readFormula L D g t0 (gR σ11 3) x6 σ11 _ _ hc12) RX1 mV_X3_167 ⟨rfl, rfl⟩ dd_X1_readFormula ⟨Nat.le_of_ble_eq_true rfl, Nat.le_of_ble_eq_true rfl⟩ _ (hO1 g σ11) rfl rfl rfl (Nat.le_of_ble_eq_true rfl) dX3_readLaw_80 ?_
      refine kw_istore_n C dX3_readLaw_83 rfl hN (Nat.le_of_ble_eq_true rfl) [(2, .int r13), (1, .int x6), (0, .ref (g.1 9))] rfl ?_
      refine kw_iload_n C dX3_readLaw_84 rfl 0 rfl ?_
      obtain ⟨J17, hJ17, hf⟩ := jnx2_elim hf
      have kJ17 : ∀ (x15 : Int32) (σ16 : St), J17 x15 σ16 = some (r0, σ0) → KW X σ16 101 [] [.int x15] := by
        clear hf
        intro x15 σ16 hf
        have hf := (hJ17 x15 σ16).symm.trans hf
        obtain ⟨h18, hf⟩ := gd_elim hf
        exact kw_zret C K h18 dX3_readLaw_101 hf
      obtain ⟨J20, hJ20, hf⟩ := jnx1_elim hf
      have kJ20 : ∀ (σ19 : St), J20 σ19 = some (r0, σ0) → KW X σ19 96 [] [] := by
        clear hf
        intro σ19 hf
        have hf := (hJ20 σ19).symm.trans hf
        refine kw_iconst C (1 : Int32) dX3_readLaw_96 rfl ?_
        refine kw_goto C 101 dX3_readLaw_97 rfl ?_
        exact kJ17 _ _ hf
      refine kw_if_eq C 96 dX3_readLaw_85 rfl (fun c21 => ?_) (fun c21 => ?_)
      · have hf := if_p c21 hf
        refine kw_sub [] _ rfl ?_
        exact kJ20 _ hf
      · have hf := if_n c21 hf
        refine kw_aload_n C dX3_readLaw_88 rfl 2 rfl ?_
        refine kw_iload_n C dX3_readLaw_89 rfl 0 rfl ?_
        obtain ⟨r23, σ24, hc22, hf⟩ := bI_elim hf
        refine kw_callVI C [.int r13] (kX3_refuse L D g t0 r13 σ14 _ _ hc22) RX3 mV_X3_69 ⟨rfl, rfl⟩ dd_X3_refuse ⟨Nat.le_of_ble_eq_true rfl, Nat.le_of_ble_eq_true rfl⟩ _ (hO3 g σ14) rfl rfl rfl (Nat.le_of_ble_eq_true rfl) dX3_readLaw_90 ?_
        refine kw_if_eq C 100 dX3_readLaw_93 rfl (fun c25 => ?_) (fun c25 => ?_)
        · have hf := if_p c25 hf
          refine kw_iconst C (0 : Int32) dX3_readLaw_100 rfl ?_
          refine kw_sub [] _ rfl ?_
          exact kJ17 _ _ hf
        · have hf := if_n c25 hf
          refine kw_sub [] _ rfl ?_
          exact kJ20 _ hf
    · have hf := if_n c9 hf
      refine kw_aload_n C dX3_readLaw_55 rfl 1 rfl ?_
      refine kw_iconst C (3 : Int32) dX3_readLaw_56 rfl ?_
      obtain ⟨r27, σ28, hc26, hf⟩ := bI_elim hf
      refine kw_callVI C [.int (3 : Int32)] (kX3_refuse L D g t0 (3 : Int32) σ2 _ _ hc26) RX3 mV_X3_69 ⟨rfl, rfl⟩ dd_X3_refuse ⟨Nat.le_of_ble_eq_true rfl, Nat.le_of_ble_eq_true rfl⟩ _ (hO3 g σ2) rfl rfl rfl (Nat.le_of_ble_eq_true rfl) dX3_readLaw_57 ?_
      obtain ⟨h29, hf⟩ := gd_elim hf
      exact kw_zret C K h29 dX3_readLaw_60 hf
  · have hf := if_p c5 hf
    refine kw_aload_n C dX3_readLaw_24 rfl 0 rfl ?_
    refine kw_iconst C (1 : Int32) dX3_readLaw_25 rfl ?_
    obtain ⟨r31, σ32, hc30, hf⟩ := bI_elim hf
    refine kw_callVI C [.int (1 : Int32)] (kX3_refuse L D g t0 (1 : Int32) σ2 _ _ hc30) RX3 mV_X3_69 ⟨rfl, rfl⟩ dd_X3_refuse ⟨Nat.le_of_ble_eq_true rfl, Nat.le_of_ble_eq_true rfl⟩ _ (hO3 g σ2) rfl rfl rfl (Nat.le_of_ble_eq_true rfl) dX3_readLaw_26 ?_
    obtain ⟨h33, hf⟩ := gd_elim hf
    exact kw_zret C K h33 dX3_readLaw_29 hf
set_option maxRecDepth 100000 in
set_option maxHeartbeats 4000000 in
theorem kX3_readLine (L : Launch) (D : va_G) (g : GwT) (t0 : Nat) (σ : St) (r0 : Int32) (σ0 : St) (hf : fX3_readLine σ  = some (r0, σ0)) : CtI L D (ttG g) (wB g) t0 yX3_readLine cX3_readLine 1 (some .boolean) { frames := 5, cells := 0, slots := 0, locals := 113 } [.ref (g.1 9)] σ r0 σ0 := by
  refine CtI.of (own := RX3) (by decide) rfl (Nat.le_of_ble_eq_true rfl) [(0, .ref (g.1 9))] rfl ?_
  intro X C hN K
  unfold fX3_readLine at hf
  refine kw_aload_n C dX3_readLine_0 rfl 0 rfl ?_
  refine kw_get C inG3 _ (hO3 g σ) rfl 0 (Nat.le_of_ble_eq_true rfl) mf_3_20 rfl rfl dX3_readLine_1 ?_
  refine kw_get C inG7 _ (hO7 g σ) rfl 3 (Nat.le_of_ble_eq_true rfl) mf_3_59 rfl rfl dX3_readLine_4 ?_
  obtain ⟨x1, ex1, hf⟩ := lt_elim hf
  refine kw_topi ex1 ?_
  obtain ⟨J2, hJ2, hf⟩ := jnx1_elim hf
  have kJ2 : ∀ (u9 : Unit), J2 u9 = some (r0, σ0) → KW X σ 54 [(0, .ref (g.1 9))] [] := by
    clear hf
    intro u9 hf
    have hf := (hJ2 u9).symm.trans hf
    refine kw_aload_n C dX3_readLine_54 rfl 0 rfl ?_
    refine kw_aload_n C dX3_readLine_55 rfl 0 rfl ?_
    refine kw_get C inG3 _ (hO3 g σ) rfl 0 (Nat.le_of_ble_eq_true rfl) mf_3_20 rfl rfl dX3_readLine_56 ?_
    refine kw_get C inG7 _ (hO7 g σ) rfl 3 (Nat.le_of_ble_eq_true rfl) mf_3_59 rfl rfl dX3_readLine_59 ?_
    obtain ⟨r4, σ5, hc3, hf⟩ := bI_elim hf
    refine kw_callVI C [.int (gI σ 10 3)] (kX3_readSetting L D g t0 (gI σ 10 3) σ _ _ hc3) RX3 mV_X3_85 ⟨rfl, rfl⟩ dd_X3_readSetting ⟨Nat.le_of_ble_eq_true rfl, Nat.le_of_ble_eq_true rfl⟩ _ (hO3 g σ) rfl rfl rfl (Nat.le_of_ble_eq_true rfl) dX3_readLine_62 ?_
    obtain ⟨h6, hf⟩ := gd_elim hf
    exact kw_zret C K h6 dX3_readLine_65 hf
  by_cases c7 : x1 = (0 : Int32)
  · have hf := if_p c7 hf
    refine kw_tabIn C 44 dX3_readLine_7 c7 (by decide) (by decide) rfl rfl ?_
    refine kw_aload_n C dX3_readLine_44 rfl 0 rfl ?_
    obtain ⟨r9, σ10, hc8, hf⟩ := bI_elim hf
    refine kw_callVI C [] (kX3_readHouse L D g t0 σ _ _ hc8) RX3 mV_X3_79 ⟨rfl, rfl⟩ dd_X3_readHouse ⟨Nat.le_of_ble_eq_true rfl, Nat.le_of_ble_eq_true rfl⟩ _ (hO3 g σ) rfl rfl rfl (Nat.le_of_ble_eq_true rfl) dX3_readLine_45 ?_
    obtain ⟨h11, hf⟩ := gd_elim hf
    exact kw_zret C K h11 dX3_readLine_48 hf
  have hf := if_n c7 hf
  by_cases c12 : x1 = (1 : Int32)
  · have hf := if_p c12 hf
    refine kw_tabIn C 49 dX3_readLine_7 c12 (by decide) (by decide) rfl rfl ?_
    refine kw_aload_n C dX3_readLine_49 rfl 0 rfl ?_
    obtain ⟨r14, σ15, hc13, hf⟩ := bI_elim hf
    refine kw_callVI C [] (kX3_readPart L D g t0 σ _ _ hc13) RX3 mV_X3_82 ⟨rfl, rfl⟩ dd_X3_readPart ⟨Nat.le_of_ble_eq_true rfl, Nat.le_of_ble_eq_true rfl⟩ _ (hO3 g σ) rfl rfl rfl (Nat.le_of_ble_eq_true rfl) dX3_readLine_50 ?_
    obtain ⟨h16, hf⟩ := gd_elim hf
    exact kw_zret C K h16 dX3_readLine_53 hf
  have hf := if_n c12 hf
  by_cases c17 : x1 = (2 : Int32)
  · have hf := if_p c17 hf
    refine kw_tabIn C 54 dX3_readLine_7 c17 (by decide) (by decide) rfl rfl ?_
    exact kJ2 _ hf
  have hf := if_n c17 hf
  by_cases c18 : x1 = (3 : Int32)
  · have hf := if_p c18 hf
    refine kw_tabIn C 54 dX3_readLine_7 c18 (by decide) (by decide) rfl rfl ?_
    exact kJ2 _ hf
  have hf := if_n c18 hf
  by_cases c19 : x1 = (4 : Int32)
  · have hf := if_p c19 hf
    refine kw_tabIn C 54 dX3_readLine_7 c19 (by decide) (by decide) rfl rfl ?_
    exact kJ2 _ hf
  have hf := if_n c19 hf
  by_cases c20 : x1 = (5 : Int32)
  · have hf := if_p c20 hf
    refine kw_tabIn C 66 dX3_readLine_7 c20 (by decide) (by decide) rfl rfl ?_
    refine kw_aload_n C dX3_readLine_66 rfl 0 rfl ?_
    obtain ⟨r22, σ23, hc21, hf⟩ := bI_elim hf
    refine kw_callVI C [] (kX3_readLaw L D g t0 σ _ _ hc21) RX3 mV_X3_88 ⟨rfl, rfl⟩ dd_X3_readLaw ⟨Nat.le_of_ble_eq_true rfl, Nat.le_of_ble_eq_true rfl⟩ _ (hO3 g σ) rfl rfl rfl (Nat.le_of_ble_eq_true rfl) dX3_readLine_67 ?_
    obtain ⟨h24, hf⟩ := gd_elim hf
    exact kw_zret C K h24 dX3_readLine_70 hf
  have hf := if_n c20 hf
  have c7_ : x1.toInt ≠ 0 := ne_ti c7
  have c12_ : x1.toInt ≠ 1 := ne_ti c12
  have c17_ : x1.toInt ≠ 2 := ne_ti c17
  have c18_ : x1.toInt ≠ 3 := ne_ti c18
  have c19_ : x1.toInt ≠ 4 := ne_ti c19
  have c20_ : x1.toInt ≠ 5 := ne_ti c20
  refine kw_tabOut C 71 dX3_readLine_7 (by omega) rfl ?_
  refine kw_aload_n C dX3_readLine_71 rfl 0 rfl ?_
  refine kw_iconst C (1 : Int32) dX3_readLine_72 rfl ?_
  obtain ⟨r26, σ27, hc25, hf⟩ := bI_elim hf
  refine kw_callVI C [.int (1 : Int32)] (kX3_refuse L D g t0 (1 : Int32) σ _ _ hc25) RX3 mV_X3_69 ⟨rfl, rfl⟩ dd_X3_refuse ⟨Nat.le_of_ble_eq_true rfl, Nat.le_of_ble_eq_true rfl⟩ _ (hO3 g σ) rfl rfl rfl (Nat.le_of_ble_eq_true rfl) dX3_readLine_73 ?_
  obtain ⟨h28, hf⟩ := gd_elim hf
  exact kw_zret C K h28 dX3_readLine_76 hf
set_option maxRecDepth 100000 in
set_option maxHeartbeats 4000000 in
theorem kX3_endLine (L : Launch) (D : va_G) (g : GwT) (t0 : Nat) (σ : St) (r0 : Int32) (σ0 : St) (hf : fX3_endLine σ  = some (r0, σ0)) : CtI L D (ttG g) (wB g) t0 yX3_endLine cX3_endLine 1 (some .boolean) { frames := 3, cells := 0, slots := 0, locals := 65 } [.ref (g.1 9)] σ r0 σ0 := by
  refine CtI.of (own := RX3) (by decide) rfl (Nat.le_of_ble_eq_true rfl) [(0, .ref (g.1 9))] rfl ?_
  intro X C hN K
  unfold fX3_endLine at hf
  refine kw_aload_n C dX3_endLine_0 rfl 0 rfl ?_
  refine kw_get C inG3 _ (hO3 g σ) rfl 0 (Nat.le_of_ble_eq_true rfl) mf_3_20 rfl rfl dX3_endLine_1 ?_
  refine kw_get C inG7 _ (hO7 g σ) rfl 3 (Nat.le_of_ble_eq_true rfl) mf_3_59 rfl rfl dX3_endLine_4 ?_
  refine kw_bipush C (23 : Int32) dX3_endLine_7 rfl ?_
  refine kw_icmp_eq C 18 dX3_endLine_9 rfl (fun c1 => ?_) (fun c1 => ?_)
  · have hf := if_p c1 hf
    refine kw_aload_n C dX3_endLine_18 rfl 0 rfl ?_
    refine kw_get C inG3 _ (hO3 g σ) rfl 0 (Nat.le_of_ble_eq_true rfl) mf_3_20 rfl rfl dX3_endLine_19 ?_
    obtain ⟨σ3, hc2, hf⟩ := bV_elim hf
    refine kw_callVV C [] (kX7_advance L D g t0 σ _ hc2) RX7 mV_X3_73 ⟨rfl, rfl⟩ dd_X7_advance ⟨Nat.le_of_ble_eq_true rfl, Nat.le_of_ble_eq_true rfl⟩ _ (hO7 g σ) rfl rfl rfl (Nat.le_of_ble_eq_true rfl) dX3_endLine_22 ?_
    refine kw_aload_n C dX3_endLine_25 rfl 0 rfl ?_
    refine kw_get C inG3 _ (hO3 g σ3) rfl 2 (Nat.le_of_ble_eq_true rfl) mf_3_9 rfl rfl dX3_endLine_26 ?_
    refine kw_dup C dX3_endLine_29 rfl ?_
    refine kw_get C inG6 _ (hO6 g σ3 (gR σ3 3)) rfl 0 (Nat.le_of_ble_eq_true rfl) mf_3_76 rfl rfl dX3_endLine_30 ?_
    refine kw_iconst C (1 : Int32) dX3_endLine_33 rfl ?_
    refine kw_iadd C dX3_endLine_34 ?_
    obtain ⟨σ4, eσ4, hf⟩ := lt_elim hf
    refine kw_put C inG6 tyX6 tyX6_ok nmX6 _ (hO6 g σ3 (gR σ3 3)) rfl 0 (Nat.le_of_ble_eq_true rfl) mf_3_76 rfl rfl (tyX6_ok 0 (Nat.le_of_ble_eq_true rfl)) rfl rfl (Nat.le_of_ble_eq_true rfl) ((hF6_0 g σ3 (gR σ3 3) _).trans (congrArg (wB g) eσ4.symm)) dX3_endLine_35 ?_
    refine kw_iconst C (1 : Int32) dX3_endLine_38 rfl ?_
    exact kw_zret C K (by decide) dX3_endLine_39 hf
  · have hf := if_n c1 hf
    refine kw_aload_n C dX3_endLine_12 rfl 0 rfl ?_
    refine kw_iconst C (1 : Int32) dX3_endLine_13 rfl ?_
    obtain ⟨r6, σ7, hc5, hf⟩ := bI_elim hf
    refine kw_callVI C [.int (1 : Int32)] (kX3_refuse L D g t0 (1 : Int32) σ _ _ hc5) RX3 mV_X3_69 ⟨rfl, rfl⟩ dd_X3_refuse ⟨Nat.le_of_ble_eq_true rfl, Nat.le_of_ble_eq_true rfl⟩ _ (hO3 g σ) rfl rfl rfl (Nat.le_of_ble_eq_true rfl) dX3_endLine_14 ?_
    obtain ⟨h8, hf⟩ := gd_elim hf
    exact kw_zret C K h8 dX3_endLine_17 hf
set_option maxRecDepth 100000 in
set_option maxHeartbeats 4000000 in
theorem kX3_readText (L : Launch) (D : va_G) (g : GwT) (t0 : Nat) (p0 : Bool) (p1 : Int32) (σ : St) (r0 : Int32) (σ0 : St) (hf : fX3_readText σ p0 p1 = some (r0, σ0)) : CtI L D (ttG g) (wB g) t0 yX3_readText cX3_readText 4 (some .boolean) { frames := 6, cells := 0, slots := 0, locals := 133 } [.ref (g.1 9), .ref (g.1 (tx p0)), .int p1] σ r0 σ0 := by
  refine CtI.of (own := RX3) (by decide) rfl (Nat.le_of_ble_eq_true rfl) [(0, .ref (g.1 9)), (1, .ref (g.1 (tx p0))), (2, .int p1)] rfl ?_
  intro X C hN K
  unfold fX3_readText at hf
  refine kw_aload_n C dX3_readText_0 rfl 0 rfl ?_
  refine kw_aload_n C dX3_readText_1 rfl 1 rfl ?_
  obtain ⟨σ1, eσ1, hf⟩ := lt_elim hf
  refine kw_put C inG3 tyX3 tyX3_ok nmX3 _ (hO3 g σ) rfl 2 (Nat.le_of_ble_eq_true rfl) mf_3_9 rfl rfl (tyX3_ok 2 (Nat.le_of_ble_eq_true rfl)) rfl rfl (Nat.le_of_ble_eq_true rfl) ((hF3_2 g σ _).trans (congrArg (wB g) eσ1.symm)) dX3_readText_2 ?_
  refine kw_aload_n C dX3_readText_5 rfl 0 rfl ?_
  refine kw_get C inG3 _ (hO3 g σ1) rfl 2 (Nat.le_of_ble_eq_true rfl) mf_3_9 rfl rfl dX3_readText_6 ?_
  obtain ⟨σ3, hc2, hf⟩ := bV_elim hf
  refine kw_callVV C [] (kX6_empty L D g t0 (gR σ1 3) σ1 _ hc2) RX6 mV_X3_46 ⟨rfl, rfl⟩ dd_X6_empty ⟨Nat.le_of_ble_eq_true rfl, Nat.le_of_ble_eq_true rfl⟩ _ (hO6 g σ1 (gR σ1 3)) rfl rfl rfl (Nat.le_of_ble_eq_true rfl) dX3_readText_9 ?_
  refine kw_aload_n C dX3_readText_12 rfl 0 rfl ?_
  refine kw_iconst C (0 : Int32) dX3_readText_13 rfl ?_
  obtain ⟨σ4, eσ4, hf⟩ := lt_elim hf
  refine kw_put C inG3 tyX3 tyX3_ok nmX3 _ (hO3 g σ3) rfl 3 (Nat.le_of_ble_eq_true rfl) mf_3_39 rfl rfl (tyX3_ok 3 (Nat.le_of_ble_eq_true rfl)) rfl rfl (Nat.le_of_ble_eq_true rfl) ((hF3_3 g σ3 _).trans (congrArg (wB g) eσ4.symm)) dX3_readText_14 ?_
  refine kw_aload_n C dX3_readText_17 rfl 0 rfl ?_
  refine kw_iconst C (0 : Int32) dX3_readText_18 rfl ?_
  obtain ⟨σ5, eσ5, hf⟩ := lt_elim hf
  refine kw_put C inG3 tyX3 tyX3_ok nmX3 _ (hO3 g σ4) rfl 4 (Nat.le_of_ble_eq_true rfl) mf_3_49 rfl rfl (tyX3_ok 4 (Nat.le_of_ble_eq_true rfl)) rfl rfl (Nat.le_of_ble_eq_true rfl) ((hF3_4 g σ4 _).trans (congrArg (wB g) eσ5.symm)) dX3_readText_19 ?_
  refine kw_aload_n C dX3_readText_22 rfl 0 rfl ?_
  refine kw_get C inG3 _ (hO3 g σ5) rfl 1 (Nat.le_of_ble_eq_true rfl) mf_3_35 rfl rfl dX3_readText_23 ?_
  obtain ⟨σ7, hc6, hf⟩ := bV_elim hf
  refine kw_callVV C [] (kX1_begin L D g t0 σ5 _ hc6) RX1 mV_X3_52 ⟨rfl, rfl⟩ dd_X1_begin ⟨Nat.le_of_ble_eq_true rfl, Nat.le_of_ble_eq_true rfl⟩ _ (hO1 g σ5) rfl rfl rfl (Nat.le_of_ble_eq_true rfl) dX3_readText_26 ?_
  refine kw_aload_n C dX3_readText_29 rfl 0 rfl ?_
  refine kw_get C inG3 _ (hO3 g σ7) rfl 0 (Nat.le_of_ble_eq_true rfl) mf_3_20 rfl rfl dX3_readText_30 ?_
  refine kw_iload_n C dX3_readText_33 rfl 2 rfl ?_
  obtain ⟨σ9, hc8, hf⟩ := bV_elim hf
  refine kw_callVV C [.int p1] (kX7_start L D g t0 p1 σ7 _ hc8) RX7 mV_X3_55 ⟨rfl, rfl⟩ dd_X7_start ⟨Nat.le_of_ble_eq_true rfl, Nat.le_of_ble_eq_true rfl⟩ _ (hO7 g σ7) rfl rfl rfl (Nat.le_of_ble_eq_true rfl) dX3_readText_34 ?_
  refine kw_iconst C (0 : Int32) dX3_readText_37 rfl ?_
  refine kw_istore_n C dX3_readText_38 rfl hN (Nat.le_of_ble_eq_true rfl) [(3, .int (0 : Int32)), (0, .ref (g.1 9)), (1, .ref (g.1 (tx p0))), (2, .int p1)] rfl ?_
  refine kw_sub [1, 0] _ rfl ?_
  refine lpx2_walk (P := fun (x10 : Int32) (σ11 : St) => KW X σ11 39 [(0, .ref (g.1 9)), (3, .int x10)] []) ?_ FU _ _ hf
  intro self12 x10 σ11 ih13 hf
  refine kw_iload_n C dX3_readText_39 rfl 1 rfl ?_
  refine kw_sipush C (700 : Int32) dX3_readText_40 rfl ?_
  obtain ⟨J14, hJ14, hf⟩ := jnx1_elim hf
  have kJ14 : ∀ (u9 : Unit), J14 u9 = some (r0, σ0) → KW X σ11 80 [] [] := by
    clear hf
    intro u9 hf
    have hf := (hJ14 u9).symm.trans hf
    refine kw_iconst C (1 : Int32) dX3_readText_80 rfl ?_
    exact kw_zret C K (by decide) dX3_readText_81 hf
  refine kw_icmp_gt C 80 dX3_readText_43 rfl (fun c15 => ?_) (fun c15 => ?_)
  · have hf := if_p c15 hf
    refine kw_sub [] _ rfl ?_
    exact kJ14 _ hf
  · have hf := if_n c15 hf
    refine kw_aload_n C dX3_readText_46 rfl 0 rfl ?_
    refine kw_get C inG3 _ (hO3 g σ11) rfl 0 (Nat.le_of_ble_eq_true rfl) mf_3_20 rfl rfl dX3_readText_47 ?_
    refine kw_get C inG7 _ (hO7 g σ11) rfl 3 (Nat.le_of_ble_eq_true rfl) mf_3_59 rfl rfl dX3_readText_50 ?_
    refine kw_bipush C (21 : Int32) dX3_readText_53 rfl ?_
    refine kw_icmp_eq C 80 dX3_readText_55 rfl (fun c16 => ?_) (fun c16 => ?_)
    · have hf := if_p c16 hf
      refine kw_sub [] _ rfl ?_
      exact kJ14 _ hf
    · have hf := if_n c16 hf
      refine kw_aload_n C dX3_readText_58 rfl 0 rfl ?_
      obtain ⟨r18, σ19, hc17, hf⟩ := bI_elim hf
      refine kw_callVI C [] (kX3_readLine L D g t0 σ11 _ _ hc17) RX3 mV_X3_62 ⟨rfl, rfl⟩ dd_X3_readLine ⟨Nat.le_of_ble_eq_true rfl, Nat.le_of_ble_eq_true rfl⟩ _ (hO3 g σ11) rfl rfl rfl (Nat.le_of_ble_eq_true rfl) dX3_readText_59 ?_
      obtain ⟨J21, hJ21, hf⟩ := jnx1_elim hf
      have kJ21 : ∀ (σ20 : St), J21 σ20 = some (r0, σ0) → KW X σ20 72 [] [] := by
        clear hf
        intro σ20 hf
        have hf := (hJ21 σ20).symm.trans hf
        refine kw_iconst C (0 : Int32) dX3_readText_72 rfl ?_
        exact kw_zret C K (by decide) dX3_readText_73 hf
      refine kw_if_eq C 72 dX3_readText_62 rfl (fun c22 => ?_) (fun c22 => ?_)
      · have hf := if_p c22 hf
        refine kw_sub [] _ rfl ?_
        exact kJ21 _ hf
      · have hf := if_n c22 hf
        refine kw_aload_n C dX3_readText_65 rfl 0 rfl ?_
        obtain ⟨r24, σ25, hc23, hf⟩ := bI_elim hf
        refine kw_callVI C [] (kX3_endLine L D g t0 σ19 _ _ hc23) RX3 mV_X3_66 ⟨rfl, rfl⟩ dd_X3_endLine ⟨Nat.le_of_ble_eq_true rfl, Nat.le_of_ble_eq_true rfl⟩ _ (hO3 g σ19) rfl rfl rfl (Nat.le_of_ble_eq_true rfl) dX3_readText_66 ?_
        refine kw_if_ne C 74 dX3_readText_69 rfl (fun c26 => ?_) (fun c26 => ?_)
        · have hf := if_n c26 hf
          obtain ⟨x27, ex27, hf⟩ := lt_elim hf
          refine kw_iinc C x27 dX3_readText_74 1 rfl ex27.symm hN (Nat.le_of_ble_eq_true rfl) [(3, .int x27), (0, .ref (g.1 9))] rfl ?_
          refine kw_goto C 39 dX3_readText_77 rfl ?_
          refine kw_sub [1, 0] _ rfl ?_
          exact ih13 _ _ hf
        · have hf := if_p c26 hf
          refine kw_sub [] _ rfl ?_
          exact kJ21 _ hf
