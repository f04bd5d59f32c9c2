set_option maxRecDepth 100000 in
set_option maxHeartbeats 4000000 in
theorem kX10_plainTried (L : Launch) (D : va_G) (g : GwT) (t0 : Nat) (σ : St) (σ0 : St) (hf : fX10_plainTried σ  = some σ0) : CtV L D (ttG g) (wM g) t0 yX10_plainTried cX10_plainTried 1 none { frames := 0, cells := 0, slots := 0, locals := 0 } [.ref (g.1 0)] σ σ0 := by
  refine CtV.of (own := RX10) (by decide) rfl (Nat.le_of_ble_eq_true rfl) [(0, .ref (g.1 0))] rfl ?_
  intro X C hN K
  unfold fX10_plainTried at hf
  refine kw_aload_n C dX10_plainTried_0 rfl 0 rfl ?_
  refine kw_iconst C (0 : Int32) dX10_plainTried_1 rfl ?_
  obtain ⟨σ1, eσ1, hf⟩ := lt_elim hf
  refine kw_put C inG10 tyX10 tyX10_ok nmX10 _ (hO10 g σ) rfl 61 (Nat.le_of_ble_eq_true rfl) mf_10_353 rfl rfl (tyX10_ok 61 (Nat.le_of_ble_eq_true rfl)) (narrow_bz (by decide)) (fits_bz (by decide)) (Nat.le_of_ble_eq_true rfl) ((hF10_61 g σ _).trans (congrArg (wM g) eσ1.symm)) dX10_plainTried_2 ?_
  refine kw_aload_n C dX10_plainTried_5 rfl 0 rfl ?_
  refine kw_iconst C (0 : Int32) dX10_plainTried_6 rfl ?_
  obtain ⟨σ2, eσ2, hf⟩ := lt_elim hf
  refine kw_put C inG10 tyX10 tyX10_ok nmX10 _ (hO10 g σ1) rfl 62 (Nat.le_of_ble_eq_true rfl) mf_10_356 rfl rfl (tyX10_ok 62 (Nat.le_of_ble_eq_true rfl)) (narrow_bz (by decide)) (fits_bz (by decide)) (Nat.le_of_ble_eq_true rfl) ((hF10_62 g σ1 _).trans (congrArg (wM g) eσ2.symm)) dX10_plainTried_7 ?_
  refine kw_aload_n C dX10_plainTried_10 rfl 0 rfl ?_
  refine kw_iconst C (0 : Int32) dX10_plainTried_11 rfl ?_
  obtain ⟨σ3, eσ3, hf⟩ := lt_elim hf
  refine kw_put C inG10 tyX10 tyX10_ok nmX10 _ (hO10 g σ2) rfl 63 (Nat.le_of_ble_eq_true rfl) mf_10_359 rfl rfl (tyX10_ok 63 (Nat.le_of_ble_eq_true rfl)) (narrow_bz (by decide)) (fits_bz (by decide)) (Nat.le_of_ble_eq_true rfl) ((hF10_63 g σ2 _).trans (congrArg (wM g) eσ3.symm)) dX10_plainTried_12 ?_
  refine kw_aload_n C dX10_plainTried_15 rfl 0 rfl ?_
  refine kw_iconst C (0 : Int32) dX10_plainTried_16 rfl ?_
  obtain ⟨σ4, eσ4, hf⟩ := lt_elim hf
  refine kw_put C inG10 tyX10 tyX10_ok nmX10 _ (hO10 g σ3) rfl 64 (Nat.le_of_ble_eq_true rfl) mf_10_362 rfl rfl (tyX10_ok 64 (Nat.le_of_ble_eq_true rfl)) (narrow_bz (by decide)) (fits_bz (by decide)) (Nat.le_of_ble_eq_true rfl) ((hF10_64 g σ3 _).trans (congrArg (wM g) eσ4.symm)) dX10_plainTried_17 ?_
  refine kw_aload_n C dX10_plainTried_20 rfl 0 rfl ?_
  refine kw_iconst C (0 : Int32) dX10_plainTried_21 rfl ?_
  obtain ⟨σ5, eσ5, hf⟩ := lt_elim hf
  refine kw_put C inG10 tyX10 tyX10_ok nmX10 _ (hO10 g σ4) rfl 65 (Nat.le_of_ble_eq_true rfl) mf_10_365 rfl rfl (tyX10_ok 65 (Nat.le_of_ble_eq_true rfl)) rfl rfl (Nat.le_of_ble_eq_true rfl) ((hF10_65 g σ4 _).trans (congrArg (wM g) eσ5.symm)) dX10_plainTried_22 ?_
  exact kw_vret (u9 := ()) C K dX10_plainTried_25 hf
set_option maxRecDepth 100000 in
set_option maxHeartbeats 4000000 in
theorem kX10_begin (L : Launch) (D : va_G) (g : GwT) (t0 : Nat) (σ : St) (σ0 : St) (hf : fX10_begin σ  = some σ0) : CtV L D (ttG g) (wM g) t0 yX10_begin cX10_begin 1 none { frames := 1, cells := 0, slots := 0, locals := 22 } [.ref (g.1 0)] σ σ0 := by
  refine CtV.of (own := RX10) (by decide) rfl (Nat.le_of_ble_eq_true rfl) [(0, .ref (g.1 0))] rfl ?_
  intro X C hN K
  unfold fX10_begin at hf
  refine kw_aload_n C dX10_begin_0 rfl 0 rfl ?_
  refine kw_iconst C (0 : Int32) dX10_begin_1 rfl ?_
  obtain ⟨σ2, hc1, hf⟩ := bV_elim hf
  refine kw_callVV C [.int (0 : Int32)] (kX10_atFirst L D g t0 (0 : Int32) σ _ hc1) RX10 mV_X10_334 ⟨rfl, rfl⟩ dd_X10_atFirst ⟨Nat.le_of_ble_eq_true rfl, Nat.le_of_ble_eq_true rfl⟩ _ (hO10 g σ) rfl rfl rfl (Nat.le_of_ble_eq_true rfl) dX10_begin_2 ?_
  refine kw_aload_n C dX10_begin_5 rfl 0 rfl ?_
  refine kw_aload_n C dX10_begin_6 rfl 0 rfl ?_
  refine kw_get C inG10 _ (hO10 g σ2) rfl 19 (Nat.le_of_ble_eq_true rfl) mf_10_24 rfl rfl dX10_begin_7 ?_
  refine kw_iconst C (2 : Int32) dX10_begin_10 rfl ?_
  refine kw_iald C _ 0 (hA10_19 g σ2) rfl (by decide) dX10_begin_11 ?_
  refine kw_i2l C dX10_begin_12 ?_
  obtain ⟨σ3, eσ3, hf⟩ := lt_elim hf
  refine kw_put C inG10 tyX10 tyX10_ok nmX10 _ (hO10 g σ2) rfl 60 (Nat.le_of_ble_eq_true rfl) mf_10_337 rfl rfl (tyX10_ok 60 (Nat.le_of_ble_eq_true rfl)) rfl rfl (Nat.le_of_ble_eq_true rfl) ((hF10_60 g σ2 _).trans (congrArg (wM g) eσ3.symm)) dX10_begin_13 ?_
  refine kw_aload_n C dX10_begin_16 rfl 0 rfl ?_
  obtain ⟨σ5, hc4, hf⟩ := bV_elim hf
  refine kw_callVV C [] (kX10_plainTried L D g t0 σ3 _ hc4) RX10 mV_X10_341 ⟨rfl, rfl⟩ dd_X10_plainTried ⟨Nat.le_of_ble_eq_true rfl, Nat.le_of_ble_eq_true rfl⟩ _ (hO10 g σ3) rfl rfl rfl (Nat.le_of_ble_eq_true rfl) dX10_begin_17 ?_
  refine kw_aload_n C dX10_begin_20 rfl 0 rfl ?_
  refine kw_iconst C (0 : Int32) dX10_begin_21 rfl ?_
  obtain ⟨σ6, eσ6, hf⟩ := lt_elim hf
  refine kw_put C inG10 tyX10 tyX10_ok nmX10 _ (hO10 g σ5) rfl 67 (Nat.le_of_ble_eq_true rfl) mf_10_344 rfl rfl (tyX10_ok 67 (Nat.le_of_ble_eq_true rfl)) rfl rfl (Nat.le_of_ble_eq_true rfl) ((hF10_67 g σ5 _).trans (congrArg (wM g) eσ6.symm)) dX10_begin_22 ?_
  refine kw_aload_n C dX10_begin_25 rfl 0 rfl ?_
  refine kw_iconst C (-1 : Int32) dX10_begin_26 rfl ?_
  obtain ⟨σ7, eσ7, hf⟩ := lt_elim hf
  refine kw_put C inG10 tyX10 tyX10_ok nmX10 _ (hO10 g σ6) rfl 68 (Nat.le_of_ble_eq_true rfl) mf_10_127 rfl rfl (tyX10_ok 68 (Nat.le_of_ble_eq_true rfl)) rfl rfl (Nat.le_of_ble_eq_true rfl) ((hF10_68 g σ6 _).trans (congrArg (wM g) eσ7.symm)) dX10_begin_27 ?_
  refine kw_aload_n C dX10_begin_30 rfl 0 rfl ?_
  refine kw_iconst C (0 : Int32) dX10_begin_31 rfl ?_
  obtain ⟨σ8, eσ8, hf⟩ := lt_elim hf
  refine kw_put C inG10 tyX10 tyX10_ok nmX10 _ (hO10 g σ7) rfl 71 (Nat.le_of_ble_eq_true rfl) mf_10_347 rfl rfl (tyX10_ok 71 (Nat.le_of_ble_eq_true rfl)) rfl rfl (Nat.le_of_ble_eq_true rfl) ((hF10_71 g σ7 _).trans (congrArg (wM g) eσ8.symm)) dX10_begin_32 ?_
  refine kw_aload_n C dX10_begin_35 rfl 0 rfl ?_
  refine kw_iconst C (0 : Int32) dX10_begin_36 rfl ?_
  obtain ⟨σ9, eσ9, hf⟩ := lt_elim hf
  refine kw_put C inG10 tyX10 tyX10_ok nmX10 _ (hO10 g σ8) rfl 73 (Nat.le_of_ble_eq_true rfl) mf_10_350 rfl rfl (tyX10_ok 73 (Nat.le_of_ble_eq_true rfl)) (narrow_bz (by decide)) (fits_bz (by decide)) (Nat.le_of_ble_eq_true rfl) ((hF10_73 g σ8 _).trans (congrArg (wM g) eσ9.symm)) dX10_begin_37 ?_
  exact kw_vret (u9 := ()) C K dX10_begin_40 hf
set_option maxRecDepth 100000 in
set_option maxHeartbeats 4000000 in
theorem kX10_keepText (L : Launch) (D : va_G) (g : GwT) (t0 : Nat) (σ : St) (σ0 : St) (hf : fX10_keepText σ  = some σ0) : CtV L D (ttG g) (wM g) t0 yX10_keepText cX10_keepText 2 none { frames := 2, cells := 0, slots := 0, locals := 42 } [.ref (g.1 0)] σ σ0 := by
  refine CtV.of (own := RX10) (by decide) rfl (Nat.le_of_ble_eq_true rfl) [(0, .ref (g.1 0))] rfl ?_
  intro X C hN K
  unfold fX10_keepText at hf
  refine kw_aload_n C dX10_keepText_0 rfl 0 rfl ?_
  refine kw_aload_n C dX10_keepText_1 rfl 0 rfl ?_
  refine kw_get C inG10 _ (hO10 g σ) rfl 15 (Nat.le_of_ble_eq_true rfl) mf_10_213 rfl rfl dX10_keepText_2 ?_
  obtain ⟨σ1, eσ1, hf⟩ := lt_elim hf
  refine kw_put C inG10 tyX10 tyX10_ok nmX10 _ (hO10 g σ) rfl 12 (Nat.le_of_ble_eq_true rfl) mf_10_225 rfl rfl (tyX10_ok 12 (Nat.le_of_ble_eq_true rfl)) rfl rfl (Nat.le_of_ble_eq_true rfl) ((hF10_12 g σ _).trans (congrArg (wM g) eσ1.symm)) dX10_keepText_5 ?_
  refine kw_aload_n C dX10_keepText_8 rfl 0 rfl ?_
  refine kw_aload_n C dX10_keepText_9 rfl 0 rfl ?_
  refine kw_get C inG10 _ (hO10 g σ1) rfl 16 (Nat.le_of_ble_eq_true rfl) mf_10_216 rfl rfl dX10_keepText_10 ?_
  obtain ⟨σ2, eσ2, hf⟩ := lt_elim hf
  refine kw_put C inG10 tyX10 tyX10_ok nmX10 _ (hO10 g σ1) rfl 13 (Nat.le_of_ble_eq_true rfl) mf_10_228 rfl rfl (tyX10_ok 13 (Nat.le_of_ble_eq_true rfl)) rfl rfl (Nat.le_of_ble_eq_true rfl) ((hF10_13 g σ1 _).trans (congrArg (wM g) eσ2.symm)) dX10_keepText_13 ?_
  refine kw_aload_n C dX10_keepText_16 rfl 0 rfl ?_
  refine kw_aload_n C dX10_keepText_17 rfl 0 rfl ?_
  refine kw_get C inG10 _ (hO10 g σ2) rfl 17 (Nat.le_of_ble_eq_true rfl) mf_10_219 rfl rfl dX10_keepText_18 ?_
  obtain ⟨σ3, eσ3, hf⟩ := lt_elim hf
  refine kw_put C inG10 tyX10 tyX10_ok nmX10 _ (hO10 g σ2) rfl 14 (Nat.le_of_ble_eq_true rfl) mf_10_231 rfl rfl (tyX10_ok 14 (Nat.le_of_ble_eq_true rfl)) rfl rfl (Nat.le_of_ble_eq_true rfl) ((hF10_14 g σ2 _).trans (congrArg (wM g) eσ3.symm)) dX10_keepText_21 ?_
  refine kw_aload_n C dX10_keepText_24 rfl 0 rfl ?_
  refine kw_get C inG10 _ (hO10 g σ3) rfl 19 (Nat.le_of_ble_eq_true rfl) mf_10_24 rfl rfl dX10_keepText_25 ?_
  refine kw_iconst C (3 : Int32) dX10_keepText_28 rfl ?_
  obtain ⟨σ5, hc4, hf⟩ := bV_elim hf
  refine kw_callSV C [.ref (g.2.1 0 19), .int (3 : Int32)] (kX10_copies_a10_19 L D g t0 (3 : Int32) σ3 _ hc4) mS_X10_234 ⟨rfl, rfl⟩ dd_X10_copies ⟨Nat.le_of_ble_eq_true rfl, Nat.le_of_ble_eq_true rfl⟩ rfl (Nat.le_of_ble_eq_true rfl) dX10_keepText_29 ?_
  refine kw_aload_n C dX10_keepText_32 rfl 0 rfl ?_
  refine kw_get C inG10 _ (hO10 g σ5) rfl 20 (Nat.le_of_ble_eq_true rfl) mf_10_27 rfl rfl dX10_keepText_33 ?_
  refine kw_bipush C (6 : Int32) dX10_keepText_36 rfl ?_
  obtain ⟨σ7, hc6, hf⟩ := bV_elim hf
  refine kw_callSV C [.ref (g.2.1 0 20), .int (6 : Int32)] (kX10_copies_a10_20 L D g t0 (6 : Int32) σ5 _ hc6) mS_X10_234 ⟨rfl, rfl⟩ dd_X10_copies ⟨Nat.le_of_ble_eq_true rfl, Nat.le_of_ble_eq_true rfl⟩ rfl (Nat.le_of_ble_eq_true rfl) dX10_keepText_38 ?_
  refine kw_aload_n C dX10_keepText_41 rfl 0 rfl ?_
  refine kw_get C inG10 _ (hO10 g σ7) rfl 21 (Nat.le_of_ble_eq_true rfl) mf_10_30 rfl rfl dX10_keepText_42 ?_
  refine kw_bipush C (6 : Int32) dX10_keepText_45 rfl ?_
  obtain ⟨σ9, hc8, hf⟩ := bV_elim hf
  refine kw_callSV C [.ref (g.2.1 0 21), .int (6 : Int32)] (kX10_copies_a10_21 L D g t0 (6 : Int32) σ7 _ hc8) mS_X10_234 ⟨rfl, rfl⟩ dd_X10_copies ⟨Nat.le_of_ble_eq_true rfl, Nat.le_of_ble_eq_true rfl⟩ rfl (Nat.le_of_ble_eq_true rfl) dX10_keepText_47 ?_
  refine kw_aload_n C dX10_keepText_50 rfl 0 rfl ?_
  refine kw_get C inG10 _ (hO10 g σ9) rfl 22 (Nat.le_of_ble_eq_true rfl) mf_10_33 rfl rfl dX10_keepText_51 ?_
  refine kw_bipush C (6 : Int32) dX10_keepText_54 rfl ?_
  obtain ⟨σ11, hc10, hf⟩ := bV_elim hf
  refine kw_callSV C [.ref (g.2.1 0 22), .int (6 : Int32)] (kX10_copies_a10_22 L D g t0 (6 : Int32) σ9 _ hc10) mS_X10_234 ⟨rfl, rfl⟩ dd_X10_copies ⟨Nat.le_of_ble_eq_true rfl, Nat.le_of_ble_eq_true rfl⟩ rfl (Nat.le_of_ble_eq_true rfl) dX10_keepText_56 ?_
  refine kw_aload_n C dX10_keepText_59 rfl 0 rfl ?_
  refine kw_get C inG10 _ (hO10 g σ11) rfl 23 (Nat.le_of_ble_eq_true rfl) mf_10_36 rfl rfl dX10_keepText_60 ?_
  refine kw_bipush C (6 : Int32) dX10_keepText_63 rfl ?_
  obtain ⟨σ13, hc12, hf⟩ := bV_elim hf
  refine kw_callSV C [.ref (g.2.1 0 23), .int (6 : Int32)] (kX10_copies_a10_23 L D g t0 (6 : Int32) σ11 _ hc12) mS_X10_234 ⟨rfl, rfl⟩ dd_X10_copies ⟨Nat.le_of_ble_eq_true rfl, Nat.le_of_ble_eq_true rfl⟩ rfl (Nat.le_of_ble_eq_true rfl) dX10_keepText_65 ?_
  refine kw_aload_n C dX10_keepText_68 rfl 0 rfl ?_
  refine kw_get C inG10 _ (hO10 g σ13) rfl 24 (Nat.le_of_ble_eq_true rfl) mf_10_39 rfl rfl dX10_keepText_69 ?_
  refine kw_bipush C (6 : Int32) dX10_keepText_72 rfl ?_
  obtain ⟨σ15, hc14, hf⟩ := bV_elim hf
  refine kw_callSV C [.ref (g.2.1 0 24), .int (6 : Int32)] (kX10_copies_a10_24 L D g t0 (6 : Int32) σ13 _ hc14) mS_X10_234 ⟨rfl, rfl⟩ dd_X10_copies ⟨Nat.le_of_ble_eq_true rfl, Nat.le_of_ble_eq_true rfl⟩ rfl (Nat.le_of_ble_eq_true rfl) dX10_keepText_74 ?_
  refine kw_aload_n C dX10_keepText_77 rfl 0 rfl ?_
  refine kw_get C inG10 _ (hO10 g σ15) rfl 25 (Nat.le_of_ble_eq_true rfl) mf_10_42 rfl rfl dX10_keepText_78 ?_
  refine kw_bipush C (6 : Int32) dX10_keepText_81 rfl ?_
  obtain ⟨σ17, hc16, hf⟩ := bV_elim hf
  refine kw_callSV C [.ref (g.2.1 0 25), .int (6 : Int32)] (kX10_copies_a10_25 L D g t0 (6 : Int32) σ15 _ hc16) mS_X10_234 ⟨rfl, rfl⟩ dd_X10_copies ⟨Nat.le_of_ble_eq_true rfl, Nat.le_of_ble_eq_true rfl⟩ rfl (Nat.le_of_ble_eq_true rfl) dX10_keepText_83 ?_
  refine kw_aload_n C dX10_keepText_86 rfl 0 rfl ?_
  refine kw_get C inG10 _ (hO10 g σ17) rfl 26 (Nat.le_of_ble_eq_true rfl) mf_10_45 rfl rfl dX10_keepText_87 ?_
  refine kw_bipush C (6 : Int32) dX10_keepText_90 rfl ?_
  obtain ⟨σ19, hc18, hf⟩ := bV_elim hf
  refine kw_callSV C [.ref (g.2.1 0 26), .int (6 : Int32)] (kX10_copies_a10_26 L D g t0 (6 : Int32) σ17 _ hc18) mS_X10_234 ⟨rfl, rfl⟩ dd_X10_copies ⟨Nat.le_of_ble_eq_true rfl, Nat.le_of_ble_eq_true rfl⟩ rfl (Nat.le_of_ble_eq_true rfl) dX10_keepText_92 ?_
  refine kw_aload_n C dX10_keepText_95 rfl 0 rfl ?_
  refine kw_get C inG10 _ (hO10 g σ19) rfl 27 (Nat.le_of_ble_eq_true rfl) mf_10_48 rfl rfl dX10_keepText_96 ?_
  refine kw_bipush C (6 : Int32) dX10_keepText_99 rfl ?_
  obtain ⟨σ21, hc20, hf⟩ := bV_elim hf
  refine kw_callSV C [.ref (g.2.1 0 27), .int (6 : Int32)] (kX10_copies_a10_27 L D g t0 (6 : Int32) σ19 _ hc20) mS_X10_234 ⟨rfl, rfl⟩ dd_X10_copies ⟨Nat.le_of_ble_eq_true rfl, Nat.le_of_ble_eq_true rfl⟩ rfl (Nat.le_of_ble_eq_true rfl) dX10_keepText_101 ?_
  refine kw_aload_n C dX10_keepText_104 rfl 0 rfl ?_
  refine kw_get C inG10 _ (hO10 g σ21) rfl 28 (Nat.le_of_ble_eq_true rfl) mf_10_51 rfl rfl dX10_keepText_105 ?_
  refine kw_bipush C (6 : Int32) dX10_keepText_108 rfl ?_
  obtain ⟨σ23, hc22, hf⟩ := bV_elim hf
  refine kw_callSV C [.ref (g.2.1 0 28), .int (6 : Int32)] (kX10_copies_a10_28 L D g t0 (6 : Int32) σ21 _ hc22) mS_X10_234 ⟨rfl, rfl⟩ dd_X10_copies ⟨Nat.le_of_ble_eq_true rfl, Nat.le_of_ble_eq_true rfl⟩ rfl (Nat.le_of_ble_eq_true rfl) dX10_keepText_110 ?_
  refine kw_iconst C (0 : Int32) dX10_keepText_113 rfl ?_
  refine kw_istore_n C dX10_keepText_114 rfl hN (Nat.le_of_ble_eq_true rfl) [(1, .int (0 : Int32)), (0, .ref (g.1 0))] rfl ?_
  refine kw_sub [1, 0] _ rfl ?_
  refine lpx2_walk (P := fun (x24 : Int32) (σ25 : St) => KW X σ25 115 [(0, .ref (g.1 0)), (1, .int x24)] []) ?_ FU _ _ hf
  intro self26 x24 σ25 ih27 hf
  refine kw_iload_n C dX10_keepText_115 rfl 1 rfl ?_
  refine kw_iconst C (3 : Int32) dX10_keepText_116 rfl ?_
  refine kw_icmp_ge C 140 dX10_keepText_117 rfl (fun c28 => ?_) (fun c28 => ?_)
  · have hf := if_p c28 hf
    refine kw_aload_n C dX10_keepText_140 rfl 0 rfl ?_
    refine kw_get C inG10 _ (hO10 g σ25) rfl 30 (Nat.le_of_ble_eq_true rfl) mf_10_57 rfl rfl dX10_keepText_141 ?_
    refine kw_iconst C (3 : Int32) dX10_keepText_144 rfl ?_
    obtain ⟨σ30, hc29, hf⟩ := bV_elim hf
    refine kw_callSV C [.ref (g.2.1 0 30), .int (3 : Int32)] (kX10_copies_a10_30 L D g t0 (3 : Int32) σ25 _ hc29) mS_X10_234 ⟨rfl, rfl⟩ dd_X10_copies ⟨Nat.le_of_ble_eq_true rfl, Nat.le_of_ble_eq_true rfl⟩ rfl (Nat.le_of_ble_eq_true rfl) dX10_keepText_145 ?_
    refine kw_aload_n C dX10_keepText_148 rfl 0 rfl ?_
    refine kw_get C inG10 _ (hO10 g σ30) rfl 31 (Nat.le_of_ble_eq_true rfl) mf_10_60 rfl rfl dX10_keepText_149 ?_
    refine kw_iconst C (3 : Int32) dX10_keepText_152 rfl ?_
    obtain ⟨σ32, hc31, hf⟩ := bV_elim hf
    refine kw_callSV C [.ref (g.2.1 0 31), .int (3 : Int32)] (kX10_copies_a10_31 L D g t0 (3 : Int32) σ30 _ hc31) mS_X10_234 ⟨rfl, rfl⟩ dd_X10_copies ⟨Nat.le_of_ble_eq_true rfl, Nat.le_of_ble_eq_true rfl⟩ rfl (Nat.le_of_ble_eq_true rfl) dX10_keepText_153 ?_
    refine kw_aload_n C dX10_keepText_156 rfl 0 rfl ?_
    refine kw_get C inG10 _ (hO10 g σ32) rfl 32 (Nat.le_of_ble_eq_true rfl) mf_10_63 rfl rfl dX10_keepText_157 ?_
    refine kw_bipush C (64 : Int32) dX10_keepText_160 rfl ?_
    obtain ⟨σ34, hc33, hf⟩ := bV_elim hf
    refine kw_callSV C [.ref (g.2.1 0 32), .int (64 : Int32)] (kX10_copies_a10_32 L D g t0 (64 : Int32) σ32 _ hc33) mS_X10_234 ⟨rfl, rfl⟩ dd_X10_copies ⟨Nat.le_of_ble_eq_true rfl, Nat.le_of_ble_eq_true rfl⟩ rfl (Nat.le_of_ble_eq_true rfl) dX10_keepText_162 ?_
    refine kw_aload_n C dX10_keepText_165 rfl 0 rfl ?_
    refine kw_get C inG10 _ (hO10 g σ34) rfl 33 (Nat.le_of_ble_eq_true rfl) mf_10_66 rfl rfl dX10_keepText_166 ?_
    refine kw_bipush C (64 : Int32) dX10_keepText_169 rfl ?_
    obtain ⟨σ36, hc35, hf⟩ := bV_elim hf
    refine kw_callSV C [.ref (g.2.1 0 33), .int (64 : Int32)] (kX10_copies_a10_33 L D g t0 (64 : Int32) σ34 _ hc35) mS_X10_234 ⟨rfl, rfl⟩ dd_X10_copies ⟨Nat.le_of_ble_eq_true rfl, Nat.le_of_ble_eq_true rfl⟩ rfl (Nat.le_of_ble_eq_true rfl) dX10_keepText_171 ?_
    refine kw_aload_n C dX10_keepText_174 rfl 0 rfl ?_
    refine kw_get C inG10 _ (hO10 g σ36) rfl 34 (Nat.le_of_ble_eq_true rfl) mf_10_69 rfl rfl dX10_keepText_175 ?_
    refine kw_bipush C (64 : Int32) dX10_keepText_178 rfl ?_
    obtain ⟨σ38, hc37, hf⟩ := bV_elim hf
    refine kw_callSV C [.ref (g.2.1 0 34), .int (64 : Int32)] (kX10_copies_a10_34 L D g t0 (64 : Int32) σ36 _ hc37) mS_X10_234 ⟨rfl, rfl⟩ dd_X10_copies ⟨Nat.le_of_ble_eq_true rfl, Nat.le_of_ble_eq_true rfl⟩ rfl (Nat.le_of_ble_eq_true rfl) dX10_keepText_180 ?_
    refine kw_aload_n C dX10_keepText_183 rfl 0 rfl ?_
    obtain ⟨σ40, hc39, hf⟩ := bV_elim hf
    refine kw_callVV C [] (kX10_begin L D g t0 σ38 _ hc39) RX10 mV_X10_238 ⟨rfl, rfl⟩ dd_X10_begin ⟨Nat.le_of_ble_eq_true rfl, Nat.le_of_ble_eq_true rfl⟩ _ (hO10 g σ38) rfl rfl rfl (Nat.le_of_ble_eq_true rfl) dX10_keepText_184 ?_
    exact kw_vret (u9 := ()) C K dX10_keepText_187 hf
  · have hf := if_n c28 hf
    refine kw_aload_n C dX10_keepText_120 rfl 0 rfl ?_
    refine kw_get C inG10 _ (hO10 g σ25) rfl 29 (Nat.le_of_ble_eq_true rfl) mf_10_54 rfl rfl dX10_keepText_121 ?_
    refine kw_iload_n C dX10_keepText_124 rfl 1 rfl ?_
    refine kw_aload_n C dX10_keepText_125 rfl 0 rfl ?_
    refine kw_get C inG10 _ (hO10 g σ25) rfl 29 (Nat.le_of_ble_eq_true rfl) mf_10_54 rfl rfl dX10_keepText_126 ?_
    refine kw_iconst C (3 : Int32) dX10_keepText_129 rfl ?_
    refine kw_iload_n C dX10_keepText_130 rfl 1 rfl ?_
    refine kw_iadd C dX10_keepText_131 ?_
    obtain ⟨h41, hf⟩ := gd_elim hf
    refine kw_zald C _ 3 (hA10_29 g σ25) rfl h41 dX10_keepText_132 ?_
    obtain ⟨h42, hf⟩ := gd_elim hf
    obtain ⟨σ43, eσ43, hf⟩ := lt_elim hf
    refine kw_zast C _ 3 (hA10_29 g σ25) rfl h42 ((hS10_29 g σ25 _).trans (congrArg (wM g) eσ43.symm)) dX10_keepText_133 ?_
    obtain ⟨x44, ex44, hf⟩ := lt_elim hf
    refine kw_iinc C x44 dX10_keepText_134 1 rfl ex44.symm hN (Nat.le_of_ble_eq_true rfl) [(1, .int x44), (0, .ref (g.1 0))] rfl ?_
    refine kw_goto C 115 dX10_keepText_137 rfl ?_
    refine kw_sub [1, 0] _ rfl ?_
    exact ih27 _ _ hf
set_option maxRecDepth 100000 in
set_option maxHeartbeats 4000000 in
theorem kX10_thrown (L : Launch) (D : va_G) (g : GwT) (t0 : Nat) (σ : St) (r0 : Int32) (hf : fX10_thrown σ  = some r0) : CtI L D (ttG g) (wM g) t0 yX10_thrown cX10_thrown 1 (some .int) { frames := 0, cells := 0, slots := 0, locals := 0 } [.ref (g.1 0)] σ r0 σ := by
  refine CtI.of (own := RX10) (by decide) rfl (Nat.le_of_ble_eq_true rfl) [(0, .ref (g.1 0))] rfl ?_
  intro X C hN K
  unfold fX10_thrown at hf
  refine kw_aload_n C dX10_thrown_0 rfl 0 rfl ?_
  refine kw_get C inG10 _ (hO10 g σ) rfl 2 (Nat.le_of_ble_eq_true rfl) mf_10_151 rfl rfl dX10_thrown_1 ?_
  exact kw_iret C K dX10_thrown_4 (pr_ret hf)
set_option maxRecDepth 100000 in
set_option maxHeartbeats 4000000 in
theorem kX10_feed (L : Launch) (D : va_G) (g : GwT) (t0 : Nat) (p0 : Int32) (p1 : Int32) (p2 : Int32) (p3 : Int32) (p4 : Int32) (σ : St) (r0 : Int32) (σ0 : St) (hf : fX10_feed σ p0 p1 p2 p3 p4 = some (r0, σ0)) : CtI L D (ttG g) (wM g) t0 yX10_feed cX10_feed 8 (some .int) { frames := 0, cells := 0, slots := 0, locals := 0 } [.ref (g.1 0), .int p0, .int p1, .int p2, .int p3, .int p4] σ r0 σ0 := by
  refine CtI.of (own := RX10) (by decide) rfl (Nat.le_of_ble_eq_true rfl) [(0, .ref (g.1 0)), (1, .int p0), (2, .int p1), (3, .int p2), (4, .int p3), (5, .int p4)] rfl ?_
  intro X C hN K
  unfold fX10_feed at hf
  refine kw_aload_n C dX10_feed_0 rfl 0 rfl ?_
  refine kw_iconst C (0 : Int32) dX10_feed_1 rfl ?_
  obtain ⟨σ1, eσ1, hf⟩ := lt_elim hf
  refine kw_put C inG10 tyX10 tyX10_ok nmX10 _ (hO10 g σ) rfl 2 (Nat.le_of_ble_eq_true rfl) mf_10_151 rfl rfl (tyX10_ok 2 (Nat.le_of_ble_eq_true rfl)) rfl rfl (Nat.le_of_ble_eq_true rfl) ((hF10_2 g σ _).trans (congrArg (wM g) eσ1.symm)) dX10_feed_2 ?_
  refine kw_aload_n C dX10_feed_5 rfl 0 rfl ?_
  refine kw_get C inG10 _ (hO10 g σ1) rfl 1 (Nat.le_of_ble_eq_true rfl) mf_10_154 rfl rfl dX10_feed_6 ?_
  refine kw_bipush C (20 : Int32) dX10_feed_9 rfl ?_
  refine kw_iadd C dX10_feed_11 ?_
  refine kw_sipush C (700 : Int32) dX10_feed_12 rfl ?_
  refine kw_icmp_le C 20 dX10_feed_15 rfl (fun c2 => ?_) (fun c2 => ?_)
  · have hf := if_p c2 hf
    refine kw_iconst C (0 : Int32) dX10_feed_20 rfl ?_
    refine kw_istore C dX10_feed_21 hN (Nat.le_of_ble_eq_true rfl) [(6, .int (0 : Int32)), (0, .ref (g.1 0)), (1, .int p0), (2, .int p1), (3, .int p2), (4, .int p3), (5, .int p4)] rfl ?_
    refine kw_sub [1, 2, 3, 4, 5, 6, 0] _ rfl ?_
    refine lpx2_walk (P := fun (x3 : Int32) (σ4 : St) => KW X σ4 23 [(0, .ref (g.1 0)), (1, .int p0), (2, .int p1), (3, .int p2), (4, .int p3), (5, .int p4), (6, .int x3)] []) ?_ FU _ _ hf
    intro self5 x3 σ4 ih6 hf
    refine kw_iload C dX10_feed_23 6 rfl ?_
    refine kw_bipush C (20 : Int32) dX10_feed_25 rfl ?_
    refine kw_icmp_ge C 113 dX10_feed_27 rfl (fun c7 => ?_) (fun c7 => ?_)
    · have hf := if_p c7 hf
      refine kw_aload_n C dX10_feed_113 rfl 0 rfl ?_
      refine kw_dup C dX10_feed_114 rfl ?_
      refine kw_get C inG10 _ (hO10 g σ4) rfl 1 (Nat.le_of_ble_eq_true rfl) mf_10_154 rfl rfl dX10_feed_115 ?_
      refine kw_bipush C (20 : Int32) dX10_feed_118 rfl ?_
      refine kw_iadd C dX10_feed_120 ?_
      obtain ⟨σ8, eσ8, hf⟩ := lt_elim hf
      refine kw_put C inG10 tyX10 tyX10_ok nmX10 _ (hO10 g σ4) rfl 1 (Nat.le_of_ble_eq_true rfl) mf_10_154 rfl rfl (tyX10_ok 1 (Nat.le_of_ble_eq_true rfl)) rfl rfl (Nat.le_of_ble_eq_true rfl) ((hF10_1 g σ4 _).trans (congrArg (wM g) eσ8.symm)) dX10_feed_121 ?_
      refine kw_aload_n C dX10_feed_124 rfl 0 rfl ?_
      refine kw_get C inG10 _ (hO10 g σ8) rfl 1 (Nat.le_of_ble_eq_true rfl) mf_10_154 rfl rfl dX10_feed_125 ?_
      exact kw_iret C K dX10_feed_128 hf
    · have hf := if_n c7 hf
      refine kw_iload C dX10_feed_30 6 rfl ?_
      refine kw_iconst C (4 : Int32) dX10_feed_32 rfl ?_
      obtain ⟨J10, hJ10, hf⟩ := jnx1_elim hf
      have kJ10 : ∀ (x9 : Int32), J10 x9 = some (r0, σ0) → KW X σ4 76 [(0, .ref (g.1 0)), (1, .int p0), (2, .int p1), (3, .int p2), (4, .int p3), (5, .int p4), (6, .int x3)] [.int x9] := by
        clear hf
        intro x9 hf
        have hf := (hJ10 x9).symm.trans hf
        refine kw_istore C dX10_feed_76 hN (Nat.le_of_ble_eq_true rfl) [(7, .int x9), (0, .ref (g.1 0)), (1, .int p0), (2, .int p1), (3, .int p2), (4, .int p3), (5, .int p4), (6, .int x3)] rfl ?_
        refine kw_aload_n C dX10_feed_78 rfl 1 rfl ?_
        refine kw_get C inG10 _ (hO10 g σ4) rfl 0 (Nat.le_of_ble_eq_true rfl) mf_10_7 rfl rfl dX10_feed_79 ?_
        refine kw_aload_n C dX10_feed_82 rfl 1 rfl ?_
        refine kw_get C inG10 _ (hO10 g σ4) rfl 1 (Nat.le_of_ble_eq_true rfl) mf_10_154 rfl rfl dX10_feed_83 ?_
        refine kw_iload C dX10_feed_86 7 rfl ?_
        refine kw_iadd C dX10_feed_88 ?_
        refine kw_iload C dX10_feed_89 0 rfl ?_
        refine kw_bipush C (24 : Int32) dX10_feed_91 rfl ?_
        refine kw_bipush C (8 : Int32) dX10_feed_93 rfl ?_
        refine kw_iload C dX10_feed_95 7 rfl ?_
        refine kw_iconst C (4 : Int32) dX10_feed_97 rfl ?_
        refine kw_irem C dX10_feed_98 (by decide) ?_
        refine kw_imul C dX10_feed_99 ?_
        refine kw_isub C dX10_feed_100 ?_
        refine kw_ishr C dX10_feed_101 ?_
        refine kw_sipush C (255 : Int32) dX10_feed_102 rfl ?_
        refine kw_iand C dX10_feed_105 ?_
        obtain ⟨h11, hf⟩ := gd_elim hf
        obtain ⟨σ12, eσ12, hf⟩ := lt_elim hf
        refine kw_iast C _ 0 (hA10_0 g σ4) rfl h11 ((hS10_0 g σ4 _).trans (congrArg (wM g) eσ12.symm)) dX10_feed_106 ?_
        obtain ⟨x13, ex13, hf⟩ := lt_elim hf
        refine kw_iinc C x13 dX10_feed_107 7 rfl ex13.symm hN (Nat.le_of_ble_eq_true rfl) [(6, .int x13), (7, .int x9), (0, .ref (g.1 0)), (1, .int p0), (2, .int p1), (3, .int p2), (4, .int p3), (5, .int p4)] rfl ?_
        refine kw_goto C 23 dX10_feed_110 rfl ?_
        refine kw_sub [2, 3, 4, 5, 6, 7, 0] _ rfl ?_
        exact ih6 _ _ hf
      refine kw_icmp_ge C 40 dX10_feed_33 rfl (fun c14 => ?_) (fun c14 => ?_)
      · have hf := if_p c14 hf
        refine kw_iload C dX10_feed_40 6 rfl ?_
        refine kw_bipush C (8 : Int32) dX10_feed_42 rfl ?_
        refine kw_icmp_ge C 51 dX10_feed_44 rfl (fun c15 => ?_) (fun c15 => ?_)
        · have hf := if_p c15 hf
          refine kw_iload C dX10_feed_51 6 rfl ?_
          refine kw_bipush C (12 : Int32) dX10_feed_53 rfl ?_
          refine kw_icmp_ge C 62 dX10_feed_55 rfl (fun c16 => ?_) (fun c16 => ?_)
          · have hf := if_p c16 hf
            refine kw_iload C dX10_feed_62 6 rfl ?_
            refine kw_bipush C (16 : Int32) dX10_feed_64 rfl ?_
            refine kw_icmp_ge C 74 dX10_feed_66 rfl (fun c17 => ?_) (fun c17 => ?_)
            · have hf := if_p c17 hf
              refine kw_iload C dX10_feed_74 5 rfl ?_
              exact kJ10 _ hf
            · have hf := if_n c17 hf
              refine kw_iload C dX10_feed_69 4 rfl ?_
              refine kw_goto C 76 dX10_feed_71 rfl ?_
              exact kJ10 _ hf
          · have hf := if_n c16 hf
            refine kw_iload_n C dX10_feed_58 rfl 3 rfl ?_
            refine kw_goto C 76 dX10_feed_59 rfl ?_
            exact kJ10 _ hf
        · have hf := if_n c15 hf
          refine kw_iload_n C dX10_feed_47 rfl 2 rfl ?_
          refine kw_goto C 76 dX10_feed_48 rfl ?_
          exact kJ10 _ hf
      · have hf := if_n c14 hf
        refine kw_iload_n C dX10_feed_36 rfl 1 rfl ?_
        refine kw_goto C 76 dX10_feed_37 rfl ?_
        exact kJ10 _ hf
  · have hf := if_n c2 hf
    refine kw_iconst C (-1 : Int32) dX10_feed_18 rfl ?_
    exact kw_iret C K dX10_feed_19 hf
set_option maxRecDepth 100000 in
set_option maxHeartbeats 4000000 in
theorem kX10_isSmall (L : Launch) (D : va_G) (g : GwT) (t0 : Nat) (p0 : Int32) (σ : St) (r0 : Int32) (hf : fX10_isSmall σ p0 = some r0) : CtI L D (ttG g) (wM g) t0 yX10_isSmall cX10_isSmall 2 (some .boolean) { frames := 0, cells := 0, slots := 0, locals := 0 } [.ref (g.1 0), .int p0] σ r0 σ := by
  refine CtI.of (own := RX10) (by decide) rfl (Nat.le_of_ble_eq_true rfl) [(0, .ref (g.1 0)), (1, .int p0)] rfl ?_
  intro X C hN K
  unfold fX10_isSmall at hf
  refine kw_iload_n C dX10_isSmall_0 rfl 1 rfl ?_
  refine kw_aload_n C dX10_isSmall_1 rfl 0 rfl ?_
  refine kw_get C inG10 _ (hO10 g σ) rfl 6 (Nat.le_of_ble_eq_true rfl) mf_10_163 rfl rfl dX10_isSmall_2 ?_
  obtain ⟨J2, hJ2, hf⟩ := jnx1_elim hf
  have kJ2 : ∀ (x1 : Int32), J2 x1 = some r0 → KW X σ 35 [] [.int x1] := by
    clear hf
    intro x1 hf
    have hf := (hJ2 x1).symm.trans hf
    obtain ⟨h3, hf⟩ := gd_elim hf
    exact kw_zret C K h3 dX10_isSmall_35 (pr_ret hf)
  obtain ⟨J4, hJ4, hf⟩ := jnx1_elim hf
  have kJ4 : ∀ (u9 : Unit), J4 u9 = some r0 → KW X σ 34 [] [] := by
    clear hf
    intro u9 hf
    have hf := (hJ4 u9).symm.trans hf
    refine kw_iconst C (0 : Int32) dX10_isSmall_34 rfl ?_
    exact kJ2 _ hf
  refine kw_icmp_ge C 34 dX10_isSmall_5 rfl (fun c5 => ?_) (fun c5 => ?_)
  · have hf := if_p c5 hf
    refine kw_sub [] _ rfl ?_
    exact kJ4 _ hf
  · have hf := if_n c5 hf
    refine kw_aload_n C dX10_isSmall_8 rfl 0 rfl ?_
    refine kw_get C inG10 _ (hO10 g σ) rfl 0 (Nat.le_of_ble_eq_true rfl) mf_10_7 rfl rfl dX10_isSmall_9 ?_
    refine kw_iload_n C dX10_isSmall_12 rfl 1 rfl ?_
    obtain ⟨h6, hf⟩ := gd_elim hf
    refine kw_iald C _ 0 (hA10_0 g σ) rfl h6 dX10_isSmall_13 ?_
    refine kw_bipush C (97 : Int32) dX10_isSmall_14 rfl ?_
    refine kw_icmp_lt C 34 dX10_isSmall_16 rfl (fun c7 => ?_) (fun c7 => ?_)
    · have hf := if_p c7 hf
      refine kw_sub [] _ rfl ?_
      exact kJ4 _ hf
    · have hf := if_n c7 hf
      refine kw_aload_n C dX10_isSmall_19 rfl 0 rfl ?_
      refine kw_get C inG10 _ (hO10 g σ) rfl 0 (Nat.le_of_ble_eq_true rfl) mf_10_7 rfl rfl dX10_isSmall_20 ?_
      refine kw_iload_n C dX10_isSmall_23 rfl 1 rfl ?_
      obtain ⟨h8, hf⟩ := gd_elim hf
      refine kw_iald C _ 0 (hA10_0 g σ) rfl h8 dX10_isSmall_24 ?_
      refine kw_bipush C (122 : Int32) dX10_isSmall_25 rfl ?_
      refine kw_icmp_gt C 34 dX10_isSmall_27 rfl (fun c9 => ?_) (fun c9 => ?_)
      · have hf := if_p c9 hf
        refine kw_sub [] _ rfl ?_
        exact kJ4 _ hf
      · have hf := if_n c9 hf
        refine kw_iconst C (1 : Int32) dX10_isSmall_30 rfl ?_
        refine kw_goto C 35 dX10_isSmall_31 rfl ?_
        refine kw_sub [] _ rfl ?_
        exact kJ2 _ hf
set_option maxRecDepth 100000 in
set_option maxHeartbeats 4000000 in
theorem kX10_wordAt (L : Launch) (D : va_G) (g : GwT) (t0 : Nat) (p0 : Int32) (p1 : Int32) (σ : St) (r0 : Int32) (hf : fX10_wordAt σ p0 p1 = some r0) : CtI L D (ttG g) (wM g) t0 yX10_wordAt cX10_wordAt 8 (some .int) { frames := 0, cells := 0, slots := 0, locals := 0 } [.ref (g.1 0), .int p0, .int p1] σ r0 σ := by
  refine CtI.of (own := RX10) (by decide) rfl (Nat.le_of_ble_eq_true rfl) [(0, .ref (g.1 0)), (1, .int p0), (2, .int p1)] rfl ?_
  intro X C hN K
  unfold fX10_wordAt at hf
  refine kw_iconst C (0 : Int32) dX10_wordAt_0 rfl ?_
  refine kw_istore_n C dX10_wordAt_1 rfl hN (Nat.le_of_ble_eq_true rfl) [(3, .int (0 : Int32)), (0, .ref (g.1 0)), (1, .int p0), (2, .int p1)] rfl ?_
  refine kw_iconst C (0 : Int32) dX10_wordAt_2 rfl ?_
  refine kw_istore C dX10_wordAt_3 hN (Nat.le_of_ble_eq_true rfl) [(4, .int (0 : Int32)), (3, .int (0 : Int32)), (0, .ref (g.1 0)), (1, .int p0), (2, .int p1)] rfl ?_
  refine kw_sub [2, 3, 4, 1, 0] _ rfl ?_
  refine lpx2_walk (P := fun (x1 : Int32) (x2 : Int32) => KW X σ 5 [(0, .ref (g.1 0)), (1, .int p0), (2, .int p1), (3, .int x1), (4, .int x2)] []) ?_ FU _ _ hf
  intro self3 x1 x2 ih4 hf
  refine kw_iload C dX10_wordAt_5 4 rfl ?_
  refine kw_aload_n C dX10_wordAt_7 rfl 0 rfl ?_
  refine kw_get C inG10 _ (hO10 g σ) rfl 3 (Nat.le_of_ble_eq_true rfl) mf_10_13 rfl rfl dX10_wordAt_8 ?_
  refine kw_alen C _ 0 (hA10_3 g σ) rfl (97 : Int32) rfl dX10_wordAt_11 ?_
  refine kw_icmp_ge C 126 dX10_wordAt_12 rfl (fun c5 => ?_) (fun c5 => ?_)
  · have hf := if_p c5 hf
    refine kw_iconst C (-1 : Int32) dX10_wordAt_126 rfl ?_
    exact kw_iret C K dX10_wordAt_127 (pr_ret hf)
  · have hf := if_n c5 hf
    refine kw_iconst C (0 : Int32) dX10_wordAt_15 rfl ?_
    refine kw_istore C dX10_wordAt_16 hN (Nat.le_of_ble_eq_true rfl) [(5, .int (0 : Int32)), (0, .ref (g.1 0)), (1, .int p0), (2, .int p1), (3, .int x1), (4, .int x2)] rfl ?_
    refine kw_sub [1, 2, 3, 4, 5, 0] _ rfl ?_
    refine lpx1_walk (P := fun (x6 : Int32) => KW X σ 18 [(0, .ref (g.1 0)), (1, .int p0), (2, .int p1), (3, .int x1), (4, .int x2), (5, .int x6)] []) ?_ FU _ hf
    intro self7 x6 ih8 hf
    refine kw_aload_n C dX10_wordAt_18 rfl 0 rfl ?_
    refine kw_get C inG10 _ (hO10 g σ) rfl 3 (Nat.le_of_ble_eq_true rfl) mf_10_13 rfl rfl dX10_wordAt_19 ?_
    refine kw_iload C dX10_wordAt_22 4 rfl ?_
    refine kw_iload C dX10_wordAt_24 5 rfl ?_
    refine kw_iadd C dX10_wordAt_26 ?_
    obtain ⟨h9, hf⟩ := gd_elim hf
    refine kw_iald C _ 0 (hA10_3 g σ) rfl h9 dX10_wordAt_27 ?_
    refine kw_bipush C (32 : Int32) dX10_wordAt_28 rfl ?_
    refine kw_icmp_eq C 39 dX10_wordAt_30 rfl (fun c10 => ?_) (fun c10 => ?_)
    · have hf := if_p c10 hf
      refine kw_iload C dX10_wordAt_39 5 rfl ?_
      refine kw_iload_n C dX10_wordAt_41 rfl 2 rfl ?_
      refine kw_iload_n C dX10_wordAt_42 rfl 1 rfl ?_
      refine kw_isub C dX10_wordAt_43 ?_
      obtain ⟨J12, hJ12, hf⟩ := jnx1_elim hf
      have kJ12 : ∀ (x11 : Int32), J12 x11 = some r0 → KW X σ 52 [(0, .ref (g.1 0)), (1, .int p0), (2, .int p1), (3, .int x1), (4, .int x2), (5, .int x6)] [.int x11] := by
        clear hf
        intro x11 hf
        have hf := (hJ12 x11).symm.trans hf
        refine kw_istore C dX10_wordAt_52 hN (Nat.le_of_ble_eq_true rfl) [(6, .int x11), (0, .ref (g.1 0)), (1, .int p0), (2, .int p1), (3, .int x1), (4, .int x2), (5, .int x6)] rfl ?_
        refine kw_iconst C (0 : Int32) dX10_wordAt_54 rfl ?_
        refine kw_istore C dX10_wordAt_55 hN (Nat.le_of_ble_eq_true rfl) [(7, .int (0 : Int32)), (6, .int x11), (0, .ref (g.1 0)), (1, .int p0), (2, .int p1), (3, .int x1), (4, .int x2), (5, .int x6)] rfl ?_
        refine kw_sub [2, 3, 4, 5, 6, 7, 1, 0] _ rfl ?_
        refine lpx2_walk (P := fun (x13 : Int32) (x14 : Int32) => KW X σ 57 [(0, .ref (g.1 0)), (1, .int p0), (2, .int p1), (3, .int x1), (4, .int x2), (5, .int x6), (6, .int x13), (7, .int x14)] []) ?_ FU _ _ hf
        intro self15 x13 x14 ih16 hf
        refine kw_iload C dX10_wordAt_57 7 rfl ?_
        refine kw_iload C dX10_wordAt_59 5 rfl ?_
        obtain ⟨J17, hJ17, hf⟩ := jnx1_elim hf
        have kJ17 : ∀ (u9 : Unit), J17 u9 = some r0 → KW X σ 104 [(0, .ref (g.1 0)), (1, .int p0), (2, .int p1), (3, .int x1), (4, .int x2), (5, .int x6), (6, .int x13)] [] := by
          clear hf
          intro u9 hf
          have hf := (hJ17 u9).symm.trans hf
          refine kw_iload C dX10_wordAt_104 6 rfl ?_
          refine kw_if_eq C 111 dX10_wordAt_106 rfl (fun c18 => ?_) (fun c18 => ?_)
          · have hf := if_p c18 hf
            refine kw_iload C dX10_wordAt_111 4 rfl ?_
            refine kw_iload C dX10_wordAt_113 5 rfl ?_
            refine kw_iconst C (1 : Int32) dX10_wordAt_115 rfl ?_
            refine kw_iadd C dX10_wordAt_116 ?_
            refine kw_iadd C dX10_wordAt_117 ?_
            obtain ⟨x19, ex19, hf⟩ := lt_elim hf
            refine kw_topi ex19 ?_
            refine kw_istore C dX10_wordAt_118 hN (Nat.le_of_ble_eq_true rfl) [(4, .int x19), (0, .ref (g.1 0)), (1, .int p0), (2, .int p1), (3, .int x1), (5, .int x6), (6, .int x13)] rfl ?_
            obtain ⟨x20, ex20, hf⟩ := lt_elim hf
            refine kw_iinc C x20 dX10_wordAt_120 4 rfl ex20.symm hN (Nat.le_of_ble_eq_true rfl) [(3, .int x20), (4, .int x19), (0, .ref (g.1 0)), (1, .int p0), (2, .int p1), (5, .int x6), (6, .int x13)] rfl ?_
            refine kw_goto C 5 dX10_wordAt_123 rfl ?_
            refine kw_sub [2, 3, 4, 0, 1] _ rfl ?_
            exact ih4 _ _ hf
          · have hf := if_n c18 hf
            refine kw_iload_n C dX10_wordAt_109 rfl 3 rfl ?_
            exact kw_iret C K dX10_wordAt_110 (pr_ret hf)
        refine kw_icmp_ge C 104 dX10_wordAt_61 rfl (fun c21 => ?_) (fun c21 => ?_)
        · have hf := if_p c21 hf
          refine kw_sub [0, 1, 2, 3, 4, 5, 6] _ rfl ?_
          exact kJ17 _ hf
        · have hf := if_n c21 hf
          refine kw_iload C dX10_wordAt_64 6 rfl ?_
          refine kw_if_eq C 104 dX10_wordAt_66 rfl (fun c22 => ?_) (fun c22 => ?_)
          · have hf := if_p c22 hf
            refine kw_sub [0, 1, 2, 3, 4, 5, 6] _ rfl ?_
            exact kJ17 _ hf
          · have hf := if_n c22 hf
            refine kw_aload_n C dX10_wordAt_69 rfl 0 rfl ?_
            refine kw_get C inG10 _ (hO10 g σ) rfl 3 (Nat.le_of_ble_eq_true rfl) mf_10_13 rfl rfl dX10_wordAt_70 ?_
            refine kw_iload C dX10_wordAt_73 4 rfl ?_
            refine kw_iload C dX10_wordAt_75 7 rfl ?_
            refine kw_iadd C dX10_wordAt_77 ?_
            obtain ⟨h23, hf⟩ := gd_elim hf
            refine kw_iald C _ 0 (hA10_3 g σ) rfl h23 dX10_wordAt_78 ?_
            refine kw_aload_n C dX10_wordAt_79 rfl 0 rfl ?_
            refine kw_get C inG10 _ (hO10 g σ) rfl 0 (Nat.le_of_ble_eq_true rfl) mf_10_7 rfl rfl dX10_wordAt_80 ?_
            refine kw_iload_n C dX10_wordAt_83 rfl 1 rfl ?_
            refine kw_iload C dX10_wordAt_84 7 rfl ?_
            refine kw_iadd C dX10_wordAt_86 ?_
            obtain ⟨h24, hf⟩ := gd_elim hf
            refine kw_iald C _ 0 (hA10_0 g σ) rfl h24 dX10_wordAt_87 ?_
            obtain ⟨J26, hJ26, hf⟩ := jnx1_elim hf
            have kJ26 : ∀ (x25 : Int32), J26 x25 = some r0 → KW X σ 96 [(0, .ref (g.1 0)), (1, .int p0), (2, .int p1), (3, .int x1), (4, .int x2), (5, .int x6), (7, .int x14)] [.int x25] := by
              clear hf
              intro x25 hf
              have hf := (hJ26 x25).symm.trans hf
              refine kw_istore C dX10_wordAt_96 hN (Nat.le_of_ble_eq_true rfl) [(6, .int x25), (0, .ref (g.1 0)), (1, .int p0), (2, .int p1), (3, .int x1), (4, .int x2), (5, .int x6), (7, .int x14)] rfl ?_
              obtain ⟨x27, ex27, hf⟩ := lt_elim hf
              refine kw_iinc C x27 dX10_wordAt_98 7 rfl ex27.symm hN (Nat.le_of_ble_eq_true rfl) [(7, .int x27), (6, .int x25), (0, .ref (g.1 0)), (1, .int p0), (2, .int p1), (3, .int x1), (4, .int x2), (5, .int x6)] rfl ?_
              refine kw_goto C 57 dX10_wordAt_101 rfl ?_
              refine kw_sub [2, 3, 4, 5, 6, 7, 1, 0] _ rfl ?_
              exact ih16 _ _ hf
            refine kw_icmp_ne C 95 dX10_wordAt_88 rfl (fun c28 => ?_) (fun c28 => ?_)
            · have hf := if_n c28 hf
              refine kw_iconst C (0 : Int32) dX10_wordAt_95 rfl ?_
              refine kw_sub [0, 1, 2, 3, 4, 5, 7] _ rfl ?_
              exact kJ26 _ hf
            · have hf := if_p c28 hf
              refine kw_iconst C (1 : Int32) dX10_wordAt_91 rfl ?_
              refine kw_goto C 96 dX10_wordAt_92 rfl ?_
              refine kw_sub [0, 1, 2, 3, 4, 5, 7] _ rfl ?_
              exact kJ26 _ hf
      refine kw_icmp_ne C 51 dX10_wordAt_44 rfl (fun c29 => ?_) (fun c29 => ?_)
      · have hf := if_n c29 hf
        refine kw_iconst C (0 : Int32) dX10_wordAt_51 rfl ?_
        exact kJ12 _ hf
      · have hf := if_p c29 hf
        refine kw_iconst C (1 : Int32) dX10_wordAt_47 rfl ?_
        refine kw_goto C 52 dX10_wordAt_48 rfl ?_
        exact kJ12 _ hf
    · have hf := if_n c10 hf
      obtain ⟨x30, ex30, hf⟩ := lt_elim hf
      refine kw_iinc C x30 dX10_wordAt_33 5 rfl ex30.symm hN (Nat.le_of_ble_eq_true rfl) [(5, .int x30), (0, .ref (g.1 0)), (1, .int p0), (2, .int p1), (3, .int x1), (4, .int x2)] rfl ?_
      refine kw_goto C 18 dX10_wordAt_36 rfl ?_
      refine kw_sub [1, 2, 3, 4, 5, 0] _ rfl ?_
      exact ih8 _ hf
set_option maxRecDepth 100000 in
set_option maxHeartbeats 4000000 in
theorem kX10_packed (L : Launch) (D : va_G) (g : GwT) (t0 : Nat) (p0 : Int32) (p1 : Int32) (σ : St) (r0 : Int32) (hf : fX10_packed σ p0 p1 = some r0) : CtI L D (ttG g) (wM g) t0 yX10_packed cX10_packed 5 (some .int) { frames := 0, cells := 0, slots := 0, locals := 0 } [.ref (g.1 0), .int p0, .int p1] σ r0 σ := by
  refine CtI.of (own := RX10) (by decide) rfl (Nat.le_of_ble_eq_true rfl) [(0, .ref (g.1 0)), (1, .int p0), (2, .int p1)] rfl ?_
  intro X C hN K
  unfold fX10_packed at hf
  refine kw_iconst C (0 : Int32) dX10_packed_0 rfl ?_
  refine kw_istore_n C dX10_packed_1 rfl hN (Nat.le_of_ble_eq_true rfl) [(3, .int (0 : Int32)), (0, .ref (g.1 0)), (1, .int p0), (2, .int p1)] rfl ?_
  refine kw_iload_n C dX10_packed_2 rfl 2 rfl ?_
  refine kw_istore C dX10_packed_3 hN (Nat.le_of_ble_eq_true rfl) [(4, .int p0), (3, .int (0 : Int32)), (0, .ref (g.1 0)), (1, .int p0), (2, .int p1)] rfl ?_
  refine kw_sub [2, 3, 4, 1, 0] _ rfl ?_
  refine lpx2_walk (P := fun (x1 : Int32) (x2 : Int32) => KW X σ 5 [(0, .ref (g.1 0)), (1, .int p0), (2, .int p1), (3, .int x1), (4, .int x2)] []) ?_ FU _ _ hf
  intro self3 x1 x2 ih4 hf
  refine kw_iload C dX10_packed_5 4 rfl ?_
  refine kw_iload_n C dX10_packed_7 rfl 1 rfl ?_
  refine kw_bipush C (6 : Int32) dX10_packed_8 rfl ?_
  refine kw_iadd C dX10_packed_10 ?_
  refine kw_icmp_ge C 45 dX10_packed_11 rfl (fun c5 => ?_) (fun c5 => ?_)
  · have hf := if_p c5 hf
    refine kw_iload_n C dX10_packed_45 rfl 3 rfl ?_
    exact kw_iret C K dX10_packed_46 (pr_ret hf)
  · have hf := if_n c5 hf
    refine kw_iload_n C dX10_packed_14 rfl 3 rfl ?_
    refine kw_iconst C (5 : Int32) dX10_packed_15 rfl ?_
    refine kw_ishl C dX10_packed_16 ?_
    refine kw_iload C dX10_packed_17 4 rfl ?_
    refine kw_iload_n C dX10_packed_19 rfl 2 rfl ?_
    obtain ⟨J7, hJ7, hf⟩ := jnx1_elim hf
    have kJ7 : ∀ (x6 : Int32), J7 x6 = some r0 → KW X σ 37 [(0, .ref (g.1 0)), (1, .int p0), (2, .int p1), (4, .int x2)] [.int x6, .int (x1 <<< ((5 : Int32) &&& 31))] := by
      clear hf
      intro x6 hf
      have hf := (hJ7 x6).symm.trans hf
      refine kw_ior C dX10_packed_37 ?_
      obtain ⟨x8, ex8, hf⟩ := lt_elim hf
      refine kw_topi ex8 ?_
      refine kw_istore_n C dX10_packed_38 rfl hN (Nat.le_of_ble_eq_true rfl) [(3, .int x8), (0, .ref (g.1 0)), (1, .int p0), (2, .int p1), (4, .int x2)] rfl ?_
      obtain ⟨x9, ex9, hf⟩ := lt_elim hf
      refine kw_iinc C x9 dX10_packed_39 4 rfl ex9.symm hN (Nat.le_of_ble_eq_true rfl) [(4, .int x9), (3, .int x8), (0, .ref (g.1 0)), (1, .int p0), (2, .int p1)] rfl ?_
      refine kw_goto C 5 dX10_packed_42 rfl ?_
      refine kw_sub [2, 3, 4, 1, 0] _ rfl ?_
      exact ih4 _ _ hf
    refine kw_icmp_ge C 36 dX10_packed_20 rfl (fun c10 => ?_) (fun c10 => ?_)
    · have hf := if_p c10 hf
      refine kw_iconst C (0 : Int32) dX10_packed_36 rfl ?_
      refine kw_sub [0, 1, 2, 4] _ rfl ?_
      exact kJ7 _ hf
    · have hf := if_n c10 hf
      refine kw_aload_n C dX10_packed_23 rfl 0 rfl ?_
      refine kw_get C inG10 _ (hO10 g σ) rfl 0 (Nat.le_of_ble_eq_true rfl) mf_10_7 rfl rfl dX10_packed_24 ?_
      refine kw_iload C dX10_packed_27 4 rfl ?_
      obtain ⟨h11, hf⟩ := gd_elim hf
      refine kw_iald C _ 0 (hA10_0 g σ) rfl h11 dX10_packed_29 ?_
      refine kw_bipush C (96 : Int32) dX10_packed_30 rfl ?_
      refine kw_isub C dX10_packed_32 ?_
      refine kw_goto C 37 dX10_packed_33 rfl ?_
      refine kw_sub [0, 1, 2, 4] _ rfl ?_
      exact kJ7 _ hf
set_option maxRecDepth 100000 in
set_option maxHeartbeats 4000000 in
theorem kX10_isDigit (L : Launch) (D : va_G) (g : GwT) (t0 : Nat) (p0 : Int32) (σ : St) (r0 : Int32) (hf : fX10_isDigit σ p0 = some r0) : CtI L D (ttG g) (wM g) t0 yX10_isDigit cX10_isDigit 2 (some .boolean) { frames := 0, cells := 0, slots := 0, locals := 0 } [.ref (g.1 0), .int p0] σ r0 σ := by
  refine CtI.of (own := RX10) (by decide) rfl (Nat.le_of_ble_eq_true rfl) [(0, .ref (g.1 0)), (1, .int p0)] rfl ?_
  intro X C hN K
  unfold fX10_isDigit at hf
  refine kw_iload_n C dX10_isDigit_0 rfl 1 rfl ?_
  refine kw_aload_n C dX10_isDigit_1 rfl 0 rfl ?_
  refine kw_get C inG10 _ (hO10 g σ) rfl 6 (Nat.le_of_ble_eq_true rfl) mf_10_163 rfl rfl dX10_isDigit_2 ?_
  obtain ⟨J2, hJ2, hf⟩ := jnx1_elim hf
  have kJ2 : ∀ (x1 : Int32), J2 x1 = some r0 → KW X σ 35 [] [.int x1] := by
    clear hf
    intro x1 hf
    have hf := (hJ2 x1).symm.trans hf
    obtain ⟨h3, hf⟩ := gd_elim hf
    exact kw_zret C K h3 dX10_isDigit_35 (pr_ret hf)
  obtain ⟨J4, hJ4, hf⟩ := jnx1_elim hf
  have kJ4 : ∀ (u9 : Unit), J4 u9 = some r0 → KW X σ 34 [] [] := by
    clear hf
    intro u9 hf
    have hf := (hJ4 u9).symm.trans hf
    refine kw_iconst C (0 : Int32) dX10_isDigit_34 rfl ?_
    exact kJ2 _ hf
  refine kw_icmp_ge C 34 dX10_isDigit_5 rfl (fun c5 => ?_) (fun c5 => ?_)
  · have hf := if_p c5 hf
    refine kw_sub [] _ rfl ?_
    exact kJ4 _ hf
  · have hf := if_n c5 hf
    refine kw_aload_n C dX10_isDigit_8 rfl 0 rfl ?_
    refine kw_get C inG10 _ (hO10 g σ) rfl 0 (Nat.le_of_ble_eq_true rfl) mf_10_7 rfl rfl dX10_isDigit_9 ?_
    refine kw_iload_n C dX10_isDigit_12 rfl 1 rfl ?_
    obtain ⟨h6, hf⟩ := gd_elim hf
    refine kw_iald C _ 0 (hA10_0 g σ) rfl h6 dX10_isDigit_13 ?_
    refine kw_bipush C (48 : Int32) dX10_isDigit_14 rfl ?_
    refine kw_icmp_lt C 34 dX10_isDigit_16 rfl (fun c7 => ?_) (fun c7 => ?_)
    · have hf := if_p c7 hf
      refine kw_sub [] _ rfl ?_
      exact kJ4 _ hf
    · have hf := if_n c7 hf
      refine kw_aload_n C dX10_isDigit_19 rfl 0 rfl ?_
      refine kw_get C inG10 _ (hO10 g σ) rfl 0 (Nat.le_of_ble_eq_true rfl) mf_10_7 rfl rfl dX10_isDigit_20 ?_
      refine kw_iload_n C dX10_isDigit_23 rfl 1 rfl ?_
      obtain ⟨h8, hf⟩ := gd_elim hf
      refine kw_iald C _ 0 (hA10_0 g σ) rfl h8 dX10_isDigit_24 ?_
      refine kw_bipush C (57 : Int32) dX10_isDigit_25 rfl ?_
      refine kw_icmp_gt C 34 dX10_isDigit_27 rfl (fun c9 => ?_) (fun c9 => ?_)
      · have hf := if_p c9 hf
        refine kw_sub [] _ rfl ?_
        exact kJ4 _ hf
      · have hf := if_n c9 hf
        refine kw_iconst C (1 : Int32) dX10_isDigit_30 rfl ?_
        refine kw_goto C 35 dX10_isDigit_31 rfl ?_
        refine kw_sub [] _ rfl ?_
        exact kJ2 _ hf
set_option maxRecDepth 100000 in
set_option maxHeartbeats 4000000 in
theorem kX10_signToken (L : Launch) (D : va_G) (g : GwT) (t0 : Nat) (σ : St) (σ0 : St) (hf : fX10_signToken σ  = some σ0) : CtV L D (ttG g) (wM g) t0 yX10_signToken cX10_signToken 4 none { frames := 0, cells := 0, slots := 0, locals := 0 } [.ref (g.1 0)] σ σ0 := by
  refine CtV.of (own := RX10) (by decide) rfl (Nat.le_of_ble_eq_true rfl) [(0, .ref (g.1 0))] rfl ?_
  intro X C hN K
  unfold fX10_signToken at hf
  refine kw_aload_n C dX10_signToken_0 rfl 0 rfl ?_
  refine kw_aload_n C dX10_signToken_1 rfl 0 rfl ?_
  refine kw_get C inG10 _ (hO10 g σ) rfl 0 (Nat.le_of_ble_eq_true rfl) mf_10_7 rfl rfl dX10_signToken_2 ?_
  refine kw_aload_n C dX10_signToken_5 rfl 0 rfl ?_
  refine kw_get C inG10 _ (hO10 g σ) rfl 7 (Nat.le_of_ble_eq_true rfl) mf_10_166 rfl rfl dX10_signToken_6 ?_
  obtain ⟨h1, hf⟩ := gd_elim hf
  refine kw_iald C _ 0 (hA10_0 g σ) rfl h1 dX10_signToken_9 ?_
  obtain ⟨σ2, eσ2, hf⟩ := lt_elim hf
  refine kw_put C inG10 tyX10 tyX10_ok nmX10 _ (hO10 g σ) rfl 9 (Nat.le_of_ble_eq_true rfl) mf_10_180 rfl rfl (tyX10_ok 9 (Nat.le_of_ble_eq_true rfl)) rfl rfl (Nat.le_of_ble_eq_true rfl) ((hF10_9 g σ _).trans (congrArg (wM g) eσ2.symm)) dX10_signToken_10 ?_
  refine kw_aload_n C dX10_signToken_13 rfl 0 rfl ?_
  refine kw_dup C dX10_signToken_14 rfl ?_
  refine kw_get C inG10 _ (hO10 g σ2) rfl 7 (Nat.le_of_ble_eq_true rfl) mf_10_166 rfl rfl dX10_signToken_15 ?_
  refine kw_iconst C (1 : Int32) dX10_signToken_18 rfl ?_
  refine kw_iadd C dX10_signToken_19 ?_
  obtain ⟨σ3, eσ3, hf⟩ := lt_elim hf
  refine kw_put C inG10 tyX10 tyX10_ok nmX10 _ (hO10 g σ2) rfl 7 (Nat.le_of_ble_eq_true rfl) mf_10_166 rfl rfl (tyX10_ok 7 (Nat.le_of_ble_eq_true rfl)) rfl rfl (Nat.le_of_ble_eq_true rfl) ((hF10_7 g σ2 _).trans (congrArg (wM g) eσ3.symm)) dX10_signToken_20 ?_
  refine kw_aload_n C dX10_signToken_23 rfl 0 rfl ?_
  refine kw_get C inG10 _ (hO10 g σ3) rfl 9 (Nat.le_of_ble_eq_true rfl) mf_10_180 rfl rfl dX10_signToken_24 ?_
  refine kw_bipush C (60 : Int32) dX10_signToken_27 rfl ?_
  obtain ⟨J5, hJ5, hf⟩ := jnx1_elim hf
  have kJ5 : ∀ (σ4 : St), J5 σ4 = some σ0 → KW X σ4 290 [] [] := by
    clear hf
    intro σ4 hf
    have hf := (hJ5 σ4).symm.trans hf
    exact kw_vret (u9 := ()) C K dX10_signToken_290 hf
  obtain ⟨J6, hJ6, hf⟩ := jnx1_elim hf
  have kJ6 : ∀ (u9 : Unit), J6 u9 = some σ0 → KW X σ3 50 [(0, .ref (g.1 0))] [] := by
    clear hf
    intro u9 hf
    have hf := (hJ6 u9).symm.trans hf
    refine kw_aload_n C dX10_signToken_50 rfl 0 rfl ?_
    refine kw_get C inG10 _ (hO10 g σ3) rfl 7 (Nat.le_of_ble_eq_true rfl) mf_10_166 rfl rfl dX10_signToken_51 ?_
    refine kw_aload_n C dX10_signToken_54 rfl 0 rfl ?_
    refine kw_get C inG10 _ (hO10 g σ3) rfl 6 (Nat.le_of_ble_eq_true rfl) mf_10_163 rfl rfl dX10_signToken_55 ?_
    obtain ⟨J8, hJ8, hf⟩ := jnx1_elim hf
    have kJ8 : ∀ (x7 : Int32), J8 x7 = some σ0 → KW X σ3 74 [(0, .ref (g.1 0))] [.int x7] := by
      clear hf
      intro x7 hf
      have hf := (hJ8 x7).symm.trans hf
      refine kw_istore_n C dX10_signToken_74 rfl hN (Nat.le_of_ble_eq_true rfl) [(1, .int x7), (0, .ref (g.1 0))] rfl ?_
      refine kw_aload_n C dX10_signToken_75 rfl 1 rfl ?_
      refine kw_get C inG10 _ (hO10 g σ3) rfl 9 (Nat.le_of_ble_eq_true rfl) mf_10_180 rfl rfl dX10_signToken_76 ?_
      refine kw_bipush C (61 : Int32) dX10_signToken_79 rfl ?_
      obtain ⟨J10, hJ10, hf⟩ := jnx1_elim hf
      have kJ10 : ∀ (x9 : Int32), J10 x9 = some σ0 → KW X σ3 95 [(0, .ref (g.1 0)), (1, .int x7)] [.int x9] := by
        clear hf
        intro x9 hf
        have hf := (hJ10 x9).symm.trans hf
        refine kw_istore_n C dX10_signToken_95 rfl hN (Nat.le_of_ble_eq_true rfl) [(2, .int x9), (0, .ref (g.1 0)), (1, .int x7)] rfl ?_
        refine kw_aload_n C dX10_signToken_96 rfl 1 rfl ?_
        refine kw_get C inG10 _ (hO10 g σ3) rfl 9 (Nat.le_of_ble_eq_true rfl) mf_10_180 rfl rfl dX10_signToken_97 ?_
        refine kw_bipush C (60 : Int32) dX10_signToken_100 rfl ?_
        obtain ⟨J12, hJ12, hf⟩ := jnx1_elim hf
        have kJ12 : ∀ (x11 : Int32), J12 x11 = some σ0 → KW X σ3 116 [(0, .ref (g.1 0)), (2, .int x9)] [.int x11] := by
          clear hf
          intro x11 hf
          have hf := (hJ12 x11).symm.trans hf
          refine kw_istore_n C dX10_signToken_116 rfl hN (Nat.le_of_ble_eq_true rfl) [(3, .int x11), (0, .ref (g.1 0)), (2, .int x9)] rfl ?_
          refine kw_iload_n C dX10_signToken_117 rfl 2 rfl ?_
          obtain ⟨J14, hJ14, hf⟩ := jnx1_elim hf
          have kJ14 : ∀ (σ13 : St), J14 σ13 = some σ0 → KW X σ13 135 [(0, .ref (g.1 0)), (2, .int x9), (3, .int x11)] [] := by
            clear hf
            intro σ13 hf
            have hf := (hJ14 σ13).symm.trans hf
            refine kw_aload_n C dX10_signToken_135 rfl 0 rfl ?_
            refine kw_iconst C (5 : Int32) dX10_signToken_136 rfl ?_
            obtain ⟨σ15, eσ15, hf⟩ := lt_elim hf
            refine kw_put C inG10 tyX10 tyX10_ok nmX10 _ (hO10 g σ13) rfl 8 (Nat.le_of_ble_eq_true rfl) mf_10_169 rfl rfl (tyX10_ok 8 (Nat.le_of_ble_eq_true rfl)) rfl rfl (Nat.le_of_ble_eq_true rfl) ((hF10_8 g σ13 _).trans (congrArg (wM g) eσ15.symm)) dX10_signToken_137 ?_
            refine kw_aload_n C dX10_signToken_140 rfl 0 rfl ?_
            refine kw_aload_n C dX10_signToken_141 rfl 0 rfl ?_
            refine kw_get C inG10 _ (hO10 g σ15) rfl 9 (Nat.le_of_ble_eq_true rfl) mf_10_180 rfl rfl dX10_signToken_142 ?_
            refine kw_bipush C (61 : Int32) dX10_signToken_145 rfl ?_
            obtain ⟨J17, hJ17, hf⟩ := jnx1_elim hf
            have kJ17 : ∀ (x16 : Int32), J17 x16 = some σ0 → KW X σ15 192 [] [.int x16, .ref (g.1 0)] := by
              clear hf
              intro x16 hf
              have hf := (hJ17 x16).symm.trans hf
              obtain ⟨σ18, eσ18, hf⟩ := lt_elim hf
              refine kw_put C inG10 tyX10 tyX10_ok nmX10 _ (hO10 g σ15) rfl 9 (Nat.le_of_ble_eq_true rfl) mf_10_180 rfl rfl (tyX10_ok 9 (Nat.le_of_ble_eq_true rfl)) rfl rfl (Nat.le_of_ble_eq_true rfl) ((hF10_9 g σ15 _).trans (congrArg (wM g) eσ18.symm)) dX10_signToken_192 ?_
              refine kw_goto C 290 dX10_signToken_195 rfl ?_
              exact kJ5 _ hf
            refine kw_icmp_ne C 154 dX10_signToken_147 rfl (fun c19 => ?_) (fun c19 => ?_)
            · have hf := if_n c19 hf
              refine kw_aload_n C dX10_signToken_154 rfl 0 rfl ?_
              refine kw_get C inG10 _ (hO10 g σ15) rfl 9 (Nat.le_of_ble_eq_true rfl) mf_10_180 rfl rfl dX10_signToken_155 ?_
              refine kw_bipush C (60 : Int32) dX10_signToken_158 rfl ?_
              refine kw_icmp_ne C 183 dX10_signToken_160 rfl (fun c20 => ?_) (fun c20 => ?_)
              · have hf := if_n c20 hf
                refine kw_iload_n C dX10_signToken_183 rfl 1 rfl ?_
                refine kw_if_eq C 191 dX10_signToken_184 rfl (fun c21 => ?_) (fun c21 => ?_)
                · have hf := if_p c21 hf
                  refine kw_iconst C (5 : Int32) dX10_signToken_191 rfl ?_
                  refine kw_sub [] _ rfl ?_
                  exact kJ17 _ hf
                · have hf := if_n c21 hf
                  refine kw_iconst C (4 : Int32) dX10_signToken_187 rfl ?_
                  refine kw_goto C 192 dX10_signToken_188 rfl ?_
                  refine kw_sub [] _ rfl ?_
                  exact kJ17 _ hf
              · have hf := if_p c20 hf
                refine kw_iload_n C dX10_signToken_163 rfl 1 rfl ?_
                refine kw_if_eq C 171 dX10_signToken_164 rfl (fun c22 => ?_) (fun c22 => ?_)
                · have hf := if_p c22 hf
                  refine kw_iload_n C dX10_signToken_171 rfl 2 rfl ?_
                  refine kw_if_eq C 179 dX10_signToken_172 rfl (fun c23 => ?_) (fun c23 => ?_)
                  · have hf := if_p c23 hf
                    refine kw_iconst C (0 : Int32) dX10_signToken_179 rfl ?_
                    refine kw_goto C 192 dX10_signToken_180 rfl ?_
                    refine kw_sub [] _ rfl ?_
                    exact kJ17 _ hf
                  · have hf := if_n c23 hf
                    refine kw_iconst C (3 : Int32) dX10_signToken_175 rfl ?_
                    refine kw_goto C 192 dX10_signToken_176 rfl ?_
                    refine kw_sub [] _ rfl ?_
                    exact kJ17 _ hf
                · have hf := if_n c22 hf
                  refine kw_iconst C (1 : Int32) dX10_signToken_167 rfl ?_
                  refine kw_goto C 192 dX10_signToken_168 rfl ?_
                  refine kw_sub [] _ rfl ?_
                  exact kJ17 _ hf
            · have hf := if_p c19 hf
              refine kw_iconst C (2 : Int32) dX10_signToken_150 rfl ?_
              refine kw_goto C 192 dX10_signToken_151 rfl ?_
              refine kw_sub [] _ rfl ?_
              exact kJ17 _ hf
          obtain ⟨J24, hJ24, hf⟩ := jnx1_elim hf
          have kJ24 : ∀ (u9 : Unit), J24 u9 = some σ0 → KW X σ3 125 [(0, .ref (g.1 0)), (2, .int x9), (3, .int x11)] [] := by
            clear hf
            intro u9 hf
            have hf := (hJ24 u9).symm.trans hf
            refine kw_aload_n C dX10_signToken_125 rfl 0 rfl ?_
            refine kw_dup C dX10_signToken_126 rfl ?_
            refine kw_get C inG10 _ (hO10 g σ3) rfl 7 (Nat.le_of_ble_eq_true rfl) mf_10_166 rfl rfl dX10_signToken_127 ?_
            refine kw_iconst C (1 : Int32) dX10_signToken_130 rfl ?_
            refine kw_iadd C dX10_signToken_131 ?_
            obtain ⟨σ25, eσ25, hf⟩ := lt_elim hf
            refine kw_put C inG10 tyX10 tyX10_ok nmX10 _ (hO10 g σ3) rfl 7 (Nat.le_of_ble_eq_true rfl) mf_10_166 rfl rfl (tyX10_ok 7 (Nat.le_of_ble_eq_true rfl)) rfl rfl (Nat.le_of_ble_eq_true rfl) ((hF10_7 g σ3 _).trans (congrArg (wM g) eσ25.symm)) dX10_signToken_132 ?_
            exact kJ14 _ hf
          refine kw_if_ne C 125 dX10_signToken_118 rfl (fun c26 => ?_) (fun c26 => ?_)
          · have hf := if_n c26 hf
            refine kw_sub [1, 2, 0] _ rfl ?_
            exact kJ24 _ hf
          · have hf := if_p c26 hf
            refine kw_iload_n C dX10_signToken_121 rfl 0 rfl ?_
            refine kw_if_eq C 135 dX10_signToken_122 rfl (fun c27 => ?_) (fun c27 => ?_)
            · have hf := if_p c27 hf
              refine kw_sub [1, 2, 0] _ rfl ?_
              exact kJ14 _ hf
            · have hf := if_n c27 hf
              refine kw_sub [1, 2, 0] _ rfl ?_
              exact kJ24 _ hf
        obtain ⟨J28, hJ28, hf⟩ := jnx1_elim hf
        have kJ28 : ∀ (u9 : Unit), J28 u9 = some σ0 → KW X σ3 115 [(0, .ref (g.1 0)), (2, .int x9)] [] := by
          clear hf
          intro u9 hf
          have hf := (hJ28 u9).symm.trans hf
          refine kw_iconst C (0 : Int32) dX10_signToken_115 rfl ?_
          exact kJ12 _ hf
        refine kw_icmp_ne C 115 dX10_signToken_102 rfl (fun c29 => ?_) (fun c29 => ?_)
        · have hf := if_n c29 hf
          refine kw_sub [1, 0] _ rfl ?_
          exact kJ28 _ hf
        · have hf := if_p c29 hf
          refine kw_iload_n C dX10_signToken_105 rfl 2 rfl ?_
          refine kw_bipush C (62 : Int32) dX10_signToken_106 rfl ?_
          refine kw_icmp_ne C 115 dX10_signToken_108 rfl (fun c30 => ?_) (fun c30 => ?_)
          · have hf := if_n c30 hf
            refine kw_sub [1, 0] _ rfl ?_
            exact kJ28 _ hf
          · have hf := if_p c30 hf
            refine kw_iconst C (1 : Int32) dX10_signToken_111 rfl ?_
            refine kw_goto C 116 dX10_signToken_112 rfl ?_
            refine kw_sub [1, 0] _ rfl ?_
            exact kJ12 _ hf
      obtain ⟨J31, hJ31, hf⟩ := jnx1_elim hf
      have kJ31 : ∀ (u9 : Unit), J31 u9 = some σ0 → KW X σ3 94 [(0, .ref (g.1 0)), (1, .int x7)] [] := by
        clear hf
        intro u9 hf
        have hf := (hJ31 u9).symm.trans hf
        refine kw_iconst C (0 : Int32) dX10_signToken_94 rfl ?_
        exact kJ10 _ hf
      refine kw_icmp_eq C 94 dX10_signToken_81 rfl (fun c32 => ?_) (fun c32 => ?_)
      · have hf := if_p c32 hf
        refine kw_sub [1, 0] _ rfl ?_
        exact kJ31 _ hf
      · have hf := if_n c32 hf
        refine kw_iload_n C dX10_signToken_84 rfl 0 rfl ?_
        refine kw_bipush C (61 : Int32) dX10_signToken_85 rfl ?_
        refine kw_icmp_ne C 94 dX10_signToken_87 rfl (fun c33 => ?_) (fun c33 => ?_)
        · have hf := if_n c33 hf
          refine kw_sub [1, 0] _ rfl ?_
          exact kJ31 _ hf
        · have hf := if_p c33 hf
          refine kw_iconst C (1 : Int32) dX10_signToken_90 rfl ?_
          refine kw_goto C 95 dX10_signToken_91 rfl ?_
          refine kw_sub [1, 0] _ rfl ?_
          exact kJ10 _ hf
    refine kw_icmp_ge C 73 dX10_signToken_58 rfl (fun c34 => ?_) (fun c34 => ?_)
    · have hf := if_p c34 hf
      refine kw_iconst C (0 : Int32) dX10_signToken_73 rfl ?_
      exact kJ8 _ hf
    · have hf := if_n c34 hf
      refine kw_aload_n C dX10_signToken_61 rfl 0 rfl ?_
      refine kw_get C inG10 _ (hO10 g σ3) rfl 0 (Nat.le_of_ble_eq_true rfl) mf_10_7 rfl rfl dX10_signToken_62 ?_
      refine kw_aload_n C dX10_signToken_65 rfl 0 rfl ?_
      refine kw_get C inG10 _ (hO10 g σ3) rfl 7 (Nat.le_of_ble_eq_true rfl) mf_10_166 rfl rfl dX10_signToken_66 ?_
      obtain ⟨h35, hf⟩ := gd_elim hf
      refine kw_iald C _ 0 (hA10_0 g σ3) rfl h35 dX10_signToken_69 ?_
      refine kw_goto C 74 dX10_signToken_70 rfl ?_
      exact kJ8 _ hf
  refine kw_icmp_eq C 50 dX10_signToken_29 rfl (fun c36 => ?_) (fun c36 => ?_)
  · have hf := if_p c36 hf
    exact kJ6 _ hf
  · have hf := if_n c36 hf
    refine kw_aload_n C dX10_signToken_32 rfl 0 rfl ?_
    refine kw_get C inG10 _ (hO10 g σ3) rfl 9 (Nat.le_of_ble_eq_true rfl) mf_10_180 rfl rfl dX10_signToken_33 ?_
    refine kw_bipush C (62 : Int32) dX10_signToken_36 rfl ?_
    refine kw_icmp_eq C 50 dX10_signToken_38 rfl (fun c37 => ?_) (fun c37 => ?_)
    · have hf := if_p c37 hf
      exact kJ6 _ hf
    · have hf := if_n c37 hf
      refine kw_aload_n C dX10_signToken_41 rfl 0 rfl ?_
      refine kw_get C inG10 _ (hO10 g σ3) rfl 9 (Nat.le_of_ble_eq_true rfl) mf_10_180 rfl rfl dX10_signToken_42 ?_
      refine kw_bipush C (61 : Int32) dX10_signToken_45 rfl ?_
      refine kw_icmp_ne C 198 dX10_signToken_47 rfl (fun c38 => ?_) (fun c38 => ?_)
      · have hf := if_n c38 hf
        refine kw_aload_n C dX10_signToken_198 rfl 0 rfl ?_
        refine kw_get C inG10 _ (hO10 g σ3) rfl 9 (Nat.le_of_ble_eq_true rfl) mf_10_180 rfl rfl dX10_signToken_199 ?_
        refine kw_bipush C (59 : Int32) dX10_signToken_202 rfl ?_
        obtain ⟨J40, hJ40, hf⟩ := jnx1_elim hf
        have kJ40 : ∀ (x39 : Int32), J40 x39 = some σ0 → KW X σ3 275 [(0, .ref (g.1 0))] [.int x39] := by
          clear hf
          intro x39 hf
          have hf := (hJ40 x39).symm.trans hf
          refine kw_istore_n C dX10_signToken_275 rfl hN (Nat.le_of_ble_eq_true rfl) [(1, .int x39), (0, .ref (g.1 0))] rfl ?_
          refine kw_aload_n C dX10_signToken_276 rfl 1 rfl ?_
          refine kw_iload_n C dX10_signToken_277 rfl 0 rfl ?_
          obtain ⟨J42, hJ42, hf⟩ := jnx1_elim hf
          have kJ42 : ∀ (x41 : Int32), J42 x41 = some σ0 → KW X σ3 287 [] [.int x41, .ref (g.1 0)] := by
            clear hf
            intro x41 hf
            have hf := (hJ42 x41).symm.trans hf
            obtain ⟨σ43, eσ43, hf⟩ := lt_elim hf
            refine kw_put C inG10 tyX10 tyX10_ok nmX10 _ (hO10 g σ3) rfl 8 (Nat.le_of_ble_eq_true rfl) mf_10_169 rfl rfl (tyX10_ok 8 (Nat.le_of_ble_eq_true rfl)) rfl rfl (Nat.le_of_ble_eq_true rfl) ((hF10_8 g σ3 _).trans (congrArg (wM g) eσ43.symm)) dX10_signToken_287 ?_
            exact kJ5 _ hf
          refine kw_if_eq C 285 dX10_signToken_278 rfl (fun c44 => ?_) (fun c44 => ?_)
          · have hf := if_p c44 hf
            refine kw_bipush C (6 : Int32) dX10_signToken_285 rfl ?_
            refine kw_sub [] _ rfl ?_
            exact kJ42 _ hf
          · have hf := if_n c44 hf
            refine kw_iconst C (4 : Int32) dX10_signToken_281 rfl ?_
            refine kw_goto C 287 dX10_signToken_282 rfl ?_
            refine kw_sub [] _ rfl ?_
            exact kJ42 _ hf
        obtain ⟨J45, hJ45, hf⟩ := jnx1_elim hf
        have kJ45 : ∀ (u9 : Unit), J45 u9 = some σ0 → KW X σ3 270 [(0, .ref (g.1 0))] [] := by
          clear hf
          intro u9 hf
          have hf := (hJ45 u9).symm.trans hf
          refine kw_iconst C (1 : Int32) dX10_signToken_270 rfl ?_
          refine kw_goto C 275 dX10_signToken_271 rfl ?_
          exact kJ40 _ hf
        refine kw_icmp_eq C 270 dX10_signToken_204 rfl (fun c46 => ?_) (fun c46 => ?_)
        · have hf := if_p c46 hf
          exact kJ45 _ hf
        · have hf := if_n c46 hf
          refine kw_aload_n C dX10_signToken_207 rfl 0 rfl ?_
          refine kw_get C inG10 _ (hO10 g σ3) rfl 9 (Nat.le_of_ble_eq_true rfl) mf_10_180 rfl rfl dX10_signToken_208 ?_
          refine kw_bipush C (40 : Int32) dX10_signToken_211 rfl ?_
          refine kw_icmp_eq C 270 dX10_signToken_213 rfl (fun c47 => ?_) (fun c47 => ?_)
          · have hf := if_p c47 hf
            exact kJ45 _ hf
          · have hf := if_n c47 hf
            refine kw_aload_n C dX10_signToken_216 rfl 0 rfl ?_
            refine kw_get C inG10 _ (hO10 g σ3) rfl 9 (Nat.le_of_ble_eq_true rfl) mf_10_180 rfl rfl dX10_signToken_217 ?_
            refine kw_bipush C (41 : Int32) dX10_signToken_220 rfl ?_
            refine kw_icmp_eq C 270 dX10_signToken_222 rfl (fun c48 => ?_) (fun c48 => ?_)
            · have hf := if_p c48 hf
              exact kJ45 _ hf
            · have hf := if_n c48 hf
              refine kw_aload_n C dX10_signToken_225 rfl 0 rfl ?_
              refine kw_get C inG10 _ (hO10 g σ3) rfl 9 (Nat.le_of_ble_eq_true rfl) mf_10_180 rfl rfl dX10_signToken_226 ?_
              refine kw_bipush C (43 : Int32) dX10_signToken_229 rfl ?_
              refine kw_icmp_eq C 270 dX10_signToken_231 rfl (fun c49 => ?_) (fun c49 => ?_)
              · have hf := if_p c49 hf
                exact kJ45 _ hf
              · have hf := if_n c49 hf
                refine kw_aload_n C dX10_signToken_234 rfl 0 rfl ?_
                refine kw_get C inG10 _ (hO10 g σ3) rfl 9 (Nat.le_of_ble_eq_true rfl) mf_10_180 rfl rfl dX10_signToken_235 ?_
                refine kw_bipush C (45 : Int32) dX10_signToken_238 rfl ?_
                refine kw_icmp_eq C 270 dX10_signToken_240 rfl (fun c50 => ?_) (fun c50 => ?_)
                · have hf := if_p c50 hf
                  exact kJ45 _ hf
                · have hf := if_n c50 hf
                  refine kw_aload_n C dX10_signToken_243 rfl 0 rfl ?_
                  refine kw_get C inG10 _ (hO10 g σ3) rfl 9 (Nat.le_of_ble_eq_true rfl) mf_10_180 rfl rfl dX10_signToken_244 ?_
                  refine kw_bipush C (42 : Int32) dX10_signToken_247 rfl ?_
                  refine kw_icmp_eq C 270 dX10_signToken_249 rfl (fun c51 => ?_) (fun c51 => ?_)
                  · have hf := if_p c51 hf
                    exact kJ45 _ hf
                  · have hf := if_n c51 hf
                    refine kw_aload_n C dX10_signToken_252 rfl 0 rfl ?_
                    refine kw_get C inG10 _ (hO10 g σ3) rfl 9 (Nat.le_of_ble_eq_true rfl) mf_10_180 rfl rfl dX10_signToken_253 ?_
                    refine kw_bipush C (47 : Int32) dX10_signToken_256 rfl ?_
                    refine kw_icmp_eq C 270 dX10_signToken_258 rfl (fun c52 => ?_) (fun c52 => ?_)
                    · have hf := if_p c52 hf
                      exact kJ45 _ hf
                    · have hf := if_n c52 hf
                      refine kw_aload_n C dX10_signToken_261 rfl 0 rfl ?_
                      refine kw_get C inG10 _ (hO10 g σ3) rfl 9 (Nat.le_of_ble_eq_true rfl) mf_10_180 rfl rfl dX10_signToken_262 ?_
                      refine kw_bipush C (37 : Int32) dX10_signToken_265 rfl ?_
                      refine kw_icmp_ne C 274 dX10_signToken_267 rfl (fun c53 => ?_) (fun c53 => ?_)
                      · have hf := if_n c53 hf
                        refine kw_iconst C (0 : Int32) dX10_signToken_274 rfl ?_
                        exact kJ40 _ hf
                      · have hf := if_p c53 hf
                        exact kJ45 _ hf
      · have hf := if_p c38 hf
        exact kJ6 _ hf
set_option maxRecDepth 100000 in
set_option maxHeartbeats 4000000 in
theorem kX10_token (L : Launch) (D : va_G) (g : GwT) (t0 : Nat) (σ : St) (σ0 : St) (hf : fX10_token σ  = some σ0) : CtV L D (ttG g) (wM g) t0 yX10_token cX10_token 1 none { frames := 1, cells := 0, slots := 0, locals := 27 } [.ref (g.1 0)] σ σ0 := by
  refine CtV.of (own := RX10) (by decide) rfl (Nat.le_of_ble_eq_true rfl) [(0, .ref (g.1 0))] rfl ?_
  intro X C hN K
  unfold fX10_token at hf
  refine lpx1_walk (P := fun (σ1 : St) => KW X σ1 0 [(0, .ref (g.1 0))] []) ?_ FU _ hf
  intro self2 σ1 ih3 hf
  refine kw_aload_n C dX10_token_0 rfl 0 rfl ?_
  refine kw_get C inG10 _ (hO10 g σ1) rfl 7 (Nat.le_of_ble_eq_true rfl) mf_10_166 rfl rfl dX10_token_1 ?_
  refine kw_aload_n C dX10_token_4 rfl 0 rfl ?_
  refine kw_get C inG10 _ (hO10 g σ1) rfl 6 (Nat.le_of_ble_eq_true rfl) mf_10_163 rfl rfl dX10_token_5 ?_
  obtain ⟨J4, hJ4, hf⟩ := jnx1_elim hf
  have kJ4 : ∀ (u9 : Unit), J4 u9 = some σ0 → KW X σ1 52 [(0, .ref (g.1 0))] [] := by
    clear hf
    intro u9 hf
    have hf := (hJ4 u9).symm.trans hf
    refine kw_aload_n C dX10_token_52 rfl 0 rfl ?_
    refine kw_aload_n C dX10_token_53 rfl 0 rfl ?_
    refine kw_get C inG10 _ (hO10 g σ1) rfl 7 (Nat.le_of_ble_eq_true rfl) mf_10_166 rfl rfl dX10_token_54 ?_
    obtain ⟨σ5, eσ5, hf⟩ := lt_elim hf
    refine kw_put C inG10 tyX10 tyX10_ok nmX10 _ (hO10 g σ1) rfl 10 (Nat.le_of_ble_eq_true rfl) mf_10_160 rfl rfl (tyX10_ok 10 (Nat.le_of_ble_eq_true rfl)) rfl rfl (Nat.le_of_ble_eq_true rfl) ((hF10_10 g σ1 _).trans (congrArg (wM g) eσ5.symm)) dX10_token_57 ?_
    refine kw_aload_n C dX10_token_60 rfl 0 rfl ?_
    refine kw_get C inG10 _ (hO10 g σ5) rfl 7 (Nat.le_of_ble_eq_true rfl) mf_10_166 rfl rfl dX10_token_61 ?_
    refine kw_aload_n C dX10_token_64 rfl 0 rfl ?_
    refine kw_get C inG10 _ (hO10 g σ5) rfl 6 (Nat.le_of_ble_eq_true rfl) mf_10_163 rfl rfl dX10_token_65 ?_
    obtain ⟨J7, hJ7, hf⟩ := jnx1_elim hf
    have kJ7 : ∀ (σ6 : St), J7 σ6 = some σ0 → KW X σ6 281 [] [] := by
      clear hf
      intro σ6 hf
      have hf := (hJ7 σ6).symm.trans hf
      exact kw_vret (u9 := ()) C K dX10_token_281 hf
    refine kw_icmp_ne C 79 dX10_token_68 rfl (fun c8 => ?_) (fun c8 => ?_)
    · have hf := if_n c8 hf
      refine kw_aload_n C dX10_token_79 rfl 0 rfl ?_
      refine kw_aload_n C dX10_token_80 rfl 0 rfl ?_
      refine kw_get C inG10 _ (hO10 g σ5) rfl 7 (Nat.le_of_ble_eq_true rfl) mf_10_166 rfl rfl dX10_token_81 ?_
      obtain ⟨r10, hc9, hf⟩ := bd_elim hf
      refine kw_callVI C [.int (gI σ5 0 7)] (kX10_isSmall L D g t0 (gI σ5 0 7) σ5 _ hc9) RX10 mV_X10_172 ⟨rfl, rfl⟩ dd_X10_isSmall ⟨Nat.le_of_ble_eq_true rfl, Nat.le_of_ble_eq_true rfl⟩ _ (hO10 g σ5) rfl rfl rfl (Nat.le_of_ble_eq_true rfl) dX10_token_84 ?_
      obtain ⟨J12, hJ12, hf⟩ := jnx1_elim hf
      have kJ12 : ∀ (σ11 : St), J12 σ11 = some σ0 → KW X σ11 90 [(0, .ref (g.1 0))] [] := by
        clear hf
        intro σ11 hf
        have hf := (hJ12 σ11).symm.trans hf
        refine lpx1_walk (P := fun (σ11 : St) => KW X σ11 90 [(0, .ref (g.1 0))] []) ?_ FU _ hf
        clear hf
        intro self13 σ11 ih14 hf
        refine kw_aload_n C dX10_token_90 rfl 0 rfl ?_
        refine kw_aload_n C dX10_token_91 rfl 0 rfl ?_
        refine kw_get C inG10 _ (hO10 g σ11) rfl 7 (Nat.le_of_ble_eq_true rfl) mf_10_166 rfl rfl dX10_token_92 ?_
        obtain ⟨r16, hc15, hf⟩ := bd_elim hf
        refine kw_callVI C [.int (gI σ11 0 7)] (kX10_isSmall L D g t0 (gI σ11 0 7) σ11 _ hc15) RX10 mV_X10_172 ⟨rfl, rfl⟩ dd_X10_isSmall ⟨Nat.le_of_ble_eq_true rfl, Nat.le_of_ble_eq_true rfl⟩ _ (hO10 g σ11) rfl rfl rfl (Nat.le_of_ble_eq_true rfl) dX10_token_95 ?_
        refine kw_if_eq C 114 dX10_token_98 rfl (fun c17 => ?_) (fun c17 => ?_)
        · have hf := if_p c17 hf
          refine kw_aload_n C dX10_token_114 rfl 0 rfl ?_
          refine kw_aload_n C dX10_token_115 rfl 0 rfl ?_
          refine kw_aload_n C dX10_token_116 rfl 0 rfl ?_
          refine kw_get C inG10 _ (hO10 g σ11) rfl 10 (Nat.le_of_ble_eq_true rfl) mf_10_160 rfl rfl dX10_token_117 ?_
          refine kw_aload_n C dX10_token_120 rfl 0 rfl ?_
          refine kw_get C inG10 _ (hO10 g σ11) rfl 7 (Nat.le_of_ble_eq_true rfl) mf_10_166 rfl rfl dX10_token_121 ?_
          obtain ⟨r19, hc18, hf⟩ := bd_elim hf
          refine kw_callVI C [.int (gI σ11 0 10), .int (gI σ11 0 7)] (kX10_wordAt L D g t0 (gI σ11 0 10) (gI σ11 0 7) σ11 _ hc18) RX10 mV_X10_176 ⟨rfl, rfl⟩ dd_X10_wordAt ⟨Nat.le_of_ble_eq_true rfl, Nat.le_of_ble_eq_true rfl⟩ _ (hO10 g σ11) rfl rfl rfl (Nat.le_of_ble_eq_true rfl) dX10_token_124 ?_
          obtain ⟨σ20, eσ20, hf⟩ := lt_elim hf
          refine kw_put C inG10 tyX10 tyX10_ok nmX10 _ (hO10 g σ11) rfl 9 (Nat.le_of_ble_eq_true rfl) mf_10_180 rfl rfl (tyX10_ok 9 (Nat.le_of_ble_eq_true rfl)) rfl rfl (Nat.le_of_ble_eq_true rfl) ((hF10_9 g σ11 _).trans (congrArg (wM g) eσ20.symm)) dX10_token_127 ?_
          refine kw_aload_n C dX10_token_130 rfl 0 rfl ?_
          refine kw_aload_n C dX10_token_131 rfl 0 rfl ?_
          refine kw_get C inG10 _ (hO10 g σ20) rfl 9 (Nat.le_of_ble_eq_true rfl) mf_10_180 rfl rfl dX10_token_132 ?_
          obtain ⟨J22, hJ22, hf⟩ := jnx1_elim hf
          have kJ22 : ∀ (x21 : Int32), J22 x21 = some σ0 → KW X σ20 162 [(0, .ref (g.1 0))] [.int x21, .ref (g.1 0)] := by
            clear hf
            intro x21 hf
            have hf := (hJ22 x21).symm.trans hf
            obtain ⟨σ23, eσ23, hf⟩ := lt_elim hf
            refine kw_put C inG10 tyX10 tyX10_ok nmX10 _ (hO10 g σ20) rfl 8 (Nat.le_of_ble_eq_true rfl) mf_10_169 rfl rfl (tyX10_ok 8 (Nat.le_of_ble_eq_true rfl)) rfl rfl (Nat.le_of_ble_eq_true rfl) ((hF10_8 g σ20 _).trans (congrArg (wM g) eσ23.symm)) dX10_token_162 ?_
            refine kw_aload_n C dX10_token_165 rfl 0 rfl ?_
            refine kw_get C inG10 _ (hO10 g σ23) rfl 8 (Nat.le_of_ble_eq_true rfl) mf_10_169 rfl rfl dX10_token_166 ?_
            refine kw_iconst C (2 : Int32) dX10_token_169 rfl ?_
            refine kw_icmp_ne C 281 dX10_token_170 rfl (fun c24 => ?_) (fun c24 => ?_)
            · have hf := if_n c24 hf
              refine kw_sub [] _ rfl ?_
              exact kJ7 _ hf
            · have hf := if_p c24 hf
              refine kw_aload_n C dX10_token_173 rfl 0 rfl ?_
              refine kw_aload_n C dX10_token_174 rfl 0 rfl ?_
              refine kw_aload_n C dX10_token_175 rfl 0 rfl ?_
              refine kw_get C inG10 _ (hO10 g σ23) rfl 10 (Nat.le_of_ble_eq_true rfl) mf_10_160 rfl rfl dX10_token_176 ?_
              refine kw_aload_n C dX10_token_179 rfl 0 rfl ?_
              refine kw_get C inG10 _ (hO10 g σ23) rfl 7 (Nat.le_of_ble_eq_true rfl) mf_10_166 rfl rfl dX10_token_180 ?_
              obtain ⟨r26, hc25, hf⟩ := bd_elim hf
              refine kw_callVI C [.int (gI σ23 0 10), .int (gI σ23 0 7)] (kX10_packed L D g t0 (gI σ23 0 10) (gI σ23 0 7) σ23 _ hc25) RX10 mV_X10_183 ⟨rfl, rfl⟩ dd_X10_packed ⟨Nat.le_of_ble_eq_true rfl, Nat.le_of_ble_eq_true rfl⟩ _ (hO10 g σ23) rfl rfl rfl (Nat.le_of_ble_eq_true rfl) dX10_token_183 ?_
              obtain ⟨σ27, eσ27, hf⟩ := lt_elim hf
              refine kw_put C inG10 tyX10 tyX10_ok nmX10 _ (hO10 g σ23) rfl 9 (Nat.le_of_ble_eq_true rfl) mf_10_180 rfl rfl (tyX10_ok 9 (Nat.le_of_ble_eq_true rfl)) rfl rfl (Nat.le_of_ble_eq_true rfl) ((hF10_9 g σ23 _).trans (congrArg (wM g) eσ27.symm)) dX10_token_186 ?_
              refine kw_goto C 281 dX10_token_189 rfl ?_
              refine kw_sub [] _ rfl ?_
              exact kJ7 _ hf
          refine kw_if_lt C 142 dX10_token_135 rfl (fun c28 => ?_) (fun c28 => ?_)
          · have hf := if_p c28 hf
            refine kw_aload_n C dX10_token_142 rfl 0 rfl ?_
            refine kw_get C inG10 _ (hO10 g σ20) rfl 7 (Nat.le_of_ble_eq_true rfl) mf_10_166 rfl rfl dX10_token_143 ?_
            refine kw_aload_n C dX10_token_146 rfl 0 rfl ?_
            refine kw_get C inG10 _ (hO10 g σ20) rfl 10 (Nat.le_of_ble_eq_true rfl) mf_10_160 rfl rfl dX10_token_147 ?_
            refine kw_isub C dX10_token_150 ?_
            refine kw_bipush C (6 : Int32) dX10_token_151 rfl ?_
            refine kw_icmp_le C 161 dX10_token_153 rfl (fun c29 => ?_) (fun c29 => ?_)
            · have hf := if_p c29 hf
              refine kw_iconst C (2 : Int32) dX10_token_161 rfl ?_
              exact kJ22 _ hf
            · have hf := if_n c29 hf
              refine kw_bipush C (6 : Int32) dX10_token_156 rfl ?_
              refine kw_goto C 162 dX10_token_158 rfl ?_
              exact kJ22 _ hf
          · have hf := if_n c28 hf
            refine kw_iconst C (1 : Int32) dX10_token_138 rfl ?_
            refine kw_goto C 162 dX10_token_139 rfl ?_
            exact kJ22 _ hf
        · have hf := if_n c17 hf
          refine kw_aload_n C dX10_token_101 rfl 0 rfl ?_
          refine kw_dup C dX10_token_102 rfl ?_
          refine kw_get C inG10 _ (hO10 g σ11) rfl 7 (Nat.le_of_ble_eq_true rfl) mf_10_166 rfl rfl dX10_token_103 ?_
          refine kw_iconst C (1 : Int32) dX10_token_106 rfl ?_
          refine kw_iadd C dX10_token_107 ?_
          obtain ⟨σ30, eσ30, hf⟩ := lt_elim hf
          refine kw_put C inG10 tyX10 tyX10_ok nmX10 _ (hO10 g σ11) rfl 7 (Nat.le_of_ble_eq_true rfl) mf_10_166 rfl rfl (tyX10_ok 7 (Nat.le_of_ble_eq_true rfl)) rfl rfl (Nat.le_of_ble_eq_true rfl) ((hF10_7 g σ11 _).trans (congrArg (wM g) eσ30.symm)) dX10_token_108 ?_
          refine kw_goto C 90 dX10_token_111 rfl ?_
          exact ih14 _ hf
      refine kw_if_eq C 192 dX10_token_87 rfl (fun c31 => ?_) (fun c31 => ?_)
      · have hf := if_p c31 hf
        refine kw_aload_n C dX10_token_192 rfl 0 rfl ?_
        refine kw_aload_n C dX10_token_193 rfl 0 rfl ?_
        refine kw_get C inG10 _ (hO10 g σ5) rfl 7 (Nat.le_of_ble_eq_true rfl) mf_10_166 rfl rfl dX10_token_194 ?_
        obtain ⟨r33, hc32, hf⟩ := bd_elim hf
        refine kw_callVI C [.int (gI σ5 0 7)] (kX10_isDigit L D g t0 (gI σ5 0 7) σ5 _ hc32) RX10 mV_X10_186 ⟨rfl, rfl⟩ dd_X10_isDigit ⟨Nat.le_of_ble_eq_true rfl, Nat.le_of_ble_eq_true rfl⟩ _ (hO10 g σ5) rfl rfl rfl (Nat.le_of_ble_eq_true rfl) dX10_token_197 ?_
        refine kw_if_eq C 277 dX10_token_200 rfl (fun c34 => ?_) (fun c34 => ?_)
        · have hf := if_p c34 hf
          refine kw_aload_n C dX10_token_277 rfl 0 rfl ?_
          obtain ⟨σ36, hc35, hf⟩ := bV_elim hf
          refine kw_callVV C [] (kX10_signToken L D g t0 σ5 _ hc35) RX10 mV_X10_190 ⟨rfl, rfl⟩ dd_X10_signToken ⟨Nat.le_of_ble_eq_true rfl, Nat.le_of_ble_eq_true rfl⟩ _ (hO10 g σ5) rfl rfl rfl (Nat.le_of_ble_eq_true rfl) dX10_token_278 ?_
          refine kw_sub [] _ rfl ?_
          exact kJ7 _ hf
        · have hf := if_n c34 hf
          refine kw_aload_n C dX10_token_203 rfl 0 rfl ?_
          refine kw_iconst C (3 : Int32) dX10_token_204 rfl ?_
          obtain ⟨σ37, eσ37, hf⟩ := lt_elim hf
          refine kw_put C inG10 tyX10 tyX10_ok nmX10 _ (hO10 g σ5) rfl 8 (Nat.le_of_ble_eq_true rfl) mf_10_169 rfl rfl (tyX10_ok 8 (Nat.le_of_ble_eq_true rfl)) rfl rfl (Nat.le_of_ble_eq_true rfl) ((hF10_8 g σ5 _).trans (congrArg (wM g) eσ37.symm)) dX10_token_205 ?_
          refine kw_aload_n C dX10_token_208 rfl 0 rfl ?_
          refine kw_iconst C (0 : Int32) dX10_token_209 rfl ?_
          obtain ⟨σ38, eσ38, hf⟩ := lt_elim hf
          refine kw_put C inG10 tyX10 tyX10_ok nmX10 _ (hO10 g σ37) rfl 9 (Nat.le_of_ble_eq_true rfl) mf_10_180 rfl rfl (tyX10_ok 9 (Nat.le_of_ble_eq_true rfl)) rfl rfl (Nat.le_of_ble_eq_true rfl) ((hF10_9 g σ37 _).trans (congrArg (wM g) eσ38.symm)) dX10_token_210 ?_
          refine lpx1_walk (P := fun (σ39 : St) => KW X σ39 213 [(0, .ref (g.1 0))] []) ?_ FU _ hf
          intro self40 σ39 ih41 hf
          refine kw_aload_n C dX10_token_213 rfl 0 rfl ?_
          refine kw_aload_n C dX10_token_214 rfl 0 rfl ?_
          refine kw_get C inG10 _ (hO10 g σ39) rfl 7 (Nat.le_of_ble_eq_true rfl) mf_10_166 rfl rfl dX10_token_215 ?_
          obtain ⟨r43, hc42, hf⟩ := bd_elim hf
          refine kw_callVI C [.int (gI σ39 0 7)] (kX10_isDigit L D g t0 (gI σ39 0 7) σ39 _ hc42) RX10 mV_X10_186 ⟨rfl, rfl⟩ dd_X10_isDigit ⟨Nat.le_of_ble_eq_true rfl, Nat.le_of_ble_eq_true rfl⟩ _ (hO10 g σ39) rfl rfl rfl (Nat.le_of_ble_eq_true rfl) dX10_token_218 ?_
          refine kw_if_eq C 281 dX10_token_221 rfl (fun c44 => ?_) (fun c44 => ?_)
          · have hf := if_p c44 hf
            refine kw_sub [] _ rfl ?_
            exact kJ7 _ hf
          · have hf := if_n c44 hf
            refine kw_aload_n C dX10_token_224 rfl 0 rfl ?_
            refine kw_aload_n C dX10_token_225 rfl 0 rfl ?_
            refine kw_get C inG10 _ (hO10 g σ39) rfl 9 (Nat.le_of_ble_eq_true rfl) mf_10_180 rfl rfl dX10_token_226 ?_
            refine kw_ldc C dX10_token_229 mk_X10_189 ?_
            obtain ⟨J46, hJ46, hf⟩ := jnx1_elim hf
            have kJ46 : ∀ (x45 : Int32), J46 x45 = some σ0 → KW X σ39 261 [(0, .ref (g.1 0))] [.int x45, .ref (g.1 0)] := by
              clear hf
              intro x45 hf
              have hf := (hJ46 x45).symm.trans hf
              obtain ⟨σ47, eσ47, hf⟩ := lt_elim hf
              refine kw_put C inG10 tyX10 tyX10_ok nmX10 _ (hO10 g σ39) rfl 9 (Nat.le_of_ble_eq_true rfl) mf_10_180 rfl rfl (tyX10_ok 9 (Nat.le_of_ble_eq_true rfl)) rfl rfl (Nat.le_of_ble_eq_true rfl) ((hF10_9 g σ39 _).trans (congrArg (wM g) eσ47.symm)) dX10_token_261 ?_
              refine kw_aload_n C dX10_token_264 rfl 0 rfl ?_
              refine kw_dup C dX10_token_265 rfl ?_
              refine kw_get C inG10 _ (hO10 g σ47) rfl 7 (Nat.le_of_ble_eq_true rfl) mf_10_166 rfl rfl dX10_token_266 ?_
              refine kw_iconst C (1 : Int32) dX10_token_269 rfl ?_
              refine kw_iadd C dX10_token_270 ?_
              obtain ⟨σ48, eσ48, hf⟩ := lt_elim hf
              refine kw_put C inG10 tyX10 tyX10_ok nmX10 _ (hO10 g σ47) rfl 7 (Nat.le_of_ble_eq_true rfl) mf_10_166 rfl rfl (tyX10_ok 7 (Nat.le_of_ble_eq_true rfl)) rfl rfl (Nat.le_of_ble_eq_true rfl) ((hF10_7 g σ47 _).trans (congrArg (wM g) eσ48.symm)) dX10_token_271 ?_
              refine kw_goto C 213 dX10_token_274 rfl ?_
              exact ih41 _ hf
            refine kw_icmp_le C 241 dX10_token_231 rfl (fun c49 => ?_) (fun c49 => ?_)
            · have hf := if_p c49 hf
              refine kw_bipush C (10 : Int32) dX10_token_241 rfl ?_
              refine kw_aload_n C dX10_token_243 rfl 0 rfl ?_
              refine kw_get C inG10 _ (hO10 g σ39) rfl 9 (Nat.le_of_ble_eq_true rfl) mf_10_180 rfl rfl dX10_token_244 ?_
              refine kw_imul C dX10_token_247 ?_
              refine kw_aload_n C dX10_token_248 rfl 0 rfl ?_
              refine kw_get C inG10 _ (hO10 g σ39) rfl 0 (Nat.le_of_ble_eq_true rfl) mf_10_7 rfl rfl dX10_token_249 ?_
              refine kw_aload_n C dX10_token_252 rfl 0 rfl ?_
              refine kw_get C inG10 _ (hO10 g σ39) rfl 7 (Nat.le_of_ble_eq_true rfl) mf_10_166 rfl rfl dX10_token_253 ?_
              obtain ⟨h50, hf⟩ := gd_elim hf
              refine kw_iald C _ 0 (hA10_0 g σ39) rfl h50 dX10_token_256 ?_
              refine kw_iadd C dX10_token_257 ?_
              refine kw_bipush C (48 : Int32) dX10_token_258 rfl ?_
              refine kw_isub C dX10_token_260 ?_
              exact kJ46 _ hf
            · have hf := if_n c49 hf
              refine kw_aload_n C dX10_token_234 rfl 0 rfl ?_
              refine kw_get C inG10 _ (hO10 g σ39) rfl 9 (Nat.le_of_ble_eq_true rfl) mf_10_180 rfl rfl dX10_token_235 ?_
              refine kw_goto C 261 dX10_token_238 rfl ?_
              exact kJ46 _ hf
      · have hf := if_n c31 hf
        exact kJ12 _ hf
    · have hf := if_p c8 hf
      refine kw_aload_n C dX10_token_71 rfl 0 rfl ?_
      refine kw_iconst C (0 : Int32) dX10_token_72 rfl ?_
      obtain ⟨σ51, eσ51, hf⟩ := lt_elim hf
      refine kw_put C inG10 tyX10 tyX10_ok nmX10 _ (hO10 g σ5) rfl 8 (Nat.le_of_ble_eq_true rfl) mf_10_169 rfl rfl (tyX10_ok 8 (Nat.le_of_ble_eq_true rfl)) rfl rfl (Nat.le_of_ble_eq_true rfl) ((hF10_8 g σ5 _).trans (congrArg (wM g) eσ51.symm)) dX10_token_73 ?_
      refine kw_goto C 281 dX10_token_76 rfl ?_
      refine kw_sub [] _ rfl ?_
      exact kJ7 _ hf
  refine kw_icmp_ge C 52 dX10_token_8 rfl (fun c52 => ?_) (fun c52 => ?_)
  · have hf := if_p c52 hf
    exact kJ4 _ hf
  · have hf := if_n c52 hf
    refine kw_aload_n C dX10_token_11 rfl 0 rfl ?_
    refine kw_get C inG10 _ (hO10 g σ1) rfl 0 (Nat.le_of_ble_eq_true rfl) mf_10_7 rfl rfl dX10_token_12 ?_
    refine kw_aload_n C dX10_token_15 rfl 0 rfl ?_
    refine kw_get C inG10 _ (hO10 g σ1) rfl 7 (Nat.le_of_ble_eq_true rfl) mf_10_166 rfl rfl dX10_token_16 ?_
    obtain ⟨h53, hf⟩ := gd_elim hf
    refine kw_iald C _ 0 (hA10_0 g σ1) rfl h53 dX10_token_19 ?_
    refine kw_bipush C (10 : Int32) dX10_token_20 rfl ?_
    obtain ⟨J54, hJ54, hf⟩ := jnx1_elim hf
    have kJ54 : ∀ (u9 : Unit), J54 u9 = some σ0 → KW X σ1 39 [(0, .ref (g.1 0))] [] := by
      clear hf
      intro u9 hf
      have hf := (hJ54 u9).symm.trans hf
      refine kw_aload_n C dX10_token_39 rfl 0 rfl ?_
      refine kw_dup C dX10_token_40 rfl ?_
      refine kw_get C inG10 _ (hO10 g σ1) rfl 7 (Nat.le_of_ble_eq_true rfl) mf_10_166 rfl rfl dX10_token_41 ?_
      refine kw_iconst C (1 : Int32) dX10_token_44 rfl ?_
      refine kw_iadd C dX10_token_45 ?_
      obtain ⟨σ55, eσ55, hf⟩ := lt_elim hf
      refine kw_put C inG10 tyX10 tyX10_ok nmX10 _ (hO10 g σ1) rfl 7 (Nat.le_of_ble_eq_true rfl) mf_10_166 rfl rfl (tyX10_ok 7 (Nat.le_of_ble_eq_true rfl)) rfl rfl (Nat.le_of_ble_eq_true rfl) ((hF10_7 g σ1 _).trans (congrArg (wM g) eσ55.symm)) dX10_token_46 ?_
      refine kw_goto C 0 dX10_token_49 rfl ?_
      exact ih3 _ hf
    refine kw_icmp_eq C 39 dX10_token_22 rfl (fun c56 => ?_) (fun c56 => ?_)
    · have hf := if_p c56 hf
      exact kJ54 _ hf
    · have hf := if_n c56 hf
      refine kw_aload_n C dX10_token_25 rfl 0 rfl ?_
      refine kw_get C inG10 _ (hO10 g σ1) rfl 0 (Nat.le_of_ble_eq_true rfl) mf_10_7 rfl rfl dX10_token_26 ?_
      refine kw_aload_n C dX10_token_29 rfl 0 rfl ?_
      refine kw_get C inG10 _ (hO10 g σ1) rfl 7 (Nat.le_of_ble_eq_true rfl) mf_10_166 rfl rfl dX10_token_30 ?_
      obtain ⟨h57, hf⟩ := gd_elim hf
      refine kw_iald C _ 0 (hA10_0 g σ1) rfl h57 dX10_token_33 ?_
      refine kw_bipush C (32 : Int32) dX10_token_34 rfl ?_
      refine kw_icmp_ne C 52 dX10_token_36 rfl (fun c58 => ?_) (fun c58 => ?_)
      · have hf := if_n c58 hf
        exact kJ4 _ hf
      · have hf := if_p c58 hf
        exact kJ54 _ hf
set_option maxRecDepth 100000 in
set_option maxHeartbeats 4000000 in
theorem kX10_wrong (L : Launch) (D : va_G) (g : GwT) (t0 : Nat) (p0 : Int32) (σ : St) (r0 : Int32) (σ0 : St) (hf : fX10_wrong σ p0 = some (r0, σ0)) : CtI L D (ttG g) (wM g) t0 yX10_wrong cX10_wrong 2 (some .boolean) { frames := 0, cells := 0, slots := 0, locals := 0 } [.ref (g.1 0), .int p0] σ r0 σ0 := by
  refine CtI.of (own := RX10) (by decide) rfl (Nat.le_of_ble_eq_true rfl) [(0, .ref (g.1 0)), (1, .int p0)] rfl ?_
  intro X C hN K
  unfold fX10_wrong at hf
  refine kw_aload_n C dX10_wrong_0 rfl 0 rfl ?_
  refine kw_iload_n C dX10_wrong_1 rfl 1 rfl ?_
  obtain ⟨σ1, eσ1, hf⟩ := lt_elim hf
  refine kw_put C inG10 tyX10 tyX10_ok nmX10 _ (hO10 g σ) rfl 4 (Nat.le_of_ble_eq_true rfl) mf_10_157 rfl rfl (tyX10_ok 4 (Nat.le_of_ble_eq_true rfl)) rfl rfl (Nat.le_of_ble_eq_true rfl) ((hF10_4 g σ _).trans (congrArg (wM g) eσ1.symm)) dX10_wrong_2 ?_
  refine kw_aload_n C dX10_wrong_5 rfl 0 rfl ?_
  refine kw_aload_n C dX10_wrong_6 rfl 0 rfl ?_
  refine kw_get C inG10 _ (hO10 g σ1) rfl 10 (Nat.le_of_ble_eq_true rfl) mf_10_160 rfl rfl dX10_wrong_7 ?_
  obtain ⟨σ2, eσ2, hf⟩ := lt_elim hf
  refine kw_put C inG10 tyX10 tyX10_ok nmX10 _ (hO10 g σ1) rfl 5 (Nat.le_of_ble_eq_true rfl) mf_10_16 rfl rfl (tyX10_ok 5 (Nat.le_of_ble_eq_true rfl)) rfl rfl (Nat.le_of_ble_eq_true rfl) ((hF10_5 g σ1 _).trans (congrArg (wM g) eσ2.symm)) dX10_wrong_10 ?_
  refine kw_iconst C (0 : Int32) dX10_wrong_13 rfl ?_
  exact kw_zret C K (by decide) dX10_wrong_14 hf
set_option maxRecDepth 100000 in
set_option maxHeartbeats 4000000 in
theorem kX10_isSign (L : Launch) (D : va_G) (g : GwT) (t0 : Nat) (p0 : Int32) (σ : St) (r0 : Int32) (hf : fX10_isSign σ p0 = some r0) : CtI L D (ttG g) (wM g) t0 yX10_isSign cX10_isSign 2 (some .boolean) { frames := 0, cells := 0, slots := 0, locals := 0 } [.ref (g.1 0), .int p0] σ r0 σ := by
  refine CtI.of (own := RX10) (by decide) rfl (Nat.le_of_ble_eq_true rfl) [(0, .ref (g.1 0)), (1, .int p0)] rfl ?_
  intro X C hN K
  unfold fX10_isSign at hf
  refine kw_aload_n C dX10_isSign_0 rfl 0 rfl ?_
  refine kw_get C inG10 _ (hO10 g σ) rfl 8 (Nat.le_of_ble_eq_true rfl) mf_10_169 rfl rfl dX10_isSign_1 ?_
  refine kw_iconst C (4 : Int32) dX10_isSign_4 rfl ?_
  obtain ⟨J2, hJ2, hf⟩ := jnx1_elim hf
  have kJ2 : ∀ (x1 : Int32), J2 x1 = some r0 → KW X σ 21 [] [.int x1] := by
    clear hf
    intro x1 hf
    have hf := (hJ2 x1).symm.trans hf
    obtain ⟨h3, hf⟩ := gd_elim hf
    exact kw_zret C K h3 dX10_isSign_21 (pr_ret hf)
  obtain ⟨J4, hJ4, hf⟩ := jnx1_elim hf
  have kJ4 : ∀ (u9 : Unit), J4 u9 = some r0 → KW X σ 20 [] [] := by
    clear hf
    intro u9 hf
    have hf := (hJ4 u9).symm.trans hf
    refine kw_iconst C (0 : Int32) dX10_isSign_20 rfl ?_
    exact kJ2 _ hf
  refine kw_icmp_ne C 20 dX10_isSign_5 rfl (fun c5 => ?_) (fun c5 => ?_)
  · have hf := if_n c5 hf
    refine kw_sub [] _ rfl ?_
    exact kJ4 _ hf
  · have hf := if_p c5 hf
    refine kw_aload_n C dX10_isSign_8 rfl 0 rfl ?_
    refine kw_get C inG10 _ (hO10 g σ) rfl 9 (Nat.le_of_ble_eq_true rfl) mf_10_180 rfl rfl dX10_isSign_9 ?_
    refine kw_iload_n C dX10_isSign_12 rfl 1 rfl ?_
    refine kw_icmp_ne C 20 dX10_isSign_13 rfl (fun c6 => ?_) (fun c6 => ?_)
    · have hf := if_n c6 hf
      refine kw_sub [] _ rfl ?_
      exact kJ4 _ hf
    · have hf := if_p c6 hf
      refine kw_iconst C (1 : Int32) dX10_isSign_16 rfl ?_
      refine kw_goto C 21 dX10_isSign_17 rfl ?_
      refine kw_sub [] _ rfl ?_
      exact kJ2 _ hf
set_option maxRecDepth 100000 in
set_option maxHeartbeats 4000000 in
theorem kX10_find_a10_20 (L : Launch) (D : va_G) (g : GwT) (t0 : Nat) (p1 : Int32) (p2 : Int32) (p3 : Int32) (σ : St) (r0 : Int32) (hf : fX10_find_a10_20 σ p1 p2 p3 = some r0) : CtI L D (ttG g) (wM g) t0 yX10_find cX10_find 5 (some .int) { frames := 0, cells := 0, slots := 0, locals := 0 } [.ref (g.2.1 0 20), .int p1, .int p2, .int p3] σ r0 σ := by
  refine CtI.of (own := RX10) (by decide) rfl (Nat.le_of_ble_eq_true rfl) [(0, .ref (g.2.1 0 20)), (1, .int p1), (2, .int p2), (3, .int p3)] rfl ?_
  intro X C hN K
  unfold fX10_find_a10_20 at hf
  refine kw_iconst C (0 : Int32) dX10_find_0 rfl ?_
  refine kw_istore C dX10_find_1 hN (Nat.le_of_ble_eq_true rfl) [(4, .int (0 : Int32)), (0, .ref (g.2.1 0 20)), (1, .int p1), (2, .int p2), (3, .int p3)] rfl ?_
  refine kw_sub [1, 2, 3, 4, 0] _ rfl ?_
  refine lpx1_walk (P := fun (x1 : Int32) => KW X σ 3 [(0, .ref (g.2.1 0 20)), (1, .int p1), (2, .int p2), (3, .int p3), (4, .int x1)] []) ?_ FU _ hf
  intro self2 x1 ih3 hf
  refine kw_iload C dX10_find_3 4 rfl ?_
  refine kw_iload_n C dX10_find_5 rfl 2 rfl ?_
  refine kw_icmp_ge C 28 dX10_find_6 rfl (fun c4 => ?_) (fun c4 => ?_)
  · have hf := if_p c4 hf
    refine kw_iconst C (-1 : Int32) dX10_find_28 rfl ?_
    exact kw_iret C K dX10_find_29 (pr_ret hf)
  · have hf := if_n c4 hf
    refine kw_aload_n C dX10_find_9 rfl 0 rfl ?_
    refine kw_iload_n C dX10_find_10 rfl 1 rfl ?_
    refine kw_iload C dX10_find_11 4 rfl ?_
    refine kw_iadd C dX10_find_13 ?_
    obtain ⟨h5, hf⟩ := gd_elim hf
    refine kw_iald C _ 0 (hA10_20 g σ) rfl h5 dX10_find_14 ?_
    refine kw_iload_n C dX10_find_15 rfl 3 rfl ?_
    refine kw_icmp_ne C 22 dX10_find_16 rfl (fun c6 => ?_) (fun c6 => ?_)
    · have hf := if_n c6 hf
      obtain ⟨x7, ex7, hf⟩ := lt_elim hf
      refine kw_iinc C x7 dX10_find_22 4 rfl ex7.symm hN (Nat.le_of_ble_eq_true rfl) [(4, .int x7), (0, .ref (g.2.1 0 20)), (1, .int p1), (2, .int p2), (3, .int p3)] rfl ?_
      refine kw_goto C 3 dX10_find_25 rfl ?_
      refine kw_sub [1, 2, 3, 4, 0] _ rfl ?_
      exact ih3 _ hf
    · have hf := if_p c6 hf
      refine kw_iload C dX10_find_19 4 rfl ?_
      exact kw_iret C K dX10_find_21 (pr_ret hf)
set_option maxRecDepth 100000 in
set_option maxHeartbeats 4000000 in
theorem kX10_newName_a10_20 (L : Launch) (D : va_G) (g : GwT) (t0 : Nat) (p1 : Int32) (p2 : Int32) (σ : St) (r0 : Int32) (σ0 : St) (hf : fX10_newName_a10_20 σ p1 p2 = some (r0, σ0)) : CtI L D (ttG g) (wM g) t0 yX10_newName cX10_newName 4 (some .boolean) { frames := 2, cells := 0, slots := 0, locals := 47 } [.ref (g.1 0), .ref (g.2.1 0 20), .int p1, .int p2] σ r0 σ0 := by
  refine CtI.of (own := RX10) (by decide) rfl (Nat.le_of_ble_eq_true rfl) [(0, .ref (g.1 0)), (1, .ref (g.2.1 0 20)), (2, .int p1), (3, .int p2)] rfl ?_
  intro X C hN K
  unfold fX10_newName_a10_20 at hf
  refine kw_aload_n C dX10_newName_0 rfl 0 rfl ?_
  refine kw_get C inG10 _ (hO10 g σ) rfl 8 (Nat.le_of_ble_eq_true rfl) mf_10_169 rfl rfl dX10_newName_1 ?_
  refine kw_iconst C (2 : Int32) dX10_newName_4 rfl ?_
  refine kw_icmp_eq C 14 dX10_newName_5 rfl (fun c1 => ?_) (fun c1 => ?_)
  · have hf := if_p c1 hf
    refine kw_aload_n C dX10_newName_14 rfl 1 rfl ?_
    refine kw_iload_n C dX10_newName_15 rfl 2 rfl ?_
    refine kw_iload_n C dX10_newName_16 rfl 3 rfl ?_
    refine kw_aload_n C dX10_newName_17 rfl 0 rfl ?_
    refine kw_get C inG10 _ (hO10 g σ) rfl 9 (Nat.le_of_ble_eq_true rfl) mf_10_180 rfl rfl dX10_newName_18 ?_
    obtain ⟨r3, hc2, hf⟩ := bd_elim hf
    refine kw_callSI C [.ref (g.2.1 0 20), .int p1, .int p2, .int (gI σ 0 9)] (kX10_find_a10_20 L D g t0 p1 p2 (gI σ 0 9) σ _ hc2) mS_X10_241 ⟨rfl, rfl⟩ dd_X10_find ⟨Nat.le_of_ble_eq_true rfl, Nat.le_of_ble_eq_true rfl⟩ rfl (Nat.le_of_ble_eq_true rfl) dX10_newName_21 ?_
    refine kw_if_lt C 33 dX10_newName_24 rfl (fun c4 => ?_) (fun c4 => ?_)
    · have hf := if_p c4 hf
      refine kw_aload_n C dX10_newName_33 rfl 1 rfl ?_
      refine kw_iload_n C dX10_newName_34 rfl 2 rfl ?_
      refine kw_iload_n C dX10_newName_35 rfl 3 rfl ?_
      refine kw_iadd C dX10_newName_36 ?_
      refine kw_aload_n C dX10_newName_37 rfl 0 rfl ?_
      refine kw_get C inG10 _ (hO10 g σ) rfl 9 (Nat.le_of_ble_eq_true rfl) mf_10_180 rfl rfl dX10_newName_38 ?_
      obtain ⟨h5, hf⟩ := gd_elim hf
      obtain ⟨σ6, eσ6, hf⟩ := lt_elim hf
      refine kw_iast C _ 0 (hA10_20 g σ) rfl h5 ((hS10_20 g σ _).trans (congrArg (wM g) eσ6.symm)) dX10_newName_41 ?_
      refine kw_aload_n C dX10_newName_42 rfl 0 rfl ?_
      obtain ⟨σ8, hc7, hf⟩ := bV_elim hf
      refine kw_callVV C [] (kX10_token L D g t0 σ6 _ hc7) RX10 mV_X10_203 ⟨rfl, rfl⟩ dd_X10_token ⟨Nat.le_of_ble_eq_true rfl, Nat.le_of_ble_eq_true rfl⟩ _ (hO10 g σ6) rfl rfl rfl (Nat.le_of_ble_eq_true rfl) dX10_newName_43 ?_
      refine kw_iconst C (1 : Int32) dX10_newName_46 rfl ?_
      exact kw_zret C K (by decide) dX10_newName_47 hf
    · have hf := if_n c4 hf
      refine kw_aload_n C dX10_newName_27 rfl 0 rfl ?_
      refine kw_iconst C (3 : Int32) dX10_newName_28 rfl ?_
      obtain ⟨r10, σ11, hc9, hf⟩ := bI_elim hf
      refine kw_callVI C [.int (3 : Int32)] (kX10_wrong L D g t0 (3 : Int32) σ _ _ hc9) RX10 mV_X10_193 ⟨rfl, rfl⟩ dd_X10_wrong ⟨Nat.le_of_ble_eq_true rfl, Nat.le_of_ble_eq_true rfl⟩ _ (hO10 g σ) rfl rfl rfl (Nat.le_of_ble_eq_true rfl) dX10_newName_29 ?_
      obtain ⟨h12, hf⟩ := gd_elim hf
      exact kw_zret C K h12 dX10_newName_32 hf
  · have hf := if_n c1 hf
    refine kw_aload_n C dX10_newName_8 rfl 0 rfl ?_
    refine kw_iconst C (1 : Int32) dX10_newName_9 rfl ?_
    obtain ⟨r14, σ15, hc13, hf⟩ := bI_elim hf
    refine kw_callVI C [.int (1 : Int32)] (kX10_wrong L D g t0 (1 : Int32) σ _ _ hc13) RX10 mV_X10_193 ⟨rfl, rfl⟩ dd_X10_wrong ⟨Nat.le_of_ble_eq_true rfl, Nat.le_of_ble_eq_true rfl⟩ _ (hO10 g σ) rfl rfl rfl (Nat.le_of_ble_eq_true rfl) dX10_newName_10 ?_
    obtain ⟨h16, hf⟩ := gd_elim hf
    exact kw_zret C K h16 dX10_newName_13 hf
set_option maxRecDepth 100000 in
set_option maxHeartbeats 4000000 in
theorem kX10_isIn (L : Launch) (D : va_G) (g : GwT) (t0 : Nat) (p0 : Int32) (p1 : Int32) (p2 : Int32) (σ : St) (r0 : Int32) (hf : fX10_isIn σ p0 p1 p2 = some r0) : CtI L D (ttG g) (wM g) t0 yX10_isIn cX10_isIn 3 (some .boolean) { frames := 0, cells := 0, slots := 0, locals := 0 } [.int p0, .int p1, .int p2] σ r0 σ := by
  refine CtI.of (own := RX10) (by decide) rfl (Nat.le_of_ble_eq_true rfl) [(0, .int p0), (1, .int p1), (2, .int p2)] rfl ?_
  intro X C hN K
  unfold fX10_isIn at hf
  refine kw_iload_n C dX10_isIn_0 rfl 0 rfl ?_
  refine kw_iload_n C dX10_isIn_1 rfl 1 rfl ?_
  obtain ⟨J2, hJ2, hf⟩ := jnx1_elim hf
  have kJ2 : ∀ (x1 : Int32), J2 x1 = some r0 → KW X σ 15 [] [.int x1] := by
    clear hf
    intro x1 hf
    have hf := (hJ2 x1).symm.trans hf
    obtain ⟨h3, hf⟩ := gd_elim hf
    exact kw_zret C K h3 dX10_isIn_15 (pr_ret hf)
  obtain ⟨J4, hJ4, hf⟩ := jnx1_elim hf
  have kJ4 : ∀ (u9 : Unit), J4 u9 = some r0 → KW X σ 14 [] [] := by
    clear hf
    intro u9 hf
    have hf := (hJ4 u9).symm.trans hf
    refine kw_iconst C (0 : Int32) dX10_isIn_14 rfl ?_
    exact kJ2 _ hf
  refine kw_icmp_lt C 14 dX10_isIn_2 rfl (fun c5 => ?_) (fun c5 => ?_)
  · have hf := if_p c5 hf
    refine kw_sub [] _ rfl ?_
    exact kJ4 _ hf
  · have hf := if_n c5 hf
    refine kw_iload_n C dX10_isIn_5 rfl 0 rfl ?_
    refine kw_iload_n C dX10_isIn_6 rfl 2 rfl ?_
    refine kw_icmp_gt C 14 dX10_isIn_7 rfl (fun c6 => ?_) (fun c6 => ?_)
    · have hf := if_p c6 hf
      refine kw_sub [] _ rfl ?_
      exact kJ4 _ hf
    · have hf := if_n c6 hf
      refine kw_iconst C (1 : Int32) dX10_isIn_10 rfl ?_
      refine kw_goto C 15 dX10_isIn_11 rfl ?_
      refine kw_sub [] _ rfl ?_
      exact kJ2 _ hf
set_option maxRecDepth 100000 in
set_option maxHeartbeats 4000000 in
theorem kX10_number (L : Launch) (D : va_G) (g : GwT) (t0 : Nat) (p0 : Int32) (p1 : Int32) (σ : St) (r0 : Int32) (σ0 : St) (hf : fX10_number σ p0 p1 = some (r0, σ0)) : CtI L D (ttG g) (wM g) t0 yX10_number cX10_number 3 (some .boolean) { frames := 2, cells := 0, slots := 0, locals := 47 } [.ref (g.1 0), .int p0, .int p1] σ r0 σ0 := by
  refine CtI.of (own := RX10) (by decide) rfl (Nat.le_of_ble_eq_true rfl) [(0, .ref (g.1 0)), (1, .int p0), (2, .int p1)] rfl ?_
  intro X C hN K
  unfold fX10_number at hf
  refine kw_aload_n C dX10_number_0 rfl 0 rfl ?_
  refine kw_get C inG10 _ (hO10 g σ) rfl 8 (Nat.le_of_ble_eq_true rfl) mf_10_169 rfl rfl dX10_number_1 ?_
  refine kw_iconst C (3 : Int32) dX10_number_4 rfl ?_
  refine kw_icmp_eq C 14 dX10_number_5 rfl (fun c1 => ?_) (fun c1 => ?_)
  · have hf := if_p c1 hf
    refine kw_aload_n C dX10_number_14 rfl 0 rfl ?_
    refine kw_get C inG10 _ (hO10 g σ) rfl 9 (Nat.le_of_ble_eq_true rfl) mf_10_180 rfl rfl dX10_number_15 ?_
    refine kw_iload_n C dX10_number_18 rfl 1 rfl ?_
    refine kw_iload_n C dX10_number_19 rfl 2 rfl ?_
    obtain ⟨r3, hc2, hf⟩ := bd_elim hf
    refine kw_callSI C [.int (gI σ 0 9), .int p0, .int p1] (kX10_isIn L D g t0 (gI σ 0 9) p0 p1 σ _ hc2) mS_X10_196 ⟨rfl, rfl⟩ dd_X10_isIn ⟨Nat.le_of_ble_eq_true rfl, Nat.le_of_ble_eq_true rfl⟩ rfl (Nat.le_of_ble_eq_true rfl) dX10_number_20 ?_
    refine kw_if_ne C 32 dX10_number_23 rfl (fun c4 => ?_) (fun c4 => ?_)
    · have hf := if_n c4 hf
      refine kw_aload_n C dX10_number_32 rfl 0 rfl ?_
      refine kw_aload_n C dX10_number_33 rfl 0 rfl ?_
      refine kw_get C inG10 _ (hO10 g σ) rfl 9 (Nat.le_of_ble_eq_true rfl) mf_10_180 rfl rfl dX10_number_34 ?_
      obtain ⟨σ5, eσ5, hf⟩ := lt_elim hf
      refine kw_put C inG10 tyX10 tyX10_ok nmX10 _ (hO10 g σ) rfl 11 (Nat.le_of_ble_eq_true rfl) mf_10_200 rfl rfl (tyX10_ok 11 (Nat.le_of_ble_eq_true rfl)) rfl rfl (Nat.le_of_ble_eq_true rfl) ((hF10_11 g σ _).trans (congrArg (wM g) eσ5.symm)) dX10_number_37 ?_
      refine kw_aload_n C dX10_number_40 rfl 0 rfl ?_
      obtain ⟨σ7, hc6, hf⟩ := bV_elim hf
      refine kw_callVV C [] (kX10_token L D g t0 σ5 _ hc6) RX10 mV_X10_203 ⟨rfl, rfl⟩ dd_X10_token ⟨Nat.le_of_ble_eq_true rfl, Nat.le_of_ble_eq_true rfl⟩ _ (hO10 g σ5) rfl rfl rfl (Nat.le_of_ble_eq_true rfl) dX10_number_41 ?_
      refine kw_iconst C (1 : Int32) dX10_number_44 rfl ?_
      exact kw_zret C K (by decide) dX10_number_45 hf
    · have hf := if_p c4 hf
      refine kw_aload_n C dX10_number_26 rfl 0 rfl ?_
      refine kw_iconst C (2 : Int32) dX10_number_27 rfl ?_
      obtain ⟨r9, σ10, hc8, hf⟩ := bI_elim hf
      refine kw_callVI C [.int (2 : Int32)] (kX10_wrong L D g t0 (2 : Int32) σ _ _ hc8) RX10 mV_X10_193 ⟨rfl, rfl⟩ dd_X10_wrong ⟨Nat.le_of_ble_eq_true rfl, Nat.le_of_ble_eq_true rfl⟩ _ (hO10 g σ) rfl rfl rfl (Nat.le_of_ble_eq_true rfl) dX10_number_28 ?_
      obtain ⟨h11, hf⟩ := gd_elim hf
      exact kw_zret C K h11 dX10_number_31 hf
  · have hf := if_n c1 hf
    refine kw_aload_n C dX10_number_8 rfl 0 rfl ?_
    refine kw_iconst C (1 : Int32) dX10_number_9 rfl ?_
    obtain ⟨r13, σ14, hc12, hf⟩ := bI_elim hf
    refine kw_callVI C [.int (1 : Int32)] (kX10_wrong L D g t0 (1 : Int32) σ _ _ hc12) RX10 mV_X10_193 ⟨rfl, rfl⟩ dd_X10_wrong ⟨Nat.le_of_ble_eq_true rfl, Nat.le_of_ble_eq_true rfl⟩ _ (hO10 g σ) rfl rfl rfl (Nat.le_of_ble_eq_true rfl) dX10_number_10 ?_
    obtain ⟨h15, hf⟩ := gd_elim hf
    exact kw_zret C K h15 dX10_number_13 hf
set_option maxRecDepth 100000 in
set_option maxHeartbeats 4000000 in
theorem kX10_houseLine (L : Launch) (D : va_G) (g : GwT) (t0 : Nat) (σ : St) (r0 : Int32) (σ0 : St) (hf : fX10_houseLine σ  = some (r0, σ0)) : CtI L D (ttG g) (wM g) t0 yX10_houseLine cX10_houseLine 2 (some .boolean) { frames := 3, cells := 0, slots := 0, locals := 70 } [.ref (g.1 0)] σ r0 σ0 := by
  refine CtI.of (own := RX10) (by decide) rfl (Nat.le_of_ble_eq_true rfl) [(0, .ref (g.1 0))] rfl ?_
  intro X C hN K
  unfold fX10_houseLine at hf
  refine kw_aload_n C dX10_houseLine_0 rfl 0 rfl ?_
  refine kw_get C inG10 _ (hO10 g σ) rfl 15 (Nat.le_of_ble_eq_true rfl) mf_10_213 rfl rfl dX10_houseLine_1 ?_
  refine kw_bipush C (6 : Int32) dX10_houseLine_4 rfl ?_
  refine kw_icmp_ne C 15 dX10_houseLine_6 rfl (fun c1 => ?_) (fun c1 => ?_)
  · have hf := if_n c1 hf
    refine kw_aload_n C dX10_houseLine_15 rfl 0 rfl ?_
    obtain ⟨σ3, hc2, hf⟩ := bV_elim hf
    refine kw_callVV C [] (kX10_token L D g t0 σ _ hc2) RX10 mV_X10_203 ⟨rfl, rfl⟩ dd_X10_token ⟨Nat.le_of_ble_eq_true rfl, Nat.le_of_ble_eq_true rfl⟩ _ (hO10 g σ) rfl rfl rfl (Nat.le_of_ble_eq_true rfl) dX10_houseLine_16 ?_
    refine kw_aload_n C dX10_houseLine_19 rfl 0 rfl ?_
    refine kw_aload_n C dX10_houseLine_20 rfl 0 rfl ?_
    refine kw_get C inG10 _ (hO10 g σ3) rfl 20 (Nat.le_of_ble_eq_true rfl) mf_10_27 rfl rfl dX10_houseLine_21 ?_
    refine kw_bipush C (6 : Int32) dX10_houseLine_24 rfl ?_
    refine kw_aload_n C dX10_houseLine_26 rfl 0 rfl ?_
    refine kw_get C inG10 _ (hO10 g σ3) rfl 15 (Nat.le_of_ble_eq_true rfl) mf_10_213 rfl rfl dX10_houseLine_27 ?_
    obtain ⟨r5, σ6, hc4, hf⟩ := bI_elim hf
    refine kw_callVI C [.ref (g.2.1 0 20), .int (6 : Int32), .int (gI σ3 0 15)] (kX10_newName_a10_20 L D g t0 (6 : Int32) (gI σ3 0 15) σ3 _ _ hc4) RX10 mV_X10_245 ⟨rfl, rfl⟩ dd_X10_newName ⟨Nat.le_of_ble_eq_true rfl, Nat.le_of_ble_eq_true rfl⟩ _ (hO10 g σ3) rfl rfl rfl (Nat.le_of_ble_eq_true rfl) dX10_houseLine_30 ?_
    refine kw_if_ne C 38 dX10_houseLine_33 rfl (fun c7 => ?_) (fun c7 => ?_)
    · have hf := if_n c7 hf
      refine kw_bipush C (6 : Int32) dX10_houseLine_38 rfl ?_
      refine kw_aload_n C dX10_houseLine_40 rfl 0 rfl ?_
      refine kw_get C inG10 _ (hO10 g σ6) rfl 15 (Nat.le_of_ble_eq_true rfl) mf_10_213 rfl rfl dX10_houseLine_41 ?_
      refine kw_iadd C dX10_houseLine_44 ?_
      obtain ⟨x8, ex8, hf⟩ := lt_elim hf
      refine kw_topi ex8 ?_
      refine kw_istore_n C dX10_houseLine_45 rfl hN (Nat.le_of_ble_eq_true rfl) [(1, .int x8), (0, .ref (g.1 0))] rfl ?_
      refine kw_aload_n C dX10_houseLine_46 rfl 1 rfl ?_
      refine kw_iconst C (0 : Int32) dX10_houseLine_47 rfl ?_
      refine kw_sipush C (999 : Int32) dX10_houseLine_48 rfl ?_
      obtain ⟨r10, σ11, hc9, hf⟩ := bI_elim hf
      refine kw_callVI C [.int (0 : Int32), .int (999 : Int32)] (kX10_number L D g t0 (0 : Int32) (999 : Int32) σ6 _ _ hc9) RX10 mV_X10_209 ⟨rfl, rfl⟩ dd_X10_number ⟨Nat.le_of_ble_eq_true rfl, Nat.le_of_ble_eq_true rfl⟩ _ (hO10 g σ6) rfl rfl rfl (Nat.le_of_ble_eq_true rfl) dX10_houseLine_51 ?_
      refine kw_if_ne C 59 dX10_houseLine_54 rfl (fun c12 => ?_) (fun c12 => ?_)
      · have hf := if_n c12 hf
        refine kw_aload_n C dX10_houseLine_59 rfl 1 rfl ?_
        refine kw_get C inG10 _ (hO10 g σ11) rfl 21 (Nat.le_of_ble_eq_true rfl) mf_10_30 rfl rfl dX10_houseLine_60 ?_
        refine kw_iload_n C dX10_houseLine_63 rfl 0 rfl ?_
        refine kw_aload_n C dX10_houseLine_64 rfl 1 rfl ?_
        refine kw_get C inG10 _ (hO10 g σ11) rfl 11 (Nat.le_of_ble_eq_true rfl) mf_10_200 rfl rfl dX10_houseLine_65 ?_
        obtain ⟨h13, hf⟩ := gd_elim hf
        obtain ⟨σ14, eσ14, hf⟩ := lt_elim hf
        refine kw_iast C _ 0 (hA10_21 g σ11) rfl h13 ((hS10_21 g σ11 _).trans (congrArg (wM g) eσ14.symm)) dX10_houseLine_68 ?_
        refine kw_aload_n C dX10_houseLine_69 rfl 1 rfl ?_
        refine kw_iconst C (0 : Int32) dX10_houseLine_70 rfl ?_
        refine kw_sipush C (999 : Int32) dX10_houseLine_71 rfl ?_
        obtain ⟨r16, σ17, hc15, hf⟩ := bI_elim hf
        refine kw_callVI C [.int (0 : Int32), .int (999 : Int32)] (kX10_number L D g t0 (0 : Int32) (999 : Int32) σ14 _ _ hc15) RX10 mV_X10_209 ⟨rfl, rfl⟩ dd_X10_number ⟨Nat.le_of_ble_eq_true rfl, Nat.le_of_ble_eq_true rfl⟩ _ (hO10 g σ14) rfl rfl rfl (Nat.le_of_ble_eq_true rfl) dX10_houseLine_74 ?_
        refine kw_if_ne C 82 dX10_houseLine_77 rfl (fun c18 => ?_) (fun c18 => ?_)
        · have hf := if_n c18 hf
          refine kw_aload_n C dX10_houseLine_82 rfl 1 rfl ?_
          refine kw_get C inG10 _ (hO10 g σ17) rfl 22 (Nat.le_of_ble_eq_true rfl) mf_10_33 rfl rfl dX10_houseLine_83 ?_
          refine kw_iload_n C dX10_houseLine_86 rfl 0 rfl ?_
          refine kw_aload_n C dX10_houseLine_87 rfl 1 rfl ?_
          refine kw_get C inG10 _ (hO10 g σ17) rfl 11 (Nat.le_of_ble_eq_true rfl) mf_10_200 rfl rfl dX10_houseLine_88 ?_
          obtain ⟨h19, hf⟩ := gd_elim hf
          obtain ⟨σ20, eσ20, hf⟩ := lt_elim hf
          refine kw_iast C _ 0 (hA10_22 g σ17) rfl h19 ((hS10_22 g σ17 _).trans (congrArg (wM g) eσ20.symm)) dX10_houseLine_91 ?_
          refine kw_aload_n C dX10_houseLine_92 rfl 1 rfl ?_
          refine kw_iconst C (1 : Int32) dX10_houseLine_93 rfl ?_
          refine kw_bipush C (99 : Int32) dX10_houseLine_94 rfl ?_
          obtain ⟨r22, σ23, hc21, hf⟩ := bI_elim hf
          refine kw_callVI C [.int (1 : Int32), .int (99 : Int32)] (kX10_number L D g t0 (1 : Int32) (99 : Int32) σ20 _ _ hc21) RX10 mV_X10_209 ⟨rfl, rfl⟩ dd_X10_number ⟨Nat.le_of_ble_eq_true rfl, Nat.le_of_ble_eq_true rfl⟩ _ (hO10 g σ20) rfl rfl rfl (Nat.le_of_ble_eq_true rfl) dX10_houseLine_96 ?_
          refine kw_if_ne C 104 dX10_houseLine_99 rfl (fun c24 => ?_) (fun c24 => ?_)
          · have hf := if_n c24 hf
            refine kw_aload_n C dX10_houseLine_104 rfl 1 rfl ?_
            refine kw_get C inG10 _ (hO10 g σ23) rfl 23 (Nat.le_of_ble_eq_true rfl) mf_10_36 rfl rfl dX10_houseLine_105 ?_
            refine kw_iload_n C dX10_houseLine_108 rfl 0 rfl ?_
            refine kw_aload_n C dX10_houseLine_109 rfl 1 rfl ?_
            refine kw_get C inG10 _ (hO10 g σ23) rfl 11 (Nat.le_of_ble_eq_true rfl) mf_10_200 rfl rfl dX10_houseLine_110 ?_
            obtain ⟨h25, hf⟩ := gd_elim hf
            obtain ⟨σ26, eσ26, hf⟩ := lt_elim hf
            refine kw_iast C _ 0 (hA10_23 g σ23) rfl h25 ((hS10_23 g σ23 _).trans (congrArg (wM g) eσ26.symm)) dX10_houseLine_113 ?_
            refine kw_aload_n C dX10_houseLine_114 rfl 1 rfl ?_
            refine kw_iconst C (0 : Int32) dX10_houseLine_115 rfl ?_
            refine kw_bipush C (99 : Int32) dX10_houseLine_116 rfl ?_
            obtain ⟨r28, σ29, hc27, hf⟩ := bI_elim hf
            refine kw_callVI C [.int (0 : Int32), .int (99 : Int32)] (kX10_number L D g t0 (0 : Int32) (99 : Int32) σ26 _ _ hc27) RX10 mV_X10_209 ⟨rfl, rfl⟩ dd_X10_number ⟨Nat.le_of_ble_eq_true rfl, Nat.le_of_ble_eq_true rfl⟩ _ (hO10 g σ26) rfl rfl rfl (Nat.le_of_ble_eq_true rfl) dX10_houseLine_118 ?_
            refine kw_if_ne C 126 dX10_houseLine_121 rfl (fun c30 => ?_) (fun c30 => ?_)
            · have hf := if_n c30 hf
              refine kw_aload_n C dX10_houseLine_126 rfl 1 rfl ?_
              refine kw_get C inG10 _ (hO10 g σ29) rfl 24 (Nat.le_of_ble_eq_true rfl) mf_10_39 rfl rfl dX10_houseLine_127 ?_
              refine kw_iload_n C dX10_houseLine_130 rfl 0 rfl ?_
              refine kw_aload_n C dX10_houseLine_131 rfl 1 rfl ?_
              refine kw_get C inG10 _ (hO10 g σ29) rfl 11 (Nat.le_of_ble_eq_true rfl) mf_10_200 rfl rfl dX10_houseLine_132 ?_
              obtain ⟨h31, hf⟩ := gd_elim hf
              obtain ⟨σ32, eσ32, hf⟩ := lt_elim hf
              refine kw_iast C _ 0 (hA10_24 g σ29) rfl h31 ((hS10_24 g σ29 _).trans (congrArg (wM g) eσ32.symm)) dX10_houseLine_135 ?_
              refine kw_aload_n C dX10_houseLine_136 rfl 1 rfl ?_
              refine kw_iconst C (0 : Int32) dX10_houseLine_137 rfl ?_
              refine kw_bipush C (9 : Int32) dX10_houseLine_138 rfl ?_
              obtain ⟨r34, σ35, hc33, hf⟩ := bI_elim hf
              refine kw_callVI C [.int (0 : Int32), .int (9 : Int32)] (kX10_number L D g t0 (0 : Int32) (9 : Int32) σ32 _ _ hc33) RX10 mV_X10_209 ⟨rfl, rfl⟩ dd_X10_number ⟨Nat.le_of_ble_eq_true rfl, Nat.le_of_ble_eq_true rfl⟩ _ (hO10 g σ32) rfl rfl rfl (Nat.le_of_ble_eq_true rfl) dX10_houseLine_140 ?_
              refine kw_if_ne C 148 dX10_houseLine_143 rfl (fun c36 => ?_) (fun c36 => ?_)
              · have hf := if_n c36 hf
                refine kw_aload_n C dX10_houseLine_148 rfl 1 rfl ?_
                refine kw_get C inG10 _ (hO10 g σ35) rfl 25 (Nat.le_of_ble_eq_true rfl) mf_10_42 rfl rfl dX10_houseLine_149 ?_
                refine kw_iload_n C dX10_houseLine_152 rfl 0 rfl ?_
                refine kw_aload_n C dX10_houseLine_153 rfl 1 rfl ?_
                refine kw_get C inG10 _ (hO10 g σ35) rfl 11 (Nat.le_of_ble_eq_true rfl) mf_10_200 rfl rfl dX10_houseLine_154 ?_
                obtain ⟨h37, hf⟩ := gd_elim hf
                obtain ⟨σ38, eσ38, hf⟩ := lt_elim hf
                refine kw_iast C _ 0 (hA10_25 g σ35) rfl h37 ((hS10_25 g σ35 _).trans (congrArg (wM g) eσ38.symm)) dX10_houseLine_157 ?_
                refine kw_aload_n C dX10_houseLine_158 rfl 1 rfl ?_
                refine kw_dup C dX10_houseLine_159 rfl ?_
                refine kw_get C inG10 _ (hO10 g σ38) rfl 15 (Nat.le_of_ble_eq_true rfl) mf_10_213 rfl rfl dX10_houseLine_160 ?_
                refine kw_iconst C (1 : Int32) dX10_houseLine_163 rfl ?_
                refine kw_iadd C dX10_houseLine_164 ?_
                obtain ⟨σ39, eσ39, hf⟩ := lt_elim hf
                refine kw_put C inG10 tyX10 tyX10_ok nmX10 _ (hO10 g σ38) rfl 15 (Nat.le_of_ble_eq_true rfl) mf_10_213 rfl rfl (tyX10_ok 15 (Nat.le_of_ble_eq_true rfl)) rfl rfl (Nat.le_of_ble_eq_true rfl) ((hF10_15 g σ38 _).trans (congrArg (wM g) eσ39.symm)) dX10_houseLine_165 ?_
                refine kw_iconst C (1 : Int32) dX10_houseLine_168 rfl ?_
                exact kw_zret C K (by decide) dX10_houseLine_169 hf
              · have hf := if_p c36 hf
                refine kw_iconst C (0 : Int32) dX10_houseLine_146 rfl ?_
                exact kw_zret C K (by decide) dX10_houseLine_147 hf
            · have hf := if_p c30 hf
              refine kw_iconst C (0 : Int32) dX10_houseLine_124 rfl ?_
              exact kw_zret C K (by decide) dX10_houseLine_125 hf
          · have hf := if_p c24 hf
            refine kw_iconst C (0 : Int32) dX10_houseLine_102 rfl ?_
            exact kw_zret C K (by decide) dX10_houseLine_103 hf
        · have hf := if_p c18 hf
          refine kw_iconst C (0 : Int32) dX10_houseLine_80 rfl ?_
          exact kw_zret C K (by decide) dX10_houseLine_81 hf
      · have hf := if_p c12 hf
        refine kw_iconst C (0 : Int32) dX10_houseLine_57 rfl ?_
        exact kw_zret C K (by decide) dX10_houseLine_58 hf
    · have hf := if_p c7 hf
      refine kw_iconst C (0 : Int32) dX10_houseLine_36 rfl ?_
      exact kw_zret C K (by decide) dX10_houseLine_37 hf
  · have hf := if_p c1 hf
    refine kw_aload_n C dX10_houseLine_9 rfl 0 rfl ?_
    refine kw_iconst C (2 : Int32) dX10_houseLine_10 rfl ?_
    obtain ⟨r41, σ42, hc40, hf⟩ := bI_elim hf
    refine kw_callVI C [.int (2 : Int32)] (kX10_wrong L D g t0 (2 : Int32) σ _ _ hc40) RX10 mV_X10_193 ⟨rfl, rfl⟩ dd_X10_wrong ⟨Nat.le_of_ble_eq_true rfl, Nat.le_of_ble_eq_true rfl⟩ _ (hO10 g σ) rfl rfl rfl (Nat.le_of_ble_eq_true rfl) dX10_houseLine_11 ?_
    obtain ⟨h43, hf⟩ := gd_elim hf
    exact kw_zret C K h43 dX10_houseLine_14 hf
