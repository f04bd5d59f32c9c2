set_option maxRecDepth 100000 in
set_option maxHeartbeats 4000000 in
theorem kX10_fits (L : Launch) (D : va_G) (g : GwT) (t0 : Nat) (p0 : Int32) (p1 : Int32) (σ : St) (r0 : Int32) (σ0 : St) (hf : fX10_fits σ p0 p1 = some (r0, σ0)) : CtI L D (ttG g) (wM g) t0 yX10_fits cX10_fits 4 (some .boolean) { frames := 7, cells := 0, slots := 0, locals := 166 } [.ref (g.1 0), .int p0, .int p1] σ r0 σ0 := by
  refine CtI.of (own := RX10) (by decide) rfl (Nat.le_of_ble_eq_true rfl) [(0, .ref (g.1 0)), (1, .int p0), (2, .int p1)] rfl ?_
  intro X C hN K
  unfold fX10_fits at hf
  refine kw_aload_n C dX10_fits_0 rfl 0 rfl ?_
  refine kw_iconst C (1 : Int32) dX10_fits_1 rfl ?_
  obtain ⟨σ2, hc1, hf⟩ := bV_elim hf
  refine kw_callVV C [.int (1 : Int32)] (kX10_atFirst L D g t0 (1 : Int32) σ _ hc1) RX10 mV_X10_334 ⟨rfl, rfl⟩ dd_X10_atFirst ⟨Nat.le_of_ble_eq_true rfl, Nat.le_of_ble_eq_true rfl⟩ _ (hO10 g σ) rfl rfl rfl (Nat.le_of_ble_eq_true rfl) dX10_fits_2 ?_
  refine kw_aload_n C dX10_fits_5 rfl 0 rfl ?_
  obtain ⟨σ4, hc3, hf⟩ := bV_elim hf
  refine kw_callVV C [] (kX10_plainTried L D g t0 σ2 _ hc3) RX10 mV_X10_341 ⟨rfl, rfl⟩ dd_X10_plainTried ⟨Nat.le_of_ble_eq_true rfl, Nat.le_of_ble_eq_true rfl⟩ _ (hO10 g σ2) rfl rfl rfl (Nat.le_of_ble_eq_true rfl) dX10_fits_6 ?_
  refine kw_aload_n C dX10_fits_9 rfl 0 rfl ?_
  refine kw_get C inG10 _ (hO10 g σ4) rfl 46 (Nat.le_of_ble_eq_true rfl) mf_10_85 rfl rfl dX10_fits_10 ?_
  refine kw_bipush C (6 : Int32) dX10_fits_13 rfl ?_
  refine kw_iload_n C dX10_fits_15 rfl 1 rfl ?_
  refine kw_iadd C dX10_fits_16 ?_
  refine kw_iload_n C dX10_fits_17 rfl 2 rfl ?_
  obtain ⟨h5, hf⟩ := gd_elim hf
  obtain ⟨σ6, eσ6, hf⟩ := lt_elim hf
  refine kw_iast C _ 0 (hA10_46 g σ4) rfl h5 ((hS10_46 g σ4 _).trans (congrArg (wM g) eσ6.symm)) dX10_fits_18 ?_
  refine kw_iconst C (1 : Int32) dX10_fits_19 rfl ?_
  refine kw_istore_n C dX10_fits_20 rfl hN (Nat.le_of_ble_eq_true rfl) [(3, .int (1 : Int32)), (0, .ref (g.1 0)), (1, .int p0), (2, .int p1)] rfl ?_
  refine kw_sub [1, 0] _ rfl ?_
  refine lpx2_walk (P := fun (x7 : Int32) (σ8 : St) => KW X σ8 21 [(0, .ref (g.1 0)), (3, .int x7)] []) ?_ FU _ _ hf
  intro self9 x7 σ8 ih10 hf
  refine kw_iload_n C dX10_fits_21 rfl 1 rfl ?_
  refine kw_bipush C (99 : Int32) dX10_fits_22 rfl ?_
  refine kw_icmp_gt C 48 dX10_fits_24 rfl (fun c11 => ?_) (fun c11 => ?_)
  · have hf := if_p c11 hf
    refine kw_iconst C (1 : Int32) dX10_fits_48 rfl ?_
    exact kw_zret C K (by decide) dX10_fits_49 hf
  · have hf := if_n c11 hf
    refine kw_aload_n C dX10_fits_27 rfl 0 rfl ?_
    refine kw_iconst C (1 : Int32) dX10_fits_28 rfl ?_
    obtain ⟨σ13, hc12, hf⟩ := bV_elim hf
    refine kw_callVV C [.int (1 : Int32)] (kX10_yearGoes L D g t0 (1 : Int32) σ8 _ hc12) RX10 mV_X10_433 ⟨rfl, rfl⟩ dd_X10_yearGoes ⟨Nat.le_of_ble_eq_true rfl, Nat.le_of_ble_eq_true rfl⟩ _ (hO10 g σ8) rfl rfl rfl (Nat.le_of_ble_eq_true rfl) dX10_fits_29 ?_
    refine kw_aload_n C dX10_fits_32 rfl 0 rfl ?_
    refine kw_iload_n C dX10_fits_33 rfl 1 rfl ?_
    obtain ⟨r15, hc14, hf⟩ := bd_elim hf
    refine kw_callVI C [.int x7] (kX10_isSo L D g t0 x7 σ13 _ hc14) RX10 mV_X10_493 ⟨rfl, rfl⟩ dd_X10_isSo ⟨Nat.le_of_ble_eq_true rfl, Nat.le_of_ble_eq_true rfl⟩ _ (hO10 g σ13) rfl rfl rfl (Nat.le_of_ble_eq_true rfl) dX10_fits_34 ?_
    refine kw_if_ne C 42 dX10_fits_37 rfl (fun c16 => ?_) (fun c16 => ?_)
    · have hf := if_n c16 hf
      obtain ⟨x17, ex17, hf⟩ := lt_elim hf
      refine kw_iinc C x17 dX10_fits_42 1 rfl ex17.symm hN (Nat.le_of_ble_eq_true rfl) [(3, .int x17), (0, .ref (g.1 0))] rfl ?_
      refine kw_goto C 21 dX10_fits_45 rfl ?_
      refine kw_sub [1, 0] _ rfl ?_
      exact ih10 _ _ hf
    · have hf := if_p c16 hf
      refine kw_iconst C (0 : Int32) dX10_fits_40 rfl ?_
      exact kw_zret C K (by decide) dX10_fits_41 hf
set_option maxRecDepth 100000 in
set_option maxHeartbeats 4000000 in
theorem kX10_bounds (L : Launch) (D : va_G) (g : GwT) (t0 : Nat) (p0 : Int32) (σ : St) (r0 : Int32) (σ0 : St) (hf : fX10_bounds σ p0 = some (r0, σ0)) : CtI L D (ttG g) (wM g) t0 yX10_bounds cX10_bounds 4 (some .int) { frames := 8, cells := 0, slots := 0, locals := 189 } [.ref (g.1 0), .int p0] σ r0 σ0 := by
  refine CtI.of (own := RX10) (by decide) rfl (Nat.le_of_ble_eq_true rfl) [(0, .ref (g.1 0)), (1, .int p0)] rfl ?_
  intro X C hN K
  unfold fX10_bounds at hf
  refine kw_aload_n C dX10_bounds_0 rfl 0 rfl ?_
  refine kw_iconst C (0 : Int32) dX10_bounds_1 rfl ?_
  obtain ⟨σ1, eσ1, hf⟩ := lt_elim hf
  refine kw_put C inG10 tyX10 tyX10_ok nmX10 _ (hO10 g σ) rfl 2 (Nat.le_of_ble_eq_true rfl) mf_10_151 rfl rfl (tyX10_ok 2 (Nat.le_of_ble_eq_true rfl)) rfl rfl (Nat.le_of_ble_eq_true rfl) ((hF10_2 g σ _).trans (congrArg (wM g) eσ1.symm)) dX10_bounds_2 ?_
  refine kw_aload_n C dX10_bounds_5 rfl 0 rfl ?_
  refine kw_iload_n C dX10_bounds_6 rfl 1 rfl ?_
  obtain ⟨r3, hc2, hf⟩ := bd_elim hf
  refine kw_callVI C [.int p0] (kX10_isHouse L D g t0 p0 σ1 _ hc2) RX10 mV_X10_368 ⟨rfl, rfl⟩ dd_X10_isHouse ⟨Nat.le_of_ble_eq_true rfl, Nat.le_of_ble_eq_true rfl⟩ _ (hO10 g σ1) rfl rfl rfl (Nat.le_of_ble_eq_true rfl) dX10_bounds_7 ?_
  refine kw_if_ne C 15 dX10_bounds_10 rfl (fun c4 => ?_) (fun c4 => ?_)
  · have hf := if_n c4 hf
    refine kw_iconst C (0 : Int32) dX10_bounds_15 rfl ?_
    refine kw_istore_n C dX10_bounds_16 rfl hN (Nat.le_of_ble_eq_true rfl) [(2, .int (0 : Int32)), (0, .ref (g.1 0)), (1, .int p0)] rfl ?_
    refine kw_sub [1, 2, 0] _ rfl ?_
    refine lpx2_walk (P := fun (x5 : Int32) (σ6 : St) => KW X σ6 17 [(0, .ref (g.1 0)), (1, .int p0), (2, .int x5)] []) ?_ FU _ _ hf
    intro self7 x5 σ6 ih8 hf
    refine kw_iload_n C dX10_bounds_17 rfl 2 rfl ?_
    refine kw_aload_n C dX10_bounds_18 rfl 0 rfl ?_
    obtain ⟨r10, hc9, hf⟩ := bd_elim hf
    refine kw_callVI C [] (kX10_knownBy L D g t0 σ6 _ hc9) RX10 mV_X10_490 ⟨rfl, rfl⟩ dd_X10_knownBy ⟨Nat.le_of_ble_eq_true rfl, Nat.le_of_ble_eq_true rfl⟩ _ (hO10 g σ6) rfl rfl rfl (Nat.le_of_ble_eq_true rfl) dX10_bounds_19 ?_
    refine kw_icmp_ge C 38 dX10_bounds_22 rfl (fun c11 => ?_) (fun c11 => ?_)
    · have hf := if_p c11 hf
      refine kw_aload_n C dX10_bounds_38 rfl 0 rfl ?_
      obtain ⟨r13, hc12, hf⟩ := bd_elim hf
      refine kw_callVI C [] (kX10_knownBy L D g t0 σ6 _ hc12) RX10 mV_X10_490 ⟨rfl, rfl⟩ dd_X10_knownBy ⟨Nat.le_of_ble_eq_true rfl, Nat.le_of_ble_eq_true rfl⟩ _ (hO10 g σ6) rfl rfl rfl (Nat.le_of_ble_eq_true rfl) dX10_bounds_39 ?_
      refine kw_iconst C (1 : Int32) dX10_bounds_42 rfl ?_
      refine kw_isub C dX10_bounds_43 ?_
      obtain ⟨x14, ex14, hf⟩ := lt_elim hf
      refine kw_topi ex14 ?_
      refine kw_istore_n C dX10_bounds_44 rfl hN (Nat.le_of_ble_eq_true rfl) [(2, .int x14), (0, .ref (g.1 0)), (1, .int p0)] rfl ?_
      refine kw_sub [1, 2, 0] _ rfl ?_
      refine lpx2_walk (P := fun (x15 : Int32) (σ16 : St) => KW X σ16 45 [(0, .ref (g.1 0)), (1, .int p0), (2, .int x15)] []) ?_ FU _ _ hf
      intro self17 x15 σ16 ih18 hf
      refine kw_iload_n C dX10_bounds_45 rfl 2 rfl ?_
      refine kw_if_lt C 91 dX10_bounds_46 rfl (fun c19 => ?_) (fun c19 => ?_)
      · have hf := if_p c19 hf
        refine kw_iconst C (0 : Int32) dX10_bounds_91 rfl ?_
        refine kw_istore_n C dX10_bounds_92 rfl hN (Nat.le_of_ble_eq_true rfl) [(2, .int (0 : Int32)), (0, .ref (g.1 0)), (1, .int p0)] rfl ?_
        refine kw_iconst C (0 : Int32) dX10_bounds_93 rfl ?_
        refine kw_istore_n C dX10_bounds_94 rfl hN (Nat.le_of_ble_eq_true rfl) [(3, .int (0 : Int32)), (2, .int (0 : Int32)), (0, .ref (g.1 0)), (1, .int p0)] rfl ?_
        refine kw_sub [2, 3, 1, 0] _ rfl ?_
        refine lpx3_walk (P := fun (x20 : Int32) (x21 : Int32) (σ22 : St) => KW X σ22 95 [(0, .ref (g.1 0)), (1, .int p0), (2, .int x20), (3, .int x21)] []) ?_ FU _ _ _ hf
        intro self23 x20 x21 σ22 ih24 hf
        refine kw_iload_n C dX10_bounds_95 rfl 3 rfl ?_
        refine kw_bipush C (10 : Int32) dX10_bounds_96 rfl ?_
        refine kw_icmp_ge C 129 dX10_bounds_98 rfl (fun c25 => ?_) (fun c25 => ?_)
        · have hf := if_p c25 hf
          refine kw_iload_n C dX10_bounds_129 rfl 2 rfl ?_
          exact kw_iret C K dX10_bounds_130 hf
        · have hf := if_n c25 hf
          refine kw_iload_n C dX10_bounds_101 rfl 2 rfl ?_
          refine kw_aload_n C dX10_bounds_102 rfl 0 rfl ?_
          refine kw_iload_n C dX10_bounds_103 rfl 1 rfl ?_
          refine kw_bipush C (20 : Int32) dX10_bounds_104 rfl ?_
          refine kw_iload_n C dX10_bounds_106 rfl 3 rfl ?_
          refine kw_imul C dX10_bounds_107 ?_
          obtain ⟨r27, σ28, hc26, hf⟩ := bI_elim hf
          refine kw_callVI C [.int p0, .int ((20 : Int32) * x21)] (kX10_fits L D g t0 p0 ((20 : Int32) * x21) σ22 _ _ hc26) RX10 mV_X10_496 ⟨rfl, rfl⟩ dd_X10_fits ⟨Nat.le_of_ble_eq_true rfl, Nat.le_of_ble_eq_true rfl⟩ _ (hO10 g σ22) rfl rfl rfl (Nat.le_of_ble_eq_true rfl) dX10_bounds_108 ?_
          obtain ⟨J30, hJ30, hf⟩ := jnx1_elim hf
          have kJ30 : ∀ (x29 : Int32), J30 x29 = some (r0, σ0) → KW X σ28 121 [(0, .ref (g.1 0)), (1, .int p0), (3, .int x21)] [.int x29, .int x20] := by
            clear hf
            intro x29 hf
            have hf := (hJ30 x29).symm.trans hf
            refine kw_ior C dX10_bounds_121 ?_
            obtain ⟨x31, ex31, hf⟩ := lt_elim hf
            refine kw_topi ex31 ?_
            refine kw_istore_n C dX10_bounds_122 rfl hN (Nat.le_of_ble_eq_true rfl) [(2, .int x31), (0, .ref (g.1 0)), (1, .int p0), (3, .int x21)] rfl ?_
            obtain ⟨x32, ex32, hf⟩ := lt_elim hf
            refine kw_iinc C x32 dX10_bounds_123 3 rfl ex32.symm hN (Nat.le_of_ble_eq_true rfl) [(3, .int x32), (2, .int x31), (0, .ref (g.1 0)), (1, .int p0)] rfl ?_
            refine kw_goto C 95 dX10_bounds_126 rfl ?_
            refine kw_sub [2, 3, 1, 0] _ rfl ?_
            exact ih24 _ _ _ hf
          refine kw_if_eq C 120 dX10_bounds_111 rfl (fun c33 => ?_) (fun c33 => ?_)
          · have hf := if_p c33 hf
            refine kw_iconst C (0 : Int32) dX10_bounds_120 rfl ?_
            refine kw_sub [0, 1, 3] _ rfl ?_
            exact kJ30 _ hf
          · have hf := if_n c33 hf
            refine kw_iconst C (1 : Int32) dX10_bounds_114 rfl ?_
            refine kw_iload_n C dX10_bounds_115 rfl 3 rfl ?_
            refine kw_ishl C dX10_bounds_116 ?_
            refine kw_goto C 121 dX10_bounds_117 rfl ?_
            refine kw_sub [0, 1, 3] _ rfl ?_
            exact kJ30 _ hf
      · have hf := if_n c19 hf
        refine kw_aload_n C dX10_bounds_49 rfl 0 rfl ?_
        refine kw_get C inG10 _ (hO10 g σ16) rfl 70 (Nat.le_of_ble_eq_true rfl) mf_10_133 rfl rfl dX10_bounds_50 ?_
        refine kw_iload_n C dX10_bounds_53 rfl 2 rfl ?_
        obtain ⟨h34, hf⟩ := gd_elim hf
        refine kw_zald C _ 3 (hA10_70 g σ16) rfl h34 dX10_bounds_54 ?_
        obtain ⟨J36, hJ36, hf⟩ := jnx1_elim hf
        have kJ36 : ∀ (σ35 : St), J36 σ35 = some (r0, σ0) → KW X σ35 85 [(0, .ref (g.1 0)), (1, .int p0), (2, .int x15)] [] := by
          clear hf
          intro σ35 hf
          have hf := (hJ36 σ35).symm.trans hf
          obtain ⟨x37, ex37, hf⟩ := lt_elim hf
          refine kw_iinc C x37 dX10_bounds_85 2 rfl ex37.symm hN (Nat.le_of_ble_eq_true rfl) [(2, .int x37), (0, .ref (g.1 0)), (1, .int p0)] rfl ?_
          refine kw_goto C 45 dX10_bounds_88 rfl ?_
          refine kw_sub [1, 2, 0] _ rfl ?_
          exact ih18 _ _ hf
        refine kw_if_eq C 85 dX10_bounds_55 rfl (fun c38 => ?_) (fun c38 => ?_)
        · have hf := if_p c38 hf
          exact kJ36 _ hf
        · have hf := if_n c38 hf
          refine kw_aload_n C dX10_bounds_58 rfl 0 rfl ?_
          refine kw_get C inG10 _ (hO10 g σ16) rfl 69 (Nat.le_of_ble_eq_true rfl) mf_10_130 rfl rfl dX10_bounds_59 ?_
          refine kw_iconst C (3 : Int32) dX10_bounds_62 rfl ?_
          refine kw_iload_n C dX10_bounds_63 rfl 2 rfl ?_
          refine kw_imul C dX10_bounds_64 ?_
          obtain ⟨h39, hf⟩ := gd_elim hf
          refine kw_iald C _ 0 (hA10_69 g σ16) rfl h39 dX10_bounds_65 ?_
          refine kw_if_ge C 85 dX10_bounds_66 rfl (fun c40 => ?_) (fun c40 => ?_)
          · have hf := if_p c40 hf
            exact kJ36 _ hf
          · have hf := if_n c40 hf
            refine kw_aload_n C dX10_bounds_69 rfl 0 rfl ?_
            refine kw_get C inG10 _ (hO10 g σ16) rfl 70 (Nat.le_of_ble_eq_true rfl) mf_10_133 rfl rfl dX10_bounds_70 ?_
            refine kw_aload_n C dX10_bounds_73 rfl 0 rfl ?_
            refine kw_get C inG10 _ (hO10 g σ16) rfl 69 (Nat.le_of_ble_eq_true rfl) mf_10_130 rfl rfl dX10_bounds_74 ?_
            refine kw_iconst C (3 : Int32) dX10_bounds_77 rfl ?_
            refine kw_iload_n C dX10_bounds_78 rfl 2 rfl ?_
            refine kw_imul C dX10_bounds_79 ?_
            refine kw_iconst C (1 : Int32) dX10_bounds_80 rfl ?_
            refine kw_iadd C dX10_bounds_81 ?_
            obtain ⟨h41, hf⟩ := gd_elim hf
            refine kw_iald C _ 0 (hA10_69 g σ16) rfl h41 dX10_bounds_82 ?_
            refine kw_iconst C (0 : Int32) dX10_bounds_83 rfl ?_
            obtain ⟨h42, hf⟩ := gd_elim hf
            obtain ⟨σ43, eσ43, hf⟩ := lt_elim hf
            refine kw_zast C _ 3 (hA10_70 g σ16) rfl h42 ((hS10_70 g σ16 _).trans (congrArg (wM g) eσ43.symm)) dX10_bounds_84 ?_
            exact kJ36 _ hf
    · have hf := if_n c11 hf
      refine kw_aload_n C dX10_bounds_25 rfl 0 rfl ?_
      refine kw_get C inG10 _ (hO10 g σ6) rfl 70 (Nat.le_of_ble_eq_true rfl) mf_10_133 rfl rfl dX10_bounds_26 ?_
      refine kw_iload_n C dX10_bounds_29 rfl 2 rfl ?_
      refine kw_iconst C (1 : Int32) dX10_bounds_30 rfl ?_
      obtain ⟨h44, hf⟩ := gd_elim hf
      obtain ⟨σ45, eσ45, hf⟩ := lt_elim hf
      refine kw_zast C _ 3 (hA10_70 g σ6) rfl h44 ((hS10_70 g σ6 _).trans (congrArg (wM g) eσ45.symm)) dX10_bounds_31 ?_
      obtain ⟨x46, ex46, hf⟩ := lt_elim hf
      refine kw_iinc C x46 dX10_bounds_32 2 rfl ex46.symm hN (Nat.le_of_ble_eq_true rfl) [(2, .int x46), (0, .ref (g.1 0)), (1, .int p0)] rfl ?_
      refine kw_goto C 17 dX10_bounds_35 rfl ?_
      refine kw_sub [1, 2, 0] _ rfl ?_
      exact ih8 _ _ hf
  · have hf := if_p c4 hf
    refine kw_iconst C (-1 : Int32) dX10_bounds_13 rfl ?_
    exact kw_iret C K dX10_bounds_14 hf
set_option maxRecDepth 100000 in
set_option maxHeartbeats 4000000 in
theorem kX10_chance (L : Launch) (D : va_G) (g : GwT) (t0 : Nat) (p0 : Int32) (p1 : Int32) (p2 : Int32) (σ : St) (r0 : Int32) (σ0 : St) (hf : fX10_chance σ p0 p1 p2 = some (r0, σ0)) : CtI L D (ttG g) (wM g) t0 yX10_chance cX10_chance 8 (some .int) { frames := 8, cells := 0, slots := 0, locals := 188 } [.ref (g.1 0), .int p0, .int p1, .int p2] σ r0 σ0 := by
  refine CtI.of (own := RX10) (by decide) rfl (Nat.le_of_ble_eq_true rfl) [(0, .ref (g.1 0)), (1, .int p0), (2, .int p1), (3, .int p2)] rfl ?_
  intro X C hN K
  unfold fX10_chance at hf
  refine kw_aload_n C dX10_chance_0 rfl 0 rfl ?_
  refine kw_iconst C (0 : Int32) dX10_chance_1 rfl ?_
  obtain ⟨σ1, eσ1, hf⟩ := lt_elim hf
  refine kw_put C inG10 tyX10 tyX10_ok nmX10 _ (hO10 g σ) rfl 2 (Nat.le_of_ble_eq_true rfl) mf_10_151 rfl rfl (tyX10_ok 2 (Nat.le_of_ble_eq_true rfl)) rfl rfl (Nat.le_of_ble_eq_true rfl) ((hF10_2 g σ _).trans (congrArg (wM g) eσ1.symm)) dX10_chance_2 ?_
  refine kw_iload_n C dX10_chance_5 rfl 1 rfl ?_
  obtain ⟨J2, hJ2, hf⟩ := jnx1_elim hf
  have kJ2 : ∀ (u9 : Unit), J2 u9 = some (r0, σ0) → KW X σ1 27 [] [] := by
    clear hf
    intro u9 hf
    have hf := (hJ2 u9).symm.trans hf
    refine kw_iconst C (-1 : Int32) dX10_chance_27 rfl ?_
    exact kw_iret C K dX10_chance_28 hf
  refine kw_if_lt C 27 dX10_chance_6 rfl (fun c3 => ?_) (fun c3 => ?_)
  · have hf := if_p c3 hf
    refine kw_sub [] _ rfl ?_
    exact kJ2 _ hf
  · have hf := if_n c3 hf
    refine kw_iload_n C dX10_chance_9 rfl 2 rfl ?_
    refine kw_iconst C (1 : Int32) dX10_chance_10 rfl ?_
    refine kw_bipush C (99 : Int32) dX10_chance_11 rfl ?_
    obtain ⟨r5, hc4, hf⟩ := bd_elim hf
    refine kw_callSI C [.int p1, .int (1 : Int32), .int (99 : Int32)] (kX10_isIn L D g t0 p1 (1 : Int32) (99 : Int32) σ1 _ hc4) mS_X10_196 ⟨rfl, rfl⟩ dd_X10_isIn ⟨Nat.le_of_ble_eq_true rfl, Nat.le_of_ble_eq_true rfl⟩ rfl (Nat.le_of_ble_eq_true rfl) dX10_chance_13 ?_
    refine kw_if_eq C 27 dX10_chance_16 rfl (fun c6 => ?_) (fun c6 => ?_)
    · have hf := if_p c6 hf
      refine kw_sub [] _ rfl ?_
      exact kJ2 _ hf
    · have hf := if_n c6 hf
      refine kw_aload_n C dX10_chance_19 rfl 0 rfl ?_
      refine kw_iload_n C dX10_chance_20 rfl 3 rfl ?_
      obtain ⟨r8, hc7, hf⟩ := bd_elim hf
      refine kw_callVI C [.int p2] (kX10_isHouse L D g t0 p2 σ1 _ hc7) RX10 mV_X10_368 ⟨rfl, rfl⟩ dd_X10_isHouse ⟨Nat.le_of_ble_eq_true rfl, Nat.le_of_ble_eq_true rfl⟩ _ (hO10 g σ1) rfl rfl rfl (Nat.le_of_ble_eq_true rfl) dX10_chance_21 ?_
      refine kw_if_ne C 29 dX10_chance_24 rfl (fun c9 => ?_) (fun c9 => ?_)
      · have hf := if_n c9 hf
        refine kw_aload_n C dX10_chance_29 rfl 0 rfl ?_
        refine kw_get C inG10 _ (hO10 g σ1) rfl 60 (Nat.le_of_ble_eq_true rfl) mf_10_337 rfl rfl dX10_chance_30 ?_
        obtain ⟨x10, ex10, hf⟩ := lt_elim hf
        refine kw_topl ex10 ?_
        refine kw_lstore C dX10_chance_33 hN (Nat.le_of_ble_eq_true rfl) [(4, .long x10), (0, .ref (g.1 0)), (1, .int p0), (2, .int p1), (3, .int p2)] rfl ?_
        refine kw_aload_n C dX10_chance_35 rfl 1 rfl ?_
        refine kw_iload_n C dX10_chance_36 rfl 2 rfl ?_
        refine kw_i2l C dX10_chance_37 ?_
        obtain ⟨σ11, eσ11, hf⟩ := lt_elim hf
        refine kw_put C inG10 tyX10 tyX10_ok nmX10 _ (hO10 g σ1) rfl 60 (Nat.le_of_ble_eq_true rfl) mf_10_337 rfl rfl (tyX10_ok 60 (Nat.le_of_ble_eq_true rfl)) rfl rfl (Nat.le_of_ble_eq_true rfl) ((hF10_60 g σ1 _).trans (congrArg (wM g) eσ11.symm)) dX10_chance_38 ?_
        refine kw_iconst C (0 : Int32) dX10_chance_41 rfl ?_
        refine kw_istore C dX10_chance_42 hN (Nat.le_of_ble_eq_true rfl) [(6, .int (0 : Int32)), (4, .long x10), (0, .ref (g.1 0)), (1, .int p0), (2, .int p1), (3, .int p2)] rfl ?_
        refine kw_iconst C (0 : Int32) dX10_chance_44 rfl ?_
        refine kw_istore C dX10_chance_45 hN (Nat.le_of_ble_eq_true rfl) [(7, .int (0 : Int32)), (6, .int (0 : Int32)), (4, .long x10), (0, .ref (g.1 0)), (1, .int p0), (2, .int p1), (3, .int p2)] rfl ?_
        refine kw_sub [3, 5, 6, 2, 1, 0] _ rfl ?_
        refine lpx3_walk (P := fun (x12 : Int32) (x13 : Int32) (σ14 : St) => KW X σ14 47 [(0, .ref (g.1 0)), (2, .int p1), (3, .int p2), (4, .long x10), (6, .int x12), (7, .int x13)] []) ?_ FU _ _ _ hf
        intro self15 x12 x13 σ14 ih16 hf
        refine kw_iload C dX10_chance_47 5 rfl ?_
        refine kw_bipush C (10 : Int32) dX10_chance_49 rfl ?_
        refine kw_icmp_ge C 96 dX10_chance_51 rfl (fun c17 => ?_) (fun c17 => ?_)
        · have hf := if_p c17 hf
          refine kw_aload_n C dX10_chance_96 rfl 0 rfl ?_
          refine kw_iconst C (0 : Int32) dX10_chance_97 rfl ?_
          obtain ⟨σ18, eσ18, hf⟩ := lt_elim hf
          refine kw_put C inG10 tyX10 tyX10_ok nmX10 _ (hO10 g σ14) rfl 61 (Nat.le_of_ble_eq_true rfl) mf_10_353 rfl rfl (tyX10_ok 61 (Nat.le_of_ble_eq_true rfl)) (narrow_bz (by decide)) (fits_bz (by decide)) (Nat.le_of_ble_eq_true rfl) ((hF10_61 g σ14 _).trans (congrArg (wM g) eσ18.symm)) dX10_chance_98 ?_
          refine kw_aload_n C dX10_chance_101 rfl 0 rfl ?_
          refine kw_lload C dX10_chance_102 3 rfl ?_
          obtain ⟨σ19, eσ19, hf⟩ := lt_elim hf
          refine kw_put C inG10 tyX10 tyX10_ok nmX10 _ (hO10 g σ18) rfl 60 (Nat.le_of_ble_eq_true rfl) mf_10_337 rfl rfl (tyX10_ok 60 (Nat.le_of_ble_eq_true rfl)) rfl rfl (Nat.le_of_ble_eq_true rfl) ((hF10_60 g σ18 _).trans (congrArg (wM g) eσ19.symm)) dX10_chance_104 ?_
          refine kw_iload C dX10_chance_107 4 rfl ?_
          exact kw_iret C K dX10_chance_109 hf
        · have hf := if_n c17 hf
          refine kw_aload_n C dX10_chance_54 rfl 0 rfl ?_
          obtain ⟨σ21, hc20, hf⟩ := bV_elim hf
          refine kw_callVV C [] (kX10_layTried L D g t0 σ14 _ hc20) RX10 mV_X10_453 ⟨rfl, rfl⟩ dd_X10_layTried ⟨Nat.le_of_ble_eq_true rfl, Nat.le_of_ble_eq_true rfl⟩ _ (hO10 g σ14) rfl rfl rfl (Nat.le_of_ble_eq_true rfl) dX10_chance_55 ?_
          refine kw_aload_n C dX10_chance_58 rfl 0 rfl ?_
          refine kw_iconst C (1 : Int32) dX10_chance_59 rfl ?_
          obtain ⟨σ22, eσ22, hf⟩ := lt_elim hf
          refine kw_put C inG10 tyX10 tyX10_ok nmX10 _ (hO10 g σ21) rfl 61 (Nat.le_of_ble_eq_true rfl) mf_10_353 rfl rfl (tyX10_ok 61 (Nat.le_of_ble_eq_true rfl)) (narrow_bz (by decide)) (fits_bz (by decide)) (Nat.le_of_ble_eq_true rfl) ((hF10_61 g σ21 _).trans (congrArg (wM g) eσ22.symm)) dX10_chance_60 ?_
          refine kw_aload_n C dX10_chance_63 rfl 0 rfl ?_
          refine kw_iload_n C dX10_chance_64 rfl 1 rfl ?_
          obtain ⟨σ24, hc23, hf⟩ := bV_elim hf
          refine kw_callVV C [.int p1] (kX10_goMany L D g t0 p1 σ22 _ hc23) RX10 mV_X10_456 ⟨rfl, rfl⟩ dd_X10_goMany ⟨Nat.le_of_ble_eq_true rfl, Nat.le_of_ble_eq_true rfl⟩ _ (hO10 g σ22) rfl rfl rfl (Nat.le_of_ble_eq_true rfl) dX10_chance_65 ?_
          refine kw_iload C dX10_chance_68 4 rfl ?_
          refine kw_aload_n C dX10_chance_70 rfl 0 rfl ?_
          refine kw_get C inG10 _ (hO10 g σ24) rfl 49 (Nat.le_of_ble_eq_true rfl) mf_10_94 rfl rfl dX10_chance_71 ?_
          refine kw_bipush C (6 : Int32) dX10_chance_74 rfl ?_
          refine kw_iload_n C dX10_chance_76 rfl 2 rfl ?_
          refine kw_iadd C dX10_chance_77 ?_
          obtain ⟨h25, hf⟩ := gd_elim hf
          refine kw_zald C _ 3 (hA10_49 g σ24) rfl h25 dX10_chance_78 ?_
          obtain ⟨J27, hJ27, hf⟩ := jnx1_elim hf
          have kJ27 : ∀ (x26 : Int32), J27 x26 = some (r0, σ0) → KW X σ24 87 [(0, .ref (g.1 0)), (2, .int p1), (3, .int p2), (4, .long x10), (7, .int x13)] [.int x26, .int x12] := by
            clear hf
            intro x26 hf
            have hf := (hJ27 x26).symm.trans hf
            refine kw_iadd C dX10_chance_87 ?_
            obtain ⟨x28, ex28, hf⟩ := lt_elim hf
            refine kw_topi ex28 ?_
            refine kw_istore C dX10_chance_88 hN (Nat.le_of_ble_eq_true rfl) [(6, .int x28), (0, .ref (g.1 0)), (2, .int p1), (3, .int p2), (4, .long x10), (7, .int x13)] rfl ?_
            obtain ⟨x29, ex29, hf⟩ := lt_elim hf
            refine kw_iinc C x29 dX10_chance_90 5 rfl ex29.symm hN (Nat.le_of_ble_eq_true rfl) [(7, .int x29), (6, .int x28), (0, .ref (g.1 0)), (2, .int p1), (3, .int p2), (4, .long x10)] rfl ?_
            refine kw_goto C 47 dX10_chance_93 rfl ?_
            refine kw_sub [2, 3, 4, 5, 1, 0] _ rfl ?_
            exact ih16 _ _ _ hf
          refine kw_if_eq C 86 dX10_chance_79 rfl (fun c30 => ?_) (fun c30 => ?_)
          · have hf := if_p c30 hf
            refine kw_iconst C (0 : Int32) dX10_chance_86 rfl ?_
            refine kw_sub [0, 1, 2, 3, 5] _ rfl ?_
            exact kJ27 _ hf
          · have hf := if_n c30 hf
            refine kw_iconst C (1 : Int32) dX10_chance_82 rfl ?_
            refine kw_goto C 87 dX10_chance_83 rfl ?_
            refine kw_sub [0, 1, 2, 3, 5] _ rfl ?_
            exact kJ27 _ hf
      · have hf := if_p c9 hf
        refine kw_sub [] _ rfl ?_
        exact kJ2 _ hf
set_option maxRecDepth 100000 in
set_option maxHeartbeats 4000000 in
theorem kX10_tried (L : Launch) (D : va_G) (g : GwT) (t0 : Nat) (p0 : Int32) (p1 : Int32) (p2 : Int32) (σ : St) (r0 : Int32) (σ0 : St) (hf : fX10_tried σ p0 p1 p2 = some (r0, σ0)) : CtI L D (ttG g) (wM g) t0 yX10_tried cX10_tried 5 (some .int) { frames := 8, cells := 0, slots := 0, locals := 188 } [.ref (g.1 0), .int p0, .int p1, .int p2] σ r0 σ0 := by
  refine CtI.of (own := RX10) (by decide) rfl (Nat.le_of_ble_eq_true rfl) [(0, .ref (g.1 0)), (1, .int p0), (2, .int p1), (3, .int p2)] rfl ?_
  intro X C hN K
  unfold fX10_tried at hf
  refine kw_aload_n C dX10_tried_0 rfl 0 rfl ?_
  refine kw_iconst C (0 : Int32) dX10_tried_1 rfl ?_
  obtain ⟨σ1, eσ1, hf⟩ := lt_elim hf
  refine kw_put C inG10 tyX10 tyX10_ok nmX10 _ (hO10 g σ) rfl 2 (Nat.le_of_ble_eq_true rfl) mf_10_151 rfl rfl (tyX10_ok 2 (Nat.le_of_ble_eq_true rfl)) rfl rfl (Nat.le_of_ble_eq_true rfl) ((hF10_2 g σ _).trans (congrArg (wM g) eσ1.symm)) dX10_tried_2 ?_
  refine kw_iload_n C dX10_tried_5 rfl 1 rfl ?_
  refine kw_iconst C (0 : Int32) dX10_tried_6 rfl ?_
  refine kw_iconst C (4 : Int32) dX10_tried_7 rfl ?_
  obtain ⟨r3, hc2, hf⟩ := bd_elim hf
  refine kw_callSI C [.int p0, .int (0 : Int32), .int (4 : Int32)] (kX10_isIn L D g t0 p0 (0 : Int32) (4 : Int32) σ1 _ hc2) mS_X10_196 ⟨rfl, rfl⟩ dd_X10_isIn ⟨Nat.le_of_ble_eq_true rfl, Nat.le_of_ble_eq_true rfl⟩ rfl (Nat.le_of_ble_eq_true rfl) dX10_tried_8 ?_
  obtain ⟨J4, hJ4, hf⟩ := jnx1_elim hf
  have kJ4 : ∀ (u9 : Unit), J4 u9 = some (r0, σ0) → KW X σ1 44 [] [] := by
    clear hf
    intro u9 hf
    have hf := (hJ4 u9).symm.trans hf
    refine kw_iconst C (-1 : Int32) dX10_tried_44 rfl ?_
    exact kw_iret C K dX10_tried_45 hf
  refine kw_if_eq C 44 dX10_tried_11 rfl (fun c5 => ?_) (fun c5 => ?_)
  · have hf := if_p c5 hf
    refine kw_sub [] _ rfl ?_
    exact kJ4 _ hf
  · have hf := if_n c5 hf
    refine kw_iload_n C dX10_tried_14 rfl 3 rfl ?_
    refine kw_iconst C (0 : Int32) dX10_tried_15 rfl ?_
    refine kw_bipush C (99 : Int32) dX10_tried_16 rfl ?_
    obtain ⟨r7, hc6, hf⟩ := bd_elim hf
    refine kw_callSI C [.int p2, .int (0 : Int32), .int (99 : Int32)] (kX10_isIn L D g t0 p2 (0 : Int32) (99 : Int32) σ1 _ hc6) mS_X10_196 ⟨rfl, rfl⟩ dd_X10_isIn ⟨Nat.le_of_ble_eq_true rfl, Nat.le_of_ble_eq_true rfl⟩ rfl (Nat.le_of_ble_eq_true rfl) dX10_tried_18 ?_
    refine kw_if_eq C 44 dX10_tried_21 rfl (fun c8 => ?_) (fun c8 => ?_)
    · have hf := if_p c8 hf
      refine kw_sub [] _ rfl ?_
      exact kJ4 _ hf
    · have hf := if_n c8 hf
      refine kw_iload_n C dX10_tried_24 rfl 1 rfl ?_
      refine kw_iconst C (2 : Int32) dX10_tried_25 rfl ?_
      obtain ⟨J9, hJ9, hf⟩ := jnx1_elim hf
      have kJ9 : ∀ (u9 : Unit), J9 u9 = some (r0, σ0) → KW X σ1 46 [(0, .ref (g.1 0)), (1, .int p0), (2, .int p1), (3, .int p2)] [] := by
        clear hf
        intro u9 hf
        have hf := (hJ9 u9).symm.trans hf
        refine kw_aload_n C dX10_tried_46 rfl 0 rfl ?_
        obtain ⟨σ11, hc10, hf⟩ := bV_elim hf
        refine kw_callVV C [] (kX10_layTried L D g t0 σ1 _ hc10) RX10 mV_X10_453 ⟨rfl, rfl⟩ dd_X10_layTried ⟨Nat.le_of_ble_eq_true rfl, Nat.le_of_ble_eq_true rfl⟩ _ (hO10 g σ1) rfl rfl rfl (Nat.le_of_ble_eq_true rfl) dX10_tried_47 ?_
        refine kw_aload_n C dX10_tried_50 rfl 0 rfl ?_
        refine kw_iload_n C dX10_tried_51 rfl 1 rfl ?_
        obtain ⟨J13, hJ13, hf⟩ := jnx1_elim hf
        have kJ13 : ∀ (x12 : Int32), J13 x12 = some (r0, σ0) → KW X σ11 60 [(0, .ref (g.1 0)), (1, .int p0), (2, .int p1), (3, .int p2)] [.int x12, .ref (g.1 0)] := by
          clear hf
          intro x12 hf
          have hf := (hJ13 x12).symm.trans hf
          obtain ⟨h14, hf⟩ := gd_elim hf
          obtain ⟨σ15, eσ15, hf⟩ := lt_elim hf
          refine kw_put C inG10 tyX10 tyX10_ok nmX10 _ (hO10 g σ11) rfl 62 (Nat.le_of_ble_eq_true rfl) mf_10_356 rfl rfl (tyX10_ok 62 (Nat.le_of_ble_eq_true rfl)) (narrow_bz h14) (fits_bz h14) (Nat.le_of_ble_eq_true rfl) ((hF10_62 g σ11 _).trans (congrArg (wM g) eσ15.symm)) dX10_tried_60 ?_
          refine kw_aload_n C dX10_tried_63 rfl 0 rfl ?_
          refine kw_iload_n C dX10_tried_64 rfl 1 rfl ?_
          refine kw_iconst C (1 : Int32) dX10_tried_65 rfl ?_
          obtain ⟨J17, hJ17, hf⟩ := jnx1_elim hf
          have kJ17 : ∀ (x16 : Int32), J17 x16 = some (r0, σ0) → KW X σ15 74 [(0, .ref (g.1 0)), (1, .int p0), (2, .int p1), (3, .int p2)] [.int x16, .ref (g.1 0)] := by
            clear hf
            intro x16 hf
            have hf := (hJ17 x16).symm.trans hf
            obtain ⟨h18, hf⟩ := gd_elim hf
            obtain ⟨σ19, eσ19, hf⟩ := lt_elim hf
            refine kw_put C inG10 tyX10 tyX10_ok nmX10 _ (hO10 g σ15) rfl 63 (Nat.le_of_ble_eq_true rfl) mf_10_359 rfl rfl (tyX10_ok 63 (Nat.le_of_ble_eq_true rfl)) (narrow_bz h18) (fits_bz h18) (Nat.le_of_ble_eq_true rfl) ((hF10_63 g σ15 _).trans (congrArg (wM g) eσ19.symm)) dX10_tried_74 ?_
            refine kw_aload_n C dX10_tried_77 rfl 0 rfl ?_
            refine kw_iload_n C dX10_tried_78 rfl 1 rfl ?_
            refine kw_iconst C (2 : Int32) dX10_tried_79 rfl ?_
            obtain ⟨J21, hJ21, hf⟩ := jnx1_elim hf
            have kJ21 : ∀ (x20 : Int32), J21 x20 = some (r0, σ0) → KW X σ19 90 [(0, .ref (g.1 0)), (1, .int p0), (3, .int p2)] [.int x20, .ref (g.1 0)] := by
              clear hf
              intro x20 hf
              have hf := (hJ21 x20).symm.trans hf
              obtain ⟨σ22, eσ22, hf⟩ := lt_elim hf
              refine kw_put C inG10 tyX10 tyX10_ok nmX10 _ (hO10 g σ19) rfl 65 (Nat.le_of_ble_eq_true rfl) mf_10_365 rfl rfl (tyX10_ok 65 (Nat.le_of_ble_eq_true rfl)) rfl rfl (Nat.le_of_ble_eq_true rfl) ((hF10_65 g σ19 _).trans (congrArg (wM g) eσ22.symm)) dX10_tried_90 ?_
              refine kw_aload_n C dX10_tried_93 rfl 0 rfl ?_
              refine kw_iload_n C dX10_tried_94 rfl 1 rfl ?_
              refine kw_iconst C (3 : Int32) dX10_tried_95 rfl ?_
              obtain ⟨J24, hJ24, hf⟩ := jnx1_elim hf
              have kJ24 : ∀ (x23 : Int32), J24 x23 = some (r0, σ0) → KW X σ22 104 [(0, .ref (g.1 0)), (1, .int p0), (3, .int p2)] [.int x23, .ref (g.1 0)] := by
                clear hf
                intro x23 hf
                have hf := (hJ24 x23).symm.trans hf
                obtain ⟨h25, hf⟩ := gd_elim hf
                obtain ⟨σ26, eσ26, hf⟩ := lt_elim hf
                refine kw_put C inG10 tyX10 tyX10_ok nmX10 _ (hO10 g σ22) rfl 64 (Nat.le_of_ble_eq_true rfl) mf_10_362 rfl rfl (tyX10_ok 64 (Nat.le_of_ble_eq_true rfl)) (narrow_bz h25) (fits_bz h25) (Nat.le_of_ble_eq_true rfl) ((hF10_64 g σ22 _).trans (congrArg (wM g) eσ26.symm)) dX10_tried_104 ?_
                refine kw_iconst C (0 : Int32) dX10_tried_107 rfl ?_
                refine kw_istore C dX10_tried_108 hN (Nat.le_of_ble_eq_true rfl) [(4, .int (0 : Int32)), (0, .ref (g.1 0)), (1, .int p0), (3, .int p2)] rfl ?_
                refine kw_sub [1, 2, 3, 0] _ rfl ?_
                refine lpx2_walk (P := fun (x27 : Int32) (σ28 : St) => KW X σ28 110 [(0, .ref (g.1 0)), (1, .int p0), (3, .int p2), (4, .int x27)] []) ?_ FU _ _ hf
                intro self29 x27 σ28 ih30 hf
                refine kw_iload C dX10_tried_110 3 rfl ?_
                refine kw_bipush C (6 : Int32) dX10_tried_112 rfl ?_
                obtain ⟨J31, hJ31, hf⟩ := jnx1_elim hf
                have kJ31 : ∀ (u9 : Unit), J31 u9 = some (r0, σ0) → KW X σ28 141 [(0, .ref (g.1 0)), (3, .int p2)] [] := by
                  clear hf
                  intro u9 hf
                  have hf := (hJ31 u9).symm.trans hf
                  refine kw_aload_n C dX10_tried_141 rfl 0 rfl ?_
                  refine kw_iload_n C dX10_tried_142 rfl 1 rfl ?_
                  obtain ⟨σ33, hc32, hf⟩ := bV_elim hf
                  refine kw_callVV C [.int p2] (kX10_goMany L D g t0 p2 σ28 _ hc32) RX10 mV_X10_456 ⟨rfl, rfl⟩ dd_X10_goMany ⟨Nat.le_of_ble_eq_true rfl, Nat.le_of_ble_eq_true rfl⟩ _ (hO10 g σ28) rfl rfl rfl (Nat.le_of_ble_eq_true rfl) dX10_tried_143 ?_
                  refine kw_aload_n C dX10_tried_146 rfl 0 rfl ?_
                  obtain ⟨σ35, hc34, hf⟩ := bV_elim hf
                  refine kw_callVV C [] (kX10_plainTried L D g t0 σ33 _ hc34) RX10 mV_X10_341 ⟨rfl, rfl⟩ dd_X10_plainTried ⟨Nat.le_of_ble_eq_true rfl, Nat.le_of_ble_eq_true rfl⟩ _ (hO10 g σ33) rfl rfl rfl (Nat.le_of_ble_eq_true rfl) dX10_tried_147 ?_
                  refine kw_aload_n C dX10_tried_150 rfl 0 rfl ?_
                  refine kw_get C inG10 _ (hO10 g σ35) rfl 54 (Nat.le_of_ble_eq_true rfl) mf_10_109 rfl rfl dX10_tried_151 ?_
                  refine kw_iconst C (1 : Int32) dX10_tried_154 rfl ?_
                  refine kw_iald C _ 0 (hA10_54 g σ35) rfl (by decide) dX10_tried_155 ?_
                  exact kw_iret C K dX10_tried_156 hf
                refine kw_icmp_ge C 141 dX10_tried_114 rfl (fun c36 => ?_) (fun c36 => ?_)
                · have hf := if_p c36 hf
                  refine kw_sub [0, 2] _ rfl ?_
                  exact kJ31 _ hf
                · have hf := if_n c36 hf
                  refine kw_iload_n C dX10_tried_117 rfl 1 rfl ?_
                  refine kw_iconst C (4 : Int32) dX10_tried_118 rfl ?_
                  refine kw_icmp_ne C 141 dX10_tried_119 rfl (fun c37 => ?_) (fun c37 => ?_)
                  · have hf := if_n c37 hf
                    refine kw_sub [0, 2] _ rfl ?_
                    exact kJ31 _ hf
                  · have hf := if_p c37 hf
                    refine kw_aload_n C dX10_tried_122 rfl 0 rfl ?_
                    refine kw_get C inG10 _ (hO10 g σ28) rfl 46 (Nat.le_of_ble_eq_true rfl) mf_10_85 rfl rfl dX10_tried_123 ?_
                    refine kw_bipush C (6 : Int32) dX10_tried_126 rfl ?_
                    refine kw_iload C dX10_tried_128 3 rfl ?_
                    refine kw_iadd C dX10_tried_130 ?_
                    refine kw_sipush C (999 : Int32) dX10_tried_131 rfl ?_
                    obtain ⟨h38, hf⟩ := gd_elim hf
                    obtain ⟨σ39, eσ39, hf⟩ := lt_elim hf
                    refine kw_iast C _ 0 (hA10_46 g σ28) rfl h38 ((hS10_46 g σ28 _).trans (congrArg (wM g) eσ39.symm)) dX10_tried_134 ?_
                    obtain ⟨x40, ex40, hf⟩ := lt_elim hf
                    refine kw_iinc C x40 dX10_tried_135 3 rfl ex40.symm hN (Nat.le_of_ble_eq_true rfl) [(4, .int x40), (0, .ref (g.1 0)), (1, .int p0), (3, .int p2)] rfl ?_
                    refine kw_goto C 110 dX10_tried_138 rfl ?_
                    refine kw_sub [1, 2, 3, 0] _ rfl ?_
                    exact ih30 _ _ hf
              refine kw_icmp_ne C 103 dX10_tried_96 rfl (fun c41 => ?_) (fun c41 => ?_)
              · have hf := if_n c41 hf
                refine kw_iconst C (0 : Int32) dX10_tried_103 rfl ?_
                exact kJ24 _ hf
              · have hf := if_p c41 hf
                refine kw_iconst C (1 : Int32) dX10_tried_99 rfl ?_
                refine kw_goto C 104 dX10_tried_100 rfl ?_
                exact kJ24 _ hf
            refine kw_icmp_ne C 89 dX10_tried_80 rfl (fun c42 => ?_) (fun c42 => ?_)
            · have hf := if_n c42 hf
              refine kw_iconst C (0 : Int32) dX10_tried_89 rfl ?_
              refine kw_sub [0, 1, 3] _ rfl ?_
              exact kJ21 _ hf
            · have hf := if_p c42 hf
              refine kw_iconst C (1 : Int32) dX10_tried_83 rfl ?_
              refine kw_iload_n C dX10_tried_84 rfl 2 rfl ?_
              refine kw_ishl C dX10_tried_85 ?_
              refine kw_goto C 90 dX10_tried_86 rfl ?_
              refine kw_sub [0, 1, 3] _ rfl ?_
              exact kJ21 _ hf
          refine kw_icmp_ne C 73 dX10_tried_66 rfl (fun c43 => ?_) (fun c43 => ?_)
          · have hf := if_n c43 hf
            refine kw_iconst C (0 : Int32) dX10_tried_73 rfl ?_
            exact kJ17 _ hf
          · have hf := if_p c43 hf
            refine kw_iconst C (1 : Int32) dX10_tried_69 rfl ?_
            refine kw_goto C 74 dX10_tried_70 rfl ?_
            exact kJ17 _ hf
        refine kw_if_ne C 59 dX10_tried_52 rfl (fun c44 => ?_) (fun c44 => ?_)
        · have hf := if_n c44 hf
          refine kw_iconst C (0 : Int32) dX10_tried_59 rfl ?_
          exact kJ13 _ hf
        · have hf := if_p c44 hf
          refine kw_iconst C (1 : Int32) dX10_tried_55 rfl ?_
          refine kw_goto C 60 dX10_tried_56 rfl ?_
          exact kJ13 _ hf
      refine kw_icmp_ne C 40 dX10_tried_26 rfl (fun c45 => ?_) (fun c45 => ?_)
      · have hf := if_n c45 hf
        refine kw_iload_n C dX10_tried_40 rfl 2 rfl ?_
        refine kw_if_eq C 46 dX10_tried_41 rfl (fun c46 => ?_) (fun c46 => ?_)
        · have hf := if_p c46 hf
          exact kJ9 _ hf
        · have hf := if_n c46 hf
          refine kw_sub [] _ rfl ?_
          exact kJ4 _ hf
      · have hf := if_p c45 hf
        refine kw_aload_n C dX10_tried_29 rfl 0 rfl ?_
        refine kw_iload_n C dX10_tried_30 rfl 2 rfl ?_
        obtain ⟨r48, hc47, hf⟩ := bd_elim hf
        refine kw_callVI C [.int p1] (kX10_isHouse L D g t0 p1 σ1 _ hc47) RX10 mV_X10_368 ⟨rfl, rfl⟩ dd_X10_isHouse ⟨Nat.le_of_ble_eq_true rfl, Nat.le_of_ble_eq_true rfl⟩ _ (hO10 g σ1) rfl rfl rfl (Nat.le_of_ble_eq_true rfl) dX10_tried_31 ?_
        refine kw_if_ne C 46 dX10_tried_34 rfl (fun c49 => ?_) (fun c49 => ?_)
        · have hf := if_n c49 hf
          exact kJ9 _ hf
        · have hf := if_p c49 hf
          refine kw_goto C 44 dX10_tried_37 rfl ?_
          refine kw_sub [] _ rfl ?_
          exact kJ4 _ hf
set_option maxRecDepth 100000 in
set_option maxHeartbeats 4000000 in
theorem kX10_take_a10_72 (L : Launch) (D : va_G) (g : GwT) (t0 : Nat) (p1 : Int32) (σ : St) (σ0 : St) (hf : fX10_take_a10_72 σ p1 = some σ0) : CtV L D (ttG g) (wM g) t0 yX10_take cX10_take 4 none { frames := 0, cells := 0, slots := 0, locals := 0 } [.ref (g.1 0), .ref (g.2.1 0 72), .int p1] σ σ0 := by
  refine CtV.of (own := RX10) (by decide) rfl (Nat.le_of_ble_eq_true rfl) [(0, .ref (g.1 0)), (1, .ref (g.2.1 0 72)), (2, .int p1)] rfl ?_
  intro X C hN K
  unfold fX10_take_a10_72 at hf
  refine kw_iconst C (0 : Int32) dX10_take_0 rfl ?_
  refine kw_istore_n C dX10_take_1 rfl hN (Nat.le_of_ble_eq_true rfl) [(3, .int (0 : Int32)), (0, .ref (g.1 0)), (1, .ref (g.2.1 0 72)), (2, .int p1)] rfl ?_
  refine kw_sub [1, 2, 3, 0] _ rfl ?_
  refine lpx2_walk (P := fun (x1 : Int32) (σ2 : St) => KW X σ2 2 [(0, .ref (g.1 0)), (1, .ref (g.2.1 0 72)), (2, .int p1), (3, .int x1)] []) ?_ FU _ _ hf
  intro self3 x1 σ2 ih4 hf
  refine kw_iload_n C dX10_take_2 rfl 3 rfl ?_
  refine kw_bipush C (6 : Int32) dX10_take_3 rfl ?_
  refine kw_icmp_ge C 90 dX10_take_5 rfl (fun c5 => ?_) (fun c5 => ?_)
  · have hf := if_p c5 hf
    refine kw_aload_n C dX10_take_90 rfl 0 rfl ?_
    refine kw_get C inG10 _ (hO10 g σ2) rfl 54 (Nat.le_of_ble_eq_true rfl) mf_10_109 rfl rfl dX10_take_91 ?_
    refine kw_iconst C (0 : Int32) dX10_take_94 rfl ?_
    refine kw_aload_n C dX10_take_95 rfl 1 rfl ?_
    refine kw_iload_n C dX10_take_96 rfl 2 rfl ?_
    refine kw_bipush C (30 : Int32) dX10_take_97 rfl ?_
    refine kw_iadd C dX10_take_99 ?_
    obtain ⟨h6, hf⟩ := gd_elim hf
    refine kw_iald C _ 0 (hA10_72 g σ2) rfl h6 dX10_take_100 ?_
    obtain ⟨σ7, eσ7, hf⟩ := lt_elim hf
    refine kw_iast C _ 0 (hA10_54 g σ2) rfl (by decide) ((hS10_54 g σ2 _).trans (congrArg (wM g) eσ7.symm)) dX10_take_101 ?_
    refine kw_aload_n C dX10_take_102 rfl 0 rfl ?_
    refine kw_get C inG10 _ (hO10 g σ7) rfl 55 (Nat.le_of_ble_eq_true rfl) mf_10_112 rfl rfl dX10_take_103 ?_
    refine kw_iconst C (0 : Int32) dX10_take_106 rfl ?_
    refine kw_aload_n C dX10_take_107 rfl 1 rfl ?_
    refine kw_iload_n C dX10_take_108 rfl 2 rfl ?_
    refine kw_bipush C (31 : Int32) dX10_take_109 rfl ?_
    refine kw_iadd C dX10_take_111 ?_
    obtain ⟨h8, hf⟩ := gd_elim hf
    refine kw_iald C _ 0 (hA10_72 g σ7) rfl h8 dX10_take_112 ?_
    obtain ⟨σ9, eσ9, hf⟩ := lt_elim hf
    refine kw_iast C _ 0 (hA10_55 g σ7) rfl (by decide) ((hS10_55 g σ7 _).trans (congrArg (wM g) eσ9.symm)) dX10_take_113 ?_
    refine kw_aload_n C dX10_take_114 rfl 0 rfl ?_
    refine kw_get C inG10 _ (hO10 g σ9) rfl 56 (Nat.le_of_ble_eq_true rfl) mf_10_115 rfl rfl dX10_take_115 ?_
    refine kw_iconst C (0 : Int32) dX10_take_118 rfl ?_
    refine kw_aload_n C dX10_take_119 rfl 1 rfl ?_
    refine kw_iload_n C dX10_take_120 rfl 2 rfl ?_
    refine kw_bipush C (32 : Int32) dX10_take_121 rfl ?_
    refine kw_iadd C dX10_take_123 ?_
    obtain ⟨h10, hf⟩ := gd_elim hf
    refine kw_iald C _ 0 (hA10_72 g σ9) rfl h10 dX10_take_124 ?_
    obtain ⟨σ11, eσ11, hf⟩ := lt_elim hf
    refine kw_iast C _ 0 (hA10_56 g σ9) rfl (by decide) ((hS10_56 g σ9 _).trans (congrArg (wM g) eσ11.symm)) dX10_take_125 ?_
    exact kw_vret (u9 := ()) C K dX10_take_126 hf
  · have hf := if_n c5 hf
    refine kw_aload_n C dX10_take_8 rfl 0 rfl ?_
    refine kw_get C inG10 _ (hO10 g σ2) rfl 46 (Nat.le_of_ble_eq_true rfl) mf_10_85 rfl rfl dX10_take_9 ?_
    refine kw_iload_n C dX10_take_12 rfl 3 rfl ?_
    refine kw_aload_n C dX10_take_13 rfl 1 rfl ?_
    refine kw_iload_n C dX10_take_14 rfl 2 rfl ?_
    refine kw_iload_n C dX10_take_15 rfl 3 rfl ?_
    refine kw_iadd C dX10_take_16 ?_
    obtain ⟨h12, hf⟩ := gd_elim hf
    refine kw_iald C _ 0 (hA10_72 g σ2) rfl h12 dX10_take_17 ?_
    obtain ⟨h13, hf⟩ := gd_elim hf
    obtain ⟨σ14, eσ14, hf⟩ := lt_elim hf
    refine kw_iast C _ 0 (hA10_46 g σ2) rfl h13 ((hS10_46 g σ2 _).trans (congrArg (wM g) eσ14.symm)) dX10_take_18 ?_
    refine kw_aload_n C dX10_take_19 rfl 0 rfl ?_
    refine kw_get C inG10 _ (hO10 g σ14) rfl 48 (Nat.le_of_ble_eq_true rfl) mf_10_91 rfl rfl dX10_take_20 ?_
    refine kw_iload_n C dX10_take_23 rfl 3 rfl ?_
    refine kw_aload_n C dX10_take_24 rfl 1 rfl ?_
    refine kw_iload_n C dX10_take_25 rfl 2 rfl ?_
    refine kw_bipush C (6 : Int32) dX10_take_26 rfl ?_
    refine kw_iadd C dX10_take_28 ?_
    refine kw_iload_n C dX10_take_29 rfl 3 rfl ?_
    refine kw_iadd C dX10_take_30 ?_
    obtain ⟨h15, hf⟩ := gd_elim hf
    refine kw_iald C _ 0 (hA10_72 g σ14) rfl h15 dX10_take_31 ?_
    obtain ⟨h16, hf⟩ := gd_elim hf
    obtain ⟨σ17, eσ17, hf⟩ := lt_elim hf
    refine kw_iast C _ 0 (hA10_48 g σ14) rfl h16 ((hS10_48 g σ14 _).trans (congrArg (wM g) eσ17.symm)) dX10_take_32 ?_
    refine kw_aload_n C dX10_take_33 rfl 0 rfl ?_
    refine kw_get C inG10 _ (hO10 g σ17) rfl 49 (Nat.le_of_ble_eq_true rfl) mf_10_94 rfl rfl dX10_take_34 ?_
    refine kw_iload_n C dX10_take_37 rfl 3 rfl ?_
    refine kw_aload_n C dX10_take_38 rfl 1 rfl ?_
    refine kw_iload_n C dX10_take_39 rfl 2 rfl ?_
    refine kw_bipush C (12 : Int32) dX10_take_40 rfl ?_
    refine kw_iadd C dX10_take_42 ?_
    refine kw_iload_n C dX10_take_43 rfl 3 rfl ?_
    refine kw_iadd C dX10_take_44 ?_
    obtain ⟨h18, hf⟩ := gd_elim hf
    refine kw_iald C _ 0 (hA10_72 g σ17) rfl h18 dX10_take_45 ?_
    refine kw_iconst C (1 : Int32) dX10_take_46 rfl ?_
    obtain ⟨J20, hJ20, hf⟩ := jnx1_elim hf
    have kJ20 : ∀ (x19 : Int32), J20 x19 = some σ0 → KW X σ17 55 [(0, .ref (g.1 0)), (1, .ref (g.2.1 0 72)), (2, .int p1), (3, .int x1)] [.int x19, .int x1, .ref (g.2.1 0 49)] := by
      clear hf
      intro x19 hf
      have hf := (hJ20 x19).symm.trans hf
      obtain ⟨h21, hf⟩ := gd_elim hf
      obtain ⟨σ22, eσ22, hf⟩ := lt_elim hf
      refine kw_zast C _ 3 (hA10_49 g σ17) rfl h21 ((hS10_49 g σ17 _).trans (congrArg (wM g) eσ22.symm)) dX10_take_55 ?_
      refine kw_aload_n C dX10_take_56 rfl 0 rfl ?_
      refine kw_get C inG10 _ (hO10 g σ22) rfl 50 (Nat.le_of_ble_eq_true rfl) mf_10_97 rfl rfl dX10_take_57 ?_
      refine kw_iload_n C dX10_take_60 rfl 3 rfl ?_
      refine kw_aload_n C dX10_take_61 rfl 1 rfl ?_
      refine kw_iload_n C dX10_take_62 rfl 2 rfl ?_
      refine kw_bipush C (18 : Int32) dX10_take_63 rfl ?_
      refine kw_iadd C dX10_take_65 ?_
      refine kw_iload_n C dX10_take_66 rfl 3 rfl ?_
      refine kw_iadd C dX10_take_67 ?_
      obtain ⟨h23, hf⟩ := gd_elim hf
      refine kw_iald C _ 0 (hA10_72 g σ22) rfl h23 dX10_take_68 ?_
      obtain ⟨h24, hf⟩ := gd_elim hf
      obtain ⟨σ25, eσ25, hf⟩ := lt_elim hf
      refine kw_iast C _ 0 (hA10_50 g σ22) rfl h24 ((hS10_50 g σ22 _).trans (congrArg (wM g) eσ25.symm)) dX10_take_69 ?_
      refine kw_aload_n C dX10_take_70 rfl 0 rfl ?_
      refine kw_get C inG10 _ (hO10 g σ25) rfl 51 (Nat.le_of_ble_eq_true rfl) mf_10_100 rfl rfl dX10_take_71 ?_
      refine kw_iload_n C dX10_take_74 rfl 3 rfl ?_
      refine kw_aload_n C dX10_take_75 rfl 1 rfl ?_
      refine kw_iload_n C dX10_take_76 rfl 2 rfl ?_
      refine kw_bipush C (24 : Int32) dX10_take_77 rfl ?_
      refine kw_iadd C dX10_take_79 ?_
      refine kw_iload_n C dX10_take_80 rfl 3 rfl ?_
      refine kw_iadd C dX10_take_81 ?_
      obtain ⟨h26, hf⟩ := gd_elim hf
      refine kw_iald C _ 0 (hA10_72 g σ25) rfl h26 dX10_take_82 ?_
      obtain ⟨h27, hf⟩ := gd_elim hf
      obtain ⟨σ28, eσ28, hf⟩ := lt_elim hf
      refine kw_iast C _ 0 (hA10_51 g σ25) rfl h27 ((hS10_51 g σ25 _).trans (congrArg (wM g) eσ28.symm)) dX10_take_83 ?_
      obtain ⟨x29, ex29, hf⟩ := lt_elim hf
      refine kw_iinc C x29 dX10_take_84 3 rfl ex29.symm hN (Nat.le_of_ble_eq_true rfl) [(3, .int x29), (0, .ref (g.1 0)), (1, .ref (g.2.1 0 72)), (2, .int p1)] rfl ?_
      refine kw_goto C 2 dX10_take_87 rfl ?_
      refine kw_sub [1, 2, 3, 0] _ rfl ?_
      exact ih4 _ _ hf
    refine kw_icmp_ne C 54 dX10_take_47 rfl (fun c30 => ?_) (fun c30 => ?_)
    · have hf := if_n c30 hf
      refine kw_iconst C (0 : Int32) dX10_take_54 rfl ?_
      exact kJ20 _ hf
    · have hf := if_p c30 hf
      refine kw_iconst C (1 : Int32) dX10_take_50 rfl ?_
      refine kw_goto C 55 dX10_take_51 rfl ?_
      exact kJ20 _ hf
set_option maxRecDepth 100000 in
set_option maxHeartbeats 4000000 in
theorem kX10_undo (L : Launch) (D : va_G) (g : GwT) (t0 : Nat) (σ : St) (r0 : Int32) (σ0 : St) (hf : fX10_undo σ  = some (r0, σ0)) : CtI L D (ttG g) (wM g) t0 yX10_undo cX10_undo 1 (some .int) { frames := 1, cells := 0, slots := 0, locals := 23 } [.ref (g.1 0)] σ r0 σ0 := by
  refine CtI.of (own := RX10) (by decide) rfl (Nat.le_of_ble_eq_true rfl) [(0, .ref (g.1 0))] rfl ?_
  intro X C hN K
  unfold fX10_undo at hf
  refine kw_aload_n C dX10_undo_0 rfl 0 rfl ?_
  refine kw_iconst C (0 : Int32) dX10_undo_1 rfl ?_
  obtain ⟨σ1, eσ1, hf⟩ := lt_elim hf
  refine kw_put C inG10 tyX10 tyX10_ok nmX10 _ (hO10 g σ) rfl 2 (Nat.le_of_ble_eq_true rfl) mf_10_151 rfl rfl (tyX10_ok 2 (Nat.le_of_ble_eq_true rfl)) rfl rfl (Nat.le_of_ble_eq_true rfl) ((hF10_2 g σ _).trans (congrArg (wM g) eσ1.symm)) dX10_undo_2 ?_
  refine kw_aload_n C dX10_undo_5 rfl 0 rfl ?_
  refine kw_get C inG10 _ (hO10 g σ1) rfl 71 (Nat.le_of_ble_eq_true rfl) mf_10_347 rfl rfl dX10_undo_6 ?_
  refine kw_if_ne C 14 dX10_undo_9 rfl (fun c2 => ?_) (fun c2 => ?_)
  · have hf := if_n c2 hf
    refine kw_aload_n C dX10_undo_14 rfl 0 rfl ?_
    refine kw_dup C dX10_undo_15 rfl ?_
    refine kw_get C inG10 _ (hO10 g σ1) rfl 71 (Nat.le_of_ble_eq_true rfl) mf_10_347 rfl rfl dX10_undo_16 ?_
    refine kw_iconst C (1 : Int32) dX10_undo_19 rfl ?_
    refine kw_isub C dX10_undo_20 ?_
    obtain ⟨σ3, eσ3, hf⟩ := lt_elim hf
    refine kw_put C inG10 tyX10 tyX10_ok nmX10 _ (hO10 g σ1) rfl 71 (Nat.le_of_ble_eq_true rfl) mf_10_347 rfl rfl (tyX10_ok 71 (Nat.le_of_ble_eq_true rfl)) rfl rfl (Nat.le_of_ble_eq_true rfl) ((hF10_71 g σ1 _).trans (congrArg (wM g) eσ3.symm)) dX10_undo_21 ?_
    refine kw_aload_n C dX10_undo_24 rfl 0 rfl ?_
    refine kw_aload_n C dX10_undo_25 rfl 0 rfl ?_
    refine kw_get C inG10 _ (hO10 g σ3) rfl 72 (Nat.le_of_ble_eq_true rfl) mf_10_136 rfl rfl dX10_undo_26 ?_
    refine kw_bipush C (33 : Int32) dX10_undo_29 rfl ?_
    refine kw_aload_n C dX10_undo_31 rfl 0 rfl ?_
    refine kw_get C inG10 _ (hO10 g σ3) rfl 71 (Nat.le_of_ble_eq_true rfl) mf_10_347 rfl rfl dX10_undo_32 ?_
    refine kw_imul C dX10_undo_35 ?_
    obtain ⟨σ5, hc4, hf⟩ := bV_elim hf
    refine kw_callVV C [.ref (g.2.1 0 72), .int ((33 : Int32) * (gI σ3 0 71))] (kX10_take_a10_72 L D g t0 ((33 : Int32) * (gI σ3 0 71)) σ3 _ hc4) RX10 mV_X10_502 ⟨rfl, rfl⟩ dd_X10_take ⟨Nat.le_of_ble_eq_true rfl, Nat.le_of_ble_eq_true rfl⟩ _ (hO10 g σ3) rfl rfl rfl (Nat.le_of_ble_eq_true rfl) dX10_undo_36 ?_
    refine kw_aload_n C dX10_undo_39 rfl 0 rfl ?_
    refine kw_get C inG10 _ (hO10 g σ5) rfl 71 (Nat.le_of_ble_eq_true rfl) mf_10_347 rfl rfl dX10_undo_40 ?_
    exact kw_iret C K dX10_undo_43 hf
  · have hf := if_p c2 hf
    refine kw_iconst C (-1 : Int32) dX10_undo_12 rfl ?_
    exact kw_iret C K dX10_undo_13 hf
set_option maxRecDepth 100000 in
set_option maxHeartbeats 4000000 in
theorem kX10_put_a10_74 (L : Launch) (D : va_G) (g : GwT) (t0 : Nat) (p1 : Int32) (σ : St) (σ0 : St) (hf : fX10_put_a10_74 σ p1 = some σ0) : CtV L D (ttG g) (wM g) t0 yX10_put cX10_put 4 none { frames := 0, cells := 0, slots := 0, locals := 0 } [.ref (g.1 0), .ref (g.2.1 0 74), .int p1] σ σ0 := by
  refine CtV.of (own := RX10) (by decide) rfl (Nat.le_of_ble_eq_true rfl) [(0, .ref (g.1 0)), (1, .ref (g.2.1 0 74)), (2, .int p1)] rfl ?_
  intro X C hN K
  unfold fX10_put_a10_74 at hf
  refine kw_iconst C (0 : Int32) dX10_put_0 rfl ?_
  refine kw_istore_n C dX10_put_1 rfl hN (Nat.le_of_ble_eq_true rfl) [(3, .int (0 : Int32)), (0, .ref (g.1 0)), (1, .ref (g.2.1 0 74)), (2, .int p1)] rfl ?_
  refine kw_sub [1, 2, 3, 0] _ rfl ?_
  refine lpx2_walk (P := fun (x1 : Int32) (σ2 : St) => KW X σ2 2 [(0, .ref (g.1 0)), (1, .ref (g.2.1 0 74)), (2, .int p1), (3, .int x1)] []) ?_ FU _ _ hf
  intro self3 x1 σ2 ih4 hf
  refine kw_iload_n C dX10_put_2 rfl 3 rfl ?_
  refine kw_bipush C (6 : Int32) dX10_put_3 rfl ?_
  refine kw_icmp_ge C 89 dX10_put_5 rfl (fun c5 => ?_) (fun c5 => ?_)
  · have hf := if_p c5 hf
    refine kw_aload_n C dX10_put_89 rfl 1 rfl ?_
    refine kw_iload_n C dX10_put_90 rfl 2 rfl ?_
    refine kw_bipush C (30 : Int32) dX10_put_91 rfl ?_
    refine kw_iadd C dX10_put_93 ?_
    refine kw_aload_n C dX10_put_94 rfl 0 rfl ?_
    refine kw_get C inG10 _ (hO10 g σ2) rfl 54 (Nat.le_of_ble_eq_true rfl) mf_10_109 rfl rfl dX10_put_95 ?_
    refine kw_iconst C (0 : Int32) dX10_put_98 rfl ?_
    refine kw_iald C _ 0 (hA10_54 g σ2) rfl (by decide) dX10_put_99 ?_
    obtain ⟨h6, hf⟩ := gd_elim hf
    obtain ⟨σ7, eσ7, hf⟩ := lt_elim hf
    refine kw_iast C _ 0 (hA10_74 g σ2) rfl h6 ((hS10_74 g σ2 _).trans (congrArg (wM g) eσ7.symm)) dX10_put_100 ?_
    refine kw_aload_n C dX10_put_101 rfl 1 rfl ?_
    refine kw_iload_n C dX10_put_102 rfl 2 rfl ?_
    refine kw_bipush C (31 : Int32) dX10_put_103 rfl ?_
    refine kw_iadd C dX10_put_105 ?_
    refine kw_aload_n C dX10_put_106 rfl 0 rfl ?_
    refine kw_get C inG10 _ (hO10 g σ7) rfl 55 (Nat.le_of_ble_eq_true rfl) mf_10_112 rfl rfl dX10_put_107 ?_
    refine kw_iconst C (0 : Int32) dX10_put_110 rfl ?_
    refine kw_iald C _ 0 (hA10_55 g σ7) rfl (by decide) dX10_put_111 ?_
    obtain ⟨h8, hf⟩ := gd_elim hf
    obtain ⟨σ9, eσ9, hf⟩ := lt_elim hf
    refine kw_iast C _ 0 (hA10_74 g σ7) rfl h8 ((hS10_74 g σ7 _).trans (congrArg (wM g) eσ9.symm)) dX10_put_112 ?_
    refine kw_aload_n C dX10_put_113 rfl 1 rfl ?_
    refine kw_iload_n C dX10_put_114 rfl 2 rfl ?_
    refine kw_bipush C (32 : Int32) dX10_put_115 rfl ?_
    refine kw_iadd C dX10_put_117 ?_
    refine kw_aload_n C dX10_put_118 rfl 0 rfl ?_
    refine kw_get C inG10 _ (hO10 g σ9) rfl 56 (Nat.le_of_ble_eq_true rfl) mf_10_115 rfl rfl dX10_put_119 ?_
    refine kw_iconst C (0 : Int32) dX10_put_122 rfl ?_
    refine kw_iald C _ 0 (hA10_56 g σ9) rfl (by decide) dX10_put_123 ?_
    obtain ⟨h10, hf⟩ := gd_elim hf
    obtain ⟨σ11, eσ11, hf⟩ := lt_elim hf
    refine kw_iast C _ 0 (hA10_74 g σ9) rfl h10 ((hS10_74 g σ9 _).trans (congrArg (wM g) eσ11.symm)) dX10_put_124 ?_
    exact kw_vret (u9 := ()) C K dX10_put_125 hf
  · have hf := if_n c5 hf
    refine kw_aload_n C dX10_put_8 rfl 1 rfl ?_
    refine kw_iload_n C dX10_put_9 rfl 2 rfl ?_
    refine kw_iload_n C dX10_put_10 rfl 3 rfl ?_
    refine kw_iadd C dX10_put_11 ?_
    refine kw_aload_n C dX10_put_12 rfl 0 rfl ?_
    refine kw_get C inG10 _ (hO10 g σ2) rfl 46 (Nat.le_of_ble_eq_true rfl) mf_10_85 rfl rfl dX10_put_13 ?_
    refine kw_iload_n C dX10_put_16 rfl 3 rfl ?_
    obtain ⟨h12, hf⟩ := gd_elim hf
    refine kw_iald C _ 0 (hA10_46 g σ2) rfl h12 dX10_put_17 ?_
    obtain ⟨h13, hf⟩ := gd_elim hf
    obtain ⟨σ14, eσ14, hf⟩ := lt_elim hf
    refine kw_iast C _ 0 (hA10_74 g σ2) rfl h13 ((hS10_74 g σ2 _).trans (congrArg (wM g) eσ14.symm)) dX10_put_18 ?_
    refine kw_aload_n C dX10_put_19 rfl 1 rfl ?_
    refine kw_iload_n C dX10_put_20 rfl 2 rfl ?_
    refine kw_bipush C (6 : Int32) dX10_put_21 rfl ?_
    refine kw_iadd C dX10_put_23 ?_
    refine kw_iload_n C dX10_put_24 rfl 3 rfl ?_
    refine kw_iadd C dX10_put_25 ?_
    refine kw_aload_n C dX10_put_26 rfl 0 rfl ?_
    refine kw_get C inG10 _ (hO10 g σ14) rfl 48 (Nat.le_of_ble_eq_true rfl) mf_10_91 rfl rfl dX10_put_27 ?_
    refine kw_iload_n C dX10_put_30 rfl 3 rfl ?_
    obtain ⟨h15, hf⟩ := gd_elim hf
    refine kw_iald C _ 0 (hA10_48 g σ14) rfl h15 dX10_put_31 ?_
    obtain ⟨h16, hf⟩ := gd_elim hf
    obtain ⟨σ17, eσ17, hf⟩ := lt_elim hf
    refine kw_iast C _ 0 (hA10_74 g σ14) rfl h16 ((hS10_74 g σ14 _).trans (congrArg (wM g) eσ17.symm)) dX10_put_32 ?_
    refine kw_aload_n C dX10_put_33 rfl 1 rfl ?_
    refine kw_iload_n C dX10_put_34 rfl 2 rfl ?_
    refine kw_bipush C (12 : Int32) dX10_put_35 rfl ?_
    refine kw_iadd C dX10_put_37 ?_
    refine kw_iload_n C dX10_put_38 rfl 3 rfl ?_
    refine kw_iadd C dX10_put_39 ?_
    refine kw_aload_n C dX10_put_40 rfl 0 rfl ?_
    refine kw_get C inG10 _ (hO10 g σ17) rfl 49 (Nat.le_of_ble_eq_true rfl) mf_10_94 rfl rfl dX10_put_41 ?_
    refine kw_iload_n C dX10_put_44 rfl 3 rfl ?_
    obtain ⟨h18, hf⟩ := gd_elim hf
    refine kw_zald C _ 3 (hA10_49 g σ17) rfl h18 dX10_put_45 ?_
    obtain ⟨J20, hJ20, hf⟩ := jnx1_elim hf
    have kJ20 : ∀ (x19 : Int32), J20 x19 = some σ0 → KW X σ17 54 [(0, .ref (g.1 0)), (1, .ref (g.2.1 0 74)), (2, .int p1), (3, .int x1)] [.int x19, .int ((p1 + (12 : Int32)) + x1), .ref (g.2.1 0 74)] := by
      clear hf
      intro x19 hf
      have hf := (hJ20 x19).symm.trans hf
      obtain ⟨h21, hf⟩ := gd_elim hf
      obtain ⟨σ22, eσ22, hf⟩ := lt_elim hf
      refine kw_iast C _ 0 (hA10_74 g σ17) rfl h21 ((hS10_74 g σ17 _).trans (congrArg (wM g) eσ22.symm)) dX10_put_54 ?_
      refine kw_aload_n C dX10_put_55 rfl 1 rfl ?_
      refine kw_iload_n C dX10_put_56 rfl 2 rfl ?_
      refine kw_bipush C (18 : Int32) dX10_put_57 rfl ?_
      refine kw_iadd C dX10_put_59 ?_
      refine kw_iload_n C dX10_put_60 rfl 3 rfl ?_
      refine kw_iadd C dX10_put_61 ?_
      refine kw_aload_n C dX10_put_62 rfl 0 rfl ?_
      refine kw_get C inG10 _ (hO10 g σ22) rfl 50 (Nat.le_of_ble_eq_true rfl) mf_10_97 rfl rfl dX10_put_63 ?_
      refine kw_iload_n C dX10_put_66 rfl 3 rfl ?_
      obtain ⟨h23, hf⟩ := gd_elim hf
      refine kw_iald C _ 0 (hA10_50 g σ22) rfl h23 dX10_put_67 ?_
      obtain ⟨h24, hf⟩ := gd_elim hf
      obtain ⟨σ25, eσ25, hf⟩ := lt_elim hf
      refine kw_iast C _ 0 (hA10_74 g σ22) rfl h24 ((hS10_74 g σ22 _).trans (congrArg (wM g) eσ25.symm)) dX10_put_68 ?_
      refine kw_aload_n C dX10_put_69 rfl 1 rfl ?_
      refine kw_iload_n C dX10_put_70 rfl 2 rfl ?_
      refine kw_bipush C (24 : Int32) dX10_put_71 rfl ?_
      refine kw_iadd C dX10_put_73 ?_
      refine kw_iload_n C dX10_put_74 rfl 3 rfl ?_
      refine kw_iadd C dX10_put_75 ?_
      refine kw_aload_n C dX10_put_76 rfl 0 rfl ?_
      refine kw_get C inG10 _ (hO10 g σ25) rfl 51 (Nat.le_of_ble_eq_true rfl) mf_10_100 rfl rfl dX10_put_77 ?_
      refine kw_iload_n C dX10_put_80 rfl 3 rfl ?_
      obtain ⟨h26, hf⟩ := gd_elim hf
      refine kw_iald C _ 0 (hA10_51 g σ25) rfl h26 dX10_put_81 ?_
      obtain ⟨h27, hf⟩ := gd_elim hf
      obtain ⟨σ28, eσ28, hf⟩ := lt_elim hf
      refine kw_iast C _ 0 (hA10_74 g σ25) rfl h27 ((hS10_74 g σ25 _).trans (congrArg (wM g) eσ28.symm)) dX10_put_82 ?_
      obtain ⟨x29, ex29, hf⟩ := lt_elim hf
      refine kw_iinc C x29 dX10_put_83 3 rfl ex29.symm hN (Nat.le_of_ble_eq_true rfl) [(3, .int x29), (0, .ref (g.1 0)), (1, .ref (g.2.1 0 74)), (2, .int p1)] rfl ?_
      refine kw_goto C 2 dX10_put_86 rfl ?_
      refine kw_sub [1, 2, 3, 0] _ rfl ?_
      exact ih4 _ _ hf
    refine kw_if_eq C 53 dX10_put_46 rfl (fun c30 => ?_) (fun c30 => ?_)
    · have hf := if_p c30 hf
      refine kw_iconst C (0 : Int32) dX10_put_53 rfl ?_
      exact kJ20 _ hf
    · have hf := if_n c30 hf
      refine kw_iconst C (1 : Int32) dX10_put_49 rfl ?_
      refine kw_goto C 54 dX10_put_50 rfl ?_
      exact kJ20 _ hf
set_option maxRecDepth 100000 in
set_option maxHeartbeats 4000000 in
theorem kX10_keep (L : Launch) (D : va_G) (g : GwT) (t0 : Nat) (σ : St) (r0 : Int32) (σ0 : St) (hf : fX10_keep σ  = some (r0, σ0)) : CtI L D (ttG g) (wM g) t0 yX10_keep cX10_keep 2 (some .int) { frames := 1, cells := 0, slots := 0, locals := 23 } [.ref (g.1 0)] σ r0 σ0 := by
  refine CtI.of (own := RX10) (by decide) rfl (Nat.le_of_ble_eq_true rfl) [(0, .ref (g.1 0))] rfl ?_
  intro X C hN K
  unfold fX10_keep at hf
  refine kw_aload_n C dX10_keep_0 rfl 0 rfl ?_
  refine kw_iconst C (0 : Int32) dX10_keep_1 rfl ?_
  obtain ⟨σ1, eσ1, hf⟩ := lt_elim hf
  refine kw_put C inG10 tyX10 tyX10_ok nmX10 _ (hO10 g σ) rfl 2 (Nat.le_of_ble_eq_true rfl) mf_10_151 rfl rfl (tyX10_ok 2 (Nat.le_of_ble_eq_true rfl)) rfl rfl (Nat.le_of_ble_eq_true rfl) ((hF10_2 g σ _).trans (congrArg (wM g) eσ1.symm)) dX10_keep_2 ?_
  refine kw_aload_n C dX10_keep_5 rfl 0 rfl ?_
  refine kw_iconst C (1 : Int32) dX10_keep_6 rfl ?_
  obtain ⟨σ2, eσ2, hf⟩ := lt_elim hf
  refine kw_put C inG10 tyX10 tyX10_ok nmX10 _ (hO10 g σ1) rfl 73 (Nat.le_of_ble_eq_true rfl) mf_10_350 rfl rfl (tyX10_ok 73 (Nat.le_of_ble_eq_true rfl)) (narrow_bz (by decide)) (fits_bz (by decide)) (Nat.le_of_ble_eq_true rfl) ((hF10_73 g σ1 _).trans (congrArg (wM g) eσ2.symm)) dX10_keep_7 ?_
  refine kw_aload_n C dX10_keep_10 rfl 0 rfl ?_
  refine kw_aload_n C dX10_keep_11 rfl 0 rfl ?_
  refine kw_get C inG10 _ (hO10 g σ2) rfl 74 (Nat.le_of_ble_eq_true rfl) mf_10_139 rfl rfl dX10_keep_12 ?_
  refine kw_iconst C (0 : Int32) dX10_keep_15 rfl ?_
  obtain ⟨σ4, hc3, hf⟩ := bV_elim hf
  refine kw_callVV C [.ref (g.2.1 0 74), .int (0 : Int32)] (kX10_put_a10_74 L D g t0 (0 : Int32) σ2 _ hc3) RX10 mV_X10_499 ⟨rfl, rfl⟩ dd_X10_put ⟨Nat.le_of_ble_eq_true rfl, Nat.le_of_ble_eq_true rfl⟩ _ (hO10 g σ2) rfl rfl rfl (Nat.le_of_ble_eq_true rfl) dX10_keep_16 ?_
  refine kw_iconst C (0 : Int32) dX10_keep_19 rfl ?_
  refine kw_istore_n C dX10_keep_20 rfl hN (Nat.le_of_ble_eq_true rfl) [(1, .int (0 : Int32)), (0, .ref (g.1 0))] rfl ?_
  refine kw_sub [1, 0] _ rfl ?_
  refine lpx2_walk (P := fun (x5 : Int32) (σ6 : St) => KW X σ6 21 [(0, .ref (g.1 0)), (1, .int x5)] []) ?_ FU _ _ hf
  intro self7 x5 σ6 ih8 hf
  refine kw_iload_n C dX10_keep_21 rfl 1 rfl ?_
  refine kw_bipush C (6 : Int32) dX10_keep_22 rfl ?_
  refine kw_icmp_ge C 83 dX10_keep_24 rfl (fun c9 => ?_) (fun c9 => ?_)
  · have hf := if_p c9 hf
    refine kw_aload_n C dX10_keep_83 rfl 0 rfl ?_
    refine kw_get C inG10 _ (hO10 g σ6) rfl 75 (Nat.le_of_ble_eq_true rfl) mf_10_142 rfl rfl dX10_keep_84 ?_
    refine kw_bipush C (18 : Int32) dX10_keep_87 rfl ?_
    refine kw_aload_n C dX10_keep_89 rfl 0 rfl ?_
    refine kw_get C inG10 _ (hO10 g σ6) rfl 57 (Nat.le_of_ble_eq_true rfl) mf_10_118 rfl rfl dX10_keep_90 ?_
    refine kw_iconst C (0 : Int32) dX10_keep_93 rfl ?_
    refine kw_zald C _ 3 (hA10_57 g σ6) rfl (by decide) dX10_keep_94 ?_
    obtain ⟨J11, hJ11, hf⟩ := jnx1_elim hf
    have kJ11 : ∀ (x10 : Int32), J11 x10 = some (r0, σ0) → KW X σ6 103 [(0, .ref (g.1 0))] [.int x10, .int (18 : Int32), .ref (g.2.1 0 75)] := by
      clear hf
      intro x10 hf
      have hf := (hJ11 x10).symm.trans hf
      obtain ⟨σ12, eσ12, hf⟩ := lt_elim hf
      refine kw_iast C _ 0 (hA10_75 g σ6) rfl (by decide) ((hS10_75 g σ6 _).trans (congrArg (wM g) eσ12.symm)) dX10_keep_103 ?_
      refine kw_aload_n C dX10_keep_104 rfl 0 rfl ?_
      refine kw_get C inG10 _ (hO10 g σ12) rfl 75 (Nat.le_of_ble_eq_true rfl) mf_10_142 rfl rfl dX10_keep_105 ?_
      refine kw_bipush C (19 : Int32) dX10_keep_108 rfl ?_
      refine kw_aload_n C dX10_keep_110 rfl 0 rfl ?_
      refine kw_get C inG10 _ (hO10 g σ12) rfl 58 (Nat.le_of_ble_eq_true rfl) mf_10_121 rfl rfl dX10_keep_111 ?_
      refine kw_iconst C (0 : Int32) dX10_keep_114 rfl ?_
      refine kw_iald C _ 0 (hA10_58 g σ12) rfl (by decide) dX10_keep_115 ?_
      obtain ⟨σ13, eσ13, hf⟩ := lt_elim hf
      refine kw_iast C _ 0 (hA10_75 g σ12) rfl (by decide) ((hS10_75 g σ12 _).trans (congrArg (wM g) eσ13.symm)) dX10_keep_116 ?_
      refine kw_aload_n C dX10_keep_117 rfl 0 rfl ?_
      refine kw_get C inG10 _ (hO10 g σ13) rfl 75 (Nat.le_of_ble_eq_true rfl) mf_10_142 rfl rfl dX10_keep_118 ?_
      refine kw_bipush C (20 : Int32) dX10_keep_121 rfl ?_
      refine kw_aload_n C dX10_keep_123 rfl 0 rfl ?_
      refine kw_get C inG10 _ (hO10 g σ13) rfl 59 (Nat.le_of_ble_eq_true rfl) mf_10_124 rfl rfl dX10_keep_124 ?_
      refine kw_iconst C (0 : Int32) dX10_keep_127 rfl ?_
      refine kw_iald C _ 0 (hA10_59 g σ13) rfl (by decide) dX10_keep_128 ?_
      obtain ⟨σ14, eσ14, hf⟩ := lt_elim hf
      refine kw_iast C _ 0 (hA10_75 g σ13) rfl (by decide) ((hS10_75 g σ13 _).trans (congrArg (wM g) eσ14.symm)) dX10_keep_129 ?_
      refine kw_aload_n C dX10_keep_130 rfl 0 rfl ?_
      refine kw_aload_n C dX10_keep_131 rfl 0 rfl ?_
      refine kw_get C inG10 _ (hO10 g σ14) rfl 60 (Nat.le_of_ble_eq_true rfl) mf_10_337 rfl rfl dX10_keep_132 ?_
      obtain ⟨σ15, eσ15, hf⟩ := lt_elim hf
      refine kw_put C inG10 tyX10 tyX10_ok nmX10 _ (hO10 g σ14) rfl 76 (Nat.le_of_ble_eq_true rfl) mf_10_505 rfl rfl (tyX10_ok 76 (Nat.le_of_ble_eq_true rfl)) rfl rfl (Nat.le_of_ble_eq_true rfl) ((hF10_76 g σ14 _).trans (congrArg (wM g) eσ15.symm)) dX10_keep_135 ?_
      refine kw_aload_n C dX10_keep_138 rfl 0 rfl ?_
      refine kw_get C inG10 _ (hO10 g σ15) rfl 59 (Nat.le_of_ble_eq_true rfl) mf_10_124 rfl rfl dX10_keep_139 ?_
      refine kw_iconst C (0 : Int32) dX10_keep_142 rfl ?_
      refine kw_iald C _ 0 (hA10_59 g σ15) rfl (by decide) dX10_keep_143 ?_
      exact kw_iret C K dX10_keep_144 hf
    refine kw_if_eq C 102 dX10_keep_95 rfl (fun c16 => ?_) (fun c16 => ?_)
    · have hf := if_p c16 hf
      refine kw_iconst C (0 : Int32) dX10_keep_102 rfl ?_
      refine kw_sub [0] _ rfl ?_
      exact kJ11 _ hf
    · have hf := if_n c16 hf
      refine kw_iconst C (1 : Int32) dX10_keep_98 rfl ?_
      refine kw_goto C 103 dX10_keep_99 rfl ?_
      refine kw_sub [0] _ rfl ?_
      exact kJ11 _ hf
  · have hf := if_n c9 hf
    refine kw_aload_n C dX10_keep_27 rfl 0 rfl ?_
    refine kw_get C inG10 _ (hO10 g σ6) rfl 75 (Nat.le_of_ble_eq_true rfl) mf_10_142 rfl rfl dX10_keep_28 ?_
    refine kw_iload_n C dX10_keep_31 rfl 1 rfl ?_
    refine kw_aload_n C dX10_keep_32 rfl 0 rfl ?_
    refine kw_get C inG10 _ (hO10 g σ6) rfl 47 (Nat.le_of_ble_eq_true rfl) mf_10_88 rfl rfl dX10_keep_33 ?_
    refine kw_iload_n C dX10_keep_36 rfl 1 rfl ?_
    obtain ⟨h17, hf⟩ := gd_elim hf
    refine kw_iald C _ 0 (hA10_47 g σ6) rfl h17 dX10_keep_37 ?_
    obtain ⟨h18, hf⟩ := gd_elim hf
    obtain ⟨σ19, eσ19, hf⟩ := lt_elim hf
    refine kw_iast C _ 0 (hA10_75 g σ6) rfl h18 ((hS10_75 g σ6 _).trans (congrArg (wM g) eσ19.symm)) dX10_keep_38 ?_
    refine kw_aload_n C dX10_keep_39 rfl 0 rfl ?_
    refine kw_get C inG10 _ (hO10 g σ19) rfl 75 (Nat.le_of_ble_eq_true rfl) mf_10_142 rfl rfl dX10_keep_40 ?_
    refine kw_bipush C (6 : Int32) dX10_keep_43 rfl ?_
    refine kw_iload_n C dX10_keep_45 rfl 1 rfl ?_
    refine kw_iadd C dX10_keep_46 ?_
    refine kw_aload_n C dX10_keep_47 rfl 0 rfl ?_
    refine kw_get C inG10 _ (hO10 g σ19) rfl 52 (Nat.le_of_ble_eq_true rfl) mf_10_103 rfl rfl dX10_keep_48 ?_
    refine kw_iload_n C dX10_keep_51 rfl 1 rfl ?_
    obtain ⟨h20, hf⟩ := gd_elim hf
    refine kw_iald C _ 0 (hA10_52 g σ19) rfl h20 dX10_keep_52 ?_
    obtain ⟨h21, hf⟩ := gd_elim hf
    obtain ⟨σ22, eσ22, hf⟩ := lt_elim hf
    refine kw_iast C _ 0 (hA10_75 g σ19) rfl h21 ((hS10_75 g σ19 _).trans (congrArg (wM g) eσ22.symm)) dX10_keep_53 ?_
    refine kw_aload_n C dX10_keep_54 rfl 0 rfl ?_
    refine kw_get C inG10 _ (hO10 g σ22) rfl 75 (Nat.le_of_ble_eq_true rfl) mf_10_142 rfl rfl dX10_keep_55 ?_
    refine kw_bipush C (12 : Int32) dX10_keep_58 rfl ?_
    refine kw_iload_n C dX10_keep_60 rfl 1 rfl ?_
    refine kw_iadd C dX10_keep_61 ?_
    refine kw_aload_n C dX10_keep_62 rfl 0 rfl ?_
    refine kw_get C inG10 _ (hO10 g σ22) rfl 53 (Nat.le_of_ble_eq_true rfl) mf_10_106 rfl rfl dX10_keep_63 ?_
    refine kw_iload_n C dX10_keep_66 rfl 1 rfl ?_
    obtain ⟨h23, hf⟩ := gd_elim hf
    refine kw_zald C _ 3 (hA10_53 g σ22) rfl h23 dX10_keep_67 ?_
    obtain ⟨J25, hJ25, hf⟩ := jnx1_elim hf
    have kJ25 : ∀ (x24 : Int32), J25 x24 = some (r0, σ0) → KW X σ22 76 [(0, .ref (g.1 0)), (1, .int x5)] [.int x24, .int ((12 : Int32) + x5), .ref (g.2.1 0 75)] := by
      clear hf
      intro x24 hf
      have hf := (hJ25 x24).symm.trans hf
      obtain ⟨h26, hf⟩ := gd_elim hf
      obtain ⟨σ27, eσ27, hf⟩ := lt_elim hf
      refine kw_iast C _ 0 (hA10_75 g σ22) rfl h26 ((hS10_75 g σ22 _).trans (congrArg (wM g) eσ27.symm)) dX10_keep_76 ?_
      obtain ⟨x28, ex28, hf⟩ := lt_elim hf
      refine kw_iinc C x28 dX10_keep_77 1 rfl ex28.symm hN (Nat.le_of_ble_eq_true rfl) [(1, .int x28), (0, .ref (g.1 0))] rfl ?_
      refine kw_goto C 21 dX10_keep_80 rfl ?_
      refine kw_sub [1, 0] _ rfl ?_
      exact ih8 _ _ hf
    refine kw_if_eq C 75 dX10_keep_68 rfl (fun c29 => ?_) (fun c29 => ?_)
    · have hf := if_p c29 hf
      refine kw_iconst C (0 : Int32) dX10_keep_75 rfl ?_
      exact kJ25 _ hf
    · have hf := if_n c29 hf
      refine kw_iconst C (1 : Int32) dX10_keep_71 rfl ?_
      refine kw_goto C 76 dX10_keep_72 rfl ?_
      exact kJ25 _ hf
set_option maxRecDepth 100000 in
set_option maxHeartbeats 4000000 in
theorem kX10_take_a10_74 (L : Launch) (D : va_G) (g : GwT) (t0 : Nat) (p1 : Int32) (σ : St) (σ0 : St) (hf : fX10_take_a10_74 σ p1 = some σ0) : CtV L D (ttG g) (wM g) t0 yX10_take cX10_take 4 none { frames := 0, cells := 0, slots := 0, locals := 0 } [.ref (g.1 0), .ref (g.2.1 0 74), .int p1] σ σ0 := by
  refine CtV.of (own := RX10) (by decide) rfl (Nat.le_of_ble_eq_true rfl) [(0, .ref (g.1 0)), (1, .ref (g.2.1 0 74)), (2, .int p1)] rfl ?_
  intro X C hN K
  unfold fX10_take_a10_74 at hf
  refine kw_iconst C (0 : Int32) dX10_take_0 rfl ?_
  refine kw_istore_n C dX10_take_1 rfl hN (Nat.le_of_ble_eq_true rfl) [(3, .int (0 : Int32)), (0, .ref (g.1 0)), (1, .ref (g.2.1 0 74)), (2, .int p1)] rfl ?_
  refine kw_sub [1, 2, 3, 0] _ rfl ?_
  refine lpx2_walk (P := fun (x1 : Int32) (σ2 : St) => KW X σ2 2 [(0, .ref (g.1 0)), (1, .ref (g.2.1 0 74)), (2, .int p1), (3, .int x1)] []) ?_ FU _ _ hf
  intro self3 x1 σ2 ih4 hf
  refine kw_iload_n C dX10_take_2 rfl 3 rfl ?_
  refine kw_bipush C (6 : Int32) dX10_take_3 rfl ?_
  refine kw_icmp_ge C 90 dX10_take_5 rfl (fun c5 => ?_) (fun c5 => ?_)
  · have hf := if_p c5 hf
    refine kw_aload_n C dX10_take_90 rfl 0 rfl ?_
    refine kw_get C inG10 _ (hO10 g σ2) rfl 54 (Nat.le_of_ble_eq_true rfl) mf_10_109 rfl rfl dX10_take_91 ?_
    refine kw_iconst C (0 : Int32) dX10_take_94 rfl ?_
    refine kw_aload_n C dX10_take_95 rfl 1 rfl ?_
    refine kw_iload_n C dX10_take_96 rfl 2 rfl ?_
    refine kw_bipush C (30 : Int32) dX10_take_97 rfl ?_
    refine kw_iadd C dX10_take_99 ?_
    obtain ⟨h6, hf⟩ := gd_elim hf
    refine kw_iald C _ 0 (hA10_74 g σ2) rfl h6 dX10_take_100 ?_
    obtain ⟨σ7, eσ7, hf⟩ := lt_elim hf
    refine kw_iast C _ 0 (hA10_54 g σ2) rfl (by decide) ((hS10_54 g σ2 _).trans (congrArg (wM g) eσ7.symm)) dX10_take_101 ?_
    refine kw_aload_n C dX10_take_102 rfl 0 rfl ?_
    refine kw_get C inG10 _ (hO10 g σ7) rfl 55 (Nat.le_of_ble_eq_true rfl) mf_10_112 rfl rfl dX10_take_103 ?_
    refine kw_iconst C (0 : Int32) dX10_take_106 rfl ?_
    refine kw_aload_n C dX10_take_107 rfl 1 rfl ?_
    refine kw_iload_n C dX10_take_108 rfl 2 rfl ?_
    refine kw_bipush C (31 : Int32) dX10_take_109 rfl ?_
    refine kw_iadd C dX10_take_111 ?_
    obtain ⟨h8, hf⟩ := gd_elim hf
    refine kw_iald C _ 0 (hA10_74 g σ7) rfl h8 dX10_take_112 ?_
    obtain ⟨σ9, eσ9, hf⟩ := lt_elim hf
    refine kw_iast C _ 0 (hA10_55 g σ7) rfl (by decide) ((hS10_55 g σ7 _).trans (congrArg (wM g) eσ9.symm)) dX10_take_113 ?_
    refine kw_aload_n C dX10_take_114 rfl 0 rfl ?_
    refine kw_get C inG10 _ (hO10 g σ9) rfl 56 (Nat.le_of_ble_eq_true rfl) mf_10_115 rfl rfl dX10_take_115 ?_
    refine kw_iconst C (0 : Int32) dX10_take_118 rfl ?_
    refine kw_aload_n C dX10_take_119 rfl 1 rfl ?_
    refine kw_iload_n C dX10_take_120 rfl 2 rfl ?_
    refine kw_bipush C (32 : Int32) dX10_take_121 rfl ?_
    refine kw_iadd C dX10_take_123 ?_
    obtain ⟨h10, hf⟩ := gd_elim hf
    refine kw_iald C _ 0 (hA10_74 g σ9) rfl h10 dX10_take_124 ?_
    obtain ⟨σ11, eσ11, hf⟩ := lt_elim hf
    refine kw_iast C _ 0 (hA10_56 g σ9) rfl (by decide) ((hS10_56 g σ9 _).trans (congrArg (wM g) eσ11.symm)) dX10_take_125 ?_
    exact kw_vret (u9 := ()) C K dX10_take_126 hf
  · have hf := if_n c5 hf
    refine kw_aload_n C dX10_take_8 rfl 0 rfl ?_
    refine kw_get C inG10 _ (hO10 g σ2) rfl 46 (Nat.le_of_ble_eq_true rfl) mf_10_85 rfl rfl dX10_take_9 ?_
    refine kw_iload_n C dX10_take_12 rfl 3 rfl ?_
    refine kw_aload_n C dX10_take_13 rfl 1 rfl ?_
    refine kw_iload_n C dX10_take_14 rfl 2 rfl ?_
    refine kw_iload_n C dX10_take_15 rfl 3 rfl ?_
    refine kw_iadd C dX10_take_16 ?_
    obtain ⟨h12, hf⟩ := gd_elim hf
    refine kw_iald C _ 0 (hA10_74 g σ2) rfl h12 dX10_take_17 ?_
    obtain ⟨h13, hf⟩ := gd_elim hf
    obtain ⟨σ14, eσ14, hf⟩ := lt_elim hf
    refine kw_iast C _ 0 (hA10_46 g σ2) rfl h13 ((hS10_46 g σ2 _).trans (congrArg (wM g) eσ14.symm)) dX10_take_18 ?_
    refine kw_aload_n C dX10_take_19 rfl 0 rfl ?_
    refine kw_get C inG10 _ (hO10 g σ14) rfl 48 (Nat.le_of_ble_eq_true rfl) mf_10_91 rfl rfl dX10_take_20 ?_
    refine kw_iload_n C dX10_take_23 rfl 3 rfl ?_
    refine kw_aload_n C dX10_take_24 rfl 1 rfl ?_
    refine kw_iload_n C dX10_take_25 rfl 2 rfl ?_
    refine kw_bipush C (6 : Int32) dX10_take_26 rfl ?_
    refine kw_iadd C dX10_take_28 ?_
    refine kw_iload_n C dX10_take_29 rfl 3 rfl ?_
    refine kw_iadd C dX10_take_30 ?_
    obtain ⟨h15, hf⟩ := gd_elim hf
    refine kw_iald C _ 0 (hA10_74 g σ14) rfl h15 dX10_take_31 ?_
    obtain ⟨h16, hf⟩ := gd_elim hf
    obtain ⟨σ17, eσ17, hf⟩ := lt_elim hf
    refine kw_iast C _ 0 (hA10_48 g σ14) rfl h16 ((hS10_48 g σ14 _).trans (congrArg (wM g) eσ17.symm)) dX10_take_32 ?_
    refine kw_aload_n C dX10_take_33 rfl 0 rfl ?_
    refine kw_get C inG10 _ (hO10 g σ17) rfl 49 (Nat.le_of_ble_eq_true rfl) mf_10_94 rfl rfl dX10_take_34 ?_
    refine kw_iload_n C dX10_take_37 rfl 3 rfl ?_
    refine kw_aload_n C dX10_take_38 rfl 1 rfl ?_
    refine kw_iload_n C dX10_take_39 rfl 2 rfl ?_
    refine kw_bipush C (12 : Int32) dX10_take_40 rfl ?_
    refine kw_iadd C dX10_take_42 ?_
    refine kw_iload_n C dX10_take_43 rfl 3 rfl ?_
    refine kw_iadd C dX10_take_44 ?_
    obtain ⟨h18, hf⟩ := gd_elim hf
    refine kw_iald C _ 0 (hA10_74 g σ17) rfl h18 dX10_take_45 ?_
    refine kw_iconst C (1 : Int32) dX10_take_46 rfl ?_
    obtain ⟨J20, hJ20, hf⟩ := jnx1_elim hf
    have kJ20 : ∀ (x19 : Int32), J20 x19 = some σ0 → KW X σ17 55 [(0, .ref (g.1 0)), (1, .ref (g.2.1 0 74)), (2, .int p1), (3, .int x1)] [.int x19, .int x1, .ref (g.2.1 0 49)] := by
      clear hf
      intro x19 hf
      have hf := (hJ20 x19).symm.trans hf
      obtain ⟨h21, hf⟩ := gd_elim hf
      obtain ⟨σ22, eσ22, hf⟩ := lt_elim hf
      refine kw_zast C _ 3 (hA10_49 g σ17) rfl h21 ((hS10_49 g σ17 _).trans (congrArg (wM g) eσ22.symm)) dX10_take_55 ?_
      refine kw_aload_n C dX10_take_56 rfl 0 rfl ?_
      refine kw_get C inG10 _ (hO10 g σ22) rfl 50 (Nat.le_of_ble_eq_true rfl) mf_10_97 rfl rfl dX10_take_57 ?_
      refine kw_iload_n C dX10_take_60 rfl 3 rfl ?_
      refine kw_aload_n C dX10_take_61 rfl 1 rfl ?_
      refine kw_iload_n C dX10_take_62 rfl 2 rfl ?_
      refine kw_bipush C (18 : Int32) dX10_take_63 rfl ?_
      refine kw_iadd C dX10_take_65 ?_
      refine kw_iload_n C dX10_take_66 rfl 3 rfl ?_
      refine kw_iadd C dX10_take_67 ?_
      obtain ⟨h23, hf⟩ := gd_elim hf
      refine kw_iald C _ 0 (hA10_74 g σ22) rfl h23 dX10_take_68 ?_
      obtain ⟨h24, hf⟩ := gd_elim hf
      obtain ⟨σ25, eσ25, hf⟩ := lt_elim hf
      refine kw_iast C _ 0 (hA10_50 g σ22) rfl h24 ((hS10_50 g σ22 _).trans (congrArg (wM g) eσ25.symm)) dX10_take_69 ?_
      refine kw_aload_n C dX10_take_70 rfl 0 rfl ?_
      refine kw_get C inG10 _ (hO10 g σ25) rfl 51 (Nat.le_of_ble_eq_true rfl) mf_10_100 rfl rfl dX10_take_71 ?_
      refine kw_iload_n C dX10_take_74 rfl 3 rfl ?_
      refine kw_aload_n C dX10_take_75 rfl 1 rfl ?_
      refine kw_iload_n C dX10_take_76 rfl 2 rfl ?_
      refine kw_bipush C (24 : Int32) dX10_take_77 rfl ?_
      refine kw_iadd C dX10_take_79 ?_
      refine kw_iload_n C dX10_take_80 rfl 3 rfl ?_
      refine kw_iadd C dX10_take_81 ?_
      obtain ⟨h26, hf⟩ := gd_elim hf
      refine kw_iald C _ 0 (hA10_74 g σ25) rfl h26 dX10_take_82 ?_
      obtain ⟨h27, hf⟩ := gd_elim hf
      obtain ⟨σ28, eσ28, hf⟩ := lt_elim hf
      refine kw_iast C _ 0 (hA10_51 g σ25) rfl h27 ((hS10_51 g σ25 _).trans (congrArg (wM g) eσ28.symm)) dX10_take_83 ?_
      obtain ⟨x29, ex29, hf⟩ := lt_elim hf
      refine kw_iinc C x29 dX10_take_84 3 rfl ex29.symm hN (Nat.le_of_ble_eq_true rfl) [(3, .int x29), (0, .ref (g.1 0)), (1, .ref (g.2.1 0 74)), (2, .int p1)] rfl ?_
      refine kw_goto C 2 dX10_take_87 rfl ?_
      refine kw_sub [1, 2, 3, 0] _ rfl ?_
      exact ih4 _ _ hf
    refine kw_icmp_ne C 54 dX10_take_47 rfl (fun c30 => ?_) (fun c30 => ?_)
    · have hf := if_n c30 hf
      refine kw_iconst C (0 : Int32) dX10_take_54 rfl ?_
      exact kJ20 _ hf
    · have hf := if_p c30 hf
      refine kw_iconst C (1 : Int32) dX10_take_50 rfl ?_
      refine kw_goto C 55 dX10_take_51 rfl ?_
      exact kJ20 _ hf
set_option maxRecDepth 100000 in
set_option maxHeartbeats 4000000 in
theorem kX10_back (L : Launch) (D : va_G) (g : GwT) (t0 : Nat) (σ : St) (r0 : Int32) (σ0 : St) (hf : fX10_back σ  = some (r0, σ0)) : CtI L D (ttG g) (wM g) t0 yX10_back cX10_back 2 (some .int) { frames := 1, cells := 0, slots := 0, locals := 23 } [.ref (g.1 0)] σ r0 σ0 := by
  refine CtI.of (own := RX10) (by decide) rfl (Nat.le_of_ble_eq_true rfl) [(0, .ref (g.1 0))] rfl ?_
  intro X C hN K
  unfold fX10_back at hf
  refine kw_aload_n C dX10_back_0 rfl 0 rfl ?_
  refine kw_iconst C (0 : Int32) dX10_back_1 rfl ?_
  obtain ⟨σ1, eσ1, hf⟩ := lt_elim hf
  refine kw_put C inG10 tyX10 tyX10_ok nmX10 _ (hO10 g σ) rfl 2 (Nat.le_of_ble_eq_true rfl) mf_10_151 rfl rfl (tyX10_ok 2 (Nat.le_of_ble_eq_true rfl)) rfl rfl (Nat.le_of_ble_eq_true rfl) ((hF10_2 g σ _).trans (congrArg (wM g) eσ1.symm)) dX10_back_2 ?_
  refine kw_aload_n C dX10_back_5 rfl 0 rfl ?_
  refine kw_get C inG10 _ (hO10 g σ1) rfl 73 (Nat.le_of_ble_eq_true rfl) mf_10_350 rfl rfl dX10_back_6 ?_
  refine kw_if_ne C 14 dX10_back_9 rfl (fun c2 => ?_) (fun c2 => ?_)
  · have hf := if_n c2 hf
    refine kw_aload_n C dX10_back_14 rfl 0 rfl ?_
    refine kw_aload_n C dX10_back_15 rfl 0 rfl ?_
    refine kw_get C inG10 _ (hO10 g σ1) rfl 74 (Nat.le_of_ble_eq_true rfl) mf_10_139 rfl rfl dX10_back_16 ?_
    refine kw_iconst C (0 : Int32) dX10_back_19 rfl ?_
    obtain ⟨σ4, hc3, hf⟩ := bV_elim hf
    refine kw_callVV C [.ref (g.2.1 0 74), .int (0 : Int32)] (kX10_take_a10_74 L D g t0 (0 : Int32) σ1 _ hc3) RX10 mV_X10_502 ⟨rfl, rfl⟩ dd_X10_take ⟨Nat.le_of_ble_eq_true rfl, Nat.le_of_ble_eq_true rfl⟩ _ (hO10 g σ1) rfl rfl rfl (Nat.le_of_ble_eq_true rfl) dX10_back_20 ?_
    refine kw_iconst C (0 : Int32) dX10_back_23 rfl ?_
    refine kw_istore_n C dX10_back_24 rfl hN (Nat.le_of_ble_eq_true rfl) [(1, .int (0 : Int32)), (0, .ref (g.1 0))] rfl ?_
    refine kw_sub [1, 0] _ rfl ?_
    refine lpx2_walk (P := fun (x5 : Int32) (σ6 : St) => KW X σ6 25 [(0, .ref (g.1 0)), (1, .int x5)] []) ?_ FU _ _ hf
    intro self7 x5 σ6 ih8 hf
    refine kw_iload_n C dX10_back_25 rfl 1 rfl ?_
    refine kw_bipush C (6 : Int32) dX10_back_26 rfl ?_
    refine kw_icmp_ge C 88 dX10_back_28 rfl (fun c9 => ?_) (fun c9 => ?_)
    · have hf := if_p c9 hf
      refine kw_aload_n C dX10_back_88 rfl 0 rfl ?_
      refine kw_get C inG10 _ (hO10 g σ6) rfl 57 (Nat.le_of_ble_eq_true rfl) mf_10_118 rfl rfl dX10_back_89 ?_
      refine kw_iconst C (0 : Int32) dX10_back_92 rfl ?_
      refine kw_aload_n C dX10_back_93 rfl 0 rfl ?_
      refine kw_get C inG10 _ (hO10 g σ6) rfl 75 (Nat.le_of_ble_eq_true rfl) mf_10_142 rfl rfl dX10_back_94 ?_
      refine kw_bipush C (18 : Int32) dX10_back_97 rfl ?_
      refine kw_iald C _ 0 (hA10_75 g σ6) rfl (by decide) dX10_back_99 ?_
      refine kw_iconst C (1 : Int32) dX10_back_100 rfl ?_
      obtain ⟨J11, hJ11, hf⟩ := jnx1_elim hf
      have kJ11 : ∀ (x10 : Int32), J11 x10 = some (r0, σ0) → KW X σ6 109 [(0, .ref (g.1 0))] [.int x10, .int (0 : Int32), .ref (g.2.1 0 57)] := by
        clear hf
        intro x10 hf
        have hf := (hJ11 x10).symm.trans hf
        obtain ⟨σ12, eσ12, hf⟩ := lt_elim hf
        refine kw_zast C _ 3 (hA10_57 g σ6) rfl (by decide) ((hS10_57 g σ6 _).trans (congrArg (wM g) eσ12.symm)) dX10_back_109 ?_
        refine kw_aload_n C dX10_back_110 rfl 0 rfl ?_
        refine kw_get C inG10 _ (hO10 g σ12) rfl 58 (Nat.le_of_ble_eq_true rfl) mf_10_121 rfl rfl dX10_back_111 ?_
        refine kw_iconst C (0 : Int32) dX10_back_114 rfl ?_
        refine kw_aload_n C dX10_back_115 rfl 0 rfl ?_
        refine kw_get C inG10 _ (hO10 g σ12) rfl 75 (Nat.le_of_ble_eq_true rfl) mf_10_142 rfl rfl dX10_back_116 ?_
        refine kw_bipush C (19 : Int32) dX10_back_119 rfl ?_
        refine kw_iald C _ 0 (hA10_75 g σ12) rfl (by decide) dX10_back_121 ?_
        obtain ⟨σ13, eσ13, hf⟩ := lt_elim hf
        refine kw_iast C _ 0 (hA10_58 g σ12) rfl (by decide) ((hS10_58 g σ12 _).trans (congrArg (wM g) eσ13.symm)) dX10_back_122 ?_
        refine kw_aload_n C dX10_back_123 rfl 0 rfl ?_
        refine kw_get C inG10 _ (hO10 g σ13) rfl 59 (Nat.le_of_ble_eq_true rfl) mf_10_124 rfl rfl dX10_back_124 ?_
        refine kw_iconst C (0 : Int32) dX10_back_127 rfl ?_
        refine kw_aload_n C dX10_back_128 rfl 0 rfl ?_
        refine kw_get C inG10 _ (hO10 g σ13) rfl 75 (Nat.le_of_ble_eq_true rfl) mf_10_142 rfl rfl dX10_back_129 ?_
        refine kw_bipush C (20 : Int32) dX10_back_132 rfl ?_
        refine kw_iald C _ 0 (hA10_75 g σ13) rfl (by decide) dX10_back_134 ?_
        obtain ⟨σ14, eσ14, hf⟩ := lt_elim hf
        refine kw_iast C _ 0 (hA10_59 g σ13) rfl (by decide) ((hS10_59 g σ13 _).trans (congrArg (wM g) eσ14.symm)) dX10_back_135 ?_
        refine kw_aload_n C dX10_back_136 rfl 0 rfl ?_
        refine kw_aload_n C dX10_back_137 rfl 0 rfl ?_
        refine kw_get C inG10 _ (hO10 g σ14) rfl 76 (Nat.le_of_ble_eq_true rfl) mf_10_505 rfl rfl dX10_back_138 ?_
        obtain ⟨σ15, eσ15, hf⟩ := lt_elim hf
        refine kw_put C inG10 tyX10 tyX10_ok nmX10 _ (hO10 g σ14) rfl 60 (Nat.le_of_ble_eq_true rfl) mf_10_337 rfl rfl (tyX10_ok 60 (Nat.le_of_ble_eq_true rfl)) rfl rfl (Nat.le_of_ble_eq_true rfl) ((hF10_60 g σ14 _).trans (congrArg (wM g) eσ15.symm)) dX10_back_141 ?_
        refine kw_aload_n C dX10_back_144 rfl 0 rfl ?_
        refine kw_iconst C (0 : Int32) dX10_back_145 rfl ?_
        obtain ⟨σ16, eσ16, hf⟩ := lt_elim hf
        refine kw_put C inG10 tyX10 tyX10_ok nmX10 _ (hO10 g σ15) rfl 71 (Nat.le_of_ble_eq_true rfl) mf_10_347 rfl rfl (tyX10_ok 71 (Nat.le_of_ble_eq_true rfl)) rfl rfl (Nat.le_of_ble_eq_true rfl) ((hF10_71 g σ15 _).trans (congrArg (wM g) eσ16.symm)) dX10_back_146 ?_
        refine kw_aload_n C dX10_back_149 rfl 0 rfl ?_
        refine kw_get C inG10 _ (hO10 g σ16) rfl 59 (Nat.le_of_ble_eq_true rfl) mf_10_124 rfl rfl dX10_back_150 ?_
        refine kw_iconst C (0 : Int32) dX10_back_153 rfl ?_
        refine kw_iald C _ 0 (hA10_59 g σ16) rfl (by decide) dX10_back_154 ?_
        exact kw_iret C K dX10_back_155 hf
      refine kw_icmp_ne C 108 dX10_back_101 rfl (fun c17 => ?_) (fun c17 => ?_)
      · have hf := if_n c17 hf
        refine kw_iconst C (0 : Int32) dX10_back_108 rfl ?_
        refine kw_sub [0] _ rfl ?_
        exact kJ11 _ hf
      · have hf := if_p c17 hf
        refine kw_iconst C (1 : Int32) dX10_back_104 rfl ?_
        refine kw_goto C 109 dX10_back_105 rfl ?_
        refine kw_sub [0] _ rfl ?_
        exact kJ11 _ hf
    · have hf := if_n c9 hf
      refine kw_aload_n C dX10_back_31 rfl 0 rfl ?_
      refine kw_get C inG10 _ (hO10 g σ6) rfl 47 (Nat.le_of_ble_eq_true rfl) mf_10_88 rfl rfl dX10_back_32 ?_
      refine kw_iload_n C dX10_back_35 rfl 1 rfl ?_
      refine kw_aload_n C dX10_back_36 rfl 0 rfl ?_
      refine kw_get C inG10 _ (hO10 g σ6) rfl 75 (Nat.le_of_ble_eq_true rfl) mf_10_142 rfl rfl dX10_back_37 ?_
      refine kw_iload_n C dX10_back_40 rfl 1 rfl ?_
      obtain ⟨h18, hf⟩ := gd_elim hf
      refine kw_iald C _ 0 (hA10_75 g σ6) rfl h18 dX10_back_41 ?_
      obtain ⟨h19, hf⟩ := gd_elim hf
      obtain ⟨σ20, eσ20, hf⟩ := lt_elim hf
      refine kw_iast C _ 0 (hA10_47 g σ6) rfl h19 ((hS10_47 g σ6 _).trans (congrArg (wM g) eσ20.symm)) dX10_back_42 ?_
      refine kw_aload_n C dX10_back_43 rfl 0 rfl ?_
      refine kw_get C inG10 _ (hO10 g σ20) rfl 52 (Nat.le_of_ble_eq_true rfl) mf_10_103 rfl rfl dX10_back_44 ?_
      refine kw_iload_n C dX10_back_47 rfl 1 rfl ?_
      refine kw_aload_n C dX10_back_48 rfl 0 rfl ?_
      refine kw_get C inG10 _ (hO10 g σ20) rfl 75 (Nat.le_of_ble_eq_true rfl) mf_10_142 rfl rfl dX10_back_49 ?_
      refine kw_bipush C (6 : Int32) dX10_back_52 rfl ?_
      refine kw_iload_n C dX10_back_54 rfl 1 rfl ?_
      refine kw_iadd C dX10_back_55 ?_
      obtain ⟨h21, hf⟩ := gd_elim hf
      refine kw_iald C _ 0 (hA10_75 g σ20) rfl h21 dX10_back_56 ?_
      obtain ⟨h22, hf⟩ := gd_elim hf
      obtain ⟨σ23, eσ23, hf⟩ := lt_elim hf
      refine kw_iast C _ 0 (hA10_52 g σ20) rfl h22 ((hS10_52 g σ20 _).trans (congrArg (wM g) eσ23.symm)) dX10_back_57 ?_
      refine kw_aload_n C dX10_back_58 rfl 0 rfl ?_
      refine kw_get C inG10 _ (hO10 g σ23) rfl 53 (Nat.le_of_ble_eq_true rfl) mf_10_106 rfl rfl dX10_back_59 ?_
      refine kw_iload_n C dX10_back_62 rfl 1 rfl ?_
      refine kw_aload_n C dX10_back_63 rfl 0 rfl ?_
      refine kw_get C inG10 _ (hO10 g σ23) rfl 75 (Nat.le_of_ble_eq_true rfl) mf_10_142 rfl rfl dX10_back_64 ?_
      refine kw_bipush C (12 : Int32) dX10_back_67 rfl ?_
      refine kw_iload_n C dX10_back_69 rfl 1 rfl ?_
      refine kw_iadd C dX10_back_70 ?_
      obtain ⟨h24, hf⟩ := gd_elim hf
      refine kw_iald C _ 0 (hA10_75 g σ23) rfl h24 dX10_back_71 ?_
      refine kw_iconst C (1 : Int32) dX10_back_72 rfl ?_
      obtain ⟨J26, hJ26, hf⟩ := jnx1_elim hf
      have kJ26 : ∀ (x25 : Int32), J26 x25 = some (r0, σ0) → KW X σ23 81 [(0, .ref (g.1 0)), (1, .int x5)] [.int x25, .int x5, .ref (g.2.1 0 53)] := by
        clear hf
        intro x25 hf
        have hf := (hJ26 x25).symm.trans hf
        obtain ⟨h27, hf⟩ := gd_elim hf
        obtain ⟨σ28, eσ28, hf⟩ := lt_elim hf
        refine kw_zast C _ 3 (hA10_53 g σ23) rfl h27 ((hS10_53 g σ23 _).trans (congrArg (wM g) eσ28.symm)) dX10_back_81 ?_
        obtain ⟨x29, ex29, hf⟩ := lt_elim hf
        refine kw_iinc C x29 dX10_back_82 1 rfl ex29.symm hN (Nat.le_of_ble_eq_true rfl) [(1, .int x29), (0, .ref (g.1 0))] rfl ?_
        refine kw_goto C 25 dX10_back_85 rfl ?_
        refine kw_sub [1, 0] _ rfl ?_
        exact ih8 _ _ hf
      refine kw_icmp_ne C 80 dX10_back_73 rfl (fun c30 => ?_) (fun c30 => ?_)
      · have hf := if_n c30 hf
        refine kw_iconst C (0 : Int32) dX10_back_80 rfl ?_
        exact kJ26 _ hf
      · have hf := if_p c30 hf
        refine kw_iconst C (1 : Int32) dX10_back_76 rfl ?_
        refine kw_goto C 81 dX10_back_77 rfl ?_
        exact kJ26 _ hf
  · have hf := if_p c2 hf
    refine kw_iconst C (-1 : Int32) dX10_back_12 rfl ?_
    exact kw_iret C K dX10_back_13 hf
set_option maxRecDepth 100000 in
set_option maxHeartbeats 4000000 in
theorem kX10_count (L : Launch) (D : va_G) (g : GwT) (t0 : Nat) (p0 : Int32) (σ : St) (r0 : Int32) (σ0 : St) (hf : fX10_count σ p0 = some (r0, σ0)) : CtI L D (ttG g) (wM g) t0 yX10_count cX10_count 2 (some .int) { frames := 2, cells := 0, slots := 0, locals := 45 } [.ref (g.1 0), .int p0] σ r0 σ0 := by
  refine CtI.of (own := RX10) (by decide) rfl (Nat.le_of_ble_eq_true rfl) [(0, .ref (g.1 0)), (1, .int p0)] rfl ?_
  intro X C hN K
  unfold fX10_count at hf
  refine kw_aload_n C dX10_count_0 rfl 0 rfl ?_
  refine kw_iconst C (0 : Int32) dX10_count_1 rfl ?_
  obtain ⟨σ1, eσ1, hf⟩ := lt_elim hf
  refine kw_put C inG10 tyX10 tyX10_ok nmX10 _ (hO10 g σ) rfl 2 (Nat.le_of_ble_eq_true rfl) mf_10_151 rfl rfl (tyX10_ok 2 (Nat.le_of_ble_eq_true rfl)) rfl rfl (Nat.le_of_ble_eq_true rfl) ((hF10_2 g σ _).trans (congrArg (wM g) eσ1.symm)) dX10_count_2 ?_
  refine kw_iload_n C dX10_count_5 rfl 1 rfl ?_
  by_cases c2 : p0 = (0 : Int32)
  · have hf := if_p c2 hf
    refine kw_tabIn C 72 dX10_count_6 c2 (by decide) (by decide) rfl rfl ?_
    refine kw_aload_n C dX10_count_72 rfl 0 rfl ?_
    refine kw_get C inG10 _ (hO10 g σ1) rfl 12 (Nat.le_of_ble_eq_true rfl) mf_10_225 rfl rfl dX10_count_73 ?_
    exact kw_iret C K dX10_count_76 hf
  have hf := if_n c2 hf
  by_cases c3 : p0 = (1 : Int32)
  · have hf := if_p c3 hf
    refine kw_tabIn C 77 dX10_count_6 c3 (by decide) (by decide) rfl rfl ?_
    refine kw_aload_n C dX10_count_77 rfl 0 rfl ?_
    refine kw_get C inG10 _ (hO10 g σ1) rfl 13 (Nat.le_of_ble_eq_true rfl) mf_10_228 rfl rfl dX10_count_78 ?_
    exact kw_iret C K dX10_count_81 hf
  have hf := if_n c3 hf
  by_cases c4 : p0 = (2 : Int32)
  · have hf := if_p c4 hf
    refine kw_tabIn C 82 dX10_count_6 c4 (by decide) (by decide) rfl rfl ?_
    refine kw_aload_n C dX10_count_82 rfl 0 rfl ?_
    refine kw_get C inG10 _ (hO10 g σ1) rfl 14 (Nat.le_of_ble_eq_true rfl) mf_10_231 rfl rfl dX10_count_83 ?_
    exact kw_iret C K dX10_count_86 hf
  have hf := if_n c4 hf
  by_cases c5 : p0 = (3 : Int32)
  · have hf := if_p c5 hf
    refine kw_tabIn C 87 dX10_count_6 c5 (by decide) (by decide) rfl rfl ?_
    refine kw_aload_n C dX10_count_87 rfl 0 rfl ?_
    refine kw_get C inG10 _ (hO10 g σ1) rfl 59 (Nat.le_of_ble_eq_true rfl) mf_10_124 rfl rfl dX10_count_88 ?_
    refine kw_iconst C (0 : Int32) dX10_count_91 rfl ?_
    refine kw_iald C _ 0 (hA10_59 g σ1) rfl (by decide) dX10_count_92 ?_
    exact kw_iret C K dX10_count_93 hf
  have hf := if_n c5 hf
  by_cases c6 : p0 = (4 : Int32)
  · have hf := if_p c6 hf
    refine kw_tabIn C 94 dX10_count_6 c6 (by decide) (by decide) rfl rfl ?_
    refine kw_aload_n C dX10_count_94 rfl 0 rfl ?_
    refine kw_get C inG10 _ (hO10 g σ1) rfl 54 (Nat.le_of_ble_eq_true rfl) mf_10_109 rfl rfl dX10_count_95 ?_
    refine kw_iconst C (0 : Int32) dX10_count_98 rfl ?_
    refine kw_iald C _ 0 (hA10_54 g σ1) rfl (by decide) dX10_count_99 ?_
    exact kw_iret C K dX10_count_100 hf
  have hf := if_n c6 hf
  by_cases c7 : p0 = (5 : Int32)
  · have hf := if_p c7 hf
    refine kw_tabIn C 101 dX10_count_6 c7 (by decide) (by decide) rfl rfl ?_
    refine kw_aload_n C dX10_count_101 rfl 0 rfl ?_
    refine kw_get C inG10 _ (hO10 g σ1) rfl 55 (Nat.le_of_ble_eq_true rfl) mf_10_112 rfl rfl dX10_count_102 ?_
    refine kw_iconst C (0 : Int32) dX10_count_105 rfl ?_
    refine kw_iald C _ 0 (hA10_55 g σ1) rfl (by decide) dX10_count_106 ?_
    exact kw_iret C K dX10_count_107 hf
  have hf := if_n c7 hf
  by_cases c8 : p0 = (6 : Int32)
  · have hf := if_p c8 hf
    refine kw_tabIn C 108 dX10_count_6 c8 (by decide) (by decide) rfl rfl ?_
    refine kw_aload_n C dX10_count_108 rfl 0 rfl ?_
    refine kw_get C inG10 _ (hO10 g σ1) rfl 56 (Nat.le_of_ble_eq_true rfl) mf_10_115 rfl rfl dX10_count_109 ?_
    refine kw_iconst C (0 : Int32) dX10_count_112 rfl ?_
    refine kw_iald C _ 0 (hA10_56 g σ1) rfl (by decide) dX10_count_113 ?_
    exact kw_iret C K dX10_count_114 hf
  have hf := if_n c8 hf
  by_cases c9 : p0 = (7 : Int32)
  · have hf := if_p c9 hf
    refine kw_tabIn C 115 dX10_count_6 c9 (by decide) (by decide) rfl rfl ?_
    refine kw_aload_n C dX10_count_115 rfl 0 rfl ?_
    refine kw_get C inG10 _ (hO10 g σ1) rfl 57 (Nat.le_of_ble_eq_true rfl) mf_10_118 rfl rfl dX10_count_116 ?_
    refine kw_iconst C (0 : Int32) dX10_count_119 rfl ?_
    refine kw_zald C _ 3 (hA10_57 g σ1) rfl (by decide) dX10_count_120 ?_
    obtain ⟨J11, hJ11, hf⟩ := jnx1_elim hf
    have kJ11 : ∀ (x10 : Int32), J11 x10 = some (r0, σ0) → KW X σ1 129 [] [.int x10] := by
      clear hf
      intro x10 hf
      have hf := (hJ11 x10).symm.trans hf
      exact kw_iret C K dX10_count_129 hf
    refine kw_if_eq C 128 dX10_count_121 rfl (fun c12 => ?_) (fun c12 => ?_)
    · have hf := if_p c12 hf
      refine kw_iconst C (0 : Int32) dX10_count_128 rfl ?_
      refine kw_sub [] _ rfl ?_
      exact kJ11 _ hf
    · have hf := if_n c12 hf
      refine kw_iconst C (1 : Int32) dX10_count_124 rfl ?_
      refine kw_goto C 129 dX10_count_125 rfl ?_
      refine kw_sub [] _ rfl ?_
      exact kJ11 _ hf
  have hf := if_n c9 hf
  by_cases c13 : p0 = (8 : Int32)
  · have hf := if_p c13 hf
    refine kw_tabIn C 130 dX10_count_6 c13 (by decide) (by decide) rfl rfl ?_
    refine kw_aload_n C dX10_count_130 rfl 0 rfl ?_
    refine kw_iconst C (0 : Int32) dX10_count_131 rfl ?_
    obtain ⟨r15, hc14, hf⟩ := bd_elim hf
    refine kw_callVI C [.int (0 : Int32)] (kX10_onMany L D g t0 (0 : Int32) σ1 _ hc14) RX10 mV_X10_459 ⟨rfl, rfl⟩ dd_X10_onMany ⟨Nat.le_of_ble_eq_true rfl, Nat.le_of_ble_eq_true rfl⟩ _ (hO10 g σ1) rfl rfl rfl (Nat.le_of_ble_eq_true rfl) dX10_count_132 ?_
    exact kw_iret C K dX10_count_135 hf
  have hf := if_n c13 hf
  by_cases c16 : p0 = (9 : Int32)
  · have hf := if_p c16 hf
    refine kw_tabIn C 136 dX10_count_6 c16 (by decide) (by decide) rfl rfl ?_
    refine kw_aload_n C dX10_count_136 rfl 0 rfl ?_
    refine kw_get C inG10 _ (hO10 g σ1) rfl 58 (Nat.le_of_ble_eq_true rfl) mf_10_121 rfl rfl dX10_count_137 ?_
    refine kw_iconst C (0 : Int32) dX10_count_140 rfl ?_
    refine kw_iald C _ 0 (hA10_58 g σ1) rfl (by decide) dX10_count_141 ?_
    exact kw_iret C K dX10_count_142 hf
  have hf := if_n c16 hf
  by_cases c17 : p0 = (10 : Int32)
  · have hf := if_p c17 hf
    refine kw_tabIn C 143 dX10_count_6 c17 (by decide) (by decide) rfl rfl ?_
    refine kw_aload_n C dX10_count_143 rfl 0 rfl ?_
    refine kw_get C inG10 _ (hO10 g σ1) rfl 67 (Nat.le_of_ble_eq_true rfl) mf_10_344 rfl rfl dX10_count_144 ?_
    exact kw_iret C K dX10_count_147 hf
  have hf := if_n c17 hf
  by_cases c18 : p0 = (11 : Int32)
  · have hf := if_p c18 hf
    refine kw_tabIn C 148 dX10_count_6 c18 (by decide) (by decide) rfl rfl ?_
    refine kw_aload_n C dX10_count_148 rfl 0 rfl ?_
    obtain ⟨r20, hc19, hf⟩ := bd_elim hf
    refine kw_callVI C [] (kX10_knownBy L D g t0 σ1 _ hc19) RX10 mV_X10_490 ⟨rfl, rfl⟩ dd_X10_knownBy ⟨Nat.le_of_ble_eq_true rfl, Nat.le_of_ble_eq_true rfl⟩ _ (hO10 g σ1) rfl rfl rfl (Nat.le_of_ble_eq_true rfl) dX10_count_149 ?_
    exact kw_iret C K dX10_count_152 hf
  have hf := if_n c18 hf
  by_cases c21 : p0 = (12 : Int32)
  · have hf := if_p c21 hf
    refine kw_tabIn C 153 dX10_count_6 c21 (by decide) (by decide) rfl rfl ?_
    refine kw_aload_n C dX10_count_153 rfl 0 rfl ?_
    refine kw_get C inG10 _ (hO10 g σ1) rfl 71 (Nat.le_of_ble_eq_true rfl) mf_10_347 rfl rfl dX10_count_154 ?_
    exact kw_iret C K dX10_count_157 hf
  have hf := if_n c21 hf
  have c2_ : p0.toInt ≠ 0 := ne_ti c2
  have c3_ : p0.toInt ≠ 1 := ne_ti c3
  have c4_ : p0.toInt ≠ 2 := ne_ti c4
  have c5_ : p0.toInt ≠ 3 := ne_ti c5
  have c6_ : p0.toInt ≠ 4 := ne_ti c6
  have c7_ : p0.toInt ≠ 5 := ne_ti c7
  have c8_ : p0.toInt ≠ 6 := ne_ti c8
  have c9_ : p0.toInt ≠ 7 := ne_ti c9
  have c13_ : p0.toInt ≠ 8 := ne_ti c13
  have c16_ : p0.toInt ≠ 9 := ne_ti c16
  have c17_ : p0.toInt ≠ 10 := ne_ti c17
  have c18_ : p0.toInt ≠ 11 := ne_ti c18
  have c21_ : p0.toInt ≠ 12 := ne_ti c21
  refine kw_tabOut C 158 dX10_count_6 (by omega) rfl ?_
  refine kw_iconst C (-1 : Int32) dX10_count_158 rfl ?_
  exact kw_iret C K dX10_count_159 hf
