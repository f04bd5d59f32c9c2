set_option maxRecDepth 100000 in
set_option maxHeartbeats 4000000 in
theorem kX10_hush (L : Launch) (D : va_G) (g : GwT) (t0 : Nat) (p0 : Int32) (p1 : Int32) (σ : St) (r0 : Int32) (σ0 : St) (hf : fX10_hush σ p0 p1 = some (r0, σ0)) : CtI L D (ttG g) (wM g) t0 yX10_hush cX10_hush 6 (some .int) { frames := 8, cells := 0, slots := 0, locals := 188 } [.ref (g.1 0), .int p0, .int p1] σ r0 σ0 := by
  refine CtI.of (own := RX10) (by decide) rfl (Nat.le_of_ble_eq_true rfl) [(0, .ref (g.1 0)), (1, .int p0), (2, .int p1)] rfl ?_
  intro X C hN K
  unfold fX10_hush at hf
  refine kw_aload_n C dX10_hush_0 rfl 0 rfl ?_
  refine kw_iconst C (0 : Int32) dX10_hush_1 rfl ?_
  obtain ⟨σ1, eσ1, hf⟩ := lt_elim hf
  refine kw_put C inG10 tyX10 tyX10_ok nmX10 _ (hO10 g σ) rfl 2 (Nat.le_of_ble_eq_true rfl) mf_10_151 rfl rfl (tyX10_ok 2 (Nat.le_of_ble_eq_true rfl)) rfl rfl (Nat.le_of_ble_eq_true rfl) ((hF10_2 g σ _).trans (congrArg (wM g) eσ1.symm)) dX10_hush_2 ?_
  refine kw_aload_n C dX10_hush_5 rfl 0 rfl ?_
  refine kw_iload_n C dX10_hush_6 rfl 1 rfl ?_
  obtain ⟨r3, hc2, hf⟩ := bd_elim hf
  refine kw_callVI C [.int p0] (kX10_isOnNow L D g t0 p0 σ1 _ hc2) RX10 mV_X10_444 ⟨rfl, rfl⟩ dd_X10_isOnNow ⟨Nat.le_of_ble_eq_true rfl, Nat.le_of_ble_eq_true rfl⟩ _ (hO10 g σ1) rfl rfl rfl (Nat.le_of_ble_eq_true rfl) dX10_hush_7 ?_
  obtain ⟨J4, hJ4, hf⟩ := jnx1_elim hf
  have kJ4 : ∀ (u9 : Unit), J4 u9 = some (r0, σ0) → KW X σ1 23 [] [] := by
    clear hf
    intro u9 hf
    have hf := (hJ4 u9).symm.trans hf
    refine kw_iconst C (-1 : Int32) dX10_hush_23 rfl ?_
    exact kw_iret C K dX10_hush_24 hf
  refine kw_if_eq C 23 dX10_hush_10 rfl (fun c5 => ?_) (fun c5 => ?_)
  · have hf := if_p c5 hf
    refine kw_sub [] _ rfl ?_
    exact kJ4 _ hf
  · have hf := if_n c5 hf
    refine kw_iload_n C dX10_hush_13 rfl 2 rfl ?_
    refine kw_iconst C (1 : Int32) dX10_hush_14 rfl ?_
    refine kw_bipush C (40 : Int32) dX10_hush_15 rfl ?_
    obtain ⟨r7, hc6, hf⟩ := bd_elim hf
    refine kw_callSI C [.int p1, .int (1 : Int32), .int (40 : Int32)] (kX10_isIn L D g t0 p1 (1 : Int32) (40 : Int32) σ1 _ hc6) mS_X10_196 ⟨rfl, rfl⟩ dd_X10_isIn ⟨Nat.le_of_ble_eq_true rfl, Nat.le_of_ble_eq_true rfl⟩ rfl (Nat.le_of_ble_eq_true rfl) dX10_hush_17 ?_
    refine kw_if_ne C 25 dX10_hush_20 rfl (fun c8 => ?_) (fun c8 => ?_)
    · have hf := if_n c8 hf
      refine kw_aload_n C dX10_hush_25 rfl 0 rfl ?_
      obtain ⟨r10, hc9, hf⟩ := bd_elim hf
      refine kw_callVI C [] (kX10_onNow L D g t0 σ1 _ hc9) RX10 mV_X10_465 ⟨rfl, rfl⟩ dd_X10_onNow ⟨Nat.le_of_ble_eq_true rfl, Nat.le_of_ble_eq_true rfl⟩ _ (hO10 g σ1) rfl rfl rfl (Nat.le_of_ble_eq_true rfl) dX10_hush_26 ?_
      refine kw_iconst C (1 : Int32) dX10_hush_29 rfl ?_
      refine kw_iload_n C dX10_hush_30 rfl 1 rfl ?_
      refine kw_ishl C dX10_hush_31 ?_
      refine kw_iconst C (-1 : Int32) dX10_hush_32 rfl ?_
      refine kw_ixor C dX10_hush_33 ?_
      refine kw_iand C dX10_hush_34 ?_
      obtain ⟨x11, ex11, hf⟩ := lt_elim hf
      refine kw_topi ex11 ?_
      refine kw_istore_n C dX10_hush_35 rfl hN (Nat.le_of_ble_eq_true rfl) [(3, .int x11), (0, .ref (g.1 0)), (1, .int p0), (2, .int p1)] rfl ?_
      refine kw_bipush C (-2 : Int32) dX10_hush_36 rfl ?_
      refine kw_istore C dX10_hush_38 hN (Nat.le_of_ble_eq_true rfl) [(4, .int (-2 : Int32)), (3, .int x11), (0, .ref (g.1 0)), (1, .int p0), (2, .int p1)] rfl ?_
      refine kw_iconst C (0 : Int32) dX10_hush_40 rfl ?_
      refine kw_istore C dX10_hush_41 hN (Nat.le_of_ble_eq_true rfl) [(5, .int (0 : Int32)), (4, .int (-2 : Int32)), (3, .int x11), (0, .ref (g.1 0)), (1, .int p0), (2, .int p1)] rfl ?_
      refine kw_sub [3, 4, 5, 2, 1, 0] _ rfl ?_
      refine lpx3_walk (P := fun (x12 : Int32) (x13 : Int32) (σ14 : St) => KW X σ14 43 [(0, .ref (g.1 0)), (1, .int p0), (2, .int p1), (3, .int x11), (4, .int x12), (5, .int x13)] []) ?_ FU _ _ _ hf
      intro self15 x12 x13 σ14 ih16 hf
      refine kw_iload C dX10_hush_43 5 rfl ?_
      refine kw_iconst C (1 : Int32) dX10_hush_45 rfl ?_
      refine kw_aload_n C dX10_hush_46 rfl 0 rfl ?_
      refine kw_get C inG10 _ (hO10 g σ14) rfl 12 (Nat.le_of_ble_eq_true rfl) mf_10_225 rfl rfl dX10_hush_47 ?_
      refine kw_ishl C dX10_hush_50 ?_
      refine kw_icmp_ge C 119 dX10_hush_51 rfl (fun c17 => ?_) (fun c17 => ?_)
      · have hf := if_p c17 hf
        refine kw_aload_n C dX10_hush_119 rfl 0 rfl ?_
        obtain ⟨σ19, hc18, hf⟩ := bV_elim hf
        refine kw_callVV C [] (kX10_plainTried L D g t0 σ14 _ hc18) RX10 mV_X10_341 ⟨rfl, rfl⟩ dd_X10_plainTried ⟨Nat.le_of_ble_eq_true rfl, Nat.le_of_ble_eq_true rfl⟩ _ (hO10 g σ14) rfl rfl rfl (Nat.le_of_ble_eq_true rfl) dX10_hush_120 ?_
        refine kw_iload C dX10_hush_123 4 rfl ?_
        exact kw_iret C K dX10_hush_125 hf
      · have hf := if_n c17 hf
        refine kw_iload C dX10_hush_54 5 rfl ?_
        refine kw_iload_n C dX10_hush_56 rfl 3 rfl ?_
        refine kw_iconst C (-1 : Int32) dX10_hush_57 rfl ?_
        refine kw_ixor C dX10_hush_58 ?_
        refine kw_iand C dX10_hush_59 ?_
        obtain ⟨J22, hJ22, hf⟩ := jnx2_elim hf
        have kJ22 : ∀ (x20 : Int32) (σ21 : St), J22 x20 σ21 = some (r0, σ0) → KW X σ21 113 [(0, .ref (g.1 0)), (1, .int p0), (2, .int p1), (3, .int x11), (4, .int x20), (5, .int x13)] [] := by
          clear hf
          intro x20 σ21 hf
          have hf := (hJ22 x20 σ21).symm.trans hf
          obtain ⟨x23, ex23, hf⟩ := lt_elim hf
          refine kw_iinc C x23 dX10_hush_113 5 rfl ex23.symm hN (Nat.le_of_ble_eq_true rfl) [(5, .int x23), (0, .ref (g.1 0)), (1, .int p0), (2, .int p1), (3, .int x11), (4, .int x20)] rfl ?_
          refine kw_goto C 43 dX10_hush_116 rfl ?_
          refine kw_sub [1, 2, 3, 4, 5, 0] _ rfl ?_
          exact ih16 _ _ _ hf
        refine kw_if_ne C 113 dX10_hush_60 rfl (fun c24 => ?_) (fun c24 => ?_)
        · have hf := if_n c24 hf
          exact kJ22 _ _ hf
        · have hf := if_p c24 hf
          refine kw_iload C dX10_hush_63 4 rfl ?_
          obtain ⟨J25, hJ25, hf⟩ := jnx1_elim hf
          have kJ25 : ∀ (u9 : Unit), J25 u9 = some (r0, σ0) → KW X σ14 84 [(0, .ref (g.1 0)), (1, .int p0), (2, .int p1), (3, .int x11), (4, .int x12), (5, .int x13)] [] := by
            clear hf
            intro u9 hf
            have hf := (hJ25 u9).symm.trans hf
            refine kw_aload_n C dX10_hush_84 rfl 0 rfl ?_
            obtain ⟨σ27, hc26, hf⟩ := bV_elim hf
            refine kw_callVV C [] (kX10_layTried L D g t0 σ14 _ hc26) RX10 mV_X10_453 ⟨rfl, rfl⟩ dd_X10_layTried ⟨Nat.le_of_ble_eq_true rfl, Nat.le_of_ble_eq_true rfl⟩ _ (hO10 g σ14) rfl rfl rfl (Nat.le_of_ble_eq_true rfl) dX10_hush_85 ?_
            refine kw_aload_n C dX10_hush_88 rfl 0 rfl ?_
            refine kw_iload C dX10_hush_89 5 rfl ?_
            obtain ⟨σ28, eσ28, hf⟩ := lt_elim hf
            refine kw_put C inG10 tyX10 tyX10_ok nmX10 _ (hO10 g σ27) rfl 65 (Nat.le_of_ble_eq_true rfl) mf_10_365 rfl rfl (tyX10_ok 65 (Nat.le_of_ble_eq_true rfl)) rfl rfl (Nat.le_of_ble_eq_true rfl) ((hF10_65 g σ27 _).trans (congrArg (wM g) eσ28.symm)) dX10_hush_91 ?_
            refine kw_aload_n C dX10_hush_94 rfl 0 rfl ?_
            refine kw_iload_n C dX10_hush_95 rfl 2 rfl ?_
            obtain ⟨σ30, hc29, hf⟩ := bV_elim hf
            refine kw_callVV C [.int p1] (kX10_goMany L D g t0 p1 σ28 _ hc29) RX10 mV_X10_456 ⟨rfl, rfl⟩ dd_X10_goMany ⟨Nat.le_of_ble_eq_true rfl, Nat.le_of_ble_eq_true rfl⟩ _ (hO10 g σ28) rfl rfl rfl (Nat.le_of_ble_eq_true rfl) dX10_hush_96 ?_
            refine kw_aload_n C dX10_hush_99 rfl 0 rfl ?_
            refine kw_get C inG10 _ (hO10 g σ30) rfl 55 (Nat.le_of_ble_eq_true rfl) mf_10_112 rfl rfl dX10_hush_100 ?_
            refine kw_iconst C (1 : Int32) dX10_hush_103 rfl ?_
            refine kw_iald C _ 0 (hA10_55 g σ30) rfl (by decide) dX10_hush_104 ?_
            refine kw_iload_n C dX10_hush_105 rfl 1 rfl ?_
            refine kw_icmp_ne C 113 dX10_hush_106 rfl (fun c31 => ?_) (fun c31 => ?_)
            · have hf := if_n c31 hf
              exact kJ22 _ _ hf
            · have hf := if_p c31 hf
              refine kw_iload C dX10_hush_109 5 rfl ?_
              refine kw_istore C dX10_hush_111 hN (Nat.le_of_ble_eq_true rfl) [(4, .int x13), (0, .ref (g.1 0)), (1, .int p0), (2, .int p1), (3, .int x11), (5, .int x13)] rfl ?_
              refine kw_sub [1, 2, 3, 4, 0, 5] _ rfl ?_
              exact kJ22 _ _ hf
          refine kw_if_lt C 84 dX10_hush_65 rfl (fun c32 => ?_) (fun c32 => ?_)
          · have hf := if_p c32 hf
            exact kJ25 _ hf
          · have hf := if_n c32 hf
            refine kw_iload C dX10_hush_68 5 rfl ?_
            obtain ⟨r34, hc33, hf⟩ := bd_elim hf
            refine kw_callSI C [.int x13] (kX10_manyOf L D g t0 x13 σ14 _ hc33) mS_X10_468 ⟨rfl, rfl⟩ dd_X10_manyOf ⟨Nat.le_of_ble_eq_true rfl, Nat.le_of_ble_eq_true rfl⟩ rfl (Nat.le_of_ble_eq_true rfl) dX10_hush_70 ?_
            refine kw_iload C dX10_hush_73 4 rfl ?_
            obtain ⟨r36, hc35, hf⟩ := bd_elim hf
            refine kw_callSI C [.int x12] (kX10_manyOf L D g t0 x12 σ14 _ hc35) mS_X10_468 ⟨rfl, rfl⟩ dd_X10_manyOf ⟨Nat.le_of_ble_eq_true rfl, Nat.le_of_ble_eq_true rfl⟩ rfl (Nat.le_of_ble_eq_true rfl) dX10_hush_75 ?_
            refine kw_icmp_lt C 84 dX10_hush_78 rfl (fun c37 => ?_) (fun c37 => ?_)
            · have hf := if_p c37 hf
              exact kJ25 _ hf
            · have hf := if_n c37 hf
              refine kw_goto C 113 dX10_hush_81 rfl ?_
              exact kJ22 _ _ hf
    · have hf := if_p c8 hf
      refine kw_sub [] _ rfl ?_
      exact kJ4 _ hf
set_option maxRecDepth 100000 in
set_option maxHeartbeats 4000000 in
theorem kX10_still (L : Launch) (D : va_G) (g : GwT) (t0 : Nat) (σ : St) (r0 : Int32) (σ0 : St) (hf : fX10_still σ  = some (r0, σ0)) : CtI L D (ttG g) (wM g) t0 yX10_still cX10_still 3 (some .int) { frames := 0, cells := 0, slots := 0, locals := 0 } [.ref (g.1 0)] σ r0 σ0 := by
  refine CtI.of (own := RX10) (by decide) rfl (Nat.le_of_ble_eq_true rfl) [(0, .ref (g.1 0))] rfl ?_
  intro X C hN K
  unfold fX10_still at hf
  refine kw_aload_n C dX10_still_0 rfl 0 rfl ?_
  refine kw_iconst C (0 : Int32) dX10_still_1 rfl ?_
  obtain ⟨σ1, eσ1, hf⟩ := lt_elim hf
  refine kw_put C inG10 tyX10 tyX10_ok nmX10 _ (hO10 g σ) rfl 2 (Nat.le_of_ble_eq_true rfl) mf_10_151 rfl rfl (tyX10_ok 2 (Nat.le_of_ble_eq_true rfl)) rfl rfl (Nat.le_of_ble_eq_true rfl) ((hF10_2 g σ _).trans (congrArg (wM g) eσ1.symm)) dX10_still_2 ?_
  refine kw_iconst C (0 : Int32) dX10_still_5 rfl ?_
  refine kw_istore_n C dX10_still_6 rfl hN (Nat.le_of_ble_eq_true rfl) [(1, .int (0 : Int32)), (0, .ref (g.1 0))] rfl ?_
  refine kw_iconst C (0 : Int32) dX10_still_7 rfl ?_
  refine kw_istore_n C dX10_still_8 rfl hN (Nat.le_of_ble_eq_true rfl) [(2, .int (0 : Int32)), (1, .int (0 : Int32)), (0, .ref (g.1 0))] rfl ?_
  refine kw_sub [2, 1, 0] _ rfl ?_
  refine lpx2_walk (P := fun (x2 : Int32) (x3 : Int32) => KW X σ1 9 [(0, .ref (g.1 0)), (1, .int x2), (2, .int x3)] []) ?_ FU _ _ hf
  intro self4 x2 x3 ih5 hf
  refine kw_iload_n C dX10_still_9 rfl 2 rfl ?_
  refine kw_aload_n C dX10_still_10 rfl 0 rfl ?_
  refine kw_get C inG10 _ (hO10 g σ1) rfl 12 (Nat.le_of_ble_eq_true rfl) mf_10_225 rfl rfl dX10_still_11 ?_
  refine kw_icmp_ge C 64 dX10_still_14 rfl (fun c6 => ?_) (fun c6 => ?_)
  · have hf := if_p c6 hf
    refine kw_iload_n C dX10_still_64 rfl 1 rfl ?_
    exact kw_iret C K dX10_still_65 hf
  · have hf := if_n c6 hf
    refine kw_iload_n C dX10_still_17 rfl 1 rfl ?_
    refine kw_aload_n C dX10_still_18 rfl 0 rfl ?_
    refine kw_get C inG10 _ (hO10 g σ1) rfl 49 (Nat.le_of_ble_eq_true rfl) mf_10_94 rfl rfl dX10_still_19 ?_
    refine kw_iload_n C dX10_still_22 rfl 2 rfl ?_
    obtain ⟨h7, hf⟩ := gd_elim hf
    refine kw_zald C _ 3 (hA10_49 g σ1) rfl h7 dX10_still_23 ?_
    obtain ⟨J9, hJ9, hf⟩ := jnx1_elim hf
    have kJ9 : ∀ (x8 : Int32), J9 x8 = some (r0, σ0) → KW X σ1 56 [(0, .ref (g.1 0)), (2, .int x3)] [.int x8, .int x2] := by
      clear hf
      intro x8 hf
      have hf := (hJ9 x8).symm.trans hf
      refine kw_ior C dX10_still_56 ?_
      obtain ⟨x10, ex10, hf⟩ := lt_elim hf
      refine kw_topi ex10 ?_
      refine kw_istore_n C dX10_still_57 rfl hN (Nat.le_of_ble_eq_true rfl) [(1, .int x10), (0, .ref (g.1 0)), (2, .int x3)] rfl ?_
      obtain ⟨x11, ex11, hf⟩ := lt_elim hf
      refine kw_iinc C x11 dX10_still_58 2 rfl ex11.symm hN (Nat.le_of_ble_eq_true rfl) [(2, .int x11), (1, .int x10), (0, .ref (g.1 0))] rfl ?_
      refine kw_goto C 9 dX10_still_61 rfl ?_
      refine kw_sub [2, 1, 0] _ rfl ?_
      exact ih5 _ _ hf
    obtain ⟨J12, hJ12, hf⟩ := jnx1_elim hf
    have kJ12 : ∀ (u9 : Unit), J12 u9 = some (r0, σ0) → KW X σ1 55 [(0, .ref (g.1 0)), (2, .int x3)] [.int x2] := by
      clear hf
      intro u9 hf
      have hf := (hJ12 u9).symm.trans hf
      refine kw_iconst C (0 : Int32) dX10_still_55 rfl ?_
      exact kJ9 _ hf
    refine kw_if_eq C 55 dX10_still_24 rfl (fun c13 => ?_) (fun c13 => ?_)
    · have hf := if_p c13 hf
      refine kw_sub [0, 2] _ rfl ?_
      exact kJ12 _ hf
    · have hf := if_n c13 hf
      refine kw_aload_n C dX10_still_27 rfl 0 rfl ?_
      refine kw_get C inG10 _ (hO10 g σ1) rfl 54 (Nat.le_of_ble_eq_true rfl) mf_10_109 rfl rfl dX10_still_28 ?_
      refine kw_iconst C (0 : Int32) dX10_still_31 rfl ?_
      refine kw_iald C _ 0 (hA10_54 g σ1) rfl (by decide) dX10_still_32 ?_
      refine kw_aload_n C dX10_still_33 rfl 0 rfl ?_
      refine kw_get C inG10 _ (hO10 g σ1) rfl 23 (Nat.le_of_ble_eq_true rfl) mf_10_36 rfl rfl dX10_still_34 ?_
      refine kw_iload_n C dX10_still_37 rfl 2 rfl ?_
      obtain ⟨h14, hf⟩ := gd_elim hf
      refine kw_iald C _ 0 (hA10_23 g σ1) rfl h14 dX10_still_38 ?_
      refine kw_iadd C dX10_still_39 ?_
      refine kw_aload_n C dX10_still_40 rfl 0 rfl ?_
      refine kw_get C inG10 _ (hO10 g σ1) rfl 46 (Nat.le_of_ble_eq_true rfl) mf_10_85 rfl rfl dX10_still_41 ?_
      refine kw_iload_n C dX10_still_44 rfl 2 rfl ?_
      obtain ⟨h15, hf⟩ := gd_elim hf
      refine kw_iald C _ 0 (hA10_46 g σ1) rfl h15 dX10_still_45 ?_
      refine kw_icmp_gt C 55 dX10_still_46 rfl (fun c16 => ?_) (fun c16 => ?_)
      · have hf := if_p c16 hf
        refine kw_sub [0, 2] _ rfl ?_
        exact kJ12 _ hf
      · have hf := if_n c16 hf
        refine kw_iconst C (1 : Int32) dX10_still_49 rfl ?_
        refine kw_iload_n C dX10_still_50 rfl 2 rfl ?_
        refine kw_ishl C dX10_still_51 ?_
        refine kw_goto C 56 dX10_still_52 rfl ?_
        refine kw_sub [0, 2] _ rfl ?_
        exact kJ9 _ hf
set_option maxRecDepth 100000 in
set_option maxHeartbeats 4000000 in
theorem kX10_most (L : Launch) (D : va_G) (g : GwT) (t0 : Nat) (σ : St) (r0 : Int32) (σ0 : St) (hf : fX10_most σ  = some (r0, σ0)) : CtI L D (ttG g) (wM g) t0 yX10_most cX10_most 5 (some .int) { frames := 2, cells := 0, slots := 0, locals := 43 } [.ref (g.1 0)] σ r0 σ0 := by
  refine CtI.of (own := RX10) (by decide) rfl (Nat.le_of_ble_eq_true rfl) [(0, .ref (g.1 0))] rfl ?_
  intro X C hN K
  unfold fX10_most at hf
  refine kw_aload_n C dX10_most_0 rfl 0 rfl ?_
  refine kw_iconst C (0 : Int32) dX10_most_1 rfl ?_
  obtain ⟨σ1, eσ1, hf⟩ := lt_elim hf
  refine kw_put C inG10 tyX10 tyX10_ok nmX10 _ (hO10 g σ) rfl 2 (Nat.le_of_ble_eq_true rfl) mf_10_151 rfl rfl (tyX10_ok 2 (Nat.le_of_ble_eq_true rfl)) rfl rfl (Nat.le_of_ble_eq_true rfl) ((hF10_2 g σ _).trans (congrArg (wM g) eσ1.symm)) dX10_most_2 ?_
  refine kw_aload_n C dX10_most_5 rfl 0 rfl ?_
  refine kw_get C inG10 _ (hO10 g σ1) rfl 57 (Nat.le_of_ble_eq_true rfl) mf_10_118 rfl rfl dX10_most_6 ?_
  refine kw_iconst C (0 : Int32) dX10_most_9 rfl ?_
  refine kw_zald C _ 3 (hA10_57 g σ1) rfl (by decide) dX10_most_10 ?_
  refine kw_if_eq C 16 dX10_most_11 rfl (fun c2 => ?_) (fun c2 => ?_)
  · have hf := if_p c2 hf
    refine kw_aload_n C dX10_most_16 rfl 0 rfl ?_
    obtain ⟨σ4, hc3, hf⟩ := bV_elim hf
    refine kw_callVV C [] (kX10_layTried L D g t0 σ1 _ hc3) RX10 mV_X10_453 ⟨rfl, rfl⟩ dd_X10_layTried ⟨Nat.le_of_ble_eq_true rfl, Nat.le_of_ble_eq_true rfl⟩ _ (hO10 g σ1) rfl rfl rfl (Nat.le_of_ble_eq_true rfl) dX10_most_17 ?_
    refine kw_iconst C (0 : Int32) dX10_most_20 rfl ?_
    refine kw_istore_n C dX10_most_21 rfl hN (Nat.le_of_ble_eq_true rfl) [(1, .int (0 : Int32)), (0, .ref (g.1 0))] rfl ?_
    refine kw_iconst C (0 : Int32) dX10_most_22 rfl ?_
    refine kw_istore_n C dX10_most_23 rfl hN (Nat.le_of_ble_eq_true rfl) [(2, .int (0 : Int32)), (1, .int (0 : Int32)), (0, .ref (g.1 0))] rfl ?_
    refine kw_iconst C (0 : Int32) dX10_most_24 rfl ?_
    refine kw_istore_n C dX10_most_25 rfl hN (Nat.le_of_ble_eq_true rfl) [(3, .int (0 : Int32)), (2, .int (0 : Int32)), (1, .int (0 : Int32)), (0, .ref (g.1 0))] rfl ?_
    refine kw_sub [3, 2, 1, 0] _ rfl ?_
    refine lpx4_walk (P := fun (x5 : Int32) (x6 : Int32) (x7 : Int32) (σ8 : St) => KW X σ8 26 [(0, .ref (g.1 0)), (1, .int x5), (2, .int x6), (3, .int x7)] []) ?_ FU _ _ _ _ hf
    intro self9 x5 x6 x7 σ8 ih10 hf
    refine kw_iload_n C dX10_most_26 rfl 2 rfl ?_
    refine kw_aload_n C dX10_most_27 rfl 0 rfl ?_
    refine kw_get C inG10 _ (hO10 g σ8) rfl 12 (Nat.le_of_ble_eq_true rfl) mf_10_225 rfl rfl dX10_most_28 ?_
    refine kw_icmp_ge C 108 dX10_most_31 rfl (fun c11 => ?_) (fun c11 => ?_)
    · have hf := if_p c11 hf
      refine kw_iload_n C dX10_most_108 rfl 1 rfl ?_
      exact kw_iret C K dX10_most_109 hf
    · have hf := if_n c11 hf
      refine kw_aload_n C dX10_most_34 rfl 0 rfl ?_
      refine kw_iconst C (1 : Int32) dX10_most_35 rfl ?_
      refine kw_iload_n C dX10_most_36 rfl 3 rfl ?_
      obtain ⟨r13, hc12, hf⟩ := bd_elim hf
      refine kw_callVI C [.int (1 : Int32), .int x7] (kX10_isOn L D g t0 (1 : Int32) x7 σ8 _ hc12) RX10 mV_X10_400 ⟨rfl, rfl⟩ dd_X10_isOn ⟨Nat.le_of_ble_eq_true rfl, Nat.le_of_ble_eq_true rfl⟩ _ (hO10 g σ8) rfl rfl rfl (Nat.le_of_ble_eq_true rfl) dX10_most_37 ?_
      obtain ⟨J15, hJ15, hf⟩ := jnx1_elim hf
      have kJ15 : ∀ (x14 : Int32), J15 x14 = some (r0, σ0) → KW X σ8 57 [(0, .ref (g.1 0)), (1, .int x5), (2, .int x6), (3, .int x7)] [.int x14] := by
        clear hf
        intro x14 hf
        have hf := (hJ15 x14).symm.trans hf
        refine kw_istore C dX10_most_57 hN (Nat.le_of_ble_eq_true rfl) [(4, .int x14), (0, .ref (g.1 0)), (1, .int x5), (2, .int x6), (3, .int x7)] rfl ?_
        refine kw_iload C dX10_most_59 0 rfl ?_
        obtain ⟨J17, hJ17, hf⟩ := jnx1_elim hf
        have kJ17 : ∀ (σ16 : St), J17 σ16 = some (r0, σ0) → KW X σ16 70 [(0, .ref (g.1 0)), (1, .int x5), (2, .int x6), (3, .int x7), (4, .int x14)] [] := by
          clear hf
          intro σ16 hf
          have hf := (hJ17 σ16).symm.trans hf
          refine kw_iload_n C dX10_most_70 rfl 1 rfl ?_
          refine kw_iload C dX10_most_71 4 rfl ?_
          obtain ⟨J19, hJ19, hf⟩ := jnx1_elim hf
          have kJ19 : ∀ (x18 : Int32), J19 x18 = some (r0, σ0) → KW X σ16 81 [(0, .ref (g.1 0)), (2, .int x6), (3, .int x7), (4, .int x14)] [.int x18, .int x5] := by
            clear hf
            intro x18 hf
            have hf := (hJ19 x18).symm.trans hf
            refine kw_iadd C dX10_most_81 ?_
            obtain ⟨x20, ex20, hf⟩ := lt_elim hf
            refine kw_topi ex20 ?_
            refine kw_istore_n C dX10_most_82 rfl hN (Nat.le_of_ble_eq_true rfl) [(1, .int x20), (0, .ref (g.1 0)), (2, .int x6), (3, .int x7), (4, .int x14)] rfl ?_
            refine kw_iload C dX10_most_83 4 rfl ?_
            obtain ⟨J22, hJ22, hf⟩ := jnx1_elim hf
            have kJ22 : ∀ (x21 : Int32), J22 x21 = some (r0, σ0) → KW X σ16 95 [(0, .ref (g.1 0)), (1, .int x20), (3, .int x7)] [.int x21] := by
              clear hf
              intro x21 hf
              have hf := (hJ22 x21).symm.trans hf
              refine kw_istore_n C dX10_most_95 rfl hN (Nat.le_of_ble_eq_true rfl) [(2, .int x21), (0, .ref (g.1 0)), (1, .int x20), (3, .int x7)] rfl ?_
              refine kw_iload_n C dX10_most_96 rfl 3 rfl ?_
              refine kw_iconst C (1 : Int32) dX10_most_97 rfl ?_
              refine kw_iadd C dX10_most_98 ?_
              refine kw_aload_n C dX10_most_99 rfl 1 rfl ?_
              refine kw_get C inG10 _ (hO10 g σ16) rfl 12 (Nat.le_of_ble_eq_true rfl) mf_10_225 rfl rfl dX10_most_100 ?_
              obtain ⟨h23, hf⟩ := gd_elim hf
              refine kw_irem C dX10_most_103 h23 ?_
              obtain ⟨x24, ex24, hf⟩ := lt_elim hf
              refine kw_topi ex24 ?_
              refine kw_istore_n C dX10_most_104 rfl hN (Nat.le_of_ble_eq_true rfl) [(3, .int x24), (2, .int x21), (0, .ref (g.1 0)), (1, .int x20)] rfl ?_
              refine kw_goto C 26 dX10_most_105 rfl ?_
              refine kw_sub [2, 3, 1, 0] _ rfl ?_
              exact ih10 _ _ _ _ hf
            refine kw_if_eq C 92 dX10_most_85 rfl (fun c25 => ?_) (fun c25 => ?_)
            · have hf := if_p c25 hf
              refine kw_iload_n C dX10_most_92 rfl 2 rfl ?_
              refine kw_iconst C (1 : Int32) dX10_most_93 rfl ?_
              refine kw_iadd C dX10_most_94 ?_
              refine kw_sub [1, 0, 3] _ rfl ?_
              exact kJ22 _ hf
            · have hf := if_n c25 hf
              refine kw_iconst C (0 : Int32) dX10_most_88 rfl ?_
              refine kw_goto C 95 dX10_most_89 rfl ?_
              refine kw_sub [1, 0, 3] _ rfl ?_
              exact kJ22 _ hf
          refine kw_if_eq C 80 dX10_most_73 rfl (fun c26 => ?_) (fun c26 => ?_)
          · have hf := if_p c26 hf
            refine kw_iconst C (0 : Int32) dX10_most_80 rfl ?_
            refine kw_sub [0, 2, 3, 4] _ rfl ?_
            exact kJ19 _ hf
          · have hf := if_n c26 hf
            refine kw_iconst C (1 : Int32) dX10_most_76 rfl ?_
            refine kw_goto C 81 dX10_most_77 rfl ?_
            refine kw_sub [0, 2, 3, 4] _ rfl ?_
            exact kJ19 _ hf
        refine kw_if_eq C 70 dX10_most_61 rfl (fun c27 => ?_) (fun c27 => ?_)
        · have hf := if_p c27 hf
          refine kw_sub [1, 2, 3, 4, 0] _ rfl ?_
          exact kJ17 _ hf
        · have hf := if_n c27 hf
          refine kw_aload_n C dX10_most_64 rfl 1 rfl ?_
          refine kw_iconst C (1 : Int32) dX10_most_65 rfl ?_
          refine kw_iload_n C dX10_most_66 rfl 4 rfl ?_
          obtain ⟨σ29, hc28, hf⟩ := bV_elim hf
          refine kw_callVV C [.int (1 : Int32), .int x7] (kX10_raises L D g t0 (1 : Int32) x7 σ8 _ hc28) RX10 mV_X10_427 ⟨rfl, rfl⟩ dd_X10_raises ⟨Nat.le_of_ble_eq_true rfl, Nat.le_of_ble_eq_true rfl⟩ _ (hO10 g σ8) rfl rfl rfl (Nat.le_of_ble_eq_true rfl) dX10_most_67 ?_
          refine kw_sub [1, 2, 3, 4, 0] _ rfl ?_
          exact kJ17 _ hf
      obtain ⟨J30, hJ30, hf⟩ := jnx1_elim hf
      have kJ30 : ∀ (u9 : Unit), J30 u9 = some (r0, σ0) → KW X σ8 56 [(0, .ref (g.1 0)), (1, .int x5), (2, .int x6), (3, .int x7)] [] := by
        clear hf
        intro u9 hf
        have hf := (hJ30 u9).symm.trans hf
        refine kw_iconst C (0 : Int32) dX10_most_56 rfl ?_
        exact kJ15 _ hf
      refine kw_if_eq C 56 dX10_most_40 rfl (fun c31 => ?_) (fun c31 => ?_)
      · have hf := if_p c31 hf
        exact kJ30 _ hf
      · have hf := if_n c31 hf
        refine kw_aload_n C dX10_most_43 rfl 0 rfl ?_
        refine kw_iconst C (1 : Int32) dX10_most_44 rfl ?_
        refine kw_iload_n C dX10_most_45 rfl 3 rfl ?_
        obtain ⟨r33, hc32, hf⟩ := bd_elim hf
        refine kw_callVI C [.int (1 : Int32), .int x7] (kX10_mayRaise L D g t0 (1 : Int32) x7 σ8 _ hc32) RX10 mV_X10_409 ⟨rfl, rfl⟩ dd_X10_mayRaise ⟨Nat.le_of_ble_eq_true rfl, Nat.le_of_ble_eq_true rfl⟩ _ (hO10 g σ8) rfl rfl rfl (Nat.le_of_ble_eq_true rfl) dX10_most_46 ?_
        refine kw_if_eq C 56 dX10_most_49 rfl (fun c34 => ?_) (fun c34 => ?_)
        · have hf := if_p c34 hf
          exact kJ30 _ hf
        · have hf := if_n c34 hf
          refine kw_iconst C (1 : Int32) dX10_most_52 rfl ?_
          refine kw_goto C 57 dX10_most_53 rfl ?_
          exact kJ15 _ hf
  · have hf := if_n c2 hf
    refine kw_iconst C (0 : Int32) dX10_most_14 rfl ?_
    exact kw_iret C K dX10_most_15 hf
set_option maxRecDepth 100000 in
set_option maxHeartbeats 4000000 in
theorem kX10_sameOf (L : Launch) (D : va_G) (g : GwT) (t0 : Nat) (p0 : Int32) (σ : St) (r0 : Int32) (hf : fX10_sameOf σ p0 = some r0) : CtI L D (ttG g) (wM g) t0 yX10_sameOf cX10_sameOf 4 (some .int) { frames := 0, cells := 0, slots := 0, locals := 0 } [.ref (g.1 0), .int p0] σ r0 σ := by
  refine CtI.of (own := RX10) (by decide) rfl (Nat.le_of_ble_eq_true rfl) [(0, .ref (g.1 0)), (1, .int p0)] rfl ?_
  intro X C hN K
  unfold fX10_sameOf at hf
  refine kw_iconst C (0 : Int32) dX10_sameOf_0 rfl ?_
  refine kw_istore_n C dX10_sameOf_1 rfl hN (Nat.le_of_ble_eq_true rfl) [(2, .int (0 : Int32)), (0, .ref (g.1 0)), (1, .int p0)] rfl ?_
  refine kw_iconst C (0 : Int32) dX10_sameOf_2 rfl ?_
  refine kw_istore_n C dX10_sameOf_3 rfl hN (Nat.le_of_ble_eq_true rfl) [(3, .int (0 : Int32)), (2, .int (0 : Int32)), (0, .ref (g.1 0)), (1, .int p0)] rfl ?_
  refine kw_sub [2, 3, 1, 0] _ rfl ?_
  refine lpx2_walk (P := fun (x1 : Int32) (x2 : Int32) => KW X σ 4 [(0, .ref (g.1 0)), (1, .int p0), (2, .int x1), (3, .int x2)] []) ?_ FU _ _ hf
  intro self3 x1 x2 ih4 hf
  refine kw_iload_n C dX10_sameOf_4 rfl 3 rfl ?_
  refine kw_aload_n C dX10_sameOf_5 rfl 0 rfl ?_
  refine kw_get C inG10 _ (hO10 g σ) rfl 13 (Nat.le_of_ble_eq_true rfl) mf_10_228 rfl rfl dX10_sameOf_6 ?_
  refine kw_icmp_ge C 40 dX10_sameOf_9 rfl (fun c5 => ?_) (fun c5 => ?_)
  · have hf := if_p c5 hf
    refine kw_iload_n C dX10_sameOf_40 rfl 2 rfl ?_
    exact kw_iret C K dX10_sameOf_41 (pr_ret hf)
  · have hf := if_n c5 hf
    refine kw_iload_n C dX10_sameOf_12 rfl 2 rfl ?_
    refine kw_aload_n C dX10_sameOf_13 rfl 0 rfl ?_
    refine kw_get C inG10 _ (hO10 g σ) rfl 53 (Nat.le_of_ble_eq_true rfl) mf_10_106 rfl rfl dX10_sameOf_14 ?_
    refine kw_bipush C (6 : Int32) dX10_sameOf_17 rfl ?_
    refine kw_iload_n C dX10_sameOf_19 rfl 1 rfl ?_
    refine kw_imul C dX10_sameOf_20 ?_
    refine kw_iload_n C dX10_sameOf_21 rfl 3 rfl ?_
    refine kw_iadd C dX10_sameOf_22 ?_
    obtain ⟨h6, hf⟩ := gd_elim hf
    refine kw_zald C _ 3 (hA10_53 g σ) rfl h6 dX10_sameOf_23 ?_
    obtain ⟨J8, hJ8, hf⟩ := jnx1_elim hf
    have kJ8 : ∀ (x7 : Int32), J8 x7 = some r0 → KW X σ 32 [(0, .ref (g.1 0)), (1, .int p0), (3, .int x2)] [.int x7, .int x1] := by
      clear hf
      intro x7 hf
      have hf := (hJ8 x7).symm.trans hf
      refine kw_iadd C dX10_sameOf_32 ?_
      obtain ⟨x9, ex9, hf⟩ := lt_elim hf
      refine kw_topi ex9 ?_
      refine kw_istore_n C dX10_sameOf_33 rfl hN (Nat.le_of_ble_eq_true rfl) [(2, .int x9), (0, .ref (g.1 0)), (1, .int p0), (3, .int x2)] rfl ?_
      obtain ⟨x10, ex10, hf⟩ := lt_elim hf
      refine kw_iinc C x10 dX10_sameOf_34 3 rfl ex10.symm hN (Nat.le_of_ble_eq_true rfl) [(3, .int x10), (2, .int x9), (0, .ref (g.1 0)), (1, .int p0)] rfl ?_
      refine kw_goto C 4 dX10_sameOf_37 rfl ?_
      refine kw_sub [2, 3, 1, 0] _ rfl ?_
      exact ih4 _ _ hf
    refine kw_if_eq C 31 dX10_sameOf_24 rfl (fun c11 => ?_) (fun c11 => ?_)
    · have hf := if_p c11 hf
      refine kw_iconst C (0 : Int32) dX10_sameOf_31 rfl ?_
      refine kw_sub [0, 1, 3] _ rfl ?_
      exact kJ8 _ hf
    · have hf := if_n c11 hf
      refine kw_iconst C (1 : Int32) dX10_sameOf_27 rfl ?_
      refine kw_goto C 32 dX10_sameOf_28 rfl ?_
      refine kw_sub [0, 1, 3] _ rfl ?_
      exact kJ8 _ hf
set_option maxRecDepth 100000 in
set_option maxHeartbeats 4000000 in
theorem kX10_same (L : Launch) (D : va_G) (g : GwT) (t0 : Nat) (σ : St) (r0 : Int32) (σ0 : St) (hf : fX10_same σ  = some (r0, σ0)) : CtI L D (ttG g) (wM g) t0 yX10_same cX10_same 1 (some .int) { frames := 1, cells := 0, slots := 0, locals := 23 } [.ref (g.1 0)] σ r0 σ0 := by
  refine CtI.of (own := RX10) (by decide) rfl (Nat.le_of_ble_eq_true rfl) [(0, .ref (g.1 0))] rfl ?_
  intro X C hN K
  unfold fX10_same at hf
  refine kw_aload_n C dX10_same_0 rfl 0 rfl ?_
  refine kw_iconst C (0 : Int32) dX10_same_1 rfl ?_
  obtain ⟨σ1, eσ1, hf⟩ := lt_elim hf
  refine kw_put C inG10 tyX10 tyX10_ok nmX10 _ (hO10 g σ) rfl 2 (Nat.le_of_ble_eq_true rfl) mf_10_151 rfl rfl (tyX10_ok 2 (Nat.le_of_ble_eq_true rfl)) rfl rfl (Nat.le_of_ble_eq_true rfl) ((hF10_2 g σ _).trans (congrArg (wM g) eσ1.symm)) dX10_same_2 ?_
  refine kw_aload_n C dX10_same_5 rfl 0 rfl ?_
  refine kw_iconst C (0 : Int32) dX10_same_6 rfl ?_
  obtain ⟨r3, hc2, hf⟩ := bd_elim hf
  refine kw_callVI C [.int (0 : Int32)] (kX10_sameOf L D g t0 (0 : Int32) σ1 _ hc2) RX10 mV_X10_480 ⟨rfl, rfl⟩ dd_X10_sameOf ⟨Nat.le_of_ble_eq_true rfl, Nat.le_of_ble_eq_true rfl⟩ _ (hO10 g σ1) rfl rfl rfl (Nat.le_of_ble_eq_true rfl) dX10_same_7 ?_
  exact kw_iret C K dX10_same_10 hf
set_option maxRecDepth 100000 in
set_option maxHeartbeats 4000000 in
theorem kX10_sameIn (L : Launch) (D : va_G) (g : GwT) (t0 : Nat) (p0 : Int32) (σ : St) (r0 : Int32) (σ0 : St) (hf : fX10_sameIn σ p0 = some (r0, σ0)) : CtI L D (ttG g) (wM g) t0 yX10_sameIn cX10_sameIn 3 (some .int) { frames := 2, cells := 0, slots := 0, locals := 41 } [.ref (g.1 0), .int p0] σ r0 σ0 := by
  refine CtI.of (own := RX10) (by decide) rfl (Nat.le_of_ble_eq_true rfl) [(0, .ref (g.1 0)), (1, .int p0)] rfl ?_
  intro X C hN K
  unfold fX10_sameIn at hf
  refine kw_aload_n C dX10_sameIn_0 rfl 0 rfl ?_
  refine kw_iconst C (0 : Int32) dX10_sameIn_1 rfl ?_
  obtain ⟨σ1, eσ1, hf⟩ := lt_elim hf
  refine kw_put C inG10 tyX10 tyX10_ok nmX10 _ (hO10 g σ) rfl 2 (Nat.le_of_ble_eq_true rfl) mf_10_151 rfl rfl (tyX10_ok 2 (Nat.le_of_ble_eq_true rfl)) rfl rfl (Nat.le_of_ble_eq_true rfl) ((hF10_2 g σ _).trans (congrArg (wM g) eσ1.symm)) dX10_sameIn_2 ?_
  refine kw_iload_n C dX10_sameIn_5 rfl 1 rfl ?_
  refine kw_iconst C (0 : Int32) dX10_sameIn_6 rfl ?_
  refine kw_sipush C (999 : Int32) dX10_sameIn_7 rfl ?_
  obtain ⟨r3, hc2, hf⟩ := bd_elim hf
  refine kw_callSI C [.int p0, .int (0 : Int32), .int (999 : Int32)] (kX10_isIn L D g t0 p0 (0 : Int32) (999 : Int32) σ1 _ hc2) mS_X10_196 ⟨rfl, rfl⟩ dd_X10_isIn ⟨Nat.le_of_ble_eq_true rfl, Nat.le_of_ble_eq_true rfl⟩ rfl (Nat.le_of_ble_eq_true rfl) dX10_sameIn_10 ?_
  refine kw_if_ne C 18 dX10_sameIn_13 rfl (fun c4 => ?_) (fun c4 => ?_)
  · have hf := if_n c4 hf
    refine kw_aload_n C dX10_sameIn_18 rfl 0 rfl ?_
    obtain ⟨σ6, hc5, hf⟩ := bV_elim hf
    refine kw_callVV C [] (kX10_layTried L D g t0 σ1 _ hc5) RX10 mV_X10_453 ⟨rfl, rfl⟩ dd_X10_layTried ⟨Nat.le_of_ble_eq_true rfl, Nat.le_of_ble_eq_true rfl⟩ _ (hO10 g σ1) rfl rfl rfl (Nat.le_of_ble_eq_true rfl) dX10_sameIn_19 ?_
    refine kw_iconst C (0 : Int32) dX10_sameIn_22 rfl ?_
    refine kw_istore_n C dX10_sameIn_23 rfl hN (Nat.le_of_ble_eq_true rfl) [(2, .int (0 : Int32)), (0, .ref (g.1 0)), (1, .int p0)] rfl ?_
    refine kw_sub [1, 2, 0] _ rfl ?_
    refine lpx2_walk (P := fun (x7 : Int32) (σ8 : St) => KW X σ8 24 [(0, .ref (g.1 0)), (1, .int p0), (2, .int x7)] []) ?_ FU _ _ hf
    intro self9 x7 σ8 ih10 hf
    refine kw_iload_n C dX10_sameIn_24 rfl 2 rfl ?_
    refine kw_iload_n C dX10_sameIn_25 rfl 1 rfl ?_
    refine kw_icmp_ge C 40 dX10_sameIn_26 rfl (fun c11 => ?_) (fun c11 => ?_)
    · have hf := if_p c11 hf
      refine kw_aload_n C dX10_sameIn_40 rfl 0 rfl ?_
      refine kw_iconst C (1 : Int32) dX10_sameIn_41 rfl ?_
      obtain ⟨r13, hc12, hf⟩ := bd_elim hf
      refine kw_callVI C [.int (1 : Int32)] (kX10_sameOf L D g t0 (1 : Int32) σ8 _ hc12) RX10 mV_X10_480 ⟨rfl, rfl⟩ dd_X10_sameOf ⟨Nat.le_of_ble_eq_true rfl, Nat.le_of_ble_eq_true rfl⟩ _ (hO10 g σ8) rfl rfl rfl (Nat.le_of_ble_eq_true rfl) dX10_sameIn_42 ?_
      exact kw_iret C K dX10_sameIn_45 hf
    · have hf := if_n c11 hf
      refine kw_aload_n C dX10_sameIn_29 rfl 0 rfl ?_
      refine kw_iconst C (1 : Int32) dX10_sameIn_30 rfl ?_
      obtain ⟨σ15, hc14, hf⟩ := bV_elim hf
      refine kw_callVV C [.int (1 : Int32)] (kX10_partsGo L D g t0 (1 : Int32) σ8 _ hc14) RX10 mV_X10_430 ⟨rfl, rfl⟩ dd_X10_partsGo ⟨Nat.le_of_ble_eq_true rfl, Nat.le_of_ble_eq_true rfl⟩ _ (hO10 g σ8) rfl rfl rfl (Nat.le_of_ble_eq_true rfl) dX10_sameIn_31 ?_
      obtain ⟨x16, ex16, hf⟩ := lt_elim hf
      refine kw_iinc C x16 dX10_sameIn_34 2 rfl ex16.symm hN (Nat.le_of_ble_eq_true rfl) [(2, .int x16), (0, .ref (g.1 0)), (1, .int p0)] rfl ?_
      refine kw_goto C 24 dX10_sameIn_37 rfl ?_
      refine kw_sub [1, 2, 0] _ rfl ?_
      exact ih10 _ _ hf
  · have hf := if_p c4 hf
    refine kw_iconst C (-1 : Int32) dX10_sameIn_16 rfl ?_
    exact kw_iret C K dX10_sameIn_17 hf
set_option maxRecDepth 100000 in
set_option maxHeartbeats 4000000 in
theorem kX10_noneLeft (L : Launch) (D : va_G) (g : GwT) (t0 : Nat) (σ : St) (r0 : Int32) (σ0 : St) (hf : fX10_noneLeft σ  = some (r0, σ0)) : CtI L D (ttG g) (wM g) t0 yX10_noneLeft cX10_noneLeft 2 (some .int) { frames := 2, cells := 0, slots := 0, locals := 41 } [.ref (g.1 0)] σ r0 σ0 := by
  refine CtI.of (own := RX10) (by decide) rfl (Nat.le_of_ble_eq_true rfl) [(0, .ref (g.1 0))] rfl ?_
  intro X C hN K
  unfold fX10_noneLeft at hf
  refine kw_aload_n C dX10_noneLeft_0 rfl 0 rfl ?_
  refine kw_iconst C (0 : Int32) dX10_noneLeft_1 rfl ?_
  obtain ⟨σ1, eσ1, hf⟩ := lt_elim hf
  refine kw_put C inG10 tyX10 tyX10_ok nmX10 _ (hO10 g σ) rfl 2 (Nat.le_of_ble_eq_true rfl) mf_10_151 rfl rfl (tyX10_ok 2 (Nat.le_of_ble_eq_true rfl)) rfl rfl (Nat.le_of_ble_eq_true rfl) ((hF10_2 g σ _).trans (congrArg (wM g) eσ1.symm)) dX10_noneLeft_2 ?_
  refine kw_aload_n C dX10_noneLeft_5 rfl 0 rfl ?_
  obtain ⟨σ3, hc2, hf⟩ := bV_elim hf
  refine kw_callVV C [] (kX10_layTried L D g t0 σ1 _ hc2) RX10 mV_X10_453 ⟨rfl, rfl⟩ dd_X10_layTried ⟨Nat.le_of_ble_eq_true rfl, Nat.le_of_ble_eq_true rfl⟩ _ (hO10 g σ1) rfl rfl rfl (Nat.le_of_ble_eq_true rfl) dX10_noneLeft_6 ?_
  refine kw_iconst C (0 : Int32) dX10_noneLeft_9 rfl ?_
  refine kw_istore_n C dX10_noneLeft_10 rfl hN (Nat.le_of_ble_eq_true rfl) [(1, .int (0 : Int32)), (0, .ref (g.1 0))] rfl ?_
  refine kw_sub [1, 0] _ rfl ?_
  refine lpx2_walk (P := fun (x4 : Int32) (σ5 : St) => KW X σ5 11 [(0, .ref (g.1 0)), (1, .int x4)] []) ?_ FU _ _ hf
  intro self6 x4 σ5 ih7 hf
  refine kw_iload_n C dX10_noneLeft_11 rfl 1 rfl ?_
  refine kw_sipush C (999 : Int32) dX10_noneLeft_12 rfl ?_
  refine kw_icmp_gt C 39 dX10_noneLeft_15 rfl (fun c8 => ?_) (fun c8 => ?_)
  · have hf := if_p c8 hf
    refine kw_bipush C (-2 : Int32) dX10_noneLeft_39 rfl ?_
    exact kw_iret C K dX10_noneLeft_41 hf
  · have hf := if_n c8 hf
    refine kw_aload_n C dX10_noneLeft_18 rfl 0 rfl ?_
    refine kw_iconst C (1 : Int32) dX10_noneLeft_19 rfl ?_
    obtain ⟨r10, hc9, hf⟩ := bd_elim hf
    refine kw_callVI C [.int (1 : Int32)] (kX10_sameOf L D g t0 (1 : Int32) σ5 _ hc9) RX10 mV_X10_480 ⟨rfl, rfl⟩ dd_X10_sameOf ⟨Nat.le_of_ble_eq_true rfl, Nat.le_of_ble_eq_true rfl⟩ _ (hO10 g σ5) rfl rfl rfl (Nat.le_of_ble_eq_true rfl) dX10_noneLeft_20 ?_
    refine kw_if_ne C 28 dX10_noneLeft_23 rfl (fun c11 => ?_) (fun c11 => ?_)
    · have hf := if_n c11 hf
      refine kw_aload_n C dX10_noneLeft_28 rfl 0 rfl ?_
      refine kw_iconst C (1 : Int32) dX10_noneLeft_29 rfl ?_
      obtain ⟨σ13, hc12, hf⟩ := bV_elim hf
      refine kw_callVV C [.int (1 : Int32)] (kX10_partsGo L D g t0 (1 : Int32) σ5 _ hc12) RX10 mV_X10_430 ⟨rfl, rfl⟩ dd_X10_partsGo ⟨Nat.le_of_ble_eq_true rfl, Nat.le_of_ble_eq_true rfl⟩ _ (hO10 g σ5) rfl rfl rfl (Nat.le_of_ble_eq_true rfl) dX10_noneLeft_30 ?_
      obtain ⟨x14, ex14, hf⟩ := lt_elim hf
      refine kw_iinc C x14 dX10_noneLeft_33 1 rfl ex14.symm hN (Nat.le_of_ble_eq_true rfl) [(1, .int x14), (0, .ref (g.1 0))] rfl ?_
      refine kw_goto C 11 dX10_noneLeft_36 rfl ?_
      refine kw_sub [1, 0] _ rfl ?_
      exact ih7 _ _ hf
    · have hf := if_p c11 hf
      refine kw_iload_n C dX10_noneLeft_26 rfl 1 rfl ?_
      exact kw_iret C K dX10_noneLeft_27 hf
set_option maxRecDepth 100000 in
set_option maxHeartbeats 4000000 in
theorem kX10_nextPart (L : Launch) (D : va_G) (g : GwT) (t0 : Nat) (p0 : Int32) (σ : St) (r0 : Int32) (σ0 : St) (hf : fX10_nextPart σ p0 = some (r0, σ0)) : CtI L D (ttG g) (wM g) t0 yX10_nextPart cX10_nextPart 6 (some .int) { frames := 1, cells := 0, slots := 0, locals := 22 } [.ref (g.1 0), .int p0] σ r0 σ0 := by
  refine CtI.of (own := RX10) (by decide) rfl (Nat.le_of_ble_eq_true rfl) [(0, .ref (g.1 0)), (1, .int p0)] rfl ?_
  intro X C hN K
  unfold fX10_nextPart at hf
  refine kw_aload_n C dX10_nextPart_0 rfl 0 rfl ?_
  refine kw_iconst C (0 : Int32) dX10_nextPart_1 rfl ?_
  obtain ⟨σ1, eσ1, hf⟩ := lt_elim hf
  refine kw_put C inG10 tyX10 tyX10_ok nmX10 _ (hO10 g σ) rfl 2 (Nat.le_of_ble_eq_true rfl) mf_10_151 rfl rfl (tyX10_ok 2 (Nat.le_of_ble_eq_true rfl)) rfl rfl (Nat.le_of_ble_eq_true rfl) ((hF10_2 g σ _).trans (congrArg (wM g) eσ1.symm)) dX10_nextPart_2 ?_
  refine kw_iload_n C dX10_nextPart_5 rfl 1 rfl ?_
  refine kw_iconst C (0 : Int32) dX10_nextPart_6 rfl ?_
  refine kw_iconst C (1 : Int32) dX10_nextPart_7 rfl ?_
  obtain ⟨r3, hc2, hf⟩ := bd_elim hf
  refine kw_callSI C [.int p0, .int (0 : Int32), .int (1 : Int32)] (kX10_isIn L D g t0 p0 (0 : Int32) (1 : Int32) σ1 _ hc2) mS_X10_196 ⟨rfl, rfl⟩ dd_X10_isIn ⟨Nat.le_of_ble_eq_true rfl, Nat.le_of_ble_eq_true rfl⟩ rfl (Nat.le_of_ble_eq_true rfl) dX10_nextPart_8 ?_
  refine kw_if_ne C 16 dX10_nextPart_11 rfl (fun c4 => ?_) (fun c4 => ?_)
  · have hf := if_n c4 hf
    refine kw_bipush C (-2 : Int32) dX10_nextPart_16 rfl ?_
    refine kw_istore_n C dX10_nextPart_18 rfl hN (Nat.le_of_ble_eq_true rfl) [(2, .int (-2 : Int32)), (0, .ref (g.1 0)), (1, .int p0)] rfl ?_
    refine kw_bipush C (-2 : Int32) dX10_nextPart_19 rfl ?_
    refine kw_istore_n C dX10_nextPart_21 rfl hN (Nat.le_of_ble_eq_true rfl) [(3, .int (-2 : Int32)), (2, .int (-2 : Int32)), (0, .ref (g.1 0)), (1, .int p0)] rfl ?_
    refine kw_iconst C (0 : Int32) dX10_nextPart_22 rfl ?_
    refine kw_istore C dX10_nextPart_23 hN (Nat.le_of_ble_eq_true rfl) [(4, .int (0 : Int32)), (3, .int (-2 : Int32)), (2, .int (-2 : Int32)), (0, .ref (g.1 0)), (1, .int p0)] rfl ?_
    refine kw_sub [3, 4, 2, 1, 0] _ rfl ?_
    refine lpx3_walk (P := fun (x5 : Int32) (x6 : Int32) (x7 : Int32) => KW X σ1 25 [(0, .ref (g.1 0)), (1, .int p0), (2, .int x5), (3, .int x6), (4, .int x7)] []) ?_ FU _ _ _ hf
    intro self8 x5 x6 x7 ih9 hf
    refine kw_iload C dX10_nextPart_25 4 rfl ?_
    refine kw_aload_n C dX10_nextPart_27 rfl 0 rfl ?_
    refine kw_get C inG10 _ (hO10 g σ1) rfl 13 (Nat.le_of_ble_eq_true rfl) mf_10_228 rfl rfl dX10_nextPart_28 ?_
    refine kw_icmp_ge C 90 dX10_nextPart_31 rfl (fun c10 => ?_) (fun c10 => ?_)
    · have hf := if_p c10 hf
      refine kw_iload_n C dX10_nextPart_90 rfl 1 rfl ?_
      obtain ⟨J12, hJ12, hf⟩ := jnx1_elim hf
      have kJ12 : ∀ (x11 : Int32), J12 x11 = some (r0, σ0) → KW X σ1 99 [] [.int x11] := by
        clear hf
        intro x11 hf
        have hf := (hJ12 x11).symm.trans hf
        exact kw_iret C K dX10_nextPart_99 hf
      refine kw_if_ne C 98 dX10_nextPart_91 rfl (fun c13 => ?_) (fun c13 => ?_)
      · have hf := if_n c13 hf
        refine kw_iload_n C dX10_nextPart_98 rfl 3 rfl ?_
        refine kw_sub [] _ rfl ?_
        exact kJ12 _ hf
      · have hf := if_p c13 hf
        refine kw_iload_n C dX10_nextPart_94 rfl 2 rfl ?_
        refine kw_goto C 99 dX10_nextPart_95 rfl ?_
        refine kw_sub [] _ rfl ?_
        exact kJ12 _ hf
    · have hf := if_n c10 hf
      refine kw_aload_n C dX10_nextPart_34 rfl 0 rfl ?_
      refine kw_get C inG10 _ (hO10 g σ1) rfl 27 (Nat.le_of_ble_eq_true rfl) mf_10_48 rfl rfl dX10_nextPart_35 ?_
      refine kw_iload C dX10_nextPart_38 4 rfl ?_
      obtain ⟨h14, hf⟩ := gd_elim hf
      refine kw_iald C _ 0 (hA10_27 g σ1) rfl h14 dX10_nextPart_40 ?_
      refine kw_aload_n C dX10_nextPart_41 rfl 0 rfl ?_
      refine kw_get C inG10 _ (hO10 g σ1) rfl 52 (Nat.le_of_ble_eq_true rfl) mf_10_103 rfl rfl dX10_nextPart_42 ?_
      refine kw_iload C dX10_nextPart_45 4 rfl ?_
      obtain ⟨h15, hf⟩ := gd_elim hf
      refine kw_iald C _ 0 (hA10_52 g σ1) rfl h15 dX10_nextPart_47 ?_
      refine kw_isub C dX10_nextPart_48 ?_
      obtain ⟨x16, ex16, hf⟩ := lt_elim hf
      refine kw_topi ex16 ?_
      refine kw_istore C dX10_nextPart_49 hN (Nat.le_of_ble_eq_true rfl) [(5, .int x16), (0, .ref (g.1 0)), (1, .int p0), (2, .int x5), (3, .int x6), (4, .int x7)] rfl ?_
      refine kw_iload C dX10_nextPart_51 0 rfl ?_
      refine kw_iconst C (1 : Int32) dX10_nextPart_53 rfl ?_
      obtain ⟨J18, hJ18, hf⟩ := jnx1_elim hf
      have kJ18 : ∀ (x17 : Int32), J18 x17 = some (r0, σ0) → KW X σ1 63 [(0, .ref (g.1 0)), (1, .int p0), (2, .int x5), (3, .int x6), (4, .int x7)] [.int x17] := by
        clear hf
        intro x17 hf
        have hf := (hJ18 x17).symm.trans hf
        refine kw_istore C dX10_nextPart_63 hN (Nat.le_of_ble_eq_true rfl) [(5, .int x17), (0, .ref (g.1 0)), (1, .int p0), (2, .int x5), (3, .int x6), (4, .int x7)] rfl ?_
        refine kw_iload_n C dX10_nextPart_65 rfl 3 rfl ?_
        obtain ⟨J21, hJ21, hf⟩ := jnx2_elim hf
        have kJ21 : ∀ (x19 : Int32) (x20 : Int32), J21 x19 x20 = some (r0, σ0) → KW X σ1 84 [(0, .ref (g.1 0)), (1, .int p0), (2, .int x19), (3, .int x20), (4, .int x7)] [] := by
          clear hf
          intro x19 x20 hf
          have hf := (hJ21 x19 x20).symm.trans hf
          obtain ⟨x22, ex22, hf⟩ := lt_elim hf
          refine kw_iinc C x22 dX10_nextPart_84 4 rfl ex22.symm hN (Nat.le_of_ble_eq_true rfl) [(4, .int x22), (0, .ref (g.1 0)), (1, .int p0), (2, .int x19), (3, .int x20)] rfl ?_
          refine kw_goto C 25 dX10_nextPart_87 rfl ?_
          refine kw_sub [1, 2, 3, 4, 0] _ rfl ?_
          exact ih9 _ _ _ hf
        obtain ⟨J23, hJ23, hf⟩ := jnx1_elim hf
        have kJ23 : ∀ (u9 : Unit), J23 u9 = some (r0, σ0) → KW X σ1 78 [(0, .ref (g.1 0)), (1, .int p0), (4, .int x7), (5, .int x17)] [] := by
          clear hf
          intro u9 hf
          have hf := (hJ23 u9).symm.trans hf
          refine kw_iload C dX10_nextPart_78 2 rfl ?_
          refine kw_istore_n C dX10_nextPart_80 rfl hN (Nat.le_of_ble_eq_true rfl) [(2, .int x7), (0, .ref (g.1 0)), (1, .int p0), (4, .int x7), (5, .int x17)] rfl ?_
          refine kw_iload C dX10_nextPart_81 4 rfl ?_
          refine kw_istore_n C dX10_nextPart_83 rfl hN (Nat.le_of_ble_eq_true rfl) [(3, .int x17), (2, .int x7), (0, .ref (g.1 0)), (1, .int p0), (4, .int x7), (5, .int x17)] rfl ?_
          refine kw_sub [2, 3, 1, 0, 4] _ rfl ?_
          exact kJ21 _ _ hf
        refine kw_if_lt C 78 dX10_nextPart_66 rfl (fun c24 => ?_) (fun c24 => ?_)
        · have hf := if_p c24 hf
          refine kw_sub [1, 2, 5, 0] _ rfl ?_
          exact kJ23 _ hf
        · have hf := if_n c24 hf
          refine kw_iload C dX10_nextPart_69 0 rfl ?_
          refine kw_iload_n C dX10_nextPart_71 rfl 4 rfl ?_
          refine kw_icmp_lt C 78 dX10_nextPart_72 rfl (fun c25 => ?_) (fun c25 => ?_)
          · have hf := if_p c25 hf
            refine kw_sub [1, 2, 5, 0] _ rfl ?_
            exact kJ23 _ hf
          · have hf := if_n c25 hf
            refine kw_goto C 84 dX10_nextPart_75 rfl ?_
            refine kw_sub [1, 2, 3, 4, 5] _ rfl ?_
            exact kJ21 _ _ hf
      refine kw_icmp_ge C 61 dX10_nextPart_54 rfl (fun c26 => ?_) (fun c26 => ?_)
      · have hf := if_p c26 hf
        refine kw_iload C dX10_nextPart_61 0 rfl ?_
        refine kw_sub [1, 2, 3, 4, 5] _ rfl ?_
        exact kJ18 _ hf
      · have hf := if_n c26 hf
        refine kw_iconst C (1 : Int32) dX10_nextPart_57 rfl ?_
        refine kw_goto C 63 dX10_nextPart_58 rfl ?_
        refine kw_sub [1, 2, 3, 4, 5] _ rfl ?_
        exact kJ18 _ hf
  · have hf := if_p c4 hf
    refine kw_iconst C (-1 : Int32) dX10_nextPart_14 rfl ?_
    exact kw_iret C K dX10_nextPart_15 hf
set_option maxRecDepth 100000 in
set_option maxHeartbeats 4000000 in
theorem kX10_lives (L : Launch) (D : va_G) (g : GwT) (t0 : Nat) (p0 : Int32) (p1 : Int32) (p2 : Int32) (σ : St) (r0 : Int64) (σ0 : St) (hf : fX10_lives σ p0 p1 p2 = some (r0, σ0)) : CtL L D (ttG g) (wM g) t0 yX10_lives cX10_lives 14 (some .long) { frames := 5, cells := 0, slots := 0, locals := 120 } [.ref (g.1 0), .int p0, .int p1, .int p2] σ r0 σ0 := by
  refine CtL.of (own := RX10) (by decide) rfl (Nat.le_of_ble_eq_true rfl) [(0, .ref (g.1 0)), (1, .int p0), (2, .int p1), (3, .int p2)] rfl ?_
  intro X C hN K
  unfold fX10_lives at hf
  refine kw_aload_n C dX10_lives_0 rfl 0 rfl ?_
  refine kw_iconst C (0 : Int32) dX10_lives_1 rfl ?_
  obtain ⟨σ1, eσ1, hf⟩ := lt_elim hf
  refine kw_put C inG10 tyX10 tyX10_ok nmX10 _ (hO10 g σ) rfl 2 (Nat.le_of_ble_eq_true rfl) mf_10_151 rfl rfl (tyX10_ok 2 (Nat.le_of_ble_eq_true rfl)) rfl rfl (Nat.le_of_ble_eq_true rfl) ((hF10_2 g σ _).trans (congrArg (wM g) eσ1.symm)) dX10_lives_2 ?_
  refine kw_aload_n C dX10_lives_5 rfl 0 rfl ?_
  refine kw_iload_n C dX10_lives_6 rfl 1 rfl ?_
  obtain ⟨r3, hc2, hf⟩ := bd_elim hf
  refine kw_callVI C [.int p0] (kX10_isOnNow L D g t0 p0 σ1 _ hc2) RX10 mV_X10_444 ⟨rfl, rfl⟩ dd_X10_isOnNow ⟨Nat.le_of_ble_eq_true rfl, Nat.le_of_ble_eq_true rfl⟩ _ (hO10 g σ1) rfl rfl rfl (Nat.le_of_ble_eq_true rfl) dX10_lives_7 ?_
  obtain ⟨J4, hJ4, hf⟩ := jnx1_elim hf
  have kJ4 : ∀ (u9 : Unit), J4 u9 = some (r0, σ0) → KW X σ1 32 [] [] := by
    clear hf
    intro u9 hf
    have hf := (hJ4 u9).symm.trans hf
    refine kw_ldc2 C dX10_lives_32 mk2_X10_483 ?_
    exact kw_lret C K dX10_lives_35 hf
  refine kw_if_eq C 32 dX10_lives_10 rfl (fun c5 => ?_) (fun c5 => ?_)
  · have hf := if_p c5 hf
    refine kw_sub [] _ rfl ?_
    exact kJ4 _ hf
  · have hf := if_n c5 hf
    refine kw_iload_n C dX10_lives_13 rfl 2 rfl ?_
    refine kw_iconst C (0 : Int32) dX10_lives_14 rfl ?_
    refine kw_bipush C (6 : Int32) dX10_lives_15 rfl ?_
    obtain ⟨r7, hc6, hf⟩ := bd_elim hf
    refine kw_callSI C [.int p1, .int (0 : Int32), .int (6 : Int32)] (kX10_isIn L D g t0 p1 (0 : Int32) (6 : Int32) σ1 _ hc6) mS_X10_196 ⟨rfl, rfl⟩ dd_X10_isIn ⟨Nat.le_of_ble_eq_true rfl, Nat.le_of_ble_eq_true rfl⟩ rfl (Nat.le_of_ble_eq_true rfl) dX10_lives_17 ?_
    refine kw_if_eq C 32 dX10_lives_20 rfl (fun c8 => ?_) (fun c8 => ?_)
    · have hf := if_p c8 hf
      refine kw_sub [] _ rfl ?_
      exact kJ4 _ hf
    · have hf := if_n c8 hf
      refine kw_iload_n C dX10_lives_23 rfl 3 rfl ?_
      refine kw_iconst C (0 : Int32) dX10_lives_24 rfl ?_
      refine kw_iconst C (1 : Int32) dX10_lives_25 rfl ?_
      obtain ⟨r10, hc9, hf⟩ := bd_elim hf
      refine kw_callSI C [.int p2, .int (0 : Int32), .int (1 : Int32)] (kX10_isIn L D g t0 p2 (0 : Int32) (1 : Int32) σ1 _ hc9) mS_X10_196 ⟨rfl, rfl⟩ dd_X10_isIn ⟨Nat.le_of_ble_eq_true rfl, Nat.le_of_ble_eq_true rfl⟩ rfl (Nat.le_of_ble_eq_true rfl) dX10_lives_26 ?_
      refine kw_if_ne C 36 dX10_lives_29 rfl (fun c11 => ?_) (fun c11 => ?_)
      · have hf := if_n c11 hf
        refine kw_aload_n C dX10_lives_36 rfl 0 rfl ?_
        obtain ⟨σ13, hc12, hf⟩ := bV_elim hf
        refine kw_callVV C [] (kX10_layTried L D g t0 σ1 _ hc12) RX10 mV_X10_453 ⟨rfl, rfl⟩ dd_X10_layTried ⟨Nat.le_of_ble_eq_true rfl, Nat.le_of_ble_eq_true rfl⟩ _ (hO10 g σ1) rfl rfl rfl (Nat.le_of_ble_eq_true rfl) dX10_lives_37 ?_
        refine kw_lconst C (1 : Int64) dX10_lives_40 rfl ?_
        refine kw_lstore C dX10_lives_41 hN (Nat.le_of_ble_eq_true rfl) [(4, .long (1 : Int64)), (0, .ref (g.1 0)), (1, .int p0), (2, .int p1), (3, .int p2)] rfl ?_
        refine kw_lconst C (1 : Int64) dX10_lives_43 rfl ?_
        refine kw_lstore C dX10_lives_44 hN (Nat.le_of_ble_eq_true rfl) [(6, .long (1 : Int64)), (4, .long (1 : Int64)), (0, .ref (g.1 0)), (1, .int p0), (2, .int p1), (3, .int p2)] rfl ?_
        refine kw_iconst C (0 : Int32) dX10_lives_46 rfl ?_
        refine kw_istore C dX10_lives_47 hN (Nat.le_of_ble_eq_true rfl) [(8, .int (0 : Int32)), (6, .long (1 : Int64)), (4, .long (1 : Int64)), (0, .ref (g.1 0)), (1, .int p0), (2, .int p1), (3, .int p2)] rfl ?_
        refine kw_sub [3, 4, 5, 6, 2, 1, 0] _ rfl ?_
        refine lpx4_walk (P := fun (x14 : Int64) (x15 : Int64) (x16 : Int32) (σ17 : St) => KW X σ17 49 [(0, .ref (g.1 0)), (1, .int p0), (2, .int p1), (3, .int p2), (4, .long x14), (6, .long x15), (8, .int x16)] []) ?_ FU _ _ _ _ hf
        intro self18 x14 x15 x16 σ17 ih19 hf
        refine kw_iload C dX10_lives_49 6 rfl ?_
        refine kw_iload_n C dX10_lives_51 rfl 2 rfl ?_
        refine kw_icmp_ge C 123 dX10_lives_52 rfl (fun c20 => ?_) (fun c20 => ?_)
        · have hf := if_p c20 hf
          refine kw_lload C dX10_lives_123 5 rfl ?_
          refine kw_lstore C dX10_lives_125 hN (Nat.le_of_ble_eq_true rfl) [(8, .long x15), (0, .ref (g.1 0)), (1, .int p0), (2, .int p1), (3, .int p2), (4, .long x14), (6, .long x15)] rfl ?_
          refine kw_lload C dX10_lives_127 5 rfl ?_
          refine kw_lstore C dX10_lives_129 hN (Nat.le_of_ble_eq_true rfl) [(10, .long x14), (8, .long x15), (0, .ref (g.1 0)), (1, .int p0), (2, .int p1), (3, .int p2), (4, .long x14), (6, .long x15)] rfl ?_
          refine kw_sub [5, 6, 7, 1, 0] _ rfl ?_
          refine lpx2_walk (P := fun (x21 : Int64) (x22 : Int64) => KW X σ17 131 [(3, .int p2), (4, .long x14), (6, .long x15), (8, .long x21), (10, .long x22)] []) ?_ FU _ _ hf
          intro self23 x21 x22 ih24 hf
          refine kw_lload C dX10_lives_131 4 rfl ?_
          refine kw_lconst C (0 : Int64) dX10_lives_133 rfl ?_
          refine kw_lcmp C dX10_lives_134 ?_
          refine kw_if_eq C 156 dX10_lives_135 rfl (fun c25 => ?_) (fun c25 => ?_)
          · have hf := if_p c25 hf
            refine kw_iload_n C dX10_lives_156 rfl 0 rfl ?_
            obtain ⟨J27, hJ27, hf⟩ := jnx1_elim hf
            have kJ27 : ∀ (x26 : Int64), J27 x26 = some (r0, σ0) → KW X σ17 173 [] [.long x26] := by
              clear hf
              intro x26 hf
              have hf := (hJ27 x26).symm.trans hf
              exact kw_lret C K dX10_lives_173 hf
            refine kw_if_ne C 168 dX10_lives_157 rfl (fun c28 => ?_) (fun c28 => ?_)
            · have hf := if_n c28 hf
              refine kw_lload C dX10_lives_168 2 rfl ?_
              refine kw_lload C dX10_lives_170 3 rfl ?_
              obtain ⟨h29, hf⟩ := gd_elim hf
              refine kw_ldiv C dX10_lives_172 h29 ?_
              refine kw_sub [] _ rfl ?_
              exact kJ27 _ hf
            · have hf := if_p c28 hf
              refine kw_lload C dX10_lives_160 1 rfl ?_
              refine kw_lload C dX10_lives_162 3 rfl ?_
              obtain ⟨h30, hf⟩ := gd_elim hf
              refine kw_ldiv C dX10_lives_164 h30 ?_
              refine kw_goto C 173 dX10_lives_165 rfl ?_
              refine kw_sub [] _ rfl ?_
              exact kJ27 _ hf
          · have hf := if_n c25 hf
            refine kw_lload C dX10_lives_138 3 rfl ?_
            refine kw_lload C dX10_lives_140 4 rfl ?_
            obtain ⟨h31, hf⟩ := gd_elim hf
            refine kw_lrem C dX10_lives_142 h31 ?_
            obtain ⟨x32, ex32, hf⟩ := lt_elim hf
            refine kw_topl ex32 ?_
            refine kw_lstore C dX10_lives_143 hN (Nat.le_of_ble_eq_true rfl) [(12, .long x32), (3, .int p2), (4, .long x14), (6, .long x15), (8, .long x21), (10, .long x22)] rfl ?_
            refine kw_lload C dX10_lives_145 5 rfl ?_
            refine kw_lstore C dX10_lives_147 hN (Nat.le_of_ble_eq_true rfl) [(8, .long x22), (12, .long x32), (3, .int p2), (4, .long x14), (6, .long x15), (10, .long x22)] rfl ?_
            refine kw_lload C dX10_lives_149 1 rfl ?_
            refine kw_lstore C dX10_lives_151 hN (Nat.le_of_ble_eq_true rfl) [(10, .long x32), (8, .long x22), (12, .long x32), (3, .int p2), (4, .long x14), (6, .long x15)] rfl ?_
            refine kw_goto C 131 dX10_lives_153 rfl ?_
            refine kw_sub [3, 4, 5, 1, 0] _ rfl ?_
            exact ih24 _ _ hf
        · have hf := if_n c20 hf
          refine kw_aload_n C dX10_lives_55 rfl 0 rfl ?_
          refine kw_get C inG10 _ (hO10 g σ17) rfl 47 (Nat.le_of_ble_eq_true rfl) mf_10_88 rfl rfl dX10_lives_56 ?_
          refine kw_bipush C (6 : Int32) dX10_lives_59 rfl ?_
          refine kw_iload_n C dX10_lives_61 rfl 1 rfl ?_
          refine kw_iadd C dX10_lives_62 ?_
          refine kw_aload_n C dX10_lives_63 rfl 0 rfl ?_
          refine kw_get C inG10 _ (hO10 g σ17) rfl 47 (Nat.le_of_ble_eq_true rfl) mf_10_88 rfl rfl dX10_lives_64 ?_
          refine kw_bipush C (6 : Int32) dX10_lives_67 rfl ?_
          refine kw_iload_n C dX10_lives_69 rfl 1 rfl ?_
          refine kw_iadd C dX10_lives_70 ?_
          obtain ⟨h33, hf⟩ := gd_elim hf
          refine kw_iald C _ 0 (hA10_47 g σ17) rfl h33 dX10_lives_71 ?_
          refine kw_bipush C (99 : Int32) dX10_lives_72 rfl ?_
          obtain ⟨J35, hJ35, hf⟩ := jnx1_elim hf
          have kJ35 : ∀ (x34 : Int32), J35 x34 = some (r0, σ0) → KW X σ17 93 [(0, .ref (g.1 0)), (1, .int p0), (2, .int p1), (3, .int p2), (4, .long x14), (6, .long x15), (8, .int x16)] [.int x34, .int ((6 : Int32) + p0), .ref (g.2.1 0 47)] := by
            clear hf
            intro x34 hf
            have hf := (hJ35 x34).symm.trans hf
            obtain ⟨h36, hf⟩ := gd_elim hf
            obtain ⟨σ37, eσ37, hf⟩ := lt_elim hf
            refine kw_iast C _ 0 (hA10_47 g σ17) rfl h36 ((hS10_47 g σ17 _).trans (congrArg (wM g) eσ37.symm)) dX10_lives_93 ?_
            refine kw_lload C dX10_lives_94 4 rfl ?_
            refine kw_bipush C (100 : Int32) dX10_lives_96 rfl ?_
            refine kw_aload_n C dX10_lives_98 rfl 0 rfl ?_
            refine kw_iconst C (1 : Int32) dX10_lives_99 rfl ?_
            refine kw_iload_n C dX10_lives_100 rfl 1 rfl ?_
            obtain ⟨r39, σ40, hc38, hf⟩ := bI_elim hf
            refine kw_callVI C [.int (1 : Int32), .int p0] (kX10_deathOf L D g t0 (1 : Int32) p0 σ37 _ _ hc38) RX10 mV_X10_394 ⟨rfl, rfl⟩ dd_X10_deathOf ⟨Nat.le_of_ble_eq_true rfl, Nat.le_of_ble_eq_true rfl⟩ _ (hO10 g σ37) rfl rfl rfl (Nat.le_of_ble_eq_true rfl) dX10_lives_101 ?_
            refine kw_isub C dX10_lives_104 ?_
            refine kw_i2l C dX10_lives_105 ?_
            refine kw_lmul C dX10_lives_106 ?_
            obtain ⟨x41, ex41, hf⟩ := lt_elim hf
            refine kw_topl ex41 ?_
            refine kw_lstore C dX10_lives_107 hN (Nat.le_of_ble_eq_true rfl) [(4, .long x41), (0, .ref (g.1 0)), (1, .int p0), (2, .int p1), (3, .int p2), (6, .long x15), (8, .int x16)] rfl ?_
            refine kw_lload C dX10_lives_109 5 rfl ?_
            refine kw_ldc2 C dX10_lives_111 mk2_X10_485 ?_
            refine kw_lmul C dX10_lives_114 ?_
            obtain ⟨x42, ex42, hf⟩ := lt_elim hf
            refine kw_topl ex42 ?_
            refine kw_lstore C dX10_lives_115 hN (Nat.le_of_ble_eq_true rfl) [(6, .long x42), (4, .long x41), (0, .ref (g.1 0)), (1, .int p0), (2, .int p1), (3, .int p2), (8, .int x16)] rfl ?_
            obtain ⟨x43, ex43, hf⟩ := lt_elim hf
            refine kw_iinc C x43 dX10_lives_117 6 rfl ex43.symm hN (Nat.le_of_ble_eq_true rfl) [(8, .int x43), (6, .long x42), (4, .long x41), (0, .ref (g.1 0)), (1, .int p0), (2, .int p1), (3, .int p2)] rfl ?_
            refine kw_goto C 49 dX10_lives_120 rfl ?_
            refine kw_sub [3, 4, 5, 6, 2, 1, 0] _ rfl ?_
            exact ih19 _ _ _ _ hf
          refine kw_icmp_ge C 91 dX10_lives_74 rfl (fun c44 => ?_) (fun c44 => ?_)
          · have hf := if_p c44 hf
            refine kw_bipush C (99 : Int32) dX10_lives_91 rfl ?_
            exact kJ35 _ hf
          · have hf := if_n c44 hf
            refine kw_aload_n C dX10_lives_77 rfl 0 rfl ?_
            refine kw_get C inG10 _ (hO10 g σ17) rfl 47 (Nat.le_of_ble_eq_true rfl) mf_10_88 rfl rfl dX10_lives_78 ?_
            refine kw_bipush C (6 : Int32) dX10_lives_81 rfl ?_
            refine kw_iload_n C dX10_lives_83 rfl 1 rfl ?_
            refine kw_iadd C dX10_lives_84 ?_
            obtain ⟨h45, hf⟩ := gd_elim hf
            refine kw_iald C _ 0 (hA10_47 g σ17) rfl h45 dX10_lives_85 ?_
            refine kw_iconst C (1 : Int32) dX10_lives_86 rfl ?_
            refine kw_iadd C dX10_lives_87 ?_
            refine kw_goto C 93 dX10_lives_88 rfl ?_
            exact kJ35 _ hf
      · have hf := if_p c11 hf
        refine kw_sub [] _ rfl ?_
        exact kJ4 _ hf
set_option maxRecDepth 100000 in
set_option maxHeartbeats 4000000 in
theorem kX10_shares (L : Launch) (D : va_G) (g : GwT) (t0 : Nat) (p0 : Int32) (p1 : Int32) (σ : St) (r0 : Int32) (σ0 : St) (hf : fX10_shares σ p0 p1 = some (r0, σ0)) : CtI L D (ttG g) (wM g) t0 yX10_shares cX10_shares 5 (some .int) { frames := 3, cells := 0, slots := 0, locals := 67 } [.ref (g.1 0), .int p0, .int p1] σ r0 σ0 := by
  refine CtI.of (own := RX10) (by decide) rfl (Nat.le_of_ble_eq_true rfl) [(0, .ref (g.1 0)), (1, .int p0), (2, .int p1)] rfl ?_
  intro X C hN K
  unfold fX10_shares at hf
  refine kw_aload_n C dX10_shares_0 rfl 0 rfl ?_
  refine kw_iconst C (0 : Int32) dX10_shares_1 rfl ?_
  obtain ⟨σ1, eσ1, hf⟩ := lt_elim hf
  refine kw_put C inG10 tyX10 tyX10_ok nmX10 _ (hO10 g σ) rfl 2 (Nat.le_of_ble_eq_true rfl) mf_10_151 rfl rfl (tyX10_ok 2 (Nat.le_of_ble_eq_true rfl)) rfl rfl (Nat.le_of_ble_eq_true rfl) ((hF10_2 g σ _).trans (congrArg (wM g) eσ1.symm)) dX10_shares_2 ?_
  refine kw_aload_n C dX10_shares_5 rfl 0 rfl ?_
  refine kw_iload_n C dX10_shares_6 rfl 1 rfl ?_
  refine kw_iload_n C dX10_shares_7 rfl 2 rfl ?_
  obtain ⟨r3, hc2, hf⟩ := bd_elim hf
  refine kw_callVI C [.int p0, .int p1] (kX10_areTwo L D g t0 p0 p1 σ1 _ hc2) RX10 mV_X10_447 ⟨rfl, rfl⟩ dd_X10_areTwo ⟨Nat.le_of_ble_eq_true rfl, Nat.le_of_ble_eq_true rfl⟩ _ (hO10 g σ1) rfl rfl rfl (Nat.le_of_ble_eq_true rfl) dX10_shares_8 ?_
  refine kw_if_ne C 16 dX10_shares_11 rfl (fun c4 => ?_) (fun c4 => ?_)
  · have hf := if_n c4 hf
    refine kw_aload_n C dX10_shares_16 rfl 0 rfl ?_
    refine kw_iconst C (1 : Int32) dX10_shares_17 rfl ?_
    refine kw_iload_n C dX10_shares_18 rfl 1 rfl ?_
    refine kw_ishl C dX10_shares_19 ?_
    obtain ⟨r6, hc5, hf⟩ := bd_elim hf
    refine kw_callVI C [.int ((1 : Int32) <<< (p0 &&& 31))] (kX10_hasOf L D g t0 ((1 : Int32) <<< (p0 &&& 31)) σ1 _ hc5) RX10 mV_X10_477 ⟨rfl, rfl⟩ dd_X10_hasOf ⟨Nat.le_of_ble_eq_true rfl, Nat.le_of_ble_eq_true rfl⟩ _ (hO10 g σ1) rfl rfl rfl (Nat.le_of_ble_eq_true rfl) dX10_shares_20 ?_
    refine kw_istore_n C dX10_shares_23 rfl hN (Nat.le_of_ble_eq_true rfl) [(3, .int r6), (0, .ref (g.1 0)), (1, .int p0), (2, .int p1)] rfl ?_
    refine kw_aload_n C dX10_shares_24 rfl 1 rfl ?_
    refine kw_iconst C (1 : Int32) dX10_shares_25 rfl ?_
    refine kw_iload_n C dX10_shares_26 rfl 3 rfl ?_
    refine kw_ishl C dX10_shares_27 ?_
    obtain ⟨r8, hc7, hf⟩ := bd_elim hf
    refine kw_callVI C [.int ((1 : Int32) <<< (p1 &&& 31))] (kX10_hasOf L D g t0 ((1 : Int32) <<< (p1 &&& 31)) σ1 _ hc7) RX10 mV_X10_477 ⟨rfl, rfl⟩ dd_X10_hasOf ⟨Nat.le_of_ble_eq_true rfl, Nat.le_of_ble_eq_true rfl⟩ _ (hO10 g σ1) rfl rfl rfl (Nat.le_of_ble_eq_true rfl) dX10_shares_28 ?_
    refine kw_istore C dX10_shares_31 hN (Nat.le_of_ble_eq_true rfl) [(4, .int r8), (3, .int r6), (0, .ref (g.1 0)), (1, .int p0), (2, .int p1)] rfl ?_
    refine kw_iload_n C dX10_shares_33 rfl 1 rfl ?_
    refine kw_aload_n C dX10_shares_34 rfl 2 rfl ?_
    refine kw_iconst C (1 : Int32) dX10_shares_35 rfl ?_
    refine kw_iload_n C dX10_shares_36 rfl 3 rfl ?_
    refine kw_ishl C dX10_shares_37 ?_
    refine kw_iconst C (1 : Int32) dX10_shares_38 rfl ?_
    refine kw_iload_n C dX10_shares_39 rfl 4 rfl ?_
    refine kw_ishl C dX10_shares_40 ?_
    refine kw_ior C dX10_shares_41 ?_
    obtain ⟨r10, hc9, hf⟩ := bd_elim hf
    refine kw_callVI C [.int (((1 : Int32) <<< (p0 &&& 31)) ||| ((1 : Int32) <<< (p1 &&& 31)))] (kX10_hasOf L D g t0 (((1 : Int32) <<< (p0 &&& 31)) ||| ((1 : Int32) <<< (p1 &&& 31))) σ1 _ hc9) RX10 mV_X10_477 ⟨rfl, rfl⟩ dd_X10_hasOf ⟨Nat.le_of_ble_eq_true rfl, Nat.le_of_ble_eq_true rfl⟩ _ (hO10 g σ1) rfl rfl rfl (Nat.le_of_ble_eq_true rfl) dX10_shares_42 ?_
    refine kw_iload_n C dX10_shares_45 rfl 1 rfl ?_
    refine kw_isub C dX10_shares_46 ?_
    refine kw_iload C dX10_shares_47 0 rfl ?_
    refine kw_isub C dX10_shares_49 ?_
    refine kw_iconst C (2 : Int32) dX10_shares_50 rfl ?_
    refine kw_idiv C dX10_shares_51 (by decide) ?_
    refine kw_iadd C dX10_shares_52 ?_
    exact kw_iret C K dX10_shares_53 hf
  · have hf := if_p c4 hf
    refine kw_iconst C (-1 : Int32) dX10_shares_14 rfl ?_
    exact kw_iret C K dX10_shares_15 hf
set_option maxRecDepth 100000 in
set_option maxHeartbeats 4000000 in
theorem kX10_turn (L : Launch) (D : va_G) (g : GwT) (t0 : Nat) (σ : St) (r0 : Int32) (σ0 : St) (hf : fX10_turn σ  = some (r0, σ0)) : CtI L D (ttG g) (wM g) t0 yX10_turn cX10_turn 2 (some .int) { frames := 2, cells := 0, slots := 0, locals := 45 } [.ref (g.1 0)] σ r0 σ0 := by
  refine CtI.of (own := RX10) (by decide) rfl (Nat.le_of_ble_eq_true rfl) [(0, .ref (g.1 0))] rfl ?_
  intro X C hN K
  unfold fX10_turn at hf
  refine kw_aload_n C dX10_turn_0 rfl 0 rfl ?_
  refine kw_iconst C (0 : Int32) dX10_turn_1 rfl ?_
  obtain ⟨σ1, eσ1, hf⟩ := lt_elim hf
  refine kw_put C inG10 tyX10 tyX10_ok nmX10 _ (hO10 g σ) rfl 2 (Nat.le_of_ble_eq_true rfl) mf_10_151 rfl rfl (tyX10_ok 2 (Nat.le_of_ble_eq_true rfl)) rfl rfl (Nat.le_of_ble_eq_true rfl) ((hF10_2 g σ _).trans (congrArg (wM g) eσ1.symm)) dX10_turn_2 ?_
  refine kw_aload_n C dX10_turn_5 rfl 0 rfl ?_
  refine kw_iconst C (0 : Int32) dX10_turn_6 rfl ?_
  obtain ⟨r3, hc2, hf⟩ := bd_elim hf
  refine kw_callVI C [.int (0 : Int32)] (kX10_turnOf L D g t0 (0 : Int32) σ1 _ hc2) RX10 mV_X10_421 ⟨rfl, rfl⟩ dd_X10_turnOf ⟨Nat.le_of_ble_eq_true rfl, Nat.le_of_ble_eq_true rfl⟩ _ (hO10 g σ1) rfl rfl rfl (Nat.le_of_ble_eq_true rfl) dX10_turn_7 ?_
  refine kw_istore_n C dX10_turn_10 rfl hN (Nat.le_of_ble_eq_true rfl) [(1, .int r3), (0, .ref (g.1 0))] rfl ?_
  refine kw_iload_n C dX10_turn_11 rfl 0 rfl ?_
  obtain ⟨J5, hJ5, hf⟩ := jnx1_elim hf
  have kJ5 : ∀ (x4 : Int32), J5 x4 = some (r0, σ0) → KW X σ1 21 [] [.int x4] := by
    clear hf
    intro x4 hf
    have hf := (hJ5 x4).symm.trans hf
    exact kw_iret C K dX10_turn_21 hf
  refine kw_if_ge C 20 dX10_turn_12 rfl (fun c6 => ?_) (fun c6 => ?_)
  · have hf := if_p c6 hf
    refine kw_iload_n C dX10_turn_20 rfl 0 rfl ?_
    refine kw_sub [] _ rfl ?_
    exact kJ5 _ hf
  · have hf := if_n c6 hf
    refine kw_bipush C (-2 : Int32) dX10_turn_15 rfl ?_
    refine kw_goto C 21 dX10_turn_17 rfl ?_
    refine kw_sub [] _ rfl ?_
    exact kJ5 _ hf
set_option maxRecDepth 100000 in
set_option maxHeartbeats 4000000 in
theorem kX10_nextRaise (L : Launch) (D : va_G) (g : GwT) (t0 : Nat) (p0 : Int32) (σ : St) (r0 : Int32) (σ0 : St) (hf : fX10_nextRaise σ p0 = some (r0, σ0)) : CtI L D (ttG g) (wM g) t0 yX10_nextRaise cX10_nextRaise 3 (some .int) { frames := 7, cells := 0, slots := 0, locals := 166 } [.ref (g.1 0), .int p0] σ r0 σ0 := by
  refine CtI.of (own := RX10) (by decide) rfl (Nat.le_of_ble_eq_true rfl) [(0, .ref (g.1 0)), (1, .int p0)] rfl ?_
  intro X C hN K
  unfold fX10_nextRaise at hf
  refine kw_aload_n C dX10_nextRaise_0 rfl 0 rfl ?_
  refine kw_iconst C (0 : Int32) dX10_nextRaise_1 rfl ?_
  obtain ⟨σ1, eσ1, hf⟩ := lt_elim hf
  refine kw_put C inG10 tyX10 tyX10_ok nmX10 _ (hO10 g σ) rfl 2 (Nat.le_of_ble_eq_true rfl) mf_10_151 rfl rfl (tyX10_ok 2 (Nat.le_of_ble_eq_true rfl)) rfl rfl (Nat.le_of_ble_eq_true rfl) ((hF10_2 g σ _).trans (congrArg (wM g) eσ1.symm)) dX10_nextRaise_2 ?_
  refine kw_iload_n C dX10_nextRaise_5 rfl 1 rfl ?_
  refine kw_iconst C (0 : Int32) dX10_nextRaise_6 rfl ?_
  refine kw_iconst C (1 : Int32) dX10_nextRaise_7 rfl ?_
  obtain ⟨r3, hc2, hf⟩ := bd_elim hf
  refine kw_callSI C [.int p0, .int (0 : Int32), .int (1 : Int32)] (kX10_isIn L D g t0 p0 (0 : Int32) (1 : Int32) σ1 _ hc2) mS_X10_196 ⟨rfl, rfl⟩ dd_X10_isIn ⟨Nat.le_of_ble_eq_true rfl, Nat.le_of_ble_eq_true rfl⟩ rfl (Nat.le_of_ble_eq_true rfl) dX10_nextRaise_8 ?_
  refine kw_if_ne C 16 dX10_nextRaise_11 rfl (fun c4 => ?_) (fun c4 => ?_)
  · have hf := if_n c4 hf
    refine kw_aload_n C dX10_nextRaise_16 rfl 0 rfl ?_
    obtain ⟨σ6, hc5, hf⟩ := bV_elim hf
    refine kw_callVV C [] (kX10_layTried L D g t0 σ1 _ hc5) RX10 mV_X10_453 ⟨rfl, rfl⟩ dd_X10_layTried ⟨Nat.le_of_ble_eq_true rfl, Nat.le_of_ble_eq_true rfl⟩ _ (hO10 g σ1) rfl rfl rfl (Nat.le_of_ble_eq_true rfl) dX10_nextRaise_17 ?_
    refine kw_iconst C (1 : Int32) dX10_nextRaise_20 rfl ?_
    refine kw_istore_n C dX10_nextRaise_21 rfl hN (Nat.le_of_ble_eq_true rfl) [(2, .int (1 : Int32)), (0, .ref (g.1 0)), (1, .int p0)] rfl ?_
    refine kw_sub [1, 2, 0] _ rfl ?_
    refine lpx2_walk (P := fun (x7 : Int32) (σ8 : St) => KW X σ8 22 [(0, .ref (g.1 0)), (1, .int p0), (2, .int x7)] []) ?_ FU _ _ hf
    intro self9 x7 σ8 ih10 hf
    refine kw_iload_n C dX10_nextRaise_22 rfl 2 rfl ?_
    refine kw_bipush C (99 : Int32) dX10_nextRaise_23 rfl ?_
    refine kw_icmp_gt C 59 dX10_nextRaise_25 rfl (fun c11 => ?_) (fun c11 => ?_)
    · have hf := if_p c11 hf
      refine kw_bipush C (-2 : Int32) dX10_nextRaise_59 rfl ?_
      exact kw_iret C K dX10_nextRaise_61 hf
    · have hf := if_n c11 hf
      refine kw_aload_n C dX10_nextRaise_28 rfl 0 rfl ?_
      refine kw_iconst C (1 : Int32) dX10_nextRaise_29 rfl ?_
      obtain ⟨σ13, hc12, hf⟩ := bV_elim hf
      refine kw_callVV C [.int (1 : Int32)] (kX10_yearGoes L D g t0 (1 : Int32) σ8 _ hc12) RX10 mV_X10_433 ⟨rfl, rfl⟩ dd_X10_yearGoes ⟨Nat.le_of_ble_eq_true rfl, Nat.le_of_ble_eq_true rfl⟩ _ (hO10 g σ8) rfl rfl rfl (Nat.le_of_ble_eq_true rfl) dX10_nextRaise_30 ?_
      refine kw_aload_n C dX10_nextRaise_33 rfl 0 rfl ?_
      refine kw_get C inG10 _ (hO10 g σ13) rfl 66 (Nat.le_of_ble_eq_true rfl) mf_10_412 rfl rfl dX10_nextRaise_34 ?_
      refine kw_if_lt C 53 dX10_nextRaise_37 rfl (fun c14 => ?_) (fun c14 => ?_)
      · have hf := if_p c14 hf
        obtain ⟨x15, ex15, hf⟩ := lt_elim hf
        refine kw_iinc C x15 dX10_nextRaise_53 2 rfl ex15.symm hN (Nat.le_of_ble_eq_true rfl) [(2, .int x15), (0, .ref (g.1 0)), (1, .int p0)] rfl ?_
        refine kw_goto C 22 dX10_nextRaise_56 rfl ?_
        refine kw_sub [1, 2, 0] _ rfl ?_
        exact ih10 _ _ hf
      · have hf := if_n c14 hf
        refine kw_iload_n C dX10_nextRaise_40 rfl 1 rfl ?_
        obtain ⟨J17, hJ17, hf⟩ := jnx1_elim hf
        have kJ17 : ∀ (x16 : Int32), J17 x16 = some (r0, σ0) → KW X σ13 52 [] [.int x16] := by
          clear hf
          intro x16 hf
          have hf := (hJ17 x16).symm.trans hf
          exact kw_iret C K dX10_nextRaise_52 hf
        refine kw_if_ne C 48 dX10_nextRaise_41 rfl (fun c18 => ?_) (fun c18 => ?_)
        · have hf := if_n c18 hf
          refine kw_aload_n C dX10_nextRaise_48 rfl 0 rfl ?_
          refine kw_get C inG10 _ (hO10 g σ13) rfl 66 (Nat.le_of_ble_eq_true rfl) mf_10_412 rfl rfl dX10_nextRaise_49 ?_
          refine kw_sub [] _ rfl ?_
          exact kJ17 _ hf
        · have hf := if_p c18 hf
          refine kw_iload_n C dX10_nextRaise_44 rfl 2 rfl ?_
          refine kw_goto C 52 dX10_nextRaise_45 rfl ?_
          refine kw_sub [] _ rfl ?_
          exact kJ17 _ hf
  · have hf := if_p c4 hf
    refine kw_iconst C (-1 : Int32) dX10_nextRaise_14 rfl ?_
    exact kw_iret C K dX10_nextRaise_15 hf
set_option maxRecDepth 100000 in
set_option maxHeartbeats 4000000 in
theorem kX10_rival (L : Launch) (D : va_G) (g : GwT) (t0 : Nat) (p0 : Int32) (σ : St) (r0 : Int32) (σ0 : St) (hf : fX10_rival σ p0 = some (r0, σ0)) : CtI L D (ttG g) (wM g) t0 yX10_rival cX10_rival 4 (some .int) { frames := 1, cells := 0, slots := 0, locals := 21 } [.ref (g.1 0), .int p0] σ r0 σ0 := by
  refine CtI.of (own := RX10) (by decide) rfl (Nat.le_of_ble_eq_true rfl) [(0, .ref (g.1 0)), (1, .int p0)] rfl ?_
  intro X C hN K
  unfold fX10_rival at hf
  refine kw_aload_n C dX10_rival_0 rfl 0 rfl ?_
  refine kw_iconst C (0 : Int32) dX10_rival_1 rfl ?_
  obtain ⟨σ1, eσ1, hf⟩ := lt_elim hf
  refine kw_put C inG10 tyX10 tyX10_ok nmX10 _ (hO10 g σ) rfl 2 (Nat.le_of_ble_eq_true rfl) mf_10_151 rfl rfl (tyX10_ok 2 (Nat.le_of_ble_eq_true rfl)) rfl rfl (Nat.le_of_ble_eq_true rfl) ((hF10_2 g σ _).trans (congrArg (wM g) eσ1.symm)) dX10_rival_2 ?_
  refine kw_aload_n C dX10_rival_5 rfl 0 rfl ?_
  refine kw_iload_n C dX10_rival_6 rfl 1 rfl ?_
  obtain ⟨r3, hc2, hf⟩ := bd_elim hf
  refine kw_callVI C [.int p0] (kX10_isHouse L D g t0 p0 σ1 _ hc2) RX10 mV_X10_368 ⟨rfl, rfl⟩ dd_X10_isHouse ⟨Nat.le_of_ble_eq_true rfl, Nat.le_of_ble_eq_true rfl⟩ _ (hO10 g σ1) rfl rfl rfl (Nat.le_of_ble_eq_true rfl) dX10_rival_7 ?_
  refine kw_if_ne C 15 dX10_rival_10 rfl (fun c4 => ?_) (fun c4 => ?_)
  · have hf := if_n c4 hf
    refine kw_bipush C (-2 : Int32) dX10_rival_15 rfl ?_
    refine kw_istore_n C dX10_rival_17 rfl hN (Nat.le_of_ble_eq_true rfl) [(2, .int (-2 : Int32)), (0, .ref (g.1 0)), (1, .int p0)] rfl ?_
    refine kw_iconst C (0 : Int32) dX10_rival_18 rfl ?_
    refine kw_istore_n C dX10_rival_19 rfl hN (Nat.le_of_ble_eq_true rfl) [(3, .int (0 : Int32)), (2, .int (-2 : Int32)), (0, .ref (g.1 0)), (1, .int p0)] rfl ?_
    refine kw_sub [2, 3, 1, 0] _ rfl ?_
    refine lpx2_walk (P := fun (x5 : Int32) (x6 : Int32) => KW X σ1 20 [(0, .ref (g.1 0)), (1, .int p0), (2, .int x5), (3, .int x6)] []) ?_ FU _ _ hf
    intro self7 x5 x6 ih8 hf
    refine kw_iload_n C dX10_rival_20 rfl 3 rfl ?_
    refine kw_aload_n C dX10_rival_21 rfl 0 rfl ?_
    refine kw_get C inG10 _ (hO10 g σ1) rfl 12 (Nat.le_of_ble_eq_true rfl) mf_10_225 rfl rfl dX10_rival_22 ?_
    refine kw_icmp_ge C 73 dX10_rival_25 rfl (fun c9 => ?_) (fun c9 => ?_)
    · have hf := if_p c9 hf
      refine kw_iload_n C dX10_rival_73 rfl 2 rfl ?_
      exact kw_iret C K dX10_rival_74 hf
    · have hf := if_n c9 hf
      refine kw_iload_n C dX10_rival_28 rfl 3 rfl ?_
      refine kw_iload_n C dX10_rival_29 rfl 1 rfl ?_
      obtain ⟨J11, hJ11, hf⟩ := jnx1_elim hf
      have kJ11 : ∀ (x10 : Int32), J11 x10 = some (r0, σ0) → KW X σ1 66 [(0, .ref (g.1 0)), (1, .int p0), (3, .int x6)] [.int x10] := by
        clear hf
        intro x10 hf
        have hf := (hJ11 x10).symm.trans hf
        refine kw_istore_n C dX10_rival_66 rfl hN (Nat.le_of_ble_eq_true rfl) [(2, .int x10), (0, .ref (g.1 0)), (1, .int p0), (3, .int x6)] rfl ?_
        obtain ⟨x12, ex12, hf⟩ := lt_elim hf
        refine kw_iinc C x12 dX10_rival_67 3 rfl ex12.symm hN (Nat.le_of_ble_eq_true rfl) [(3, .int x12), (2, .int x10), (0, .ref (g.1 0)), (1, .int p0)] rfl ?_
        refine kw_goto C 20 dX10_rival_70 rfl ?_
        refine kw_sub [2, 3, 1, 0] _ rfl ?_
        exact ih8 _ _ hf
      obtain ⟨J13, hJ13, hf⟩ := jnx1_elim hf
      have kJ13 : ∀ (u9 : Unit), J13 u9 = some (r0, σ0) → KW X σ1 65 [(0, .ref (g.1 0)), (1, .int p0), (2, .int x5), (3, .int x6)] [] := by
        clear hf
        intro u9 hf
        have hf := (hJ13 u9).symm.trans hf
        refine kw_iload_n C dX10_rival_65 rfl 2 rfl ?_
        refine kw_sub [0, 1, 3] _ rfl ?_
        exact kJ11 _ hf
      refine kw_icmp_eq C 65 dX10_rival_30 rfl (fun c14 => ?_) (fun c14 => ?_)
      · have hf := if_p c14 hf
        exact kJ13 _ hf
      · have hf := if_n c14 hf
        refine kw_aload_n C dX10_rival_33 rfl 0 rfl ?_
        refine kw_get C inG10 _ (hO10 g σ1) rfl 49 (Nat.le_of_ble_eq_true rfl) mf_10_94 rfl rfl dX10_rival_34 ?_
        refine kw_iload_n C dX10_rival_37 rfl 3 rfl ?_
        obtain ⟨h15, hf⟩ := gd_elim hf
        refine kw_zald C _ 3 (hA10_49 g σ1) rfl h15 dX10_rival_38 ?_
        refine kw_if_eq C 65 dX10_rival_39 rfl (fun c16 => ?_) (fun c16 => ?_)
        · have hf := if_p c16 hf
          exact kJ13 _ hf
        · have hf := if_n c16 hf
          refine kw_iload_n C dX10_rival_42 rfl 2 rfl ?_
          obtain ⟨J17, hJ17, hf⟩ := jnx1_elim hf
          have kJ17 : ∀ (u9 : Unit), J17 u9 = some (r0, σ0) → KW X σ1 61 [(0, .ref (g.1 0)), (1, .int p0), (3, .int x6)] [] := by
            clear hf
            intro u9 hf
            have hf := (hJ17 u9).symm.trans hf
            refine kw_iload_n C dX10_rival_61 rfl 2 rfl ?_
            refine kw_goto C 66 dX10_rival_62 rfl ?_
            exact kJ11 _ hf
          refine kw_if_lt C 61 dX10_rival_43 rfl (fun c18 => ?_) (fun c18 => ?_)
          · have hf := if_p c18 hf
            refine kw_sub [0, 1, 3] _ rfl ?_
            exact kJ17 _ hf
          · have hf := if_n c18 hf
            refine kw_aload_n C dX10_rival_46 rfl 0 rfl ?_
            refine kw_get C inG10 _ (hO10 g σ1) rfl 46 (Nat.le_of_ble_eq_true rfl) mf_10_85 rfl rfl dX10_rival_47 ?_
            refine kw_iload_n C dX10_rival_50 rfl 3 rfl ?_
            obtain ⟨h19, hf⟩ := gd_elim hf
            refine kw_iald C _ 0 (hA10_46 g σ1) rfl h19 dX10_rival_51 ?_
            refine kw_aload_n C dX10_rival_52 rfl 0 rfl ?_
            refine kw_get C inG10 _ (hO10 g σ1) rfl 46 (Nat.le_of_ble_eq_true rfl) mf_10_85 rfl rfl dX10_rival_53 ?_
            refine kw_iload_n C dX10_rival_56 rfl 2 rfl ?_
            obtain ⟨h20, hf⟩ := gd_elim hf
            refine kw_iald C _ 0 (hA10_46 g σ1) rfl h20 dX10_rival_57 ?_
            refine kw_icmp_le C 65 dX10_rival_58 rfl (fun c21 => ?_) (fun c21 => ?_)
            · have hf := if_p c21 hf
              exact kJ13 _ hf
            · have hf := if_n c21 hf
              refine kw_sub [0, 1, 3] _ rfl ?_
              exact kJ17 _ hf
  · have hf := if_p c4 hf
    refine kw_iconst C (-1 : Int32) dX10_rival_13 rfl ?_
    exact kw_iret C K dX10_rival_14 hf
set_option maxRecDepth 100000 in
set_option maxHeartbeats 4000000 in
theorem kX10_left (L : Launch) (D : va_G) (g : GwT) (t0 : Nat) (p0 : Int32) (σ : St) (r0 : Int32) (σ0 : St) (hf : fX10_left σ p0 = some (r0, σ0)) : CtI L D (ttG g) (wM g) t0 yX10_left cX10_left 4 (some .int) { frames := 8, cells := 0, slots := 0, locals := 188 } [.ref (g.1 0), .int p0] σ r0 σ0 := by
  refine CtI.of (own := RX10) (by decide) rfl (Nat.le_of_ble_eq_true rfl) [(0, .ref (g.1 0)), (1, .int p0)] rfl ?_
  intro X C hN K
  unfold fX10_left at hf
  refine kw_aload_n C dX10_left_0 rfl 0 rfl ?_
  refine kw_iconst C (0 : Int32) dX10_left_1 rfl ?_
  obtain ⟨σ1, eσ1, hf⟩ := lt_elim hf
  refine kw_put C inG10 tyX10 tyX10_ok nmX10 _ (hO10 g σ) rfl 2 (Nat.le_of_ble_eq_true rfl) mf_10_151 rfl rfl (tyX10_ok 2 (Nat.le_of_ble_eq_true rfl)) rfl rfl (Nat.le_of_ble_eq_true rfl) ((hF10_2 g σ _).trans (congrArg (wM g) eσ1.symm)) dX10_left_2 ?_
  refine kw_iload_n C dX10_left_5 rfl 1 rfl ?_
  refine kw_iconst C (0 : Int32) dX10_left_6 rfl ?_
  refine kw_bipush C (99 : Int32) dX10_left_7 rfl ?_
  obtain ⟨r3, hc2, hf⟩ := bd_elim hf
  refine kw_callSI C [.int p0, .int (0 : Int32), .int (99 : Int32)] (kX10_isIn L D g t0 p0 (0 : Int32) (99 : Int32) σ1 _ hc2) mS_X10_196 ⟨rfl, rfl⟩ dd_X10_isIn ⟨Nat.le_of_ble_eq_true rfl, Nat.le_of_ble_eq_true rfl⟩ rfl (Nat.le_of_ble_eq_true rfl) dX10_left_9 ?_
  refine kw_if_ne C 17 dX10_left_12 rfl (fun c4 => ?_) (fun c4 => ?_)
  · have hf := if_n c4 hf
    refine kw_aload_n C dX10_left_17 rfl 0 rfl ?_
    obtain ⟨σ6, hc5, hf⟩ := bV_elim hf
    refine kw_callVV C [] (kX10_layTried L D g t0 σ1 _ hc5) RX10 mV_X10_453 ⟨rfl, rfl⟩ dd_X10_layTried ⟨Nat.le_of_ble_eq_true rfl, Nat.le_of_ble_eq_true rfl⟩ _ (hO10 g σ1) rfl rfl rfl (Nat.le_of_ble_eq_true rfl) dX10_left_18 ?_
    refine kw_aload_n C dX10_left_21 rfl 0 rfl ?_
    refine kw_iload_n C dX10_left_22 rfl 1 rfl ?_
    obtain ⟨σ8, hc7, hf⟩ := bV_elim hf
    refine kw_callVV C [.int p0] (kX10_goMany L D g t0 p0 σ6 _ hc7) RX10 mV_X10_456 ⟨rfl, rfl⟩ dd_X10_goMany ⟨Nat.le_of_ble_eq_true rfl, Nat.le_of_ble_eq_true rfl⟩ _ (hO10 g σ6) rfl rfl rfl (Nat.le_of_ble_eq_true rfl) dX10_left_23 ?_
    refine kw_iconst C (0 : Int32) dX10_left_26 rfl ?_
    refine kw_istore_n C dX10_left_27 rfl hN (Nat.le_of_ble_eq_true rfl) [(2, .int (0 : Int32)), (0, .ref (g.1 0)), (1, .int p0)] rfl ?_
    refine kw_iconst C (0 : Int32) dX10_left_28 rfl ?_
    refine kw_istore_n C dX10_left_29 rfl hN (Nat.le_of_ble_eq_true rfl) [(3, .int (0 : Int32)), (2, .int (0 : Int32)), (0, .ref (g.1 0)), (1, .int p0)] rfl ?_
    refine kw_sub [2, 1, 0] _ rfl ?_
    refine lpx2_walk (P := fun (x9 : Int32) (x10 : Int32) => KW X σ8 30 [(0, .ref (g.1 0)), (2, .int x9), (3, .int x10)] []) ?_ FU _ _ hf
    intro self11 x9 x10 ih12 hf
    refine kw_iload_n C dX10_left_30 rfl 2 rfl ?_
    refine kw_aload_n C dX10_left_31 rfl 0 rfl ?_
    refine kw_get C inG10 _ (hO10 g σ8) rfl 12 (Nat.le_of_ble_eq_true rfl) mf_10_225 rfl rfl dX10_left_32 ?_
    refine kw_icmp_ge C 63 dX10_left_35 rfl (fun c13 => ?_) (fun c13 => ?_)
    · have hf := if_p c13 hf
      refine kw_iload_n C dX10_left_63 rfl 1 rfl ?_
      exact kw_iret C K dX10_left_64 hf
    · have hf := if_n c13 hf
      refine kw_iload_n C dX10_left_38 rfl 1 rfl ?_
      refine kw_aload_n C dX10_left_39 rfl 0 rfl ?_
      refine kw_iconst C (1 : Int32) dX10_left_40 rfl ?_
      refine kw_iload_n C dX10_left_41 rfl 2 rfl ?_
      obtain ⟨r15, hc14, hf⟩ := bd_elim hf
      refine kw_callVI C [.int (1 : Int32), .int x10] (kX10_isOn L D g t0 (1 : Int32) x10 σ8 _ hc14) RX10 mV_X10_400 ⟨rfl, rfl⟩ dd_X10_isOn ⟨Nat.le_of_ble_eq_true rfl, Nat.le_of_ble_eq_true rfl⟩ _ (hO10 g σ8) rfl rfl rfl (Nat.le_of_ble_eq_true rfl) dX10_left_42 ?_
      obtain ⟨J17, hJ17, hf⟩ := jnx1_elim hf
      have kJ17 : ∀ (x16 : Int32), J17 x16 = some (r0, σ0) → KW X σ8 55 [(0, .ref (g.1 0)), (3, .int x10)] [.int x16, .int x9] := by
        clear hf
        intro x16 hf
        have hf := (hJ17 x16).symm.trans hf
        refine kw_ior C dX10_left_55 ?_
        obtain ⟨x18, ex18, hf⟩ := lt_elim hf
        refine kw_topi ex18 ?_
        refine kw_istore_n C dX10_left_56 rfl hN (Nat.le_of_ble_eq_true rfl) [(2, .int x18), (0, .ref (g.1 0)), (3, .int x10)] rfl ?_
        obtain ⟨x19, ex19, hf⟩ := lt_elim hf
        refine kw_iinc C x19 dX10_left_57 2 rfl ex19.symm hN (Nat.le_of_ble_eq_true rfl) [(3, .int x19), (2, .int x18), (0, .ref (g.1 0))] rfl ?_
        refine kw_goto C 30 dX10_left_60 rfl ?_
        refine kw_sub [2, 1, 0] _ rfl ?_
        exact ih12 _ _ hf
      refine kw_if_eq C 54 dX10_left_45 rfl (fun c20 => ?_) (fun c20 => ?_)
      · have hf := if_p c20 hf
        refine kw_iconst C (0 : Int32) dX10_left_54 rfl ?_
        refine kw_sub [0, 2] _ rfl ?_
        exact kJ17 _ hf
      · have hf := if_n c20 hf
        refine kw_iconst C (1 : Int32) dX10_left_48 rfl ?_
        refine kw_iload_n C dX10_left_49 rfl 2 rfl ?_
        refine kw_ishl C dX10_left_50 ?_
        refine kw_goto C 55 dX10_left_51 rfl ?_
        refine kw_sub [0, 2] _ rfl ?_
        exact kJ17 _ hf
  · have hf := if_p c4 hf
    refine kw_iconst C (-1 : Int32) dX10_left_15 rfl ?_
    exact kw_iret C K dX10_left_16 hf
set_option maxRecDepth 100000 in
set_option maxHeartbeats 4000000 in
theorem kX10_atMost (L : Launch) (D : va_G) (g : GwT) (t0 : Nat) (σ : St) (r0 : Int32) (σ0 : St) (hf : fX10_atMost σ  = some (r0, σ0)) : CtI L D (ttG g) (wM g) t0 yX10_atMost cX10_atMost 2 (some .int) { frames := 8, cells := 0, slots := 0, locals := 188 } [.ref (g.1 0)] σ r0 σ0 := by
  refine CtI.of (own := RX10) (by decide) rfl (Nat.le_of_ble_eq_true rfl) [(0, .ref (g.1 0))] rfl ?_
  intro X C hN K
  unfold fX10_atMost at hf
  refine kw_aload_n C dX10_atMost_0 rfl 0 rfl ?_
  refine kw_iconst C (0 : Int32) dX10_atMost_1 rfl ?_
  obtain ⟨σ1, eσ1, hf⟩ := lt_elim hf
  refine kw_put C inG10 tyX10 tyX10_ok nmX10 _ (hO10 g σ) rfl 2 (Nat.le_of_ble_eq_true rfl) mf_10_151 rfl rfl (tyX10_ok 2 (Nat.le_of_ble_eq_true rfl)) rfl rfl (Nat.le_of_ble_eq_true rfl) ((hF10_2 g σ _).trans (congrArg (wM g) eσ1.symm)) dX10_atMost_2 ?_
  refine kw_aload_n C dX10_atMost_5 rfl 0 rfl ?_
  obtain ⟨σ3, hc2, hf⟩ := bV_elim hf
  refine kw_callVV C [] (kX10_layTried L D g t0 σ1 _ hc2) RX10 mV_X10_453 ⟨rfl, rfl⟩ dd_X10_layTried ⟨Nat.le_of_ble_eq_true rfl, Nat.le_of_ble_eq_true rfl⟩ _ (hO10 g σ1) rfl rfl rfl (Nat.le_of_ble_eq_true rfl) dX10_atMost_6 ?_
  refine kw_aload_n C dX10_atMost_9 rfl 0 rfl ?_
  refine kw_iconst C (1 : Int32) dX10_atMost_10 rfl ?_
  obtain ⟨σ4, eσ4, hf⟩ := lt_elim hf
  refine kw_put C inG10 tyX10 tyX10_ok nmX10 _ (hO10 g σ3) rfl 62 (Nat.le_of_ble_eq_true rfl) mf_10_356 rfl rfl (tyX10_ok 62 (Nat.le_of_ble_eq_true rfl)) (narrow_bz (by decide)) (fits_bz (by decide)) (Nat.le_of_ble_eq_true rfl) ((hF10_62 g σ3 _).trans (congrArg (wM g) eσ4.symm)) dX10_atMost_11 ?_
  refine kw_aload_n C dX10_atMost_14 rfl 0 rfl ?_
  refine kw_sipush C (999 : Int32) dX10_atMost_15 rfl ?_
  obtain ⟨r6, σ7, hc5, hf⟩ := bI_elim hf
  refine kw_callVI C [.int (999 : Int32)] (kX10_fallsBy L D g t0 (999 : Int32) σ4 _ _ hc5) RX10 mV_X10_462 ⟨rfl, rfl⟩ dd_X10_fallsBy ⟨Nat.le_of_ble_eq_true rfl, Nat.le_of_ble_eq_true rfl⟩ _ (hO10 g σ4) rfl rfl rfl (Nat.le_of_ble_eq_true rfl) dX10_atMost_18 ?_
  refine kw_istore_n C dX10_atMost_21 rfl hN (Nat.le_of_ble_eq_true rfl) [(1, .int r6), (0, .ref (g.1 0))] rfl ?_
  refine kw_aload_n C dX10_atMost_22 rfl 1 rfl ?_
  obtain ⟨σ9, hc8, hf⟩ := bV_elim hf
  refine kw_callVV C [] (kX10_plainTried L D g t0 σ7 _ hc8) RX10 mV_X10_341 ⟨rfl, rfl⟩ dd_X10_plainTried ⟨Nat.le_of_ble_eq_true rfl, Nat.le_of_ble_eq_true rfl⟩ _ (hO10 g σ7) rfl rfl rfl (Nat.le_of_ble_eq_true rfl) dX10_atMost_23 ?_
  refine kw_iload_n C dX10_atMost_26 rfl 0 rfl ?_
  exact kw_iret C K dX10_atMost_27 hf
set_option maxRecDepth 100000 in
set_option maxHeartbeats 4000000 in
theorem kX10_noted (L : Launch) (D : va_G) (g : GwT) (t0 : Nat) (p0 : Int32) (p1 : Int32) (p2 : Int32) (σ : St) (r0 : Int32) (σ0 : St) (hf : fX10_noted σ p0 p1 p2 = some (r0, σ0)) : CtI L D (ttG g) (wM g) t0 yX10_noted cX10_noted 4 (some .int) { frames := 0, cells := 0, slots := 0, locals := 0 } [.ref (g.1 0), .int p0, .int p1, .int p2] σ r0 σ0 := by
  refine CtI.of (own := RX10) (by decide) rfl (Nat.le_of_ble_eq_true rfl) [(0, .ref (g.1 0)), (1, .int p0), (2, .int p1), (3, .int p2)] rfl ?_
  intro X C hN K
  unfold fX10_noted at hf
  refine kw_aload_n C dX10_noted_0 rfl 0 rfl ?_
  refine kw_get C inG10 _ (hO10 g σ) rfl 69 (Nat.le_of_ble_eq_true rfl) mf_10_130 rfl rfl dX10_noted_1 ?_
  refine kw_iconst C (3 : Int32) dX10_noted_4 rfl ?_
  refine kw_aload_n C dX10_noted_5 rfl 0 rfl ?_
  refine kw_get C inG10 _ (hO10 g σ) rfl 67 (Nat.le_of_ble_eq_true rfl) mf_10_344 rfl rfl dX10_noted_6 ?_
  refine kw_imul C dX10_noted_9 ?_
  refine kw_iload_n C dX10_noted_10 rfl 1 rfl ?_
  obtain ⟨h1, hf⟩ := gd_elim hf
  obtain ⟨σ2, eσ2, hf⟩ := lt_elim hf
  refine kw_iast C _ 0 (hA10_69 g σ) rfl h1 ((hS10_69 g σ _).trans (congrArg (wM g) eσ2.symm)) dX10_noted_11 ?_
  refine kw_aload_n C dX10_noted_12 rfl 0 rfl ?_
  refine kw_get C inG10 _ (hO10 g σ2) rfl 69 (Nat.le_of_ble_eq_true rfl) mf_10_130 rfl rfl dX10_noted_13 ?_
  refine kw_iconst C (3 : Int32) dX10_noted_16 rfl ?_
  refine kw_aload_n C dX10_noted_17 rfl 0 rfl ?_
  refine kw_get C inG10 _ (hO10 g σ2) rfl 67 (Nat.le_of_ble_eq_true rfl) mf_10_344 rfl rfl dX10_noted_18 ?_
  refine kw_imul C dX10_noted_21 ?_
  refine kw_iconst C (1 : Int32) dX10_noted_22 rfl ?_
  refine kw_iadd C dX10_noted_23 ?_
  refine kw_iload_n C dX10_noted_24 rfl 2 rfl ?_
  obtain ⟨h3, hf⟩ := gd_elim hf
  obtain ⟨σ4, eσ4, hf⟩ := lt_elim hf
  refine kw_iast C _ 0 (hA10_69 g σ2) rfl h3 ((hS10_69 g σ2 _).trans (congrArg (wM g) eσ4.symm)) dX10_noted_25 ?_
  refine kw_aload_n C dX10_noted_26 rfl 0 rfl ?_
  refine kw_get C inG10 _ (hO10 g σ4) rfl 69 (Nat.le_of_ble_eq_true rfl) mf_10_130 rfl rfl dX10_noted_27 ?_
  refine kw_iconst C (3 : Int32) dX10_noted_30 rfl ?_
  refine kw_aload_n C dX10_noted_31 rfl 0 rfl ?_
  refine kw_get C inG10 _ (hO10 g σ4) rfl 67 (Nat.le_of_ble_eq_true rfl) mf_10_344 rfl rfl dX10_noted_32 ?_
  refine kw_imul C dX10_noted_35 ?_
  refine kw_iconst C (2 : Int32) dX10_noted_36 rfl ?_
  refine kw_iadd C dX10_noted_37 ?_
  refine kw_iload_n C dX10_noted_38 rfl 3 rfl ?_
  obtain ⟨h5, hf⟩ := gd_elim hf
  obtain ⟨σ6, eσ6, hf⟩ := lt_elim hf
  refine kw_iast C _ 0 (hA10_69 g σ4) rfl h5 ((hS10_69 g σ4 _).trans (congrArg (wM g) eσ6.symm)) dX10_noted_39 ?_
  refine kw_aload_n C dX10_noted_40 rfl 0 rfl ?_
  refine kw_dup C dX10_noted_41 rfl ?_
  refine kw_get C inG10 _ (hO10 g σ6) rfl 67 (Nat.le_of_ble_eq_true rfl) mf_10_344 rfl rfl dX10_noted_42 ?_
  refine kw_iconst C (1 : Int32) dX10_noted_45 rfl ?_
  refine kw_iadd C dX10_noted_46 ?_
  obtain ⟨σ7, eσ7, hf⟩ := lt_elim hf
  refine kw_put C inG10 tyX10 tyX10_ok nmX10 _ (hO10 g σ6) rfl 67 (Nat.le_of_ble_eq_true rfl) mf_10_344 rfl rfl (tyX10_ok 67 (Nat.le_of_ble_eq_true rfl)) rfl rfl (Nat.le_of_ble_eq_true rfl) ((hF10_67 g σ6 _).trans (congrArg (wM g) eσ7.symm)) dX10_noted_47 ?_
  refine kw_aload_n C dX10_noted_50 rfl 0 rfl ?_
  refine kw_get C inG10 _ (hO10 g σ7) rfl 67 (Nat.le_of_ble_eq_true rfl) mf_10_344 rfl rfl dX10_noted_51 ?_
  refine kw_iconst C (1 : Int32) dX10_noted_54 rfl ?_
  refine kw_isub C dX10_noted_55 ?_
  exact kw_iret C K dX10_noted_56 hf
set_option maxRecDepth 100000 in
set_option maxHeartbeats 4000000 in
theorem kX10_see (L : Launch) (D : va_G) (g : GwT) (t0 : Nat) (p0 : Int32) (p1 : Int32) (p2 : Int32) (σ : St) (r0 : Int32) (σ0 : St) (hf : fX10_see σ p0 p1 p2 = some (r0, σ0)) : CtI L D (ttG g) (wM g) t0 yX10_see cX10_see 4 (some .int) { frames := 1, cells := 0, slots := 0, locals := 23 } [.ref (g.1 0), .int p0, .int p1, .int p2] σ r0 σ0 := by
  refine CtI.of (own := RX10) (by decide) rfl (Nat.le_of_ble_eq_true rfl) [(0, .ref (g.1 0)), (1, .int p0), (2, .int p1), (3, .int p2)] rfl ?_
  intro X C hN K
  unfold fX10_see at hf
  refine kw_aload_n C dX10_see_0 rfl 0 rfl ?_
  refine kw_iconst C (0 : Int32) dX10_see_1 rfl ?_
  obtain ⟨σ1, eσ1, hf⟩ := lt_elim hf
  refine kw_put C inG10 tyX10 tyX10_ok nmX10 _ (hO10 g σ) rfl 2 (Nat.le_of_ble_eq_true rfl) mf_10_151 rfl rfl (tyX10_ok 2 (Nat.le_of_ble_eq_true rfl)) rfl rfl (Nat.le_of_ble_eq_true rfl) ((hF10_2 g σ _).trans (congrArg (wM g) eσ1.symm)) dX10_see_2 ?_
  refine kw_aload_n C dX10_see_5 rfl 0 rfl ?_
  refine kw_get C inG10 _ (hO10 g σ1) rfl 67 (Nat.le_of_ble_eq_true rfl) mf_10_344 rfl rfl dX10_see_6 ?_
  refine kw_bipush C (24 : Int32) dX10_see_9 rfl ?_
  obtain ⟨J4, hJ4, hf⟩ := jnx2_elim hf
  have kJ4 : ∀ (x2 : Int32) (σ3 : St), J4 x2 σ3 = some (r0, σ0) → KW X σ3 54 [] [.int x2] := by
    clear hf
    intro x2 σ3 hf
    have hf := (hJ4 x2 σ3).symm.trans hf
    exact kw_iret C K dX10_see_54 hf
  obtain ⟨J5, hJ5, hf⟩ := jnx1_elim hf
  have kJ5 : ∀ (u9 : Unit), J5 u9 = some (r0, σ0) → KW X σ1 35 [] [] := by
    clear hf
    intro u9 hf
    have hf := (hJ5 u9).symm.trans hf
    refine kw_iconst C (-1 : Int32) dX10_see_35 rfl ?_
    refine kw_goto C 54 dX10_see_36 rfl ?_
    exact kJ4 _ _ hf
  refine kw_icmp_eq C 35 dX10_see_11 rfl (fun c6 => ?_) (fun c6 => ?_)
  · have hf := if_p c6 hf
    refine kw_sub [] _ rfl ?_
    exact kJ5 _ hf
  · have hf := if_n c6 hf
    refine kw_iload_n C dX10_see_14 rfl 1 rfl ?_
    refine kw_iconst C (1 : Int32) dX10_see_15 rfl ?_
    refine kw_bipush C (99 : Int32) dX10_see_16 rfl ?_
    obtain ⟨r8, hc7, hf⟩ := bd_elim hf
    refine kw_callSI C [.int p0, .int (1 : Int32), .int (99 : Int32)] (kX10_isIn L D g t0 p0 (1 : Int32) (99 : Int32) σ1 _ hc7) mS_X10_196 ⟨rfl, rfl⟩ dd_X10_isIn ⟨Nat.le_of_ble_eq_true rfl, Nat.le_of_ble_eq_true rfl⟩ rfl (Nat.le_of_ble_eq_true rfl) dX10_see_18 ?_
    refine kw_if_eq C 35 dX10_see_21 rfl (fun c9 => ?_) (fun c9 => ?_)
    · have hf := if_p c9 hf
      refine kw_sub [] _ rfl ?_
      exact kJ5 _ hf
    · have hf := if_n c9 hf
      refine kw_iload_n C dX10_see_24 rfl 2 rfl ?_
      refine kw_iconst C (0 : Int32) dX10_see_25 rfl ?_
      refine kw_sipush C (9999 : Int32) dX10_see_26 rfl ?_
      obtain ⟨r11, hc10, hf⟩ := bd_elim hf
      refine kw_callSI C [.int p1, .int (0 : Int32), .int (9999 : Int32)] (kX10_isIn L D g t0 p1 (0 : Int32) (9999 : Int32) σ1 _ hc10) mS_X10_196 ⟨rfl, rfl⟩ dd_X10_isIn ⟨Nat.le_of_ble_eq_true rfl, Nat.le_of_ble_eq_true rfl⟩ rfl (Nat.le_of_ble_eq_true rfl) dX10_see_29 ?_
      refine kw_if_ne C 39 dX10_see_32 rfl (fun c12 => ?_) (fun c12 => ?_)
      · have hf := if_n c12 hf
        refine kw_aload_n C dX10_see_39 rfl 0 rfl ?_
        refine kw_iload_n C dX10_see_40 rfl 1 rfl ?_
        refine kw_iload_n C dX10_see_41 rfl 2 rfl ?_
        refine kw_iload_n C dX10_see_42 rfl 3 rfl ?_
        obtain ⟨J14, hJ14, hf⟩ := jnx1_elim hf
        have kJ14 : ∀ (x13 : Int32), J14 x13 = some (r0, σ0) → KW X σ1 51 [] [.int x13, .int p1, .int p0, .ref (g.1 0)] := by
          clear hf
          intro x13 hf
          have hf := (hJ14 x13).symm.trans hf
          obtain ⟨r16, σ17, hc15, hf⟩ := bI_elim hf
          refine kw_callVI C [.int p0, .int p1, .int x13] (kX10_noted L D g t0 p0 p1 x13 σ1 _ _ hc15) RX10 mV_X10_487 ⟨rfl, rfl⟩ dd_X10_noted ⟨Nat.le_of_ble_eq_true rfl, Nat.le_of_ble_eq_true rfl⟩ _ (hO10 g σ1) rfl rfl rfl (Nat.le_of_ble_eq_true rfl) dX10_see_51 ?_
          exact kJ4 _ _ hf
        refine kw_if_eq C 50 dX10_see_43 rfl (fun c18 => ?_) (fun c18 => ?_)
        · have hf := if_p c18 hf
          refine kw_iconst C (0 : Int32) dX10_see_50 rfl ?_
          refine kw_sub [] _ rfl ?_
          exact kJ14 _ hf
        · have hf := if_n c18 hf
          refine kw_iconst C (1 : Int32) dX10_see_46 rfl ?_
          refine kw_goto C 51 dX10_see_47 rfl ?_
          refine kw_sub [] _ rfl ?_
          exact kJ14 _ hf
      · have hf := if_p c12 hf
        refine kw_sub [] _ rfl ?_
        exact kJ5 _ hf
set_option maxRecDepth 100000 in
set_option maxHeartbeats 4000000 in
theorem kX10_strike (L : Launch) (D : va_G) (g : GwT) (t0 : Nat) (p0 : Int32) (σ : St) (r0 : Int32) (σ0 : St) (hf : fX10_strike σ p0 = some (r0, σ0)) : CtI L D (ttG g) (wM g) t0 yX10_strike cX10_strike 2 (some .int) { frames := 1, cells := 0, slots := 0, locals := 23 } [.ref (g.1 0), .int p0] σ r0 σ0 := by
  refine CtI.of (own := RX10) (by decide) rfl (Nat.le_of_ble_eq_true rfl) [(0, .ref (g.1 0)), (1, .int p0)] rfl ?_
  intro X C hN K
  unfold fX10_strike at hf
  refine kw_aload_n C dX10_strike_0 rfl 0 rfl ?_
  refine kw_iconst C (0 : Int32) dX10_strike_1 rfl ?_
  obtain ⟨σ1, eσ1, hf⟩ := lt_elim hf
  refine kw_put C inG10 tyX10 tyX10_ok nmX10 _ (hO10 g σ) rfl 2 (Nat.le_of_ble_eq_true rfl) mf_10_151 rfl rfl (tyX10_ok 2 (Nat.le_of_ble_eq_true rfl)) rfl rfl (Nat.le_of_ble_eq_true rfl) ((hF10_2 g σ _).trans (congrArg (wM g) eσ1.symm)) dX10_strike_2 ?_
  refine kw_aload_n C dX10_strike_5 rfl 0 rfl ?_
  refine kw_get C inG10 _ (hO10 g σ1) rfl 67 (Nat.le_of_ble_eq_true rfl) mf_10_344 rfl rfl dX10_strike_6 ?_
  refine kw_bipush C (24 : Int32) dX10_strike_9 rfl ?_
  obtain ⟨J4, hJ4, hf⟩ := jnx2_elim hf
  have kJ4 : ∀ (x2 : Int32) (σ3 : St), J4 x2 σ3 = some (r0, σ0) → KW X σ3 37 [] [.int x2] := by
    clear hf
    intro x2 σ3 hf
    have hf := (hJ4 x2 σ3).symm.trans hf
    exact kw_iret C K dX10_strike_37 hf
  obtain ⟨J5, hJ5, hf⟩ := jnx1_elim hf
  have kJ5 : ∀ (u9 : Unit), J5 u9 = some (r0, σ0) → KW X σ1 26 [] [] := by
    clear hf
    intro u9 hf
    have hf := (hJ5 u9).symm.trans hf
    refine kw_iconst C (-1 : Int32) dX10_strike_26 rfl ?_
    refine kw_goto C 37 dX10_strike_27 rfl ?_
    exact kJ4 _ _ hf
  refine kw_icmp_eq C 26 dX10_strike_11 rfl (fun c6 => ?_) (fun c6 => ?_)
  · have hf := if_p c6 hf
    refine kw_sub [] _ rfl ?_
    exact kJ5 _ hf
  · have hf := if_n c6 hf
    refine kw_iload_n C dX10_strike_14 rfl 1 rfl ?_
    refine kw_if_lt C 26 dX10_strike_15 rfl (fun c7 => ?_) (fun c7 => ?_)
    · have hf := if_p c7 hf
      refine kw_sub [] _ rfl ?_
      exact kJ5 _ hf
    · have hf := if_n c7 hf
      refine kw_iload_n C dX10_strike_18 rfl 1 rfl ?_
      refine kw_aload_n C dX10_strike_19 rfl 0 rfl ?_
      refine kw_get C inG10 _ (hO10 g σ1) rfl 67 (Nat.le_of_ble_eq_true rfl) mf_10_344 rfl rfl dX10_strike_20 ?_
      refine kw_icmp_lt C 30 dX10_strike_23 rfl (fun c8 => ?_) (fun c8 => ?_)
      · have hf := if_p c8 hf
        refine kw_aload_n C dX10_strike_30 rfl 0 rfl ?_
        refine kw_iconst C (-1 : Int32) dX10_strike_31 rfl ?_
        refine kw_iload_n C dX10_strike_32 rfl 1 rfl ?_
        refine kw_iconst C (0 : Int32) dX10_strike_33 rfl ?_
        obtain ⟨r10, σ11, hc9, hf⟩ := bI_elim hf
        refine kw_callVI C [.int (-1 : Int32), .int p0, .int (0 : Int32)] (kX10_noted L D g t0 (-1 : Int32) p0 (0 : Int32) σ1 _ _ hc9) RX10 mV_X10_487 ⟨rfl, rfl⟩ dd_X10_noted ⟨Nat.le_of_ble_eq_true rfl, Nat.le_of_ble_eq_true rfl⟩ _ (hO10 g σ1) rfl rfl rfl (Nat.le_of_ble_eq_true rfl) dX10_strike_34 ?_
        refine kw_sub [] _ rfl ?_
        exact kJ4 _ _ hf
      · have hf := if_n c8 hf
        refine kw_sub [] _ rfl ?_
        exact kJ5 _ hf
set_option maxRecDepth 100000 in
set_option maxHeartbeats 4000000 in
theorem kX10_known (L : Launch) (D : va_G) (g : GwT) (t0 : Nat) (p0 : Int32) (σ : St) (r0 : Int32) (σ0 : St) (hf : fX10_known σ p0 = some (r0, σ0)) : CtI L D (ttG g) (wM g) t0 yX10_known cX10_known 2 (some .boolean) { frames := 1, cells := 0, slots := 0, locals := 22 } [.ref (g.1 0), .int p0] σ r0 σ0 := by
  refine CtI.of (own := RX10) (by decide) rfl (Nat.le_of_ble_eq_true rfl) [(0, .ref (g.1 0)), (1, .int p0)] rfl ?_
  intro X C hN K
  unfold fX10_known at hf
  refine kw_aload_n C dX10_known_0 rfl 0 rfl ?_
  refine kw_iconst C (0 : Int32) dX10_known_1 rfl ?_
  obtain ⟨σ1, eσ1, hf⟩ := lt_elim hf
  refine kw_put C inG10 tyX10 tyX10_ok nmX10 _ (hO10 g σ) rfl 2 (Nat.le_of_ble_eq_true rfl) mf_10_151 rfl rfl (tyX10_ok 2 (Nat.le_of_ble_eq_true rfl)) rfl rfl (Nat.le_of_ble_eq_true rfl) ((hF10_2 g σ _).trans (congrArg (wM g) eσ1.symm)) dX10_known_2 ?_
  refine kw_iload_n C dX10_known_5 rfl 1 rfl ?_
  refine kw_iconst C (-1 : Int32) dX10_known_6 rfl ?_
  refine kw_aload_n C dX10_known_7 rfl 0 rfl ?_
  refine kw_get C inG10 _ (hO10 g σ1) rfl 67 (Nat.le_of_ble_eq_true rfl) mf_10_344 rfl rfl dX10_known_8 ?_
  obtain ⟨r3, hc2, hf⟩ := bd_elim hf
  refine kw_callSI C [.int p0, .int (-1 : Int32), .int (gI σ1 0 67)] (kX10_isIn L D g t0 p0 (-1 : Int32) (gI σ1 0 67) σ1 _ hc2) mS_X10_196 ⟨rfl, rfl⟩ dd_X10_isIn ⟨Nat.le_of_ble_eq_true rfl, Nat.le_of_ble_eq_true rfl⟩ rfl (Nat.le_of_ble_eq_true rfl) dX10_known_11 ?_
  refine kw_if_ne C 19 dX10_known_14 rfl (fun c4 => ?_) (fun c4 => ?_)
  · have hf := if_n c4 hf
    refine kw_aload_n C dX10_known_19 rfl 0 rfl ?_
    refine kw_iload_n C dX10_known_20 rfl 1 rfl ?_
    obtain ⟨σ5, eσ5, hf⟩ := lt_elim hf
    refine kw_put C inG10 tyX10 tyX10_ok nmX10 _ (hO10 g σ1) rfl 68 (Nat.le_of_ble_eq_true rfl) mf_10_127 rfl rfl (tyX10_ok 68 (Nat.le_of_ble_eq_true rfl)) rfl rfl (Nat.le_of_ble_eq_true rfl) ((hF10_68 g σ1 _).trans (congrArg (wM g) eσ5.symm)) dX10_known_21 ?_
    refine kw_iconst C (1 : Int32) dX10_known_24 rfl ?_
    exact kw_zret C K (by decide) dX10_known_25 hf
  · have hf := if_p c4 hf
    refine kw_iconst C (0 : Int32) dX10_known_17 rfl ?_
    exact kw_zret C K (by decide) dX10_known_18 hf
set_option maxRecDepth 100000 in
set_option maxHeartbeats 4000000 in
theorem kX10_knownBy (L : Launch) (D : va_G) (g : GwT) (t0 : Nat) (σ : St) (r0 : Int32) (hf : fX10_knownBy σ  = some r0) : CtI L D (ttG g) (wM g) t0 yX10_knownBy cX10_knownBy 1 (some .int) { frames := 0, cells := 0, slots := 0, locals := 0 } [.ref (g.1 0)] σ r0 σ := by
  refine CtI.of (own := RX10) (by decide) rfl (Nat.le_of_ble_eq_true rfl) [(0, .ref (g.1 0))] rfl ?_
  intro X C hN K
  unfold fX10_knownBy at hf
  refine kw_aload_n C dX10_knownBy_0 rfl 0 rfl ?_
  refine kw_get C inG10 _ (hO10 g σ) rfl 68 (Nat.le_of_ble_eq_true rfl) mf_10_127 rfl rfl dX10_knownBy_1 ?_
  obtain ⟨J2, hJ2, hf⟩ := jnx1_elim hf
  have kJ2 : ∀ (x1 : Int32), J2 x1 = some r0 → KW X σ 18 [] [.int x1] := by
    clear hf
    intro x1 hf
    have hf := (hJ2 x1).symm.trans hf
    exact kw_iret C K dX10_knownBy_18 (pr_ret hf)
  refine kw_if_ge C 14 dX10_knownBy_4 rfl (fun c3 => ?_) (fun c3 => ?_)
  · have hf := if_p c3 hf
    refine kw_aload_n C dX10_knownBy_14 rfl 0 rfl ?_
    refine kw_get C inG10 _ (hO10 g σ) rfl 68 (Nat.le_of_ble_eq_true rfl) mf_10_127 rfl rfl dX10_knownBy_15 ?_
    refine kw_sub [] _ rfl ?_
    exact kJ2 _ hf
  · have hf := if_n c3 hf
    refine kw_aload_n C dX10_knownBy_7 rfl 0 rfl ?_
    refine kw_get C inG10 _ (hO10 g σ) rfl 67 (Nat.le_of_ble_eq_true rfl) mf_10_344 rfl rfl dX10_knownBy_8 ?_
    refine kw_goto C 18 dX10_knownBy_11 rfl ?_
    refine kw_sub [] _ rfl ?_
    exact kJ2 _ hf
set_option maxRecDepth 100000 in
set_option maxHeartbeats 4000000 in
theorem kX10_isSo (L : Launch) (D : va_G) (g : GwT) (t0 : Nat) (p0 : Int32) (σ : St) (r0 : Int32) (hf : fX10_isSo σ p0 = some r0) : CtI L D (ttG g) (wM g) t0 yX10_isSo cX10_isSo 3 (some .boolean) { frames := 1, cells := 0, slots := 0, locals := 20 } [.ref (g.1 0), .int p0] σ r0 σ := by
  refine CtI.of (own := RX10) (by decide) rfl (Nat.le_of_ble_eq_true rfl) [(0, .ref (g.1 0)), (1, .int p0)] rfl ?_
  intro X C hN K
  unfold fX10_isSo at hf
  refine kw_iconst C (0 : Int32) dX10_isSo_0 rfl ?_
  refine kw_istore_n C dX10_isSo_1 rfl hN (Nat.le_of_ble_eq_true rfl) [(2, .int (0 : Int32)), (0, .ref (g.1 0)), (1, .int p0)] rfl ?_
  refine kw_sub [1, 2, 0] _ rfl ?_
  refine lpx1_walk (P := fun (x1 : Int32) => KW X σ 2 [(0, .ref (g.1 0)), (1, .int p0), (2, .int x1)] []) ?_ FU _ hf
  intro self2 x1 ih3 hf
  refine kw_iload_n C dX10_isSo_2 rfl 2 rfl ?_
  refine kw_aload_n C dX10_isSo_3 rfl 0 rfl ?_
  obtain ⟨r5, hc4, hf⟩ := bd_elim hf
  refine kw_callVI C [] (kX10_knownBy L D g t0 σ _ hc4) RX10 mV_X10_490 ⟨rfl, rfl⟩ dd_X10_knownBy ⟨Nat.le_of_ble_eq_true rfl, Nat.le_of_ble_eq_true rfl⟩ _ (hO10 g σ) rfl rfl rfl (Nat.le_of_ble_eq_true rfl) dX10_isSo_4 ?_
  refine kw_icmp_ge C 88 dX10_isSo_7 rfl (fun c6 => ?_) (fun c6 => ?_)
  · have hf := if_p c6 hf
    refine kw_iconst C (1 : Int32) dX10_isSo_88 rfl ?_
    exact kw_zret C K (by decide) dX10_isSo_89 (pr_ret hf)
  · have hf := if_n c6 hf
    refine kw_aload_n C dX10_isSo_10 rfl 0 rfl ?_
    refine kw_get C inG10 _ (hO10 g σ) rfl 70 (Nat.le_of_ble_eq_true rfl) mf_10_133 rfl rfl dX10_isSo_11 ?_
    refine kw_iload_n C dX10_isSo_14 rfl 2 rfl ?_
    obtain ⟨h7, hf⟩ := gd_elim hf
    refine kw_zald C _ 3 (hA10_70 g σ) rfl h7 dX10_isSo_15 ?_
    obtain ⟨J8, hJ8, hf⟩ := jnx1_elim hf
    have kJ8 : ∀ (u9 : Unit), J8 u9 = some r0 → KW X σ 82 [(0, .ref (g.1 0)), (1, .int p0), (2, .int x1)] [] := by
      clear hf
      intro u9 hf
      have hf := (hJ8 u9).symm.trans hf
      obtain ⟨x9, ex9, hf⟩ := lt_elim hf
      refine kw_iinc C x9 dX10_isSo_82 2 rfl ex9.symm hN (Nat.le_of_ble_eq_true rfl) [(2, .int x9), (0, .ref (g.1 0)), (1, .int p0)] rfl ?_
      refine kw_goto C 2 dX10_isSo_85 rfl ?_
      refine kw_sub [1, 2, 0] _ rfl ?_
      exact ih3 _ hf
    refine kw_if_eq C 82 dX10_isSo_16 rfl (fun c10 => ?_) (fun c10 => ?_)
    · have hf := if_p c10 hf
      exact kJ8 _ hf
    · have hf := if_n c10 hf
      refine kw_aload_n C dX10_isSo_19 rfl 0 rfl ?_
      refine kw_get C inG10 _ (hO10 g σ) rfl 69 (Nat.le_of_ble_eq_true rfl) mf_10_130 rfl rfl dX10_isSo_20 ?_
      refine kw_iconst C (3 : Int32) dX10_isSo_23 rfl ?_
      refine kw_iload_n C dX10_isSo_24 rfl 2 rfl ?_
      refine kw_imul C dX10_isSo_25 ?_
      obtain ⟨h11, hf⟩ := gd_elim hf
      refine kw_iald C _ 0 (hA10_69 g σ) rfl h11 dX10_isSo_26 ?_
      refine kw_iload_n C dX10_isSo_27 rfl 1 rfl ?_
      refine kw_icmp_eq C 34 dX10_isSo_28 rfl (fun c12 => ?_) (fun c12 => ?_)
      · have hf := if_p c12 hf
        refine kw_aload_n C dX10_isSo_34 rfl 0 rfl ?_
        refine kw_get C inG10 _ (hO10 g σ) rfl 54 (Nat.le_of_ble_eq_true rfl) mf_10_109 rfl rfl dX10_isSo_35 ?_
        refine kw_iconst C (1 : Int32) dX10_isSo_38 rfl ?_
        refine kw_iald C _ 0 (hA10_54 g σ) rfl (by decide) dX10_isSo_39 ?_
        refine kw_aload_n C dX10_isSo_40 rfl 0 rfl ?_
        refine kw_get C inG10 _ (hO10 g σ) rfl 69 (Nat.le_of_ble_eq_true rfl) mf_10_130 rfl rfl dX10_isSo_41 ?_
        refine kw_iconst C (3 : Int32) dX10_isSo_44 rfl ?_
        refine kw_iload_n C dX10_isSo_45 rfl 2 rfl ?_
        refine kw_imul C dX10_isSo_46 ?_
        refine kw_iconst C (1 : Int32) dX10_isSo_47 rfl ?_
        refine kw_iadd C dX10_isSo_48 ?_
        obtain ⟨h13, hf⟩ := gd_elim hf
        refine kw_iald C _ 0 (hA10_69 g σ) rfl h13 dX10_isSo_49 ?_
        obtain ⟨J15, hJ15, hf⟩ := jnx1_elim hf
        have kJ15 : ∀ (x14 : Int32), J15 x14 = some r0 → KW X σ 58 [(0, .ref (g.1 0)), (1, .int p0), (2, .int x1)] [.int x14] := by
          clear hf
          intro x14 hf
          have hf := (hJ15 x14).symm.trans hf
          refine kw_aload_n C dX10_isSo_58 rfl 0 rfl ?_
          refine kw_get C inG10 _ (hO10 g σ) rfl 69 (Nat.le_of_ble_eq_true rfl) mf_10_130 rfl rfl dX10_isSo_59 ?_
          refine kw_iconst C (3 : Int32) dX10_isSo_62 rfl ?_
          refine kw_iload_n C dX10_isSo_63 rfl 2 rfl ?_
          refine kw_imul C dX10_isSo_64 ?_
          refine kw_iconst C (2 : Int32) dX10_isSo_65 rfl ?_
          refine kw_iadd C dX10_isSo_66 ?_
          obtain ⟨h16, hf⟩ := gd_elim hf
          refine kw_iald C _ 0 (hA10_69 g σ) rfl h16 dX10_isSo_67 ?_
          refine kw_iconst C (1 : Int32) dX10_isSo_68 rfl ?_
          obtain ⟨J18, hJ18, hf⟩ := jnx1_elim hf
          have kJ18 : ∀ (x17 : Int32), J18 x17 = some r0 → KW X σ 77 [(0, .ref (g.1 0)), (1, .int p0), (2, .int x1)] [.int x17, .int x14] := by
            clear hf
            intro x17 hf
            have hf := (hJ18 x17).symm.trans hf
            refine kw_icmp_eq C 82 dX10_isSo_77 rfl (fun c19 => ?_) (fun c19 => ?_)
            · have hf := if_p c19 hf
              exact kJ8 _ hf
            · have hf := if_n c19 hf
              refine kw_iconst C (0 : Int32) dX10_isSo_80 rfl ?_
              exact kw_zret C K (by decide) dX10_isSo_81 (pr_ret hf)
          refine kw_icmp_ne C 76 dX10_isSo_69 rfl (fun c20 => ?_) (fun c20 => ?_)
          · have hf := if_n c20 hf
            refine kw_iconst C (0 : Int32) dX10_isSo_76 rfl ?_
            exact kJ18 _ hf
          · have hf := if_p c20 hf
            refine kw_iconst C (1 : Int32) dX10_isSo_72 rfl ?_
            refine kw_goto C 77 dX10_isSo_73 rfl ?_
            exact kJ18 _ hf
        refine kw_icmp_lt C 57 dX10_isSo_50 rfl (fun c21 => ?_) (fun c21 => ?_)
        · have hf := if_p c21 hf
          refine kw_iconst C (0 : Int32) dX10_isSo_57 rfl ?_
          exact kJ15 _ hf
        · have hf := if_n c21 hf
          refine kw_iconst C (1 : Int32) dX10_isSo_53 rfl ?_
          refine kw_goto C 58 dX10_isSo_54 rfl ?_
          exact kJ15 _ hf
      · have hf := if_n c12 hf
        refine kw_goto C 82 dX10_isSo_31 rfl ?_
        exact kJ8 _ hf
