set_option maxRecDepth 100000 in
set_option maxHeartbeats 4000000 in
theorem kX10_raises (L : Launch) (D : va_G) (g : GwT) (t0 : Nat) (p0 : Int32) (p1 : Int32) (σ : St) (σ0 : St) (hf : fX10_raises σ p0 p1 = some σ0) : CtV L D (ttG g) (wM g) t0 yX10_raises cX10_raises 3 none { frames := 1, cells := 0, slots := 0, locals := 21 } [.ref (g.1 0), .int p0, .int p1] σ σ0 := by
  refine CtV.of (own := RX10) (by decide) rfl (Nat.le_of_ble_eq_true rfl) [(0, .ref (g.1 0)), (1, .int p0), (2, .int p1)] rfl ?_
  intro X C hN K
  unfold fX10_raises at hf
  refine kw_aload_n C dX10_raises_0 rfl 0 rfl ?_
  refine kw_get C inG10 _ (hO10 g σ) rfl 54 (Nat.le_of_ble_eq_true rfl) mf_10_109 rfl rfl dX10_raises_1 ?_
  refine kw_iload_n C dX10_raises_4 rfl 1 rfl ?_
  refine kw_dup2 C dX10_raises_5 rfl rfl ?_
  obtain ⟨h1, hf⟩ := gd_elim hf
  refine kw_iald C _ 0 (hA10_54 g σ) rfl h1 dX10_raises_6 ?_
  refine kw_aload_n C dX10_raises_7 rfl 0 rfl ?_
  refine kw_iload_n C dX10_raises_8 rfl 2 rfl ?_
  obtain ⟨r3, hc2, hf⟩ := bd_elim hf
  refine kw_callVI C [.int p1] (kX10_stepOf L D g t0 p1 σ _ hc2) RX10 mV_X10_403 ⟨rfl, rfl⟩ dd_X10_stepOf ⟨Nat.le_of_ble_eq_true rfl, Nat.le_of_ble_eq_true rfl⟩ _ (hO10 g σ) rfl rfl rfl (Nat.le_of_ble_eq_true rfl) dX10_raises_9 ?_
  refine kw_iadd C dX10_raises_12 ?_
  obtain ⟨h4, hf⟩ := gd_elim hf
  obtain ⟨σ5, eσ5, hf⟩ := lt_elim hf
  refine kw_iast C _ 0 (hA10_54 g σ) rfl h4 ((hS10_54 g σ _).trans (congrArg (wM g) eσ5.symm)) dX10_raises_13 ?_
  refine kw_aload_n C dX10_raises_14 rfl 0 rfl ?_
  refine kw_get C inG10 _ (hO10 g σ5) rfl 55 (Nat.le_of_ble_eq_true rfl) mf_10_112 rfl rfl dX10_raises_15 ?_
  refine kw_iload_n C dX10_raises_18 rfl 1 rfl ?_
  refine kw_iload_n C dX10_raises_19 rfl 2 rfl ?_
  obtain ⟨h6, hf⟩ := gd_elim hf
  obtain ⟨σ7, eσ7, hf⟩ := lt_elim hf
  refine kw_iast C _ 0 (hA10_55 g σ5) rfl h6 ((hS10_55 g σ5 _).trans (congrArg (wM g) eσ7.symm)) dX10_raises_20 ?_
  refine kw_aload_n C dX10_raises_21 rfl 0 rfl ?_
  refine kw_get C inG10 _ (hO10 g σ7) rfl 56 (Nat.le_of_ble_eq_true rfl) mf_10_115 rfl rfl dX10_raises_22 ?_
  refine kw_iload_n C dX10_raises_25 rfl 1 rfl ?_
  refine kw_iconst C (0 : Int32) dX10_raises_26 rfl ?_
  obtain ⟨h8, hf⟩ := gd_elim hf
  obtain ⟨σ9, eσ9, hf⟩ := lt_elim hf
  refine kw_iast C _ 0 (hA10_56 g σ7) rfl h8 ((hS10_56 g σ7 _).trans (congrArg (wM g) eσ9.symm)) dX10_raises_27 ?_
  refine kw_aload_n C dX10_raises_28 rfl 0 rfl ?_
  refine kw_get C inG10 _ (hO10 g σ9) rfl 50 (Nat.le_of_ble_eq_true rfl) mf_10_97 rfl rfl dX10_raises_29 ?_
  refine kw_bipush C (6 : Int32) dX10_raises_32 rfl ?_
  refine kw_iload_n C dX10_raises_34 rfl 1 rfl ?_
  refine kw_imul C dX10_raises_35 ?_
  refine kw_iload_n C dX10_raises_36 rfl 2 rfl ?_
  refine kw_iadd C dX10_raises_37 ?_
  refine kw_dup2 C dX10_raises_38 rfl rfl ?_
  obtain ⟨h10, hf⟩ := gd_elim hf
  refine kw_iald C _ 0 (hA10_50 g σ9) rfl h10 dX10_raises_39 ?_
  refine kw_iconst C (1 : Int32) dX10_raises_40 rfl ?_
  refine kw_iadd C dX10_raises_41 ?_
  obtain ⟨h11, hf⟩ := gd_elim hf
  obtain ⟨σ12, eσ12, hf⟩ := lt_elim hf
  refine kw_iast C _ 0 (hA10_50 g σ9) rfl h11 ((hS10_50 g σ9 _).trans (congrArg (wM g) eσ12.symm)) dX10_raises_42 ?_
  refine kw_aload_n C dX10_raises_43 rfl 0 rfl ?_
  refine kw_get C inG10 _ (hO10 g σ12) rfl 51 (Nat.le_of_ble_eq_true rfl) mf_10_100 rfl rfl dX10_raises_44 ?_
  refine kw_bipush C (6 : Int32) dX10_raises_47 rfl ?_
  refine kw_iload_n C dX10_raises_49 rfl 1 rfl ?_
  refine kw_imul C dX10_raises_50 ?_
  refine kw_iload_n C dX10_raises_51 rfl 2 rfl ?_
  refine kw_iadd C dX10_raises_52 ?_
  refine kw_aload_n C dX10_raises_53 rfl 0 rfl ?_
  refine kw_get C inG10 _ (hO10 g σ12) rfl 54 (Nat.le_of_ble_eq_true rfl) mf_10_109 rfl rfl dX10_raises_54 ?_
  refine kw_iload_n C dX10_raises_57 rfl 1 rfl ?_
  obtain ⟨h13, hf⟩ := gd_elim hf
  refine kw_iald C _ 0 (hA10_54 g σ12) rfl h13 dX10_raises_58 ?_
  obtain ⟨h14, hf⟩ := gd_elim hf
  obtain ⟨σ15, eσ15, hf⟩ := lt_elim hf
  refine kw_iast C _ 0 (hA10_51 g σ12) rfl h14 ((hS10_51 g σ12 _).trans (congrArg (wM g) eσ15.symm)) dX10_raises_59 ?_
  refine kw_aload_n C dX10_raises_60 rfl 0 rfl ?_
  refine kw_iload_n C dX10_raises_61 rfl 2 rfl ?_
  obtain ⟨σ16, eσ16, hf⟩ := lt_elim hf
  refine kw_put C inG10 tyX10 tyX10_ok nmX10 _ (hO10 g σ15) rfl 66 (Nat.le_of_ble_eq_true rfl) mf_10_412 rfl rfl (tyX10_ok 66 (Nat.le_of_ble_eq_true rfl)) rfl rfl (Nat.le_of_ble_eq_true rfl) ((hF10_66 g σ15 _).trans (congrArg (wM g) eσ16.symm)) dX10_raises_62 ?_
  exact kw_vret (u9 := ()) C K dX10_raises_65 hf
set_option maxRecDepth 100000 in
set_option maxHeartbeats 4000000 in
theorem kX10_nod (L : Launch) (D : va_G) (g : GwT) (t0 : Nat) (p0 : Int32) (σ : St) (r0 : Int32) (σ0 : St) (hf : fX10_nod σ p0 = some (r0, σ0)) : CtI L D (ttG g) (wM g) t0 yX10_nod cX10_nod 2 (some .int) { frames := 2, cells := 0, slots := 0, locals := 44 } [.ref (g.1 0), .int p0] σ r0 σ0 := by
  refine CtI.of (own := RX10) (by decide) rfl (Nat.le_of_ble_eq_true rfl) [(0, .ref (g.1 0)), (1, .int p0)] rfl ?_
  intro X C hN K
  unfold fX10_nod at hf
  refine kw_aload_n C dX10_nod_0 rfl 0 rfl ?_
  refine kw_iconst C (0 : Int32) dX10_nod_1 rfl ?_
  obtain ⟨σ1, eσ1, hf⟩ := lt_elim hf
  refine kw_put C inG10 tyX10 tyX10_ok nmX10 _ (hO10 g σ) rfl 2 (Nat.le_of_ble_eq_true rfl) mf_10_151 rfl rfl (tyX10_ok 2 (Nat.le_of_ble_eq_true rfl)) rfl rfl (Nat.le_of_ble_eq_true rfl) ((hF10_2 g σ _).trans (congrArg (wM g) eσ1.symm)) dX10_nod_2 ?_
  refine kw_aload_n C dX10_nod_5 rfl 0 rfl ?_
  refine kw_iload_n C dX10_nod_6 rfl 1 rfl ?_
  obtain ⟨r3, hc2, hf⟩ := bd_elim hf
  refine kw_callVI C [.int p0] (kX10_isHouse L D g t0 p0 σ1 _ hc2) RX10 mV_X10_368 ⟨rfl, rfl⟩ dd_X10_isHouse ⟨Nat.le_of_ble_eq_true rfl, Nat.le_of_ble_eq_true rfl⟩ _ (hO10 g σ1) rfl rfl rfl (Nat.le_of_ble_eq_true rfl) dX10_nod_7 ?_
  refine kw_if_ne C 15 dX10_nod_10 rfl (fun c4 => ?_) (fun c4 => ?_)
  · have hf := if_n c4 hf
    refine kw_aload_n C dX10_nod_15 rfl 0 rfl ?_
    obtain ⟨σ6, hc5, hf⟩ := bV_elim hf
    refine kw_callVV C [] (kX10_plainTried L D g t0 σ1 _ hc5) RX10 mV_X10_341 ⟨rfl, rfl⟩ dd_X10_plainTried ⟨Nat.le_of_ble_eq_true rfl, Nat.le_of_ble_eq_true rfl⟩ _ (hO10 g σ1) rfl rfl rfl (Nat.le_of_ble_eq_true rfl) dX10_nod_16 ?_
    refine kw_aload_n C dX10_nod_19 rfl 0 rfl ?_
    refine kw_get C inG10 _ (hO10 g σ6) rfl 57 (Nat.le_of_ble_eq_true rfl) mf_10_118 rfl rfl dX10_nod_20 ?_
    refine kw_iconst C (0 : Int32) dX10_nod_23 rfl ?_
    refine kw_zald C _ 3 (hA10_57 g σ6) rfl (by decide) dX10_nod_24 ?_
    obtain ⟨J7, hJ7, hf⟩ := jnx1_elim hf
    have kJ7 : ∀ (u9 : Unit), J7 u9 = some (r0, σ0) → KW X σ6 46 [] [] := by
      clear hf
      intro u9 hf
      have hf := (hJ7 u9).symm.trans hf
      refine kw_bipush C (-2 : Int32) dX10_nod_46 rfl ?_
      exact kw_iret C K dX10_nod_48 hf
    refine kw_if_ne C 46 dX10_nod_25 rfl (fun c8 => ?_) (fun c8 => ?_)
    · have hf := if_n c8 hf
      refine kw_sub [] _ rfl ?_
      exact kJ7 _ hf
    · have hf := if_p c8 hf
      refine kw_aload_n C dX10_nod_28 rfl 0 rfl ?_
      refine kw_get C inG10 _ (hO10 g σ6) rfl 49 (Nat.le_of_ble_eq_true rfl) mf_10_94 rfl rfl dX10_nod_29 ?_
      refine kw_iload_n C dX10_nod_32 rfl 1 rfl ?_
      obtain ⟨h9, hf⟩ := gd_elim hf
      refine kw_zald C _ 3 (hA10_49 g σ6) rfl h9 dX10_nod_33 ?_
      refine kw_if_eq C 46 dX10_nod_34 rfl (fun c10 => ?_) (fun c10 => ?_)
      · have hf := if_p c10 hf
        refine kw_sub [] _ rfl ?_
        exact kJ7 _ hf
      · have hf := if_n c10 hf
        refine kw_aload_n C dX10_nod_37 rfl 0 rfl ?_
        refine kw_iconst C (0 : Int32) dX10_nod_38 rfl ?_
        refine kw_iload_n C dX10_nod_39 rfl 1 rfl ?_
        obtain ⟨r12, hc11, hf⟩ := bd_elim hf
        refine kw_callVI C [.int (0 : Int32), .int p0] (kX10_mayRaise L D g t0 (0 : Int32) p0 σ6 _ hc11) RX10 mV_X10_409 ⟨rfl, rfl⟩ dd_X10_mayRaise ⟨Nat.le_of_ble_eq_true rfl, Nat.le_of_ble_eq_true rfl⟩ _ (hO10 g σ6) rfl rfl rfl (Nat.le_of_ble_eq_true rfl) dX10_nod_40 ?_
        refine kw_if_ne C 49 dX10_nod_43 rfl (fun c13 => ?_) (fun c13 => ?_)
        · have hf := if_n c13 hf
          refine kw_aload_n C dX10_nod_49 rfl 0 rfl ?_
          obtain ⟨σ15, hc14, hf⟩ := bV_elim hf
          refine kw_callVV C [] (kX10_remember L D g t0 σ6 _ hc14) RX10 mV_X10_441 ⟨rfl, rfl⟩ dd_X10_remember ⟨Nat.le_of_ble_eq_true rfl, Nat.le_of_ble_eq_true rfl⟩ _ (hO10 g σ6) rfl rfl rfl (Nat.le_of_ble_eq_true rfl) dX10_nod_50 ?_
          refine kw_aload_n C dX10_nod_53 rfl 0 rfl ?_
          refine kw_iconst C (0 : Int32) dX10_nod_54 rfl ?_
          refine kw_iload_n C dX10_nod_55 rfl 1 rfl ?_
          obtain ⟨σ17, hc16, hf⟩ := bV_elim hf
          refine kw_callVV C [.int (0 : Int32), .int p0] (kX10_raises L D g t0 (0 : Int32) p0 σ15 _ hc16) RX10 mV_X10_427 ⟨rfl, rfl⟩ dd_X10_raises ⟨Nat.le_of_ble_eq_true rfl, Nat.le_of_ble_eq_true rfl⟩ _ (hO10 g σ15) rfl rfl rfl (Nat.le_of_ble_eq_true rfl) dX10_nod_56 ?_
          refine kw_aload_n C dX10_nod_59 rfl 0 rfl ?_
          refine kw_get C inG10 _ (hO10 g σ17) rfl 54 (Nat.le_of_ble_eq_true rfl) mf_10_109 rfl rfl dX10_nod_60 ?_
          refine kw_iconst C (0 : Int32) dX10_nod_63 rfl ?_
          refine kw_iald C _ 0 (hA10_54 g σ17) rfl (by decide) dX10_nod_64 ?_
          exact kw_iret C K dX10_nod_65 hf
        · have hf := if_p c13 hf
          refine kw_sub [] _ rfl ?_
          exact kJ7 _ hf
  · have hf := if_p c4 hf
    refine kw_iconst C (-1 : Int32) dX10_nod_13 rfl ?_
    exact kw_iret C K dX10_nod_14 hf
set_option maxRecDepth 100000 in
set_option maxHeartbeats 4000000 in
theorem kX10_isOnNow (L : Launch) (D : va_G) (g : GwT) (t0 : Nat) (p0 : Int32) (σ : St) (r0 : Int32) (hf : fX10_isOnNow σ p0 = some r0) : CtI L D (ttG g) (wM g) t0 yX10_isOnNow cX10_isOnNow 2 (some .boolean) { frames := 1, cells := 0, slots := 0, locals := 21 } [.ref (g.1 0), .int p0] σ r0 σ := by
  refine CtI.of (own := RX10) (by decide) rfl (Nat.le_of_ble_eq_true rfl) [(0, .ref (g.1 0)), (1, .int p0)] rfl ?_
  intro X C hN K
  unfold fX10_isOnNow at hf
  refine kw_aload_n C dX10_isOnNow_0 rfl 0 rfl ?_
  refine kw_iload_n C dX10_isOnNow_1 rfl 1 rfl ?_
  obtain ⟨r2, hc1, hf⟩ := bd_elim hf
  refine kw_callVI C [.int p0] (kX10_isHouse L D g t0 p0 σ _ hc1) RX10 mV_X10_368 ⟨rfl, rfl⟩ dd_X10_isHouse ⟨Nat.le_of_ble_eq_true rfl, Nat.le_of_ble_eq_true rfl⟩ _ (hO10 g σ) rfl rfl rfl (Nat.le_of_ble_eq_true rfl) dX10_isOnNow_2 ?_
  obtain ⟨J4, hJ4, hf⟩ := jnx1_elim hf
  have kJ4 : ∀ (x3 : Int32), J4 x3 = some r0 → KW X σ 22 [] [.int x3] := by
    clear hf
    intro x3 hf
    have hf := (hJ4 x3).symm.trans hf
    obtain ⟨h5, hf⟩ := gd_elim hf
    exact kw_zret C K h5 dX10_isOnNow_22 (pr_ret hf)
  obtain ⟨J6, hJ6, hf⟩ := jnx1_elim hf
  have kJ6 : ∀ (u9 : Unit), J6 u9 = some r0 → KW X σ 21 [] [] := by
    clear hf
    intro u9 hf
    have hf := (hJ6 u9).symm.trans hf
    refine kw_iconst C (0 : Int32) dX10_isOnNow_21 rfl ?_
    exact kJ4 _ hf
  refine kw_if_eq C 21 dX10_isOnNow_5 rfl (fun c7 => ?_) (fun c7 => ?_)
  · have hf := if_p c7 hf
    refine kw_sub [] _ rfl ?_
    exact kJ6 _ hf
  · have hf := if_n c7 hf
    refine kw_aload_n C dX10_isOnNow_8 rfl 0 rfl ?_
    refine kw_get C inG10 _ (hO10 g σ) rfl 49 (Nat.le_of_ble_eq_true rfl) mf_10_94 rfl rfl dX10_isOnNow_9 ?_
    refine kw_iload_n C dX10_isOnNow_12 rfl 1 rfl ?_
    obtain ⟨h8, hf⟩ := gd_elim hf
    refine kw_zald C _ 3 (hA10_49 g σ) rfl h8 dX10_isOnNow_13 ?_
    refine kw_if_eq C 21 dX10_isOnNow_14 rfl (fun c9 => ?_) (fun c9 => ?_)
    · have hf := if_p c9 hf
      refine kw_sub [] _ rfl ?_
      exact kJ6 _ hf
    · have hf := if_n c9 hf
      refine kw_iconst C (1 : Int32) dX10_isOnNow_17 rfl ?_
      refine kw_goto C 22 dX10_isOnNow_18 rfl ?_
      refine kw_sub [] _ rfl ?_
      exact kJ4 _ hf
set_option maxRecDepth 100000 in
set_option maxHeartbeats 4000000 in
theorem kX10_areTwo (L : Launch) (D : va_G) (g : GwT) (t0 : Nat) (p0 : Int32) (p1 : Int32) (σ : St) (r0 : Int32) (hf : fX10_areTwo σ p0 p1 = some r0) : CtI L D (ttG g) (wM g) t0 yX10_areTwo cX10_areTwo 3 (some .boolean) { frames := 2, cells := 0, slots := 0, locals := 42 } [.ref (g.1 0), .int p0, .int p1] σ r0 σ := by
  refine CtI.of (own := RX10) (by decide) rfl (Nat.le_of_ble_eq_true rfl) [(0, .ref (g.1 0)), (1, .int p0), (2, .int p1)] rfl ?_
  intro X C hN K
  unfold fX10_areTwo at hf
  refine kw_aload_n C dX10_areTwo_0 rfl 0 rfl ?_
  refine kw_iload_n C dX10_areTwo_1 rfl 1 rfl ?_
  obtain ⟨r2, hc1, hf⟩ := bd_elim hf
  refine kw_callVI C [.int p0] (kX10_isOnNow L D g t0 p0 σ _ hc1) RX10 mV_X10_444 ⟨rfl, rfl⟩ dd_X10_isOnNow ⟨Nat.le_of_ble_eq_true rfl, Nat.le_of_ble_eq_true rfl⟩ _ (hO10 g σ) rfl rfl rfl (Nat.le_of_ble_eq_true rfl) dX10_areTwo_2 ?_
  obtain ⟨J4, hJ4, hf⟩ := jnx1_elim hf
  have kJ4 : ∀ (x3 : Int32), J4 x3 = some r0 → KW X σ 26 [] [.int x3] := by
    clear hf
    intro x3 hf
    have hf := (hJ4 x3).symm.trans hf
    obtain ⟨h5, hf⟩ := gd_elim hf
    exact kw_zret C K h5 dX10_areTwo_26 (pr_ret hf)
  obtain ⟨J6, hJ6, hf⟩ := jnx1_elim hf
  have kJ6 : ∀ (u9 : Unit), J6 u9 = some r0 → KW X σ 25 [] [] := by
    clear hf
    intro u9 hf
    have hf := (hJ6 u9).symm.trans hf
    refine kw_iconst C (0 : Int32) dX10_areTwo_25 rfl ?_
    exact kJ4 _ hf
  refine kw_if_eq C 25 dX10_areTwo_5 rfl (fun c7 => ?_) (fun c7 => ?_)
  · have hf := if_p c7 hf
    refine kw_sub [] _ rfl ?_
    exact kJ6 _ hf
  · have hf := if_n c7 hf
    refine kw_aload_n C dX10_areTwo_8 rfl 0 rfl ?_
    refine kw_iload_n C dX10_areTwo_9 rfl 2 rfl ?_
    obtain ⟨r9, hc8, hf⟩ := bd_elim hf
    refine kw_callVI C [.int p1] (kX10_isOnNow L D g t0 p1 σ _ hc8) RX10 mV_X10_444 ⟨rfl, rfl⟩ dd_X10_isOnNow ⟨Nat.le_of_ble_eq_true rfl, Nat.le_of_ble_eq_true rfl⟩ _ (hO10 g σ) rfl rfl rfl (Nat.le_of_ble_eq_true rfl) dX10_areTwo_10 ?_
    refine kw_if_eq C 25 dX10_areTwo_13 rfl (fun c10 => ?_) (fun c10 => ?_)
    · have hf := if_p c10 hf
      refine kw_sub [] _ rfl ?_
      exact kJ6 _ hf
    · have hf := if_n c10 hf
      refine kw_iload_n C dX10_areTwo_16 rfl 1 rfl ?_
      refine kw_iload_n C dX10_areTwo_17 rfl 2 rfl ?_
      refine kw_icmp_eq C 25 dX10_areTwo_18 rfl (fun c11 => ?_) (fun c11 => ?_)
      · have hf := if_p c11 hf
        refine kw_sub [] _ rfl ?_
        exact kJ6 _ hf
      · have hf := if_n c11 hf
        refine kw_iconst C (1 : Int32) dX10_areTwo_21 rfl ?_
        refine kw_goto C 26 dX10_areTwo_22 rfl ?_
        refine kw_sub [] _ rfl ?_
        exact kJ4 _ hf
set_option maxRecDepth 100000 in
set_option maxHeartbeats 4000000 in
theorem kX10_marries (L : Launch) (D : va_G) (g : GwT) (t0 : Nat) (p0 : Int32) (p1 : Int32) (p2 : Int32) (σ : St) (σ0 : St) (hf : fX10_marries σ p0 p1 p2 = some σ0) : CtV L D (ttG g) (wM g) t0 yX10_marries cX10_marries 6 none { frames := 0, cells := 0, slots := 0, locals := 0 } [.ref (g.1 0), .int p0, .int p1, .int p2] σ σ0 := by
  refine CtV.of (own := RX10) (by decide) rfl (Nat.le_of_ble_eq_true rfl) [(0, .ref (g.1 0)), (1, .int p0), (2, .int p1), (3, .int p2)] rfl ?_
  intro X C hN K
  unfold fX10_marries at hf
  refine kw_bipush C (6 : Int32) dX10_marries_0 rfl ?_
  refine kw_iload_n C dX10_marries_2 rfl 1 rfl ?_
  refine kw_imul C dX10_marries_3 ?_
  refine kw_iload_n C dX10_marries_4 rfl 2 rfl ?_
  refine kw_iadd C dX10_marries_5 ?_
  obtain ⟨x1, ex1, hf⟩ := lt_elim hf
  refine kw_topi ex1 ?_
  refine kw_istore C dX10_marries_6 hN (Nat.le_of_ble_eq_true rfl) [(4, .int x1), (0, .ref (g.1 0)), (1, .int p0), (2, .int p1), (3, .int p2)] rfl ?_
  refine kw_bipush C (6 : Int32) dX10_marries_8 rfl ?_
  refine kw_iload_n C dX10_marries_10 rfl 2 rfl ?_
  refine kw_imul C dX10_marries_11 ?_
  refine kw_iload_n C dX10_marries_12 rfl 4 rfl ?_
  refine kw_iadd C dX10_marries_13 ?_
  obtain ⟨x2, ex2, hf⟩ := lt_elim hf
  refine kw_topi ex2 ?_
  refine kw_istore C dX10_marries_14 hN (Nat.le_of_ble_eq_true rfl) [(5, .int x2), (4, .int x1), (0, .ref (g.1 0)), (1, .int p0), (2, .int p1), (3, .int p2)] rfl ?_
  refine kw_aload_n C dX10_marries_16 rfl 2 rfl ?_
  refine kw_get C inG10 _ (hO10 g σ) rfl 46 (Nat.le_of_ble_eq_true rfl) mf_10_85 rfl rfl dX10_marries_17 ?_
  refine kw_iload C dX10_marries_20 1 rfl ?_
  refine kw_aload_n C dX10_marries_22 rfl 2 rfl ?_
  refine kw_get C inG10 _ (hO10 g σ) rfl 46 (Nat.le_of_ble_eq_true rfl) mf_10_85 rfl rfl dX10_marries_23 ?_
  refine kw_iload C dX10_marries_26 1 rfl ?_
  obtain ⟨h3, hf⟩ := gd_elim hf
  refine kw_iald C _ 0 (hA10_46 g σ) rfl h3 dX10_marries_28 ?_
  refine kw_aload_n C dX10_marries_29 rfl 2 rfl ?_
  refine kw_get C inG10 _ (hO10 g σ) rfl 46 (Nat.le_of_ble_eq_true rfl) mf_10_85 rfl rfl dX10_marries_30 ?_
  refine kw_iload C dX10_marries_33 0 rfl ?_
  obtain ⟨h4, hf⟩ := gd_elim hf
  refine kw_iald C _ 0 (hA10_46 g σ) rfl h4 dX10_marries_35 ?_
  refine kw_iadd C dX10_marries_36 ?_
  refine kw_sipush C (9999 : Int32) dX10_marries_37 rfl ?_
  obtain ⟨J6, hJ6, hf⟩ := jnx1_elim hf
  have kJ6 : ∀ (x5 : Int32), J6 x5 = some σ0 → KW X σ 64 [(0, .ref (g.1 0)), (1, .int p0), (2, .int p1), (3, .int p2), (4, .int x1), (5, .int x2)] [.int x5, .int x1, .ref (g.2.1 0 46)] := by
    clear hf
    intro x5 hf
    have hf := (hJ6 x5).symm.trans hf
    obtain ⟨h7, hf⟩ := gd_elim hf
    obtain ⟨σ8, eσ8, hf⟩ := lt_elim hf
    refine kw_iast C _ 0 (hA10_46 g σ) rfl h7 ((hS10_46 g σ _).trans (congrArg (wM g) eσ8.symm)) dX10_marries_64 ?_
    refine kw_aload_n C dX10_marries_65 rfl 0 rfl ?_
    refine kw_get C inG10 _ (hO10 g σ8) rfl 48 (Nat.le_of_ble_eq_true rfl) mf_10_91 rfl rfl dX10_marries_66 ?_
    refine kw_iload C dX10_marries_69 4 rfl ?_
    refine kw_aload_n C dX10_marries_71 rfl 0 rfl ?_
    refine kw_get C inG10 _ (hO10 g σ8) rfl 48 (Nat.le_of_ble_eq_true rfl) mf_10_91 rfl rfl dX10_marries_72 ?_
    refine kw_iload C dX10_marries_75 4 rfl ?_
    obtain ⟨h9, hf⟩ := gd_elim hf
    refine kw_iald C _ 0 (hA10_48 g σ8) rfl h9 dX10_marries_77 ?_
    refine kw_aload_n C dX10_marries_78 rfl 0 rfl ?_
    refine kw_get C inG10 _ (hO10 g σ8) rfl 48 (Nat.le_of_ble_eq_true rfl) mf_10_91 rfl rfl dX10_marries_79 ?_
    refine kw_iload C dX10_marries_82 5 rfl ?_
    obtain ⟨h10, hf⟩ := gd_elim hf
    refine kw_iald C _ 0 (hA10_48 g σ8) rfl h10 dX10_marries_84 ?_
    refine kw_iadd C dX10_marries_85 ?_
    refine kw_bipush C (9 : Int32) dX10_marries_86 rfl ?_
    obtain ⟨J12, hJ12, hf⟩ := jnx1_elim hf
    have kJ12 : ∀ (x11 : Int32), J12 x11 = some σ0 → KW X σ8 111 [(0, .ref (g.1 0)), (1, .int p0), (2, .int p1), (3, .int p2), (5, .int x2)] [.int x11, .int x1, .ref (g.2.1 0 48)] := by
      clear hf
      intro x11 hf
      have hf := (hJ12 x11).symm.trans hf
      obtain ⟨h13, hf⟩ := gd_elim hf
      obtain ⟨σ14, eσ14, hf⟩ := lt_elim hf
      refine kw_iast C _ 0 (hA10_48 g σ8) rfl h13 ((hS10_48 g σ8 _).trans (congrArg (wM g) eσ14.symm)) dX10_marries_111 ?_
      refine kw_aload_n C dX10_marries_112 rfl 0 rfl ?_
      refine kw_get C inG10 _ (hO10 g σ14) rfl 49 (Nat.le_of_ble_eq_true rfl) mf_10_94 rfl rfl dX10_marries_113 ?_
      refine kw_iload C dX10_marries_116 4 rfl ?_
      refine kw_iconst C (0 : Int32) dX10_marries_118 rfl ?_
      obtain ⟨h15, hf⟩ := gd_elim hf
      obtain ⟨σ16, eσ16, hf⟩ := lt_elim hf
      refine kw_zast C _ 3 (hA10_49 g σ14) rfl h15 ((hS10_49 g σ14 _).trans (congrArg (wM g) eσ16.symm)) dX10_marries_119 ?_
      refine kw_aload_n C dX10_marries_120 rfl 0 rfl ?_
      refine kw_get C inG10 _ (hO10 g σ16) rfl 55 (Nat.le_of_ble_eq_true rfl) mf_10_112 rfl rfl dX10_marries_121 ?_
      refine kw_iload_n C dX10_marries_124 rfl 1 rfl ?_
      refine kw_aload_n C dX10_marries_125 rfl 0 rfl ?_
      refine kw_get C inG10 _ (hO10 g σ16) rfl 55 (Nat.le_of_ble_eq_true rfl) mf_10_112 rfl rfl dX10_marries_126 ?_
      refine kw_iload_n C dX10_marries_129 rfl 1 rfl ?_
      obtain ⟨h17, hf⟩ := gd_elim hf
      refine kw_iald C _ 0 (hA10_55 g σ16) rfl h17 dX10_marries_130 ?_
      refine kw_iload_n C dX10_marries_131 rfl 3 rfl ?_
      obtain ⟨J19, hJ19, hf⟩ := jnx1_elim hf
      have kJ19 : ∀ (x18 : Int32), J19 x18 = some σ0 → KW X σ16 145 [] [.int x18, .int p0, .ref (g.2.1 0 55)] := by
        clear hf
        intro x18 hf
        have hf := (hJ19 x18).symm.trans hf
        obtain ⟨h20, hf⟩ := gd_elim hf
        obtain ⟨σ21, eσ21, hf⟩ := lt_elim hf
        refine kw_iast C _ 0 (hA10_55 g σ16) rfl h20 ((hS10_55 g σ16 _).trans (congrArg (wM g) eσ21.symm)) dX10_marries_145 ?_
        exact kw_vret (u9 := ()) C K dX10_marries_146 hf
      refine kw_icmp_ne C 139 dX10_marries_132 rfl (fun c22 => ?_) (fun c22 => ?_)
      · have hf := if_n c22 hf
        refine kw_aload_n C dX10_marries_139 rfl 0 rfl ?_
        refine kw_get C inG10 _ (hO10 g σ16) rfl 55 (Nat.le_of_ble_eq_true rfl) mf_10_112 rfl rfl dX10_marries_140 ?_
        refine kw_iload_n C dX10_marries_143 rfl 1 rfl ?_
        obtain ⟨h23, hf⟩ := gd_elim hf
        refine kw_iald C _ 0 (hA10_55 g σ16) rfl h23 dX10_marries_144 ?_
        refine kw_sub [] _ rfl ?_
        exact kJ19 _ hf
      · have hf := if_p c22 hf
        refine kw_iload_n C dX10_marries_135 rfl 2 rfl ?_
        refine kw_goto C 145 dX10_marries_136 rfl ?_
        refine kw_sub [] _ rfl ?_
        exact kJ19 _ hf
    refine kw_icmp_le C 96 dX10_marries_88 rfl (fun c24 => ?_) (fun c24 => ?_)
    · have hf := if_p c24 hf
      refine kw_aload_n C dX10_marries_96 rfl 0 rfl ?_
      refine kw_get C inG10 _ (hO10 g σ8) rfl 48 (Nat.le_of_ble_eq_true rfl) mf_10_91 rfl rfl dX10_marries_97 ?_
      refine kw_iload C dX10_marries_100 4 rfl ?_
      obtain ⟨h25, hf⟩ := gd_elim hf
      refine kw_iald C _ 0 (hA10_48 g σ8) rfl h25 dX10_marries_102 ?_
      refine kw_aload_n C dX10_marries_103 rfl 0 rfl ?_
      refine kw_get C inG10 _ (hO10 g σ8) rfl 48 (Nat.le_of_ble_eq_true rfl) mf_10_91 rfl rfl dX10_marries_104 ?_
      refine kw_iload C dX10_marries_107 5 rfl ?_
      obtain ⟨h26, hf⟩ := gd_elim hf
      refine kw_iald C _ 0 (hA10_48 g σ8) rfl h26 dX10_marries_109 ?_
      refine kw_iadd C dX10_marries_110 ?_
      refine kw_sub [0, 1, 2, 3, 5] _ rfl ?_
      exact kJ12 _ hf
    · have hf := if_n c24 hf
      refine kw_bipush C (9 : Int32) dX10_marries_91 rfl ?_
      refine kw_goto C 111 dX10_marries_93 rfl ?_
      refine kw_sub [0, 1, 2, 3, 5] _ rfl ?_
      exact kJ12 _ hf
  refine kw_icmp_le C 49 dX10_marries_40 rfl (fun c27 => ?_) (fun c27 => ?_)
  · have hf := if_p c27 hf
    refine kw_aload_n C dX10_marries_49 rfl 2 rfl ?_
    refine kw_get C inG10 _ (hO10 g σ) rfl 46 (Nat.le_of_ble_eq_true rfl) mf_10_85 rfl rfl dX10_marries_50 ?_
    refine kw_iload C dX10_marries_53 1 rfl ?_
    obtain ⟨h28, hf⟩ := gd_elim hf
    refine kw_iald C _ 0 (hA10_46 g σ) rfl h28 dX10_marries_55 ?_
    refine kw_aload_n C dX10_marries_56 rfl 2 rfl ?_
    refine kw_get C inG10 _ (hO10 g σ) rfl 46 (Nat.le_of_ble_eq_true rfl) mf_10_85 rfl rfl dX10_marries_57 ?_
    refine kw_iload C dX10_marries_60 0 rfl ?_
    obtain ⟨h29, hf⟩ := gd_elim hf
    refine kw_iald C _ 0 (hA10_46 g σ) rfl h29 dX10_marries_62 ?_
    refine kw_iadd C dX10_marries_63 ?_
    refine kw_sub [2, 3, 4, 5, 1, 0] _ rfl ?_
    exact kJ6 _ hf
  · have hf := if_n c27 hf
    refine kw_sipush C (9999 : Int32) dX10_marries_43 rfl ?_
    refine kw_goto C 64 dX10_marries_46 rfl ?_
    refine kw_sub [2, 3, 4, 5, 1, 0] _ rfl ?_
    exact kJ6 _ hf
set_option maxRecDepth 100000 in
set_option maxHeartbeats 4000000 in
theorem kX10_marry (L : Launch) (D : va_G) (g : GwT) (t0 : Nat) (p0 : Int32) (p1 : Int32) (σ : St) (r0 : Int32) (σ0 : St) (hf : fX10_marry σ p0 p1 = some (r0, σ0)) : CtI L D (ttG g) (wM g) t0 yX10_marry cX10_marry 3 (some .boolean) { frames := 3, cells := 0, slots := 0, locals := 64 } [.ref (g.1 0), .int p0, .int p1] σ r0 σ0 := by
  refine CtI.of (own := RX10) (by decide) rfl (Nat.le_of_ble_eq_true rfl) [(0, .ref (g.1 0)), (1, .int p0), (2, .int p1)] rfl ?_
  intro X C hN K
  unfold fX10_marry at hf
  refine kw_aload_n C dX10_marry_0 rfl 0 rfl ?_
  refine kw_iconst C (0 : Int32) dX10_marry_1 rfl ?_
  obtain ⟨σ1, eσ1, hf⟩ := lt_elim hf
  refine kw_put C inG10 tyX10 tyX10_ok nmX10 _ (hO10 g σ) rfl 2 (Nat.le_of_ble_eq_true rfl) mf_10_151 rfl rfl (tyX10_ok 2 (Nat.le_of_ble_eq_true rfl)) rfl rfl (Nat.le_of_ble_eq_true rfl) ((hF10_2 g σ _).trans (congrArg (wM g) eσ1.symm)) dX10_marry_2 ?_
  refine kw_aload_n C dX10_marry_5 rfl 0 rfl ?_
  refine kw_iload_n C dX10_marry_6 rfl 1 rfl ?_
  refine kw_iload_n C dX10_marry_7 rfl 2 rfl ?_
  obtain ⟨r3, hc2, hf⟩ := bd_elim hf
  refine kw_callVI C [.int p0, .int p1] (kX10_areTwo L D g t0 p0 p1 σ1 _ hc2) RX10 mV_X10_447 ⟨rfl, rfl⟩ dd_X10_areTwo ⟨Nat.le_of_ble_eq_true rfl, Nat.le_of_ble_eq_true rfl⟩ _ (hO10 g σ1) rfl rfl rfl (Nat.le_of_ble_eq_true rfl) dX10_marry_8 ?_
  refine kw_if_ne C 16 dX10_marry_11 rfl (fun c4 => ?_) (fun c4 => ?_)
  · have hf := if_n c4 hf
    refine kw_aload_n C dX10_marry_16 rfl 0 rfl ?_
    obtain ⟨σ6, hc5, hf⟩ := bV_elim hf
    refine kw_callVV C [] (kX10_remember L D g t0 σ1 _ hc5) RX10 mV_X10_441 ⟨rfl, rfl⟩ dd_X10_remember ⟨Nat.le_of_ble_eq_true rfl, Nat.le_of_ble_eq_true rfl⟩ _ (hO10 g σ1) rfl rfl rfl (Nat.le_of_ble_eq_true rfl) dX10_marry_17 ?_
    refine kw_aload_n C dX10_marry_20 rfl 0 rfl ?_
    refine kw_iconst C (0 : Int32) dX10_marry_21 rfl ?_
    refine kw_iload_n C dX10_marry_22 rfl 1 rfl ?_
    refine kw_iload_n C dX10_marry_23 rfl 2 rfl ?_
    obtain ⟨σ8, hc7, hf⟩ := bV_elim hf
    refine kw_callVV C [.int (0 : Int32), .int p0, .int p1] (kX10_marries L D g t0 (0 : Int32) p0 p1 σ6 _ hc7) RX10 mV_X10_450 ⟨rfl, rfl⟩ dd_X10_marries ⟨Nat.le_of_ble_eq_true rfl, Nat.le_of_ble_eq_true rfl⟩ _ (hO10 g σ6) rfl rfl rfl (Nat.le_of_ble_eq_true rfl) dX10_marry_24 ?_
    refine kw_iconst C (1 : Int32) dX10_marry_27 rfl ?_
    exact kw_zret C K (by decide) dX10_marry_28 hf
  · have hf := if_p c4 hf
    refine kw_iconst C (0 : Int32) dX10_marry_14 rfl ?_
    exact kw_zret C K (by decide) dX10_marry_15 hf
set_option maxRecDepth 100000 in
set_option maxHeartbeats 4000000 in
theorem kX10_will (L : Launch) (D : va_G) (g : GwT) (t0 : Nat) (p0 : Int32) (p1 : Int32) (σ : St) (r0 : Int32) (σ0 : St) (hf : fX10_will σ p0 p1 = some (r0, σ0)) : CtI L D (ttG g) (wM g) t0 yX10_will cX10_will 3 (some .boolean) { frames := 2, cells := 0, slots := 0, locals := 44 } [.ref (g.1 0), .int p0, .int p1] σ r0 σ0 := by
  refine CtI.of (own := RX10) (by decide) rfl (Nat.le_of_ble_eq_true rfl) [(0, .ref (g.1 0)), (1, .int p0), (2, .int p1)] rfl ?_
  intro X C hN K
  unfold fX10_will at hf
  refine kw_aload_n C dX10_will_0 rfl 0 rfl ?_
  refine kw_iconst C (0 : Int32) dX10_will_1 rfl ?_
  obtain ⟨σ1, eσ1, hf⟩ := lt_elim hf
  refine kw_put C inG10 tyX10 tyX10_ok nmX10 _ (hO10 g σ) rfl 2 (Nat.le_of_ble_eq_true rfl) mf_10_151 rfl rfl (tyX10_ok 2 (Nat.le_of_ble_eq_true rfl)) rfl rfl (Nat.le_of_ble_eq_true rfl) ((hF10_2 g σ _).trans (congrArg (wM g) eσ1.symm)) dX10_will_2 ?_
  refine kw_aload_n C dX10_will_5 rfl 0 rfl ?_
  refine kw_iload_n C dX10_will_6 rfl 1 rfl ?_
  obtain ⟨r3, hc2, hf⟩ := bd_elim hf
  refine kw_callVI C [.int p0] (kX10_isOnNow L D g t0 p0 σ1 _ hc2) RX10 mV_X10_444 ⟨rfl, rfl⟩ dd_X10_isOnNow ⟨Nat.le_of_ble_eq_true rfl, Nat.le_of_ble_eq_true rfl⟩ _ (hO10 g σ1) rfl rfl rfl (Nat.le_of_ble_eq_true rfl) dX10_will_7 ?_
  obtain ⟨J4, hJ4, hf⟩ := jnx1_elim hf
  have kJ4 : ∀ (u9 : Unit), J4 u9 = some (r0, σ0) → KW X σ1 34 [] [] := by
    clear hf
    intro u9 hf
    have hf := (hJ4 u9).symm.trans hf
    refine kw_iconst C (0 : Int32) dX10_will_34 rfl ?_
    exact kw_zret C K (by decide) dX10_will_35 hf
  refine kw_if_eq C 34 dX10_will_10 rfl (fun c5 => ?_) (fun c5 => ?_)
  · have hf := if_p c5 hf
    refine kw_sub [] _ rfl ?_
    exact kJ4 _ hf
  · have hf := if_n c5 hf
    refine kw_iload_n C dX10_will_13 rfl 2 rfl ?_
    refine kw_iconst C (0 : Int32) dX10_will_14 rfl ?_
    refine kw_sipush C (9999 : Int32) dX10_will_15 rfl ?_
    obtain ⟨r7, hc6, hf⟩ := bd_elim hf
    refine kw_callSI C [.int p1, .int (0 : Int32), .int (9999 : Int32)] (kX10_isIn L D g t0 p1 (0 : Int32) (9999 : Int32) σ1 _ hc6) mS_X10_196 ⟨rfl, rfl⟩ dd_X10_isIn ⟨Nat.le_of_ble_eq_true rfl, Nat.le_of_ble_eq_true rfl⟩ rfl (Nat.le_of_ble_eq_true rfl) dX10_will_18 ?_
    refine kw_if_eq C 34 dX10_will_21 rfl (fun c8 => ?_) (fun c8 => ?_)
    · have hf := if_p c8 hf
      refine kw_sub [] _ rfl ?_
      exact kJ4 _ hf
    · have hf := if_n c8 hf
      refine kw_aload_n C dX10_will_24 rfl 0 rfl ?_
      refine kw_get C inG10 _ (hO10 g σ1) rfl 46 (Nat.le_of_ble_eq_true rfl) mf_10_85 rfl rfl dX10_will_25 ?_
      refine kw_iload_n C dX10_will_28 rfl 1 rfl ?_
      obtain ⟨h9, hf⟩ := gd_elim hf
      refine kw_iald C _ 0 (hA10_46 g σ1) rfl h9 dX10_will_29 ?_
      refine kw_iload_n C dX10_will_30 rfl 2 rfl ?_
      refine kw_icmp_ne C 36 dX10_will_31 rfl (fun c10 => ?_) (fun c10 => ?_)
      · have hf := if_n c10 hf
        refine kw_aload_n C dX10_will_36 rfl 0 rfl ?_
        obtain ⟨σ12, hc11, hf⟩ := bV_elim hf
        refine kw_callVV C [] (kX10_remember L D g t0 σ1 _ hc11) RX10 mV_X10_441 ⟨rfl, rfl⟩ dd_X10_remember ⟨Nat.le_of_ble_eq_true rfl, Nat.le_of_ble_eq_true rfl⟩ _ (hO10 g σ1) rfl rfl rfl (Nat.le_of_ble_eq_true rfl) dX10_will_37 ?_
        refine kw_aload_n C dX10_will_40 rfl 0 rfl ?_
        refine kw_get C inG10 _ (hO10 g σ12) rfl 46 (Nat.le_of_ble_eq_true rfl) mf_10_85 rfl rfl dX10_will_41 ?_
        refine kw_iload_n C dX10_will_44 rfl 1 rfl ?_
        refine kw_iload_n C dX10_will_45 rfl 2 rfl ?_
        obtain ⟨h13, hf⟩ := gd_elim hf
        obtain ⟨σ14, eσ14, hf⟩ := lt_elim hf
        refine kw_iast C _ 0 (hA10_46 g σ12) rfl h13 ((hS10_46 g σ12 _).trans (congrArg (wM g) eσ14.symm)) dX10_will_46 ?_
        refine kw_iconst C (1 : Int32) dX10_will_47 rfl ?_
        exact kw_zret C K (by decide) dX10_will_48 hf
      · have hf := if_p c10 hf
        refine kw_sub [] _ rfl ?_
        exact kJ4 _ hf
set_option maxRecDepth 100000 in
set_option maxHeartbeats 4000000 in
theorem kX10_child (L : Launch) (D : va_G) (g : GwT) (t0 : Nat) (p0 : Int32) (σ : St) (r0 : Int32) (σ0 : St) (hf : fX10_child σ p0 = some (r0, σ0)) : CtI L D (ttG g) (wM g) t0 yX10_child cX10_child 2 (some .int) { frames := 2, cells := 0, slots := 0, locals := 44 } [.ref (g.1 0), .int p0] σ r0 σ0 := by
  refine CtI.of (own := RX10) (by decide) rfl (Nat.le_of_ble_eq_true rfl) [(0, .ref (g.1 0)), (1, .int p0)] rfl ?_
  intro X C hN K
  unfold fX10_child at hf
  refine kw_aload_n C dX10_child_0 rfl 0 rfl ?_
  refine kw_iconst C (0 : Int32) dX10_child_1 rfl ?_
  obtain ⟨σ1, eσ1, hf⟩ := lt_elim hf
  refine kw_put C inG10 tyX10 tyX10_ok nmX10 _ (hO10 g σ) rfl 2 (Nat.le_of_ble_eq_true rfl) mf_10_151 rfl rfl (tyX10_ok 2 (Nat.le_of_ble_eq_true rfl)) rfl rfl (Nat.le_of_ble_eq_true rfl) ((hF10_2 g σ _).trans (congrArg (wM g) eσ1.symm)) dX10_child_2 ?_
  refine kw_aload_n C dX10_child_5 rfl 0 rfl ?_
  refine kw_iload_n C dX10_child_6 rfl 1 rfl ?_
  obtain ⟨r3, hc2, hf⟩ := bd_elim hf
  refine kw_callVI C [.int p0] (kX10_isOnNow L D g t0 p0 σ1 _ hc2) RX10 mV_X10_444 ⟨rfl, rfl⟩ dd_X10_isOnNow ⟨Nat.le_of_ble_eq_true rfl, Nat.le_of_ble_eq_true rfl⟩ _ (hO10 g σ1) rfl rfl rfl (Nat.le_of_ble_eq_true rfl) dX10_child_7 ?_
  obtain ⟨J4, hJ4, hf⟩ := jnx1_elim hf
  have kJ4 : ∀ (u9 : Unit), J4 u9 = some (r0, σ0) → KW X σ1 24 [] [] := by
    clear hf
    intro u9 hf
    have hf := (hJ4 u9).symm.trans hf
    refine kw_iconst C (-1 : Int32) dX10_child_24 rfl ?_
    exact kw_iret C K dX10_child_25 hf
  refine kw_if_eq C 24 dX10_child_10 rfl (fun c5 => ?_) (fun c5 => ?_)
  · have hf := if_p c5 hf
    refine kw_sub [] _ rfl ?_
    exact kJ4 _ hf
  · have hf := if_n c5 hf
    refine kw_aload_n C dX10_child_13 rfl 0 rfl ?_
    refine kw_get C inG10 _ (hO10 g σ1) rfl 48 (Nat.le_of_ble_eq_true rfl) mf_10_91 rfl rfl dX10_child_14 ?_
    refine kw_iload_n C dX10_child_17 rfl 1 rfl ?_
    obtain ⟨h6, hf⟩ := gd_elim hf
    refine kw_iald C _ 0 (hA10_48 g σ1) rfl h6 dX10_child_18 ?_
    refine kw_bipush C (9 : Int32) dX10_child_19 rfl ?_
    refine kw_icmp_ne C 26 dX10_child_21 rfl (fun c7 => ?_) (fun c7 => ?_)
    · have hf := if_n c7 hf
      refine kw_aload_n C dX10_child_26 rfl 0 rfl ?_
      obtain ⟨σ9, hc8, hf⟩ := bV_elim hf
      refine kw_callVV C [] (kX10_remember L D g t0 σ1 _ hc8) RX10 mV_X10_441 ⟨rfl, rfl⟩ dd_X10_remember ⟨Nat.le_of_ble_eq_true rfl, Nat.le_of_ble_eq_true rfl⟩ _ (hO10 g σ1) rfl rfl rfl (Nat.le_of_ble_eq_true rfl) dX10_child_27 ?_
      refine kw_aload_n C dX10_child_30 rfl 0 rfl ?_
      refine kw_get C inG10 _ (hO10 g σ9) rfl 48 (Nat.le_of_ble_eq_true rfl) mf_10_91 rfl rfl dX10_child_31 ?_
      refine kw_iload_n C dX10_child_34 rfl 1 rfl ?_
      refine kw_dup2 C dX10_child_35 rfl rfl ?_
      obtain ⟨h10, hf⟩ := gd_elim hf
      refine kw_iald C _ 0 (hA10_48 g σ9) rfl h10 dX10_child_36 ?_
      refine kw_iconst C (1 : Int32) dX10_child_37 rfl ?_
      refine kw_iadd C dX10_child_38 ?_
      obtain ⟨h11, hf⟩ := gd_elim hf
      obtain ⟨σ12, eσ12, hf⟩ := lt_elim hf
      refine kw_iast C _ 0 (hA10_48 g σ9) rfl h11 ((hS10_48 g σ9 _).trans (congrArg (wM g) eσ12.symm)) dX10_child_39 ?_
      refine kw_aload_n C dX10_child_40 rfl 0 rfl ?_
      refine kw_get C inG10 _ (hO10 g σ12) rfl 48 (Nat.le_of_ble_eq_true rfl) mf_10_91 rfl rfl dX10_child_41 ?_
      refine kw_iload_n C dX10_child_44 rfl 1 rfl ?_
      obtain ⟨h13, hf⟩ := gd_elim hf
      refine kw_iald C _ 0 (hA10_48 g σ12) rfl h13 dX10_child_45 ?_
      exact kw_iret C K dX10_child_46 hf
    · have hf := if_p c7 hf
      refine kw_sub [] _ rfl ?_
      exact kJ4 _ hf
set_option maxRecDepth 100000 in
set_option maxHeartbeats 4000000 in
theorem kX10_partsGo (L : Launch) (D : va_G) (g : GwT) (t0 : Nat) (p0 : Int32) (σ : St) (σ0 : St) (hf : fX10_partsGo σ p0 = some σ0) : CtV L D (ttG g) (wM g) t0 yX10_partsGo cX10_partsGo 4 none { frames := 0, cells := 0, slots := 0, locals := 0 } [.ref (g.1 0), .int p0] σ σ0 := by
  refine CtV.of (own := RX10) (by decide) rfl (Nat.le_of_ble_eq_true rfl) [(0, .ref (g.1 0)), (1, .int p0)] rfl ?_
  intro X C hN K
  unfold fX10_partsGo at hf
  refine kw_iconst C (0 : Int32) dX10_partsGo_0 rfl ?_
  refine kw_istore_n C dX10_partsGo_1 rfl hN (Nat.le_of_ble_eq_true rfl) [(2, .int (0 : Int32)), (0, .ref (g.1 0)), (1, .int p0)] rfl ?_
  refine kw_sub [1, 2, 0] _ rfl ?_
  refine lpx2_walk (P := fun (x1 : Int32) (σ2 : St) => KW X σ2 2 [(0, .ref (g.1 0)), (1, .int p0), (2, .int x1)] []) ?_ FU _ _ hf
  intro self3 x1 σ2 ih4 hf
  refine kw_iload_n C dX10_partsGo_2 rfl 2 rfl ?_
  refine kw_aload_n C dX10_partsGo_3 rfl 0 rfl ?_
  refine kw_get C inG10 _ (hO10 g σ2) rfl 13 (Nat.le_of_ble_eq_true rfl) mf_10_228 rfl rfl dX10_partsGo_4 ?_
  refine kw_icmp_ge C 65 dX10_partsGo_7 rfl (fun c5 => ?_) (fun c5 => ?_)
  · have hf := if_p c5 hf
    exact kw_vret (u9 := ()) C K dX10_partsGo_65 hf
  · have hf := if_n c5 hf
    refine kw_bipush C (6 : Int32) dX10_partsGo_10 rfl ?_
    refine kw_iload_n C dX10_partsGo_12 rfl 1 rfl ?_
    refine kw_imul C dX10_partsGo_13 ?_
    refine kw_iload_n C dX10_partsGo_14 rfl 2 rfl ?_
    refine kw_iadd C dX10_partsGo_15 ?_
    obtain ⟨x6, ex6, hf⟩ := lt_elim hf
    refine kw_topi ex6 ?_
    refine kw_istore_n C dX10_partsGo_16 rfl hN (Nat.le_of_ble_eq_true rfl) [(3, .int x6), (0, .ref (g.1 0)), (1, .int p0), (2, .int x1)] rfl ?_
    refine kw_aload_n C dX10_partsGo_17 rfl 1 rfl ?_
    refine kw_get C inG10 _ (hO10 g σ2) rfl 52 (Nat.le_of_ble_eq_true rfl) mf_10_103 rfl rfl dX10_partsGo_18 ?_
    refine kw_iload_n C dX10_partsGo_21 rfl 0 rfl ?_
    refine kw_dup2 C dX10_partsGo_22 rfl rfl ?_
    obtain ⟨h7, hf⟩ := gd_elim hf
    refine kw_iald C _ 0 (hA10_52 g σ2) rfl h7 dX10_partsGo_23 ?_
    refine kw_iconst C (1 : Int32) dX10_partsGo_24 rfl ?_
    refine kw_iadd C dX10_partsGo_25 ?_
    obtain ⟨h8, hf⟩ := gd_elim hf
    obtain ⟨σ9, eσ9, hf⟩ := lt_elim hf
    refine kw_iast C _ 0 (hA10_52 g σ2) rfl h8 ((hS10_52 g σ2 _).trans (congrArg (wM g) eσ9.symm)) dX10_partsGo_26 ?_
    refine kw_aload_n C dX10_partsGo_27 rfl 1 rfl ?_
    refine kw_get C inG10 _ (hO10 g σ9) rfl 52 (Nat.le_of_ble_eq_true rfl) mf_10_103 rfl rfl dX10_partsGo_28 ?_
    refine kw_iload_n C dX10_partsGo_31 rfl 0 rfl ?_
    obtain ⟨h10, hf⟩ := gd_elim hf
    refine kw_iald C _ 0 (hA10_52 g σ9) rfl h10 dX10_partsGo_32 ?_
    refine kw_aload_n C dX10_partsGo_33 rfl 1 rfl ?_
    refine kw_get C inG10 _ (hO10 g σ9) rfl 27 (Nat.le_of_ble_eq_true rfl) mf_10_48 rfl rfl dX10_partsGo_34 ?_
    refine kw_iload_n C dX10_partsGo_37 rfl 3 rfl ?_
    obtain ⟨h11, hf⟩ := gd_elim hf
    refine kw_iald C _ 0 (hA10_27 g σ9) rfl h11 dX10_partsGo_38 ?_
    obtain ⟨J13, hJ13, hf⟩ := jnx1_elim hf
    have kJ13 : ∀ (σ12 : St), J13 σ12 = some σ0 → KW X σ12 59 [(0, .ref (g.1 0)), (1, .int p0), (2, .int x1)] [] := by
      clear hf
      intro σ12 hf
      have hf := (hJ13 σ12).symm.trans hf
      obtain ⟨x14, ex14, hf⟩ := lt_elim hf
      refine kw_iinc C x14 dX10_partsGo_59 2 rfl ex14.symm hN (Nat.le_of_ble_eq_true rfl) [(2, .int x14), (0, .ref (g.1 0)), (1, .int p0)] rfl ?_
      refine kw_goto C 2 dX10_partsGo_62 rfl ?_
      refine kw_sub [1, 2, 0] _ rfl ?_
      exact ih4 _ _ hf
    refine kw_icmp_ge C 45 dX10_partsGo_39 rfl (fun c15 => ?_) (fun c15 => ?_)
    · have hf := if_p c15 hf
      refine kw_aload_n C dX10_partsGo_45 rfl 1 rfl ?_
      refine kw_get C inG10 _ (hO10 g σ9) rfl 52 (Nat.le_of_ble_eq_true rfl) mf_10_103 rfl rfl dX10_partsGo_46 ?_
      refine kw_iload_n C dX10_partsGo_49 rfl 0 rfl ?_
      refine kw_iconst C (0 : Int32) dX10_partsGo_50 rfl ?_
      obtain ⟨h16, hf⟩ := gd_elim hf
      obtain ⟨σ17, eσ17, hf⟩ := lt_elim hf
      refine kw_iast C _ 0 (hA10_52 g σ9) rfl h16 ((hS10_52 g σ9 _).trans (congrArg (wM g) eσ17.symm)) dX10_partsGo_51 ?_
      refine kw_aload_n C dX10_partsGo_52 rfl 1 rfl ?_
      refine kw_get C inG10 _ (hO10 g σ17) rfl 53 (Nat.le_of_ble_eq_true rfl) mf_10_106 rfl rfl dX10_partsGo_53 ?_
      refine kw_iload_n C dX10_partsGo_56 rfl 0 rfl ?_
      refine kw_iconst C (0 : Int32) dX10_partsGo_57 rfl ?_
      obtain ⟨h18, hf⟩ := gd_elim hf
      obtain ⟨σ19, eσ19, hf⟩ := lt_elim hf
      refine kw_zast C _ 3 (hA10_53 g σ17) rfl h18 ((hS10_53 g σ17 _).trans (congrArg (wM g) eσ19.symm)) dX10_partsGo_58 ?_
      refine kw_sub [1, 2, 3] _ rfl ?_
      exact kJ13 _ hf
    · have hf := if_n c15 hf
      refine kw_goto C 59 dX10_partsGo_42 rfl ?_
      refine kw_sub [1, 2, 3] _ rfl ?_
      exact kJ13 _ hf
set_option maxRecDepth 100000 in
set_option maxHeartbeats 4000000 in
theorem kX10_isOn (L : Launch) (D : va_G) (g : GwT) (t0 : Nat) (p0 : Int32) (p1 : Int32) (σ : St) (r0 : Int32) (hf : fX10_isOn σ p0 p1 = some r0) : CtI L D (ttG g) (wM g) t0 yX10_isOn cX10_isOn 3 (some .boolean) { frames := 0, cells := 0, slots := 0, locals := 0 } [.ref (g.1 0), .int p0, .int p1] σ r0 σ := by
  refine CtI.of (own := RX10) (by decide) rfl (Nat.le_of_ble_eq_true rfl) [(0, .ref (g.1 0)), (1, .int p0), (2, .int p1)] rfl ?_
  intro X C hN K
  unfold fX10_isOn at hf
  refine kw_iload_n C dX10_isOn_0 rfl 2 rfl ?_
  refine kw_aload_n C dX10_isOn_1 rfl 0 rfl ?_
  refine kw_get C inG10 _ (hO10 g σ) rfl 12 (Nat.le_of_ble_eq_true rfl) mf_10_225 rfl rfl dX10_isOn_2 ?_
  obtain ⟨J2, hJ2, hf⟩ := jnx1_elim hf
  have kJ2 : ∀ (x1 : Int32), J2 x1 = some r0 → KW X σ 27 [] [.int x1] := by
    clear hf
    intro x1 hf
    have hf := (hJ2 x1).symm.trans hf
    obtain ⟨h3, hf⟩ := gd_elim hf
    exact kw_zret C K h3 dX10_isOn_27 (pr_ret hf)
  obtain ⟨J4, hJ4, hf⟩ := jnx1_elim hf
  have kJ4 : ∀ (u9 : Unit), J4 u9 = some r0 → KW X σ 26 [] [] := by
    clear hf
    intro u9 hf
    have hf := (hJ4 u9).symm.trans hf
    refine kw_iconst C (0 : Int32) dX10_isOn_26 rfl ?_
    exact kJ2 _ hf
  refine kw_icmp_ge C 26 dX10_isOn_5 rfl (fun c5 => ?_) (fun c5 => ?_)
  · have hf := if_p c5 hf
    refine kw_sub [] _ rfl ?_
    exact kJ4 _ hf
  · have hf := if_n c5 hf
    refine kw_aload_n C dX10_isOn_8 rfl 0 rfl ?_
    refine kw_get C inG10 _ (hO10 g σ) rfl 49 (Nat.le_of_ble_eq_true rfl) mf_10_94 rfl rfl dX10_isOn_9 ?_
    refine kw_bipush C (6 : Int32) dX10_isOn_12 rfl ?_
    refine kw_iload_n C dX10_isOn_14 rfl 1 rfl ?_
    refine kw_imul C dX10_isOn_15 ?_
    refine kw_iload_n C dX10_isOn_16 rfl 2 rfl ?_
    refine kw_iadd C dX10_isOn_17 ?_
    obtain ⟨h6, hf⟩ := gd_elim hf
    refine kw_zald C _ 3 (hA10_49 g σ) rfl h6 dX10_isOn_18 ?_
    refine kw_if_eq C 26 dX10_isOn_19 rfl (fun c7 => ?_) (fun c7 => ?_)
    · have hf := if_p c7 hf
      refine kw_sub [] _ rfl ?_
      exact kJ4 _ hf
    · have hf := if_n c7 hf
      refine kw_iconst C (1 : Int32) dX10_isOn_22 rfl ?_
      refine kw_goto C 27 dX10_isOn_23 rfl ?_
      refine kw_sub [] _ rfl ?_
      exact kJ2 _ hf
set_option maxRecDepth 100000 in
set_option maxHeartbeats 4000000 in
theorem kX10_turnOf (L : Launch) (D : va_G) (g : GwT) (t0 : Nat) (p0 : Int32) (σ : St) (r0 : Int32) (hf : fX10_turnOf σ p0 = some r0) : CtI L D (ttG g) (wM g) t0 yX10_turnOf cX10_turnOf 4 (some .int) { frames := 1, cells := 0, slots := 0, locals := 22 } [.ref (g.1 0), .int p0] σ r0 σ := by
  refine CtI.of (own := RX10) (by decide) rfl (Nat.le_of_ble_eq_true rfl) [(0, .ref (g.1 0)), (1, .int p0)] rfl ?_
  intro X C hN K
  unfold fX10_turnOf at hf
  refine kw_iconst C (0 : Int32) dX10_turnOf_0 rfl ?_
  refine kw_istore_n C dX10_turnOf_1 rfl hN (Nat.le_of_ble_eq_true rfl) [(2, .int (0 : Int32)), (0, .ref (g.1 0)), (1, .int p0)] rfl ?_
  refine kw_sub [1, 2, 0] _ rfl ?_
  refine lpx1_walk (P := fun (x1 : Int32) => KW X σ 2 [(0, .ref (g.1 0)), (1, .int p0), (2, .int x1)] []) ?_ FU _ hf
  intro self2 x1 ih3 hf
  refine kw_iload_n C dX10_turnOf_2 rfl 2 rfl ?_
  refine kw_aload_n C dX10_turnOf_3 rfl 0 rfl ?_
  refine kw_get C inG10 _ (hO10 g σ) rfl 12 (Nat.le_of_ble_eq_true rfl) mf_10_225 rfl rfl dX10_turnOf_4 ?_
  refine kw_icmp_ge C 41 dX10_turnOf_7 rfl (fun c4 => ?_) (fun c4 => ?_)
  · have hf := if_p c4 hf
    refine kw_iconst C (-1 : Int32) dX10_turnOf_41 rfl ?_
    exact kw_iret C K dX10_turnOf_42 (pr_ret hf)
  · have hf := if_n c4 hf
    refine kw_aload_n C dX10_turnOf_10 rfl 0 rfl ?_
    refine kw_get C inG10 _ (hO10 g σ) rfl 59 (Nat.le_of_ble_eq_true rfl) mf_10_124 rfl rfl dX10_turnOf_11 ?_
    refine kw_iload_n C dX10_turnOf_14 rfl 1 rfl ?_
    obtain ⟨h5, hf⟩ := gd_elim hf
    refine kw_iald C _ 0 (hA10_59 g σ) rfl h5 dX10_turnOf_15 ?_
    refine kw_iload_n C dX10_turnOf_16 rfl 2 rfl ?_
    refine kw_iadd C dX10_turnOf_17 ?_
    refine kw_aload_n C dX10_turnOf_18 rfl 0 rfl ?_
    refine kw_get C inG10 _ (hO10 g σ) rfl 12 (Nat.le_of_ble_eq_true rfl) mf_10_225 rfl rfl dX10_turnOf_19 ?_
    obtain ⟨h6, hf⟩ := gd_elim hf
    refine kw_irem C dX10_turnOf_22 h6 ?_
    obtain ⟨x7, ex7, hf⟩ := lt_elim hf
    refine kw_topi ex7 ?_
    refine kw_istore_n C dX10_turnOf_23 rfl hN (Nat.le_of_ble_eq_true rfl) [(3, .int x7), (0, .ref (g.1 0)), (1, .int p0), (2, .int x1)] rfl ?_
    refine kw_aload_n C dX10_turnOf_24 rfl 1 rfl ?_
    refine kw_iload_n C dX10_turnOf_25 rfl 2 rfl ?_
    refine kw_iload_n C dX10_turnOf_26 rfl 0 rfl ?_
    obtain ⟨r9, hc8, hf⟩ := bd_elim hf
    refine kw_callVI C [.int p0, .int x7] (kX10_isOn L D g t0 p0 x7 σ _ hc8) RX10 mV_X10_400 ⟨rfl, rfl⟩ dd_X10_isOn ⟨Nat.le_of_ble_eq_true rfl, Nat.le_of_ble_eq_true rfl⟩ _ (hO10 g σ) rfl rfl rfl (Nat.le_of_ble_eq_true rfl) dX10_turnOf_27 ?_
    refine kw_if_eq C 35 dX10_turnOf_30 rfl (fun c10 => ?_) (fun c10 => ?_)
    · have hf := if_p c10 hf
      obtain ⟨x11, ex11, hf⟩ := lt_elim hf
      refine kw_iinc C x11 dX10_turnOf_35 3 rfl ex11.symm hN (Nat.le_of_ble_eq_true rfl) [(2, .int x11), (3, .int x7), (0, .ref (g.1 0)), (1, .int p0)] rfl ?_
      refine kw_goto C 2 dX10_turnOf_38 rfl ?_
      refine kw_sub [2, 3, 0] _ rfl ?_
      exact ih3 _ hf
    · have hf := if_n c10 hf
      refine kw_iload_n C dX10_turnOf_33 rfl 0 rfl ?_
      exact kw_iret C K dX10_turnOf_34 (pr_ret hf)
set_option maxRecDepth 100000 in
set_option maxHeartbeats 4000000 in
theorem kX10_isOf (L : Launch) (D : va_G) (g : GwT) (t0 : Nat) (p0 : Int32) (p1 : Int32) (σ : St) (r0 : Int32) (hf : fX10_isOf σ p0 p1 = some r0) : CtI L D (ttG g) (wM g) t0 yX10_isOf cX10_isOf 2 (some .boolean) { frames := 0, cells := 0, slots := 0, locals := 0 } [.int p0, .int p1] σ r0 σ := by
  refine CtI.of (own := RX10) (by decide) rfl (Nat.le_of_ble_eq_true rfl) [(0, .int p0), (1, .int p1)] rfl ?_
  intro X C hN K
  unfold fX10_isOf at hf
  refine kw_iload_n C dX10_isOf_0 rfl 0 rfl ?_
  refine kw_iload_n C dX10_isOf_1 rfl 1 rfl ?_
  refine kw_ishr C dX10_isOf_2 ?_
  refine kw_iconst C (1 : Int32) dX10_isOf_3 rfl ?_
  refine kw_iand C dX10_isOf_4 ?_
  refine kw_iconst C (1 : Int32) dX10_isOf_5 rfl ?_
  obtain ⟨J2, hJ2, hf⟩ := jnx1_elim hf
  have kJ2 : ∀ (x1 : Int32), J2 x1 = some r0 → KW X σ 14 [] [.int x1] := by
    clear hf
    intro x1 hf
    have hf := (hJ2 x1).symm.trans hf
    obtain ⟨h3, hf⟩ := gd_elim hf
    exact kw_zret C K h3 dX10_isOf_14 (pr_ret hf)
  refine kw_icmp_ne C 13 dX10_isOf_6 rfl (fun c4 => ?_) (fun c4 => ?_)
  · have hf := if_n c4 hf
    refine kw_iconst C (0 : Int32) dX10_isOf_13 rfl ?_
    refine kw_sub [] _ rfl ?_
    exact kJ2 _ hf
  · have hf := if_p c4 hf
    refine kw_iconst C (1 : Int32) dX10_isOf_9 rfl ?_
    refine kw_goto C 14 dX10_isOf_10 rfl ?_
    refine kw_sub [] _ rfl ?_
    exact kJ2 _ hf
set_option maxRecDepth 100000 in
set_option maxHeartbeats 4000000 in
theorem kX10_wantsRaise (L : Launch) (D : va_G) (g : GwT) (t0 : Nat) (p0 : Int32) (p1 : Int32) (σ : St) (r0 : Int32) (σ0 : St) (hf : fX10_wantsRaise σ p0 p1 = some (r0, σ0)) : CtI L D (ttG g) (wM g) t0 yX10_wantsRaise cX10_wantsRaise 5 (some .boolean) { frames := 3, cells := 0, slots := 0, locals := 72 } [.ref (g.1 0), .int p0, .int p1] σ r0 σ0 := by
  refine CtI.of (own := RX10) (by decide) rfl (Nat.le_of_ble_eq_true rfl) [(0, .ref (g.1 0)), (1, .int p0), (2, .int p1)] rfl ?_
  intro X C hN K
  unfold fX10_wantsRaise at hf
  refine kw_aload_n C dX10_wantsRaise_0 rfl 0 rfl ?_
  refine kw_get C inG10 _ (hO10 g σ) rfl 65 (Nat.le_of_ble_eq_true rfl) mf_10_365 rfl rfl dX10_wantsRaise_1 ?_
  refine kw_iload_n C dX10_wantsRaise_4 rfl 2 rfl ?_
  obtain ⟨r2, hc1, hf⟩ := bd_elim hf
  refine kw_callSI C [.int (gI σ 0 65), .int p1] (kX10_isOf L D g t0 (gI σ 0 65) p1 σ _ hc1) mS_X10_406 ⟨rfl, rfl⟩ dd_X10_isOf ⟨Nat.le_of_ble_eq_true rfl, Nat.le_of_ble_eq_true rfl⟩ rfl (Nat.le_of_ble_eq_true rfl) dX10_wantsRaise_5 ?_
  obtain ⟨J3, hJ3, hf⟩ := jnx1_elim hf
  have kJ3 : ∀ (u9 : Unit), J3 u9 = some (r0, σ0) → KW X σ 20 [] [] := by
    clear hf
    intro u9 hf
    have hf := (hJ3 u9).symm.trans hf
    refine kw_iconst C (0 : Int32) dX10_wantsRaise_20 rfl ?_
    exact kw_zret C K (by decide) dX10_wantsRaise_21 hf
  refine kw_if_ne C 20 dX10_wantsRaise_8 rfl (fun c4 => ?_) (fun c4 => ?_)
  · have hf := if_n c4 hf
    refine kw_sub [] _ rfl ?_
    exact kJ3 _ hf
  · have hf := if_p c4 hf
    refine kw_aload_n C dX10_wantsRaise_11 rfl 0 rfl ?_
    refine kw_iload_n C dX10_wantsRaise_12 rfl 1 rfl ?_
    refine kw_iload_n C dX10_wantsRaise_13 rfl 2 rfl ?_
    obtain ⟨r6, hc5, hf⟩ := bd_elim hf
    refine kw_callVI C [.int p0, .int p1] (kX10_mayRaise L D g t0 p0 p1 σ _ hc5) RX10 mV_X10_409 ⟨rfl, rfl⟩ dd_X10_mayRaise ⟨Nat.le_of_ble_eq_true rfl, Nat.le_of_ble_eq_true rfl⟩ _ (hO10 g σ) rfl rfl rfl (Nat.le_of_ble_eq_true rfl) dX10_wantsRaise_14 ?_
    refine kw_if_ne C 22 dX10_wantsRaise_17 rfl (fun c7 => ?_) (fun c7 => ?_)
    · have hf := if_n c7 hf
      refine kw_aload_n C dX10_wantsRaise_22 rfl 0 rfl ?_
      refine kw_get C inG10 _ (hO10 g σ) rfl 29 (Nat.le_of_ble_eq_true rfl) mf_10_54 rfl rfl dX10_wantsRaise_23 ?_
      refine kw_iconst C (2 : Int32) dX10_wantsRaise_26 rfl ?_
      refine kw_zald C _ 3 (hA10_29 g σ) rfl (by decide) dX10_wantsRaise_27 ?_
      refine kw_if_ne C 33 dX10_wantsRaise_28 rfl (fun c8 => ?_) (fun c8 => ?_)
      · have hf := if_n c8 hf
        refine kw_aload_n C dX10_wantsRaise_33 rfl 0 rfl ?_
        refine kw_iload_n C dX10_wantsRaise_34 rfl 1 rfl ?_
        refine kw_iload_n C dX10_wantsRaise_35 rfl 2 rfl ?_
        obtain ⟨σ10, hc9, hf⟩ := bV_elim hf
        refine kw_callVV C [.int p0, .int p1] (kX10_layNames L D g t0 p0 p1 σ _ hc9) RX10 mV_X10_378 ⟨rfl, rfl⟩ dd_X10_layNames ⟨Nat.le_of_ble_eq_true rfl, Nat.le_of_ble_eq_true rfl⟩ _ (hO10 g σ) rfl rfl rfl (Nat.le_of_ble_eq_true rfl) dX10_wantsRaise_36 ?_
        refine kw_aload_n C dX10_wantsRaise_39 rfl 0 rfl ?_
        refine kw_iconst C (2 : Int32) dX10_wantsRaise_40 rfl ?_
        obtain ⟨r12, σ13, hc11, hf⟩ := bL_elim hf
        refine kw_callVL C [.int (2 : Int32)] (kX10_lawOf L D g t0 (2 : Int32) σ10 _ _ hc11) RX10 mV_X10_375 ⟨rfl, rfl⟩ dd_X10_lawOf ⟨Nat.le_of_ble_eq_true rfl, Nat.le_of_ble_eq_true rfl⟩ _ (hO10 g σ10) rfl rfl rfl (Nat.le_of_ble_eq_true rfl) dX10_wantsRaise_41 ?_
        refine kw_lstore_n C dX10_wantsRaise_44 rfl hN (Nat.le_of_ble_eq_true rfl) [(3, .long r12), (0, .ref (g.1 0)), (1, .int p0), (2, .int p1)] rfl ?_
        refine kw_aload_n C dX10_wantsRaise_45 rfl 1 rfl ?_
        refine kw_get C inG10 _ (hO10 g σ13) rfl 45 (Nat.le_of_ble_eq_true rfl) mf_10_315 rfl rfl dX10_wantsRaise_46 ?_
        obtain ⟨J15, hJ15, hf⟩ := jnx1_elim hf
        have kJ15 : ∀ (x14 : Int32), J15 x14 = some (r0, σ0) → KW X σ13 63 [] [.int x14] := by
          clear hf
          intro x14 hf
          have hf := (hJ15 x14).symm.trans hf
          obtain ⟨h16, hf⟩ := gd_elim hf
          exact kw_zret C K h16 dX10_wantsRaise_63 hf
        obtain ⟨J17, hJ17, hf⟩ := jnx1_elim hf
        have kJ17 : ∀ (u9 : Unit), J17 u9 = some (r0, σ0) → KW X σ13 58 [] [] := by
          clear hf
          intro u9 hf
          have hf := (hJ17 u9).symm.trans hf
          refine kw_iconst C (1 : Int32) dX10_wantsRaise_58 rfl ?_
          refine kw_goto C 63 dX10_wantsRaise_59 rfl ?_
          exact kJ15 _ hf
        refine kw_if_ne C 58 dX10_wantsRaise_49 rfl (fun c18 => ?_) (fun c18 => ?_)
        · have hf := if_n c18 hf
          refine kw_sub [] _ rfl ?_
          exact kJ17 _ hf
        · have hf := if_p c18 hf
          refine kw_lload_n C dX10_wantsRaise_52 rfl 0 rfl ?_
          refine kw_lconst C (0 : Int64) dX10_wantsRaise_53 rfl ?_
          refine kw_lcmp C dX10_wantsRaise_54 ?_
          refine kw_if_eq C 62 dX10_wantsRaise_55 rfl (fun c19 => ?_) (fun c19 => ?_)
          · have hf := if_p c19 hf
            refine kw_iconst C (0 : Int32) dX10_wantsRaise_62 rfl ?_
            refine kw_sub [] _ rfl ?_
            exact kJ15 _ hf
          · have hf := if_n c19 hf
            refine kw_sub [] _ rfl ?_
            exact kJ17 _ hf
      · have hf := if_p c8 hf
        refine kw_iconst C (1 : Int32) dX10_wantsRaise_31 rfl ?_
        exact kw_zret C K (by decide) dX10_wantsRaise_32 hf
    · have hf := if_p c7 hf
      refine kw_sub [] _ rfl ?_
      exact kJ3 _ hf
set_option maxRecDepth 100000 in
set_option maxHeartbeats 4000000 in
theorem kX10_boundLaw (L : Launch) (D : va_G) (g : GwT) (t0 : Nat) (p0 : Int32) (p1 : Int32) (p2 : Int32) (σ : St) (r0 : Int32) (σ0 : St) (hf : fX10_boundLaw σ p0 p1 p2 = some (r0, σ0)) : CtI L D (ttG g) (wM g) t0 yX10_boundLaw cX10_boundLaw 6 (some .int) { frames := 3, cells := 0, slots := 0, locals := 72 } [.ref (g.1 0), .int p0, .int p1, .int p2] σ r0 σ0 := by
  refine CtI.of (own := RX10) (by decide) rfl (Nat.le_of_ble_eq_true rfl) [(0, .ref (g.1 0)), (1, .int p0), (2, .int p1), (3, .int p2)] rfl ?_
  intro X C hN K
  unfold fX10_boundLaw at hf
  refine kw_aload_n C dX10_boundLaw_0 rfl 0 rfl ?_
  refine kw_get C inG10 _ (hO10 g σ) rfl 29 (Nat.le_of_ble_eq_true rfl) mf_10_54 rfl rfl dX10_boundLaw_1 ?_
  refine kw_iload_n C dX10_boundLaw_4 rfl 1 rfl ?_
  obtain ⟨h1, hf⟩ := gd_elim hf
  refine kw_zald C _ 3 (hA10_29 g σ) rfl h1 dX10_boundLaw_5 ?_
  refine kw_if_ne C 11 dX10_boundLaw_6 rfl (fun c2 => ?_) (fun c2 => ?_)
  · have hf := if_n c2 hf
    refine kw_aload_n C dX10_boundLaw_11 rfl 0 rfl ?_
    refine kw_iload_n C dX10_boundLaw_12 rfl 1 rfl ?_
    obtain ⟨r4, σ5, hc3, hf⟩ := bL_elim hf
    refine kw_callVL C [.int p0] (kX10_lawOf L D g t0 p0 σ _ _ hc3) RX10 mV_X10_375 ⟨rfl, rfl⟩ dd_X10_lawOf ⟨Nat.le_of_ble_eq_true rfl, Nat.le_of_ble_eq_true rfl⟩ _ (hO10 g σ) rfl rfl rfl (Nat.le_of_ble_eq_true rfl) dX10_boundLaw_13 ?_
    refine kw_lstore C dX10_boundLaw_16 hN (Nat.le_of_ble_eq_true rfl) [(4, .long r4), (0, .ref (g.1 0)), (1, .int p0), (2, .int p1), (3, .int p2)] rfl ?_
    refine kw_aload_n C dX10_boundLaw_18 rfl 1 rfl ?_
    refine kw_get C inG10 _ (hO10 g σ5) rfl 45 (Nat.le_of_ble_eq_true rfl) mf_10_315 rfl rfl dX10_boundLaw_19 ?_
    refine kw_if_eq C 27 dX10_boundLaw_22 rfl (fun c6 => ?_) (fun c6 => ?_)
    · have hf := if_p c6 hf
      refine kw_lload C dX10_boundLaw_27 0 rfl ?_
      refine kw_lconst C (0 : Int64) dX10_boundLaw_29 rfl ?_
      refine kw_lcmp C dX10_boundLaw_30 ?_
      obtain ⟨J8, hJ8, hf⟩ := jnx1_elim hf
      have kJ8 : ∀ (x7 : Int32), J8 x7 = some (r0, σ0) → KW X σ5 53 [] [.int x7] := by
        clear hf
        intro x7 hf
        have hf := (hJ8 x7).symm.trans hf
        exact kw_iret C K dX10_boundLaw_53 hf
      refine kw_if_ge C 38 dX10_boundLaw_31 rfl (fun c9 => ?_) (fun c9 => ?_)
      · have hf := if_p c9 hf
        refine kw_lload C dX10_boundLaw_38 0 rfl ?_
        refine kw_iload_n C dX10_boundLaw_40 rfl 4 rfl ?_
        refine kw_i2l C dX10_boundLaw_41 ?_
        refine kw_lcmp C dX10_boundLaw_42 ?_
        refine kw_if_le C 50 dX10_boundLaw_43 rfl (fun c10 => ?_) (fun c10 => ?_)
        · have hf := if_p c10 hf
          refine kw_lload C dX10_boundLaw_50 0 rfl ?_
          refine kw_l2i C dX10_boundLaw_52 ?_
          refine kw_sub [] _ rfl ?_
          exact kJ8 _ hf
        · have hf := if_n c10 hf
          refine kw_iload_n C dX10_boundLaw_46 rfl 4 rfl ?_
          refine kw_goto C 53 dX10_boundLaw_47 rfl ?_
          refine kw_sub [] _ rfl ?_
          exact kJ8 _ hf
      · have hf := if_n c9 hf
        refine kw_iconst C (0 : Int32) dX10_boundLaw_34 rfl ?_
        refine kw_goto C 53 dX10_boundLaw_35 rfl ?_
        refine kw_sub [] _ rfl ?_
        exact kJ8 _ hf
    · have hf := if_n c6 hf
      refine kw_iload_n C dX10_boundLaw_25 rfl 3 rfl ?_
      exact kw_iret C K dX10_boundLaw_26 hf
  · have hf := if_p c2 hf
    refine kw_iload_n C dX10_boundLaw_9 rfl 2 rfl ?_
    exact kw_iret C K dX10_boundLaw_10 hf
set_option maxRecDepth 100000 in
set_option maxHeartbeats 4000000 in
theorem kX10_deathOf (L : Launch) (D : va_G) (g : GwT) (t0 : Nat) (p0 : Int32) (p1 : Int32) (σ : St) (r0 : Int32) (σ0 : St) (hf : fX10_deathOf σ p0 p1 = some (r0, σ0)) : CtI L D (ttG g) (wM g) t0 yX10_deathOf cX10_deathOf 4 (some .int) { frames := 4, cells := 0, slots := 0, locals := 97 } [.ref (g.1 0), .int p0, .int p1] σ r0 σ0 := by
  refine CtI.of (own := RX10) (by decide) rfl (Nat.le_of_ble_eq_true rfl) [(0, .ref (g.1 0)), (1, .int p0), (2, .int p1)] rfl ?_
  intro X C hN K
  unfold fX10_deathOf at hf
  refine kw_aload_n C dX10_deathOf_0 rfl 0 rfl ?_
  refine kw_iload_n C dX10_deathOf_1 rfl 1 rfl ?_
  refine kw_iload_n C dX10_deathOf_2 rfl 2 rfl ?_
  obtain ⟨σ2, hc1, hf⟩ := bV_elim hf
  refine kw_callVV C [.int p0, .int p1] (kX10_layNames L D g t0 p0 p1 σ _ hc1) RX10 mV_X10_378 ⟨rfl, rfl⟩ dd_X10_layNames ⟨Nat.le_of_ble_eq_true rfl, Nat.le_of_ble_eq_true rfl⟩ _ (hO10 g σ) rfl rfl rfl (Nat.le_of_ble_eq_true rfl) dX10_deathOf_3 ?_
  refine kw_aload_n C dX10_deathOf_6 rfl 0 rfl ?_
  refine kw_get C inG10 _ (hO10 g σ2) rfl 47 (Nat.le_of_ble_eq_true rfl) mf_10_88 rfl rfl dX10_deathOf_7 ?_
  refine kw_bipush C (6 : Int32) dX10_deathOf_10 rfl ?_
  refine kw_iload_n C dX10_deathOf_12 rfl 1 rfl ?_
  refine kw_imul C dX10_deathOf_13 ?_
  refine kw_iload_n C dX10_deathOf_14 rfl 2 rfl ?_
  refine kw_iadd C dX10_deathOf_15 ?_
  obtain ⟨h3, hf⟩ := gd_elim hf
  refine kw_iald C _ 0 (hA10_47 g σ2) rfl h3 dX10_deathOf_16 ?_
  refine kw_bipush C (40 : Int32) dX10_deathOf_17 rfl ?_
  refine kw_isub C dX10_deathOf_19 ?_
  obtain ⟨x4, ex4, hf⟩ := lt_elim hf
  refine kw_topi ex4 ?_
  refine kw_istore_n C dX10_deathOf_20 rfl hN (Nat.le_of_ble_eq_true rfl) [(3, .int x4), (0, .ref (g.1 0)), (1, .int p0), (2, .int p1)] rfl ?_
  refine kw_aload_n C dX10_deathOf_21 rfl 1 rfl ?_
  refine kw_iconst C (0 : Int32) dX10_deathOf_22 rfl ?_
  refine kw_iload_n C dX10_deathOf_23 rfl 0 rfl ?_
  obtain ⟨J6, hJ6, hf⟩ := jnx1_elim hf
  have kJ6 : ∀ (x5 : Int32), J6 x5 = some (r0, σ0) → KW X σ2 32 [] [.int x5, .int (0 : Int32), .ref (g.1 0)] := by
    clear hf
    intro x5 hf
    have hf := (hJ6 x5).symm.trans hf
    refine kw_bipush C (100 : Int32) dX10_deathOf_32 rfl ?_
    obtain ⟨r8, σ9, hc7, hf⟩ := bI_elim hf
    refine kw_callVI C [.int (0 : Int32), .int x5, .int (100 : Int32)] (kX10_boundLaw L D g t0 (0 : Int32) x5 (100 : Int32) σ2 _ _ hc7) RX10 mV_X10_382 ⟨rfl, rfl⟩ dd_X10_boundLaw ⟨Nat.le_of_ble_eq_true rfl, Nat.le_of_ble_eq_true rfl⟩ _ (hO10 g σ2) rfl rfl rfl (Nat.le_of_ble_eq_true rfl) dX10_deathOf_34 ?_
    exact kw_iret C K dX10_deathOf_37 hf
  refine kw_if_ge C 31 dX10_deathOf_24 rfl (fun c10 => ?_) (fun c10 => ?_)
  · have hf := if_p c10 hf
    refine kw_iload_n C dX10_deathOf_31 rfl 0 rfl ?_
    refine kw_sub [] _ rfl ?_
    exact kJ6 _ hf
  · have hf := if_n c10 hf
    refine kw_iconst C (0 : Int32) dX10_deathOf_27 rfl ?_
    refine kw_goto C 32 dX10_deathOf_28 rfl ?_
    refine kw_sub [] _ rfl ?_
    exact kJ6 _ hf
set_option maxRecDepth 100000 in
set_option maxHeartbeats 4000000 in
theorem kX10_number1 (L : Launch) (D : va_G) (g : GwT) (t0 : Nat) (p0 : Int32) (σ : St) (r0 : Int32) (σ0 : St) (hf : fX10_number1 σ p0 = some (r0, σ0)) : CtI L D (ttG g) (wM g) t0 yX10_number1 cX10_number1 2 (some .int) { frames := 0, cells := 0, slots := 0, locals := 0 } [.ref (g.1 0), .int p0] σ r0 σ0 := by
  refine CtI.of (own := RX10) (by decide) rfl (Nat.le_of_ble_eq_true rfl) [(0, .ref (g.1 0)), (1, .int p0)] rfl ?_
  intro X C hN K
  unfold fX10_number1 at hf
  refine kw_aload_n C dX10_number1_0 rfl 0 rfl ?_
  refine kw_aload_n C dX10_number1_1 rfl 0 rfl ?_
  refine kw_get C inG10 _ (hO10 g σ) rfl 60 (Nat.le_of_ble_eq_true rfl) mf_10_337 rfl rfl dX10_number1_2 ?_
  refine kw_ldc2 C dX10_number1_5 mk2_X10_386 ?_
  refine kw_lmul C dX10_number1_8 ?_
  refine kw_ldc2 C dX10_number1_9 mk2_X10_388 ?_
  refine kw_ladd C dX10_number1_12 ?_
  refine kw_ldc2 C dX10_number1_13 mk2_X10_390 ?_
  refine kw_land C dX10_number1_16 ?_
  obtain ⟨σ1, eσ1, hf⟩ := lt_elim hf
  refine kw_put C inG10 tyX10 tyX10_ok nmX10 _ (hO10 g σ) rfl 60 (Nat.le_of_ble_eq_true rfl) mf_10_337 rfl rfl (tyX10_ok 60 (Nat.le_of_ble_eq_true rfl)) rfl rfl (Nat.le_of_ble_eq_true rfl) ((hF10_60 g σ _).trans (congrArg (wM g) eσ1.symm)) dX10_number1_17 ?_
  refine kw_aload_n C dX10_number1_20 rfl 0 rfl ?_
  refine kw_get C inG10 _ (hO10 g σ1) rfl 60 (Nat.le_of_ble_eq_true rfl) mf_10_337 rfl rfl dX10_number1_21 ?_
  refine kw_ldc2 C dX10_number1_24 mk2_X10_392 ?_
  refine kw_ldiv C dX10_number1_27 (by decide) ?_
  refine kw_iload_n C dX10_number1_28 rfl 1 rfl ?_
  refine kw_i2l C dX10_number1_29 ?_
  obtain ⟨h2, hf⟩ := gd_elim hf
  refine kw_lrem C dX10_number1_30 h2 ?_
  refine kw_l2i C dX10_number1_31 ?_
  exact kw_iret C K dX10_number1_32 hf
set_option maxRecDepth 100000 in
set_option maxHeartbeats 4000000 in
theorem kX10_isDying (L : Launch) (D : va_G) (g : GwT) (t0 : Nat) (p0 : Int32) (p1 : Int32) (σ : St) (r0 : Int32) (σ0 : St) (hf : fX10_isDying σ p0 p1 = some (r0, σ0)) : CtI L D (ttG g) (wM g) t0 yX10_isDying cX10_isDying 4 (some .boolean) { frames := 5, cells := 0, slots := 0, locals := 120 } [.ref (g.1 0), .int p0, .int p1] σ r0 σ0 := by
  refine CtI.of (own := RX10) (by decide) rfl (Nat.le_of_ble_eq_true rfl) [(0, .ref (g.1 0)), (1, .int p0), (2, .int p1)] rfl ?_
  intro X C hN K
  unfold fX10_isDying at hf
  refine kw_aload_n C dX10_isDying_0 rfl 0 rfl ?_
  refine kw_get C inG10 _ (hO10 g σ) rfl 62 (Nat.le_of_ble_eq_true rfl) mf_10_356 rfl rfl dX10_isDying_1 ?_
  refine kw_if_eq C 9 dX10_isDying_4 rfl (fun c1 => ?_) (fun c1 => ?_)
  · have hf := if_p c1 hf
    refine kw_aload_n C dX10_isDying_9 rfl 0 rfl ?_
    refine kw_iload_n C dX10_isDying_10 rfl 1 rfl ?_
    refine kw_iload_n C dX10_isDying_11 rfl 2 rfl ?_
    obtain ⟨r3, σ4, hc2, hf⟩ := bI_elim hf
    refine kw_callVI C [.int p0, .int p1] (kX10_deathOf L D g t0 p0 p1 σ _ _ hc2) RX10 mV_X10_394 ⟨rfl, rfl⟩ dd_X10_deathOf ⟨Nat.le_of_ble_eq_true rfl, Nat.le_of_ble_eq_true rfl⟩ _ (hO10 g σ) rfl rfl rfl (Nat.le_of_ble_eq_true rfl) dX10_isDying_12 ?_
    refine kw_istore_n C dX10_isDying_15 rfl hN (Nat.le_of_ble_eq_true rfl) [(3, .int r3), (0, .ref (g.1 0)), (1, .int p0), (2, .int p1)] rfl ?_
    refine kw_iload_n C dX10_isDying_16 rfl 0 rfl ?_
    obtain ⟨J5, hJ5, hf⟩ := jnx1_elim hf
    have kJ5 : ∀ (u9 : Unit), J5 u9 = some (r0, σ0) → KW X σ4 26 [(3, .int r3)] [] := by
      clear hf
      intro u9 hf
      have hf := (hJ5 u9).symm.trans hf
      refine kw_iload_n C dX10_isDying_26 rfl 0 rfl ?_
      refine kw_bipush C (100 : Int32) dX10_isDying_27 rfl ?_
      obtain ⟨J7, hJ7, hf⟩ := jnx1_elim hf
      have kJ7 : ∀ (x6 : Int32), J7 x6 = some (r0, σ0) → KW X σ4 37 [] [.int x6] := by
        clear hf
        intro x6 hf
        have hf := (hJ7 x6).symm.trans hf
        obtain ⟨h8, hf⟩ := gd_elim hf
        exact kw_zret C K h8 dX10_isDying_37 hf
      refine kw_icmp_ne C 36 dX10_isDying_29 rfl (fun c9 => ?_) (fun c9 => ?_)
      · have hf := if_n c9 hf
        refine kw_iconst C (0 : Int32) dX10_isDying_36 rfl ?_
        refine kw_sub [] _ rfl ?_
        exact kJ7 _ hf
      · have hf := if_p c9 hf
        refine kw_iconst C (1 : Int32) dX10_isDying_32 rfl ?_
        refine kw_goto C 37 dX10_isDying_33 rfl ?_
        refine kw_sub [] _ rfl ?_
        exact kJ7 _ hf
    refine kw_if_eq C 26 dX10_isDying_17 rfl (fun c10 => ?_) (fun c10 => ?_)
    · have hf := if_p c10 hf
      refine kw_sub [0] _ rfl ?_
      exact kJ5 _ hf
    · have hf := if_n c10 hf
      refine kw_iload_n C dX10_isDying_20 rfl 0 rfl ?_
      refine kw_bipush C (100 : Int32) dX10_isDying_21 rfl ?_
      refine kw_icmp_ne C 38 dX10_isDying_23 rfl (fun c11 => ?_) (fun c11 => ?_)
      · have hf := if_n c11 hf
        refine kw_aload_n C dX10_isDying_38 rfl 1 rfl ?_
        refine kw_get C inG10 _ (hO10 g σ4) rfl 61 (Nat.le_of_ble_eq_true rfl) mf_10_353 rfl rfl dX10_isDying_39 ?_
        obtain ⟨J14, hJ14, hf⟩ := jnx2_elim hf
        have kJ14 : ∀ (x12 : Int32) (σ13 : St), J14 x12 σ13 = some (r0, σ0) → KW X σ13 74 [] [.int x12] := by
          clear hf
          intro x12 σ13 hf
          have hf := (hJ14 x12 σ13).symm.trans hf
          obtain ⟨h15, hf⟩ := gd_elim hf
          exact kw_zret C K h15 dX10_isDying_74 hf
        refine kw_if_eq C 63 dX10_isDying_42 rfl (fun c16 => ?_) (fun c16 => ?_)
        · have hf := if_p c16 hf
          refine kw_iload_n C dX10_isDying_63 rfl 0 rfl ?_
          refine kw_bipush C (50 : Int32) dX10_isDying_64 rfl ?_
          refine kw_icmp_lt C 73 dX10_isDying_66 rfl (fun c17 => ?_) (fun c17 => ?_)
          · have hf := if_p c17 hf
            refine kw_iconst C (0 : Int32) dX10_isDying_73 rfl ?_
            refine kw_sub [] _ rfl ?_
            exact kJ14 _ _ hf
          · have hf := if_n c17 hf
            refine kw_iconst C (1 : Int32) dX10_isDying_69 rfl ?_
            refine kw_goto C 74 dX10_isDying_70 rfl ?_
            refine kw_sub [] _ rfl ?_
            exact kJ14 _ _ hf
        · have hf := if_n c16 hf
          refine kw_iload_n C dX10_isDying_45 rfl 0 rfl ?_
          refine kw_aload_n C dX10_isDying_46 rfl 1 rfl ?_
          refine kw_bipush C (100 : Int32) dX10_isDying_47 rfl ?_
          obtain ⟨r19, σ20, hc18, hf⟩ := bI_elim hf
          refine kw_callVI C [.int (100 : Int32)] (kX10_number1 L D g t0 (100 : Int32) σ4 _ _ hc18) RX10 mV_X10_397 ⟨rfl, rfl⟩ dd_X10_number1 ⟨Nat.le_of_ble_eq_true rfl, Nat.le_of_ble_eq_true rfl⟩ _ (hO10 g σ4) rfl rfl rfl (Nat.le_of_ble_eq_true rfl) dX10_isDying_49 ?_
          refine kw_icmp_le C 59 dX10_isDying_52 rfl (fun c21 => ?_) (fun c21 => ?_)
          · have hf := if_p c21 hf
            refine kw_iconst C (0 : Int32) dX10_isDying_59 rfl ?_
            refine kw_goto C 74 dX10_isDying_60 rfl ?_
            refine kw_sub [] _ rfl ?_
            exact kJ14 _ _ hf
          · have hf := if_n c21 hf
            refine kw_iconst C (1 : Int32) dX10_isDying_55 rfl ?_
            refine kw_goto C 74 dX10_isDying_56 rfl ?_
            refine kw_sub [] _ rfl ?_
            exact kJ14 _ _ hf
      · have hf := if_p c11 hf
        refine kw_sub [0] _ rfl ?_
        exact kJ5 _ hf
  · have hf := if_n c1 hf
    refine kw_iconst C (0 : Int32) dX10_isDying_7 rfl ?_
    exact kw_zret C K (by decide) dX10_isDying_8 hf
set_option maxRecDepth 100000 in
set_option maxHeartbeats 4000000 in
theorem kX10_dies (L : Launch) (D : va_G) (g : GwT) (t0 : Nat) (p0 : Int32) (p1 : Int32) (σ : St) (σ0 : St) (hf : fX10_dies σ p0 p1 = some σ0) : CtV L D (ttG g) (wM g) t0 yX10_dies cX10_dies 4 none { frames := 4, cells := 0, slots := 0, locals := 97 } [.ref (g.1 0), .int p0, .int p1] σ σ0 := by
  refine CtV.of (own := RX10) (by decide) rfl (Nat.le_of_ble_eq_true rfl) [(0, .ref (g.1 0)), (1, .int p0), (2, .int p1)] rfl ?_
  intro X C hN K
  unfold fX10_dies at hf
  refine kw_bipush C (6 : Int32) dX10_dies_0 rfl ?_
  refine kw_iload_n C dX10_dies_2 rfl 1 rfl ?_
  refine kw_imul C dX10_dies_3 ?_
  refine kw_iload_n C dX10_dies_4 rfl 2 rfl ?_
  refine kw_iadd C dX10_dies_5 ?_
  obtain ⟨x1, ex1, hf⟩ := lt_elim hf
  refine kw_topi ex1 ?_
  refine kw_istore_n C dX10_dies_6 rfl hN (Nat.le_of_ble_eq_true rfl) [(3, .int x1), (0, .ref (g.1 0)), (1, .int p0), (2, .int p1)] rfl ?_
  refine kw_aload_n C dX10_dies_7 rfl 1 rfl ?_
  refine kw_get C inG10 _ (hO10 g σ) rfl 58 (Nat.le_of_ble_eq_true rfl) mf_10_121 rfl rfl dX10_dies_8 ?_
  refine kw_iload_n C dX10_dies_11 rfl 2 rfl ?_
  refine kw_dup2 C dX10_dies_12 rfl rfl ?_
  obtain ⟨h2, hf⟩ := gd_elim hf
  refine kw_iald C _ 0 (hA10_58 g σ) rfl h2 dX10_dies_13 ?_
  refine kw_iconst C (1 : Int32) dX10_dies_14 rfl ?_
  refine kw_iadd C dX10_dies_15 ?_
  obtain ⟨h3, hf⟩ := gd_elim hf
  obtain ⟨σ4, eσ4, hf⟩ := lt_elim hf
  refine kw_iast C _ 0 (hA10_58 g σ) rfl h3 ((hS10_58 g σ _).trans (congrArg (wM g) eσ4.symm)) dX10_dies_16 ?_
  refine kw_aload_n C dX10_dies_17 rfl 1 rfl ?_
  refine kw_get C inG10 _ (hO10 g σ4) rfl 48 (Nat.le_of_ble_eq_true rfl) mf_10_91 rfl rfl dX10_dies_18 ?_
  refine kw_iload_n C dX10_dies_21 rfl 0 rfl ?_
  obtain ⟨h5, hf⟩ := gd_elim hf
  refine kw_iald C _ 0 (hA10_48 g σ4) rfl h5 dX10_dies_22 ?_
  obtain ⟨J6, hJ6, hf⟩ := jnx1_elim hf
  have kJ6 : ∀ (u9 : Unit), J6 u9 = some σ0 → KW X σ4 41 [(0, .ref (g.1 0)), (1, .int p0), (2, .int p1), (3, .int x1)] [] := by
    clear hf
    intro u9 hf
    have hf := (hJ6 u9).symm.trans hf
    refine kw_aload_n C dX10_dies_41 rfl 0 rfl ?_
    refine kw_get C inG10 _ (hO10 g σ4) rfl 48 (Nat.le_of_ble_eq_true rfl) mf_10_91 rfl rfl dX10_dies_42 ?_
    refine kw_iload_n C dX10_dies_45 rfl 3 rfl ?_
    refine kw_aload_n C dX10_dies_46 rfl 0 rfl ?_
    refine kw_get C inG10 _ (hO10 g σ4) rfl 48 (Nat.le_of_ble_eq_true rfl) mf_10_91 rfl rfl dX10_dies_47 ?_
    refine kw_iload_n C dX10_dies_50 rfl 3 rfl ?_
    obtain ⟨h7, hf⟩ := gd_elim hf
    refine kw_iald C _ 0 (hA10_48 g σ4) rfl h7 dX10_dies_51 ?_
    obtain ⟨J9, hJ9, hf⟩ := jnx1_elim hf
    have kJ9 : ∀ (x8 : Int32), J9 x8 = some σ0 → KW X σ4 67 [(0, .ref (g.1 0)), (1, .int p0), (2, .int p1), (3, .int x1)] [.int x8, .int x1, .ref (g.2.1 0 48)] := by
      clear hf
      intro x8 hf
      have hf := (hJ9 x8).symm.trans hf
      obtain ⟨h10, hf⟩ := gd_elim hf
      obtain ⟨σ11, eσ11, hf⟩ := lt_elim hf
      refine kw_iast C _ 0 (hA10_48 g σ4) rfl h10 ((hS10_48 g σ4 _).trans (congrArg (wM g) eσ11.symm)) dX10_dies_67 ?_
      refine kw_aload_n C dX10_dies_68 rfl 0 rfl ?_
      refine kw_iload_n C dX10_dies_69 rfl 1 rfl ?_
      refine kw_iload_n C dX10_dies_70 rfl 2 rfl ?_
      obtain ⟨σ13, hc12, hf⟩ := bV_elim hf
      refine kw_callVV C [.int p0, .int p1] (kX10_layNames L D g t0 p0 p1 σ11 _ hc12) RX10 mV_X10_378 ⟨rfl, rfl⟩ dd_X10_layNames ⟨Nat.le_of_ble_eq_true rfl, Nat.le_of_ble_eq_true rfl⟩ _ (hO10 g σ11) rfl rfl rfl (Nat.le_of_ble_eq_true rfl) dX10_dies_71 ?_
      refine kw_aload_n C dX10_dies_74 rfl 0 rfl ?_
      refine kw_get C inG10 _ (hO10 g σ13) rfl 46 (Nat.le_of_ble_eq_true rfl) mf_10_85 rfl rfl dX10_dies_75 ?_
      refine kw_iload_n C dX10_dies_78 rfl 3 rfl ?_
      refine kw_aload_n C dX10_dies_79 rfl 0 rfl ?_
      refine kw_iconst C (1 : Int32) dX10_dies_80 rfl ?_
      refine kw_aload_n C dX10_dies_81 rfl 0 rfl ?_
      refine kw_get C inG10 _ (hO10 g σ13) rfl 46 (Nat.le_of_ble_eq_true rfl) mf_10_85 rfl rfl dX10_dies_82 ?_
      refine kw_iload_n C dX10_dies_85 rfl 3 rfl ?_
      obtain ⟨h14, hf⟩ := gd_elim hf
      refine kw_iald C _ 0 (hA10_46 g σ13) rfl h14 dX10_dies_86 ?_
      refine kw_sipush C (9999 : Int32) dX10_dies_87 rfl ?_
      obtain ⟨r16, σ17, hc15, hf⟩ := bI_elim hf
      refine kw_callVI C [.int (1 : Int32), .int (gA σ13 0 46 (Int32.toNatClampNeg x1)), .int (9999 : Int32)] (kX10_boundLaw L D g t0 (1 : Int32) (gA σ13 0 46 (Int32.toNatClampNeg x1)) (9999 : Int32) σ13 _ _ hc15) RX10 mV_X10_382 ⟨rfl, rfl⟩ dd_X10_boundLaw ⟨Nat.le_of_ble_eq_true rfl, Nat.le_of_ble_eq_true rfl⟩ _ (hO10 g σ13) rfl rfl rfl (Nat.le_of_ble_eq_true rfl) dX10_dies_90 ?_
      obtain ⟨h18, hf⟩ := gd_elim hf
      obtain ⟨σ19, eσ19, hf⟩ := lt_elim hf
      refine kw_iast C _ 0 (hA10_46 g σ17) rfl h18 ((hS10_46 g σ17 _).trans (congrArg (wM g) eσ19.symm)) dX10_dies_93 ?_
      refine kw_aload_n C dX10_dies_94 rfl 0 rfl ?_
      refine kw_get C inG10 _ (hO10 g σ19) rfl 47 (Nat.le_of_ble_eq_true rfl) mf_10_88 rfl rfl dX10_dies_95 ?_
      refine kw_iload_n C dX10_dies_98 rfl 3 rfl ?_
      refine kw_bipush C (20 : Int32) dX10_dies_99 rfl ?_
      obtain ⟨h20, hf⟩ := gd_elim hf
      obtain ⟨σ21, eσ21, hf⟩ := lt_elim hf
      refine kw_iast C _ 0 (hA10_47 g σ19) rfl h20 ((hS10_47 g σ19 _).trans (congrArg (wM g) eσ21.symm)) dX10_dies_101 ?_
      exact kw_vret (u9 := ()) C K dX10_dies_102 hf
    refine kw_if_le C 66 dX10_dies_52 rfl (fun c22 => ?_) (fun c22 => ?_)
    · have hf := if_p c22 hf
      refine kw_iconst C (0 : Int32) dX10_dies_66 rfl ?_
      exact kJ9 _ hf
    · have hf := if_n c22 hf
      refine kw_aload_n C dX10_dies_55 rfl 0 rfl ?_
      refine kw_get C inG10 _ (hO10 g σ4) rfl 48 (Nat.le_of_ble_eq_true rfl) mf_10_91 rfl rfl dX10_dies_56 ?_
      refine kw_iload_n C dX10_dies_59 rfl 3 rfl ?_
      obtain ⟨h23, hf⟩ := gd_elim hf
      refine kw_iald C _ 0 (hA10_48 g σ4) rfl h23 dX10_dies_60 ?_
      refine kw_iconst C (1 : Int32) dX10_dies_61 rfl ?_
      refine kw_isub C dX10_dies_62 ?_
      refine kw_goto C 67 dX10_dies_63 rfl ?_
      exact kJ9 _ hf
  refine kw_if_ne C 41 dX10_dies_23 rfl (fun c24 => ?_) (fun c24 => ?_)
  · have hf := if_n c24 hf
    refine kw_sub [1, 2, 3, 0] _ rfl ?_
    exact kJ6 _ hf
  · have hf := if_p c24 hf
    refine kw_aload_n C dX10_dies_26 rfl 1 rfl ?_
    refine kw_get C inG10 _ (hO10 g σ4) rfl 63 (Nat.le_of_ble_eq_true rfl) mf_10_359 rfl rfl dX10_dies_27 ?_
    refine kw_if_ne C 41 dX10_dies_30 rfl (fun c25 => ?_) (fun c25 => ?_)
    · have hf := if_n c25 hf
      refine kw_sub [1, 2, 3, 0] _ rfl ?_
      exact kJ6 _ hf
    · have hf := if_p c25 hf
      refine kw_aload_n C dX10_dies_33 rfl 1 rfl ?_
      refine kw_get C inG10 _ (hO10 g σ4) rfl 49 (Nat.le_of_ble_eq_true rfl) mf_10_94 rfl rfl dX10_dies_34 ?_
      refine kw_iload_n C dX10_dies_37 rfl 0 rfl ?_
      refine kw_iconst C (0 : Int32) dX10_dies_38 rfl ?_
      obtain ⟨h26, hf⟩ := gd_elim hf
      obtain ⟨σ27, eσ27, hf⟩ := lt_elim hf
      refine kw_zast C _ 3 (hA10_49 g σ4) rfl h26 ((hS10_49 g σ4 _).trans (congrArg (wM g) eσ27.symm)) dX10_dies_39 ?_
      exact kw_vret (u9 := ()) C K dX10_dies_40 hf
set_option maxRecDepth 100000 in
set_option maxHeartbeats 4000000 in
theorem kX10_yearGoes (L : Launch) (D : va_G) (g : GwT) (t0 : Nat) (p0 : Int32) (σ : St) (σ0 : St) (hf : fX10_yearGoes σ p0 = some σ0) : CtV L D (ttG g) (wM g) t0 yX10_yearGoes cX10_yearGoes 4 none { frames := 6, cells := 0, slots := 0, locals := 143 } [.ref (g.1 0), .int p0] σ σ0 := by
  refine CtV.of (own := RX10) (by decide) rfl (Nat.le_of_ble_eq_true rfl) [(0, .ref (g.1 0)), (1, .int p0)] rfl ?_
  intro X C hN K
  unfold fX10_yearGoes at hf
  refine kw_aload_n C dX10_yearGoes_0 rfl 0 rfl ?_
  refine kw_iconst C (-1 : Int32) dX10_yearGoes_1 rfl ?_
  obtain ⟨σ1, eσ1, hf⟩ := lt_elim hf
  refine kw_put C inG10 tyX10 tyX10_ok nmX10 _ (hO10 g σ) rfl 66 (Nat.le_of_ble_eq_true rfl) mf_10_412 rfl rfl (tyX10_ok 66 (Nat.le_of_ble_eq_true rfl)) rfl rfl (Nat.le_of_ble_eq_true rfl) ((hF10_66 g σ _).trans (congrArg (wM g) eσ1.symm)) dX10_yearGoes_2 ?_
  refine kw_aload_n C dX10_yearGoes_5 rfl 0 rfl ?_
  refine kw_get C inG10 _ (hO10 g σ1) rfl 57 (Nat.le_of_ble_eq_true rfl) mf_10_118 rfl rfl dX10_yearGoes_6 ?_
  refine kw_iload_n C dX10_yearGoes_9 rfl 1 rfl ?_
  obtain ⟨h2, hf⟩ := gd_elim hf
  refine kw_zald C _ 3 (hA10_57 g σ1) rfl h2 dX10_yearGoes_10 ?_
  obtain ⟨J4, hJ4, hf⟩ := jnx1_elim hf
  have kJ4 : ∀ (σ3 : St), J4 σ3 = some σ0 → KW X σ3 171 [(0, .ref (g.1 0)), (1, .int p0)] [] := by
    clear hf
    intro σ3 hf
    have hf := (hJ4 σ3).symm.trans hf
    refine kw_aload_n C dX10_yearGoes_171 rfl 0 rfl ?_
    refine kw_iload_n C dX10_yearGoes_172 rfl 1 rfl ?_
    obtain ⟨σ6, hc5, hf⟩ := bV_elim hf
    refine kw_callVV C [.int p0] (kX10_partsGo L D g t0 p0 σ3 _ hc5) RX10 mV_X10_430 ⟨rfl, rfl⟩ dd_X10_partsGo ⟨Nat.le_of_ble_eq_true rfl, Nat.le_of_ble_eq_true rfl⟩ _ (hO10 g σ3) rfl rfl rfl (Nat.le_of_ble_eq_true rfl) dX10_yearGoes_173 ?_
    refine kw_aload_n C dX10_yearGoes_176 rfl 0 rfl ?_
    refine kw_get C inG10 _ (hO10 g σ6) rfl 59 (Nat.le_of_ble_eq_true rfl) mf_10_124 rfl rfl dX10_yearGoes_177 ?_
    refine kw_iload_n C dX10_yearGoes_180 rfl 1 rfl ?_
    refine kw_dup2 C dX10_yearGoes_181 rfl rfl ?_
    obtain ⟨h7, hf⟩ := gd_elim hf
    refine kw_iald C _ 0 (hA10_59 g σ6) rfl h7 dX10_yearGoes_182 ?_
    refine kw_iconst C (1 : Int32) dX10_yearGoes_183 rfl ?_
    refine kw_iadd C dX10_yearGoes_184 ?_
    obtain ⟨h8, hf⟩ := gd_elim hf
    obtain ⟨σ9, eσ9, hf⟩ := lt_elim hf
    refine kw_iast C _ 0 (hA10_59 g σ6) rfl h8 ((hS10_59 g σ6 _).trans (congrArg (wM g) eσ9.symm)) dX10_yearGoes_185 ?_
    exact kw_vret (u9 := ()) C K dX10_yearGoes_186 hf
  refine kw_if_ne C 171 dX10_yearGoes_11 rfl (fun c10 => ?_) (fun c10 => ?_)
  · have hf := if_n c10 hf
    exact kJ4 _ hf
  · have hf := if_p c10 hf
    refine kw_iconst C (0 : Int32) dX10_yearGoes_14 rfl ?_
    refine kw_istore_n C dX10_yearGoes_15 rfl hN (Nat.le_of_ble_eq_true rfl) [(2, .int (0 : Int32)), (0, .ref (g.1 0)), (1, .int p0)] rfl ?_
    refine kw_sub [1, 2, 0] _ rfl ?_
    refine lpx2_walk (P := fun (x11 : Int32) (σ12 : St) => KW X σ12 16 [(0, .ref (g.1 0)), (1, .int p0), (2, .int x11)] []) ?_ FU _ _ hf
    intro self13 x11 σ12 ih14 hf
    refine kw_iload_n C dX10_yearGoes_16 rfl 2 rfl ?_
    refine kw_aload_n C dX10_yearGoes_17 rfl 0 rfl ?_
    refine kw_get C inG10 _ (hO10 g σ12) rfl 12 (Nat.le_of_ble_eq_true rfl) mf_10_225 rfl rfl dX10_yearGoes_18 ?_
    refine kw_icmp_ge C 94 dX10_yearGoes_21 rfl (fun c15 => ?_) (fun c15 => ?_)
    · have hf := if_p c15 hf
      refine kw_aload_n C dX10_yearGoes_94 rfl 0 rfl ?_
      refine kw_iload_n C dX10_yearGoes_95 rfl 1 rfl ?_
      obtain ⟨r17, hc16, hf⟩ := bd_elim hf
      refine kw_callVI C [.int p0] (kX10_turnOf L D g t0 p0 σ12 _ hc16) RX10 mV_X10_421 ⟨rfl, rfl⟩ dd_X10_turnOf ⟨Nat.le_of_ble_eq_true rfl, Nat.le_of_ble_eq_true rfl⟩ _ (hO10 g σ12) rfl rfl rfl (Nat.le_of_ble_eq_true rfl) dX10_yearGoes_96 ?_
      refine kw_istore_n C dX10_yearGoes_99 rfl hN (Nat.le_of_ble_eq_true rfl) [(2, .int r17), (0, .ref (g.1 0)), (1, .int p0)] rfl ?_
      refine kw_iload_n C dX10_yearGoes_100 rfl 0 rfl ?_
      obtain ⟨J19, hJ19, hf⟩ := jnx1_elim hf
      have kJ19 : ∀ (σ18 : St), J19 σ18 = some σ0 → KW X σ18 119 [(0, .ref (g.1 0)), (1, .int p0)] [] := by
        clear hf
        intro σ18 hf
        have hf := (hJ19 σ18).symm.trans hf
        refine kw_aload_n C dX10_yearGoes_119 rfl 0 rfl ?_
        refine kw_get C inG10 _ (hO10 g σ18) rfl 66 (Nat.le_of_ble_eq_true rfl) mf_10_412 rfl rfl dX10_yearGoes_120 ?_
        refine kw_if_ge C 171 dX10_yearGoes_123 rfl (fun c20 => ?_) (fun c20 => ?_)
        · have hf := if_p c20 hf
          exact kJ4 _ hf
        · have hf := if_n c20 hf
          refine kw_aload_n C dX10_yearGoes_126 rfl 0 rfl ?_
          refine kw_get C inG10 _ (hO10 g σ18) rfl 55 (Nat.le_of_ble_eq_true rfl) mf_10_112 rfl rfl dX10_yearGoes_127 ?_
          refine kw_iload_n C dX10_yearGoes_130 rfl 1 rfl ?_
          obtain ⟨h21, hf⟩ := gd_elim hf
          refine kw_iald C _ 0 (hA10_55 g σ18) rfl h21 dX10_yearGoes_131 ?_
          refine kw_if_lt C 171 dX10_yearGoes_132 rfl (fun c22 => ?_) (fun c22 => ?_)
          · have hf := if_p c22 hf
            exact kJ4 _ hf
          · have hf := if_n c22 hf
            refine kw_aload_n C dX10_yearGoes_135 rfl 0 rfl ?_
            refine kw_get C inG10 _ (hO10 g σ18) rfl 56 (Nat.le_of_ble_eq_true rfl) mf_10_115 rfl rfl dX10_yearGoes_136 ?_
            refine kw_iload_n C dX10_yearGoes_139 rfl 1 rfl ?_
            refine kw_dup2 C dX10_yearGoes_140 rfl rfl ?_
            obtain ⟨h23, hf⟩ := gd_elim hf
            refine kw_iald C _ 0 (hA10_56 g σ18) rfl h23 dX10_yearGoes_141 ?_
            refine kw_iconst C (1 : Int32) dX10_yearGoes_142 rfl ?_
            refine kw_iadd C dX10_yearGoes_143 ?_
            obtain ⟨h24, hf⟩ := gd_elim hf
            obtain ⟨σ25, eσ25, hf⟩ := lt_elim hf
            refine kw_iast C _ 0 (hA10_56 g σ18) rfl h24 ((hS10_56 g σ18 _).trans (congrArg (wM g) eσ25.symm)) dX10_yearGoes_144 ?_
            refine kw_aload_n C dX10_yearGoes_145 rfl 0 rfl ?_
            refine kw_get C inG10 _ (hO10 g σ25) rfl 57 (Nat.le_of_ble_eq_true rfl) mf_10_118 rfl rfl dX10_yearGoes_146 ?_
            refine kw_iload_n C dX10_yearGoes_149 rfl 1 rfl ?_
            refine kw_aload_n C dX10_yearGoes_150 rfl 0 rfl ?_
            refine kw_get C inG10 _ (hO10 g σ25) rfl 56 (Nat.le_of_ble_eq_true rfl) mf_10_115 rfl rfl dX10_yearGoes_151 ?_
            refine kw_iload_n C dX10_yearGoes_154 rfl 1 rfl ?_
            obtain ⟨h26, hf⟩ := gd_elim hf
            refine kw_iald C _ 0 (hA10_56 g σ25) rfl h26 dX10_yearGoes_155 ?_
            refine kw_aload_n C dX10_yearGoes_156 rfl 0 rfl ?_
            refine kw_get C inG10 _ (hO10 g σ25) rfl 19 (Nat.le_of_ble_eq_true rfl) mf_10_24 rfl rfl dX10_yearGoes_157 ?_
            refine kw_iconst C (0 : Int32) dX10_yearGoes_160 rfl ?_
            refine kw_iald C _ 0 (hA10_19 g σ25) rfl (by decide) dX10_yearGoes_161 ?_
            obtain ⟨J28, hJ28, hf⟩ := jnx1_elim hf
            have kJ28 : ∀ (x27 : Int32), J28 x27 = some σ0 → KW X σ25 170 [(0, .ref (g.1 0)), (1, .int p0)] [.int x27, .int p0, .ref (g.2.1 0 57)] := by
              clear hf
              intro x27 hf
              have hf := (hJ28 x27).symm.trans hf
              obtain ⟨h29, hf⟩ := gd_elim hf
              obtain ⟨σ30, eσ30, hf⟩ := lt_elim hf
              refine kw_zast C _ 3 (hA10_57 g σ25) rfl h29 ((hS10_57 g σ25 _).trans (congrArg (wM g) eσ30.symm)) dX10_yearGoes_170 ?_
              exact kJ4 _ hf
            refine kw_icmp_lt C 169 dX10_yearGoes_162 rfl (fun c31 => ?_) (fun c31 => ?_)
            · have hf := if_p c31 hf
              refine kw_iconst C (0 : Int32) dX10_yearGoes_169 rfl ?_
              exact kJ28 _ hf
            · have hf := if_n c31 hf
              refine kw_iconst C (1 : Int32) dX10_yearGoes_165 rfl ?_
              refine kw_goto C 170 dX10_yearGoes_166 rfl ?_
              exact kJ28 _ hf
      refine kw_if_lt C 119 dX10_yearGoes_101 rfl (fun c32 => ?_) (fun c32 => ?_)
      · have hf := if_p c32 hf
        refine kw_sub [1, 2] _ rfl ?_
        exact kJ19 _ hf
      · have hf := if_n c32 hf
        refine kw_aload_n C dX10_yearGoes_104 rfl 1 rfl ?_
        refine kw_iload_n C dX10_yearGoes_105 rfl 2 rfl ?_
        refine kw_iload_n C dX10_yearGoes_106 rfl 0 rfl ?_
        obtain ⟨r34, σ35, hc33, hf⟩ := bI_elim hf
        refine kw_callVI C [.int p0, .int r17] (kX10_wantsRaise L D g t0 p0 r17 σ12 _ _ hc33) RX10 mV_X10_424 ⟨rfl, rfl⟩ dd_X10_wantsRaise ⟨Nat.le_of_ble_eq_true rfl, Nat.le_of_ble_eq_true rfl⟩ _ (hO10 g σ12) rfl rfl rfl (Nat.le_of_ble_eq_true rfl) dX10_yearGoes_107 ?_
        refine kw_if_eq C 119 dX10_yearGoes_110 rfl (fun c36 => ?_) (fun c36 => ?_)
        · have hf := if_p c36 hf
          refine kw_sub [1, 2] _ rfl ?_
          exact kJ19 _ hf
        · have hf := if_n c36 hf
          refine kw_aload_n C dX10_yearGoes_113 rfl 1 rfl ?_
          refine kw_iload_n C dX10_yearGoes_114 rfl 2 rfl ?_
          refine kw_iload_n C dX10_yearGoes_115 rfl 0 rfl ?_
          obtain ⟨σ38, hc37, hf⟩ := bV_elim hf
          refine kw_callVV C [.int p0, .int r17] (kX10_raises L D g t0 p0 r17 σ35 _ hc37) RX10 mV_X10_427 ⟨rfl, rfl⟩ dd_X10_raises ⟨Nat.le_of_ble_eq_true rfl, Nat.le_of_ble_eq_true rfl⟩ _ (hO10 g σ35) rfl rfl rfl (Nat.le_of_ble_eq_true rfl) dX10_yearGoes_116 ?_
          refine kw_sub [1, 2] _ rfl ?_
          exact kJ19 _ hf
    · have hf := if_n c15 hf
      refine kw_bipush C (6 : Int32) dX10_yearGoes_24 rfl ?_
      refine kw_iload_n C dX10_yearGoes_26 rfl 1 rfl ?_
      refine kw_imul C dX10_yearGoes_27 ?_
      refine kw_iload_n C dX10_yearGoes_28 rfl 2 rfl ?_
      refine kw_iadd C dX10_yearGoes_29 ?_
      obtain ⟨x39, ex39, hf⟩ := lt_elim hf
      refine kw_topi ex39 ?_
      refine kw_istore_n C dX10_yearGoes_30 rfl hN (Nat.le_of_ble_eq_true rfl) [(3, .int x39), (0, .ref (g.1 0)), (1, .int p0), (2, .int x11)] rfl ?_
      refine kw_aload_n C dX10_yearGoes_31 rfl 1 rfl ?_
      refine kw_get C inG10 _ (hO10 g σ12) rfl 49 (Nat.le_of_ble_eq_true rfl) mf_10_94 rfl rfl dX10_yearGoes_32 ?_
      refine kw_iload_n C dX10_yearGoes_35 rfl 0 rfl ?_
      obtain ⟨h40, hf⟩ := gd_elim hf
      refine kw_zald C _ 3 (hA10_49 g σ12) rfl h40 dX10_yearGoes_36 ?_
      obtain ⟨J42, hJ42, hf⟩ := jnx1_elim hf
      have kJ42 : ∀ (σ41 : St), J42 σ41 = some σ0 → KW X σ41 88 [(0, .ref (g.1 0)), (1, .int p0), (2, .int x11)] [] := by
        clear hf
        intro σ41 hf
        have hf := (hJ42 σ41).symm.trans hf
        obtain ⟨x43, ex43, hf⟩ := lt_elim hf
        refine kw_iinc C x43 dX10_yearGoes_88 2 rfl ex43.symm hN (Nat.le_of_ble_eq_true rfl) [(2, .int x43), (0, .ref (g.1 0)), (1, .int p0)] rfl ?_
        refine kw_goto C 16 dX10_yearGoes_91 rfl ?_
        refine kw_sub [1, 2, 0] _ rfl ?_
        exact ih14 _ _ hf
      refine kw_if_ne C 43 dX10_yearGoes_37 rfl (fun c44 => ?_) (fun c44 => ?_)
      · have hf := if_n c44 hf
        refine kw_aload_n C dX10_yearGoes_43 rfl 1 rfl ?_
        refine kw_get C inG10 _ (hO10 g σ12) rfl 47 (Nat.le_of_ble_eq_true rfl) mf_10_88 rfl rfl dX10_yearGoes_44 ?_
        refine kw_iload_n C dX10_yearGoes_47 rfl 0 rfl ?_
        refine kw_aload_n C dX10_yearGoes_48 rfl 1 rfl ?_
        refine kw_get C inG10 _ (hO10 g σ12) rfl 47 (Nat.le_of_ble_eq_true rfl) mf_10_88 rfl rfl dX10_yearGoes_49 ?_
        refine kw_iload_n C dX10_yearGoes_52 rfl 0 rfl ?_
        obtain ⟨h45, hf⟩ := gd_elim hf
        refine kw_iald C _ 0 (hA10_47 g σ12) rfl h45 dX10_yearGoes_53 ?_
        refine kw_bipush C (99 : Int32) dX10_yearGoes_54 rfl ?_
        obtain ⟨J47, hJ47, hf⟩ := jnx1_elim hf
        have kJ47 : ∀ (x46 : Int32), J47 x46 = some σ0 → KW X σ12 72 [(0, .ref (g.1 0)), (1, .int p0), (2, .int x11)] [.int x46, .int x39, .ref (g.2.1 0 47)] := by
          clear hf
          intro x46 hf
          have hf := (hJ47 x46).symm.trans hf
          obtain ⟨h48, hf⟩ := gd_elim hf
          obtain ⟨σ49, eσ49, hf⟩ := lt_elim hf
          refine kw_iast C _ 0 (hA10_47 g σ12) rfl h48 ((hS10_47 g σ12 _).trans (congrArg (wM g) eσ49.symm)) dX10_yearGoes_72 ?_
          refine kw_aload_n C dX10_yearGoes_73 rfl 0 rfl ?_
          refine kw_iload_n C dX10_yearGoes_74 rfl 1 rfl ?_
          refine kw_iload_n C dX10_yearGoes_75 rfl 2 rfl ?_
          obtain ⟨r51, σ52, hc50, hf⟩ := bI_elim hf
          refine kw_callVI C [.int p0, .int x11] (kX10_isDying L D g t0 p0 x11 σ49 _ _ hc50) RX10 mV_X10_415 ⟨rfl, rfl⟩ dd_X10_isDying ⟨Nat.le_of_ble_eq_true rfl, Nat.le_of_ble_eq_true rfl⟩ _ (hO10 g σ49) rfl rfl rfl (Nat.le_of_ble_eq_true rfl) dX10_yearGoes_76 ?_
          refine kw_if_eq C 88 dX10_yearGoes_79 rfl (fun c53 => ?_) (fun c53 => ?_)
          · have hf := if_p c53 hf
            exact kJ42 _ hf
          · have hf := if_n c53 hf
            refine kw_aload_n C dX10_yearGoes_82 rfl 0 rfl ?_
            refine kw_iload_n C dX10_yearGoes_83 rfl 1 rfl ?_
            refine kw_iload_n C dX10_yearGoes_84 rfl 2 rfl ?_
            obtain ⟨σ55, hc54, hf⟩ := bV_elim hf
            refine kw_callVV C [.int p0, .int x11] (kX10_dies L D g t0 p0 x11 σ52 _ hc54) RX10 mV_X10_418 ⟨rfl, rfl⟩ dd_X10_dies ⟨Nat.le_of_ble_eq_true rfl, Nat.le_of_ble_eq_true rfl⟩ _ (hO10 g σ52) rfl rfl rfl (Nat.le_of_ble_eq_true rfl) dX10_yearGoes_85 ?_
            exact kJ42 _ hf
        refine kw_icmp_ge C 70 dX10_yearGoes_56 rfl (fun c56 => ?_) (fun c56 => ?_)
        · have hf := if_p c56 hf
          refine kw_bipush C (99 : Int32) dX10_yearGoes_70 rfl ?_
          refine kw_sub [1, 2, 3] _ rfl ?_
          exact kJ47 _ hf
        · have hf := if_n c56 hf
          refine kw_aload_n C dX10_yearGoes_59 rfl 1 rfl ?_
          refine kw_get C inG10 _ (hO10 g σ12) rfl 47 (Nat.le_of_ble_eq_true rfl) mf_10_88 rfl rfl dX10_yearGoes_60 ?_
          refine kw_iload_n C dX10_yearGoes_63 rfl 0 rfl ?_
          obtain ⟨h57, hf⟩ := gd_elim hf
          refine kw_iald C _ 0 (hA10_47 g σ12) rfl h57 dX10_yearGoes_64 ?_
          refine kw_iconst C (1 : Int32) dX10_yearGoes_65 rfl ?_
          refine kw_iadd C dX10_yearGoes_66 ?_
          refine kw_goto C 72 dX10_yearGoes_67 rfl ?_
          refine kw_sub [1, 2, 3] _ rfl ?_
          exact kJ47 _ hf
      · have hf := if_p c44 hf
        refine kw_goto C 88 dX10_yearGoes_40 rfl ?_
        refine kw_sub [1, 2, 3] _ rfl ?_
        exact kJ42 _ hf
set_option maxRecDepth 100000 in
set_option maxHeartbeats 4000000 in
theorem kX10_go (L : Launch) (D : va_G) (g : GwT) (t0 : Nat) (p0 : Int32) (σ : St) (r0 : Int32) (σ0 : St) (hf : fX10_go σ p0 = some (r0, σ0)) : CtI L D (ttG g) (wM g) t0 yX10_go cX10_go 3 (some .int) { frames := 7, cells := 0, slots := 0, locals := 166 } [.ref (g.1 0), .int p0] σ r0 σ0 := by
  refine CtI.of (own := RX10) (by decide) rfl (Nat.le_of_ble_eq_true rfl) [(0, .ref (g.1 0)), (1, .int p0)] rfl ?_
  intro X C hN K
  unfold fX10_go at hf
  refine kw_aload_n C dX10_go_0 rfl 0 rfl ?_
  refine kw_iconst C (0 : Int32) dX10_go_1 rfl ?_
  obtain ⟨σ1, eσ1, hf⟩ := lt_elim hf
  refine kw_put C inG10 tyX10 tyX10_ok nmX10 _ (hO10 g σ) rfl 2 (Nat.le_of_ble_eq_true rfl) mf_10_151 rfl rfl (tyX10_ok 2 (Nat.le_of_ble_eq_true rfl)) rfl rfl (Nat.le_of_ble_eq_true rfl) ((hF10_2 g σ _).trans (congrArg (wM g) eσ1.symm)) dX10_go_2 ?_
  refine kw_iload_n C dX10_go_5 rfl 1 rfl ?_
  refine kw_iconst C (0 : Int32) dX10_go_6 rfl ?_
  refine kw_bipush C (99 : Int32) dX10_go_7 rfl ?_
  obtain ⟨r3, hc2, hf⟩ := bd_elim hf
  refine kw_callSI C [.int p0, .int (0 : Int32), .int (99 : Int32)] (kX10_isIn L D g t0 p0 (0 : Int32) (99 : Int32) σ1 _ hc2) mS_X10_196 ⟨rfl, rfl⟩ dd_X10_isIn ⟨Nat.le_of_ble_eq_true rfl, Nat.le_of_ble_eq_true rfl⟩ rfl (Nat.le_of_ble_eq_true rfl) dX10_go_9 ?_
  obtain ⟨J4, hJ4, hf⟩ := jnx1_elim hf
  have kJ4 : ∀ (u9 : Unit), J4 u9 = some (r0, σ0) → KW X σ1 29 [] [] := by
    clear hf
    intro u9 hf
    have hf := (hJ4 u9).symm.trans hf
    refine kw_iconst C (-1 : Int32) dX10_go_29 rfl ?_
    exact kw_iret C K dX10_go_30 hf
  refine kw_if_eq C 29 dX10_go_12 rfl (fun c5 => ?_) (fun c5 => ?_)
  · have hf := if_p c5 hf
    refine kw_sub [] _ rfl ?_
    exact kJ4 _ hf
  · have hf := if_n c5 hf
    refine kw_aload_n C dX10_go_15 rfl 0 rfl ?_
    refine kw_get C inG10 _ (hO10 g σ1) rfl 59 (Nat.le_of_ble_eq_true rfl) mf_10_124 rfl rfl dX10_go_16 ?_
    refine kw_iconst C (0 : Int32) dX10_go_19 rfl ?_
    refine kw_iald C _ 0 (hA10_59 g σ1) rfl (by decide) dX10_go_20 ?_
    refine kw_iload_n C dX10_go_21 rfl 1 rfl ?_
    refine kw_iadd C dX10_go_22 ?_
    refine kw_sipush C (9000 : Int32) dX10_go_23 rfl ?_
    refine kw_icmp_le C 31 dX10_go_26 rfl (fun c6 => ?_) (fun c6 => ?_)
    · have hf := if_p c6 hf
      refine kw_aload_n C dX10_go_31 rfl 0 rfl ?_
      obtain ⟨σ8, hc7, hf⟩ := bV_elim hf
      refine kw_callVV C [] (kX10_plainTried L D g t0 σ1 _ hc7) RX10 mV_X10_341 ⟨rfl, rfl⟩ dd_X10_plainTried ⟨Nat.le_of_ble_eq_true rfl, Nat.le_of_ble_eq_true rfl⟩ _ (hO10 g σ1) rfl rfl rfl (Nat.le_of_ble_eq_true rfl) dX10_go_32 ?_
      refine kw_aload_n C dX10_go_35 rfl 0 rfl ?_
      refine kw_iconst C (1 : Int32) dX10_go_36 rfl ?_
      obtain ⟨σ9, eσ9, hf⟩ := lt_elim hf
      refine kw_put C inG10 tyX10 tyX10_ok nmX10 _ (hO10 g σ8) rfl 61 (Nat.le_of_ble_eq_true rfl) mf_10_353 rfl rfl (tyX10_ok 61 (Nat.le_of_ble_eq_true rfl)) (narrow_bz (by decide)) (fits_bz (by decide)) (Nat.le_of_ble_eq_true rfl) ((hF10_61 g σ8 _).trans (congrArg (wM g) eσ9.symm)) dX10_go_37 ?_
      refine kw_iconst C (0 : Int32) dX10_go_40 rfl ?_
      refine kw_istore_n C dX10_go_41 rfl hN (Nat.le_of_ble_eq_true rfl) [(2, .int (0 : Int32)), (0, .ref (g.1 0)), (1, .int p0)] rfl ?_
      refine kw_sub [1, 2, 0] _ rfl ?_
      refine lpx2_walk (P := fun (x10 : Int32) (σ11 : St) => KW X σ11 42 [(0, .ref (g.1 0)), (1, .int p0), (2, .int x10)] []) ?_ FU _ _ hf
      intro self12 x10 σ11 ih13 hf
      refine kw_iload_n C dX10_go_42 rfl 2 rfl ?_
      refine kw_iload_n C dX10_go_43 rfl 1 rfl ?_
      refine kw_icmp_ge C 58 dX10_go_44 rfl (fun c14 => ?_) (fun c14 => ?_)
      · have hf := if_p c14 hf
        refine kw_aload_n C dX10_go_58 rfl 0 rfl ?_
        refine kw_iconst C (0 : Int32) dX10_go_59 rfl ?_
        obtain ⟨σ15, eσ15, hf⟩ := lt_elim hf
        refine kw_put C inG10 tyX10 tyX10_ok nmX10 _ (hO10 g σ11) rfl 61 (Nat.le_of_ble_eq_true rfl) mf_10_353 rfl rfl (tyX10_ok 61 (Nat.le_of_ble_eq_true rfl)) (narrow_bz (by decide)) (fits_bz (by decide)) (Nat.le_of_ble_eq_true rfl) ((hF10_61 g σ11 _).trans (congrArg (wM g) eσ15.symm)) dX10_go_60 ?_
        refine kw_aload_n C dX10_go_63 rfl 0 rfl ?_
        refine kw_iload_n C dX10_go_64 rfl 1 rfl ?_
        obtain ⟨J17, hJ17, hf⟩ := jnx1_elim hf
        have kJ17 : ∀ (x16 : Int32), J17 x16 = some (r0, σ0) → KW X σ15 76 [(0, .ref (g.1 0))] [.int x16, .ref (g.1 0)] := by
          clear hf
          intro x16 hf
          have hf := (hJ17 x16).symm.trans hf
          obtain ⟨σ18, eσ18, hf⟩ := lt_elim hf
          refine kw_put C inG10 tyX10 tyX10_ok nmX10 _ (hO10 g σ15) rfl 71 (Nat.le_of_ble_eq_true rfl) mf_10_347 rfl rfl (tyX10_ok 71 (Nat.le_of_ble_eq_true rfl)) rfl rfl (Nat.le_of_ble_eq_true rfl) ((hF10_71 g σ15 _).trans (congrArg (wM g) eσ18.symm)) dX10_go_76 ?_
          refine kw_aload_n C dX10_go_79 rfl 0 rfl ?_
          refine kw_get C inG10 _ (hO10 g σ18) rfl 59 (Nat.le_of_ble_eq_true rfl) mf_10_124 rfl rfl dX10_go_80 ?_
          refine kw_iconst C (0 : Int32) dX10_go_83 rfl ?_
          refine kw_iald C _ 0 (hA10_59 g σ18) rfl (by decide) dX10_go_84 ?_
          exact kw_iret C K dX10_go_85 hf
        refine kw_if_le C 72 dX10_go_65 rfl (fun c19 => ?_) (fun c19 => ?_)
        · have hf := if_p c19 hf
          refine kw_aload_n C dX10_go_72 rfl 0 rfl ?_
          refine kw_get C inG10 _ (hO10 g σ15) rfl 71 (Nat.le_of_ble_eq_true rfl) mf_10_347 rfl rfl dX10_go_73 ?_
          refine kw_sub [0] _ rfl ?_
          exact kJ17 _ hf
        · have hf := if_n c19 hf
          refine kw_iconst C (0 : Int32) dX10_go_68 rfl ?_
          refine kw_goto C 76 dX10_go_69 rfl ?_
          refine kw_sub [0] _ rfl ?_
          exact kJ17 _ hf
      · have hf := if_n c14 hf
        refine kw_aload_n C dX10_go_47 rfl 0 rfl ?_
        refine kw_iconst C (0 : Int32) dX10_go_48 rfl ?_
        obtain ⟨σ21, hc20, hf⟩ := bV_elim hf
        refine kw_callVV C [.int (0 : Int32)] (kX10_yearGoes L D g t0 (0 : Int32) σ11 _ hc20) RX10 mV_X10_433 ⟨rfl, rfl⟩ dd_X10_yearGoes ⟨Nat.le_of_ble_eq_true rfl, Nat.le_of_ble_eq_true rfl⟩ _ (hO10 g σ11) rfl rfl rfl (Nat.le_of_ble_eq_true rfl) dX10_go_49 ?_
        obtain ⟨x22, ex22, hf⟩ := lt_elim hf
        refine kw_iinc C x22 dX10_go_52 2 rfl ex22.symm hN (Nat.le_of_ble_eq_true rfl) [(2, .int x22), (0, .ref (g.1 0)), (1, .int p0)] rfl ?_
        refine kw_goto C 42 dX10_go_55 rfl ?_
        refine kw_sub [1, 2, 0] _ rfl ?_
        exact ih13 _ _ hf
    · have hf := if_n c6 hf
      refine kw_sub [] _ rfl ?_
      exact kJ4 _ hf
set_option maxRecDepth 100000 in
set_option maxHeartbeats 4000000 in
theorem kX10_layTried (L : Launch) (D : va_G) (g : GwT) (t0 : Nat) (σ : St) (σ0 : St) (hf : fX10_layTried σ  = some σ0) : CtV L D (ttG g) (wM g) t0 yX10_layTried cX10_layTried 2 none { frames := 1, cells := 0, slots := 0, locals := 20 } [.ref (g.1 0)] σ σ0 := by
  refine CtV.of (own := RX10) (by decide) rfl (Nat.le_of_ble_eq_true rfl) [(0, .ref (g.1 0))] rfl ?_
  intro X C hN K
  unfold fX10_layTried at hf
  refine kw_iconst C (0 : Int32) dX10_layTried_0 rfl ?_
  refine kw_istore_n C dX10_layTried_1 rfl hN (Nat.le_of_ble_eq_true rfl) [(1, .int (0 : Int32)), (0, .ref (g.1 0))] rfl ?_
  refine kw_sub [1, 0] _ rfl ?_
  refine lpx2_walk (P := fun (x1 : Int32) (σ2 : St) => KW X σ2 2 [(0, .ref (g.1 0)), (1, .int x1)] []) ?_ FU _ _ hf
  intro self3 x1 σ2 ih4 hf
  refine kw_iload_n C dX10_layTried_2 rfl 1 rfl ?_
  refine kw_bipush C (6 : Int32) dX10_layTried_3 rfl ?_
  refine kw_icmp_ge C 134 dX10_layTried_5 rfl (fun c5 => ?_) (fun c5 => ?_)
  · have hf := if_p c5 hf
    refine kw_aload_n C dX10_layTried_134 rfl 0 rfl ?_
    refine kw_get C inG10 _ (hO10 g σ2) rfl 54 (Nat.le_of_ble_eq_true rfl) mf_10_109 rfl rfl dX10_layTried_135 ?_
    refine kw_iconst C (1 : Int32) dX10_layTried_138 rfl ?_
    refine kw_aload_n C dX10_layTried_139 rfl 0 rfl ?_
    refine kw_get C inG10 _ (hO10 g σ2) rfl 54 (Nat.le_of_ble_eq_true rfl) mf_10_109 rfl rfl dX10_layTried_140 ?_
    refine kw_iconst C (0 : Int32) dX10_layTried_143 rfl ?_
    refine kw_iald C _ 0 (hA10_54 g σ2) rfl (by decide) dX10_layTried_144 ?_
    obtain ⟨σ6, eσ6, hf⟩ := lt_elim hf
    refine kw_iast C _ 0 (hA10_54 g σ2) rfl (by decide) ((hS10_54 g σ2 _).trans (congrArg (wM g) eσ6.symm)) dX10_layTried_145 ?_
    refine kw_aload_n C dX10_layTried_146 rfl 0 rfl ?_
    refine kw_get C inG10 _ (hO10 g σ6) rfl 55 (Nat.le_of_ble_eq_true rfl) mf_10_112 rfl rfl dX10_layTried_147 ?_
    refine kw_iconst C (1 : Int32) dX10_layTried_150 rfl ?_
    refine kw_aload_n C dX10_layTried_151 rfl 0 rfl ?_
    refine kw_get C inG10 _ (hO10 g σ6) rfl 55 (Nat.le_of_ble_eq_true rfl) mf_10_112 rfl rfl dX10_layTried_152 ?_
    refine kw_iconst C (0 : Int32) dX10_layTried_155 rfl ?_
    refine kw_iald C _ 0 (hA10_55 g σ6) rfl (by decide) dX10_layTried_156 ?_
    obtain ⟨σ7, eσ7, hf⟩ := lt_elim hf
    refine kw_iast C _ 0 (hA10_55 g σ6) rfl (by decide) ((hS10_55 g σ6 _).trans (congrArg (wM g) eσ7.symm)) dX10_layTried_157 ?_
    refine kw_aload_n C dX10_layTried_158 rfl 0 rfl ?_
    refine kw_get C inG10 _ (hO10 g σ7) rfl 56 (Nat.le_of_ble_eq_true rfl) mf_10_115 rfl rfl dX10_layTried_159 ?_
    refine kw_iconst C (1 : Int32) dX10_layTried_162 rfl ?_
    refine kw_aload_n C dX10_layTried_163 rfl 0 rfl ?_
    refine kw_get C inG10 _ (hO10 g σ7) rfl 56 (Nat.le_of_ble_eq_true rfl) mf_10_115 rfl rfl dX10_layTried_164 ?_
    refine kw_iconst C (0 : Int32) dX10_layTried_167 rfl ?_
    refine kw_iald C _ 0 (hA10_56 g σ7) rfl (by decide) dX10_layTried_168 ?_
    obtain ⟨σ8, eσ8, hf⟩ := lt_elim hf
    refine kw_iast C _ 0 (hA10_56 g σ7) rfl (by decide) ((hS10_56 g σ7 _).trans (congrArg (wM g) eσ8.symm)) dX10_layTried_169 ?_
    refine kw_aload_n C dX10_layTried_170 rfl 0 rfl ?_
    refine kw_get C inG10 _ (hO10 g σ8) rfl 57 (Nat.le_of_ble_eq_true rfl) mf_10_118 rfl rfl dX10_layTried_171 ?_
    refine kw_iconst C (1 : Int32) dX10_layTried_174 rfl ?_
    refine kw_aload_n C dX10_layTried_175 rfl 0 rfl ?_
    refine kw_get C inG10 _ (hO10 g σ8) rfl 57 (Nat.le_of_ble_eq_true rfl) mf_10_118 rfl rfl dX10_layTried_176 ?_
    refine kw_iconst C (0 : Int32) dX10_layTried_179 rfl ?_
    refine kw_zald C _ 3 (hA10_57 g σ8) rfl (by decide) dX10_layTried_180 ?_
    obtain ⟨σ9, eσ9, hf⟩ := lt_elim hf
    refine kw_zast C _ 3 (hA10_57 g σ8) rfl (by decide) ((hS10_57 g σ8 _).trans (congrArg (wM g) eσ9.symm)) dX10_layTried_181 ?_
    refine kw_aload_n C dX10_layTried_182 rfl 0 rfl ?_
    refine kw_get C inG10 _ (hO10 g σ9) rfl 58 (Nat.le_of_ble_eq_true rfl) mf_10_121 rfl rfl dX10_layTried_183 ?_
    refine kw_iconst C (1 : Int32) dX10_layTried_186 rfl ?_
    refine kw_aload_n C dX10_layTried_187 rfl 0 rfl ?_
    refine kw_get C inG10 _ (hO10 g σ9) rfl 58 (Nat.le_of_ble_eq_true rfl) mf_10_121 rfl rfl dX10_layTried_188 ?_
    refine kw_iconst C (0 : Int32) dX10_layTried_191 rfl ?_
    refine kw_iald C _ 0 (hA10_58 g σ9) rfl (by decide) dX10_layTried_192 ?_
    obtain ⟨σ10, eσ10, hf⟩ := lt_elim hf
    refine kw_iast C _ 0 (hA10_58 g σ9) rfl (by decide) ((hS10_58 g σ9 _).trans (congrArg (wM g) eσ10.symm)) dX10_layTried_193 ?_
    refine kw_aload_n C dX10_layTried_194 rfl 0 rfl ?_
    refine kw_get C inG10 _ (hO10 g σ10) rfl 59 (Nat.le_of_ble_eq_true rfl) mf_10_124 rfl rfl dX10_layTried_195 ?_
    refine kw_iconst C (1 : Int32) dX10_layTried_198 rfl ?_
    refine kw_aload_n C dX10_layTried_199 rfl 0 rfl ?_
    refine kw_get C inG10 _ (hO10 g σ10) rfl 59 (Nat.le_of_ble_eq_true rfl) mf_10_124 rfl rfl dX10_layTried_200 ?_
    refine kw_iconst C (0 : Int32) dX10_layTried_203 rfl ?_
    refine kw_iald C _ 0 (hA10_59 g σ10) rfl (by decide) dX10_layTried_204 ?_
    obtain ⟨σ11, eσ11, hf⟩ := lt_elim hf
    refine kw_iast C _ 0 (hA10_59 g σ10) rfl (by decide) ((hS10_59 g σ10 _).trans (congrArg (wM g) eσ11.symm)) dX10_layTried_205 ?_
    refine kw_aload_n C dX10_layTried_206 rfl 0 rfl ?_
    obtain ⟨σ13, hc12, hf⟩ := bV_elim hf
    refine kw_callVV C [] (kX10_plainTried L D g t0 σ11 _ hc12) RX10 mV_X10_341 ⟨rfl, rfl⟩ dd_X10_plainTried ⟨Nat.le_of_ble_eq_true rfl, Nat.le_of_ble_eq_true rfl⟩ _ (hO10 g σ11) rfl rfl rfl (Nat.le_of_ble_eq_true rfl) dX10_layTried_207 ?_
    exact kw_vret (u9 := ()) C K dX10_layTried_210 hf
  · have hf := if_n c5 hf
    refine kw_aload_n C dX10_layTried_8 rfl 0 rfl ?_
    refine kw_get C inG10 _ (hO10 g σ2) rfl 46 (Nat.le_of_ble_eq_true rfl) mf_10_85 rfl rfl dX10_layTried_9 ?_
    refine kw_bipush C (6 : Int32) dX10_layTried_12 rfl ?_
    refine kw_iload_n C dX10_layTried_14 rfl 1 rfl ?_
    refine kw_iadd C dX10_layTried_15 ?_
    refine kw_aload_n C dX10_layTried_16 rfl 0 rfl ?_
    refine kw_get C inG10 _ (hO10 g σ2) rfl 46 (Nat.le_of_ble_eq_true rfl) mf_10_85 rfl rfl dX10_layTried_17 ?_
    refine kw_iload_n C dX10_layTried_20 rfl 1 rfl ?_
    obtain ⟨h14, hf⟩ := gd_elim hf
    refine kw_iald C _ 0 (hA10_46 g σ2) rfl h14 dX10_layTried_21 ?_
    obtain ⟨h15, hf⟩ := gd_elim hf
    obtain ⟨σ16, eσ16, hf⟩ := lt_elim hf
    refine kw_iast C _ 0 (hA10_46 g σ2) rfl h15 ((hS10_46 g σ2 _).trans (congrArg (wM g) eσ16.symm)) dX10_layTried_22 ?_
    refine kw_aload_n C dX10_layTried_23 rfl 0 rfl ?_
    refine kw_get C inG10 _ (hO10 g σ16) rfl 47 (Nat.le_of_ble_eq_true rfl) mf_10_88 rfl rfl dX10_layTried_24 ?_
    refine kw_bipush C (6 : Int32) dX10_layTried_27 rfl ?_
    refine kw_iload_n C dX10_layTried_29 rfl 1 rfl ?_
    refine kw_iadd C dX10_layTried_30 ?_
    refine kw_aload_n C dX10_layTried_31 rfl 0 rfl ?_
    refine kw_get C inG10 _ (hO10 g σ16) rfl 47 (Nat.le_of_ble_eq_true rfl) mf_10_88 rfl rfl dX10_layTried_32 ?_
    refine kw_iload_n C dX10_layTried_35 rfl 1 rfl ?_
    obtain ⟨h17, hf⟩ := gd_elim hf
    refine kw_iald C _ 0 (hA10_47 g σ16) rfl h17 dX10_layTried_36 ?_
    obtain ⟨h18, hf⟩ := gd_elim hf
    obtain ⟨σ19, eσ19, hf⟩ := lt_elim hf
    refine kw_iast C _ 0 (hA10_47 g σ16) rfl h18 ((hS10_47 g σ16 _).trans (congrArg (wM g) eσ19.symm)) dX10_layTried_37 ?_
    refine kw_aload_n C dX10_layTried_38 rfl 0 rfl ?_
    refine kw_get C inG10 _ (hO10 g σ19) rfl 48 (Nat.le_of_ble_eq_true rfl) mf_10_91 rfl rfl dX10_layTried_39 ?_
    refine kw_bipush C (6 : Int32) dX10_layTried_42 rfl ?_
    refine kw_iload_n C dX10_layTried_44 rfl 1 rfl ?_
    refine kw_iadd C dX10_layTried_45 ?_
    refine kw_aload_n C dX10_layTried_46 rfl 0 rfl ?_
    refine kw_get C inG10 _ (hO10 g σ19) rfl 48 (Nat.le_of_ble_eq_true rfl) mf_10_91 rfl rfl dX10_layTried_47 ?_
    refine kw_iload_n C dX10_layTried_50 rfl 1 rfl ?_
    obtain ⟨h20, hf⟩ := gd_elim hf
    refine kw_iald C _ 0 (hA10_48 g σ19) rfl h20 dX10_layTried_51 ?_
    obtain ⟨h21, hf⟩ := gd_elim hf
    obtain ⟨σ22, eσ22, hf⟩ := lt_elim hf
    refine kw_iast C _ 0 (hA10_48 g σ19) rfl h21 ((hS10_48 g σ19 _).trans (congrArg (wM g) eσ22.symm)) dX10_layTried_52 ?_
    refine kw_aload_n C dX10_layTried_53 rfl 0 rfl ?_
    refine kw_get C inG10 _ (hO10 g σ22) rfl 49 (Nat.le_of_ble_eq_true rfl) mf_10_94 rfl rfl dX10_layTried_54 ?_
    refine kw_bipush C (6 : Int32) dX10_layTried_57 rfl ?_
    refine kw_iload_n C dX10_layTried_59 rfl 1 rfl ?_
    refine kw_iadd C dX10_layTried_60 ?_
    refine kw_aload_n C dX10_layTried_61 rfl 0 rfl ?_
    refine kw_get C inG10 _ (hO10 g σ22) rfl 49 (Nat.le_of_ble_eq_true rfl) mf_10_94 rfl rfl dX10_layTried_62 ?_
    refine kw_iload_n C dX10_layTried_65 rfl 1 rfl ?_
    obtain ⟨h23, hf⟩ := gd_elim hf
    refine kw_zald C _ 3 (hA10_49 g σ22) rfl h23 dX10_layTried_66 ?_
    obtain ⟨h24, hf⟩ := gd_elim hf
    obtain ⟨σ25, eσ25, hf⟩ := lt_elim hf
    refine kw_zast C _ 3 (hA10_49 g σ22) rfl h24 ((hS10_49 g σ22 _).trans (congrArg (wM g) eσ25.symm)) dX10_layTried_67 ?_
    refine kw_aload_n C dX10_layTried_68 rfl 0 rfl ?_
    refine kw_get C inG10 _ (hO10 g σ25) rfl 50 (Nat.le_of_ble_eq_true rfl) mf_10_97 rfl rfl dX10_layTried_69 ?_
    refine kw_bipush C (6 : Int32) dX10_layTried_72 rfl ?_
    refine kw_iload_n C dX10_layTried_74 rfl 1 rfl ?_
    refine kw_iadd C dX10_layTried_75 ?_
    refine kw_aload_n C dX10_layTried_76 rfl 0 rfl ?_
    refine kw_get C inG10 _ (hO10 g σ25) rfl 50 (Nat.le_of_ble_eq_true rfl) mf_10_97 rfl rfl dX10_layTried_77 ?_
    refine kw_iload_n C dX10_layTried_80 rfl 1 rfl ?_
    obtain ⟨h26, hf⟩ := gd_elim hf
    refine kw_iald C _ 0 (hA10_50 g σ25) rfl h26 dX10_layTried_81 ?_
    obtain ⟨h27, hf⟩ := gd_elim hf
    obtain ⟨σ28, eσ28, hf⟩ := lt_elim hf
    refine kw_iast C _ 0 (hA10_50 g σ25) rfl h27 ((hS10_50 g σ25 _).trans (congrArg (wM g) eσ28.symm)) dX10_layTried_82 ?_
    refine kw_aload_n C dX10_layTried_83 rfl 0 rfl ?_
    refine kw_get C inG10 _ (hO10 g σ28) rfl 51 (Nat.le_of_ble_eq_true rfl) mf_10_100 rfl rfl dX10_layTried_84 ?_
    refine kw_bipush C (6 : Int32) dX10_layTried_87 rfl ?_
    refine kw_iload_n C dX10_layTried_89 rfl 1 rfl ?_
    refine kw_iadd C dX10_layTried_90 ?_
    refine kw_aload_n C dX10_layTried_91 rfl 0 rfl ?_
    refine kw_get C inG10 _ (hO10 g σ28) rfl 51 (Nat.le_of_ble_eq_true rfl) mf_10_100 rfl rfl dX10_layTried_92 ?_
    refine kw_iload_n C dX10_layTried_95 rfl 1 rfl ?_
    obtain ⟨h29, hf⟩ := gd_elim hf
    refine kw_iald C _ 0 (hA10_51 g σ28) rfl h29 dX10_layTried_96 ?_
    obtain ⟨h30, hf⟩ := gd_elim hf
    obtain ⟨σ31, eσ31, hf⟩ := lt_elim hf
    refine kw_iast C _ 0 (hA10_51 g σ28) rfl h30 ((hS10_51 g σ28 _).trans (congrArg (wM g) eσ31.symm)) dX10_layTried_97 ?_
    refine kw_aload_n C dX10_layTried_98 rfl 0 rfl ?_
    refine kw_get C inG10 _ (hO10 g σ31) rfl 52 (Nat.le_of_ble_eq_true rfl) mf_10_103 rfl rfl dX10_layTried_99 ?_
    refine kw_bipush C (6 : Int32) dX10_layTried_102 rfl ?_
    refine kw_iload_n C dX10_layTried_104 rfl 1 rfl ?_
    refine kw_iadd C dX10_layTried_105 ?_
    refine kw_aload_n C dX10_layTried_106 rfl 0 rfl ?_
    refine kw_get C inG10 _ (hO10 g σ31) rfl 52 (Nat.le_of_ble_eq_true rfl) mf_10_103 rfl rfl dX10_layTried_107 ?_
    refine kw_iload_n C dX10_layTried_110 rfl 1 rfl ?_
    obtain ⟨h32, hf⟩ := gd_elim hf
    refine kw_iald C _ 0 (hA10_52 g σ31) rfl h32 dX10_layTried_111 ?_
    obtain ⟨h33, hf⟩ := gd_elim hf
    obtain ⟨σ34, eσ34, hf⟩ := lt_elim hf
    refine kw_iast C _ 0 (hA10_52 g σ31) rfl h33 ((hS10_52 g σ31 _).trans (congrArg (wM g) eσ34.symm)) dX10_layTried_112 ?_
    refine kw_aload_n C dX10_layTried_113 rfl 0 rfl ?_
    refine kw_get C inG10 _ (hO10 g σ34) rfl 53 (Nat.le_of_ble_eq_true rfl) mf_10_106 rfl rfl dX10_layTried_114 ?_
    refine kw_bipush C (6 : Int32) dX10_layTried_117 rfl ?_
    refine kw_iload_n C dX10_layTried_119 rfl 1 rfl ?_
    refine kw_iadd C dX10_layTried_120 ?_
    refine kw_aload_n C dX10_layTried_121 rfl 0 rfl ?_
    refine kw_get C inG10 _ (hO10 g σ34) rfl 53 (Nat.le_of_ble_eq_true rfl) mf_10_106 rfl rfl dX10_layTried_122 ?_
    refine kw_iload_n C dX10_layTried_125 rfl 1 rfl ?_
    obtain ⟨h35, hf⟩ := gd_elim hf
    refine kw_zald C _ 3 (hA10_53 g σ34) rfl h35 dX10_layTried_126 ?_
    obtain ⟨h36, hf⟩ := gd_elim hf
    obtain ⟨σ37, eσ37, hf⟩ := lt_elim hf
    refine kw_zast C _ 3 (hA10_53 g σ34) rfl h36 ((hS10_53 g σ34 _).trans (congrArg (wM g) eσ37.symm)) dX10_layTried_127 ?_
    obtain ⟨x38, ex38, hf⟩ := lt_elim hf
    refine kw_iinc C x38 dX10_layTried_128 1 rfl ex38.symm hN (Nat.le_of_ble_eq_true rfl) [(1, .int x38), (0, .ref (g.1 0))] rfl ?_
    refine kw_goto C 2 dX10_layTried_131 rfl ?_
    refine kw_sub [1, 0] _ rfl ?_
    exact ih4 _ _ hf
