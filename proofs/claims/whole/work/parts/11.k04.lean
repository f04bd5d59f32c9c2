set_option maxRecDepth 100000 in
set_option maxHeartbeats 4000000 in
theorem kX9_putFourBytes (L : Launch) (D : va_G) (g : GwT) (t0 : Nat) (p0 : Int32) (σ : St) (σ0 : St) (hf : fX9_putFourBytes σ p0 = some σ0) : CtV L D (ttG g) (wB g) t0 yX9_putFourBytes cX9_putFourBytes 3 none { frames := 0, cells := 0, slots := 0, locals := 0 } [.ref (g.1 0), .int p0] σ σ0 := by
  refine CtV.of (own := RX9) (by decide) rfl (Nat.le_of_ble_eq_true rfl) [(0, .ref (g.1 0)), (1, .int p0)] rfl ?_
  intro X C hN K
  unfold fX9_putFourBytes at hf
  refine kw_bipush C (24 : Int32) dX9_putFourBytes_0 rfl ?_
  refine kw_istore_n C dX9_putFourBytes_2 rfl hN (Nat.le_of_ble_eq_true rfl) [(2, .int (24 : Int32)), (0, .ref (g.1 0)), (1, .int p0)] rfl ?_
  refine kw_sub [1, 2, 0] _ rfl ?_
  refine lpx2_walk (P := fun (x1 : Int32) (σ2 : St) => KW X σ2 3 [(0, .ref (g.1 0)), (1, .int p0), (2, .int x1)] []) ?_ FU _ _ hf
  intro self3 x1 σ2 ih4 hf
  refine kw_iload_n C dX9_putFourBytes_3 rfl 2 rfl ?_
  refine kw_if_lt C 46 dX9_putFourBytes_4 rfl (fun c5 => ?_) (fun c5 => ?_)
  · have hf := if_p c5 hf
    exact kw_vret (u9 := ()) C K dX9_putFourBytes_46 hf
  · have hf := if_n c5 hf
    refine kw_aload_n C dX9_putFourBytes_7 rfl 0 rfl ?_
    refine kw_get C inG9 _ (hO9 g σ2) rfl 1 (Nat.le_of_ble_eq_true rfl) mf_9_15 rfl rfl dX9_putFourBytes_8 ?_
    refine kw_sipush C (700 : Int32) dX9_putFourBytes_11 rfl ?_
    obtain ⟨J7, hJ7, hf⟩ := jnx1_elim hf
    have kJ7 : ∀ (σ6 : St), J7 σ6 = some σ0 → KW X σ6 40 [(0, .ref (g.1 0)), (1, .int p0), (2, .int x1)] [] := by
      clear hf
      intro σ6 hf
      have hf := (hJ7 σ6).symm.trans hf
      obtain ⟨x8, ex8, hf⟩ := lt_elim hf
      refine kw_iinc C x8 dX9_putFourBytes_40 2 rfl ex8.symm hN (Nat.le_of_ble_eq_true rfl) [(2, .int x8), (0, .ref (g.1 0)), (1, .int p0)] rfl ?_
      refine kw_goto C 3 dX9_putFourBytes_43 rfl ?_
      refine kw_sub [1, 2, 0] _ rfl ?_
      exact ih4 _ _ hf
    refine kw_icmp_ge C 40 dX9_putFourBytes_14 rfl (fun c9 => ?_) (fun c9 => ?_)
    · have hf := if_p c9 hf
      exact kJ7 _ hf
    · have hf := if_n c9 hf
      refine kw_aload_n C dX9_putFourBytes_17 rfl 0 rfl ?_
      refine kw_get C inG9 _ (hO9 g σ2) rfl 0 (Nat.le_of_ble_eq_true rfl) mf_9_11 rfl rfl dX9_putFourBytes_18 ?_
      refine kw_aload_n C dX9_putFourBytes_21 rfl 0 rfl ?_
      refine kw_get C inG9 _ (hO9 g σ2) rfl 1 (Nat.le_of_ble_eq_true rfl) mf_9_15 rfl rfl dX9_putFourBytes_22 ?_
      refine kw_iload_n C dX9_putFourBytes_25 rfl 1 rfl ?_
      refine kw_iload_n C dX9_putFourBytes_26 rfl 2 rfl ?_
      refine kw_ishr C dX9_putFourBytes_27 ?_
      refine kw_i2b C dX9_putFourBytes_28 ?_
      obtain ⟨h10, hf⟩ := gd_elim hf
      obtain ⟨σ11, eσ11, hf⟩ := lt_elim hf
      refine kw_bast C _ 1 (hA9_0 g σ2) rfl h10 ((hS9_0 g σ2 _).trans (congrArg (wB g) eσ11.symm)) dX9_putFourBytes_29 ?_
      refine kw_aload_n C dX9_putFourBytes_30 rfl 0 rfl ?_
      refine kw_dup C dX9_putFourBytes_31 rfl ?_
      refine kw_get C inG9 _ (hO9 g σ11) rfl 1 (Nat.le_of_ble_eq_true rfl) mf_9_15 rfl rfl dX9_putFourBytes_32 ?_
      refine kw_iconst C (1 : Int32) dX9_putFourBytes_35 rfl ?_
      refine kw_iadd C dX9_putFourBytes_36 ?_
      obtain ⟨σ12, eσ12, hf⟩ := lt_elim hf
      refine kw_put C inG9 tyX9 tyX9_ok nmX9 _ (hO9 g σ11) rfl 1 (Nat.le_of_ble_eq_true rfl) mf_9_15 rfl rfl (tyX9_ok 1 (Nat.le_of_ble_eq_true rfl)) rfl rfl (Nat.le_of_ble_eq_true rfl) ((hF9_1 g σ11 _).trans (congrArg (wB g) eσ12.symm)) dX9_putFourBytes_37 ?_
      exact kJ7 _ hf
set_option maxRecDepth 100000 in
set_option maxHeartbeats 4000000 in
theorem kX9_feed (L : Launch) (D : va_G) (g : GwT) (t0 : Nat) (p0 : Int32) (p1 : Int32) (p2 : Int32) (p3 : Int32) (p4 : Int32) (σ : St) (r0 : Int32) (σ0 : St) (hf : fX9_feed σ p0 p1 p2 p3 p4 = some (r0, σ0)) : CtI L D (ttG g) (wB g) t0 yX9_feed cX9_feed 6 (some .int) { frames := 1, cells := 0, slots := 0, locals := 22 } [.ref (g.1 0), .int p0, .int p1, .int p2, .int p3, .int p4] σ r0 σ0 := by
  refine CtI.of (own := RX9) (by decide) rfl (Nat.le_of_ble_eq_true rfl) [(0, .ref (g.1 0)), (1, .int p0), (2, .int p1), (3, .int p2), (4, .int p3), (5, .int p4)] rfl ?_
  intro X C hN K
  unfold fX9_feed at hf
  refine kw_aload_n C dX9_feed_0 rfl 0 rfl ?_
  refine kw_get C inG9 _ (hO9 g σ) rfl 1 (Nat.le_of_ble_eq_true rfl) mf_9_15 rfl rfl dX9_feed_1 ?_
  refine kw_bipush C (20 : Int32) dX9_feed_4 rfl ?_
  refine kw_iadd C dX9_feed_6 ?_
  refine kw_sipush C (700 : Int32) dX9_feed_7 rfl ?_
  refine kw_icmp_le C 15 dX9_feed_10 rfl (fun c1 => ?_) (fun c1 => ?_)
  · have hf := if_p c1 hf
    refine kw_aload_n C dX9_feed_15 rfl 0 rfl ?_
    refine kw_iload_n C dX9_feed_16 rfl 1 rfl ?_
    obtain ⟨σ3, hc2, hf⟩ := bV_elim hf
    refine kw_callVV C [.int p0] (kX9_putFourBytes L D g t0 p0 σ _ hc2) RX9 mV_X9_87 ⟨rfl, rfl⟩ dd_X9_putFourBytes ⟨Nat.le_of_ble_eq_true rfl, Nat.le_of_ble_eq_true rfl⟩ _ (hO9 g σ) rfl rfl rfl (Nat.le_of_ble_eq_true rfl) dX9_feed_17 ?_
    refine kw_aload_n C dX9_feed_20 rfl 0 rfl ?_
    refine kw_iload_n C dX9_feed_21 rfl 2 rfl ?_
    obtain ⟨σ5, hc4, hf⟩ := bV_elim hf
    refine kw_callVV C [.int p1] (kX9_putFourBytes L D g t0 p1 σ3 _ hc4) RX9 mV_X9_87 ⟨rfl, rfl⟩ dd_X9_putFourBytes ⟨Nat.le_of_ble_eq_true rfl, Nat.le_of_ble_eq_true rfl⟩ _ (hO9 g σ3) rfl rfl rfl (Nat.le_of_ble_eq_true rfl) dX9_feed_22 ?_
    refine kw_aload_n C dX9_feed_25 rfl 0 rfl ?_
    refine kw_iload_n C dX9_feed_26 rfl 3 rfl ?_
    obtain ⟨σ7, hc6, hf⟩ := bV_elim hf
    refine kw_callVV C [.int p2] (kX9_putFourBytes L D g t0 p2 σ5 _ hc6) RX9 mV_X9_87 ⟨rfl, rfl⟩ dd_X9_putFourBytes ⟨Nat.le_of_ble_eq_true rfl, Nat.le_of_ble_eq_true rfl⟩ _ (hO9 g σ5) rfl rfl rfl (Nat.le_of_ble_eq_true rfl) dX9_feed_27 ?_
    refine kw_aload_n C dX9_feed_30 rfl 0 rfl ?_
    refine kw_iload C dX9_feed_31 4 rfl ?_
    obtain ⟨σ9, hc8, hf⟩ := bV_elim hf
    refine kw_callVV C [.int p3] (kX9_putFourBytes L D g t0 p3 σ7 _ hc8) RX9 mV_X9_87 ⟨rfl, rfl⟩ dd_X9_putFourBytes ⟨Nat.le_of_ble_eq_true rfl, Nat.le_of_ble_eq_true rfl⟩ _ (hO9 g σ7) rfl rfl rfl (Nat.le_of_ble_eq_true rfl) dX9_feed_33 ?_
    refine kw_aload_n C dX9_feed_36 rfl 0 rfl ?_
    refine kw_iload C dX9_feed_37 5 rfl ?_
    obtain ⟨σ11, hc10, hf⟩ := bV_elim hf
    refine kw_callVV C [.int p4] (kX9_putFourBytes L D g t0 p4 σ9 _ hc10) RX9 mV_X9_87 ⟨rfl, rfl⟩ dd_X9_putFourBytes ⟨Nat.le_of_ble_eq_true rfl, Nat.le_of_ble_eq_true rfl⟩ _ (hO9 g σ9) rfl rfl rfl (Nat.le_of_ble_eq_true rfl) dX9_feed_39 ?_
    refine kw_aload_n C dX9_feed_42 rfl 0 rfl ?_
    refine kw_get C inG9 _ (hO9 g σ11) rfl 1 (Nat.le_of_ble_eq_true rfl) mf_9_15 rfl rfl dX9_feed_43 ?_
    exact kw_iret C K dX9_feed_46 hf
  · have hf := if_n c1 hf
    refine kw_iconst C (-1 : Int32) dX9_feed_13 rfl ?_
    exact kw_iret C K dX9_feed_14 hf
set_option maxRecDepth 100000 in
set_option maxHeartbeats 4000000 in
theorem kX9_startAnew (L : Launch) (D : va_G) (g : GwT) (t0 : Nat) (σ : St) (σ0 : St) (hf : fX9_startAnew σ  = some σ0) : CtV L D (ttG g) (wB g) t0 yX9_startAnew cX9_startAnew 1 none { frames := 1, cells := 0, slots := 0, locals := 22 } [.ref (g.1 0)] σ σ0 := by
  refine CtV.of (own := RX9) (by decide) rfl (Nat.le_of_ble_eq_true rfl) [(0, .ref (g.1 0))] rfl ?_
  intro X C hN K
  unfold fX9_startAnew at hf
  refine kw_aload_n C dX9_startAnew_0 rfl 0 rfl ?_
  refine kw_get C inG9 _ (hO9 g σ) rfl 7 (Nat.le_of_ble_eq_true rfl) mf_9_47 rfl rfl dX9_startAnew_1 ?_
  refine kw_aload_n C dX9_startAnew_4 rfl 0 rfl ?_
  refine kw_get C inG9 _ (hO9 g σ) rfl 2 (Nat.le_of_ble_eq_true rfl) mf_9_22 rfl rfl dX9_startAnew_5 ?_
  obtain ⟨σ2, hc1, hf⟩ := bV_elim hf
  refine kw_callVV C [.ref (g.1 (tx (gR σ 0)))] (kX4_begin L D g t0 5 (by simp [isSale]) (gR σ 0) σ _ hc1) RX4 mV_X9_108 ⟨rfl, rfl⟩ dd_X4_begin ⟨Nat.le_of_ble_eq_true rfl, Nat.le_of_ble_eq_true rfl⟩ _ (hO4 g σ 5 (by simp [isSale])) rfl rfl rfl (Nat.le_of_ble_eq_true rfl) dX9_startAnew_8 ?_
  refine kw_aload_n C dX9_startAnew_11 rfl 0 rfl ?_
  refine kw_iconst C (0 : Int32) dX9_startAnew_12 rfl ?_
  obtain ⟨σ3, eσ3, hf⟩ := lt_elim hf
  refine kw_put C inG9 tyX9 tyX9_ok nmX9 _ (hO9 g σ2) rfl 11 (Nat.le_of_ble_eq_true rfl) mf_9_60 rfl rfl (tyX9_ok 11 (Nat.le_of_ble_eq_true rfl)) (narrow_bz (by decide)) (fits_bz (by decide)) (Nat.le_of_ble_eq_true rfl) ((hF9_11 g σ2 _).trans (congrArg (wB g) eσ3.symm)) dX9_startAnew_13 ?_
  refine kw_aload_n C dX9_startAnew_16 rfl 0 rfl ?_
  refine kw_get C inG9 _ (hO9 g σ3) rfl 12 (Nat.le_of_ble_eq_true rfl) mf_9_67 rfl rfl dX9_startAnew_17 ?_
  obtain ⟨σ5, hc4, hf⟩ := bV_elim hf
  refine kw_callVV C [] (kX8_forget L D g t0 σ3 _ hc4) RX8 mV_X9_111 ⟨rfl, rfl⟩ dd_X8_forget ⟨Nat.le_of_ble_eq_true rfl, Nat.le_of_ble_eq_true rfl⟩ _ (hO8 g σ3) rfl rfl rfl (Nat.le_of_ble_eq_true rfl) dX9_startAnew_20 ?_
  refine kw_aload_n C dX9_startAnew_23 rfl 0 rfl ?_
  refine kw_get C inG9 _ (hO9 g σ5) rfl 13 (Nat.le_of_ble_eq_true rfl) mf_9_74 rfl rfl dX9_startAnew_24 ?_
  obtain ⟨σ7, hc6, hf⟩ := bV_elim hf
  refine kw_callVV C [] (kX5_forget L D g t0 σ5 _ hc6) RX5 mV_X9_114 ⟨rfl, rfl⟩ dd_X5_forget ⟨Nat.le_of_ble_eq_true rfl, Nat.le_of_ble_eq_true rfl⟩ _ (hO5 g σ5) rfl rfl rfl (Nat.le_of_ble_eq_true rfl) dX9_startAnew_27 ?_
  exact kw_vret (u9 := ()) C K dX9_startAnew_30 hf
set_option maxRecDepth 100000 in
set_option maxHeartbeats 4000000 in
theorem kX9_text (L : Launch) (D : va_G) (g : GwT) (t0 : Nat) (p0 : Int32) (σ : St) (r0 : Int32) (σ0 : St) (hf : fX9_text σ p0 = some (r0, σ0)) : CtI L D (ttG g) (wB g) t0 yX9_text cX9_text 4 (some .int) { frames := 7, cells := 0, slots := 0, locals := 156 } [.ref (g.1 0), .int p0] σ r0 σ0 := by
  refine CtI.of (own := RX9) (by decide) rfl (Nat.le_of_ble_eq_true rfl) [(0, .ref (g.1 0)), (1, .int p0)] rfl ?_
  intro X C hN K
  unfold fX9_text at hf
  refine kw_iload_n C dX9_text_0 rfl 1 rfl ?_
  obtain ⟨J1, hJ1, hf⟩ := jnx1_elim hf
  have kJ1 : ∀ (u9 : Unit), J1 u9 = some (r0, σ0) → KW X σ 12 [] [] := by
    clear hf
    intro u9 hf
    have hf := (hJ1 u9).symm.trans hf
    refine kw_bipush C (-2 : Int32) dX9_text_12 rfl ?_
    exact kw_iret C K dX9_text_14 hf
  refine kw_if_lt C 12 dX9_text_1 rfl (fun c2 => ?_) (fun c2 => ?_)
  · have hf := if_p c2 hf
    refine kw_sub [] _ rfl ?_
    exact kJ1 _ hf
  · have hf := if_n c2 hf
    refine kw_iload_n C dX9_text_4 rfl 1 rfl ?_
    refine kw_aload_n C dX9_text_5 rfl 0 rfl ?_
    refine kw_get C inG9 _ (hO9 g σ) rfl 1 (Nat.le_of_ble_eq_true rfl) mf_9_15 rfl rfl dX9_text_6 ?_
    refine kw_icmp_le C 15 dX9_text_9 rfl (fun c3 => ?_) (fun c3 => ?_)
    · have hf := if_p c3 hf
      refine kw_aload_n C dX9_text_15 rfl 0 rfl ?_
      refine kw_iconst C (0 : Int32) dX9_text_16 rfl ?_
      obtain ⟨σ4, eσ4, hf⟩ := lt_elim hf
      refine kw_put C inG9 tyX9 tyX9_ok nmX9 _ (hO9 g σ) rfl 1 (Nat.le_of_ble_eq_true rfl) mf_9_15 rfl rfl (tyX9_ok 1 (Nat.le_of_ble_eq_true rfl)) rfl rfl (Nat.le_of_ble_eq_true rfl) ((hF9_1 g σ _).trans (congrArg (wB g) eσ4.symm)) dX9_text_17 ?_
      refine kw_aload_n C dX9_text_20 rfl 0 rfl ?_
      refine kw_get C inG9 _ (hO9 g σ4) rfl 4 (Nat.le_of_ble_eq_true rfl) mf_9_34 rfl rfl dX9_text_21 ?_
      refine kw_aload_n C dX9_text_24 rfl 0 rfl ?_
      refine kw_get C inG9 _ (hO9 g σ4) rfl 3 (Nat.le_of_ble_eq_true rfl) mf_9_26 rfl rfl dX9_text_25 ?_
      refine kw_iload_n C dX9_text_28 rfl 1 rfl ?_
      obtain ⟨r6, σ7, hc5, hf⟩ := bI_elim hf
      refine kw_callVI C [.ref (g.1 (tx (gR σ4 1))), .int p0] (kX3_readText L D g t0 (gR σ4 1) p0 σ4 _ _ hc5) RX3 mV_X9_91 ⟨rfl, rfl⟩ dd_X3_readText ⟨Nat.le_of_ble_eq_true rfl, Nat.le_of_ble_eq_true rfl⟩ _ (hO3 g σ4) rfl rfl rfl (Nat.le_of_ble_eq_true rfl) dX9_text_29 ?_
      refine kw_istore_n C dX9_text_32 rfl hN (Nat.le_of_ble_eq_true rfl) [(2, .int r6), (0, .ref (g.1 0)), (1, .int p0)] rfl ?_
      refine kw_aload_n C dX9_text_33 rfl 1 rfl ?_
      refine kw_iload_n C dX9_text_34 rfl 0 rfl ?_
      obtain ⟨J9, hJ9, hf⟩ := jnx1_elim hf
      have kJ9 : ∀ (x8 : Int32), J9 x8 = some (r0, σ0) → KW X σ7 49 [(0, .ref (g.1 0)), (2, .int r6)] [.int x8, .ref (g.1 0)] := by
        clear hf
        intro x8 hf
        have hf := (hJ9 x8).symm.trans hf
        obtain ⟨σ10, eσ10, hf⟩ := lt_elim hf
        refine kw_put C inG9 tyX9 tyX9_ok nmX9 _ (hO9 g σ7) rfl 5 (Nat.le_of_ble_eq_true rfl) mf_9_38 rfl rfl (tyX9_ok 5 (Nat.le_of_ble_eq_true rfl)) rfl rfl (Nat.le_of_ble_eq_true rfl) ((hF9_5 g σ7 _).trans (congrArg (wB g) eσ10.symm)) dX9_text_49 ?_
        refine kw_aload_n C dX9_text_52 rfl 0 rfl ?_
        refine kw_iload_n C dX9_text_53 rfl 1 rfl ?_
        obtain ⟨J12, hJ12, hf⟩ := jnx1_elim hf
        have kJ12 : ∀ (x11 : Int32), J12 x11 = some (r0, σ0) → KW X σ10 68 [(0, .ref (g.1 0)), (2, .int r6)] [.int x11, .ref (g.1 0)] := by
          clear hf
          intro x11 hf
          have hf := (hJ12 x11).symm.trans hf
          obtain ⟨σ13, eσ13, hf⟩ := lt_elim hf
          refine kw_put C inG9 tyX9 tyX9_ok nmX9 _ (hO9 g σ10) rfl 6 (Nat.le_of_ble_eq_true rfl) mf_9_41 rfl rfl (tyX9_ok 6 (Nat.le_of_ble_eq_true rfl)) rfl rfl (Nat.le_of_ble_eq_true rfl) ((hF9_6 g σ10 _).trans (congrArg (wB g) eσ13.symm)) dX9_text_68 ?_
          refine kw_iload_n C dX9_text_71 rfl 1 rfl ?_
          refine kw_if_ne C 77 dX9_text_72 rfl (fun c14 => ?_) (fun c14 => ?_)
          · have hf := if_n c14 hf
            refine kw_aload_n C dX9_text_77 rfl 0 rfl ?_
            refine kw_get C inG9 _ (hO9 g σ13) rfl 2 (Nat.le_of_ble_eq_true rfl) mf_9_22 rfl rfl dX9_text_78 ?_
            refine kw_astore_n C dX9_text_81 rfl hN (Nat.le_of_ble_eq_true rfl) [(3, .ref (g.1 (tx (gR σ13 0)))), (0, .ref (g.1 0)), (2, .int r6)] rfl ?_
            refine kw_aload_n C dX9_text_82 rfl 1 rfl ?_
            refine kw_aload_n C dX9_text_83 rfl 1 rfl ?_
            refine kw_get C inG9 _ (hO9 g σ13) rfl 3 (Nat.le_of_ble_eq_true rfl) mf_9_26 rfl rfl dX9_text_84 ?_
            obtain ⟨σ15, eσ15, hf⟩ := lt_elim hf
            refine kw_put C inG9 tyX9 tyX9_ok nmX9 _ (hO9 g σ13) rfl 2 (Nat.le_of_ble_eq_true rfl) mf_9_22 rfl rfl (tyX9_ok 2 (Nat.le_of_ble_eq_true rfl)) rfl rfl (Nat.le_of_ble_eq_true rfl) ((hF9_2 g σ13 _).trans (congrArg (wB g) eσ15.symm)) dX9_text_87 ?_
            refine kw_aload_n C dX9_text_90 rfl 1 rfl ?_
            refine kw_aload_n C dX9_text_91 rfl 0 rfl ?_
            obtain ⟨σ16, eσ16, hf⟩ := lt_elim hf
            refine kw_put C inG9 tyX9 tyX9_ok nmX9 _ (hO9 g σ15) rfl 3 (Nat.le_of_ble_eq_true rfl) mf_9_26 rfl rfl (tyX9_ok 3 (Nat.le_of_ble_eq_true rfl)) rfl rfl (Nat.le_of_ble_eq_true rfl) ((hF9_3 g σ15 _).trans (congrArg (wB g) eσ16.symm)) dX9_text_92 ?_
            refine kw_aload_n C dX9_text_95 rfl 1 rfl ?_
            obtain ⟨σ18, hc17, hf⟩ := bV_elim hf
            refine kw_callVV C [] (kX9_startAnew L D g t0 σ16 _ hc17) RX9 mV_X9_102 ⟨rfl, rfl⟩ dd_X9_startAnew ⟨Nat.le_of_ble_eq_true rfl, Nat.le_of_ble_eq_true rfl⟩ _ (hO9 g σ16) rfl rfl rfl (Nat.le_of_ble_eq_true rfl) dX9_text_96 ?_
            refine kw_aload_n C dX9_text_99 rfl 1 rfl ?_
            refine kw_get C inG9 _ (hO9 g σ18) rfl 2 (Nat.le_of_ble_eq_true rfl) mf_9_22 rfl rfl dX9_text_100 ?_
            refine kw_get C inG6 _ (hO6 g σ18 (gR σ18 0)) rfl 0 (Nat.le_of_ble_eq_true rfl) mf_9_105 rfl rfl dX9_text_103 ?_
            exact kw_iret C K dX9_text_106 hf
          · have hf := if_p c14 hf
            refine kw_iconst C (-1 : Int32) dX9_text_75 rfl ?_
            exact kw_iret C K dX9_text_76 hf
        refine kw_if_eq C 61 dX9_text_54 rfl (fun c19 => ?_) (fun c19 => ?_)
        · have hf := if_p c19 hf
          refine kw_aload_n C dX9_text_61 rfl 0 rfl ?_
          refine kw_get C inG9 _ (hO9 g σ10) rfl 4 (Nat.le_of_ble_eq_true rfl) mf_9_34 rfl rfl dX9_text_62 ?_
          obtain ⟨r21, hc20, hf⟩ := bd_elim hf
          refine kw_callVI C [] (kX3_faultAt L D g t0 σ10 _ hc20) RX3 mV_X9_99 ⟨rfl, rfl⟩ dd_X3_faultAt ⟨Nat.le_of_ble_eq_true rfl, Nat.le_of_ble_eq_true rfl⟩ _ (hO3 g σ10) rfl rfl rfl (Nat.le_of_ble_eq_true rfl) dX9_text_65 ?_
          exact kJ12 _ hf
        · have hf := if_n c19 hf
          refine kw_iconst C (-1 : Int32) dX9_text_57 rfl ?_
          refine kw_goto C 68 dX9_text_58 rfl ?_
          exact kJ12 _ hf
      refine kw_if_eq C 42 dX9_text_35 rfl (fun c22 => ?_) (fun c22 => ?_)
      · have hf := if_p c22 hf
        refine kw_aload_n C dX9_text_42 rfl 1 rfl ?_
        refine kw_get C inG9 _ (hO9 g σ7) rfl 4 (Nat.le_of_ble_eq_true rfl) mf_9_34 rfl rfl dX9_text_43 ?_
        obtain ⟨r24, hc23, hf⟩ := bd_elim hf
        refine kw_callVI C [] (kX3_faultKind L D g t0 σ7 _ hc23) RX3 mV_X9_95 ⟨rfl, rfl⟩ dd_X3_faultKind ⟨Nat.le_of_ble_eq_true rfl, Nat.le_of_ble_eq_true rfl⟩ _ (hO3 g σ7) rfl rfl rfl (Nat.le_of_ble_eq_true rfl) dX9_text_46 ?_
        refine kw_sub [1, 0] _ rfl ?_
        exact kJ9 _ hf
      · have hf := if_n c22 hf
        refine kw_iconst C (0 : Int32) dX9_text_38 rfl ?_
        refine kw_goto C 49 dX9_text_39 rfl ?_
        refine kw_sub [1, 0] _ rfl ?_
        exact kJ9 _ hf
    · have hf := if_n c3 hf
      refine kw_sub [] _ rfl ?_
      exact kJ1 _ hf
set_option maxRecDepth 100000 in
set_option maxHeartbeats 4000000 in
theorem kX9_fault (L : Launch) (D : va_G) (g : GwT) (t0 : Nat) (p0 : Int32) (σ : St) (r0 : Int32) (hf : fX9_fault σ p0 = some r0) : CtI L D (ttG g) (wB g) t0 yX9_fault cX9_fault 2 (some .int) { frames := 0, cells := 0, slots := 0, locals := 0 } [.ref (g.1 0), .int p0] σ r0 σ := by
  refine CtI.of (own := RX9) (by decide) rfl (Nat.le_of_ble_eq_true rfl) [(0, .ref (g.1 0)), (1, .int p0)] rfl ?_
  intro X C hN K
  unfold fX9_fault at hf
  refine kw_iload_n C dX9_fault_0 rfl 1 rfl ?_
  by_cases c1 : p0 = (0 : Int32)
  · have hf := if_p c1 hf
    refine kw_look (off := 27) C 28 dX9_fault_1 rfl (by rw [c1]; rfl) rfl ?_
    refine kw_aload_n C dX9_fault_28 rfl 0 rfl ?_
    refine kw_get C inG9 _ (hO9 g σ) rfl 5 (Nat.le_of_ble_eq_true rfl) mf_9_38 rfl rfl dX9_fault_29 ?_
    exact kw_iret C K dX9_fault_32 (pr_ret hf)
  have hf := if_n c1 hf
  by_cases c2 : p0 = (1 : Int32)
  · have hf := if_p c2 hf
    refine kw_look (off := 32) C 33 dX9_fault_1 rfl (by rw [c2]; rfl) rfl ?_
    refine kw_aload_n C dX9_fault_33 rfl 0 rfl ?_
    refine kw_get C inG9 _ (hO9 g σ) rfl 6 (Nat.le_of_ble_eq_true rfl) mf_9_41 rfl rfl dX9_fault_34 ?_
    exact kw_iret C K dX9_fault_37 (pr_ret hf)
  have hf := if_n c2 hf
  have c1_ : p0.toInt ≠ 0 := ne_ti c1
  have c2_ : p0.toInt ≠ 1 := ne_ti c2
  refine kw_look (off := 37) C 38 dX9_fault_1 rfl (by simp only [Op.lookupswitch.offset_cons, Op.lookupswitch.offset_nil, if_neg (Ne.symm c1_), if_neg (Ne.symm c2_)]; try rfl) rfl ?_
  refine kw_iconst C (-1 : Int32) dX9_fault_38 rfl ?_
  exact kw_iret C K dX9_fault_39 (pr_ret hf)
set_option maxRecDepth 100000 in
set_option maxHeartbeats 4000000 in
theorem kX9_named (L : Launch) (D : va_G) (g : GwT) (t0 : Nat) (p0 : Int32) (p1 : Int32) (σ : St) (r0 : Int32) (hf : fX9_named σ p0 p1 = some r0) : CtI L D (ttG g) (wB g) t0 yX9_named cX9_named 3 (some .int) { frames := 1, cells := 0, slots := 0, locals := 23 } [.ref (g.1 0), .int p0, .int p1] σ r0 σ := by
  refine CtI.of (own := RX9) (by decide) rfl (Nat.le_of_ble_eq_true rfl) [(0, .ref (g.1 0)), (1, .int p0), (2, .int p1)] rfl ?_
  intro X C hN K
  unfold fX9_named at hf
  refine kw_iload_n C dX9_named_0 rfl 1 rfl ?_
  by_cases c1 : p0 = (0 : Int32)
  · have hf := if_p c1 hf
    refine kw_look (off := 27) C 28 dX9_named_1 rfl (by rw [c1]; rfl) rfl ?_
    refine kw_iload_n C dX9_named_28 rfl 2 rfl ?_
    refine kw_aload_n C dX9_named_29 rfl 0 rfl ?_
    refine kw_get C inG9 _ (hO9 g σ) rfl 2 (Nat.le_of_ble_eq_true rfl) mf_9_22 rfl rfl dX9_named_30 ?_
    refine kw_get C inG6 _ (hO6 g σ (gR σ 0)) rfl 2 (Nat.le_of_ble_eq_true rfl) mf_9_115 rfl rfl dX9_named_33 ?_
    refine kw_aload_n C dX9_named_36 rfl 0 rfl ?_
    refine kw_get C inG9 _ (hO9 g σ) rfl 2 (Nat.le_of_ble_eq_true rfl) mf_9_22 rfl rfl dX9_named_37 ?_
    refine kw_get C inG6 _ (hO6 g σ (gR σ 0)) rfl 1 (Nat.le_of_ble_eq_true rfl) mf_9_119 rfl rfl dX9_named_40 ?_
    obtain ⟨r3, hc2, hf⟩ := bd_elim hf
    refine kw_callSI C [.int p1, .ref (g.2.1 (tx (gR σ 0)) 2), .int (gI σ (tx (gR σ 0)) 1)] (kX9_placeOf_a6_2 L D g t0 p1 (gR σ 0) (gI σ (tx (gR σ 0)) 1) σ _ hc2) mS_X9_122 ⟨rfl, rfl⟩ dd_X9_placeOf ⟨Nat.le_of_ble_eq_true rfl, Nat.le_of_ble_eq_true rfl⟩ rfl (Nat.le_of_ble_eq_true rfl) dX9_named_43 ?_
    exact kw_iret C K dX9_named_46 (pr_ret hf)
  have hf := if_n c1 hf
  by_cases c4 : p0 = (1 : Int32)
  · have hf := if_p c4 hf
    refine kw_look (off := 46) C 47 dX9_named_1 rfl (by rw [c4]; rfl) rfl ?_
    refine kw_iload_n C dX9_named_47 rfl 2 rfl ?_
    refine kw_aload_n C dX9_named_48 rfl 0 rfl ?_
    refine kw_get C inG9 _ (hO9 g σ) rfl 2 (Nat.le_of_ble_eq_true rfl) mf_9_22 rfl rfl dX9_named_49 ?_
    refine kw_get C inG6 _ (hO6 g σ (gR σ 0)) rfl 9 (Nat.le_of_ble_eq_true rfl) mf_9_126 rfl rfl dX9_named_52 ?_
    refine kw_aload_n C dX9_named_55 rfl 0 rfl ?_
    refine kw_get C inG9 _ (hO9 g σ) rfl 2 (Nat.le_of_ble_eq_true rfl) mf_9_22 rfl rfl dX9_named_56 ?_
    refine kw_get C inG6 _ (hO6 g σ (gR σ 0)) rfl 8 (Nat.le_of_ble_eq_true rfl) mf_9_129 rfl rfl dX9_named_59 ?_
    obtain ⟨r6, hc5, hf⟩ := bd_elim hf
    refine kw_callSI C [.int p1, .ref (g.2.1 (tx (gR σ 0)) 9), .int (gI σ (tx (gR σ 0)) 8)] (kX9_placeOf_a6_9 L D g t0 p1 (gR σ 0) (gI σ (tx (gR σ 0)) 8) σ _ hc5) mS_X9_122 ⟨rfl, rfl⟩ dd_X9_placeOf ⟨Nat.le_of_ble_eq_true rfl, Nat.le_of_ble_eq_true rfl⟩ rfl (Nat.le_of_ble_eq_true rfl) dX9_named_62 ?_
    exact kw_iret C K dX9_named_65 (pr_ret hf)
  have hf := if_n c4 hf
  have c1_ : p0.toInt ≠ 0 := ne_ti c1
  have c4_ : p0.toInt ≠ 1 := ne_ti c4
  refine kw_look (off := 65) C 66 dX9_named_1 rfl (by simp only [Op.lookupswitch.offset_cons, Op.lookupswitch.offset_nil, if_neg (Ne.symm c1_), if_neg (Ne.symm c4_)]; try rfl) rfl ?_
  refine kw_iconst C (-1 : Int32) dX9_named_66 rfl ?_
  exact kw_iret C K dX9_named_67 (pr_ret hf)
set_option maxRecDepth 100000 in
set_option maxHeartbeats 4000000 in
theorem kX9_part (L : Launch) (D : va_G) (g : GwT) (t0 : Nat) (p0 : Int32) (p1 : Int32) (σ : St) (r0 : Int32) (hf : fX9_part σ p0 p1 = some r0) : CtI L D (ttG g) (wB g) t0 yX9_part cX9_part 3 (some .int) { frames := 1, cells := 0, slots := 0, locals := 21 } [.ref (g.1 0), .int p0, .int p1] σ r0 σ := by
  refine CtI.of (own := RX9) (by decide) rfl (Nat.le_of_ble_eq_true rfl) [(0, .ref (g.1 0)), (1, .int p0), (2, .int p1)] rfl ?_
  intro X C hN K
  unfold fX9_part at hf
  refine kw_iload_n C dX9_part_0 rfl 1 rfl ?_
  obtain ⟨J1, hJ1, hf⟩ := jnx1_elim hf
  have kJ1 : ∀ (u9 : Unit), J1 u9 = some r0 → KW X σ 21 [] [] := by
    clear hf
    intro u9 hf
    have hf := (hJ1 u9).symm.trans hf
    refine kw_iconst C (-1 : Int32) dX9_part_21 rfl ?_
    exact kw_iret C K dX9_part_22 (pr_ret hf)
  refine kw_if_lt C 21 dX9_part_1 rfl (fun c2 => ?_) (fun c2 => ?_)
  · have hf := if_p c2 hf
    refine kw_sub [] _ rfl ?_
    exact kJ1 _ hf
  · have hf := if_n c2 hf
    refine kw_iload_n C dX9_part_4 rfl 1 rfl ?_
    refine kw_aload_n C dX9_part_5 rfl 0 rfl ?_
    refine kw_get C inG9 _ (hO9 g σ) rfl 2 (Nat.le_of_ble_eq_true rfl) mf_9_22 rfl rfl dX9_part_6 ?_
    refine kw_get C inG6 _ (hO6 g σ (gR σ 0)) rfl 8 (Nat.le_of_ble_eq_true rfl) mf_9_129 rfl rfl dX9_part_9 ?_
    refine kw_icmp_ge C 21 dX9_part_12 rfl (fun c3 => ?_) (fun c3 => ?_)
    · have hf := if_p c3 hf
      refine kw_sub [] _ rfl ?_
      exact kJ1 _ hf
    · have hf := if_n c3 hf
      refine kw_iload_n C dX9_part_15 rfl 1 rfl ?_
      refine kw_bipush C (6 : Int32) dX9_part_16 rfl ?_
      refine kw_icmp_lt C 23 dX9_part_18 rfl (fun c4 => ?_) (fun c4 => ?_)
      · have hf := if_p c4 hf
        refine kw_iload_n C dX9_part_23 rfl 2 rfl ?_
        by_cases c5 : p1 = (0 : Int32)
        · have hf := if_p c5 hf
          refine kw_tabIn C 52 dX9_part_24 c5 (by decide) (by decide) rfl rfl ?_
          refine kw_aload_n C dX9_part_52 rfl 0 rfl ?_
          refine kw_get C inG9 _ (hO9 g σ) rfl 2 (Nat.le_of_ble_eq_true rfl) mf_9_22 rfl rfl dX9_part_53 ?_
          refine kw_get C inG6 _ (hO6 g σ (gR σ 0)) rfl 10 (Nat.le_of_ble_eq_true rfl) mf_9_179 rfl rfl dX9_part_56 ?_
          refine kw_iload_n C dX9_part_59 rfl 1 rfl ?_
          obtain ⟨h6, hf⟩ := gd_elim hf
          refine kw_iald C _ 0 (hA6_10 g σ (gR σ 0)) rfl h6 dX9_part_60 ?_
          exact kw_iret C K dX9_part_61 (pr_ret hf)
        have hf := if_n c5 hf
        by_cases c7 : p1 = (1 : Int32)
        · have hf := if_p c7 hf
          refine kw_tabIn C 62 dX9_part_24 c7 (by decide) (by decide) rfl rfl ?_
          refine kw_aload_n C dX9_part_62 rfl 0 rfl ?_
          refine kw_get C inG9 _ (hO9 g σ) rfl 7 (Nat.le_of_ble_eq_true rfl) mf_9_47 rfl rfl dX9_part_63 ?_
          refine kw_get C inG4 _ (hO4 g σ 5 (by simp [isSale])) rfl 5 (Nat.le_of_ble_eq_true rfl) mf_9_182 rfl rfl dX9_part_66 ?_
          refine kw_iload_n C dX9_part_69 rfl 1 rfl ?_
          obtain ⟨h8, hf⟩ := gd_elim hf
          refine kw_iald C _ 0 (hA4_5 g σ 5 (by simp [isSale])) rfl h8 dX9_part_70 ?_
          exact kw_iret C K dX9_part_71 (pr_ret hf)
        have hf := if_n c7 hf
        by_cases c9 : p1 = (2 : Int32)
        · have hf := if_p c9 hf
          refine kw_tabIn C 72 dX9_part_24 c9 (by decide) (by decide) rfl rfl ?_
          refine kw_aload_n C dX9_part_72 rfl 0 rfl ?_
          refine kw_get C inG9 _ (hO9 g σ) rfl 7 (Nat.le_of_ble_eq_true rfl) mf_9_47 rfl rfl dX9_part_73 ?_
          refine kw_iload_n C dX9_part_76 rfl 1 rfl ?_
          obtain ⟨r11, hc10, hf⟩ := bd_elim hf
          refine kw_callVI C [.int p0] (kX4_isFirst L D g t0 5 (by simp [isSale]) p0 σ _ hc10) RX4 mV_X9_185 ⟨rfl, rfl⟩ dd_X4_isFirst ⟨Nat.le_of_ble_eq_true rfl, Nat.le_of_ble_eq_true rfl⟩ _ (hO4 g σ 5 (by simp [isSale])) rfl rfl rfl (Nat.le_of_ble_eq_true rfl) dX9_part_77 ?_
          obtain ⟨J13, hJ13, hf⟩ := jnx1_elim hf
          have kJ13 : ∀ (x12 : Int32), J13 x12 = some r0 → KW X σ 88 [] [.int x12] := by
            clear hf
            intro x12 hf
            have hf := (hJ13 x12).symm.trans hf
            exact kw_iret C K dX9_part_88 (pr_ret hf)
          refine kw_if_eq C 87 dX9_part_80 rfl (fun c14 => ?_) (fun c14 => ?_)
          · have hf := if_p c14 hf
            refine kw_iconst C (0 : Int32) dX9_part_87 rfl ?_
            refine kw_sub [] _ rfl ?_
            exact kJ13 _ hf
          · have hf := if_n c14 hf
            refine kw_iconst C (1 : Int32) dX9_part_83 rfl ?_
            refine kw_goto C 88 dX9_part_84 rfl ?_
            refine kw_sub [] _ rfl ?_
            exact kJ13 _ hf
        have hf := if_n c9 hf
        have c5_ : p1.toInt ≠ 0 := ne_ti c5
        have c7_ : p1.toInt ≠ 1 := ne_ti c7
        have c9_ : p1.toInt ≠ 2 := ne_ti c9
        refine kw_tabOut C 89 dX9_part_24 (by omega) rfl ?_
        refine kw_iconst C (-1 : Int32) dX9_part_89 rfl ?_
        exact kw_iret C K dX9_part_90 (pr_ret hf)
      · have hf := if_n c4 hf
        refine kw_sub [] _ rfl ?_
        exact kJ1 _ hf
set_option maxRecDepth 100000 in
set_option maxHeartbeats 4000000 in
theorem kX9_isHouse (L : Launch) (D : va_G) (g : GwT) (t0 : Nat) (p0 : Int32) (σ : St) (r0 : Int32) (hf : fX9_isHouse σ p0 = some r0) : CtI L D (ttG g) (wB g) t0 yX9_isHouse cX9_isHouse 2 (some .boolean) { frames := 0, cells := 0, slots := 0, locals := 0 } [.ref (g.1 0), .int p0] σ r0 σ := by
  refine CtI.of (own := RX9) (by decide) rfl (Nat.le_of_ble_eq_true rfl) [(0, .ref (g.1 0)), (1, .int p0)] rfl ?_
  intro X C hN K
  unfold fX9_isHouse at hf
  refine kw_iload_n C dX9_isHouse_0 rfl 1 rfl ?_
  obtain ⟨J2, hJ2, hf⟩ := jnx1_elim hf
  have kJ2 : ∀ (x1 : Int32), J2 x1 = some r0 → KW X σ 26 [] [.int x1] := by
    clear hf
    intro x1 hf
    have hf := (hJ2 x1).symm.trans hf
    obtain ⟨h3, hf⟩ := gd_elim hf
    exact kw_zret C K h3 dX9_isHouse_26 (pr_ret hf)
  obtain ⟨J4, hJ4, hf⟩ := jnx1_elim hf
  have kJ4 : ∀ (u9 : Unit), J4 u9 = some r0 → KW X σ 25 [] [] := by
    clear hf
    intro u9 hf
    have hf := (hJ4 u9).symm.trans hf
    refine kw_iconst C (0 : Int32) dX9_isHouse_25 rfl ?_
    exact kJ2 _ hf
  refine kw_if_lt C 25 dX9_isHouse_1 rfl (fun c5 => ?_) (fun c5 => ?_)
  · have hf := if_p c5 hf
    refine kw_sub [] _ rfl ?_
    exact kJ4 _ hf
  · have hf := if_n c5 hf
    refine kw_iload_n C dX9_isHouse_4 rfl 1 rfl ?_
    refine kw_aload_n C dX9_isHouse_5 rfl 0 rfl ?_
    refine kw_get C inG9 _ (hO9 g σ) rfl 2 (Nat.le_of_ble_eq_true rfl) mf_9_22 rfl rfl dX9_isHouse_6 ?_
    refine kw_get C inG6 _ (hO6 g σ (gR σ 0)) rfl 1 (Nat.le_of_ble_eq_true rfl) mf_9_119 rfl rfl dX9_isHouse_9 ?_
    refine kw_icmp_ge C 25 dX9_isHouse_12 rfl (fun c6 => ?_) (fun c6 => ?_)
    · have hf := if_p c6 hf
      refine kw_sub [] _ rfl ?_
      exact kJ4 _ hf
    · have hf := if_n c6 hf
      refine kw_iload_n C dX9_isHouse_15 rfl 1 rfl ?_
      refine kw_bipush C (6 : Int32) dX9_isHouse_16 rfl ?_
      refine kw_icmp_ge C 25 dX9_isHouse_18 rfl (fun c7 => ?_) (fun c7 => ?_)
      · have hf := if_p c7 hf
        refine kw_sub [] _ rfl ?_
        exact kJ4 _ hf
      · have hf := if_n c7 hf
        refine kw_iconst C (1 : Int32) dX9_isHouse_21 rfl ?_
        refine kw_goto C 26 dX9_isHouse_22 rfl ?_
        refine kw_sub [] _ rfl ?_
        exact kJ2 _ hf
set_option maxRecDepth 100000 in
set_option maxHeartbeats 4000000 in
theorem kX9_law (L : Launch) (D : va_G) (g : GwT) (t0 : Nat) (p0 : Int32) (p1 : Int32) (σ : St) (r0 : Int64) (σ0 : St) (hf : fX9_law σ p0 p1 = some (r0, σ0)) : CtL L D (ttG g) (wB g) t0 yX9_law cX9_law 3 (some .long) { frames := 3, cells := 0, slots := 0, locals := 77 } [.ref (g.1 0), .int p0, .int p1] σ r0 σ0 := by
  refine CtL.of (own := RX9) (by decide) rfl (Nat.le_of_ble_eq_true rfl) [(0, .ref (g.1 0)), (1, .int p0), (2, .int p1)] rfl ?_
  intro X C hN K
  unfold fX9_law at hf
  refine kw_iload_n C dX9_law_0 rfl 1 rfl ?_
  refine kw_iconst C (0 : Int32) dX9_law_1 rfl ?_
  refine kw_iconst C (2 : Int32) dX9_law_2 rfl ?_
  obtain ⟨r2, hc1, hf⟩ := bd_elim hf
  refine kw_callSI C [.int p0, .int (0 : Int32), .int (2 : Int32)] (kX9_isWithin L D g t0 p0 (0 : Int32) (2 : Int32) σ _ hc1) mS_X9_188 ⟨rfl, rfl⟩ dd_X9_isWithin ⟨Nat.le_of_ble_eq_true rfl, Nat.le_of_ble_eq_true rfl⟩ rfl (Nat.le_of_ble_eq_true rfl) dX9_law_3 ?_
  obtain ⟨J3, hJ3, hf⟩ := jnx1_elim hf
  have kJ3 : ∀ (u9 : Unit), J3 u9 = some (r0, σ0) → KW X σ 17 [] [] := by
    clear hf
    intro u9 hf
    have hf := (hJ3 u9).symm.trans hf
    refine kw_ldc2 C dX9_law_17 mk2_X9_192 ?_
    exact kw_lret C K dX9_law_20 hf
  refine kw_if_eq C 17 dX9_law_6 rfl (fun c4 => ?_) (fun c4 => ?_)
  · have hf := if_p c4 hf
    refine kw_sub [] _ rfl ?_
    exact kJ3 _ hf
  · have hf := if_n c4 hf
    refine kw_aload_n C dX9_law_9 rfl 0 rfl ?_
    refine kw_iload_n C dX9_law_10 rfl 2 rfl ?_
    obtain ⟨r6, hc5, hf⟩ := bd_elim hf
    refine kw_callVI C [.int p1] (kX9_isHouse L D g t0 p1 σ _ hc5) RX9 mV_X9_132 ⟨rfl, rfl⟩ dd_X9_isHouse ⟨Nat.le_of_ble_eq_true rfl, Nat.le_of_ble_eq_true rfl⟩ _ (hO9 g σ) rfl rfl rfl (Nat.le_of_ble_eq_true rfl) dX9_law_11 ?_
    refine kw_if_ne C 21 dX9_law_14 rfl (fun c7 => ?_) (fun c7 => ?_)
    · have hf := if_n c7 hf
      refine kw_aload_n C dX9_law_21 rfl 0 rfl ?_
      refine kw_get C inG9 _ (hO9 g σ) rfl 14 (Nat.le_of_ble_eq_true rfl) mf_9_83 rfl rfl dX9_law_22 ?_
      refine kw_aload_n C dX9_law_25 rfl 0 rfl ?_
      refine kw_get C inG9 _ (hO9 g σ) rfl 2 (Nat.le_of_ble_eq_true rfl) mf_9_22 rfl rfl dX9_law_26 ?_
      obtain ⟨σ9, hc8, hf⟩ := bV_elim hf
      refine kw_callVV C [.ref (g.1 (tx (gR σ 0)))] (kX0_asItGoes L D g t0 (gR σ 0) σ _ hc8) RX0 mV_X9_194 ⟨rfl, rfl⟩ dd_X0_asItGoes ⟨Nat.le_of_ble_eq_true rfl, Nat.le_of_ble_eq_true rfl⟩ _ (hO0 g σ) rfl rfl rfl (Nat.le_of_ble_eq_true rfl) dX9_law_29 ?_
      refine kw_aload_n C dX9_law_32 rfl 0 rfl ?_
      refine kw_get C inG9 _ (hO9 g σ9) rfl 14 (Nat.le_of_ble_eq_true rfl) mf_9_83 rfl rfl dX9_law_33 ?_
      refine kw_iload_n C dX9_law_36 rfl 1 rfl ?_
      refine kw_aload_n C dX9_law_37 rfl 0 rfl ?_
      refine kw_get C inG9 _ (hO9 g σ9) rfl 7 (Nat.le_of_ble_eq_true rfl) mf_9_47 rfl rfl dX9_law_38 ?_
      refine kw_iload_n C dX9_law_41 rfl 2 rfl ?_
      obtain ⟨r11, σ12, hc10, hf⟩ := bL_elim hf
      refine kw_callVL C [.int p0, .ref (g.1 5), .int p1] (kX0_valueOf L D g t0 p0 5 (by simp [isSale]) p1 σ9 _ _ hc10) RX0 mV_X9_197 ⟨rfl, rfl⟩ dd_X0_valueOf ⟨Nat.le_of_ble_eq_true rfl, Nat.le_of_ble_eq_true rfl⟩ _ (hO0 g σ9) rfl rfl rfl (Nat.le_of_ble_eq_true rfl) dX9_law_42 ?_
      exact kw_lret C K dX9_law_45 hf
    · have hf := if_p c7 hf
      refine kw_sub [] _ rfl ?_
      exact kJ3 _ hf
set_option maxRecDepth 100000 in
set_option maxHeartbeats 4000000 in
theorem kX9_count (L : Launch) (D : va_G) (g : GwT) (t0 : Nat) (p0 : Int32) (σ : St) (r0 : Int32) (hf : fX9_count σ p0 = some r0) : CtI L D (ttG g) (wB g) t0 yX9_count cX9_count 2 (some .int) { frames := 2, cells := 0, slots := 0, locals := 43 } [.ref (g.1 0), .int p0] σ r0 σ := by
  refine CtI.of (own := RX9) (by decide) rfl (Nat.le_of_ble_eq_true rfl) [(0, .ref (g.1 0)), (1, .int p0)] rfl ?_
  intro X C hN K
  unfold fX9_count at hf
  refine kw_iload_n C dX9_count_0 rfl 1 rfl ?_
  by_cases c1 : p0 = (0 : Int32)
  · have hf := if_p c1 hf
    refine kw_tabIn C 68 dX9_count_1 c1 (by decide) (by decide) rfl rfl ?_
    refine kw_aload_n C dX9_count_68 rfl 0 rfl ?_
    refine kw_get C inG9 _ (hO9 g σ) rfl 2 (Nat.le_of_ble_eq_true rfl) mf_9_22 rfl rfl dX9_count_69 ?_
    refine kw_get C inG6 _ (hO6 g σ (gR σ 0)) rfl 1 (Nat.le_of_ble_eq_true rfl) mf_9_119 rfl rfl dX9_count_72 ?_
    exact kw_iret C K dX9_count_75 (pr_ret hf)
  have hf := if_n c1 hf
  by_cases c2 : p0 = (1 : Int32)
  · have hf := if_p c2 hf
    refine kw_tabIn C 76 dX9_count_1 c2 (by decide) (by decide) rfl rfl ?_
    refine kw_aload_n C dX9_count_76 rfl 0 rfl ?_
    refine kw_get C inG9 _ (hO9 g σ) rfl 2 (Nat.le_of_ble_eq_true rfl) mf_9_22 rfl rfl dX9_count_77 ?_
    refine kw_get C inG6 _ (hO6 g σ (gR σ 0)) rfl 8 (Nat.le_of_ble_eq_true rfl) mf_9_129 rfl rfl dX9_count_80 ?_
    exact kw_iret C K dX9_count_83 (pr_ret hf)
  have hf := if_n c2 hf
  by_cases c3 : p0 = (2 : Int32)
  · have hf := if_p c3 hf
    refine kw_tabIn C 84 dX9_count_1 c3 (by decide) (by decide) rfl rfl ?_
    refine kw_aload_n C dX9_count_84 rfl 0 rfl ?_
    refine kw_get C inG9 _ (hO9 g σ) rfl 2 (Nat.le_of_ble_eq_true rfl) mf_9_22 rfl rfl dX9_count_85 ?_
    refine kw_get C inG6 _ (hO6 g σ (gR σ 0)) rfl 15 (Nat.le_of_ble_eq_true rfl) mf_9_201 rfl rfl dX9_count_88 ?_
    refine kw_get C inG2 _ (hO2 g σ (gR σ 0)) rfl 4 (Nat.le_of_ble_eq_true rfl) mf_9_205 rfl rfl dX9_count_91 ?_
    exact kw_iret C K dX9_count_94 (pr_ret hf)
  have hf := if_n c3 hf
  by_cases c4 : p0 = (3 : Int32)
  · have hf := if_p c4 hf
    refine kw_tabIn C 95 dX9_count_1 c4 (by decide) (by decide) rfl rfl ?_
    refine kw_aload_n C dX9_count_95 rfl 0 rfl ?_
    refine kw_get C inG9 _ (hO9 g σ) rfl 7 (Nat.le_of_ble_eq_true rfl) mf_9_47 rfl rfl dX9_count_96 ?_
    refine kw_get C inG4 _ (hO4 g σ 5 (by simp [isSale])) rfl 8 (Nat.le_of_ble_eq_true rfl) mf_9_210 rfl rfl dX9_count_99 ?_
    exact kw_iret C K dX9_count_102 (pr_ret hf)
  have hf := if_n c4 hf
  by_cases c5 : p0 = (4 : Int32)
  · have hf := if_p c5 hf
    refine kw_tabIn C 103 dX9_count_1 c5 (by decide) (by decide) rfl rfl ?_
    refine kw_aload_n C dX9_count_103 rfl 0 rfl ?_
    refine kw_get C inG9 _ (hO9 g σ) rfl 7 (Nat.le_of_ble_eq_true rfl) mf_9_47 rfl rfl dX9_count_104 ?_
    refine kw_get C inG4 _ (hO4 g σ 5 (by simp [isSale])) rfl 9 (Nat.le_of_ble_eq_true rfl) mf_9_213 rfl rfl dX9_count_107 ?_
    exact kw_iret C K dX9_count_110 (pr_ret hf)
  have hf := if_n c5 hf
  by_cases c6 : p0 = (5 : Int32)
  · have hf := if_p c6 hf
    refine kw_tabIn C 111 dX9_count_1 c6 (by decide) (by decide) rfl rfl ?_
    refine kw_aload_n C dX9_count_111 rfl 0 rfl ?_
    refine kw_get C inG9 _ (hO9 g σ) rfl 7 (Nat.le_of_ble_eq_true rfl) mf_9_47 rfl rfl dX9_count_112 ?_
    refine kw_get C inG4 _ (hO4 g σ 5 (by simp [isSale])) rfl 10 (Nat.le_of_ble_eq_true rfl) mf_9_216 rfl rfl dX9_count_115 ?_
    exact kw_iret C K dX9_count_118 (pr_ret hf)
  have hf := if_n c6 hf
  by_cases c7 : p0 = (6 : Int32)
  · have hf := if_p c7 hf
    refine kw_tabIn C 119 dX9_count_1 c7 (by decide) (by decide) rfl rfl ?_
    refine kw_aload_n C dX9_count_119 rfl 0 rfl ?_
    refine kw_get C inG9 _ (hO9 g σ) rfl 7 (Nat.le_of_ble_eq_true rfl) mf_9_47 rfl rfl dX9_count_120 ?_
    refine kw_get C inG4 _ (hO4 g σ 5 (by simp [isSale])) rfl 11 (Nat.le_of_ble_eq_true rfl) mf_9_219 rfl rfl dX9_count_123 ?_
    exact kw_iret C K dX9_count_126 (pr_ret hf)
  have hf := if_n c7 hf
  by_cases c8 : p0 = (7 : Int32)
  · have hf := if_p c8 hf
    refine kw_tabIn C 127 dX9_count_1 c8 (by decide) (by decide) rfl rfl ?_
    refine kw_aload_n C dX9_count_127 rfl 0 rfl ?_
    refine kw_get C inG9 _ (hO9 g σ) rfl 7 (Nat.le_of_ble_eq_true rfl) mf_9_47 rfl rfl dX9_count_128 ?_
    refine kw_get C inG4 _ (hO4 g σ 5 (by simp [isSale])) rfl 14 (Nat.le_of_ble_eq_true rfl) mf_9_222 rfl rfl dX9_count_131 ?_
    obtain ⟨J10, hJ10, hf⟩ := jnx1_elim hf
    have kJ10 : ∀ (x9 : Int32), J10 x9 = some r0 → KW X σ 142 [] [.int x9] := by
      clear hf
      intro x9 hf
      have hf := (hJ10 x9).symm.trans hf
      exact kw_iret C K dX9_count_142 (pr_ret hf)
    refine kw_if_eq C 141 dX9_count_134 rfl (fun c11 => ?_) (fun c11 => ?_)
    · have hf := if_p c11 hf
      refine kw_iconst C (0 : Int32) dX9_count_141 rfl ?_
      refine kw_sub [] _ rfl ?_
      exact kJ10 _ hf
    · have hf := if_n c11 hf
      refine kw_iconst C (1 : Int32) dX9_count_137 rfl ?_
      refine kw_goto C 142 dX9_count_138 rfl ?_
      refine kw_sub [] _ rfl ?_
      exact kJ10 _ hf
  have hf := if_n c8 hf
  by_cases c12 : p0 = (8 : Int32)
  · have hf := if_p c12 hf
    refine kw_tabIn C 143 dX9_count_1 c12 (by decide) (by decide) rfl rfl ?_
    refine kw_aload_n C dX9_count_143 rfl 0 rfl ?_
    refine kw_get C inG9 _ (hO9 g σ) rfl 7 (Nat.le_of_ble_eq_true rfl) mf_9_47 rfl rfl dX9_count_144 ?_
    refine kw_get C inG4 _ (hO4 g σ 5 (by simp [isSale])) rfl 6 (Nat.le_of_ble_eq_true rfl) mf_9_225 rfl rfl dX9_count_147 ?_
    obtain ⟨r14, hc13, hf⟩ := bd_elim hf
    refine kw_callTI C [.int (gI σ 5 6)] (kJ6_bitCount_0f7a4 L D g t0 (gI σ 5 6) σ _ hc13) mT_X9_228 ⟨rfl, rfl⟩ dd_J6_bitCount_0f7a4.2 ⟨Nat.le_of_ble_eq_true rfl, Nat.le_of_ble_eq_true rfl⟩ rfl (Nat.le_of_ble_eq_true rfl) dX9_count_150 ?_
    exact kw_iret C K dX9_count_153 (pr_ret hf)
  have hf := if_n c12 hf
  by_cases c15 : p0 = (9 : Int32)
  · have hf := if_p c15 hf
    refine kw_tabIn C 154 dX9_count_1 c15 (by decide) (by decide) rfl rfl ?_
    refine kw_aload_n C dX9_count_154 rfl 0 rfl ?_
    refine kw_get C inG9 _ (hO9 g σ) rfl 7 (Nat.le_of_ble_eq_true rfl) mf_9_47 rfl rfl dX9_count_155 ?_
    refine kw_get C inG4 _ (hO4 g σ 5 (by simp [isSale])) rfl 12 (Nat.le_of_ble_eq_true rfl) mf_9_234 rfl rfl dX9_count_158 ?_
    exact kw_iret C K dX9_count_161 (pr_ret hf)
  have hf := if_n c15 hf
  by_cases c16 : p0 = (10 : Int32)
  · have hf := if_p c16 hf
    refine kw_tabIn C 162 dX9_count_1 c16 (by decide) (by decide) rfl rfl ?_
    refine kw_aload_n C dX9_count_162 rfl 0 rfl ?_
    refine kw_get C inG9 _ (hO9 g σ) rfl 13 (Nat.le_of_ble_eq_true rfl) mf_9_74 rfl rfl dX9_count_163 ?_
    refine kw_get C inG5 _ (hO5 g σ) rfl 4 (Nat.le_of_ble_eq_true rfl) mf_9_237 rfl rfl dX9_count_166 ?_
    exact kw_iret C K dX9_count_169 (pr_ret hf)
  have hf := if_n c16 hf
  by_cases c17 : p0 = (11 : Int32)
  · have hf := if_p c17 hf
    refine kw_tabIn C 170 dX9_count_1 c17 (by decide) (by decide) rfl rfl ?_
    refine kw_aload_n C dX9_count_170 rfl 0 rfl ?_
    refine kw_get C inG9 _ (hO9 g σ) rfl 13 (Nat.le_of_ble_eq_true rfl) mf_9_74 rfl rfl dX9_count_171 ?_
    obtain ⟨r19, hc18, hf⟩ := bd_elim hf
    refine kw_callVI C [] (kX5_howManyKnown L D g t0 σ _ hc18) RX5 mV_X9_240 ⟨rfl, rfl⟩ dd_X5_howManyKnown ⟨Nat.le_of_ble_eq_true rfl, Nat.le_of_ble_eq_true rfl⟩ _ (hO5 g σ) rfl rfl rfl (Nat.le_of_ble_eq_true rfl) dX9_count_174 ?_
    exact kw_iret C K dX9_count_177 (pr_ret hf)
  have hf := if_n c17 hf
  by_cases c20 : p0 = (12 : Int32)
  · have hf := if_p c20 hf
    refine kw_tabIn C 178 dX9_count_1 c20 (by decide) (by decide) rfl rfl ?_
    refine kw_aload_n C dX9_count_178 rfl 0 rfl ?_
    refine kw_get C inG9 _ (hO9 g σ) rfl 12 (Nat.le_of_ble_eq_true rfl) mf_9_67 rfl rfl dX9_count_179 ?_
    refine kw_get C inG8 _ (hO8 g σ) rfl 1 (Nat.le_of_ble_eq_true rfl) mf_9_243 rfl rfl dX9_count_182 ?_
    exact kw_iret C K dX9_count_185 (pr_ret hf)
  have hf := if_n c20 hf
  have c1_ : p0.toInt ≠ 0 := ne_ti c1
  have c2_ : p0.toInt ≠ 1 := ne_ti c2
  have c3_ : p0.toInt ≠ 2 := ne_ti c3
  have c4_ : p0.toInt ≠ 3 := ne_ti c4
  have c5_ : p0.toInt ≠ 4 := ne_ti c5
  have c6_ : p0.toInt ≠ 5 := ne_ti c6
  have c7_ : p0.toInt ≠ 6 := ne_ti c7
  have c8_ : p0.toInt ≠ 7 := ne_ti c8
  have c12_ : p0.toInt ≠ 8 := ne_ti c12
  have c15_ : p0.toInt ≠ 9 := ne_ti c15
  have c16_ : p0.toInt ≠ 10 := ne_ti c16
  have c17_ : p0.toInt ≠ 11 := ne_ti c17
  have c20_ : p0.toInt ≠ 12 := ne_ti c20
  refine kw_tabOut C 186 dX9_count_1 (by omega) rfl ?_
  refine kw_iconst C (-1 : Int32) dX9_count_186 rfl ?_
  exact kw_iret C K dX9_count_187 (pr_ret hf)
set_option maxRecDepth 100000 in
set_option maxHeartbeats 4000000 in
theorem kX9_turn (L : Launch) (D : va_G) (g : GwT) (t0 : Nat) (σ : St) (r0 : Int32) (σ0 : St) (hf : fX9_turn σ  = some (r0, σ0)) : CtI L D (ttG g) (wB g) t0 yX9_turn cX9_turn 2 (some .int) { frames := 2, cells := 0, slots := 0, locals := 45 } [.ref (g.1 0)] σ r0 σ0 := by
  refine CtI.of (own := RX9) (by decide) rfl (Nat.le_of_ble_eq_true rfl) [(0, .ref (g.1 0))] rfl ?_
  intro X C hN K
  unfold fX9_turn at hf
  refine kw_aload_n C dX9_turn_0 rfl 0 rfl ?_
  refine kw_get C inG9 _ (hO9 g σ) rfl 14 (Nat.le_of_ble_eq_true rfl) mf_9_83 rfl rfl dX9_turn_1 ?_
  refine kw_aload_n C dX9_turn_4 rfl 0 rfl ?_
  refine kw_get C inG9 _ (hO9 g σ) rfl 2 (Nat.le_of_ble_eq_true rfl) mf_9_22 rfl rfl dX9_turn_5 ?_
  obtain ⟨σ2, hc1, hf⟩ := bV_elim hf
  refine kw_callVV C [.ref (g.1 (tx (gR σ 0)))] (kX0_asItGoes L D g t0 (gR σ 0) σ _ hc1) RX0 mV_X9_194 ⟨rfl, rfl⟩ dd_X0_asItGoes ⟨Nat.le_of_ble_eq_true rfl, Nat.le_of_ble_eq_true rfl⟩ _ (hO0 g σ) rfl rfl rfl (Nat.le_of_ble_eq_true rfl) dX9_turn_8 ?_
  refine kw_aload_n C dX9_turn_11 rfl 0 rfl ?_
  refine kw_get C inG9 _ (hO9 g σ2) rfl 14 (Nat.le_of_ble_eq_true rfl) mf_9_83 rfl rfl dX9_turn_12 ?_
  refine kw_aload_n C dX9_turn_15 rfl 0 rfl ?_
  refine kw_get C inG9 _ (hO9 g σ2) rfl 7 (Nat.le_of_ble_eq_true rfl) mf_9_47 rfl rfl dX9_turn_16 ?_
  obtain ⟨r4, hc3, hf⟩ := bd_elim hf
  refine kw_callVI C [.ref (g.1 5)] (kX0_whoseTurn L D g t0 5 (by simp [isSale]) σ2 _ hc3) RX0 mV_X9_244 ⟨rfl, rfl⟩ dd_X0_whoseTurn ⟨Nat.le_of_ble_eq_true rfl, Nat.le_of_ble_eq_true rfl⟩ _ (hO0 g σ2) rfl rfl rfl (Nat.le_of_ble_eq_true rfl) dX9_turn_19 ?_
  refine kw_istore_n C dX9_turn_22 rfl hN (Nat.le_of_ble_eq_true rfl) [(1, .int r4), (0, .ref (g.1 0))] rfl ?_
  refine kw_iload_n C dX9_turn_23 rfl 0 rfl ?_
  refine kw_iconst C (-1 : Int32) dX9_turn_24 rfl ?_
  obtain ⟨J6, hJ6, hf⟩ := jnx1_elim hf
  have kJ6 : ∀ (x5 : Int32), J6 x5 = some (r0, σ0) → KW X σ2 34 [] [.int x5] := by
    clear hf
    intro x5 hf
    have hf := (hJ6 x5).symm.trans hf
    exact kw_iret C K dX9_turn_34 hf
  refine kw_icmp_ne C 33 dX9_turn_25 rfl (fun c7 => ?_) (fun c7 => ?_)
  · have hf := if_n c7 hf
    refine kw_iload_n C dX9_turn_33 rfl 0 rfl ?_
    refine kw_sub [] _ rfl ?_
    exact kJ6 _ hf
  · have hf := if_p c7 hf
    refine kw_bipush C (-2 : Int32) dX9_turn_28 rfl ?_
    refine kw_goto C 34 dX9_turn_30 rfl ?_
    refine kw_sub [] _ rfl ?_
    exact kJ6 _ hf
set_option maxRecDepth 100000 in
set_option maxHeartbeats 4000000 in
theorem kX9_nod (L : Launch) (D : va_G) (g : GwT) (t0 : Nat) (p0 : Int32) (σ : St) (r0 : Int32) (σ0 : St) (hf : fX9_nod σ p0 = some (r0, σ0)) : CtI L D (ttG g) (wB g) t0 yX9_nod cX9_nod 2 (some .int) { frames := 2, cells := 0, slots := 0, locals := 58 } [.ref (g.1 0), .int p0] σ r0 σ0 := by
  refine CtI.of (own := RX9) (by decide) rfl (Nat.le_of_ble_eq_true rfl) [(0, .ref (g.1 0)), (1, .int p0)] rfl ?_
  intro X C hN K
  unfold fX9_nod at hf
  refine kw_aload_n C dX9_nod_0 rfl 0 rfl ?_
  refine kw_iload_n C dX9_nod_1 rfl 1 rfl ?_
  obtain ⟨r2, hc1, hf⟩ := bd_elim hf
  refine kw_callVI C [.int p0] (kX9_isHouse L D g t0 p0 σ _ hc1) RX9 mV_X9_132 ⟨rfl, rfl⟩ dd_X9_isHouse ⟨Nat.le_of_ble_eq_true rfl, Nat.le_of_ble_eq_true rfl⟩ _ (hO9 g σ) rfl rfl rfl (Nat.le_of_ble_eq_true rfl) dX9_nod_2 ?_
  refine kw_if_ne C 10 dX9_nod_5 rfl (fun c3 => ?_) (fun c3 => ?_)
  · have hf := if_n c3 hf
    refine kw_aload_n C dX9_nod_10 rfl 0 rfl ?_
    refine kw_get C inG9 _ (hO9 g σ) rfl 14 (Nat.le_of_ble_eq_true rfl) mf_9_83 rfl rfl dX9_nod_11 ?_
    refine kw_aload_n C dX9_nod_14 rfl 0 rfl ?_
    refine kw_get C inG9 _ (hO9 g σ) rfl 2 (Nat.le_of_ble_eq_true rfl) mf_9_22 rfl rfl dX9_nod_15 ?_
    obtain ⟨σ5, hc4, hf⟩ := bV_elim hf
    refine kw_callVV C [.ref (g.1 (tx (gR σ 0)))] (kX0_asItGoes L D g t0 (gR σ 0) σ _ hc4) RX0 mV_X9_194 ⟨rfl, rfl⟩ dd_X0_asItGoes ⟨Nat.le_of_ble_eq_true rfl, Nat.le_of_ble_eq_true rfl⟩ _ (hO0 g σ) rfl rfl rfl (Nat.le_of_ble_eq_true rfl) dX9_nod_18 ?_
    refine kw_aload_n C dX9_nod_21 rfl 0 rfl ?_
    refine kw_get C inG9 _ (hO9 g σ5) rfl 14 (Nat.le_of_ble_eq_true rfl) mf_9_83 rfl rfl dX9_nod_22 ?_
    refine kw_aload_n C dX9_nod_25 rfl 0 rfl ?_
    refine kw_get C inG9 _ (hO9 g σ5) rfl 7 (Nat.le_of_ble_eq_true rfl) mf_9_47 rfl rfl dX9_nod_26 ?_
    refine kw_iload_n C dX9_nod_29 rfl 1 rfl ?_
    obtain ⟨r7, hc6, hf⟩ := bd_elim hf
    refine kw_callVI C [.ref (g.1 5), .int p0] (kX0_mayNod L D g t0 5 (by simp [isSale]) p0 σ5 _ hc6) RX0 mV_X9_248 ⟨rfl, rfl⟩ dd_X0_mayNod ⟨Nat.le_of_ble_eq_true rfl, Nat.le_of_ble_eq_true rfl⟩ _ (hO0 g σ5) rfl rfl rfl (Nat.le_of_ble_eq_true rfl) dX9_nod_30 ?_
    refine kw_if_ne C 39 dX9_nod_33 rfl (fun c8 => ?_) (fun c8 => ?_)
    · have hf := if_n c8 hf
      refine kw_aload_n C dX9_nod_39 rfl 0 rfl ?_
      refine kw_get C inG9 _ (hO9 g σ5) rfl 12 (Nat.le_of_ble_eq_true rfl) mf_9_67 rfl rfl dX9_nod_40 ?_
      refine kw_aload_n C dX9_nod_43 rfl 0 rfl ?_
      refine kw_get C inG9 _ (hO9 g σ5) rfl 7 (Nat.le_of_ble_eq_true rfl) mf_9_47 rfl rfl dX9_nod_44 ?_
      refine kw_iload_n C dX9_nod_47 rfl 1 rfl ?_
      obtain ⟨σ10, hc9, hf⟩ := bV_elim hf
      refine kw_callVV C [.ref (g.1 5), .int p0] (kX8_note L D g t0 5 (by simp [isSale]) p0 σ5 _ hc9) RX8 mV_X9_252 ⟨rfl, rfl⟩ dd_X8_note ⟨Nat.le_of_ble_eq_true rfl, Nat.le_of_ble_eq_true rfl⟩ _ (hO8 g σ5) rfl rfl rfl (Nat.le_of_ble_eq_true rfl) dX9_nod_48 ?_
      refine kw_aload_n C dX9_nod_51 rfl 0 rfl ?_
      refine kw_get C inG9 _ (hO9 g σ10) rfl 14 (Nat.le_of_ble_eq_true rfl) mf_9_83 rfl rfl dX9_nod_52 ?_
      refine kw_aload_n C dX9_nod_55 rfl 0 rfl ?_
      refine kw_get C inG9 _ (hO9 g σ10) rfl 7 (Nat.le_of_ble_eq_true rfl) mf_9_47 rfl rfl dX9_nod_56 ?_
      refine kw_iload_n C dX9_nod_59 rfl 1 rfl ?_
      obtain ⟨σ12, hc11, hf⟩ := bV_elim hf
      refine kw_callVV C [.ref (g.1 5), .int p0] (kX0_raise L D g t0 5 (by simp [isSale]) p0 σ10 _ hc11) RX0 mV_X9_256 ⟨rfl, rfl⟩ dd_X0_raise ⟨Nat.le_of_ble_eq_true rfl, Nat.le_of_ble_eq_true rfl⟩ _ (hO0 g σ10) rfl rfl rfl (Nat.le_of_ble_eq_true rfl) dX9_nod_60 ?_
      refine kw_aload_n C dX9_nod_63 rfl 0 rfl ?_
      refine kw_get C inG9 _ (hO9 g σ12) rfl 7 (Nat.le_of_ble_eq_true rfl) mf_9_47 rfl rfl dX9_nod_64 ?_
      refine kw_get C inG4 _ (hO4 g σ12 5 (by simp [isSale])) rfl 9 (Nat.le_of_ble_eq_true rfl) mf_9_213 rfl rfl dX9_nod_67 ?_
      exact kw_iret C K dX9_nod_70 hf
    · have hf := if_p c8 hf
      refine kw_bipush C (-2 : Int32) dX9_nod_36 rfl ?_
      exact kw_iret C K dX9_nod_38 hf
  · have hf := if_p c3 hf
    refine kw_iconst C (-1 : Int32) dX9_nod_8 rfl ?_
    exact kw_iret C K dX9_nod_9 hf
set_option maxRecDepth 100000 in
set_option maxHeartbeats 4000000 in
theorem kX9_isIn (L : Launch) (D : va_G) (g : GwT) (t0 : Nat) (p0 : Int32) (σ : St) (r0 : Int32) (hf : fX9_isIn σ p0 = some r0) : CtI L D (ttG g) (wB g) t0 yX9_isIn cX9_isIn 2 (some .boolean) { frames := 1, cells := 0, slots := 0, locals := 21 } [.ref (g.1 0), .int p0] σ r0 σ := by
  refine CtI.of (own := RX9) (by decide) rfl (Nat.le_of_ble_eq_true rfl) [(0, .ref (g.1 0)), (1, .int p0)] rfl ?_
  intro X C hN K
  unfold fX9_isIn at hf
  refine kw_aload_n C dX9_isIn_0 rfl 0 rfl ?_
  refine kw_iload_n C dX9_isIn_1 rfl 1 rfl ?_
  obtain ⟨r2, hc1, hf⟩ := bd_elim hf
  refine kw_callVI C [.int p0] (kX9_isHouse L D g t0 p0 σ _ hc1) RX9 mV_X9_132 ⟨rfl, rfl⟩ dd_X9_isHouse ⟨Nat.le_of_ble_eq_true rfl, Nat.le_of_ble_eq_true rfl⟩ _ (hO9 g σ) rfl rfl rfl (Nat.le_of_ble_eq_true rfl) dX9_isIn_2 ?_
  obtain ⟨J4, hJ4, hf⟩ := jnx1_elim hf
  have kJ4 : ∀ (x3 : Int32), J4 x3 = some r0 → KW X σ 24 [] [.int x3] := by
    clear hf
    intro x3 hf
    have hf := (hJ4 x3).symm.trans hf
    obtain ⟨h5, hf⟩ := gd_elim hf
    exact kw_zret C K h5 dX9_isIn_24 (pr_ret hf)
  obtain ⟨J6, hJ6, hf⟩ := jnx1_elim hf
  have kJ6 : ∀ (u9 : Unit), J6 u9 = some r0 → KW X σ 23 [] [] := by
    clear hf
    intro u9 hf
    have hf := (hJ6 u9).symm.trans hf
    refine kw_iconst C (0 : Int32) dX9_isIn_23 rfl ?_
    exact kJ4 _ hf
  refine kw_if_eq C 23 dX9_isIn_5 rfl (fun c7 => ?_) (fun c7 => ?_)
  · have hf := if_p c7 hf
    refine kw_sub [] _ rfl ?_
    exact kJ6 _ hf
  · have hf := if_n c7 hf
    refine kw_aload_n C dX9_isIn_8 rfl 0 rfl ?_
    refine kw_get C inG9 _ (hO9 g σ) rfl 7 (Nat.le_of_ble_eq_true rfl) mf_9_47 rfl rfl dX9_isIn_9 ?_
    refine kw_iload_n C dX9_isIn_12 rfl 1 rfl ?_
    obtain ⟨r9, hc8, hf⟩ := bd_elim hf
    refine kw_callVI C [.int p0] (kX4_holds L D g t0 5 (by simp [isSale]) p0 σ _ hc8) RX4 mV_X9_136 ⟨rfl, rfl⟩ dd_X4_holds ⟨Nat.le_of_ble_eq_true rfl, Nat.le_of_ble_eq_true rfl⟩ _ (hO4 g σ 5 (by simp [isSale])) rfl rfl rfl (Nat.le_of_ble_eq_true rfl) dX9_isIn_13 ?_
    refine kw_if_eq C 23 dX9_isIn_16 rfl (fun c10 => ?_) (fun c10 => ?_)
    · have hf := if_p c10 hf
      refine kw_sub [] _ rfl ?_
      exact kJ6 _ hf
    · have hf := if_n c10 hf
      refine kw_iconst C (1 : Int32) dX9_isIn_19 rfl ?_
      refine kw_goto C 24 dX9_isIn_20 rfl ?_
      refine kw_sub [] _ rfl ?_
      exact kJ4 _ hf
set_option maxRecDepth 100000 in
set_option maxHeartbeats 4000000 in
theorem kX9_areTwoIn (L : Launch) (D : va_G) (g : GwT) (t0 : Nat) (p0 : Int32) (p1 : Int32) (σ : St) (r0 : Int32) (hf : fX9_areTwoIn σ p0 p1 = some r0) : CtI L D (ttG g) (wB g) t0 yX9_areTwoIn cX9_areTwoIn 3 (some .boolean) { frames := 2, cells := 0, slots := 0, locals := 42 } [.ref (g.1 0), .int p0, .int p1] σ r0 σ := by
  refine CtI.of (own := RX9) (by decide) rfl (Nat.le_of_ble_eq_true rfl) [(0, .ref (g.1 0)), (1, .int p0), (2, .int p1)] rfl ?_
  intro X C hN K
  unfold fX9_areTwoIn at hf
  refine kw_iload_n C dX9_areTwoIn_0 rfl 1 rfl ?_
  refine kw_iload_n C dX9_areTwoIn_1 rfl 2 rfl ?_
  obtain ⟨J2, hJ2, hf⟩ := jnx1_elim hf
  have kJ2 : ∀ (x1 : Int32), J2 x1 = some r0 → KW X σ 26 [] [.int x1] := by
    clear hf
    intro x1 hf
    have hf := (hJ2 x1).symm.trans hf
    obtain ⟨h3, hf⟩ := gd_elim hf
    exact kw_zret C K h3 dX9_areTwoIn_26 (pr_ret hf)
  obtain ⟨J4, hJ4, hf⟩ := jnx1_elim hf
  have kJ4 : ∀ (u9 : Unit), J4 u9 = some r0 → KW X σ 25 [] [] := by
    clear hf
    intro u9 hf
    have hf := (hJ4 u9).symm.trans hf
    refine kw_iconst C (0 : Int32) dX9_areTwoIn_25 rfl ?_
    exact kJ2 _ hf
  refine kw_icmp_eq C 25 dX9_areTwoIn_2 rfl (fun c5 => ?_) (fun c5 => ?_)
  · have hf := if_p c5 hf
    refine kw_sub [] _ rfl ?_
    exact kJ4 _ hf
  · have hf := if_n c5 hf
    refine kw_aload_n C dX9_areTwoIn_5 rfl 0 rfl ?_
    refine kw_iload_n C dX9_areTwoIn_6 rfl 1 rfl ?_
    obtain ⟨r7, hc6, hf⟩ := bd_elim hf
    refine kw_callVI C [.int p0] (kX9_isIn L D g t0 p0 σ _ hc6) RX9 mV_X9_139 ⟨rfl, rfl⟩ dd_X9_isIn ⟨Nat.le_of_ble_eq_true rfl, Nat.le_of_ble_eq_true rfl⟩ _ (hO9 g σ) rfl rfl rfl (Nat.le_of_ble_eq_true rfl) dX9_areTwoIn_7 ?_
    refine kw_if_eq C 25 dX9_areTwoIn_10 rfl (fun c8 => ?_) (fun c8 => ?_)
    · have hf := if_p c8 hf
      refine kw_sub [] _ rfl ?_
      exact kJ4 _ hf
    · have hf := if_n c8 hf
      refine kw_aload_n C dX9_areTwoIn_13 rfl 0 rfl ?_
      refine kw_iload_n C dX9_areTwoIn_14 rfl 2 rfl ?_
      obtain ⟨r10, hc9, hf⟩ := bd_elim hf
      refine kw_callVI C [.int p1] (kX9_isIn L D g t0 p1 σ _ hc9) RX9 mV_X9_139 ⟨rfl, rfl⟩ dd_X9_isIn ⟨Nat.le_of_ble_eq_true rfl, Nat.le_of_ble_eq_true rfl⟩ _ (hO9 g σ) rfl rfl rfl (Nat.le_of_ble_eq_true rfl) dX9_areTwoIn_15 ?_
      refine kw_if_eq C 25 dX9_areTwoIn_18 rfl (fun c11 => ?_) (fun c11 => ?_)
      · have hf := if_p c11 hf
        refine kw_sub [] _ rfl ?_
        exact kJ4 _ hf
      · have hf := if_n c11 hf
        refine kw_iconst C (1 : Int32) dX9_areTwoIn_21 rfl ?_
        refine kw_goto C 26 dX9_areTwoIn_22 rfl ?_
        refine kw_sub [] _ rfl ?_
        exact kJ2 _ hf
set_option maxRecDepth 100000 in
set_option maxHeartbeats 4000000 in
theorem kX9_marry (L : Launch) (D : va_G) (g : GwT) (t0 : Nat) (p0 : Int32) (p1 : Int32) (σ : St) (r0 : Int32) (σ0 : St) (hf : fX9_marry σ p0 p1 = some (r0, σ0)) : CtI L D (ttG g) (wB g) t0 yX9_marry cX9_marry 3 (some .boolean) { frames := 3, cells := 0, slots := 0, locals := 64 } [.ref (g.1 0), .int p0, .int p1] σ r0 σ0 := by
  refine CtI.of (own := RX9) (by decide) rfl (Nat.le_of_ble_eq_true rfl) [(0, .ref (g.1 0)), (1, .int p0), (2, .int p1)] rfl ?_
  intro X C hN K
  unfold fX9_marry at hf
  refine kw_aload_n C dX9_marry_0 rfl 0 rfl ?_
  refine kw_iload_n C dX9_marry_1 rfl 1 rfl ?_
  refine kw_iload_n C dX9_marry_2 rfl 2 rfl ?_
  obtain ⟨r2, hc1, hf⟩ := bd_elim hf
  refine kw_callVI C [.int p0, .int p1] (kX9_areTwoIn L D g t0 p0 p1 σ _ hc1) RX9 mV_X9_142 ⟨rfl, rfl⟩ dd_X9_areTwoIn ⟨Nat.le_of_ble_eq_true rfl, Nat.le_of_ble_eq_true rfl⟩ _ (hO9 g σ) rfl rfl rfl (Nat.le_of_ble_eq_true rfl) dX9_marry_3 ?_
  refine kw_if_ne C 11 dX9_marry_6 rfl (fun c3 => ?_) (fun c3 => ?_)
  · have hf := if_n c3 hf
    refine kw_aload_n C dX9_marry_11 rfl 0 rfl ?_
    refine kw_get C inG9 _ (hO9 g σ) rfl 12 (Nat.le_of_ble_eq_true rfl) mf_9_67 rfl rfl dX9_marry_12 ?_
    refine kw_aload_n C dX9_marry_15 rfl 0 rfl ?_
    refine kw_get C inG9 _ (hO9 g σ) rfl 7 (Nat.le_of_ble_eq_true rfl) mf_9_47 rfl rfl dX9_marry_16 ?_
    refine kw_iload_n C dX9_marry_19 rfl 1 rfl ?_
    obtain ⟨σ5, hc4, hf⟩ := bV_elim hf
    refine kw_callVV C [.ref (g.1 5), .int p0] (kX8_note L D g t0 5 (by simp [isSale]) p0 σ _ hc4) RX8 mV_X9_252 ⟨rfl, rfl⟩ dd_X8_note ⟨Nat.le_of_ble_eq_true rfl, Nat.le_of_ble_eq_true rfl⟩ _ (hO8 g σ) rfl rfl rfl (Nat.le_of_ble_eq_true rfl) dX9_marry_20 ?_
    refine kw_aload_n C dX9_marry_23 rfl 0 rfl ?_
    refine kw_get C inG9 _ (hO9 g σ5) rfl 7 (Nat.le_of_ble_eq_true rfl) mf_9_47 rfl rfl dX9_marry_24 ?_
    refine kw_iload_n C dX9_marry_27 rfl 1 rfl ?_
    refine kw_iload_n C dX9_marry_28 rfl 2 rfl ?_
    obtain ⟨σ7, hc6, hf⟩ := bV_elim hf
    refine kw_callVV C [.int p0, .int p1] (kX4_wed L D g t0 5 (by simp [isSale]) p0 p1 σ5 _ hc6) RX4 mV_X9_259 ⟨rfl, rfl⟩ dd_X4_wed ⟨Nat.le_of_ble_eq_true rfl, Nat.le_of_ble_eq_true rfl⟩ _ (hO4 g σ5 5 (by simp [isSale])) rfl rfl rfl (Nat.le_of_ble_eq_true rfl) dX9_marry_29 ?_
    refine kw_iconst C (1 : Int32) dX9_marry_32 rfl ?_
    exact kw_zret C K (by decide) dX9_marry_33 hf
  · have hf := if_p c3 hf
    refine kw_iconst C (0 : Int32) dX9_marry_9 rfl ?_
    exact kw_zret C K (by decide) dX9_marry_10 hf
set_option maxRecDepth 100000 in
set_option maxHeartbeats 4000000 in
theorem kX9_will (L : Launch) (D : va_G) (g : GwT) (t0 : Nat) (p0 : Int32) (p1 : Int32) (σ : St) (r0 : Int32) (σ0 : St) (hf : fX9_will σ p0 p1 = some (r0, σ0)) : CtI L D (ttG g) (wB g) t0 yX9_will cX9_will 3 (some .boolean) { frames := 2, cells := 0, slots := 0, locals := 58 } [.ref (g.1 0), .int p0, .int p1] σ r0 σ0 := by
  refine CtI.of (own := RX9) (by decide) rfl (Nat.le_of_ble_eq_true rfl) [(0, .ref (g.1 0)), (1, .int p0), (2, .int p1)] rfl ?_
  intro X C hN K
  unfold fX9_will at hf
  refine kw_aload_n C dX9_will_0 rfl 0 rfl ?_
  refine kw_iload_n C dX9_will_1 rfl 1 rfl ?_
  obtain ⟨r2, hc1, hf⟩ := bd_elim hf
  refine kw_callVI C [.int p0] (kX9_isIn L D g t0 p0 σ _ hc1) RX9 mV_X9_139 ⟨rfl, rfl⟩ dd_X9_isIn ⟨Nat.le_of_ble_eq_true rfl, Nat.le_of_ble_eq_true rfl⟩ _ (hO9 g σ) rfl rfl rfl (Nat.le_of_ble_eq_true rfl) dX9_will_2 ?_
  obtain ⟨J3, hJ3, hf⟩ := jnx1_elim hf
  have kJ3 : ∀ (u9 : Unit), J3 u9 = some (r0, σ0) → KW X σ 32 [] [] := by
    clear hf
    intro u9 hf
    have hf := (hJ3 u9).symm.trans hf
    refine kw_iconst C (0 : Int32) dX9_will_32 rfl ?_
    exact kw_zret C K (by decide) dX9_will_33 hf
  refine kw_if_eq C 32 dX9_will_5 rfl (fun c4 => ?_) (fun c4 => ?_)
  · have hf := if_p c4 hf
    refine kw_sub [] _ rfl ?_
    exact kJ3 _ hf
  · have hf := if_n c4 hf
    refine kw_iload_n C dX9_will_8 rfl 2 rfl ?_
    refine kw_iconst C (0 : Int32) dX9_will_9 rfl ?_
    refine kw_sipush C (9999 : Int32) dX9_will_10 rfl ?_
    obtain ⟨r6, hc5, hf⟩ := bd_elim hf
    refine kw_callSI C [.int p1, .int (0 : Int32), .int (9999 : Int32)] (kX9_isWithin L D g t0 p1 (0 : Int32) (9999 : Int32) σ _ hc5) mS_X9_188 ⟨rfl, rfl⟩ dd_X9_isWithin ⟨Nat.le_of_ble_eq_true rfl, Nat.le_of_ble_eq_true rfl⟩ rfl (Nat.le_of_ble_eq_true rfl) dX9_will_13 ?_
    refine kw_if_eq C 32 dX9_will_16 rfl (fun c7 => ?_) (fun c7 => ?_)
    · have hf := if_p c7 hf
      refine kw_sub [] _ rfl ?_
      exact kJ3 _ hf
    · have hf := if_n c7 hf
      refine kw_aload_n C dX9_will_19 rfl 0 rfl ?_
      refine kw_get C inG9 _ (hO9 g σ) rfl 7 (Nat.le_of_ble_eq_true rfl) mf_9_47 rfl rfl dX9_will_20 ?_
      refine kw_get C inG4 _ (hO4 g σ 5 (by simp [isSale])) rfl 0 (Nat.le_of_ble_eq_true rfl) mf_9_153 rfl rfl dX9_will_23 ?_
      refine kw_iload_n C dX9_will_26 rfl 1 rfl ?_
      obtain ⟨h8, hf⟩ := gd_elim hf
      refine kw_iald C _ 0 (hA4_0 g σ 5 (by simp [isSale])) rfl h8 dX9_will_27 ?_
      refine kw_iload_n C dX9_will_28 rfl 2 rfl ?_
      refine kw_icmp_ne C 34 dX9_will_29 rfl (fun c9 => ?_) (fun c9 => ?_)
      · have hf := if_n c9 hf
        refine kw_aload_n C dX9_will_34 rfl 0 rfl ?_
        refine kw_get C inG9 _ (hO9 g σ) rfl 12 (Nat.le_of_ble_eq_true rfl) mf_9_67 rfl rfl dX9_will_35 ?_
        refine kw_aload_n C dX9_will_38 rfl 0 rfl ?_
        refine kw_get C inG9 _ (hO9 g σ) rfl 7 (Nat.le_of_ble_eq_true rfl) mf_9_47 rfl rfl dX9_will_39 ?_
        refine kw_iload_n C dX9_will_42 rfl 1 rfl ?_
        obtain ⟨σ11, hc10, hf⟩ := bV_elim hf
        refine kw_callVV C [.ref (g.1 5), .int p0] (kX8_note L D g t0 5 (by simp [isSale]) p0 σ _ hc10) RX8 mV_X9_252 ⟨rfl, rfl⟩ dd_X8_note ⟨Nat.le_of_ble_eq_true rfl, Nat.le_of_ble_eq_true rfl⟩ _ (hO8 g σ) rfl rfl rfl (Nat.le_of_ble_eq_true rfl) dX9_will_43 ?_
        refine kw_aload_n C dX9_will_46 rfl 0 rfl ?_
        refine kw_get C inG9 _ (hO9 g σ11) rfl 7 (Nat.le_of_ble_eq_true rfl) mf_9_47 rfl rfl dX9_will_47 ?_
        refine kw_get C inG4 _ (hO4 g σ11 5 (by simp [isSale])) rfl 0 (Nat.le_of_ble_eq_true rfl) mf_9_153 rfl rfl dX9_will_50 ?_
        refine kw_iload_n C dX9_will_53 rfl 1 rfl ?_
        refine kw_iload_n C dX9_will_54 rfl 2 rfl ?_
        obtain ⟨h12, hf⟩ := gd_elim hf
        obtain ⟨σ13, eσ13, hf⟩ := lt_elim hf
        refine kw_iast C _ 0 (hA4_0 g σ11 5 (by simp [isSale])) rfl h12 ((hS4_0 g σ11 5 (by simp [isSale]) _).trans (congrArg (wB g) eσ13.symm)) dX9_will_55 ?_
        refine kw_iconst C (1 : Int32) dX9_will_56 rfl ?_
        exact kw_zret C K (by decide) dX9_will_57 hf
      · have hf := if_p c9 hf
        refine kw_sub [] _ rfl ?_
        exact kJ3 _ hf
set_option maxRecDepth 100000 in
set_option maxHeartbeats 4000000 in
theorem kX9_child (L : Launch) (D : va_G) (g : GwT) (t0 : Nat) (p0 : Int32) (σ : St) (r0 : Int32) (σ0 : St) (hf : fX9_child σ p0 = some (r0, σ0)) : CtI L D (ttG g) (wB g) t0 yX9_child cX9_child 2 (some .int) { frames := 2, cells := 0, slots := 0, locals := 58 } [.ref (g.1 0), .int p0] σ r0 σ0 := by
  refine CtI.of (own := RX9) (by decide) rfl (Nat.le_of_ble_eq_true rfl) [(0, .ref (g.1 0)), (1, .int p0)] rfl ?_
  intro X C hN K
  unfold fX9_child at hf
  refine kw_aload_n C dX9_child_0 rfl 0 rfl ?_
  refine kw_iload_n C dX9_child_1 rfl 1 rfl ?_
  obtain ⟨r2, hc1, hf⟩ := bd_elim hf
  refine kw_callVI C [.int p0] (kX9_isIn L D g t0 p0 σ _ hc1) RX9 mV_X9_139 ⟨rfl, rfl⟩ dd_X9_isIn ⟨Nat.le_of_ble_eq_true rfl, Nat.le_of_ble_eq_true rfl⟩ _ (hO9 g σ) rfl rfl rfl (Nat.le_of_ble_eq_true rfl) dX9_child_2 ?_
  obtain ⟨J3, hJ3, hf⟩ := jnx1_elim hf
  have kJ3 : ∀ (u9 : Unit), J3 u9 = some (r0, σ0) → KW X σ 22 [] [] := by
    clear hf
    intro u9 hf
    have hf := (hJ3 u9).symm.trans hf
    refine kw_iconst C (-1 : Int32) dX9_child_22 rfl ?_
    exact kw_iret C K dX9_child_23 hf
  refine kw_if_eq C 22 dX9_child_5 rfl (fun c4 => ?_) (fun c4 => ?_)
  · have hf := if_p c4 hf
    refine kw_sub [] _ rfl ?_
    exact kJ3 _ hf
  · have hf := if_n c4 hf
    refine kw_aload_n C dX9_child_8 rfl 0 rfl ?_
    refine kw_get C inG9 _ (hO9 g σ) rfl 7 (Nat.le_of_ble_eq_true rfl) mf_9_47 rfl rfl dX9_child_9 ?_
    refine kw_get C inG4 _ (hO4 g σ 5 (by simp [isSale])) rfl 2 (Nat.le_of_ble_eq_true rfl) mf_9_165 rfl rfl dX9_child_12 ?_
    refine kw_iload_n C dX9_child_15 rfl 1 rfl ?_
    obtain ⟨h5, hf⟩ := gd_elim hf
    refine kw_iald C _ 0 (hA4_2 g σ 5 (by simp [isSale])) rfl h5 dX9_child_16 ?_
    refine kw_bipush C (9 : Int32) dX9_child_17 rfl ?_
    refine kw_icmp_lt C 24 dX9_child_19 rfl (fun c6 => ?_) (fun c6 => ?_)
    · have hf := if_p c6 hf
      refine kw_aload_n C dX9_child_24 rfl 0 rfl ?_
      refine kw_get C inG9 _ (hO9 g σ) rfl 12 (Nat.le_of_ble_eq_true rfl) mf_9_67 rfl rfl dX9_child_25 ?_
      refine kw_aload_n C dX9_child_28 rfl 0 rfl ?_
      refine kw_get C inG9 _ (hO9 g σ) rfl 7 (Nat.le_of_ble_eq_true rfl) mf_9_47 rfl rfl dX9_child_29 ?_
      refine kw_iload_n C dX9_child_32 rfl 1 rfl ?_
      obtain ⟨σ8, hc7, hf⟩ := bV_elim hf
      refine kw_callVV C [.ref (g.1 5), .int p0] (kX8_note L D g t0 5 (by simp [isSale]) p0 σ _ hc7) RX8 mV_X9_252 ⟨rfl, rfl⟩ dd_X8_note ⟨Nat.le_of_ble_eq_true rfl, Nat.le_of_ble_eq_true rfl⟩ _ (hO8 g σ) rfl rfl rfl (Nat.le_of_ble_eq_true rfl) dX9_child_33 ?_
      refine kw_aload_n C dX9_child_36 rfl 0 rfl ?_
      refine kw_get C inG9 _ (hO9 g σ8) rfl 7 (Nat.le_of_ble_eq_true rfl) mf_9_47 rfl rfl dX9_child_37 ?_
      refine kw_get C inG4 _ (hO4 g σ8 5 (by simp [isSale])) rfl 2 (Nat.le_of_ble_eq_true rfl) mf_9_165 rfl rfl dX9_child_40 ?_
      refine kw_iload_n C dX9_child_43 rfl 1 rfl ?_
      refine kw_dup2 C dX9_child_44 rfl rfl ?_
      obtain ⟨h9, hf⟩ := gd_elim hf
      refine kw_iald C _ 0 (hA4_2 g σ8 5 (by simp [isSale])) rfl h9 dX9_child_45 ?_
      refine kw_iconst C (1 : Int32) dX9_child_46 rfl ?_
      refine kw_iadd C dX9_child_47 ?_
      obtain ⟨h10, hf⟩ := gd_elim hf
      obtain ⟨σ11, eσ11, hf⟩ := lt_elim hf
      refine kw_iast C _ 0 (hA4_2 g σ8 5 (by simp [isSale])) rfl h10 ((hS4_2 g σ8 5 (by simp [isSale]) _).trans (congrArg (wB g) eσ11.symm)) dX9_child_48 ?_
      refine kw_aload_n C dX9_child_49 rfl 0 rfl ?_
      refine kw_get C inG9 _ (hO9 g σ11) rfl 7 (Nat.le_of_ble_eq_true rfl) mf_9_47 rfl rfl dX9_child_50 ?_
      refine kw_get C inG4 _ (hO4 g σ11 5 (by simp [isSale])) rfl 2 (Nat.le_of_ble_eq_true rfl) mf_9_165 rfl rfl dX9_child_53 ?_
      refine kw_iload_n C dX9_child_56 rfl 1 rfl ?_
      obtain ⟨h12, hf⟩ := gd_elim hf
      refine kw_iald C _ 0 (hA4_2 g σ11 5 (by simp [isSale])) rfl h12 dX9_child_57 ?_
      exact kw_iret C K dX9_child_58 hf
    · have hf := if_n c6 hf
      refine kw_sub [] _ rfl ?_
      exact kJ3 _ hf
set_option maxRecDepth 100000 in
set_option maxHeartbeats 4000000 in
theorem kX9_go (L : Launch) (D : va_G) (g : GwT) (t0 : Nat) (p0 : Int32) (σ : St) (r0 : Int32) (σ0 : St) (hf : fX9_go σ p0 = some (r0, σ0)) : CtI L D (ttG g) (wB g) t0 yX9_go cX9_go 3 (some .int) { frames := 6, cells := 0, slots := 0, locals := 146 } [.ref (g.1 0), .int p0] σ r0 σ0 := by
  refine CtI.of (own := RX9) (by decide) rfl (Nat.le_of_ble_eq_true rfl) [(0, .ref (g.1 0)), (1, .int p0)] rfl ?_
  intro X C hN K
  unfold fX9_go at hf
  refine kw_iload_n C dX9_go_0 rfl 1 rfl ?_
  refine kw_iconst C (0 : Int32) dX9_go_1 rfl ?_
  refine kw_bipush C (99 : Int32) dX9_go_2 rfl ?_
  obtain ⟨r2, hc1, hf⟩ := bd_elim hf
  refine kw_callSI C [.int p0, .int (0 : Int32), .int (99 : Int32)] (kX9_isWithin L D g t0 p0 (0 : Int32) (99 : Int32) σ _ hc1) mS_X9_188 ⟨rfl, rfl⟩ dd_X9_isWithin ⟨Nat.le_of_ble_eq_true rfl, Nat.le_of_ble_eq_true rfl⟩ rfl (Nat.le_of_ble_eq_true rfl) dX9_go_4 ?_
  obtain ⟨J3, hJ3, hf⟩ := jnx1_elim hf
  have kJ3 : ∀ (u9 : Unit), J3 u9 = some (r0, σ0) → KW X σ 25 [] [] := by
    clear hf
    intro u9 hf
    have hf := (hJ3 u9).symm.trans hf
    refine kw_iconst C (-1 : Int32) dX9_go_25 rfl ?_
    exact kw_iret C K dX9_go_26 hf
  refine kw_if_eq C 25 dX9_go_7 rfl (fun c4 => ?_) (fun c4 => ?_)
  · have hf := if_p c4 hf
    refine kw_sub [] _ rfl ?_
    exact kJ3 _ hf
  · have hf := if_n c4 hf
    refine kw_aload_n C dX9_go_10 rfl 0 rfl ?_
    refine kw_get C inG9 _ (hO9 g σ) rfl 7 (Nat.le_of_ble_eq_true rfl) mf_9_47 rfl rfl dX9_go_11 ?_
    refine kw_get C inG4 _ (hO4 g σ 5 (by simp [isSale])) rfl 8 (Nat.le_of_ble_eq_true rfl) mf_9_210 rfl rfl dX9_go_14 ?_
    refine kw_iload_n C dX9_go_17 rfl 1 rfl ?_
    refine kw_iadd C dX9_go_18 ?_
    refine kw_sipush C (9000 : Int32) dX9_go_19 rfl ?_
    refine kw_icmp_le C 27 dX9_go_22 rfl (fun c5 => ?_) (fun c5 => ?_)
    · have hf := if_p c5 hf
      refine kw_aload_n C dX9_go_27 rfl 0 rfl ?_
      refine kw_get C inG9 _ (hO9 g σ) rfl 14 (Nat.le_of_ble_eq_true rfl) mf_9_83 rfl rfl dX9_go_28 ?_
      refine kw_aload_n C dX9_go_31 rfl 0 rfl ?_
      refine kw_get C inG9 _ (hO9 g σ) rfl 2 (Nat.le_of_ble_eq_true rfl) mf_9_22 rfl rfl dX9_go_32 ?_
      obtain ⟨σ7, hc6, hf⟩ := bV_elim hf
      refine kw_callVV C [.ref (g.1 (tx (gR σ 0)))] (kX0_byNumbers L D g t0 (gR σ 0) σ _ hc6) RX0 mV_X9_263 ⟨rfl, rfl⟩ dd_X0_byNumbers ⟨Nat.le_of_ble_eq_true rfl, Nat.le_of_ble_eq_true rfl⟩ _ (hO0 g σ) rfl rfl rfl (Nat.le_of_ble_eq_true rfl) dX9_go_35 ?_
      refine kw_iconst C (0 : Int32) dX9_go_38 rfl ?_
      refine kw_istore_n C dX9_go_39 rfl hN (Nat.le_of_ble_eq_true rfl) [(2, .int (0 : Int32)), (0, .ref (g.1 0)), (1, .int p0)] rfl ?_
      refine kw_sub [1, 2, 0] _ rfl ?_
      refine lpx2_walk (P := fun (x8 : Int32) (σ9 : St) => KW X σ9 40 [(0, .ref (g.1 0)), (1, .int p0), (2, .int x8)] []) ?_ FU _ _ hf
      intro self10 x8 σ9 ih11 hf
      refine kw_iload_n C dX9_go_40 rfl 2 rfl ?_
      refine kw_iload_n C dX9_go_41 rfl 1 rfl ?_
      refine kw_icmp_ge C 74 dX9_go_42 rfl (fun c12 => ?_) (fun c12 => ?_)
      · have hf := if_p c12 hf
        refine kw_iload_n C dX9_go_74 rfl 1 rfl ?_
        obtain ⟨J14, hJ14, hf⟩ := jnx1_elim hf
        have kJ14 : ∀ (σ13 : St), J14 σ13 = some (r0, σ0) → KW X σ13 85 [(0, .ref (g.1 0))] [] := by
          clear hf
          intro σ13 hf
          have hf := (hJ14 σ13).symm.trans hf
          refine kw_aload_n C dX9_go_85 rfl 0 rfl ?_
          refine kw_get C inG9 _ (hO9 g σ13) rfl 7 (Nat.le_of_ble_eq_true rfl) mf_9_47 rfl rfl dX9_go_86 ?_
          refine kw_get C inG4 _ (hO4 g σ13 5 (by simp [isSale])) rfl 8 (Nat.le_of_ble_eq_true rfl) mf_9_210 rfl rfl dX9_go_89 ?_
          exact kw_iret C K dX9_go_92 hf
        refine kw_if_le C 85 dX9_go_75 rfl (fun c15 => ?_) (fun c15 => ?_)
        · have hf := if_p c15 hf
          refine kw_sub [0] _ rfl ?_
          exact kJ14 _ hf
        · have hf := if_n c15 hf
          refine kw_aload_n C dX9_go_78 rfl 0 rfl ?_
          refine kw_get C inG9 _ (hO9 g σ9) rfl 12 (Nat.le_of_ble_eq_true rfl) mf_9_67 rfl rfl dX9_go_79 ?_
          obtain ⟨σ17, hc16, hf⟩ := bV_elim hf
          refine kw_callVV C [] (kX8_forget L D g t0 σ9 _ hc16) RX8 mV_X9_111 ⟨rfl, rfl⟩ dd_X8_forget ⟨Nat.le_of_ble_eq_true rfl, Nat.le_of_ble_eq_true rfl⟩ _ (hO8 g σ9) rfl rfl rfl (Nat.le_of_ble_eq_true rfl) dX9_go_82 ?_
          refine kw_sub [0] _ rfl ?_
          exact kJ14 _ hf
      · have hf := if_n c12 hf
        refine kw_aload_n C dX9_go_45 rfl 0 rfl ?_
        refine kw_get C inG9 _ (hO9 g σ9) rfl 14 (Nat.le_of_ble_eq_true rfl) mf_9_83 rfl rfl dX9_go_46 ?_
        refine kw_aload_n C dX9_go_49 rfl 0 rfl ?_
        refine kw_get C inG9 _ (hO9 g σ9) rfl 7 (Nat.le_of_ble_eq_true rfl) mf_9_47 rfl rfl dX9_go_50 ?_
        obtain ⟨r19, σ20, hc18, hf⟩ := bI_elim hf
        refine kw_callVI C [.ref (g.1 5)] (kX0_passYear L D g t0 5 (by simp [isSale]) σ9 _ _ hc18) RX0 mV_X9_266 ⟨rfl, rfl⟩ dd_X0_passYear ⟨Nat.le_of_ble_eq_true rfl, Nat.le_of_ble_eq_true rfl⟩ _ (hO0 g σ9) rfl rfl rfl (Nat.le_of_ble_eq_true rfl) dX9_go_53 ?_
        refine kw_pop C dX9_go_56 rfl ?_
        refine kw_aload_n C dX9_go_57 rfl 0 rfl ?_
        refine kw_get C inG9 _ (hO9 g σ20) rfl 7 (Nat.le_of_ble_eq_true rfl) mf_9_47 rfl rfl dX9_go_58 ?_
        refine kw_aload_n C dX9_go_61 rfl 0 rfl ?_
        refine kw_get C inG9 _ (hO9 g σ20) rfl 2 (Nat.le_of_ble_eq_true rfl) mf_9_22 rfl rfl dX9_go_62 ?_
        obtain ⟨σ22, hc21, hf⟩ := bV_elim hf
        refine kw_callVV C [.ref (g.1 (tx (gR σ20 0)))] (kX4_ageParts L D g t0 5 (by simp [isSale]) (gR σ20 0) σ20 _ hc21) RX4 mV_X9_269 ⟨rfl, rfl⟩ dd_X4_ageParts ⟨Nat.le_of_ble_eq_true rfl, Nat.le_of_ble_eq_true rfl⟩ _ (hO4 g σ20 5 (by simp [isSale])) rfl rfl rfl (Nat.le_of_ble_eq_true rfl) dX9_go_65 ?_
        obtain ⟨x23, ex23, hf⟩ := lt_elim hf
        refine kw_iinc C x23 dX9_go_68 2 rfl ex23.symm hN (Nat.le_of_ble_eq_true rfl) [(2, .int x23), (0, .ref (g.1 0)), (1, .int p0)] rfl ?_
        refine kw_goto C 40 dX9_go_71 rfl ?_
        refine kw_sub [1, 2, 0] _ rfl ?_
        exact ih11 _ _ hf
    · have hf := if_n c5 hf
      refine kw_sub [] _ rfl ?_
      exact kJ3 _ hf
set_option maxRecDepth 100000 in
set_option maxHeartbeats 4000000 in
theorem kX9_undo (L : Launch) (D : va_G) (g : GwT) (t0 : Nat) (σ : St) (r0 : Int32) (σ0 : St) (hf : fX9_undo σ  = some (r0, σ0)) : CtI L D (ttG g) (wB g) t0 yX9_undo cX9_undo 1 (some .int) { frames := 1, cells := 0, slots := 0, locals := 23 } [.ref (g.1 0)] σ r0 σ0 := by
  refine CtI.of (own := RX9) (by decide) rfl (Nat.le_of_ble_eq_true rfl) [(0, .ref (g.1 0))] rfl ?_
  intro X C hN K
  unfold fX9_undo at hf
  refine kw_aload_n C dX9_undo_0 rfl 0 rfl ?_
  refine kw_get C inG9 _ (hO9 g σ) rfl 12 (Nat.le_of_ble_eq_true rfl) mf_9_67 rfl rfl dX9_undo_1 ?_
  refine kw_aload_n C dX9_undo_4 rfl 0 rfl ?_
  refine kw_get C inG9 _ (hO9 g σ) rfl 7 (Nat.le_of_ble_eq_true rfl) mf_9_47 rfl rfl dX9_undo_5 ?_
  obtain ⟨r2, σ3, hc1, hf⟩ := bI_elim hf
  refine kw_callVI C [.ref (g.1 5)] (kX8_takeBack L D g t0 5 (by simp [isSale]) σ _ _ hc1) RX8 mV_X9_272 ⟨rfl, rfl⟩ dd_X8_takeBack ⟨Nat.le_of_ble_eq_true rfl, Nat.le_of_ble_eq_true rfl⟩ _ (hO8 g σ) rfl rfl rfl (Nat.le_of_ble_eq_true rfl) dX9_undo_8 ?_
  exact kw_iret C K dX9_undo_11 hf
set_option maxRecDepth 100000 in
set_option maxHeartbeats 4000000 in
theorem kX9_keep (L : Launch) (D : va_G) (g : GwT) (t0 : Nat) (σ : St) (r0 : Int32) (σ0 : St) (hf : fX9_keep σ  = some (r0, σ0)) : CtI L D (ttG g) (wB g) t0 yX9_keep cX9_keep 1 (some .int) { frames := 2, cells := 0, slots := 0, locals := 56 } [.ref (g.1 0)] σ r0 σ0 := by
  refine CtI.of (own := RX9) (by decide) rfl (Nat.le_of_ble_eq_true rfl) [(0, .ref (g.1 0))] rfl ?_
  intro X C hN K
  unfold fX9_keep at hf
  refine kw_aload_n C dX9_keep_0 rfl 0 rfl ?_
  refine kw_get C inG9 _ (hO9 g σ) rfl 10 (Nat.le_of_ble_eq_true rfl) mf_9_57 rfl rfl dX9_keep_1 ?_
  refine kw_aload_n C dX9_keep_4 rfl 0 rfl ?_
  refine kw_get C inG9 _ (hO9 g σ) rfl 7 (Nat.le_of_ble_eq_true rfl) mf_9_47 rfl rfl dX9_keep_5 ?_
  obtain ⟨σ2, hc1, hf⟩ := bV_elim hf
  refine kw_callVV C [.ref (g.1 5)] (kX4_become L D g t0 8 (by simp [isSale]) 5 (by simp [isSale]) σ _ hc1) RX4 mV_X9_275 ⟨rfl, rfl⟩ dd_X4_become ⟨Nat.le_of_ble_eq_true rfl, Nat.le_of_ble_eq_true rfl⟩ _ (hO4 g σ 8 (by simp [isSale])) rfl rfl rfl (Nat.le_of_ble_eq_true rfl) dX9_keep_8 ?_
  refine kw_aload_n C dX9_keep_11 rfl 0 rfl ?_
  refine kw_iconst C (1 : Int32) dX9_keep_12 rfl ?_
  obtain ⟨σ3, eσ3, hf⟩ := lt_elim hf
  refine kw_put C inG9 tyX9 tyX9_ok nmX9 _ (hO9 g σ2) rfl 11 (Nat.le_of_ble_eq_true rfl) mf_9_60 rfl rfl (tyX9_ok 11 (Nat.le_of_ble_eq_true rfl)) (narrow_bz (by decide)) (fits_bz (by decide)) (Nat.le_of_ble_eq_true rfl) ((hF9_11 g σ2 _).trans (congrArg (wB g) eσ3.symm)) dX9_keep_13 ?_
  refine kw_aload_n C dX9_keep_16 rfl 0 rfl ?_
  refine kw_get C inG9 _ (hO9 g σ3) rfl 7 (Nat.le_of_ble_eq_true rfl) mf_9_47 rfl rfl dX9_keep_17 ?_
  refine kw_get C inG4 _ (hO4 g σ3 5 (by simp [isSale])) rfl 8 (Nat.le_of_ble_eq_true rfl) mf_9_210 rfl rfl dX9_keep_20 ?_
  exact kw_iret C K dX9_keep_23 hf
set_option maxRecDepth 100000 in
set_option maxHeartbeats 4000000 in
theorem kX9_back (L : Launch) (D : va_G) (g : GwT) (t0 : Nat) (σ : St) (r0 : Int32) (σ0 : St) (hf : fX9_back σ  = some (r0, σ0)) : CtI L D (ttG g) (wB g) t0 yX9_back cX9_back 1 (some .int) { frames := 2, cells := 0, slots := 0, locals := 56 } [.ref (g.1 0)] σ r0 σ0 := by
  refine CtI.of (own := RX9) (by decide) rfl (Nat.le_of_ble_eq_true rfl) [(0, .ref (g.1 0))] rfl ?_
  intro X C hN K
  unfold fX9_back at hf
  refine kw_aload_n C dX9_back_0 rfl 0 rfl ?_
  refine kw_get C inG9 _ (hO9 g σ) rfl 11 (Nat.le_of_ble_eq_true rfl) mf_9_60 rfl rfl dX9_back_1 ?_
  refine kw_if_ne C 9 dX9_back_4 rfl (fun c1 => ?_) (fun c1 => ?_)
  · have hf := if_n c1 hf
    refine kw_aload_n C dX9_back_9 rfl 0 rfl ?_
    refine kw_get C inG9 _ (hO9 g σ) rfl 7 (Nat.le_of_ble_eq_true rfl) mf_9_47 rfl rfl dX9_back_10 ?_
    refine kw_aload_n C dX9_back_13 rfl 0 rfl ?_
    refine kw_get C inG9 _ (hO9 g σ) rfl 10 (Nat.le_of_ble_eq_true rfl) mf_9_57 rfl rfl dX9_back_14 ?_
    obtain ⟨σ3, hc2, hf⟩ := bV_elim hf
    refine kw_callVV C [.ref (g.1 8)] (kX4_become L D g t0 5 (by simp [isSale]) 8 (by simp [isSale]) σ _ hc2) RX4 mV_X9_275 ⟨rfl, rfl⟩ dd_X4_become ⟨Nat.le_of_ble_eq_true rfl, Nat.le_of_ble_eq_true rfl⟩ _ (hO4 g σ 5 (by simp [isSale])) rfl rfl rfl (Nat.le_of_ble_eq_true rfl) dX9_back_17 ?_
    refine kw_aload_n C dX9_back_20 rfl 0 rfl ?_
    refine kw_get C inG9 _ (hO9 g σ3) rfl 12 (Nat.le_of_ble_eq_true rfl) mf_9_67 rfl rfl dX9_back_21 ?_
    obtain ⟨σ5, hc4, hf⟩ := bV_elim hf
    refine kw_callVV C [] (kX8_forget L D g t0 σ3 _ hc4) RX8 mV_X9_111 ⟨rfl, rfl⟩ dd_X8_forget ⟨Nat.le_of_ble_eq_true rfl, Nat.le_of_ble_eq_true rfl⟩ _ (hO8 g σ3) rfl rfl rfl (Nat.le_of_ble_eq_true rfl) dX9_back_24 ?_
    refine kw_aload_n C dX9_back_27 rfl 0 rfl ?_
    refine kw_get C inG9 _ (hO9 g σ5) rfl 7 (Nat.le_of_ble_eq_true rfl) mf_9_47 rfl rfl dX9_back_28 ?_
    refine kw_get C inG4 _ (hO4 g σ5 5 (by simp [isSale])) rfl 8 (Nat.le_of_ble_eq_true rfl) mf_9_210 rfl rfl dX9_back_31 ?_
    exact kw_iret C K dX9_back_34 hf
  · have hf := if_p c1 hf
    refine kw_iconst C (-1 : Int32) dX9_back_7 rfl ?_
    exact kw_iret C K dX9_back_8 hf
set_option maxRecDepth 100000 in
set_option maxHeartbeats 4000000 in
theorem kX9_tryAsItGoes (L : Launch) (D : va_G) (g : GwT) (t0 : Nat) (σ : St) (σ0 : St) (hf : fX9_tryAsItGoes σ  = some σ0) : CtV L D (ttG g) (wB g) t0 yX9_tryAsItGoes cX9_tryAsItGoes 1 none { frames := 2, cells := 0, slots := 0, locals := 56 } [.ref (g.1 0)] σ σ0 := by
  refine CtV.of (own := RX9) (by decide) rfl (Nat.le_of_ble_eq_true rfl) [(0, .ref (g.1 0))] rfl ?_
  intro X C hN K
  unfold fX9_tryAsItGoes at hf
  refine kw_aload_n C dX9_tryAsItGoes_0 rfl 0 rfl ?_
  refine kw_get C inG9 _ (hO9 g σ) rfl 14 (Nat.le_of_ble_eq_true rfl) mf_9_83 rfl rfl dX9_tryAsItGoes_1 ?_
  refine kw_aload_n C dX9_tryAsItGoes_4 rfl 0 rfl ?_
  refine kw_get C inG9 _ (hO9 g σ) rfl 2 (Nat.le_of_ble_eq_true rfl) mf_9_22 rfl rfl dX9_tryAsItGoes_5 ?_
  obtain ⟨σ2, hc1, hf⟩ := bV_elim hf
  refine kw_callVV C [.ref (g.1 (tx (gR σ 0)))] (kX0_asItGoes L D g t0 (gR σ 0) σ _ hc1) RX0 mV_X9_194 ⟨rfl, rfl⟩ dd_X0_asItGoes ⟨Nat.le_of_ble_eq_true rfl, Nat.le_of_ble_eq_true rfl⟩ _ (hO0 g σ) rfl rfl rfl (Nat.le_of_ble_eq_true rfl) dX9_tryAsItGoes_8 ?_
  refine kw_aload_n C dX9_tryAsItGoes_11 rfl 0 rfl ?_
  refine kw_get C inG9 _ (hO9 g σ2) rfl 8 (Nat.le_of_ble_eq_true rfl) mf_9_51 rfl rfl dX9_tryAsItGoes_12 ?_
  refine kw_aload_n C dX9_tryAsItGoes_15 rfl 0 rfl ?_
  refine kw_get C inG9 _ (hO9 g σ2) rfl 7 (Nat.le_of_ble_eq_true rfl) mf_9_47 rfl rfl dX9_tryAsItGoes_16 ?_
  obtain ⟨σ4, hc3, hf⟩ := bV_elim hf
  refine kw_callVV C [.ref (g.1 5)] (kX4_become L D g t0 6 (by simp [isSale]) 5 (by simp [isSale]) σ2 _ hc3) RX4 mV_X9_275 ⟨rfl, rfl⟩ dd_X4_become ⟨Nat.le_of_ble_eq_true rfl, Nat.le_of_ble_eq_true rfl⟩ _ (hO4 g σ2 6 (by simp [isSale])) rfl rfl rfl (Nat.le_of_ble_eq_true rfl) dX9_tryAsItGoes_19 ?_
  exact kw_vret (u9 := ()) C K dX9_tryAsItGoes_22 hf
set_option maxRecDepth 100000 in
set_option maxHeartbeats 4000000 in
theorem kX9_ahead (L : Launch) (D : va_G) (g : GwT) (t0 : Nat) (p0 : Int32) (p1 : Int32) (σ : St) (r0 : Int32) (σ0 : St) (hf : fX9_ahead σ p0 p1 = some (r0, σ0)) : CtI L D (ttG g) (wB g) t0 yX9_ahead cX9_ahead 3 (some .int) { frames := 7, cells := 0, slots := 0, locals := 169 } [.ref (g.1 0), .int p0, .int p1] σ r0 σ0 := by
  refine CtI.of (own := RX9) (by decide) rfl (Nat.le_of_ble_eq_true rfl) [(0, .ref (g.1 0)), (1, .int p0), (2, .int p1)] rfl ?_
  intro X C hN K
  unfold fX9_ahead at hf
  refine kw_iload_n C dX9_ahead_0 rfl 1 rfl ?_
  refine kw_iconst C (0 : Int32) dX9_ahead_1 rfl ?_
  refine kw_bipush C (99 : Int32) dX9_ahead_2 rfl ?_
  obtain ⟨r2, hc1, hf⟩ := bd_elim hf
  refine kw_callSI C [.int p0, .int (0 : Int32), .int (99 : Int32)] (kX9_isWithin L D g t0 p0 (0 : Int32) (99 : Int32) σ _ hc1) mS_X9_188 ⟨rfl, rfl⟩ dd_X9_isWithin ⟨Nat.le_of_ble_eq_true rfl, Nat.le_of_ble_eq_true rfl⟩ rfl (Nat.le_of_ble_eq_true rfl) dX9_ahead_4 ?_
  obtain ⟨J3, hJ3, hf⟩ := jnx1_elim hf
  have kJ3 : ∀ (u9 : Unit), J3 u9 = some (r0, σ0) → KW X σ 19 [] [] := by
    clear hf
    intro u9 hf
    have hf := (hJ3 u9).symm.trans hf
    refine kw_iconst C (-1 : Int32) dX9_ahead_19 rfl ?_
    exact kw_iret C K dX9_ahead_20 hf
  refine kw_if_eq C 19 dX9_ahead_7 rfl (fun c4 => ?_) (fun c4 => ?_)
  · have hf := if_p c4 hf
    refine kw_sub [] _ rfl ?_
    exact kJ3 _ hf
  · have hf := if_n c4 hf
    refine kw_iload_n C dX9_ahead_10 rfl 2 rfl ?_
    refine kw_iconst C (0 : Int32) dX9_ahead_11 rfl ?_
    refine kw_iconst C (3 : Int32) dX9_ahead_12 rfl ?_
    obtain ⟨r6, hc5, hf⟩ := bd_elim hf
    refine kw_callSI C [.int p1, .int (0 : Int32), .int (3 : Int32)] (kX9_isWithin L D g t0 p1 (0 : Int32) (3 : Int32) σ _ hc5) mS_X9_188 ⟨rfl, rfl⟩ dd_X9_isWithin ⟨Nat.le_of_ble_eq_true rfl, Nat.le_of_ble_eq_true rfl⟩ rfl (Nat.le_of_ble_eq_true rfl) dX9_ahead_13 ?_
    refine kw_if_ne C 21 dX9_ahead_16 rfl (fun c7 => ?_) (fun c7 => ?_)
    · have hf := if_n c7 hf
      refine kw_aload_n C dX9_ahead_21 rfl 0 rfl ?_
      obtain ⟨σ9, hc8, hf⟩ := bV_elim hf
      refine kw_callVV C [] (kX9_tryAsItGoes L D g t0 σ _ hc8) RX9 mV_X9_279 ⟨rfl, rfl⟩ dd_X9_tryAsItGoes ⟨Nat.le_of_ble_eq_true rfl, Nat.le_of_ble_eq_true rfl⟩ _ (hO9 g σ) rfl rfl rfl (Nat.le_of_ble_eq_true rfl) dX9_ahead_22 ?_
      refine kw_aload_n C dX9_ahead_25 rfl 0 rfl ?_
      refine kw_get C inG9 _ (hO9 g σ9) rfl 14 (Nat.le_of_ble_eq_true rfl) mf_9_83 rfl rfl dX9_ahead_26 ?_
      refine kw_aload_n C dX9_ahead_29 rfl 0 rfl ?_
      refine kw_get C inG9 _ (hO9 g σ9) rfl 8 (Nat.le_of_ble_eq_true rfl) mf_9_51 rfl rfl dX9_ahead_30 ?_
      refine kw_iload_n C dX9_ahead_33 rfl 1 rfl ?_
      obtain ⟨σ11, hc10, hf⟩ := bV_elim hf
      refine kw_callVV C [.ref (g.1 6), .int p0] (kX0_passYears L D g t0 6 (by simp [isSale]) p0 σ9 _ hc10) RX0 mV_X9_282 ⟨rfl, rfl⟩ dd_X0_passYears ⟨Nat.le_of_ble_eq_true rfl, Nat.le_of_ble_eq_true rfl⟩ _ (hO0 g σ9) rfl rfl rfl (Nat.le_of_ble_eq_true rfl) dX9_ahead_34 ?_
      refine kw_iload_n C dX9_ahead_37 rfl 2 rfl ?_
      by_cases c12 : p1 = (0 : Int32)
      · have hf := if_p c12 hf
        refine kw_tabIn C 64 dX9_ahead_38 c12 (by decide) (by decide) rfl rfl ?_
        refine kw_aload_n C dX9_ahead_64 rfl 0 rfl ?_
        refine kw_get C inG9 _ (hO9 g σ11) rfl 8 (Nat.le_of_ble_eq_true rfl) mf_9_51 rfl rfl dX9_ahead_65 ?_
        refine kw_get C inG4 _ (hO4 g σ11 6 (by simp [isSale])) rfl 9 (Nat.le_of_ble_eq_true rfl) mf_9_213 rfl rfl dX9_ahead_68 ?_
        exact kw_iret C K dX9_ahead_71 hf
      have hf := if_n c12 hf
      by_cases c13 : p1 = (1 : Int32)
      · have hf := if_p c13 hf
        refine kw_tabIn C 72 dX9_ahead_38 c13 (by decide) (by decide) rfl rfl ?_
        refine kw_aload_n C dX9_ahead_72 rfl 0 rfl ?_
        refine kw_get C inG9 _ (hO9 g σ11) rfl 8 (Nat.le_of_ble_eq_true rfl) mf_9_51 rfl rfl dX9_ahead_73 ?_
        refine kw_get C inG4 _ (hO4 g σ11 6 (by simp [isSale])) rfl 10 (Nat.le_of_ble_eq_true rfl) mf_9_216 rfl rfl dX9_ahead_76 ?_
        refine kw_iconst C (-1 : Int32) dX9_ahead_79 rfl ?_
        obtain ⟨J15, hJ15, hf⟩ := jnx1_elim hf
        have kJ15 : ∀ (x14 : Int32), J15 x14 = some (r0, σ0) → KW X σ11 95 [] [.int x14] := by
          clear hf
          intro x14 hf
          have hf := (hJ15 x14).symm.trans hf
          exact kw_iret C K dX9_ahead_95 hf
        refine kw_icmp_ne C 88 dX9_ahead_80 rfl (fun c16 => ?_) (fun c16 => ?_)
        · have hf := if_n c16 hf
          refine kw_aload_n C dX9_ahead_88 rfl 0 rfl ?_
          refine kw_get C inG9 _ (hO9 g σ11) rfl 8 (Nat.le_of_ble_eq_true rfl) mf_9_51 rfl rfl dX9_ahead_89 ?_
          refine kw_get C inG4 _ (hO4 g σ11 6 (by simp [isSale])) rfl 10 (Nat.le_of_ble_eq_true rfl) mf_9_216 rfl rfl dX9_ahead_92 ?_
          refine kw_sub [] _ rfl ?_
          exact kJ15 _ hf
        · have hf := if_p c16 hf
          refine kw_bipush C (-2 : Int32) dX9_ahead_83 rfl ?_
          refine kw_goto C 95 dX9_ahead_85 rfl ?_
          refine kw_sub [] _ rfl ?_
          exact kJ15 _ hf
      have hf := if_n c13 hf
      by_cases c17 : p1 = (2 : Int32)
      · have hf := if_p c17 hf
        refine kw_tabIn C 96 dX9_ahead_38 c17 (by decide) (by decide) rfl rfl ?_
        refine kw_aload_n C dX9_ahead_96 rfl 0 rfl ?_
        refine kw_get C inG9 _ (hO9 g σ11) rfl 8 (Nat.le_of_ble_eq_true rfl) mf_9_51 rfl rfl dX9_ahead_97 ?_
        refine kw_get C inG4 _ (hO4 g σ11 6 (by simp [isSale])) rfl 6 (Nat.le_of_ble_eq_true rfl) mf_9_225 rfl rfl dX9_ahead_100 ?_
        obtain ⟨r19, hc18, hf⟩ := bd_elim hf
        refine kw_callTI C [.int (gI σ11 6 6)] (kJ6_bitCount_0f7a4 L D g t0 (gI σ11 6 6) σ11 _ hc18) mT_X9_228 ⟨rfl, rfl⟩ dd_J6_bitCount_0f7a4.2 ⟨Nat.le_of_ble_eq_true rfl, Nat.le_of_ble_eq_true rfl⟩ rfl (Nat.le_of_ble_eq_true rfl) dX9_ahead_103 ?_
        exact kw_iret C K dX9_ahead_106 hf
      have hf := if_n c17 hf
      have c12_ : p1.toInt ≠ 0 := ne_ti c12
      have c13_ : p1.toInt ≠ 1 := ne_ti c13
      have c17_ : p1.toInt ≠ 2 := ne_ti c17
      refine kw_tabOut C 107 dX9_ahead_38 (by omega) rfl ?_
      refine kw_aload_n C dX9_ahead_107 rfl 0 rfl ?_
      refine kw_get C inG9 _ (hO9 g σ11) rfl 8 (Nat.le_of_ble_eq_true rfl) mf_9_51 rfl rfl dX9_ahead_108 ?_
      refine kw_get C inG4 _ (hO4 g σ11 6 (by simp [isSale])) rfl 12 (Nat.le_of_ble_eq_true rfl) mf_9_234 rfl rfl dX9_ahead_111 ?_
      refine kw_aload_n C dX9_ahead_114 rfl 0 rfl ?_
      refine kw_get C inG9 _ (hO9 g σ11) rfl 7 (Nat.le_of_ble_eq_true rfl) mf_9_47 rfl rfl dX9_ahead_115 ?_
      refine kw_get C inG4 _ (hO4 g σ11 5 (by simp [isSale])) rfl 12 (Nat.le_of_ble_eq_true rfl) mf_9_234 rfl rfl dX9_ahead_118 ?_
      refine kw_isub C dX9_ahead_121 ?_
      exact kw_iret C K dX9_ahead_122 hf
    · have hf := if_p c7 hf
      refine kw_sub [] _ rfl ?_
      exact kJ3 _ hf
set_option maxRecDepth 100000 in
set_option maxHeartbeats 4000000 in
theorem kX9_falls (L : Launch) (D : va_G) (g : GwT) (t0 : Nat) (p0 : Int32) (σ : St) (r0 : Int32) (σ0 : St) (hf : fX9_falls σ p0 = some (r0, σ0)) : CtI L D (ttG g) (wB g) t0 yX9_falls cX9_falls 3 (some .int) { frames := 7, cells := 0, slots := 0, locals := 169 } [.ref (g.1 0), .int p0] σ r0 σ0 := by
  refine CtI.of (own := RX9) (by decide) rfl (Nat.le_of_ble_eq_true rfl) [(0, .ref (g.1 0)), (1, .int p0)] rfl ?_
  intro X C hN K
  unfold fX9_falls at hf
  refine kw_iload_n C dX9_falls_0 rfl 1 rfl ?_
  refine kw_iconst C (0 : Int32) dX9_falls_1 rfl ?_
  refine kw_iconst C (2 : Int32) dX9_falls_2 rfl ?_
  obtain ⟨r2, hc1, hf⟩ := bd_elim hf
  refine kw_callSI C [.int p0, .int (0 : Int32), .int (2 : Int32)] (kX9_isWithin L D g t0 p0 (0 : Int32) (2 : Int32) σ _ hc1) mS_X9_188 ⟨rfl, rfl⟩ dd_X9_isWithin ⟨Nat.le_of_ble_eq_true rfl, Nat.le_of_ble_eq_true rfl⟩ rfl (Nat.le_of_ble_eq_true rfl) dX9_falls_3 ?_
  refine kw_if_ne C 11 dX9_falls_6 rfl (fun c3 => ?_) (fun c3 => ?_)
  · have hf := if_n c3 hf
    refine kw_aload_n C dX9_falls_11 rfl 0 rfl ?_
    obtain ⟨σ5, hc4, hf⟩ := bV_elim hf
    refine kw_callVV C [] (kX9_tryAsItGoes L D g t0 σ _ hc4) RX9 mV_X9_279 ⟨rfl, rfl⟩ dd_X9_tryAsItGoes ⟨Nat.le_of_ble_eq_true rfl, Nat.le_of_ble_eq_true rfl⟩ _ (hO9 g σ) rfl rfl rfl (Nat.le_of_ble_eq_true rfl) dX9_falls_12 ?_
    refine kw_aload_n C dX9_falls_15 rfl 0 rfl ?_
    refine kw_get C inG9 _ (hO9 g σ5) rfl 14 (Nat.le_of_ble_eq_true rfl) mf_9_83 rfl rfl dX9_falls_16 ?_
    refine kw_aload_n C dX9_falls_19 rfl 0 rfl ?_
    refine kw_get C inG9 _ (hO9 g σ5) rfl 8 (Nat.le_of_ble_eq_true rfl) mf_9_51 rfl rfl dX9_falls_20 ?_
    refine kw_sipush C (999 : Int32) dX9_falls_23 rfl ?_
    obtain ⟨r7, σ8, hc6, hf⟩ := bI_elim hf
    refine kw_callVI C [.ref (g.1 6), .int (999 : Int32)] (kX0_yearsToFall L D g t0 6 (by simp [isSale]) (999 : Int32) σ5 _ _ hc6) RX0 mV_X9_285 ⟨rfl, rfl⟩ dd_X0_yearsToFall ⟨Nat.le_of_ble_eq_true rfl, Nat.le_of_ble_eq_true rfl⟩ _ (hO0 g σ5) rfl rfl rfl (Nat.le_of_ble_eq_true rfl) dX9_falls_26 ?_
    refine kw_istore_n C dX9_falls_29 rfl hN (Nat.le_of_ble_eq_true rfl) [(2, .int r7), (0, .ref (g.1 0)), (1, .int p0)] rfl ?_
    refine kw_iload_n C dX9_falls_30 rfl 0 rfl ?_
    refine kw_bipush C (-2 : Int32) dX9_falls_31 rfl ?_
    obtain ⟨J9, hJ9, hf⟩ := jnx1_elim hf
    have kJ9 : ∀ (u9 : Unit), J9 u9 = some (r0, σ0) → KW X σ8 40 [(2, .int r7)] [] := by
      clear hf
      intro u9 hf
      have hf := (hJ9 u9).symm.trans hf
      refine kw_iload_n C dX9_falls_40 rfl 0 rfl ?_
      exact kw_iret C K dX9_falls_41 hf
    refine kw_icmp_eq C 40 dX9_falls_33 rfl (fun c10 => ?_) (fun c10 => ?_)
    · have hf := if_p c10 hf
      refine kw_sub [0] _ rfl ?_
      exact kJ9 _ hf
    · have hf := if_n c10 hf
      refine kw_iload_n C dX9_falls_36 rfl 2 rfl ?_
      refine kw_if_ne C 42 dX9_falls_37 rfl (fun c11 => ?_) (fun c11 => ?_)
      · have hf := if_n c11 hf
        refine kw_iload_n C dX9_falls_42 rfl 2 rfl ?_
        refine kw_iconst C (1 : Int32) dX9_falls_43 rfl ?_
        obtain ⟨J13, hJ13, hf⟩ := jnx1_elim hf
        have kJ13 : ∀ (x12 : Int32), J13 x12 = some (r0, σ0) → KW X σ8 64 [] [.int x12] := by
          clear hf
          intro x12 hf
          have hf := (hJ13 x12).symm.trans hf
          exact kw_iret C K dX9_falls_64 hf
        refine kw_icmp_ne C 57 dX9_falls_44 rfl (fun c14 => ?_) (fun c14 => ?_)
        · have hf := if_n c14 hf
          refine kw_aload_n C dX9_falls_57 rfl 1 rfl ?_
          refine kw_get C inG9 _ (hO9 g σ8) rfl 8 (Nat.le_of_ble_eq_true rfl) mf_9_51 rfl rfl dX9_falls_58 ?_
          refine kw_get C inG4 _ (hO4 g σ8 6 (by simp [isSale])) rfl 9 (Nat.le_of_ble_eq_true rfl) mf_9_213 rfl rfl dX9_falls_61 ?_
          refine kw_sub [] _ rfl ?_
          exact kJ13 _ hf
        · have hf := if_p c14 hf
          refine kw_aload_n C dX9_falls_47 rfl 1 rfl ?_
          refine kw_get C inG9 _ (hO9 g σ8) rfl 8 (Nat.le_of_ble_eq_true rfl) mf_9_51 rfl rfl dX9_falls_48 ?_
          refine kw_get C inG4 _ (hO4 g σ8 6 (by simp [isSale])) rfl 10 (Nat.le_of_ble_eq_true rfl) mf_9_216 rfl rfl dX9_falls_51 ?_
          refine kw_goto C 64 dX9_falls_54 rfl ?_
          refine kw_sub [] _ rfl ?_
          exact kJ13 _ hf
      · have hf := if_p c11 hf
        refine kw_sub [0] _ rfl ?_
        exact kJ9 _ hf
  · have hf := if_p c3 hf
    refine kw_iconst C (-1 : Int32) dX9_falls_9 rfl ?_
    exact kw_iret C K dX9_falls_10 hf
set_option maxRecDepth 100000 in
set_option maxHeartbeats 4000000 in
theorem kX9_atMost (L : Launch) (D : va_G) (g : GwT) (t0 : Nat) (σ : St) (r0 : Int32) (σ0 : St) (hf : fX9_atMost σ  = some (r0, σ0)) : CtI L D (ttG g) (wB g) t0 yX9_atMost cX9_atMost 1 (some .int) { frames := 7, cells := 0, slots := 0, locals := 169 } [.ref (g.1 0)] σ r0 σ0 := by
  refine CtI.of (own := RX9) (by decide) rfl (Nat.le_of_ble_eq_true rfl) [(0, .ref (g.1 0))] rfl ?_
  intro X C hN K
  unfold fX9_atMost at hf
  refine kw_aload_n C dX9_atMost_0 rfl 0 rfl ?_
  obtain ⟨σ2, hc1, hf⟩ := bV_elim hf
  refine kw_callVV C [] (kX9_tryAsItGoes L D g t0 σ _ hc1) RX9 mV_X9_279 ⟨rfl, rfl⟩ dd_X9_tryAsItGoes ⟨Nat.le_of_ble_eq_true rfl, Nat.le_of_ble_eq_true rfl⟩ _ (hO9 g σ) rfl rfl rfl (Nat.le_of_ble_eq_true rfl) dX9_atMost_1 ?_
  refine kw_aload_n C dX9_atMost_4 rfl 0 rfl ?_
  refine kw_get C inG9 _ (hO9 g σ2) rfl 14 (Nat.le_of_ble_eq_true rfl) mf_9_83 rfl rfl dX9_atMost_5 ?_
  refine kw_iconst C (1 : Int32) dX9_atMost_8 rfl ?_
  obtain ⟨σ3, eσ3, hf⟩ := lt_elim hf
  refine kw_put C inG0 tyX0 tyX0_ok nmX0 _ (hO0 g σ2) rfl 3 (Nat.le_of_ble_eq_true rfl) mf_9_289 rfl rfl (tyX0_ok 3 (Nat.le_of_ble_eq_true rfl)) (narrow_bz (by decide)) (fits_bz (by decide)) (Nat.le_of_ble_eq_true rfl) ((hF0_3 g σ2 _).trans (congrArg (wB g) eσ3.symm)) dX9_atMost_9 ?_
  refine kw_aload_n C dX9_atMost_12 rfl 0 rfl ?_
  refine kw_get C inG9 _ (hO9 g σ3) rfl 14 (Nat.le_of_ble_eq_true rfl) mf_9_83 rfl rfl dX9_atMost_13 ?_
  refine kw_aload_n C dX9_atMost_16 rfl 0 rfl ?_
  refine kw_get C inG9 _ (hO9 g σ3) rfl 8 (Nat.le_of_ble_eq_true rfl) mf_9_51 rfl rfl dX9_atMost_17 ?_
  refine kw_sipush C (999 : Int32) dX9_atMost_20 rfl ?_
  obtain ⟨r5, σ6, hc4, hf⟩ := bI_elim hf
  refine kw_callVI C [.ref (g.1 6), .int (999 : Int32)] (kX0_yearsToFall L D g t0 6 (by simp [isSale]) (999 : Int32) σ3 _ _ hc4) RX0 mV_X9_285 ⟨rfl, rfl⟩ dd_X0_yearsToFall ⟨Nat.le_of_ble_eq_true rfl, Nat.le_of_ble_eq_true rfl⟩ _ (hO0 g σ3) rfl rfl rfl (Nat.le_of_ble_eq_true rfl) dX9_atMost_23 ?_
  exact kw_iret C K dX9_atMost_26 hf
set_option maxRecDepth 100000 in
set_option maxHeartbeats 4000000 in
theorem kX9_left (L : Launch) (D : va_G) (g : GwT) (t0 : Nat) (p0 : Int32) (σ : St) (r0 : Int32) (σ0 : St) (hf : fX9_left σ p0 = some (r0, σ0)) : CtI L D (ttG g) (wB g) t0 yX9_left cX9_left 2 (some .int) { frames := 7, cells := 0, slots := 0, locals := 169 } [.ref (g.1 0), .int p0] σ r0 σ0 := by
  refine CtI.of (own := RX9) (by decide) rfl (Nat.le_of_ble_eq_true rfl) [(0, .ref (g.1 0)), (1, .int p0)] rfl ?_
  intro X C hN K
  unfold fX9_left at hf
  refine kw_iload_n C dX9_left_0 rfl 1 rfl ?_
  refine kw_iconst C (0 : Int32) dX9_left_1 rfl ?_
  refine kw_bipush C (99 : Int32) dX9_left_2 rfl ?_
  obtain ⟨r2, hc1, hf⟩ := bd_elim hf
  refine kw_callSI C [.int p0, .int (0 : Int32), .int (99 : Int32)] (kX9_isWithin L D g t0 p0 (0 : Int32) (99 : Int32) σ _ hc1) mS_X9_188 ⟨rfl, rfl⟩ dd_X9_isWithin ⟨Nat.le_of_ble_eq_true rfl, Nat.le_of_ble_eq_true rfl⟩ rfl (Nat.le_of_ble_eq_true rfl) dX9_left_4 ?_
  refine kw_if_ne C 12 dX9_left_7 rfl (fun c3 => ?_) (fun c3 => ?_)
  · have hf := if_n c3 hf
    refine kw_aload_n C dX9_left_12 rfl 0 rfl ?_
    obtain ⟨σ5, hc4, hf⟩ := bV_elim hf
    refine kw_callVV C [] (kX9_tryAsItGoes L D g t0 σ _ hc4) RX9 mV_X9_279 ⟨rfl, rfl⟩ dd_X9_tryAsItGoes ⟨Nat.le_of_ble_eq_true rfl, Nat.le_of_ble_eq_true rfl⟩ _ (hO9 g σ) rfl rfl rfl (Nat.le_of_ble_eq_true rfl) dX9_left_13 ?_
    refine kw_aload_n C dX9_left_16 rfl 0 rfl ?_
    refine kw_get C inG9 _ (hO9 g σ5) rfl 14 (Nat.le_of_ble_eq_true rfl) mf_9_83 rfl rfl dX9_left_17 ?_
    refine kw_aload_n C dX9_left_20 rfl 0 rfl ?_
    refine kw_get C inG9 _ (hO9 g σ5) rfl 8 (Nat.le_of_ble_eq_true rfl) mf_9_51 rfl rfl dX9_left_21 ?_
    refine kw_iload_n C dX9_left_24 rfl 1 rfl ?_
    obtain ⟨σ7, hc6, hf⟩ := bV_elim hf
    refine kw_callVV C [.ref (g.1 6), .int p0] (kX0_passYears L D g t0 6 (by simp [isSale]) p0 σ5 _ hc6) RX0 mV_X9_282 ⟨rfl, rfl⟩ dd_X0_passYears ⟨Nat.le_of_ble_eq_true rfl, Nat.le_of_ble_eq_true rfl⟩ _ (hO0 g σ5) rfl rfl rfl (Nat.le_of_ble_eq_true rfl) dX9_left_25 ?_
    refine kw_aload_n C dX9_left_28 rfl 0 rfl ?_
    refine kw_get C inG9 _ (hO9 g σ7) rfl 8 (Nat.le_of_ble_eq_true rfl) mf_9_51 rfl rfl dX9_left_29 ?_
    refine kw_get C inG4 _ (hO4 g σ7 6 (by simp [isSale])) rfl 6 (Nat.le_of_ble_eq_true rfl) mf_9_225 rfl rfl dX9_left_32 ?_
    exact kw_iret C K dX9_left_35 hf
  · have hf := if_p c3 hf
    refine kw_iconst C (-1 : Int32) dX9_left_10 rfl ?_
    exact kw_iret C K dX9_left_11 hf
set_option maxRecDepth 100000 in
set_option maxHeartbeats 4000000 in
theorem kX9_nextRaise (L : Launch) (D : va_G) (g : GwT) (t0 : Nat) (p0 : Int32) (σ : St) (r0 : Int32) (σ0 : St) (hf : fX9_nextRaise σ p0 = some (r0, σ0)) : CtI L D (ttG g) (wB g) t0 yX9_nextRaise cX9_nextRaise 4 (some .int) { frames := 6, cells := 0, slots := 0, locals := 146 } [.ref (g.1 0), .int p0] σ r0 σ0 := by
  refine CtI.of (own := RX9) (by decide) rfl (Nat.le_of_ble_eq_true rfl) [(0, .ref (g.1 0)), (1, .int p0)] rfl ?_
  intro X C hN K
  unfold fX9_nextRaise at hf
  refine kw_iload_n C dX9_nextRaise_0 rfl 1 rfl ?_
  refine kw_iconst C (0 : Int32) dX9_nextRaise_1 rfl ?_
  refine kw_iconst C (1 : Int32) dX9_nextRaise_2 rfl ?_
  obtain ⟨r2, hc1, hf⟩ := bd_elim hf
  refine kw_callSI C [.int p0, .int (0 : Int32), .int (1 : Int32)] (kX9_isWithin L D g t0 p0 (0 : Int32) (1 : Int32) σ _ hc1) mS_X9_188 ⟨rfl, rfl⟩ dd_X9_isWithin ⟨Nat.le_of_ble_eq_true rfl, Nat.le_of_ble_eq_true rfl⟩ rfl (Nat.le_of_ble_eq_true rfl) dX9_nextRaise_3 ?_
  refine kw_if_ne C 11 dX9_nextRaise_6 rfl (fun c3 => ?_) (fun c3 => ?_)
  · have hf := if_n c3 hf
    refine kw_aload_n C dX9_nextRaise_11 rfl 0 rfl ?_
    obtain ⟨σ5, hc4, hf⟩ := bV_elim hf
    refine kw_callVV C [] (kX9_tryAsItGoes L D g t0 σ _ hc4) RX9 mV_X9_279 ⟨rfl, rfl⟩ dd_X9_tryAsItGoes ⟨Nat.le_of_ble_eq_true rfl, Nat.le_of_ble_eq_true rfl⟩ _ (hO9 g σ) rfl rfl rfl (Nat.le_of_ble_eq_true rfl) dX9_nextRaise_12 ?_
    refine kw_iconst C (1 : Int32) dX9_nextRaise_15 rfl ?_
    refine kw_istore_n C dX9_nextRaise_16 rfl hN (Nat.le_of_ble_eq_true rfl) [(2, .int (1 : Int32)), (0, .ref (g.1 0)), (1, .int p0)] rfl ?_
    refine kw_sub [1, 2, 0] _ rfl ?_
    refine lpx2_walk (P := fun (x6 : Int32) (σ7 : St) => KW X σ7 17 [(0, .ref (g.1 0)), (1, .int p0), (2, .int x6)] []) ?_ FU _ _ hf
    intro self8 x6 σ7 ih9 hf
    refine kw_iload_n C dX9_nextRaise_17 rfl 2 rfl ?_
    refine kw_bipush C (99 : Int32) dX9_nextRaise_18 rfl ?_
    refine kw_icmp_gt C 56 dX9_nextRaise_20 rfl (fun c10 => ?_) (fun c10 => ?_)
    · have hf := if_p c10 hf
      refine kw_bipush C (-2 : Int32) dX9_nextRaise_56 rfl ?_
      exact kw_iret C K dX9_nextRaise_58 hf
    · have hf := if_n c10 hf
      refine kw_aload_n C dX9_nextRaise_23 rfl 0 rfl ?_
      refine kw_get C inG9 _ (hO9 g σ7) rfl 14 (Nat.le_of_ble_eq_true rfl) mf_9_83 rfl rfl dX9_nextRaise_24 ?_
      refine kw_aload_n C dX9_nextRaise_27 rfl 0 rfl ?_
      refine kw_get C inG9 _ (hO9 g σ7) rfl 8 (Nat.le_of_ble_eq_true rfl) mf_9_51 rfl rfl dX9_nextRaise_28 ?_
      obtain ⟨r12, σ13, hc11, hf⟩ := bI_elim hf
      refine kw_callVI C [.ref (g.1 6)] (kX0_passYear L D g t0 6 (by simp [isSale]) σ7 _ _ hc11) RX0 mV_X9_266 ⟨rfl, rfl⟩ dd_X0_passYear ⟨Nat.le_of_ble_eq_true rfl, Nat.le_of_ble_eq_true rfl⟩ _ (hO0 g σ7) rfl rfl rfl (Nat.le_of_ble_eq_true rfl) dX9_nextRaise_31 ?_
      refine kw_istore_n C dX9_nextRaise_34 rfl hN (Nat.le_of_ble_eq_true rfl) [(3, .int r12), (0, .ref (g.1 0)), (1, .int p0), (2, .int x6)] rfl ?_
      refine kw_iload_n C dX9_nextRaise_35 rfl 0 rfl ?_
      refine kw_iconst C (-1 : Int32) dX9_nextRaise_36 rfl ?_
      refine kw_icmp_eq C 50 dX9_nextRaise_37 rfl (fun c14 => ?_) (fun c14 => ?_)
      · have hf := if_p c14 hf
        obtain ⟨x15, ex15, hf⟩ := lt_elim hf
        refine kw_iinc C x15 dX9_nextRaise_50 3 rfl ex15.symm hN (Nat.le_of_ble_eq_true rfl) [(2, .int x15), (3, .int r12), (0, .ref (g.1 0)), (1, .int p0)] rfl ?_
        refine kw_goto C 17 dX9_nextRaise_53 rfl ?_
        refine kw_sub [2, 3, 0] _ rfl ?_
        exact ih9 _ _ hf
      · have hf := if_n c14 hf
        refine kw_iload_n C dX9_nextRaise_40 rfl 2 rfl ?_
        obtain ⟨J17, hJ17, hf⟩ := jnx1_elim hf
        have kJ17 : ∀ (x16 : Int32), J17 x16 = some (r0, σ0) → KW X σ13 49 [] [.int x16] := by
          clear hf
          intro x16 hf
          have hf := (hJ17 x16).symm.trans hf
          exact kw_iret C K dX9_nextRaise_49 hf
        refine kw_if_ne C 48 dX9_nextRaise_41 rfl (fun c18 => ?_) (fun c18 => ?_)
        · have hf := if_n c18 hf
          refine kw_iload_n C dX9_nextRaise_48 rfl 0 rfl ?_
          refine kw_sub [] _ rfl ?_
          exact kJ17 _ hf
        · have hf := if_p c18 hf
          refine kw_iload_n C dX9_nextRaise_44 rfl 3 rfl ?_
          refine kw_goto C 49 dX9_nextRaise_45 rfl ?_
          refine kw_sub [] _ rfl ?_
          exact kJ17 _ hf
  · have hf := if_p c3 hf
    refine kw_iconst C (-1 : Int32) dX9_nextRaise_9 rfl ?_
    exact kw_iret C K dX9_nextRaise_10 hf
set_option maxRecDepth 100000 in
set_option maxHeartbeats 4000000 in
theorem kX9_tried (L : Launch) (D : va_G) (g : GwT) (t0 : Nat) (p0 : Int32) (p1 : Int32) (p2 : Int32) (σ : St) (r0 : Int32) (σ0 : St) (hf : fX9_tried σ p0 p1 p2 = some (r0, σ0)) : CtI L D (ttG g) (wB g) t0 yX9_tried cX9_tried 5 (some .int) { frames := 7, cells := 0, slots := 0, locals := 169 } [.ref (g.1 0), .int p0, .int p1, .int p2] σ r0 σ0 := by
  refine CtI.of (own := RX9) (by decide) rfl (Nat.le_of_ble_eq_true rfl) [(0, .ref (g.1 0)), (1, .int p0), (2, .int p1), (3, .int p2)] rfl ?_
  intro X C hN K
  unfold fX9_tried at hf
  refine kw_iload_n C dX9_tried_0 rfl 1 rfl ?_
  refine kw_iconst C (2 : Int32) dX9_tried_1 rfl ?_
  obtain ⟨J2, hJ2, hf⟩ := jnx1_elim hf
  have kJ2 : ∀ (x1 : Int32), J2 x1 = some (r0, σ0) → KW X σ 22 [(0, .ref (g.1 0)), (1, .int p0), (2, .int p1), (3, .int p2)] [.int x1] := by
    clear hf
    intro x1 hf
    have hf := (hJ2 x1).symm.trans hf
    refine kw_istore C dX9_tried_22 hN (Nat.le_of_ble_eq_true rfl) [(4, .int x1), (0, .ref (g.1 0)), (1, .int p0), (2, .int p1), (3, .int p2)] rfl ?_
    refine kw_iload_n C dX9_tried_24 rfl 2 rfl ?_
    refine kw_iconst C (0 : Int32) dX9_tried_25 rfl ?_
    refine kw_iconst C (4 : Int32) dX9_tried_26 rfl ?_
    obtain ⟨r4, hc3, hf⟩ := bd_elim hf
    refine kw_callSI C [.int p0, .int (0 : Int32), .int (4 : Int32)] (kX9_isWithin L D g t0 p0 (0 : Int32) (4 : Int32) σ _ hc3) mS_X9_188 ⟨rfl, rfl⟩ dd_X9_isWithin ⟨Nat.le_of_ble_eq_true rfl, Nat.le_of_ble_eq_true rfl⟩ rfl (Nat.le_of_ble_eq_true rfl) dX9_tried_27 ?_
    obtain ⟨J5, hJ5, hf⟩ := jnx1_elim hf
    have kJ5 : ∀ (u9 : Unit), J5 u9 = some (r0, σ0) → KW X σ 48 [] [] := by
      clear hf
      intro u9 hf
      have hf := (hJ5 u9).symm.trans hf
      refine kw_iconst C (-1 : Int32) dX9_tried_48 rfl ?_
      exact kw_iret C K dX9_tried_49 hf
    refine kw_if_eq C 48 dX9_tried_30 rfl (fun c6 => ?_) (fun c6 => ?_)
    · have hf := if_p c6 hf
      refine kw_sub [] _ rfl ?_
      exact kJ5 _ hf
    · have hf := if_n c6 hf
      refine kw_iload C dX9_tried_33 0 rfl ?_
      refine kw_if_eq C 48 dX9_tried_35 rfl (fun c7 => ?_) (fun c7 => ?_)
      · have hf := if_p c7 hf
        refine kw_sub [] _ rfl ?_
        exact kJ5 _ hf
      · have hf := if_n c7 hf
        refine kw_iload_n C dX9_tried_38 rfl 4 rfl ?_
        refine kw_iconst C (0 : Int32) dX9_tried_39 rfl ?_
        refine kw_bipush C (99 : Int32) dX9_tried_40 rfl ?_
        obtain ⟨r9, hc8, hf⟩ := bd_elim hf
        refine kw_callSI C [.int p2, .int (0 : Int32), .int (99 : Int32)] (kX9_isWithin L D g t0 p2 (0 : Int32) (99 : Int32) σ _ hc8) mS_X9_188 ⟨rfl, rfl⟩ dd_X9_isWithin ⟨Nat.le_of_ble_eq_true rfl, Nat.le_of_ble_eq_true rfl⟩ rfl (Nat.le_of_ble_eq_true rfl) dX9_tried_42 ?_
        refine kw_if_ne C 50 dX9_tried_45 rfl (fun c10 => ?_) (fun c10 => ?_)
        · have hf := if_n c10 hf
          refine kw_aload_n C dX9_tried_50 rfl 1 rfl ?_
          obtain ⟨σ12, hc11, hf⟩ := bV_elim hf
          refine kw_callVV C [] (kX9_tryAsItGoes L D g t0 σ _ hc11) RX9 mV_X9_279 ⟨rfl, rfl⟩ dd_X9_tryAsItGoes ⟨Nat.le_of_ble_eq_true rfl, Nat.le_of_ble_eq_true rfl⟩ _ (hO9 g σ) rfl rfl rfl (Nat.le_of_ble_eq_true rfl) dX9_tried_51 ?_
          refine kw_iload_n C dX9_tried_54 rfl 2 rfl ?_
          obtain ⟨J14, hJ14, hf⟩ := jnx1_elim hf
          have kJ14 : ∀ (σ13 : St), J14 σ13 = some (r0, σ0) → KW X σ13 140 [(0, .ref (g.1 0)), (3, .int p2)] [] := by
            clear hf
            intro σ13 hf
            have hf := (hJ14 σ13).symm.trans hf
            refine kw_aload_n C dX9_tried_140 rfl 0 rfl ?_
            refine kw_get C inG9 _ (hO9 g σ13) rfl 14 (Nat.le_of_ble_eq_true rfl) mf_9_83 rfl rfl dX9_tried_141 ?_
            refine kw_aload_n C dX9_tried_144 rfl 0 rfl ?_
            refine kw_get C inG9 _ (hO9 g σ13) rfl 8 (Nat.le_of_ble_eq_true rfl) mf_9_51 rfl rfl dX9_tried_145 ?_
            refine kw_iload_n C dX9_tried_148 rfl 1 rfl ?_
            obtain ⟨σ16, hc15, hf⟩ := bV_elim hf
            refine kw_callVV C [.ref (g.1 6), .int p2] (kX0_passYears L D g t0 6 (by simp [isSale]) p2 σ13 _ hc15) RX0 mV_X9_282 ⟨rfl, rfl⟩ dd_X0_passYears ⟨Nat.le_of_ble_eq_true rfl, Nat.le_of_ble_eq_true rfl⟩ _ (hO0 g σ13) rfl rfl rfl (Nat.le_of_ble_eq_true rfl) dX9_tried_149 ?_
            refine kw_aload_n C dX9_tried_152 rfl 0 rfl ?_
            refine kw_get C inG9 _ (hO9 g σ16) rfl 8 (Nat.le_of_ble_eq_true rfl) mf_9_51 rfl rfl dX9_tried_153 ?_
            refine kw_get C inG4 _ (hO4 g σ16 6 (by simp [isSale])) rfl 9 (Nat.le_of_ble_eq_true rfl) mf_9_213 rfl rfl dX9_tried_156 ?_
            exact kw_iret C K dX9_tried_159 hf
          by_cases c17 : p0 = (0 : Int32)
          · have hf := if_p c17 hf
            refine kw_tabIn C 84 dX9_tried_55 c17 (by decide) (by decide) rfl rfl ?_
            refine kw_aload_n C dX9_tried_84 rfl 1 rfl ?_
            refine kw_get C inG9 _ (hO9 g σ12) rfl 14 (Nat.le_of_ble_eq_true rfl) mf_9_83 rfl rfl dX9_tried_85 ?_
            refine kw_iconst C (1 : Int32) dX9_tried_88 rfl ?_
            obtain ⟨σ18, eσ18, hf⟩ := lt_elim hf
            refine kw_put C inG0 tyX0 tyX0_ok nmX0 _ (hO0 g σ12) rfl 3 (Nat.le_of_ble_eq_true rfl) mf_9_289 rfl rfl (tyX0_ok 3 (Nat.le_of_ble_eq_true rfl)) (narrow_bz (by decide)) (fits_bz (by decide)) (Nat.le_of_ble_eq_true rfl) ((hF0_3 g σ12 _).trans (congrArg (wB g) eσ18.symm)) dX9_tried_89 ?_
            refine kw_goto C 140 dX9_tried_92 rfl ?_
            refine kw_sub [1, 4] _ rfl ?_
            exact kJ14 _ hf
          have hf := if_n c17 hf
          by_cases c19 : p0 = (1 : Int32)
          · have hf := if_p c19 hf
            refine kw_tabIn C 95 dX9_tried_55 c19 (by decide) (by decide) rfl rfl ?_
            refine kw_aload_n C dX9_tried_95 rfl 1 rfl ?_
            refine kw_get C inG9 _ (hO9 g σ12) rfl 14 (Nat.le_of_ble_eq_true rfl) mf_9_83 rfl rfl dX9_tried_96 ?_
            refine kw_iconst C (1 : Int32) dX9_tried_99 rfl ?_
            obtain ⟨σ20, eσ20, hf⟩ := lt_elim hf
            refine kw_put C inG0 tyX0 tyX0_ok nmX0 _ (hO0 g σ12) rfl 4 (Nat.le_of_ble_eq_true rfl) mf_9_292 rfl rfl (tyX0_ok 4 (Nat.le_of_ble_eq_true rfl)) (narrow_bz (by decide)) (fits_bz (by decide)) (Nat.le_of_ble_eq_true rfl) ((hF0_4 g σ12 _).trans (congrArg (wB g) eσ20.symm)) dX9_tried_100 ?_
            refine kw_goto C 140 dX9_tried_103 rfl ?_
            refine kw_sub [1, 4] _ rfl ?_
            exact kJ14 _ hf
          have hf := if_n c19 hf
          by_cases c21 : p0 = (2 : Int32)
          · have hf := if_p c21 hf
            refine kw_tabIn C 106 dX9_tried_55 c21 (by decide) (by decide) rfl rfl ?_
            refine kw_aload_n C dX9_tried_106 rfl 1 rfl ?_
            refine kw_get C inG9 _ (hO9 g σ12) rfl 14 (Nat.le_of_ble_eq_true rfl) mf_9_83 rfl rfl dX9_tried_107 ?_
            refine kw_iconst C (1 : Int32) dX9_tried_110 rfl ?_
            refine kw_iload_n C dX9_tried_111 rfl 3 rfl ?_
            refine kw_ishl C dX9_tried_112 ?_
            obtain ⟨σ22, eσ22, hf⟩ := lt_elim hf
            refine kw_put C inG0 tyX0 tyX0_ok nmX0 _ (hO0 g σ12) rfl 6 (Nat.le_of_ble_eq_true rfl) mf_9_295 rfl rfl (tyX0_ok 6 (Nat.le_of_ble_eq_true rfl)) rfl rfl (Nat.le_of_ble_eq_true rfl) ((hF0_6 g σ12 _).trans (congrArg (wB g) eσ22.symm)) dX9_tried_113 ?_
            refine kw_goto C 140 dX9_tried_116 rfl ?_
            refine kw_sub [1, 4] _ rfl ?_
            exact kJ14 _ hf
          have hf := if_n c21 hf
          by_cases c23 : p0 = (3 : Int32)
          · have hf := if_p c23 hf
            refine kw_tabIn C 119 dX9_tried_55 c23 (by decide) (by decide) rfl rfl ?_
            refine kw_aload_n C dX9_tried_119 rfl 1 rfl ?_
            refine kw_get C inG9 _ (hO9 g σ12) rfl 14 (Nat.le_of_ble_eq_true rfl) mf_9_83 rfl rfl dX9_tried_120 ?_
            refine kw_iconst C (1 : Int32) dX9_tried_123 rfl ?_
            obtain ⟨σ24, eσ24, hf⟩ := lt_elim hf
            refine kw_put C inG0 tyX0 tyX0_ok nmX0 _ (hO0 g σ12) rfl 5 (Nat.le_of_ble_eq_true rfl) mf_9_298 rfl rfl (tyX0_ok 5 (Nat.le_of_ble_eq_true rfl)) (narrow_bz (by decide)) (fits_bz (by decide)) (Nat.le_of_ble_eq_true rfl) ((hF0_5 g σ12 _).trans (congrArg (wB g) eσ24.symm)) dX9_tried_124 ?_
            refine kw_goto C 140 dX9_tried_127 rfl ?_
            refine kw_sub [1, 4] _ rfl ?_
            exact kJ14 _ hf
          have hf := if_n c23 hf
          have c17_ : p0.toInt ≠ 0 := ne_ti c17
          have c19_ : p0.toInt ≠ 1 := ne_ti c19
          have c21_ : p0.toInt ≠ 2 := ne_ti c21
          have c23_ : p0.toInt ≠ 3 := ne_ti c23
          refine kw_tabOut C 130 dX9_tried_55 (by omega) rfl ?_
          refine kw_aload_n C dX9_tried_130 rfl 1 rfl ?_
          refine kw_get C inG9 _ (hO9 g σ12) rfl 8 (Nat.le_of_ble_eq_true rfl) mf_9_51 rfl rfl dX9_tried_131 ?_
          refine kw_sipush C (999 : Int32) dX9_tried_134 rfl ?_
          obtain ⟨σ26, hc25, hf⟩ := bV_elim hf
          refine kw_callVV C [.int (999 : Int32)] (kX4_setAllBounds L D g t0 6 (by simp [isSale]) (999 : Int32) σ12 _ hc25) RX4 mV_X9_301 ⟨rfl, rfl⟩ dd_X4_setAllBounds ⟨Nat.le_of_ble_eq_true rfl, Nat.le_of_ble_eq_true rfl⟩ _ (hO4 g σ12 6 (by simp [isSale])) rfl rfl rfl (Nat.le_of_ble_eq_true rfl) dX9_tried_137 ?_
          refine kw_sub [1, 4] _ rfl ?_
          exact kJ14 _ hf
        · have hf := if_p c10 hf
          refine kw_sub [] _ rfl ?_
          exact kJ5 _ hf
  refine kw_icmp_ne C 13 dX9_tried_2 rfl (fun c27 => ?_) (fun c27 => ?_)
  · have hf := if_n c27 hf
    refine kw_iload_n C dX9_tried_13 rfl 2 rfl ?_
    refine kw_if_ne C 21 dX9_tried_14 rfl (fun c28 => ?_) (fun c28 => ?_)
    · have hf := if_n c28 hf
      refine kw_iconst C (0 : Int32) dX9_tried_21 rfl ?_
      exact kJ2 _ hf
    · have hf := if_p c28 hf
      refine kw_iconst C (1 : Int32) dX9_tried_17 rfl ?_
      refine kw_goto C 22 dX9_tried_18 rfl ?_
      exact kJ2 _ hf
  · have hf := if_p c27 hf
    refine kw_aload_n C dX9_tried_5 rfl 0 rfl ?_
    refine kw_iload_n C dX9_tried_6 rfl 2 rfl ?_
    obtain ⟨r30, hc29, hf⟩ := bd_elim hf
    refine kw_callVI C [.int p1] (kX9_isHouse L D g t0 p1 σ _ hc29) RX9 mV_X9_132 ⟨rfl, rfl⟩ dd_X9_isHouse ⟨Nat.le_of_ble_eq_true rfl, Nat.le_of_ble_eq_true rfl⟩ _ (hO9 g σ) rfl rfl rfl (Nat.le_of_ble_eq_true rfl) dX9_tried_7 ?_
    refine kw_goto C 22 dX9_tried_10 rfl ?_
    exact kJ2 _ hf
