set_option maxRecDepth 100000 in
set_option maxHeartbeats 4000000 in
theorem kX10_goMany (L : Launch) (D : va_G) (g : GwT) (t0 : Nat) (p0 : Int32) (σ : St) (σ0 : St) (hf : fX10_goMany σ p0 = some σ0) : CtV L D (ttG g) (wM g) t0 yX10_goMany cX10_goMany 3 none { frames := 7, cells := 0, slots := 0, locals := 166 } [.ref (g.1 0), .int p0] σ σ0 := by
  refine CtV.of (own := RX10) (by decide) rfl (Nat.le_of_ble_eq_true rfl) [(0, .ref (g.1 0)), (1, .int p0)] rfl ?_
  intro X C hN K
  unfold fX10_goMany at hf
  refine kw_iconst C (0 : Int32) dX10_goMany_0 rfl ?_
  refine kw_istore_n C dX10_goMany_1 rfl hN (Nat.le_of_ble_eq_true rfl) [(2, .int (0 : Int32)), (0, .ref (g.1 0)), (1, .int p0)] rfl ?_
  refine kw_sub [1, 2, 0] _ rfl ?_
  refine lpx2_walk (P := fun (x1 : Int32) (σ2 : St) => KW X σ2 2 [(0, .ref (g.1 0)), (1, .int p0), (2, .int x1)] []) ?_ FU _ _ hf
  intro self3 x1 σ2 ih4 hf
  refine kw_iload_n C dX10_goMany_2 rfl 2 rfl ?_
  refine kw_iload_n C dX10_goMany_3 rfl 1 rfl ?_
  refine kw_icmp_ge C 18 dX10_goMany_4 rfl (fun c5 => ?_) (fun c5 => ?_)
  · have hf := if_p c5 hf
    exact kw_vret (u9 := ()) C K dX10_goMany_18 hf
  · have hf := if_n c5 hf
    refine kw_aload_n C dX10_goMany_7 rfl 0 rfl ?_
    refine kw_iconst C (1 : Int32) dX10_goMany_8 rfl ?_
    obtain ⟨σ7, hc6, hf⟩ := bV_elim hf
    refine kw_callVV C [.int (1 : Int32)] (kX10_yearGoes L D g t0 (1 : Int32) σ2 _ hc6) RX10 mV_X10_433 ⟨rfl, rfl⟩ dd_X10_yearGoes ⟨Nat.le_of_ble_eq_true rfl, Nat.le_of_ble_eq_true rfl⟩ _ (hO10 g σ2) rfl rfl rfl (Nat.le_of_ble_eq_true rfl) dX10_goMany_9 ?_
    obtain ⟨x8, ex8, hf⟩ := lt_elim hf
    refine kw_iinc C x8 dX10_goMany_12 2 rfl ex8.symm hN (Nat.le_of_ble_eq_true rfl) [(2, .int x8), (0, .ref (g.1 0)), (1, .int p0)] rfl ?_
    refine kw_goto C 2 dX10_goMany_15 rfl ?_
    refine kw_sub [1, 2, 0] _ rfl ?_
    exact ih4 _ _ hf
set_option maxRecDepth 100000 in
set_option maxHeartbeats 4000000 in
theorem kX10_onMany (L : Launch) (D : va_G) (g : GwT) (t0 : Nat) (p0 : Int32) (σ : St) (r0 : Int32) (hf : fX10_onMany σ p0 = some r0) : CtI L D (ttG g) (wM g) t0 yX10_onMany cX10_onMany 4 (some .int) { frames := 1, cells := 0, slots := 0, locals := 22 } [.ref (g.1 0), .int p0] σ r0 σ := by
  refine CtI.of (own := RX10) (by decide) rfl (Nat.le_of_ble_eq_true rfl) [(0, .ref (g.1 0)), (1, .int p0)] rfl ?_
  intro X C hN K
  unfold fX10_onMany at hf
  refine kw_iconst C (0 : Int32) dX10_onMany_0 rfl ?_
  refine kw_istore_n C dX10_onMany_1 rfl hN (Nat.le_of_ble_eq_true rfl) [(2, .int (0 : Int32)), (0, .ref (g.1 0)), (1, .int p0)] rfl ?_
  refine kw_iconst C (0 : Int32) dX10_onMany_2 rfl ?_
  refine kw_istore_n C dX10_onMany_3 rfl hN (Nat.le_of_ble_eq_true rfl) [(3, .int (0 : Int32)), (2, .int (0 : Int32)), (0, .ref (g.1 0)), (1, .int p0)] rfl ?_
  refine kw_sub [2, 3, 1, 0] _ rfl ?_
  refine lpx2_walk (P := fun (x1 : Int32) (x2 : Int32) => KW X σ 4 [(0, .ref (g.1 0)), (1, .int p0), (2, .int x1), (3, .int x2)] []) ?_ FU _ _ hf
  intro self3 x1 x2 ih4 hf
  refine kw_iload_n C dX10_onMany_4 rfl 3 rfl ?_
  refine kw_aload_n C dX10_onMany_5 rfl 0 rfl ?_
  refine kw_get C inG10 _ (hO10 g σ) rfl 12 (Nat.le_of_ble_eq_true rfl) mf_10_225 rfl rfl dX10_onMany_6 ?_
  refine kw_icmp_ge C 35 dX10_onMany_9 rfl (fun c5 => ?_) (fun c5 => ?_)
  · have hf := if_p c5 hf
    refine kw_iload_n C dX10_onMany_35 rfl 2 rfl ?_
    exact kw_iret C K dX10_onMany_36 (pr_ret hf)
  · have hf := if_n c5 hf
    refine kw_iload_n C dX10_onMany_12 rfl 2 rfl ?_
    refine kw_aload_n C dX10_onMany_13 rfl 0 rfl ?_
    refine kw_iload_n C dX10_onMany_14 rfl 1 rfl ?_
    refine kw_iload_n C dX10_onMany_15 rfl 3 rfl ?_
    obtain ⟨r7, hc6, hf⟩ := bd_elim hf
    refine kw_callVI C [.int p0, .int x2] (kX10_isOn L D g t0 p0 x2 σ _ hc6) RX10 mV_X10_400 ⟨rfl, rfl⟩ dd_X10_isOn ⟨Nat.le_of_ble_eq_true rfl, Nat.le_of_ble_eq_true rfl⟩ _ (hO10 g σ) rfl rfl rfl (Nat.le_of_ble_eq_true rfl) dX10_onMany_16 ?_
    obtain ⟨J9, hJ9, hf⟩ := jnx1_elim hf
    have kJ9 : ∀ (x8 : Int32), J9 x8 = some r0 → KW X σ 27 [(0, .ref (g.1 0)), (1, .int p0), (3, .int x2)] [.int x8, .int x1] := by
      clear hf
      intro x8 hf
      have hf := (hJ9 x8).symm.trans hf
      refine kw_iadd C dX10_onMany_27 ?_
      obtain ⟨x10, ex10, hf⟩ := lt_elim hf
      refine kw_topi ex10 ?_
      refine kw_istore_n C dX10_onMany_28 rfl hN (Nat.le_of_ble_eq_true rfl) [(2, .int x10), (0, .ref (g.1 0)), (1, .int p0), (3, .int x2)] rfl ?_
      obtain ⟨x11, ex11, hf⟩ := lt_elim hf
      refine kw_iinc C x11 dX10_onMany_29 3 rfl ex11.symm hN (Nat.le_of_ble_eq_true rfl) [(3, .int x11), (2, .int x10), (0, .ref (g.1 0)), (1, .int p0)] rfl ?_
      refine kw_goto C 4 dX10_onMany_32 rfl ?_
      refine kw_sub [2, 3, 1, 0] _ rfl ?_
      exact ih4 _ _ hf
    refine kw_if_eq C 26 dX10_onMany_19 rfl (fun c12 => ?_) (fun c12 => ?_)
    · have hf := if_p c12 hf
      refine kw_iconst C (0 : Int32) dX10_onMany_26 rfl ?_
      refine kw_sub [0, 1, 3] _ rfl ?_
      exact kJ9 _ hf
    · have hf := if_n c12 hf
      refine kw_iconst C (1 : Int32) dX10_onMany_22 rfl ?_
      refine kw_goto C 27 dX10_onMany_23 rfl ?_
      refine kw_sub [0, 1, 3] _ rfl ?_
      exact kJ9 _ hf
set_option maxRecDepth 100000 in
set_option maxHeartbeats 4000000 in
theorem kX10_ahead (L : Launch) (D : va_G) (g : GwT) (t0 : Nat) (p0 : Int32) (p1 : Int32) (σ : St) (r0 : Int32) (σ0 : St) (hf : fX10_ahead σ p0 p1 = some (r0, σ0)) : CtI L D (ttG g) (wM g) t0 yX10_ahead cX10_ahead 3 (some .int) { frames := 8, cells := 0, slots := 0, locals := 188 } [.ref (g.1 0), .int p0, .int p1] σ r0 σ0 := by
  refine CtI.of (own := RX10) (by decide) rfl (Nat.le_of_ble_eq_true rfl) [(0, .ref (g.1 0)), (1, .int p0), (2, .int p1)] rfl ?_
  intro X C hN K
  unfold fX10_ahead at hf
  refine kw_aload_n C dX10_ahead_0 rfl 0 rfl ?_
  refine kw_iconst C (0 : Int32) dX10_ahead_1 rfl ?_
  obtain ⟨σ1, eσ1, hf⟩ := lt_elim hf
  refine kw_put C inG10 tyX10 tyX10_ok nmX10 _ (hO10 g σ) rfl 2 (Nat.le_of_ble_eq_true rfl) mf_10_151 rfl rfl (tyX10_ok 2 (Nat.le_of_ble_eq_true rfl)) rfl rfl (Nat.le_of_ble_eq_true rfl) ((hF10_2 g σ _).trans (congrArg (wM g) eσ1.symm)) dX10_ahead_2 ?_
  refine kw_iload_n C dX10_ahead_5 rfl 1 rfl ?_
  refine kw_iconst C (0 : Int32) dX10_ahead_6 rfl ?_
  refine kw_bipush C (99 : Int32) dX10_ahead_7 rfl ?_
  obtain ⟨r3, hc2, hf⟩ := bd_elim hf
  refine kw_callSI C [.int p0, .int (0 : Int32), .int (99 : Int32)] (kX10_isIn L D g t0 p0 (0 : Int32) (99 : Int32) σ1 _ hc2) mS_X10_196 ⟨rfl, rfl⟩ dd_X10_isIn ⟨Nat.le_of_ble_eq_true rfl, Nat.le_of_ble_eq_true rfl⟩ rfl (Nat.le_of_ble_eq_true rfl) dX10_ahead_9 ?_
  obtain ⟨J4, hJ4, hf⟩ := jnx1_elim hf
  have kJ4 : ∀ (u9 : Unit), J4 u9 = some (r0, σ0) → KW X σ1 24 [] [] := by
    clear hf
    intro u9 hf
    have hf := (hJ4 u9).symm.trans hf
    refine kw_iconst C (-1 : Int32) dX10_ahead_24 rfl ?_
    exact kw_iret C K dX10_ahead_25 hf
  refine kw_if_eq C 24 dX10_ahead_12 rfl (fun c5 => ?_) (fun c5 => ?_)
  · have hf := if_p c5 hf
    refine kw_sub [] _ rfl ?_
    exact kJ4 _ hf
  · have hf := if_n c5 hf
    refine kw_iload_n C dX10_ahead_15 rfl 2 rfl ?_
    refine kw_iconst C (0 : Int32) dX10_ahead_16 rfl ?_
    refine kw_iconst C (3 : Int32) dX10_ahead_17 rfl ?_
    obtain ⟨r7, hc6, hf⟩ := bd_elim hf
    refine kw_callSI C [.int p1, .int (0 : Int32), .int (3 : Int32)] (kX10_isIn L D g t0 p1 (0 : Int32) (3 : Int32) σ1 _ hc6) mS_X10_196 ⟨rfl, rfl⟩ dd_X10_isIn ⟨Nat.le_of_ble_eq_true rfl, Nat.le_of_ble_eq_true rfl⟩ rfl (Nat.le_of_ble_eq_true rfl) dX10_ahead_18 ?_
    refine kw_if_ne C 26 dX10_ahead_21 rfl (fun c8 => ?_) (fun c8 => ?_)
    · have hf := if_n c8 hf
      refine kw_aload_n C dX10_ahead_26 rfl 0 rfl ?_
      obtain ⟨σ10, hc9, hf⟩ := bV_elim hf
      refine kw_callVV C [] (kX10_layTried L D g t0 σ1 _ hc9) RX10 mV_X10_453 ⟨rfl, rfl⟩ dd_X10_layTried ⟨Nat.le_of_ble_eq_true rfl, Nat.le_of_ble_eq_true rfl⟩ _ (hO10 g σ1) rfl rfl rfl (Nat.le_of_ble_eq_true rfl) dX10_ahead_27 ?_
      refine kw_aload_n C dX10_ahead_30 rfl 0 rfl ?_
      refine kw_iload_n C dX10_ahead_31 rfl 1 rfl ?_
      obtain ⟨σ12, hc11, hf⟩ := bV_elim hf
      refine kw_callVV C [.int p0] (kX10_goMany L D g t0 p0 σ10 _ hc11) RX10 mV_X10_456 ⟨rfl, rfl⟩ dd_X10_goMany ⟨Nat.le_of_ble_eq_true rfl, Nat.le_of_ble_eq_true rfl⟩ _ (hO10 g σ10) rfl rfl rfl (Nat.le_of_ble_eq_true rfl) dX10_ahead_32 ?_
      refine kw_iload_n C dX10_ahead_35 rfl 2 rfl ?_
      by_cases c13 : p1 = (0 : Int32)
      · have hf := if_p c13 hf
        refine kw_tabIn C 64 dX10_ahead_36 c13 (by decide) (by decide) rfl rfl ?_
        refine kw_aload_n C dX10_ahead_64 rfl 0 rfl ?_
        refine kw_get C inG10 _ (hO10 g σ12) rfl 54 (Nat.le_of_ble_eq_true rfl) mf_10_109 rfl rfl dX10_ahead_65 ?_
        refine kw_iconst C (1 : Int32) dX10_ahead_68 rfl ?_
        refine kw_iald C _ 0 (hA10_54 g σ12) rfl (by decide) dX10_ahead_69 ?_
        exact kw_iret C K dX10_ahead_70 hf
      have hf := if_n c13 hf
      by_cases c14 : p1 = (1 : Int32)
      · have hf := if_p c14 hf
        refine kw_tabIn C 71 dX10_ahead_36 c14 (by decide) (by decide) rfl rfl ?_
        refine kw_aload_n C dX10_ahead_71 rfl 0 rfl ?_
        refine kw_get C inG10 _ (hO10 g σ12) rfl 55 (Nat.le_of_ble_eq_true rfl) mf_10_112 rfl rfl dX10_ahead_72 ?_
        refine kw_iconst C (1 : Int32) dX10_ahead_75 rfl ?_
        refine kw_iald C _ 0 (hA10_55 g σ12) rfl (by decide) dX10_ahead_76 ?_
        obtain ⟨J16, hJ16, hf⟩ := jnx1_elim hf
        have kJ16 : ∀ (x15 : Int32), J16 x15 = some (r0, σ0) → KW X σ12 91 [] [.int x15] := by
          clear hf
          intro x15 hf
          have hf := (hJ16 x15).symm.trans hf
          exact kw_iret C K dX10_ahead_91 hf
        refine kw_if_ge C 85 dX10_ahead_77 rfl (fun c17 => ?_) (fun c17 => ?_)
        · have hf := if_p c17 hf
          refine kw_aload_n C dX10_ahead_85 rfl 0 rfl ?_
          refine kw_get C inG10 _ (hO10 g σ12) rfl 55 (Nat.le_of_ble_eq_true rfl) mf_10_112 rfl rfl dX10_ahead_86 ?_
          refine kw_iconst C (1 : Int32) dX10_ahead_89 rfl ?_
          refine kw_iald C _ 0 (hA10_55 g σ12) rfl (by decide) dX10_ahead_90 ?_
          refine kw_sub [] _ rfl ?_
          exact kJ16 _ hf
        · have hf := if_n c17 hf
          refine kw_bipush C (-2 : Int32) dX10_ahead_80 rfl ?_
          refine kw_goto C 91 dX10_ahead_82 rfl ?_
          refine kw_sub [] _ rfl ?_
          exact kJ16 _ hf
      have hf := if_n c14 hf
      by_cases c18 : p1 = (2 : Int32)
      · have hf := if_p c18 hf
        refine kw_tabIn C 92 dX10_ahead_36 c18 (by decide) (by decide) rfl rfl ?_
        refine kw_aload_n C dX10_ahead_92 rfl 0 rfl ?_
        refine kw_iconst C (1 : Int32) dX10_ahead_93 rfl ?_
        obtain ⟨r20, hc19, hf⟩ := bd_elim hf
        refine kw_callVI C [.int (1 : Int32)] (kX10_onMany L D g t0 (1 : Int32) σ12 _ hc19) RX10 mV_X10_459 ⟨rfl, rfl⟩ dd_X10_onMany ⟨Nat.le_of_ble_eq_true rfl, Nat.le_of_ble_eq_true rfl⟩ _ (hO10 g σ12) rfl rfl rfl (Nat.le_of_ble_eq_true rfl) dX10_ahead_94 ?_
        exact kw_iret C K dX10_ahead_97 hf
      have hf := if_n c18 hf
      have c13_ : p1.toInt ≠ 0 := ne_ti c13
      have c14_ : p1.toInt ≠ 1 := ne_ti c14
      have c18_ : p1.toInt ≠ 2 := ne_ti c18
      refine kw_tabOut C 98 dX10_ahead_36 (by omega) rfl ?_
      refine kw_aload_n C dX10_ahead_98 rfl 0 rfl ?_
      refine kw_get C inG10 _ (hO10 g σ12) rfl 58 (Nat.le_of_ble_eq_true rfl) mf_10_121 rfl rfl dX10_ahead_99 ?_
      refine kw_iconst C (1 : Int32) dX10_ahead_102 rfl ?_
      refine kw_iald C _ 0 (hA10_58 g σ12) rfl (by decide) dX10_ahead_103 ?_
      refine kw_aload_n C dX10_ahead_104 rfl 0 rfl ?_
      refine kw_get C inG10 _ (hO10 g σ12) rfl 58 (Nat.le_of_ble_eq_true rfl) mf_10_121 rfl rfl dX10_ahead_105 ?_
      refine kw_iconst C (0 : Int32) dX10_ahead_108 rfl ?_
      refine kw_iald C _ 0 (hA10_58 g σ12) rfl (by decide) dX10_ahead_109 ?_
      refine kw_isub C dX10_ahead_110 ?_
      exact kw_iret C K dX10_ahead_111 hf
    · have hf := if_p c8 hf
      refine kw_sub [] _ rfl ?_
      exact kJ4 _ hf
set_option maxRecDepth 100000 in
set_option maxHeartbeats 4000000 in
theorem kX10_fallsBy (L : Launch) (D : va_G) (g : GwT) (t0 : Nat) (p0 : Int32) (σ : St) (r0 : Int32) (σ0 : St) (hf : fX10_fallsBy σ p0 = some (r0, σ0)) : CtI L D (ttG g) (wM g) t0 yX10_fallsBy cX10_fallsBy 3 (some .int) { frames := 7, cells := 0, slots := 0, locals := 166 } [.ref (g.1 0), .int p0] σ r0 σ0 := by
  refine CtI.of (own := RX10) (by decide) rfl (Nat.le_of_ble_eq_true rfl) [(0, .ref (g.1 0)), (1, .int p0)] rfl ?_
  intro X C hN K
  unfold fX10_fallsBy at hf
  refine kw_iconst C (0 : Int32) dX10_fallsBy_0 rfl ?_
  refine kw_istore_n C dX10_fallsBy_1 rfl hN (Nat.le_of_ble_eq_true rfl) [(2, .int (0 : Int32)), (0, .ref (g.1 0)), (1, .int p0)] rfl ?_
  refine kw_sub [1, 2, 0] _ rfl ?_
  refine lpx2_walk (P := fun (x1 : Int32) (σ2 : St) => KW X σ2 2 [(0, .ref (g.1 0)), (1, .int p0), (2, .int x1)] []) ?_ FU _ _ hf
  intro self3 x1 σ2 ih4 hf
  refine kw_iload_n C dX10_fallsBy_2 rfl 2 rfl ?_
  refine kw_iload_n C dX10_fallsBy_3 rfl 1 rfl ?_
  refine kw_icmp_gt C 29 dX10_fallsBy_4 rfl (fun c5 => ?_) (fun c5 => ?_)
  · have hf := if_p c5 hf
    refine kw_bipush C (-2 : Int32) dX10_fallsBy_29 rfl ?_
    exact kw_iret C K dX10_fallsBy_31 hf
  · have hf := if_n c5 hf
    refine kw_aload_n C dX10_fallsBy_7 rfl 0 rfl ?_
    refine kw_get C inG10 _ (hO10 g σ2) rfl 57 (Nat.le_of_ble_eq_true rfl) mf_10_118 rfl rfl dX10_fallsBy_8 ?_
    refine kw_iconst C (1 : Int32) dX10_fallsBy_11 rfl ?_
    refine kw_zald C _ 3 (hA10_57 g σ2) rfl (by decide) dX10_fallsBy_12 ?_
    refine kw_if_eq C 18 dX10_fallsBy_13 rfl (fun c6 => ?_) (fun c6 => ?_)
    · have hf := if_p c6 hf
      refine kw_aload_n C dX10_fallsBy_18 rfl 0 rfl ?_
      refine kw_iconst C (1 : Int32) dX10_fallsBy_19 rfl ?_
      obtain ⟨σ8, hc7, hf⟩ := bV_elim hf
      refine kw_callVV C [.int (1 : Int32)] (kX10_yearGoes L D g t0 (1 : Int32) σ2 _ hc7) RX10 mV_X10_433 ⟨rfl, rfl⟩ dd_X10_yearGoes ⟨Nat.le_of_ble_eq_true rfl, Nat.le_of_ble_eq_true rfl⟩ _ (hO10 g σ2) rfl rfl rfl (Nat.le_of_ble_eq_true rfl) dX10_fallsBy_20 ?_
      obtain ⟨x9, ex9, hf⟩ := lt_elim hf
      refine kw_iinc C x9 dX10_fallsBy_23 2 rfl ex9.symm hN (Nat.le_of_ble_eq_true rfl) [(2, .int x9), (0, .ref (g.1 0)), (1, .int p0)] rfl ?_
      refine kw_goto C 2 dX10_fallsBy_26 rfl ?_
      refine kw_sub [1, 2, 0] _ rfl ?_
      exact ih4 _ _ hf
    · have hf := if_n c6 hf
      refine kw_iload_n C dX10_fallsBy_16 rfl 2 rfl ?_
      exact kw_iret C K dX10_fallsBy_17 hf
set_option maxRecDepth 100000 in
set_option maxHeartbeats 4000000 in
theorem kX10_falls (L : Launch) (D : va_G) (g : GwT) (t0 : Nat) (p0 : Int32) (σ : St) (r0 : Int32) (σ0 : St) (hf : fX10_falls σ p0 = some (r0, σ0)) : CtI L D (ttG g) (wM g) t0 yX10_falls cX10_falls 3 (some .int) { frames := 8, cells := 0, slots := 0, locals := 188 } [.ref (g.1 0), .int p0] σ r0 σ0 := by
  refine CtI.of (own := RX10) (by decide) rfl (Nat.le_of_ble_eq_true rfl) [(0, .ref (g.1 0)), (1, .int p0)] rfl ?_
  intro X C hN K
  unfold fX10_falls at hf
  refine kw_aload_n C dX10_falls_0 rfl 0 rfl ?_
  refine kw_iconst C (0 : Int32) dX10_falls_1 rfl ?_
  obtain ⟨σ1, eσ1, hf⟩ := lt_elim hf
  refine kw_put C inG10 tyX10 tyX10_ok nmX10 _ (hO10 g σ) rfl 2 (Nat.le_of_ble_eq_true rfl) mf_10_151 rfl rfl (tyX10_ok 2 (Nat.le_of_ble_eq_true rfl)) rfl rfl (Nat.le_of_ble_eq_true rfl) ((hF10_2 g σ _).trans (congrArg (wM g) eσ1.symm)) dX10_falls_2 ?_
  refine kw_iload_n C dX10_falls_5 rfl 1 rfl ?_
  refine kw_iconst C (0 : Int32) dX10_falls_6 rfl ?_
  refine kw_iconst C (2 : Int32) dX10_falls_7 rfl ?_
  obtain ⟨r3, hc2, hf⟩ := bd_elim hf
  refine kw_callSI C [.int p0, .int (0 : Int32), .int (2 : Int32)] (kX10_isIn L D g t0 p0 (0 : Int32) (2 : Int32) σ1 _ hc2) mS_X10_196 ⟨rfl, rfl⟩ dd_X10_isIn ⟨Nat.le_of_ble_eq_true rfl, Nat.le_of_ble_eq_true rfl⟩ rfl (Nat.le_of_ble_eq_true rfl) dX10_falls_8 ?_
  refine kw_if_ne C 16 dX10_falls_11 rfl (fun c4 => ?_) (fun c4 => ?_)
  · have hf := if_n c4 hf
    refine kw_aload_n C dX10_falls_16 rfl 0 rfl ?_
    obtain ⟨σ6, hc5, hf⟩ := bV_elim hf
    refine kw_callVV C [] (kX10_layTried L D g t0 σ1 _ hc5) RX10 mV_X10_453 ⟨rfl, rfl⟩ dd_X10_layTried ⟨Nat.le_of_ble_eq_true rfl, Nat.le_of_ble_eq_true rfl⟩ _ (hO10 g σ1) rfl rfl rfl (Nat.le_of_ble_eq_true rfl) dX10_falls_17 ?_
    refine kw_aload_n C dX10_falls_20 rfl 0 rfl ?_
    refine kw_sipush C (999 : Int32) dX10_falls_21 rfl ?_
    obtain ⟨r8, σ9, hc7, hf⟩ := bI_elim hf
    refine kw_callVI C [.int (999 : Int32)] (kX10_fallsBy L D g t0 (999 : Int32) σ6 _ _ hc7) RX10 mV_X10_462 ⟨rfl, rfl⟩ dd_X10_fallsBy ⟨Nat.le_of_ble_eq_true rfl, Nat.le_of_ble_eq_true rfl⟩ _ (hO10 g σ6) rfl rfl rfl (Nat.le_of_ble_eq_true rfl) dX10_falls_24 ?_
    refine kw_istore_n C dX10_falls_27 rfl hN (Nat.le_of_ble_eq_true rfl) [(2, .int r8), (0, .ref (g.1 0)), (1, .int p0)] rfl ?_
    refine kw_iload_n C dX10_falls_28 rfl 0 rfl ?_
    obtain ⟨J11, hJ11, hf⟩ := jnx1_elim hf
    have kJ11 : ∀ (x10 : Int32), J11 x10 = some (r0, σ0) → KW X σ9 60 [] [.int x10] := by
      clear hf
      intro x10 hf
      have hf := (hJ11 x10).symm.trans hf
      exact kw_iret C K dX10_falls_60 hf
    obtain ⟨J12, hJ12, hf⟩ := jnx1_elim hf
    have kJ12 : ∀ (u9 : Unit), J12 u9 = some (r0, σ0) → KW X σ9 36 [(2, .int r8)] [] := by
      clear hf
      intro u9 hf
      have hf := (hJ12 u9).symm.trans hf
      refine kw_iload_n C dX10_falls_36 rfl 0 rfl ?_
      refine kw_goto C 60 dX10_falls_37 rfl ?_
      refine kw_sub [] _ rfl ?_
      exact kJ11 _ hf
    refine kw_if_lt C 36 dX10_falls_29 rfl (fun c13 => ?_) (fun c13 => ?_)
    · have hf := if_p c13 hf
      refine kw_sub [0] _ rfl ?_
      exact kJ12 _ hf
    · have hf := if_n c13 hf
      refine kw_iload_n C dX10_falls_32 rfl 2 rfl ?_
      refine kw_if_ne C 40 dX10_falls_33 rfl (fun c14 => ?_) (fun c14 => ?_)
      · have hf := if_n c14 hf
        refine kw_iload_n C dX10_falls_40 rfl 2 rfl ?_
        refine kw_iconst C (1 : Int32) dX10_falls_41 rfl ?_
        refine kw_icmp_ne C 54 dX10_falls_42 rfl (fun c15 => ?_) (fun c15 => ?_)
        · have hf := if_n c15 hf
          refine kw_aload_n C dX10_falls_54 rfl 1 rfl ?_
          refine kw_get C inG10 _ (hO10 g σ9) rfl 54 (Nat.le_of_ble_eq_true rfl) mf_10_109 rfl rfl dX10_falls_55 ?_
          refine kw_iconst C (1 : Int32) dX10_falls_58 rfl ?_
          refine kw_iald C _ 0 (hA10_54 g σ9) rfl (by decide) dX10_falls_59 ?_
          refine kw_sub [] _ rfl ?_
          exact kJ11 _ hf
        · have hf := if_p c15 hf
          refine kw_aload_n C dX10_falls_45 rfl 1 rfl ?_
          refine kw_get C inG10 _ (hO10 g σ9) rfl 55 (Nat.le_of_ble_eq_true rfl) mf_10_112 rfl rfl dX10_falls_46 ?_
          refine kw_iconst C (1 : Int32) dX10_falls_49 rfl ?_
          refine kw_iald C _ 0 (hA10_55 g σ9) rfl (by decide) dX10_falls_50 ?_
          refine kw_goto C 60 dX10_falls_51 rfl ?_
          refine kw_sub [] _ rfl ?_
          exact kJ11 _ hf
      · have hf := if_p c14 hf
        refine kw_sub [0] _ rfl ?_
        exact kJ12 _ hf
  · have hf := if_p c4 hf
    refine kw_iconst C (-1 : Int32) dX10_falls_14 rfl ?_
    exact kw_iret C K dX10_falls_15 hf
set_option maxRecDepth 100000 in
set_option maxHeartbeats 4000000 in
theorem kX10_letGo (L : Launch) (D : va_G) (g : GwT) (t0 : Nat) (p0 : Int32) (σ : St) (r0 : Int32) (σ0 : St) (hf : fX10_letGo σ p0 = some (r0, σ0)) : CtI L D (ttG g) (wM g) t0 yX10_letGo cX10_letGo 3 (some .int) { frames := 8, cells := 0, slots := 0, locals := 188 } [.ref (g.1 0), .int p0] σ r0 σ0 := by
  refine CtI.of (own := RX10) (by decide) rfl (Nat.le_of_ble_eq_true rfl) [(0, .ref (g.1 0)), (1, .int p0)] rfl ?_
  intro X C hN K
  unfold fX10_letGo at hf
  refine kw_aload_n C dX10_letGo_0 rfl 0 rfl ?_
  refine kw_iconst C (0 : Int32) dX10_letGo_1 rfl ?_
  obtain ⟨σ1, eσ1, hf⟩ := lt_elim hf
  refine kw_put C inG10 tyX10 tyX10_ok nmX10 _ (hO10 g σ) rfl 2 (Nat.le_of_ble_eq_true rfl) mf_10_151 rfl rfl (tyX10_ok 2 (Nat.le_of_ble_eq_true rfl)) rfl rfl (Nat.le_of_ble_eq_true rfl) ((hF10_2 g σ _).trans (congrArg (wM g) eσ1.symm)) dX10_letGo_2 ?_
  refine kw_aload_n C dX10_letGo_5 rfl 0 rfl ?_
  refine kw_iload_n C dX10_letGo_6 rfl 1 rfl ?_
  obtain ⟨r3, hc2, hf⟩ := bd_elim hf
  refine kw_callVI C [.int p0] (kX10_isOnNow L D g t0 p0 σ1 _ hc2) RX10 mV_X10_444 ⟨rfl, rfl⟩ dd_X10_isOnNow ⟨Nat.le_of_ble_eq_true rfl, Nat.le_of_ble_eq_true rfl⟩ _ (hO10 g σ1) rfl rfl rfl (Nat.le_of_ble_eq_true rfl) dX10_letGo_7 ?_
  refine kw_if_ne C 15 dX10_letGo_10 rfl (fun c4 => ?_) (fun c4 => ?_)
  · have hf := if_n c4 hf
    refine kw_iconst C (0 : Int32) dX10_letGo_15 rfl ?_
    refine kw_istore_n C dX10_letGo_16 rfl hN (Nat.le_of_ble_eq_true rfl) [(2, .int (0 : Int32)), (0, .ref (g.1 0)), (1, .int p0)] rfl ?_
    refine kw_sub [1, 2, 0] _ rfl ?_
    refine lpx2_walk (P := fun (x5 : Int32) (σ6 : St) => KW X σ6 17 [(0, .ref (g.1 0)), (1, .int p0), (2, .int x5)] []) ?_ FU _ _ hf
    intro self7 x5 σ6 ih8 hf
    refine kw_iload_n C dX10_letGo_17 rfl 2 rfl ?_
    refine kw_sipush C (300 : Int32) dX10_letGo_18 rfl ?_
    refine kw_icmp_gt C 80 dX10_letGo_21 rfl (fun c9 => ?_) (fun c9 => ?_)
    · have hf := if_p c9 hf
      refine kw_bipush C (-2 : Int32) dX10_letGo_80 rfl ?_
      exact kw_iret C K dX10_letGo_82 hf
    · have hf := if_n c9 hf
      refine kw_aload_n C dX10_letGo_24 rfl 0 rfl ?_
      obtain ⟨σ11, hc10, hf⟩ := bV_elim hf
      refine kw_callVV C [] (kX10_layTried L D g t0 σ6 _ hc10) RX10 mV_X10_453 ⟨rfl, rfl⟩ dd_X10_layTried ⟨Nat.le_of_ble_eq_true rfl, Nat.le_of_ble_eq_true rfl⟩ _ (hO10 g σ6) rfl rfl rfl (Nat.le_of_ble_eq_true rfl) dX10_letGo_25 ?_
      refine kw_aload_n C dX10_letGo_28 rfl 0 rfl ?_
      refine kw_get C inG10 _ (hO10 g σ11) rfl 46 (Nat.le_of_ble_eq_true rfl) mf_10_85 rfl rfl dX10_letGo_29 ?_
      refine kw_bipush C (6 : Int32) dX10_letGo_32 rfl ?_
      refine kw_iload_n C dX10_letGo_34 rfl 1 rfl ?_
      refine kw_iadd C dX10_letGo_35 ?_
      refine kw_dup2 C dX10_letGo_36 rfl rfl ?_
      obtain ⟨h12, hf⟩ := gd_elim hf
      refine kw_iald C _ 0 (hA10_46 g σ11) rfl h12 dX10_letGo_37 ?_
      refine kw_iload_n C dX10_letGo_38 rfl 2 rfl ?_
      refine kw_iadd C dX10_letGo_39 ?_
      obtain ⟨h13, hf⟩ := gd_elim hf
      obtain ⟨σ14, eσ14, hf⟩ := lt_elim hf
      refine kw_iast C _ 0 (hA10_46 g σ11) rfl h13 ((hS10_46 g σ11 _).trans (congrArg (wM g) eσ14.symm)) dX10_letGo_40 ?_
      refine kw_aload_n C dX10_letGo_41 rfl 0 rfl ?_
      refine kw_bipush C (120 : Int32) dX10_letGo_42 rfl ?_
      obtain ⟨r16, σ17, hc15, hf⟩ := bI_elim hf
      refine kw_callVI C [.int (120 : Int32)] (kX10_fallsBy L D g t0 (120 : Int32) σ14 _ _ hc15) RX10 mV_X10_462 ⟨rfl, rfl⟩ dd_X10_fallsBy ⟨Nat.le_of_ble_eq_true rfl, Nat.le_of_ble_eq_true rfl⟩ _ (hO10 g σ14) rfl rfl rfl (Nat.le_of_ble_eq_true rfl) dX10_letGo_44 ?_
      obtain ⟨J18, hJ18, hf⟩ := jnx1_elim hf
      have kJ18 : ∀ (u9 : Unit), J18 u9 = some (r0, σ0) → KW X σ17 62 [(0, .ref (g.1 0)), (1, .int p0), (2, .int x5)] [] := by
        clear hf
        intro u9 hf
        have hf := (hJ18 u9).symm.trans hf
        refine kw_aload_n C dX10_letGo_62 rfl 0 rfl ?_
        refine kw_get C inG10 _ (hO10 g σ17) rfl 57 (Nat.le_of_ble_eq_true rfl) mf_10_118 rfl rfl dX10_letGo_63 ?_
        refine kw_iconst C (0 : Int32) dX10_letGo_66 rfl ?_
        refine kw_zald C _ 3 (hA10_57 g σ17) rfl (by decide) dX10_letGo_67 ?_
        refine kw_if_eq C 74 dX10_letGo_68 rfl (fun c19 => ?_) (fun c19 => ?_)
        · have hf := if_p c19 hf
          obtain ⟨x20, ex20, hf⟩ := lt_elim hf
          refine kw_iinc C x20 dX10_letGo_74 2 rfl ex20.symm hN (Nat.le_of_ble_eq_true rfl) [(2, .int x20), (0, .ref (g.1 0)), (1, .int p0)] rfl ?_
          refine kw_goto C 17 dX10_letGo_77 rfl ?_
          refine kw_sub [1, 2, 0] _ rfl ?_
          exact ih8 _ _ hf
        · have hf := if_n c19 hf
          refine kw_bipush C (-2 : Int32) dX10_letGo_71 rfl ?_
          exact kw_iret C K dX10_letGo_73 hf
      refine kw_if_lt C 62 dX10_letGo_47 rfl (fun c21 => ?_) (fun c21 => ?_)
      · have hf := if_p c21 hf
        exact kJ18 _ hf
      · have hf := if_n c21 hf
        refine kw_aload_n C dX10_letGo_50 rfl 0 rfl ?_
        refine kw_get C inG10 _ (hO10 g σ17) rfl 55 (Nat.le_of_ble_eq_true rfl) mf_10_112 rfl rfl dX10_letGo_51 ?_
        refine kw_iconst C (1 : Int32) dX10_letGo_54 rfl ?_
        refine kw_iald C _ 0 (hA10_55 g σ17) rfl (by decide) dX10_letGo_55 ?_
        refine kw_iload_n C dX10_letGo_56 rfl 1 rfl ?_
        refine kw_icmp_ne C 62 dX10_letGo_57 rfl (fun c22 => ?_) (fun c22 => ?_)
        · have hf := if_n c22 hf
          exact kJ18 _ hf
        · have hf := if_p c22 hf
          refine kw_iload_n C dX10_letGo_60 rfl 2 rfl ?_
          exact kw_iret C K dX10_letGo_61 hf
  · have hf := if_p c4 hf
    refine kw_iconst C (-1 : Int32) dX10_letGo_13 rfl ?_
    exact kw_iret C K dX10_letGo_14 hf
set_option maxRecDepth 100000 in
set_option maxHeartbeats 4000000 in
theorem kX10_onNow (L : Launch) (D : va_G) (g : GwT) (t0 : Nat) (σ : St) (r0 : Int32) (hf : fX10_onNow σ  = some r0) : CtI L D (ttG g) (wM g) t0 yX10_onNow cX10_onNow 3 (some .int) { frames := 0, cells := 0, slots := 0, locals := 0 } [.ref (g.1 0)] σ r0 σ := by
  refine CtI.of (own := RX10) (by decide) rfl (Nat.le_of_ble_eq_true rfl) [(0, .ref (g.1 0))] rfl ?_
  intro X C hN K
  unfold fX10_onNow at hf
  refine kw_iconst C (0 : Int32) dX10_onNow_0 rfl ?_
  refine kw_istore_n C dX10_onNow_1 rfl hN (Nat.le_of_ble_eq_true rfl) [(1, .int (0 : Int32)), (0, .ref (g.1 0))] rfl ?_
  refine kw_iconst C (0 : Int32) dX10_onNow_2 rfl ?_
  refine kw_istore_n C dX10_onNow_3 rfl hN (Nat.le_of_ble_eq_true rfl) [(2, .int (0 : Int32)), (1, .int (0 : Int32)), (0, .ref (g.1 0))] rfl ?_
  refine kw_sub [2, 1, 0] _ rfl ?_
  refine lpx2_walk (P := fun (x1 : Int32) (x2 : Int32) => KW X σ 4 [(0, .ref (g.1 0)), (1, .int x1), (2, .int x2)] []) ?_ FU _ _ hf
  intro self3 x1 x2 ih4 hf
  refine kw_iload_n C dX10_onNow_4 rfl 2 rfl ?_
  refine kw_aload_n C dX10_onNow_5 rfl 0 rfl ?_
  refine kw_get C inG10 _ (hO10 g σ) rfl 12 (Nat.le_of_ble_eq_true rfl) mf_10_225 rfl rfl dX10_onNow_6 ?_
  refine kw_icmp_ge C 37 dX10_onNow_9 rfl (fun c5 => ?_) (fun c5 => ?_)
  · have hf := if_p c5 hf
    refine kw_iload_n C dX10_onNow_37 rfl 1 rfl ?_
    exact kw_iret C K dX10_onNow_38 (pr_ret hf)
  · have hf := if_n c5 hf
    refine kw_iload_n C dX10_onNow_12 rfl 1 rfl ?_
    refine kw_aload_n C dX10_onNow_13 rfl 0 rfl ?_
    refine kw_get C inG10 _ (hO10 g σ) rfl 49 (Nat.le_of_ble_eq_true rfl) mf_10_94 rfl rfl dX10_onNow_14 ?_
    refine kw_iload_n C dX10_onNow_17 rfl 2 rfl ?_
    obtain ⟨h6, hf⟩ := gd_elim hf
    refine kw_zald C _ 3 (hA10_49 g σ) rfl h6 dX10_onNow_18 ?_
    obtain ⟨J8, hJ8, hf⟩ := jnx1_elim hf
    have kJ8 : ∀ (x7 : Int32), J8 x7 = some r0 → KW X σ 29 [(0, .ref (g.1 0)), (2, .int x2)] [.int x7, .int x1] := by
      clear hf
      intro x7 hf
      have hf := (hJ8 x7).symm.trans hf
      refine kw_ior C dX10_onNow_29 ?_
      obtain ⟨x9, ex9, hf⟩ := lt_elim hf
      refine kw_topi ex9 ?_
      refine kw_istore_n C dX10_onNow_30 rfl hN (Nat.le_of_ble_eq_true rfl) [(1, .int x9), (0, .ref (g.1 0)), (2, .int x2)] rfl ?_
      obtain ⟨x10, ex10, hf⟩ := lt_elim hf
      refine kw_iinc C x10 dX10_onNow_31 2 rfl ex10.symm hN (Nat.le_of_ble_eq_true rfl) [(2, .int x10), (1, .int x9), (0, .ref (g.1 0))] rfl ?_
      refine kw_goto C 4 dX10_onNow_34 rfl ?_
      refine kw_sub [2, 1, 0] _ rfl ?_
      exact ih4 _ _ hf
    refine kw_if_eq C 28 dX10_onNow_19 rfl (fun c11 => ?_) (fun c11 => ?_)
    · have hf := if_p c11 hf
      refine kw_iconst C (0 : Int32) dX10_onNow_28 rfl ?_
      refine kw_sub [0, 2] _ rfl ?_
      exact kJ8 _ hf
    · have hf := if_n c11 hf
      refine kw_iconst C (1 : Int32) dX10_onNow_22 rfl ?_
      refine kw_iload_n C dX10_onNow_23 rfl 2 rfl ?_
      refine kw_ishl C dX10_onNow_24 ?_
      refine kw_goto C 29 dX10_onNow_25 rfl ?_
      refine kw_sub [0, 2] _ rfl ?_
      exact kJ8 _ hf
set_option maxRecDepth 100000 in
set_option maxHeartbeats 4000000 in
theorem kX10_boundsOf (L : Launch) (D : va_G) (g : GwT) (t0 : Nat) (p0 : Int32) (σ : St) (r0 : Int32) (hf : fX10_boundsOf σ p0 = some r0) : CtI L D (ttG g) (wM g) t0 yX10_boundsOf cX10_boundsOf 4 (some .int) { frames := 1, cells := 0, slots := 0, locals := 21 } [.ref (g.1 0), .int p0] σ r0 σ := by
  refine CtI.of (own := RX10) (by decide) rfl (Nat.le_of_ble_eq_true rfl) [(0, .ref (g.1 0)), (1, .int p0)] rfl ?_
  intro X C hN K
  unfold fX10_boundsOf at hf
  refine kw_iconst C (0 : Int32) dX10_boundsOf_0 rfl ?_
  refine kw_istore_n C dX10_boundsOf_1 rfl hN (Nat.le_of_ble_eq_true rfl) [(2, .int (0 : Int32)), (0, .ref (g.1 0)), (1, .int p0)] rfl ?_
  refine kw_iconst C (0 : Int32) dX10_boundsOf_2 rfl ?_
  refine kw_istore_n C dX10_boundsOf_3 rfl hN (Nat.le_of_ble_eq_true rfl) [(3, .int (0 : Int32)), (2, .int (0 : Int32)), (0, .ref (g.1 0)), (1, .int p0)] rfl ?_
  refine kw_sub [2, 3, 1, 0] _ rfl ?_
  refine lpx2_walk (P := fun (x1 : Int32) (x2 : Int32) => KW X σ 4 [(0, .ref (g.1 0)), (1, .int p0), (2, .int x1), (3, .int x2)] []) ?_ FU _ _ hf
  intro self3 x1 x2 ih4 hf
  refine kw_iload_n C dX10_boundsOf_4 rfl 3 rfl ?_
  refine kw_aload_n C dX10_boundsOf_5 rfl 0 rfl ?_
  refine kw_get C inG10 _ (hO10 g σ) rfl 12 (Nat.le_of_ble_eq_true rfl) mf_10_225 rfl rfl dX10_boundsOf_6 ?_
  refine kw_icmp_ge C 39 dX10_boundsOf_9 rfl (fun c5 => ?_) (fun c5 => ?_)
  · have hf := if_p c5 hf
    refine kw_iload_n C dX10_boundsOf_39 rfl 2 rfl ?_
    exact kw_iret C K dX10_boundsOf_40 (pr_ret hf)
  · have hf := if_n c5 hf
    refine kw_iload_n C dX10_boundsOf_12 rfl 2 rfl ?_
    refine kw_iload_n C dX10_boundsOf_13 rfl 1 rfl ?_
    refine kw_iload_n C dX10_boundsOf_14 rfl 3 rfl ?_
    obtain ⟨r7, hc6, hf⟩ := bd_elim hf
    refine kw_callSI C [.int p0, .int x2] (kX10_isOf L D g t0 p0 x2 σ _ hc6) mS_X10_406 ⟨rfl, rfl⟩ dd_X10_isOf ⟨Nat.le_of_ble_eq_true rfl, Nat.le_of_ble_eq_true rfl⟩ rfl (Nat.le_of_ble_eq_true rfl) dX10_boundsOf_15 ?_
    obtain ⟨J9, hJ9, hf⟩ := jnx1_elim hf
    have kJ9 : ∀ (x8 : Int32), J9 x8 = some r0 → KW X σ 31 [(0, .ref (g.1 0)), (1, .int p0), (3, .int x2)] [.int x8, .int x1] := by
      clear hf
      intro x8 hf
      have hf := (hJ9 x8).symm.trans hf
      refine kw_iadd C dX10_boundsOf_31 ?_
      obtain ⟨x10, ex10, hf⟩ := lt_elim hf
      refine kw_topi ex10 ?_
      refine kw_istore_n C dX10_boundsOf_32 rfl hN (Nat.le_of_ble_eq_true rfl) [(2, .int x10), (0, .ref (g.1 0)), (1, .int p0), (3, .int x2)] rfl ?_
      obtain ⟨x11, ex11, hf⟩ := lt_elim hf
      refine kw_iinc C x11 dX10_boundsOf_33 3 rfl ex11.symm hN (Nat.le_of_ble_eq_true rfl) [(3, .int x11), (2, .int x10), (0, .ref (g.1 0)), (1, .int p0)] rfl ?_
      refine kw_goto C 4 dX10_boundsOf_36 rfl ?_
      refine kw_sub [2, 3, 1, 0] _ rfl ?_
      exact ih4 _ _ hf
    refine kw_if_eq C 30 dX10_boundsOf_18 rfl (fun c12 => ?_) (fun c12 => ?_)
    · have hf := if_p c12 hf
      refine kw_iconst C (0 : Int32) dX10_boundsOf_30 rfl ?_
      refine kw_sub [0, 1, 3] _ rfl ?_
      exact kJ9 _ hf
    · have hf := if_n c12 hf
      refine kw_aload_n C dX10_boundsOf_21 rfl 0 rfl ?_
      refine kw_get C inG10 _ (hO10 g σ) rfl 46 (Nat.le_of_ble_eq_true rfl) mf_10_85 rfl rfl dX10_boundsOf_22 ?_
      refine kw_iload_n C dX10_boundsOf_25 rfl 3 rfl ?_
      obtain ⟨h13, hf⟩ := gd_elim hf
      refine kw_iald C _ 0 (hA10_46 g σ) rfl h13 dX10_boundsOf_26 ?_
      refine kw_goto C 31 dX10_boundsOf_27 rfl ?_
      refine kw_sub [0, 1, 3] _ rfl ?_
      exact kJ9 _ hf
set_option maxRecDepth 100000 in
set_option maxHeartbeats 4000000 in
theorem kX10_leastStep (L : Launch) (D : va_G) (g : GwT) (t0 : Nat) (p0 : Int32) (σ : St) (r0 : Int32) (hf : fX10_leastStep σ p0 = some r0) : CtI L D (ttG g) (wM g) t0 yX10_leastStep cX10_leastStep 4 (some .int) { frames := 1, cells := 0, slots := 0, locals := 21 } [.ref (g.1 0), .int p0] σ r0 σ := by
  refine CtI.of (own := RX10) (by decide) rfl (Nat.le_of_ble_eq_true rfl) [(0, .ref (g.1 0)), (1, .int p0)] rfl ?_
  intro X C hN K
  unfold fX10_leastStep at hf
  refine kw_bipush C (99 : Int32) dX10_leastStep_0 rfl ?_
  refine kw_istore_n C dX10_leastStep_2 rfl hN (Nat.le_of_ble_eq_true rfl) [(2, .int (99 : Int32)), (0, .ref (g.1 0)), (1, .int p0)] rfl ?_
  refine kw_iconst C (0 : Int32) dX10_leastStep_3 rfl ?_
  refine kw_istore_n C dX10_leastStep_4 rfl hN (Nat.le_of_ble_eq_true rfl) [(3, .int (0 : Int32)), (2, .int (99 : Int32)), (0, .ref (g.1 0)), (1, .int p0)] rfl ?_
  refine kw_sub [2, 3, 1, 0] _ rfl ?_
  refine lpx2_walk (P := fun (x1 : Int32) (x2 : Int32) => KW X σ 5 [(0, .ref (g.1 0)), (1, .int p0), (2, .int x1), (3, .int x2)] []) ?_ FU _ _ hf
  intro self3 x1 x2 ih4 hf
  refine kw_iload_n C dX10_leastStep_5 rfl 3 rfl ?_
  refine kw_aload_n C dX10_leastStep_6 rfl 0 rfl ?_
  refine kw_get C inG10 _ (hO10 g σ) rfl 12 (Nat.le_of_ble_eq_true rfl) mf_10_225 rfl rfl dX10_leastStep_7 ?_
  refine kw_icmp_ge C 48 dX10_leastStep_10 rfl (fun c5 => ?_) (fun c5 => ?_)
  · have hf := if_p c5 hf
    refine kw_iload_n C dX10_leastStep_48 rfl 2 rfl ?_
    exact kw_iret C K dX10_leastStep_49 (pr_ret hf)
  · have hf := if_n c5 hf
    refine kw_iload_n C dX10_leastStep_13 rfl 1 rfl ?_
    refine kw_iload_n C dX10_leastStep_14 rfl 3 rfl ?_
    obtain ⟨r7, hc6, hf⟩ := bd_elim hf
    refine kw_callSI C [.int p0, .int x2] (kX10_isOf L D g t0 p0 x2 σ _ hc6) mS_X10_406 ⟨rfl, rfl⟩ dd_X10_isOf ⟨Nat.le_of_ble_eq_true rfl, Nat.le_of_ble_eq_true rfl⟩ rfl (Nat.le_of_ble_eq_true rfl) dX10_leastStep_15 ?_
    obtain ⟨J9, hJ9, hf⟩ := jnx1_elim hf
    have kJ9 : ∀ (x8 : Int32), J9 x8 = some r0 → KW X σ 41 [(0, .ref (g.1 0)), (1, .int p0), (3, .int x2)] [.int x8] := by
      clear hf
      intro x8 hf
      have hf := (hJ9 x8).symm.trans hf
      refine kw_istore_n C dX10_leastStep_41 rfl hN (Nat.le_of_ble_eq_true rfl) [(2, .int x8), (0, .ref (g.1 0)), (1, .int p0), (3, .int x2)] rfl ?_
      obtain ⟨x10, ex10, hf⟩ := lt_elim hf
      refine kw_iinc C x10 dX10_leastStep_42 3 rfl ex10.symm hN (Nat.le_of_ble_eq_true rfl) [(3, .int x10), (2, .int x8), (0, .ref (g.1 0)), (1, .int p0)] rfl ?_
      refine kw_goto C 5 dX10_leastStep_45 rfl ?_
      refine kw_sub [2, 3, 1, 0] _ rfl ?_
      exact ih4 _ _ hf
    obtain ⟨J11, hJ11, hf⟩ := jnx1_elim hf
    have kJ11 : ∀ (u9 : Unit), J11 u9 = some r0 → KW X σ 40 [(0, .ref (g.1 0)), (1, .int p0), (2, .int x1), (3, .int x2)] [] := by
      clear hf
      intro u9 hf
      have hf := (hJ11 u9).symm.trans hf
      refine kw_iload_n C dX10_leastStep_40 rfl 2 rfl ?_
      refine kw_sub [0, 1, 3] _ rfl ?_
      exact kJ9 _ hf
    refine kw_if_eq C 40 dX10_leastStep_18 rfl (fun c12 => ?_) (fun c12 => ?_)
    · have hf := if_p c12 hf
      exact kJ11 _ hf
    · have hf := if_n c12 hf
      refine kw_aload_n C dX10_leastStep_21 rfl 0 rfl ?_
      refine kw_get C inG10 _ (hO10 g σ) rfl 23 (Nat.le_of_ble_eq_true rfl) mf_10_36 rfl rfl dX10_leastStep_22 ?_
      refine kw_iload_n C dX10_leastStep_25 rfl 3 rfl ?_
      obtain ⟨h13, hf⟩ := gd_elim hf
      refine kw_iald C _ 0 (hA10_23 g σ) rfl h13 dX10_leastStep_26 ?_
      refine kw_iload_n C dX10_leastStep_27 rfl 2 rfl ?_
      refine kw_icmp_ge C 40 dX10_leastStep_28 rfl (fun c14 => ?_) (fun c14 => ?_)
      · have hf := if_p c14 hf
        exact kJ11 _ hf
      · have hf := if_n c14 hf
        refine kw_aload_n C dX10_leastStep_31 rfl 0 rfl ?_
        refine kw_get C inG10 _ (hO10 g σ) rfl 23 (Nat.le_of_ble_eq_true rfl) mf_10_36 rfl rfl dX10_leastStep_32 ?_
        refine kw_iload_n C dX10_leastStep_35 rfl 3 rfl ?_
        obtain ⟨h15, hf⟩ := gd_elim hf
        refine kw_iald C _ 0 (hA10_23 g σ) rfl h15 dX10_leastStep_36 ?_
        refine kw_goto C 41 dX10_leastStep_37 rfl ?_
        refine kw_sub [0, 1, 3] _ rfl ?_
        exact kJ9 _ hf
set_option maxRecDepth 100000 in
set_option maxHeartbeats 4000000 in
theorem kX10_manyOf (L : Launch) (D : va_G) (g : GwT) (t0 : Nat) (p0 : Int32) (σ : St) (r0 : Int32) (hf : fX10_manyOf σ p0 = some r0) : CtI L D (ttG g) (wM g) t0 yX10_manyOf cX10_manyOf 3 (some .int) { frames := 0, cells := 0, slots := 0, locals := 0 } [.int p0] σ r0 σ := by
  refine CtI.of (own := RX10) (by decide) rfl (Nat.le_of_ble_eq_true rfl) [(0, .int p0)] rfl ?_
  intro X C hN K
  unfold fX10_manyOf at hf
  refine kw_iconst C (0 : Int32) dX10_manyOf_0 rfl ?_
  refine kw_istore_n C dX10_manyOf_1 rfl hN (Nat.le_of_ble_eq_true rfl) [(1, .int (0 : Int32)), (0, .int p0)] rfl ?_
  refine kw_iconst C (0 : Int32) dX10_manyOf_2 rfl ?_
  refine kw_istore_n C dX10_manyOf_3 rfl hN (Nat.le_of_ble_eq_true rfl) [(2, .int (0 : Int32)), (1, .int (0 : Int32)), (0, .int p0)] rfl ?_
  refine kw_sub [2, 1, 0] _ rfl ?_
  refine lpx2_walk (P := fun (x1 : Int32) (x2 : Int32) => KW X σ 4 [(0, .int p0), (1, .int x1), (2, .int x2)] []) ?_ FU _ _ hf
  intro self3 x1 x2 ih4 hf
  refine kw_iload_n C dX10_manyOf_4 rfl 2 rfl ?_
  refine kw_bipush C (6 : Int32) dX10_manyOf_5 rfl ?_
  refine kw_icmp_ge C 24 dX10_manyOf_7 rfl (fun c5 => ?_) (fun c5 => ?_)
  · have hf := if_p c5 hf
    refine kw_iload_n C dX10_manyOf_24 rfl 1 rfl ?_
    exact kw_iret C K dX10_manyOf_25 (pr_ret hf)
  · have hf := if_n c5 hf
    refine kw_iload_n C dX10_manyOf_10 rfl 1 rfl ?_
    refine kw_iload_n C dX10_manyOf_11 rfl 0 rfl ?_
    refine kw_iload_n C dX10_manyOf_12 rfl 2 rfl ?_
    refine kw_ishr C dX10_manyOf_13 ?_
    refine kw_iconst C (1 : Int32) dX10_manyOf_14 rfl ?_
    refine kw_iand C dX10_manyOf_15 ?_
    refine kw_iadd C dX10_manyOf_16 ?_
    obtain ⟨x6, ex6, hf⟩ := lt_elim hf
    refine kw_topi ex6 ?_
    refine kw_istore_n C dX10_manyOf_17 rfl hN (Nat.le_of_ble_eq_true rfl) [(1, .int x6), (0, .int p0), (2, .int x2)] rfl ?_
    obtain ⟨x7, ex7, hf⟩ := lt_elim hf
    refine kw_iinc C x7 dX10_manyOf_18 2 rfl ex7.symm hN (Nat.le_of_ble_eq_true rfl) [(2, .int x7), (1, .int x6), (0, .int p0)] rfl ?_
    refine kw_goto C 4 dX10_manyOf_21 rfl ?_
    refine kw_sub [2, 1, 0] _ rfl ?_
    exact ih4 _ _ hf
set_option maxRecDepth 100000 in
set_option maxHeartbeats 4000000 in
theorem kX10_outbid (L : Launch) (D : va_G) (g : GwT) (t0 : Nat) (σ : St) (r0 : Int32) (σ0 : St) (hf : fX10_outbid σ  = some (r0, σ0)) : CtI L D (ttG g) (wM g) t0 yX10_outbid cX10_outbid 7 (some .int) { frames := 2, cells := 0, slots := 0, locals := 44 } [.ref (g.1 0)] σ r0 σ0 := by
  refine CtI.of (own := RX10) (by decide) rfl (Nat.le_of_ble_eq_true rfl) [(0, .ref (g.1 0))] rfl ?_
  intro X C hN K
  unfold fX10_outbid at hf
  refine kw_aload_n C dX10_outbid_0 rfl 0 rfl ?_
  refine kw_iconst C (0 : Int32) dX10_outbid_1 rfl ?_
  obtain ⟨σ1, eσ1, hf⟩ := lt_elim hf
  refine kw_put C inG10 tyX10 tyX10_ok nmX10 _ (hO10 g σ) rfl 2 (Nat.le_of_ble_eq_true rfl) mf_10_151 rfl rfl (tyX10_ok 2 (Nat.le_of_ble_eq_true rfl)) rfl rfl (Nat.le_of_ble_eq_true rfl) ((hF10_2 g σ _).trans (congrArg (wM g) eσ1.symm)) dX10_outbid_2 ?_
  refine kw_aload_n C dX10_outbid_5 rfl 0 rfl ?_
  obtain ⟨r3, hc2, hf⟩ := bd_elim hf
  refine kw_callVI C [] (kX10_onNow L D g t0 σ1 _ hc2) RX10 mV_X10_465 ⟨rfl, rfl⟩ dd_X10_onNow ⟨Nat.le_of_ble_eq_true rfl, Nat.le_of_ble_eq_true rfl⟩ _ (hO10 g σ1) rfl rfl rfl (Nat.le_of_ble_eq_true rfl) dX10_outbid_6 ?_
  refine kw_istore_n C dX10_outbid_9 rfl hN (Nat.le_of_ble_eq_true rfl) [(1, .int r3), (0, .ref (g.1 0))] rfl ?_
  refine kw_bipush C (-2 : Int32) dX10_outbid_10 rfl ?_
  refine kw_istore_n C dX10_outbid_12 rfl hN (Nat.le_of_ble_eq_true rfl) [(2, .int (-2 : Int32)), (1, .int r3), (0, .ref (g.1 0))] rfl ?_
  refine kw_iconst C (1 : Int32) dX10_outbid_13 rfl ?_
  refine kw_istore_n C dX10_outbid_14 rfl hN (Nat.le_of_ble_eq_true rfl) [(3, .int (1 : Int32)), (2, .int (-2 : Int32)), (1, .int r3), (0, .ref (g.1 0))] rfl ?_
  refine kw_sub [3, 2, 1, 0] _ rfl ?_
  refine lpx2_walk (P := fun (x4 : Int32) (x5 : Int32) => KW X σ1 15 [(0, .ref (g.1 0)), (1, .int r3), (2, .int x4), (3, .int x5)] []) ?_ FU _ _ hf
  intro self6 x4 x5 ih7 hf
  refine kw_iload_n C dX10_outbid_15 rfl 3 rfl ?_
  refine kw_iconst C (1 : Int32) dX10_outbid_16 rfl ?_
  refine kw_aload_n C dX10_outbid_17 rfl 0 rfl ?_
  refine kw_get C inG10 _ (hO10 g σ1) rfl 12 (Nat.le_of_ble_eq_true rfl) mf_10_225 rfl rfl dX10_outbid_18 ?_
  refine kw_ishl C dX10_outbid_21 ?_
  refine kw_icmp_ge C 150 dX10_outbid_22 rfl (fun c8 => ?_) (fun c8 => ?_)
  · have hf := if_p c8 hf
    refine kw_iload_n C dX10_outbid_150 rfl 2 rfl ?_
    exact kw_iret C K dX10_outbid_151 hf
  · have hf := if_n c8 hf
    refine kw_iload_n C dX10_outbid_25 rfl 3 rfl ?_
    refine kw_iload_n C dX10_outbid_26 rfl 1 rfl ?_
    refine kw_iconst C (-1 : Int32) dX10_outbid_27 rfl ?_
    refine kw_ixor C dX10_outbid_28 ?_
    refine kw_iand C dX10_outbid_29 ?_
    obtain ⟨J10, hJ10, hf⟩ := jnx1_elim hf
    have kJ10 : ∀ (x9 : Int32), J10 x9 = some (r0, σ0) → KW X σ1 144 [(0, .ref (g.1 0)), (1, .int r3), (2, .int x9), (3, .int x5)] [] := by
      clear hf
      intro x9 hf
      have hf := (hJ10 x9).symm.trans hf
      obtain ⟨x11, ex11, hf⟩ := lt_elim hf
      refine kw_iinc C x11 dX10_outbid_144 3 rfl ex11.symm hN (Nat.le_of_ble_eq_true rfl) [(3, .int x11), (0, .ref (g.1 0)), (1, .int r3), (2, .int x9)] rfl ?_
      refine kw_goto C 15 dX10_outbid_147 rfl ?_
      refine kw_sub [1, 2, 3, 0] _ rfl ?_
      exact ih7 _ _ hf
    refine kw_if_ne C 144 dX10_outbid_30 rfl (fun c12 => ?_) (fun c12 => ?_)
    · have hf := if_n c12 hf
      exact kJ10 _ hf
    · have hf := if_p c12 hf
      refine kw_iload_n C dX10_outbid_33 rfl 2 rfl ?_
      obtain ⟨J13, hJ13, hf⟩ := jnx1_elim hf
      have kJ13 : ∀ (u9 : Unit), J13 u9 = some (r0, σ0) → KW X σ1 51 [(0, .ref (g.1 0)), (1, .int r3), (2, .int x4), (3, .int x5)] [] := by
        clear hf
        intro u9 hf
        have hf := (hJ13 u9).symm.trans hf
        refine kw_aload_n C dX10_outbid_51 rfl 0 rfl ?_
        refine kw_iload_n C dX10_outbid_52 rfl 3 rfl ?_
        obtain ⟨r15, hc14, hf⟩ := bd_elim hf
        refine kw_callVI C [.int x5] (kX10_boundsOf L D g t0 x5 σ1 _ hc14) RX10 mV_X10_471 ⟨rfl, rfl⟩ dd_X10_boundsOf ⟨Nat.le_of_ble_eq_true rfl, Nat.le_of_ble_eq_true rfl⟩ _ (hO10 g σ1) rfl rfl rfl (Nat.le_of_ble_eq_true rfl) dX10_outbid_53 ?_
        refine kw_istore C dX10_outbid_56 hN (Nat.le_of_ble_eq_true rfl) [(4, .int r15), (0, .ref (g.1 0)), (1, .int r3), (2, .int x4), (3, .int x5)] rfl ?_
        refine kw_iload C dX10_outbid_58 0 rfl ?_
        refine kw_aload_n C dX10_outbid_60 rfl 1 rfl ?_
        refine kw_get C inG10 _ (hO10 g σ1) rfl 54 (Nat.le_of_ble_eq_true rfl) mf_10_109 rfl rfl dX10_outbid_61 ?_
        refine kw_iconst C (0 : Int32) dX10_outbid_64 rfl ?_
        refine kw_iald C _ 0 (hA10_54 g σ1) rfl (by decide) dX10_outbid_65 ?_
        refine kw_aload_n C dX10_outbid_66 rfl 1 rfl ?_
        refine kw_iload_n C dX10_outbid_67 rfl 4 rfl ?_
        obtain ⟨r17, hc16, hf⟩ := bd_elim hf
        refine kw_callVI C [.int x5] (kX10_leastStep L D g t0 x5 σ1 _ hc16) RX10 mV_X10_474 ⟨rfl, rfl⟩ dd_X10_leastStep ⟨Nat.le_of_ble_eq_true rfl, Nat.le_of_ble_eq_true rfl⟩ _ (hO10 g σ1) rfl rfl rfl (Nat.le_of_ble_eq_true rfl) dX10_outbid_68 ?_
        refine kw_iadd C dX10_outbid_71 ?_
        obtain ⟨J19, hJ19, hf⟩ := jnx1_elim hf
        have kJ19 : ∀ (x18 : Int32), J19 x18 = some (r0, σ0) → KW X σ1 80 [(0, .ref (g.1 0)), (1, .int r3), (2, .int x4), (3, .int x5), (4, .int r15)] [.int x18] := by
          clear hf
          intro x18 hf
          have hf := (hJ19 x18).symm.trans hf
          refine kw_istore C dX10_outbid_80 hN (Nat.le_of_ble_eq_true rfl) [(5, .int x18), (0, .ref (g.1 0)), (1, .int r3), (2, .int x4), (3, .int x5), (4, .int r15)] rfl ?_
          refine kw_iconst C (0 : Int32) dX10_outbid_82 rfl ?_
          refine kw_istore C dX10_outbid_83 hN (Nat.le_of_ble_eq_true rfl) [(6, .int (0 : Int32)), (5, .int x18), (0, .ref (g.1 0)), (1, .int r3), (2, .int x4), (3, .int x5), (4, .int r15)] rfl ?_
          refine kw_sub [2, 3, 4, 5, 6, 1, 0] _ rfl ?_
          refine lpx2_walk (P := fun (x20 : Int32) (x21 : Int32) => KW X σ1 85 [(0, .ref (g.1 0)), (1, .int r3), (2, .int x4), (3, .int x5), (4, .int r15), (5, .int x20), (6, .int x21)] []) ?_ FU _ _ hf
          intro self22 x20 x21 ih23 hf
          refine kw_iload C dX10_outbid_85 6 rfl ?_
          refine kw_aload_n C dX10_outbid_87 rfl 0 rfl ?_
          refine kw_get C inG10 _ (hO10 g σ1) rfl 12 (Nat.le_of_ble_eq_true rfl) mf_10_225 rfl rfl dX10_outbid_88 ?_
          refine kw_icmp_ge C 137 dX10_outbid_91 rfl (fun c24 => ?_) (fun c24 => ?_)
          · have hf := if_p c24 hf
            refine kw_iload C dX10_outbid_137 5 rfl ?_
            refine kw_if_eq C 144 dX10_outbid_139 rfl (fun c25 => ?_) (fun c25 => ?_)
            · have hf := if_p c25 hf
              refine kw_sub [0, 1, 2, 3] _ rfl ?_
              exact kJ10 _ hf
            · have hf := if_n c25 hf
              refine kw_iload_n C dX10_outbid_142 rfl 3 rfl ?_
              refine kw_istore_n C dX10_outbid_143 rfl hN (Nat.le_of_ble_eq_true rfl) [(2, .int x5), (0, .ref (g.1 0)), (1, .int r3), (3, .int x5), (4, .int r15), (5, .int x20), (6, .int x21)] rfl ?_
              refine kw_sub [1, 2, 0, 3] _ rfl ?_
              exact kJ10 _ hf
          · have hf := if_n c24 hf
            refine kw_iload C dX10_outbid_94 5 rfl ?_
            obtain ⟨J27, hJ27, hf⟩ := jnx1_elim hf
            have kJ27 : ∀ (x26 : Int32), J27 x26 = some (r0, σ0) → KW X σ1 129 [(0, .ref (g.1 0)), (1, .int r3), (2, .int x4), (3, .int x5), (4, .int r15), (6, .int x21)] [.int x26] := by
              clear hf
              intro x26 hf
              have hf := (hJ27 x26).symm.trans hf
              refine kw_istore C dX10_outbid_129 hN (Nat.le_of_ble_eq_true rfl) [(5, .int x26), (0, .ref (g.1 0)), (1, .int r3), (2, .int x4), (3, .int x5), (4, .int r15), (6, .int x21)] rfl ?_
              obtain ⟨x28, ex28, hf⟩ := lt_elim hf
              refine kw_iinc C x28 dX10_outbid_131 6 rfl ex28.symm hN (Nat.le_of_ble_eq_true rfl) [(6, .int x28), (5, .int x26), (0, .ref (g.1 0)), (1, .int r3), (2, .int x4), (3, .int x5), (4, .int r15)] rfl ?_
              refine kw_goto C 85 dX10_outbid_134 rfl ?_
              refine kw_sub [2, 3, 4, 5, 6, 1, 0] _ rfl ?_
              exact ih23 _ _ hf
            obtain ⟨J29, hJ29, hf⟩ := jnx1_elim hf
            have kJ29 : ∀ (u9 : Unit), J29 u9 = some (r0, σ0) → KW X σ1 128 [(0, .ref (g.1 0)), (1, .int r3), (2, .int x4), (3, .int x5), (4, .int r15), (6, .int x21)] [] := by
              clear hf
              intro u9 hf
              have hf := (hJ29 u9).symm.trans hf
              refine kw_iconst C (0 : Int32) dX10_outbid_128 rfl ?_
              exact kJ27 _ hf
            refine kw_if_eq C 128 dX10_outbid_96 rfl (fun c30 => ?_) (fun c30 => ?_)
            · have hf := if_p c30 hf
              refine kw_sub [0, 1, 2, 3, 4, 6] _ rfl ?_
              exact kJ29 _ hf
            · have hf := if_n c30 hf
              refine kw_iload_n C dX10_outbid_99 rfl 1 rfl ?_
              refine kw_iload_n C dX10_outbid_100 rfl 3 rfl ?_
              refine kw_iconst C (-1 : Int32) dX10_outbid_101 rfl ?_
              refine kw_ixor C dX10_outbid_102 ?_
              refine kw_iand C dX10_outbid_103 ?_
              refine kw_iload C dX10_outbid_104 6 rfl ?_
              obtain ⟨r32, hc31, hf⟩ := bd_elim hf
              refine kw_callSI C [.int (r3 &&& (x5 ^^^ (-1 : Int32))), .int x21] (kX10_isOf L D g t0 (r3 &&& (x5 ^^^ (-1 : Int32))) x21 σ1 _ hc31) mS_X10_406 ⟨rfl, rfl⟩ dd_X10_isOf ⟨Nat.le_of_ble_eq_true rfl, Nat.le_of_ble_eq_true rfl⟩ rfl (Nat.le_of_ble_eq_true rfl) dX10_outbid_106 ?_
              obtain ⟨J33, hJ33, hf⟩ := jnx1_elim hf
              have kJ33 : ∀ (u9 : Unit), J33 u9 = some (r0, σ0) → KW X σ1 124 [(0, .ref (g.1 0)), (1, .int r3), (2, .int x4), (3, .int x5), (4, .int r15), (6, .int x21)] [] := by
                clear hf
                intro u9 hf
                have hf := (hJ33 u9).symm.trans hf
                refine kw_iconst C (1 : Int32) dX10_outbid_124 rfl ?_
                refine kw_goto C 129 dX10_outbid_125 rfl ?_
                exact kJ27 _ hf
              refine kw_if_eq C 124 dX10_outbid_109 rfl (fun c34 => ?_) (fun c34 => ?_)
              · have hf := if_p c34 hf
                refine kw_sub [0, 1, 2, 3, 4, 6] _ rfl ?_
                exact kJ33 _ hf
              · have hf := if_n c34 hf
                refine kw_aload_n C dX10_outbid_112 rfl 0 rfl ?_
                refine kw_get C inG10 _ (hO10 g σ1) rfl 46 (Nat.le_of_ble_eq_true rfl) mf_10_85 rfl rfl dX10_outbid_113 ?_
                refine kw_iload C dX10_outbid_116 6 rfl ?_
                obtain ⟨h35, hf⟩ := gd_elim hf
                refine kw_iald C _ 0 (hA10_46 g σ1) rfl h35 dX10_outbid_118 ?_
                refine kw_iload C dX10_outbid_119 4 rfl ?_
                refine kw_icmp_ge C 128 dX10_outbid_121 rfl (fun c36 => ?_) (fun c36 => ?_)
                · have hf := if_p c36 hf
                  refine kw_sub [0, 1, 2, 3, 4, 6] _ rfl ?_
                  exact kJ29 _ hf
                · have hf := if_n c36 hf
                  refine kw_sub [0, 1, 2, 3, 4, 6] _ rfl ?_
                  exact kJ33 _ hf
        refine kw_icmp_lt C 79 dX10_outbid_72 rfl (fun c37 => ?_) (fun c37 => ?_)
        · have hf := if_p c37 hf
          refine kw_iconst C (0 : Int32) dX10_outbid_79 rfl ?_
          refine kw_sub [1, 2, 3, 4, 0] _ rfl ?_
          exact kJ19 _ hf
        · have hf := if_n c37 hf
          refine kw_iconst C (1 : Int32) dX10_outbid_75 rfl ?_
          refine kw_goto C 80 dX10_outbid_76 rfl ?_
          refine kw_sub [1, 2, 3, 4, 0] _ rfl ?_
          exact kJ19 _ hf
      refine kw_if_lt C 51 dX10_outbid_34 rfl (fun c38 => ?_) (fun c38 => ?_)
      · have hf := if_p c38 hf
        exact kJ13 _ hf
      · have hf := if_n c38 hf
        refine kw_iload_n C dX10_outbid_37 rfl 3 rfl ?_
        obtain ⟨r40, hc39, hf⟩ := bd_elim hf
        refine kw_callSI C [.int x5] (kX10_manyOf L D g t0 x5 σ1 _ hc39) mS_X10_468 ⟨rfl, rfl⟩ dd_X10_manyOf ⟨Nat.le_of_ble_eq_true rfl, Nat.le_of_ble_eq_true rfl⟩ rfl (Nat.le_of_ble_eq_true rfl) dX10_outbid_38 ?_
        refine kw_iload_n C dX10_outbid_41 rfl 2 rfl ?_
        obtain ⟨r42, hc41, hf⟩ := bd_elim hf
        refine kw_callSI C [.int x4] (kX10_manyOf L D g t0 x4 σ1 _ hc41) mS_X10_468 ⟨rfl, rfl⟩ dd_X10_manyOf ⟨Nat.le_of_ble_eq_true rfl, Nat.le_of_ble_eq_true rfl⟩ rfl (Nat.le_of_ble_eq_true rfl) dX10_outbid_42 ?_
        refine kw_icmp_lt C 51 dX10_outbid_45 rfl (fun c43 => ?_) (fun c43 => ?_)
        · have hf := if_p c43 hf
          exact kJ13 _ hf
        · have hf := if_n c43 hf
          refine kw_goto C 144 dX10_outbid_48 rfl ?_
          exact kJ10 _ hf
set_option maxRecDepth 100000 in
set_option maxHeartbeats 4000000 in
theorem kX10_against (L : Launch) (D : va_G) (g : GwT) (t0 : Nat) (p0 : Int32) (p1 : Int32) (p2 : Int32) (σ : St) (r0 : Int32) (σ0 : St) (hf : fX10_against σ p0 p1 p2 = some (r0, σ0)) : CtI L D (ttG g) (wM g) t0 yX10_against cX10_against 8 (some .int) { frames := 3, cells := 0, slots := 0, locals := 64 } [.ref (g.1 0), .int p0, .int p1, .int p2] σ r0 σ0 := by
  refine CtI.of (own := RX10) (by decide) rfl (Nat.le_of_ble_eq_true rfl) [(0, .ref (g.1 0)), (1, .int p0), (2, .int p1), (3, .int p2)] rfl ?_
  intro X C hN K
  unfold fX10_against at hf
  refine kw_aload_n C dX10_against_0 rfl 0 rfl ?_
  refine kw_iconst C (0 : Int32) dX10_against_1 rfl ?_
  obtain ⟨σ1, eσ1, hf⟩ := lt_elim hf
  refine kw_put C inG10 tyX10 tyX10_ok nmX10 _ (hO10 g σ) rfl 2 (Nat.le_of_ble_eq_true rfl) mf_10_151 rfl rfl (tyX10_ok 2 (Nat.le_of_ble_eq_true rfl)) rfl rfl (Nat.le_of_ble_eq_true rfl) ((hF10_2 g σ _).trans (congrArg (wM g) eσ1.symm)) dX10_against_2 ?_
  refine kw_aload_n C dX10_against_5 rfl 0 rfl ?_
  refine kw_iload_n C dX10_against_6 rfl 1 rfl ?_
  refine kw_iload_n C dX10_against_7 rfl 2 rfl ?_
  obtain ⟨r3, hc2, hf⟩ := bd_elim hf
  refine kw_callVI C [.int p0, .int p1] (kX10_areTwo L D g t0 p0 p1 σ1 _ hc2) RX10 mV_X10_447 ⟨rfl, rfl⟩ dd_X10_areTwo ⟨Nat.le_of_ble_eq_true rfl, Nat.le_of_ble_eq_true rfl⟩ _ (hO10 g σ1) rfl rfl rfl (Nat.le_of_ble_eq_true rfl) dX10_against_8 ?_
  obtain ⟨J4, hJ4, hf⟩ := jnx1_elim hf
  have kJ4 : ∀ (u9 : Unit), J4 u9 = some (r0, σ0) → KW X σ1 23 [] [] := by
    clear hf
    intro u9 hf
    have hf := (hJ4 u9).symm.trans hf
    refine kw_iconst C (-1 : Int32) dX10_against_23 rfl ?_
    exact kw_iret C K dX10_against_24 hf
  refine kw_if_eq C 23 dX10_against_11 rfl (fun c5 => ?_) (fun c5 => ?_)
  · have hf := if_p c5 hf
    refine kw_sub [] _ rfl ?_
    exact kJ4 _ hf
  · have hf := if_n c5 hf
    refine kw_iload_n C dX10_against_14 rfl 3 rfl ?_
    refine kw_iconst C (0 : Int32) dX10_against_15 rfl ?_
    refine kw_iconst C (1 : Int32) dX10_against_16 rfl ?_
    obtain ⟨r7, hc6, hf⟩ := bd_elim hf
    refine kw_callSI C [.int p2, .int (0 : Int32), .int (1 : Int32)] (kX10_isIn L D g t0 p2 (0 : Int32) (1 : Int32) σ1 _ hc6) mS_X10_196 ⟨rfl, rfl⟩ dd_X10_isIn ⟨Nat.le_of_ble_eq_true rfl, Nat.le_of_ble_eq_true rfl⟩ rfl (Nat.le_of_ble_eq_true rfl) dX10_against_17 ?_
    refine kw_if_ne C 25 dX10_against_20 rfl (fun c8 => ?_) (fun c8 => ?_)
    · have hf := if_n c8 hf
      refine kw_aload_n C dX10_against_25 rfl 0 rfl ?_
      refine kw_get C inG10 _ (hO10 g σ1) rfl 54 (Nat.le_of_ble_eq_true rfl) mf_10_109 rfl rfl dX10_against_26 ?_
      refine kw_iconst C (0 : Int32) dX10_against_29 rfl ?_
      refine kw_iald C _ 0 (hA10_54 g σ1) rfl (by decide) dX10_against_30 ?_
      obtain ⟨x9, ex9, hf⟩ := lt_elim hf
      refine kw_topi ex9 ?_
      refine kw_istore C dX10_against_31 hN (Nat.le_of_ble_eq_true rfl) [(4, .int x9), (0, .ref (g.1 0)), (1, .int p0), (2, .int p1), (3, .int p2)] rfl ?_
      refine kw_iconst C (0 : Int32) dX10_against_33 rfl ?_
      refine kw_istore C dX10_against_34 hN (Nat.le_of_ble_eq_true rfl) [(5, .int (0 : Int32)), (4, .int x9), (0, .ref (g.1 0)), (1, .int p0), (2, .int p1), (3, .int p2)] rfl ?_
      refine kw_sub [2, 3, 4, 5, 1, 0] _ rfl ?_
      refine lpx2_walk (P := fun (x10 : Int32) (x11 : Int32) => KW X σ1 36 [(0, .ref (g.1 0)), (1, .int p0), (2, .int p1), (3, .int p2), (4, .int x10), (5, .int x11)] []) ?_ FU _ _ hf
      intro self12 x10 x11 ih13 hf
      refine kw_iload C dX10_against_36 5 rfl ?_
      obtain ⟨J15, hJ15, hf⟩ := jnx1_elim hf
      have kJ15 : ∀ (x14 : Int32), J15 x14 = some (r0, σ0) → KW X σ1 46 [(0, .ref (g.1 0)), (1, .int p0), (2, .int p1), (3, .int p2), (4, .int x10), (5, .int x11)] [.int x14] := by
        clear hf
        intro x14 hf
        have hf := (hJ15 x14).symm.trans hf
        refine kw_istore C dX10_against_46 hN (Nat.le_of_ble_eq_true rfl) [(6, .int x14), (0, .ref (g.1 0)), (1, .int p0), (2, .int p1), (3, .int p2), (4, .int x10), (5, .int x11)] rfl ?_
        refine kw_iload C dX10_against_48 5 rfl ?_
        refine kw_aload_n C dX10_against_50 rfl 1 rfl ?_
        refine kw_get C inG10 _ (hO10 g σ1) rfl 23 (Nat.le_of_ble_eq_true rfl) mf_10_36 rfl rfl dX10_against_51 ?_
        refine kw_iload C dX10_against_54 0 rfl ?_
        obtain ⟨h16, hf⟩ := gd_elim hf
        refine kw_iald C _ 0 (hA10_23 g σ1) rfl h16 dX10_against_56 ?_
        refine kw_iadd C dX10_against_57 ?_
        obtain ⟨x17, ex17, hf⟩ := lt_elim hf
        refine kw_topi ex17 ?_
        refine kw_istore C dX10_against_58 hN (Nat.le_of_ble_eq_true rfl) [(7, .int x17), (6, .int x14), (0, .ref (g.1 0)), (1, .int p0), (2, .int p1), (3, .int p2), (4, .int x10), (5, .int x11)] rfl ?_
        refine kw_iload C dX10_against_60 0 rfl ?_
        refine kw_aload_n C dX10_against_62 rfl 2 rfl ?_
        refine kw_get C inG10 _ (hO10 g σ1) rfl 46 (Nat.le_of_ble_eq_true rfl) mf_10_85 rfl rfl dX10_against_63 ?_
        refine kw_iload C dX10_against_66 1 rfl ?_
        obtain ⟨h18, hf⟩ := gd_elim hf
        refine kw_iald C _ 0 (hA10_46 g σ1) rfl h18 dX10_against_68 ?_
        obtain ⟨J19, hJ19, hf⟩ := jnx1_elim hf
        have kJ19 : ∀ (u9 : Unit), J19 u9 = some (r0, σ0) → KW X σ1 84 [(3, .int p2), (4, .int x10), (5, .int x11)] [] := by
          clear hf
          intro u9 hf
          have hf := (hJ19 u9).symm.trans hf
          refine kw_iload_n C dX10_against_84 rfl 0 rfl ?_
          obtain ⟨J21, hJ21, hf⟩ := jnx1_elim hf
          have kJ21 : ∀ (x20 : Int32), J21 x20 = some (r0, σ0) → KW X σ1 97 [] [.int x20] := by
            clear hf
            intro x20 hf
            have hf := (hJ21 x20).symm.trans hf
            exact kw_iret C K dX10_against_97 hf
          refine kw_if_ne C 95 dX10_against_85 rfl (fun c22 => ?_) (fun c22 => ?_)
          · have hf := if_n c22 hf
            refine kw_iload C dX10_against_95 1 rfl ?_
            refine kw_sub [] _ rfl ?_
            exact kJ21 _ hf
          · have hf := if_p c22 hf
            refine kw_iconst C (1 : Int32) dX10_against_88 rfl ?_
            refine kw_iload C dX10_against_89 2 rfl ?_
            refine kw_isub C dX10_against_91 ?_
            refine kw_goto C 97 dX10_against_92 rfl ?_
            refine kw_sub [] _ rfl ?_
            exact kJ21 _ hf
        refine kw_icmp_gt C 84 dX10_against_69 rfl (fun c23 => ?_) (fun c23 => ?_)
        · have hf := if_p c23 hf
          refine kw_sub [5, 6, 7] _ rfl ?_
          exact kJ19 _ hf
        · have hf := if_n c23 hf
          refine kw_iload C dX10_against_72 0 rfl ?_
          refine kw_aload_n C dX10_against_74 rfl 2 rfl ?_
          refine kw_get C inG10 _ (hO10 g σ1) rfl 22 (Nat.le_of_ble_eq_true rfl) mf_10_33 rfl rfl dX10_against_75 ?_
          refine kw_iload C dX10_against_78 1 rfl ?_
          obtain ⟨h24, hf⟩ := gd_elim hf
          refine kw_iald C _ 0 (hA10_22 g σ1) rfl h24 dX10_against_80 ?_
          refine kw_icmp_lt C 98 dX10_against_81 rfl (fun c25 => ?_) (fun c25 => ?_)
          · have hf := if_p c25 hf
            refine kw_iload C dX10_against_98 0 rfl ?_
            refine kw_istore C dX10_against_100 hN (Nat.le_of_ble_eq_true rfl) [(4, .int x17), (7, .int x17), (6, .int x14), (0, .ref (g.1 0)), (1, .int p0), (2, .int p1), (3, .int p2), (5, .int x11)] rfl ?_
            refine kw_iconst C (1 : Int32) dX10_against_102 rfl ?_
            refine kw_iload C dX10_against_103 7 rfl ?_
            refine kw_isub C dX10_against_105 ?_
            obtain ⟨x26, ex26, hf⟩ := lt_elim hf
            refine kw_topi ex26 ?_
            refine kw_istore C dX10_against_106 hN (Nat.le_of_ble_eq_true rfl) [(5, .int x26), (4, .int x17), (7, .int x17), (6, .int x14), (0, .ref (g.1 0)), (1, .int p0), (2, .int p1), (3, .int p2)] rfl ?_
            refine kw_goto C 36 dX10_against_108 rfl ?_
            refine kw_sub [4, 5, 6, 7, 1, 0] _ rfl ?_
            exact ih13 _ _ hf
          · have hf := if_n c25 hf
            refine kw_sub [5, 6, 7] _ rfl ?_
            exact kJ19 _ hf
      refine kw_if_ne C 45 dX10_against_38 rfl (fun c27 => ?_) (fun c27 => ?_)
      · have hf := if_n c27 hf
        refine kw_iload_n C dX10_against_45 rfl 2 rfl ?_
        exact kJ15 _ hf
      · have hf := if_p c27 hf
        refine kw_iload_n C dX10_against_41 rfl 1 rfl ?_
        refine kw_goto C 46 dX10_against_42 rfl ?_
        exact kJ15 _ hf
    · have hf := if_p c8 hf
      refine kw_sub [] _ rfl ?_
      exact kJ4 _ hf
set_option maxRecDepth 100000 in
set_option maxHeartbeats 4000000 in
theorem kX10_hasOf (L : Launch) (D : va_G) (g : GwT) (t0 : Nat) (p0 : Int32) (σ : St) (r0 : Int32) (hf : fX10_hasOf σ p0 = some r0) : CtI L D (ttG g) (wM g) t0 yX10_hasOf cX10_hasOf 4 (some .int) { frames := 2, cells := 0, slots := 0, locals := 44 } [.ref (g.1 0), .int p0] σ r0 σ := by
  refine CtI.of (own := RX10) (by decide) rfl (Nat.le_of_ble_eq_true rfl) [(0, .ref (g.1 0)), (1, .int p0)] rfl ?_
  intro X C hN K
  unfold fX10_hasOf at hf
  refine kw_aload_n C dX10_hasOf_0 rfl 0 rfl ?_
  refine kw_iload_n C dX10_hasOf_1 rfl 1 rfl ?_
  obtain ⟨r2, hc1, hf⟩ := bd_elim hf
  refine kw_callVI C [.int p0] (kX10_boundsOf L D g t0 p0 σ _ hc1) RX10 mV_X10_471 ⟨rfl, rfl⟩ dd_X10_boundsOf ⟨Nat.le_of_ble_eq_true rfl, Nat.le_of_ble_eq_true rfl⟩ _ (hO10 g σ) rfl rfl rfl (Nat.le_of_ble_eq_true rfl) dX10_hasOf_2 ?_
  refine kw_aload_n C dX10_hasOf_5 rfl 0 rfl ?_
  refine kw_get C inG10 _ (hO10 g σ) rfl 54 (Nat.le_of_ble_eq_true rfl) mf_10_109 rfl rfl dX10_hasOf_6 ?_
  refine kw_iconst C (0 : Int32) dX10_hasOf_9 rfl ?_
  refine kw_iald C _ 0 (hA10_54 g σ) rfl (by decide) dX10_hasOf_10 ?_
  refine kw_aload_n C dX10_hasOf_11 rfl 0 rfl ?_
  refine kw_iload_n C dX10_hasOf_12 rfl 1 rfl ?_
  obtain ⟨r4, hc3, hf⟩ := bd_elim hf
  refine kw_callVI C [.int p0] (kX10_leastStep L D g t0 p0 σ _ hc3) RX10 mV_X10_474 ⟨rfl, rfl⟩ dd_X10_leastStep ⟨Nat.le_of_ble_eq_true rfl, Nat.le_of_ble_eq_true rfl⟩ _ (hO10 g σ) rfl rfl rfl (Nat.le_of_ble_eq_true rfl) dX10_hasOf_13 ?_
  refine kw_iadd C dX10_hasOf_16 ?_
  refine kw_icmp_ge C 22 dX10_hasOf_17 rfl (fun c5 => ?_) (fun c5 => ?_)
  · have hf := if_p c5 hf
    refine kw_iconst C (0 : Int32) dX10_hasOf_22 rfl ?_
    refine kw_istore_n C dX10_hasOf_23 rfl hN (Nat.le_of_ble_eq_true rfl) [(2, .int (0 : Int32)), (0, .ref (g.1 0)), (1, .int p0)] rfl ?_
    refine kw_iconst C (0 : Int32) dX10_hasOf_24 rfl ?_
    refine kw_istore_n C dX10_hasOf_25 rfl hN (Nat.le_of_ble_eq_true rfl) [(3, .int (0 : Int32)), (2, .int (0 : Int32)), (0, .ref (g.1 0)), (1, .int p0)] rfl ?_
    refine kw_sub [2, 3, 1, 0] _ rfl ?_
    refine lpx2_walk (P := fun (x6 : Int32) (x7 : Int32) => KW X σ 26 [(0, .ref (g.1 0)), (1, .int p0), (2, .int x6), (3, .int x7)] []) ?_ FU _ _ hf
    intro self8 x6 x7 ih9 hf
    refine kw_iload_n C dX10_hasOf_26 rfl 3 rfl ?_
    refine kw_aload_n C dX10_hasOf_27 rfl 0 rfl ?_
    refine kw_get C inG10 _ (hO10 g σ) rfl 12 (Nat.le_of_ble_eq_true rfl) mf_10_225 rfl rfl dX10_hasOf_28 ?_
    refine kw_icmp_ge C 69 dX10_hasOf_31 rfl (fun c10 => ?_) (fun c10 => ?_)
    · have hf := if_p c10 hf
      refine kw_iload_n C dX10_hasOf_69 rfl 2 rfl ?_
      refine kw_aload_n C dX10_hasOf_70 rfl 0 rfl ?_
      refine kw_get C inG10 _ (hO10 g σ) rfl 54 (Nat.le_of_ble_eq_true rfl) mf_10_109 rfl rfl dX10_hasOf_71 ?_
      refine kw_iconst C (0 : Int32) dX10_hasOf_74 rfl ?_
      refine kw_iald C _ 0 (hA10_54 g σ) rfl (by decide) dX10_hasOf_75 ?_
      obtain ⟨J12, hJ12, hf⟩ := jnx1_elim hf
      have kJ12 : ∀ (x11 : Int32), J12 x11 = some r0 → KW X σ 91 [] [.int x11] := by
        clear hf
        intro x11 hf
        have hf := (hJ12 x11).symm.trans hf
        exact kw_iret C K dX10_hasOf_91 (pr_ret hf)
      refine kw_icmp_le C 90 dX10_hasOf_76 rfl (fun c13 => ?_) (fun c13 => ?_)
      · have hf := if_p c13 hf
        refine kw_iconst C (0 : Int32) dX10_hasOf_90 rfl ?_
        refine kw_sub [] _ rfl ?_
        exact kJ12 _ hf
      · have hf := if_n c13 hf
        refine kw_iload_n C dX10_hasOf_79 rfl 2 rfl ?_
        refine kw_aload_n C dX10_hasOf_80 rfl 0 rfl ?_
        refine kw_get C inG10 _ (hO10 g σ) rfl 54 (Nat.le_of_ble_eq_true rfl) mf_10_109 rfl rfl dX10_hasOf_81 ?_
        refine kw_iconst C (0 : Int32) dX10_hasOf_84 rfl ?_
        refine kw_iald C _ 0 (hA10_54 g σ) rfl (by decide) dX10_hasOf_85 ?_
        refine kw_isub C dX10_hasOf_86 ?_
        refine kw_goto C 91 dX10_hasOf_87 rfl ?_
        refine kw_sub [] _ rfl ?_
        exact kJ12 _ hf
    · have hf := if_n c10 hf
      refine kw_iload_n C dX10_hasOf_34 rfl 1 rfl ?_
      refine kw_iload_n C dX10_hasOf_35 rfl 3 rfl ?_
      obtain ⟨r15, hc14, hf⟩ := bd_elim hf
      refine kw_callSI C [.int p0, .int x7] (kX10_isOf L D g t0 p0 x7 σ _ hc14) mS_X10_406 ⟨rfl, rfl⟩ dd_X10_isOf ⟨Nat.le_of_ble_eq_true rfl, Nat.le_of_ble_eq_true rfl⟩ rfl (Nat.le_of_ble_eq_true rfl) dX10_hasOf_36 ?_
      obtain ⟨J17, hJ17, hf⟩ := jnx1_elim hf
      have kJ17 : ∀ (x16 : Int32), J17 x16 = some r0 → KW X σ 62 [(0, .ref (g.1 0)), (1, .int p0), (3, .int x7)] [.int x16] := by
        clear hf
        intro x16 hf
        have hf := (hJ17 x16).symm.trans hf
        refine kw_istore_n C dX10_hasOf_62 rfl hN (Nat.le_of_ble_eq_true rfl) [(2, .int x16), (0, .ref (g.1 0)), (1, .int p0), (3, .int x7)] rfl ?_
        obtain ⟨x18, ex18, hf⟩ := lt_elim hf
        refine kw_iinc C x18 dX10_hasOf_63 3 rfl ex18.symm hN (Nat.le_of_ble_eq_true rfl) [(3, .int x18), (2, .int x16), (0, .ref (g.1 0)), (1, .int p0)] rfl ?_
        refine kw_goto C 26 dX10_hasOf_66 rfl ?_
        refine kw_sub [2, 3, 1, 0] _ rfl ?_
        exact ih9 _ _ hf
      obtain ⟨J19, hJ19, hf⟩ := jnx1_elim hf
      have kJ19 : ∀ (u9 : Unit), J19 u9 = some r0 → KW X σ 61 [(0, .ref (g.1 0)), (1, .int p0), (2, .int x6), (3, .int x7)] [] := by
        clear hf
        intro u9 hf
        have hf := (hJ19 u9).symm.trans hf
        refine kw_iload_n C dX10_hasOf_61 rfl 2 rfl ?_
        refine kw_sub [0, 1, 3] _ rfl ?_
        exact kJ17 _ hf
      refine kw_if_eq C 61 dX10_hasOf_39 rfl (fun c20 => ?_) (fun c20 => ?_)
      · have hf := if_p c20 hf
        exact kJ19 _ hf
      · have hf := if_n c20 hf
        refine kw_aload_n C dX10_hasOf_42 rfl 0 rfl ?_
        refine kw_get C inG10 _ (hO10 g σ) rfl 22 (Nat.le_of_ble_eq_true rfl) mf_10_33 rfl rfl dX10_hasOf_43 ?_
        refine kw_iload_n C dX10_hasOf_46 rfl 3 rfl ?_
        obtain ⟨h21, hf⟩ := gd_elim hf
        refine kw_iald C _ 0 (hA10_22 g σ) rfl h21 dX10_hasOf_47 ?_
        refine kw_iload_n C dX10_hasOf_48 rfl 2 rfl ?_
        refine kw_icmp_le C 61 dX10_hasOf_49 rfl (fun c22 => ?_) (fun c22 => ?_)
        · have hf := if_p c22 hf
          exact kJ19 _ hf
        · have hf := if_n c22 hf
          refine kw_aload_n C dX10_hasOf_52 rfl 0 rfl ?_
          refine kw_get C inG10 _ (hO10 g σ) rfl 22 (Nat.le_of_ble_eq_true rfl) mf_10_33 rfl rfl dX10_hasOf_53 ?_
          refine kw_iload_n C dX10_hasOf_56 rfl 3 rfl ?_
          obtain ⟨h23, hf⟩ := gd_elim hf
          refine kw_iald C _ 0 (hA10_22 g σ) rfl h23 dX10_hasOf_57 ?_
          refine kw_goto C 62 dX10_hasOf_58 rfl ?_
          refine kw_sub [0, 1, 3] _ rfl ?_
          exact kJ17 _ hf
  · have hf := if_n c5 hf
    refine kw_iconst C (0 : Int32) dX10_hasOf_20 rfl ?_
    exact kw_iret C K dX10_hasOf_21 (pr_ret hf)
set_option maxRecDepth 100000 in
set_option maxHeartbeats 4000000 in
theorem kX10_stays (L : Launch) (D : va_G) (g : GwT) (t0 : Nat) (p0 : Int32) (p1 : Int32) (p2 : Int32) (p3 : Int32) (p4 : Int32) (σ : St) (r0 : Int32) (σ0 : St) (hf : fX10_stays σ p0 p1 p2 p3 p4 = some (r0, σ0)) : CtI L D (ttG g) (wM g) t0 yX10_stays cX10_stays 11 (some .int) { frames := 3, cells := 0, slots := 0, locals := 67 } [.ref (g.1 0), .int p0, .int p1, .int p2, .int p3, .int p4] σ r0 σ0 := by
  refine CtI.of (own := RX10) (by decide) rfl (Nat.le_of_ble_eq_true rfl) [(0, .ref (g.1 0)), (1, .int p0), (2, .int p1), (3, .int p2), (4, .int p3), (5, .int p4)] rfl ?_
  intro X C hN K
  unfold fX10_stays at hf
  refine kw_aload_n C dX10_stays_0 rfl 0 rfl ?_
  refine kw_iconst C (0 : Int32) dX10_stays_1 rfl ?_
  obtain ⟨σ1, eσ1, hf⟩ := lt_elim hf
  refine kw_put C inG10 tyX10 tyX10_ok nmX10 _ (hO10 g σ) rfl 2 (Nat.le_of_ble_eq_true rfl) mf_10_151 rfl rfl (tyX10_ok 2 (Nat.le_of_ble_eq_true rfl)) rfl rfl (Nat.le_of_ble_eq_true rfl) ((hF10_2 g σ _).trans (congrArg (wM g) eσ1.symm)) dX10_stays_2 ?_
  refine kw_aload_n C dX10_stays_5 rfl 0 rfl ?_
  refine kw_iload_n C dX10_stays_6 rfl 1 rfl ?_
  refine kw_iload_n C dX10_stays_7 rfl 2 rfl ?_
  obtain ⟨r3, hc2, hf⟩ := bd_elim hf
  refine kw_callVI C [.int p0, .int p1] (kX10_areTwo L D g t0 p0 p1 σ1 _ hc2) RX10 mV_X10_447 ⟨rfl, rfl⟩ dd_X10_areTwo ⟨Nat.le_of_ble_eq_true rfl, Nat.le_of_ble_eq_true rfl⟩ _ (hO10 g σ1) rfl rfl rfl (Nat.le_of_ble_eq_true rfl) dX10_stays_8 ?_
  obtain ⟨J4, hJ4, hf⟩ := jnx1_elim hf
  have kJ4 : ∀ (u9 : Unit), J4 u9 = some (r0, σ0) → KW X σ1 60 [] [] := by
    clear hf
    intro u9 hf
    have hf := (hJ4 u9).symm.trans hf
    refine kw_iconst C (-1 : Int32) dX10_stays_60 rfl ?_
    exact kw_iret C K dX10_stays_61 hf
  refine kw_if_eq C 60 dX10_stays_11 rfl (fun c5 => ?_) (fun c5 => ?_)
  · have hf := if_p c5 hf
    refine kw_sub [] _ rfl ?_
    exact kJ4 _ hf
  · have hf := if_n c5 hf
    refine kw_aload_n C dX10_stays_14 rfl 0 rfl ?_
    refine kw_iload_n C dX10_stays_15 rfl 1 rfl ?_
    refine kw_iload_n C dX10_stays_16 rfl 3 rfl ?_
    obtain ⟨r7, hc6, hf⟩ := bd_elim hf
    refine kw_callVI C [.int p0, .int p2] (kX10_areTwo L D g t0 p0 p2 σ1 _ hc6) RX10 mV_X10_447 ⟨rfl, rfl⟩ dd_X10_areTwo ⟨Nat.le_of_ble_eq_true rfl, Nat.le_of_ble_eq_true rfl⟩ _ (hO10 g σ1) rfl rfl rfl (Nat.le_of_ble_eq_true rfl) dX10_stays_17 ?_
    refine kw_if_eq C 60 dX10_stays_20 rfl (fun c8 => ?_) (fun c8 => ?_)
    · have hf := if_p c8 hf
      refine kw_sub [] _ rfl ?_
      exact kJ4 _ hf
    · have hf := if_n c8 hf
      refine kw_aload_n C dX10_stays_23 rfl 0 rfl ?_
      refine kw_iload_n C dX10_stays_24 rfl 2 rfl ?_
      refine kw_iload_n C dX10_stays_25 rfl 3 rfl ?_
      obtain ⟨r10, hc9, hf⟩ := bd_elim hf
      refine kw_callVI C [.int p1, .int p2] (kX10_areTwo L D g t0 p1 p2 σ1 _ hc9) RX10 mV_X10_447 ⟨rfl, rfl⟩ dd_X10_areTwo ⟨Nat.le_of_ble_eq_true rfl, Nat.le_of_ble_eq_true rfl⟩ _ (hO10 g σ1) rfl rfl rfl (Nat.le_of_ble_eq_true rfl) dX10_stays_26 ?_
      refine kw_if_eq C 60 dX10_stays_29 rfl (fun c11 => ?_) (fun c11 => ?_)
      · have hf := if_p c11 hf
        refine kw_sub [] _ rfl ?_
        exact kJ4 _ hf
      · have hf := if_n c11 hf
        refine kw_iload C dX10_stays_32 4 rfl ?_
        refine kw_sipush C (-9999 : Int32) dX10_stays_34 rfl ?_
        refine kw_sipush C (9999 : Int32) dX10_stays_37 rfl ?_
        obtain ⟨r13, hc12, hf⟩ := bd_elim hf
        refine kw_callSI C [.int p3, .int (-9999 : Int32), .int (9999 : Int32)] (kX10_isIn L D g t0 p3 (-9999 : Int32) (9999 : Int32) σ1 _ hc12) mS_X10_196 ⟨rfl, rfl⟩ dd_X10_isIn ⟨Nat.le_of_ble_eq_true rfl, Nat.le_of_ble_eq_true rfl⟩ rfl (Nat.le_of_ble_eq_true rfl) dX10_stays_40 ?_
        refine kw_if_eq C 60 dX10_stays_43 rfl (fun c14 => ?_) (fun c14 => ?_)
        · have hf := if_p c14 hf
          refine kw_sub [] _ rfl ?_
          exact kJ4 _ hf
        · have hf := if_n c14 hf
          refine kw_iload C dX10_stays_46 5 rfl ?_
          refine kw_sipush C (-9999 : Int32) dX10_stays_48 rfl ?_
          refine kw_sipush C (9999 : Int32) dX10_stays_51 rfl ?_
          obtain ⟨r16, hc15, hf⟩ := bd_elim hf
          refine kw_callSI C [.int p4, .int (-9999 : Int32), .int (9999 : Int32)] (kX10_isIn L D g t0 p4 (-9999 : Int32) (9999 : Int32) σ1 _ hc15) mS_X10_196 ⟨rfl, rfl⟩ dd_X10_isIn ⟨Nat.le_of_ble_eq_true rfl, Nat.le_of_ble_eq_true rfl⟩ rfl (Nat.le_of_ble_eq_true rfl) dX10_stays_54 ?_
          refine kw_if_ne C 62 dX10_stays_57 rfl (fun c17 => ?_) (fun c17 => ?_)
          · have hf := if_n c17 hf
            refine kw_iconst C (1 : Int32) dX10_stays_62 rfl ?_
            refine kw_iload_n C dX10_stays_63 rfl 1 rfl ?_
            refine kw_ishl C dX10_stays_64 ?_
            obtain ⟨x18, ex18, hf⟩ := lt_elim hf
            refine kw_topi ex18 ?_
            refine kw_istore C dX10_stays_65 hN (Nat.le_of_ble_eq_true rfl) [(6, .int x18), (0, .ref (g.1 0)), (1, .int p0), (2, .int p1), (3, .int p2), (4, .int p3), (5, .int p4)] rfl ?_
            refine kw_iconst C (1 : Int32) dX10_stays_67 rfl ?_
            refine kw_iload_n C dX10_stays_68 rfl 3 rfl ?_
            refine kw_ishl C dX10_stays_69 ?_
            obtain ⟨x19, ex19, hf⟩ := lt_elim hf
            refine kw_topi ex19 ?_
            refine kw_istore C dX10_stays_70 hN (Nat.le_of_ble_eq_true rfl) [(7, .int x19), (6, .int x18), (0, .ref (g.1 0)), (1, .int p0), (2, .int p1), (3, .int p2), (4, .int p3), (5, .int p4)] rfl ?_
            refine kw_iconst C (1 : Int32) dX10_stays_72 rfl ?_
            refine kw_iload_n C dX10_stays_73 rfl 5 rfl ?_
            refine kw_ishl C dX10_stays_74 ?_
            obtain ⟨x20, ex20, hf⟩ := lt_elim hf
            refine kw_topi ex20 ?_
            refine kw_istore C dX10_stays_75 hN (Nat.le_of_ble_eq_true rfl) [(8, .int x20), (7, .int x19), (6, .int x18), (0, .ref (g.1 0)), (1, .int p0), (2, .int p1), (3, .int p2), (4, .int p3), (5, .int p4)] rfl ?_
            refine kw_aload_n C dX10_stays_77 rfl 3 rfl ?_
            refine kw_iload C dX10_stays_78 2 rfl ?_
            refine kw_iload C dX10_stays_80 1 rfl ?_
            refine kw_ior C dX10_stays_82 ?_
            refine kw_iload C dX10_stays_83 0 rfl ?_
            refine kw_ior C dX10_stays_85 ?_
            obtain ⟨r22, hc21, hf⟩ := bd_elim hf
            refine kw_callVI C [.int ((x18 ||| x19) ||| x20)] (kX10_hasOf L D g t0 ((x18 ||| x19) ||| x20) σ1 _ hc21) RX10 mV_X10_477 ⟨rfl, rfl⟩ dd_X10_hasOf ⟨Nat.le_of_ble_eq_true rfl, Nat.le_of_ble_eq_true rfl⟩ _ (hO10 g σ1) rfl rfl rfl (Nat.le_of_ble_eq_true rfl) dX10_stays_86 ?_
            refine kw_iload C dX10_stays_89 7 rfl ?_
            refine kw_isub C dX10_stays_91 ?_
            refine kw_iload C dX10_stays_92 8 rfl ?_
            refine kw_isub C dX10_stays_94 ?_
            obtain ⟨x23, ex23, hf⟩ := lt_elim hf
            refine kw_topi ex23 ?_
            refine kw_istore C dX10_stays_95 hN (Nat.le_of_ble_eq_true rfl) [(9, .int x23), (8, .int x20), (7, .int x19), (6, .int x18), (0, .ref (g.1 0)), (1, .int p0), (2, .int p1), (3, .int p2), (4, .int p3), (5, .int p4)] rfl ?_
            refine kw_iload C dX10_stays_97 8 rfl ?_
            refine kw_aload_n C dX10_stays_99 rfl 4 rfl ?_
            refine kw_iload C dX10_stays_100 3 rfl ?_
            obtain ⟨r25, hc24, hf⟩ := bd_elim hf
            refine kw_callVI C [.int x18] (kX10_hasOf L D g t0 x18 σ1 _ hc24) RX10 mV_X10_477 ⟨rfl, rfl⟩ dd_X10_hasOf ⟨Nat.le_of_ble_eq_true rfl, Nat.le_of_ble_eq_true rfl⟩ _ (hO10 g σ1) rfl rfl rfl (Nat.le_of_ble_eq_true rfl) dX10_stays_102 ?_
            obtain ⟨J27, hJ27, hf⟩ := jnx1_elim hf
            have kJ27 : ∀ (x26 : Int32), J27 x26 = some (r0, σ0) → KW X σ1 135 [(0, .ref (g.1 0)), (4, .int p3), (5, .int p4), (6, .int x18), (7, .int x19), (8, .int x20), (9, .int x23)] [.int x26] := by
              clear hf
              intro x26 hf
              have hf := (hJ27 x26).symm.trans hf
              refine kw_istore C dX10_stays_135 hN (Nat.le_of_ble_eq_true rfl) [(10, .int x26), (0, .ref (g.1 0)), (4, .int p3), (5, .int p4), (6, .int x18), (7, .int x19), (8, .int x20), (9, .int x23)] rfl ?_
              refine kw_iload C dX10_stays_137 0 rfl ?_
              obtain ⟨J29, hJ29, hf⟩ := jnx1_elim hf
              have kJ29 : ∀ (x28 : Int32), J29 x28 = some (r0, σ0) → KW X σ1 198 [] [.int x28] := by
                clear hf
                intro x28 hf
                have hf := (hJ29 x28).symm.trans hf
                exact kw_iret C K dX10_stays_198 hf
              obtain ⟨J30, hJ30, hf⟩ := jnx1_elim hf
              have kJ30 : ∀ (u9 : Unit), J30 u9 = some (r0, σ0) → KW X σ1 197 [] [] := by
                clear hf
                intro u9 hf
                have hf := (hJ30 u9).symm.trans hf
                refine kw_iconst C (0 : Int32) dX10_stays_197 rfl ?_
                exact kJ29 _ hf
              refine kw_if_eq C 197 dX10_stays_139 rfl (fun c31 => ?_) (fun c31 => ?_)
              · have hf := if_p c31 hf
                refine kw_sub [] _ rfl ?_
                exact kJ30 _ hf
              · have hf := if_n c31 hf
                refine kw_iload C dX10_stays_142 2 rfl ?_
                refine kw_iload C dX10_stays_144 3 rfl ?_
                refine kw_iadd C dX10_stays_146 ?_
                refine kw_aload_n C dX10_stays_147 rfl 1 rfl ?_
                refine kw_iload C dX10_stays_148 4 rfl ?_
                refine kw_iload C dX10_stays_150 5 rfl ?_
                refine kw_ior C dX10_stays_152 ?_
                obtain ⟨r33, hc32, hf⟩ := bd_elim hf
                refine kw_callVI C [.int (x18 ||| x19)] (kX10_hasOf L D g t0 (x18 ||| x19) σ1 _ hc32) RX10 mV_X10_477 ⟨rfl, rfl⟩ dd_X10_hasOf ⟨Nat.le_of_ble_eq_true rfl, Nat.le_of_ble_eq_true rfl⟩ _ (hO10 g σ1) rfl rfl rfl (Nat.le_of_ble_eq_true rfl) dX10_stays_153 ?_
                refine kw_icmp_lt C 197 dX10_stays_156 rfl (fun c34 => ?_) (fun c34 => ?_)
                · have hf := if_p c34 hf
                  refine kw_sub [] _ rfl ?_
                  exact kJ30 _ hf
                · have hf := if_n c34 hf
                  refine kw_iload C dX10_stays_159 2 rfl ?_
                  refine kw_iload C dX10_stays_161 7 rfl ?_
                  refine kw_iadd C dX10_stays_163 ?_
                  refine kw_aload_n C dX10_stays_164 rfl 1 rfl ?_
                  refine kw_iload C dX10_stays_165 4 rfl ?_
                  refine kw_iload C dX10_stays_167 6 rfl ?_
                  refine kw_ior C dX10_stays_169 ?_
                  obtain ⟨r36, hc35, hf⟩ := bd_elim hf
                  refine kw_callVI C [.int (x18 ||| x20)] (kX10_hasOf L D g t0 (x18 ||| x20) σ1 _ hc35) RX10 mV_X10_477 ⟨rfl, rfl⟩ dd_X10_hasOf ⟨Nat.le_of_ble_eq_true rfl, Nat.le_of_ble_eq_true rfl⟩ _ (hO10 g σ1) rfl rfl rfl (Nat.le_of_ble_eq_true rfl) dX10_stays_170 ?_
                  refine kw_icmp_lt C 197 dX10_stays_173 rfl (fun c37 => ?_) (fun c37 => ?_)
                  · have hf := if_p c37 hf
                    refine kw_sub [] _ rfl ?_
                    exact kJ30 _ hf
                  · have hf := if_n c37 hf
                    refine kw_iload C dX10_stays_176 3 rfl ?_
                    refine kw_iload C dX10_stays_178 7 rfl ?_
                    refine kw_iadd C dX10_stays_180 ?_
                    refine kw_aload_n C dX10_stays_181 rfl 1 rfl ?_
                    refine kw_iload C dX10_stays_182 5 rfl ?_
                    refine kw_iload C dX10_stays_184 6 rfl ?_
                    refine kw_ior C dX10_stays_186 ?_
                    obtain ⟨r39, hc38, hf⟩ := bd_elim hf
                    refine kw_callVI C [.int (x19 ||| x20)] (kX10_hasOf L D g t0 (x19 ||| x20) σ1 _ hc38) RX10 mV_X10_477 ⟨rfl, rfl⟩ dd_X10_hasOf ⟨Nat.le_of_ble_eq_true rfl, Nat.le_of_ble_eq_true rfl⟩ _ (hO10 g σ1) rfl rfl rfl (Nat.le_of_ble_eq_true rfl) dX10_stays_187 ?_
                    refine kw_icmp_lt C 197 dX10_stays_190 rfl (fun c40 => ?_) (fun c40 => ?_)
                    · have hf := if_p c40 hf
                      refine kw_sub [] _ rfl ?_
                      exact kJ30 _ hf
                    · have hf := if_n c40 hf
                      refine kw_iconst C (1 : Int32) dX10_stays_193 rfl ?_
                      refine kw_goto C 198 dX10_stays_194 rfl ?_
                      refine kw_sub [] _ rfl ?_
                      exact kJ29 _ hf
            obtain ⟨J41, hJ41, hf⟩ := jnx1_elim hf
            have kJ41 : ∀ (u9 : Unit), J41 u9 = some (r0, σ0) → KW X σ1 134 [(0, .ref (g.1 0)), (4, .int p3), (5, .int p4), (6, .int x18), (7, .int x19), (8, .int x20), (9, .int x23)] [] := by
              clear hf
              intro u9 hf
              have hf := (hJ41 u9).symm.trans hf
              refine kw_iconst C (0 : Int32) dX10_stays_134 rfl ?_
              exact kJ27 _ hf
            refine kw_icmp_lt C 134 dX10_stays_105 rfl (fun c42 => ?_) (fun c42 => ?_)
            · have hf := if_p c42 hf
              refine kw_sub [4, 8, 9, 3, 2, 1, 0] _ rfl ?_
              exact kJ41 _ hf
            · have hf := if_n c42 hf
              refine kw_iload C dX10_stays_108 9 rfl ?_
              refine kw_aload_n C dX10_stays_110 rfl 4 rfl ?_
              refine kw_iload C dX10_stays_111 2 rfl ?_
              obtain ⟨r44, hc43, hf⟩ := bd_elim hf
              refine kw_callVI C [.int x19] (kX10_hasOf L D g t0 x19 σ1 _ hc43) RX10 mV_X10_477 ⟨rfl, rfl⟩ dd_X10_hasOf ⟨Nat.le_of_ble_eq_true rfl, Nat.le_of_ble_eq_true rfl⟩ _ (hO10 g σ1) rfl rfl rfl (Nat.le_of_ble_eq_true rfl) dX10_stays_113 ?_
              refine kw_icmp_lt C 134 dX10_stays_116 rfl (fun c45 => ?_) (fun c45 => ?_)
              · have hf := if_p c45 hf
                refine kw_sub [4, 8, 9, 3, 2, 1, 0] _ rfl ?_
                exact kJ41 _ hf
              · have hf := if_n c45 hf
                refine kw_iload C dX10_stays_119 0 rfl ?_
                refine kw_aload_n C dX10_stays_121 rfl 4 rfl ?_
                refine kw_iload C dX10_stays_122 1 rfl ?_
                obtain ⟨r47, hc46, hf⟩ := bd_elim hf
                refine kw_callVI C [.int x20] (kX10_hasOf L D g t0 x20 σ1 _ hc46) RX10 mV_X10_477 ⟨rfl, rfl⟩ dd_X10_hasOf ⟨Nat.le_of_ble_eq_true rfl, Nat.le_of_ble_eq_true rfl⟩ _ (hO10 g σ1) rfl rfl rfl (Nat.le_of_ble_eq_true rfl) dX10_stays_124 ?_
                refine kw_icmp_lt C 134 dX10_stays_127 rfl (fun c48 => ?_) (fun c48 => ?_)
                · have hf := if_p c48 hf
                  refine kw_sub [4, 8, 9, 3, 2, 1, 0] _ rfl ?_
                  exact kJ41 _ hf
                · have hf := if_n c48 hf
                  refine kw_iconst C (1 : Int32) dX10_stays_130 rfl ?_
                  refine kw_goto C 135 dX10_stays_131 rfl ?_
                  refine kw_sub [4, 8, 9, 3, 2, 1, 0] _ rfl ?_
                  exact kJ27 _ hf
          · have hf := if_p c17 hf
            refine kw_sub [] _ rfl ?_
            exact kJ4 _ hf
set_option maxRecDepth 100000 in
set_option maxHeartbeats 4000000 in
theorem kX10_when (L : Launch) (D : va_G) (g : GwT) (t0 : Nat) (p0 : Int32) (p1 : Int32) (p2 : Int32) (σ : St) (r0 : Int32) (σ0 : St) (hf : fX10_when σ p0 p1 p2 = some (r0, σ0)) : CtI L D (ttG g) (wM g) t0 yX10_when cX10_when 7 (some .int) { frames := 8, cells := 0, slots := 0, locals := 188 } [.ref (g.1 0), .int p0, .int p1, .int p2] σ r0 σ0 := by
  refine CtI.of (own := RX10) (by decide) rfl (Nat.le_of_ble_eq_true rfl) [(0, .ref (g.1 0)), (1, .int p0), (2, .int p1), (3, .int p2)] rfl ?_
  intro X C hN K
  unfold fX10_when at hf
  refine kw_aload_n C dX10_when_0 rfl 0 rfl ?_
  refine kw_iconst C (0 : Int32) dX10_when_1 rfl ?_
  obtain ⟨σ1, eσ1, hf⟩ := lt_elim hf
  refine kw_put C inG10 tyX10 tyX10_ok nmX10 _ (hO10 g σ) rfl 2 (Nat.le_of_ble_eq_true rfl) mf_10_151 rfl rfl (tyX10_ok 2 (Nat.le_of_ble_eq_true rfl)) rfl rfl (Nat.le_of_ble_eq_true rfl) ((hF10_2 g σ _).trans (congrArg (wM g) eσ1.symm)) dX10_when_2 ?_
  refine kw_aload_n C dX10_when_5 rfl 0 rfl ?_
  refine kw_iload_n C dX10_when_6 rfl 1 rfl ?_
  obtain ⟨r3, hc2, hf⟩ := bd_elim hf
  refine kw_callVI C [.int p0] (kX10_isOnNow L D g t0 p0 σ1 _ hc2) RX10 mV_X10_444 ⟨rfl, rfl⟩ dd_X10_isOnNow ⟨Nat.le_of_ble_eq_true rfl, Nat.le_of_ble_eq_true rfl⟩ _ (hO10 g σ1) rfl rfl rfl (Nat.le_of_ble_eq_true rfl) dX10_when_7 ?_
  obtain ⟨J4, hJ4, hf⟩ := jnx1_elim hf
  have kJ4 : ∀ (u9 : Unit), J4 u9 = some (r0, σ0) → KW X σ1 32 [] [] := by
    clear hf
    intro u9 hf
    have hf := (hJ4 u9).symm.trans hf
    refine kw_iconst C (-1 : Int32) dX10_when_32 rfl ?_
    exact kw_iret C K dX10_when_33 hf
  refine kw_if_eq C 32 dX10_when_10 rfl (fun c5 => ?_) (fun c5 => ?_)
  · have hf := if_p c5 hf
    refine kw_sub [] _ rfl ?_
    exact kJ4 _ hf
  · have hf := if_n c5 hf
    refine kw_iload_n C dX10_when_13 rfl 2 rfl ?_
    refine kw_iconst C (0 : Int32) dX10_when_14 rfl ?_
    refine kw_bipush C (40 : Int32) dX10_when_15 rfl ?_
    obtain ⟨r7, hc6, hf⟩ := bd_elim hf
    refine kw_callSI C [.int p1, .int (0 : Int32), .int (40 : Int32)] (kX10_isIn L D g t0 p1 (0 : Int32) (40 : Int32) σ1 _ hc6) mS_X10_196 ⟨rfl, rfl⟩ dd_X10_isIn ⟨Nat.le_of_ble_eq_true rfl, Nat.le_of_ble_eq_true rfl⟩ rfl (Nat.le_of_ble_eq_true rfl) dX10_when_17 ?_
    refine kw_if_eq C 32 dX10_when_20 rfl (fun c8 => ?_) (fun c8 => ?_)
    · have hf := if_p c8 hf
      refine kw_sub [] _ rfl ?_
      exact kJ4 _ hf
    · have hf := if_n c8 hf
      refine kw_iload_n C dX10_when_23 rfl 3 rfl ?_
      refine kw_iconst C (0 : Int32) dX10_when_24 rfl ?_
      refine kw_iconst C (1 : Int32) dX10_when_25 rfl ?_
      obtain ⟨r10, hc9, hf⟩ := bd_elim hf
      refine kw_callSI C [.int p2, .int (0 : Int32), .int (1 : Int32)] (kX10_isIn L D g t0 p2 (0 : Int32) (1 : Int32) σ1 _ hc9) mS_X10_196 ⟨rfl, rfl⟩ dd_X10_isIn ⟨Nat.le_of_ble_eq_true rfl, Nat.le_of_ble_eq_true rfl⟩ rfl (Nat.le_of_ble_eq_true rfl) dX10_when_26 ?_
      refine kw_if_ne C 34 dX10_when_29 rfl (fun c11 => ?_) (fun c11 => ?_)
      · have hf := if_n c11 hf
        refine kw_bipush C (-2 : Int32) dX10_when_34 rfl ?_
        refine kw_istore C dX10_when_36 hN (Nat.le_of_ble_eq_true rfl) [(4, .int (-2 : Int32)), (0, .ref (g.1 0)), (1, .int p0), (2, .int p1), (3, .int p2)] rfl ?_
        refine kw_bipush C (-2 : Int32) dX10_when_38 rfl ?_
        refine kw_istore C dX10_when_40 hN (Nat.le_of_ble_eq_true rfl) [(5, .int (-2 : Int32)), (4, .int (-2 : Int32)), (0, .ref (g.1 0)), (1, .int p0), (2, .int p1), (3, .int p2)] rfl ?_
        refine kw_iconst C (0 : Int32) dX10_when_42 rfl ?_
        refine kw_istore C dX10_when_43 hN (Nat.le_of_ble_eq_true rfl) [(6, .int (0 : Int32)), (5, .int (-2 : Int32)), (4, .int (-2 : Int32)), (0, .ref (g.1 0)), (1, .int p0), (2, .int p1), (3, .int p2)] rfl ?_
        refine kw_sub [3, 4, 5, 6, 2, 1, 0] _ rfl ?_
        refine lpx4_walk (P := fun (x12 : Int32) (x13 : Int32) (x14 : Int32) (σ15 : St) => KW X σ15 45 [(0, .ref (g.1 0)), (1, .int p0), (2, .int p1), (3, .int p2), (4, .int x12), (5, .int x13), (6, .int x14)] []) ?_ FU _ _ _ _ hf
        intro self16 x12 x13 x14 σ15 ih17 hf
        refine kw_iload C dX10_when_45 6 rfl ?_
        refine kw_iload_n C dX10_when_47 rfl 2 rfl ?_
        refine kw_icmp_gt C 159 dX10_when_48 rfl (fun c18 => ?_) (fun c18 => ?_)
        · have hf := if_p c18 hf
          refine kw_iload_n C dX10_when_159 rfl 3 rfl ?_
          obtain ⟨J20, hJ20, hf⟩ := jnx1_elim hf
          have kJ20 : ∀ (x19 : Int32), J20 x19 = some (r0, σ0) → KW X σ15 170 [] [.int x19] := by
            clear hf
            intro x19 hf
            have hf := (hJ20 x19).symm.trans hf
            exact kw_iret C K dX10_when_170 hf
          refine kw_if_ne C 168 dX10_when_160 rfl (fun c21 => ?_) (fun c21 => ?_)
          · have hf := if_n c21 hf
            refine kw_iload C dX10_when_168 5 rfl ?_
            refine kw_sub [] _ rfl ?_
            exact kJ20 _ hf
          · have hf := if_p c21 hf
            refine kw_iload C dX10_when_163 4 rfl ?_
            refine kw_goto C 170 dX10_when_165 rfl ?_
            refine kw_sub [] _ rfl ?_
            exact kJ20 _ hf
        · have hf := if_n c18 hf
          refine kw_aload_n C dX10_when_51 rfl 0 rfl ?_
          obtain ⟨σ23, hc22, hf⟩ := bV_elim hf
          refine kw_callVV C [] (kX10_layTried L D g t0 σ15 _ hc22) RX10 mV_X10_453 ⟨rfl, rfl⟩ dd_X10_layTried ⟨Nat.le_of_ble_eq_true rfl, Nat.le_of_ble_eq_true rfl⟩ _ (hO10 g σ15) rfl rfl rfl (Nat.le_of_ble_eq_true rfl) dX10_when_52 ?_
          refine kw_aload_n C dX10_when_55 rfl 0 rfl ?_
          refine kw_iload C dX10_when_56 6 rfl ?_
          obtain ⟨σ25, hc24, hf⟩ := bV_elim hf
          refine kw_callVV C [.int x14] (kX10_goMany L D g t0 x14 σ23 _ hc24) RX10 mV_X10_456 ⟨rfl, rfl⟩ dd_X10_goMany ⟨Nat.le_of_ble_eq_true rfl, Nat.le_of_ble_eq_true rfl⟩ _ (hO10 g σ23) rfl rfl rfl (Nat.le_of_ble_eq_true rfl) dX10_when_58 ?_
          refine kw_aload_n C dX10_when_61 rfl 0 rfl ?_
          refine kw_get C inG10 _ (hO10 g σ25) rfl 57 (Nat.le_of_ble_eq_true rfl) mf_10_118 rfl rfl dX10_when_62 ?_
          refine kw_iconst C (1 : Int32) dX10_when_65 rfl ?_
          refine kw_zald C _ 3 (hA10_57 g σ25) rfl (by decide) dX10_when_66 ?_
          obtain ⟨J29, hJ29, hf⟩ := jnx3_elim hf
          have kJ29 : ∀ (x26 : Int32) (x27 : Int32) (σ28 : St), J29 x26 x27 σ28 = some (r0, σ0) → KW X σ28 153 [(0, .ref (g.1 0)), (1, .int p0), (2, .int p1), (3, .int p2), (4, .int x26), (5, .int x27), (6, .int x14)] [] := by
            clear hf
            intro x26 x27 σ28 hf
            have hf := (hJ29 x26 x27 σ28).symm.trans hf
            obtain ⟨x30, ex30, hf⟩ := lt_elim hf
            refine kw_iinc C x30 dX10_when_153 6 rfl ex30.symm hN (Nat.le_of_ble_eq_true rfl) [(6, .int x30), (0, .ref (g.1 0)), (1, .int p0), (2, .int p1), (3, .int p2), (4, .int x26), (5, .int x27)] rfl ?_
            refine kw_goto C 45 dX10_when_156 rfl ?_
            refine kw_sub [1, 2, 3, 4, 5, 6, 0] _ rfl ?_
            exact ih17 _ _ _ _ hf
          refine kw_if_ne C 153 dX10_when_67 rfl (fun c31 => ?_) (fun c31 => ?_)
          · have hf := if_n c31 hf
            exact kJ29 _ _ _ hf
          · have hf := if_p c31 hf
            refine kw_aload_n C dX10_when_70 rfl 0 rfl ?_
            refine kw_get C inG10 _ (hO10 g σ25) rfl 49 (Nat.le_of_ble_eq_true rfl) mf_10_94 rfl rfl dX10_when_71 ?_
            refine kw_bipush C (6 : Int32) dX10_when_74 rfl ?_
            refine kw_iload_n C dX10_when_76 rfl 1 rfl ?_
            refine kw_iadd C dX10_when_77 ?_
            obtain ⟨h32, hf⟩ := gd_elim hf
            refine kw_zald C _ 3 (hA10_49 g σ25) rfl h32 dX10_when_78 ?_
            refine kw_if_eq C 153 dX10_when_79 rfl (fun c33 => ?_) (fun c33 => ?_)
            · have hf := if_p c33 hf
              exact kJ29 _ _ _ hf
            · have hf := if_n c33 hf
              refine kw_aload_n C dX10_when_82 rfl 0 rfl ?_
              refine kw_iconst C (1 : Int32) dX10_when_83 rfl ?_
              refine kw_iload_n C dX10_when_84 rfl 1 rfl ?_
              obtain ⟨r35, hc34, hf⟩ := bd_elim hf
              refine kw_callVI C [.int (1 : Int32), .int p0] (kX10_mayRaise L D g t0 (1 : Int32) p0 σ25 _ hc34) RX10 mV_X10_409 ⟨rfl, rfl⟩ dd_X10_mayRaise ⟨Nat.le_of_ble_eq_true rfl, Nat.le_of_ble_eq_true rfl⟩ _ (hO10 g σ25) rfl rfl rfl (Nat.le_of_ble_eq_true rfl) dX10_when_85 ?_
              refine kw_if_ne C 94 dX10_when_88 rfl (fun c36 => ?_) (fun c36 => ?_)
              · have hf := if_n c36 hf
                refine kw_aload_n C dX10_when_94 rfl 0 rfl ?_
                refine kw_iconst C (1 : Int32) dX10_when_95 rfl ?_
                refine kw_iload_n C dX10_when_96 rfl 1 rfl ?_
                obtain ⟨σ38, hc37, hf⟩ := bV_elim hf
                refine kw_callVV C [.int (1 : Int32), .int p0] (kX10_raises L D g t0 (1 : Int32) p0 σ25 _ hc37) RX10 mV_X10_427 ⟨rfl, rfl⟩ dd_X10_raises ⟨Nat.le_of_ble_eq_true rfl, Nat.le_of_ble_eq_true rfl⟩ _ (hO10 g σ25) rfl rfl rfl (Nat.le_of_ble_eq_true rfl) dX10_when_97 ?_
                refine kw_aload_n C dX10_when_100 rfl 0 rfl ?_
                refine kw_bipush C (120 : Int32) dX10_when_101 rfl ?_
                refine kw_iload C dX10_when_103 6 rfl ?_
                refine kw_isub C dX10_when_105 ?_
                obtain ⟨r40, σ41, hc39, hf⟩ := bI_elim hf
                refine kw_callVI C [.int ((120 : Int32) - x14)] (kX10_fallsBy L D g t0 ((120 : Int32) - x14) σ38 _ _ hc39) RX10 mV_X10_462 ⟨rfl, rfl⟩ dd_X10_fallsBy ⟨Nat.le_of_ble_eq_true rfl, Nat.le_of_ble_eq_true rfl⟩ _ (hO10 g σ38) rfl rfl rfl (Nat.le_of_ble_eq_true rfl) dX10_when_106 ?_
                refine kw_if_lt C 153 dX10_when_109 rfl (fun c42 => ?_) (fun c42 => ?_)
                · have hf := if_p c42 hf
                  exact kJ29 _ _ _ hf
                · have hf := if_n c42 hf
                  refine kw_aload_n C dX10_when_112 rfl 0 rfl ?_
                  refine kw_get C inG10 _ (hO10 g σ41) rfl 55 (Nat.le_of_ble_eq_true rfl) mf_10_112 rfl rfl dX10_when_113 ?_
                  refine kw_iconst C (1 : Int32) dX10_when_116 rfl ?_
                  refine kw_iald C _ 0 (hA10_55 g σ41) rfl (by decide) dX10_when_117 ?_
                  refine kw_iload_n C dX10_when_118 rfl 1 rfl ?_
                  refine kw_icmp_ne C 153 dX10_when_119 rfl (fun c43 => ?_) (fun c43 => ?_)
                  · have hf := if_n c43 hf
                    exact kJ29 _ _ _ hf
                  · have hf := if_p c43 hf
                    refine kw_iload C dX10_when_122 4 rfl ?_
                    obtain ⟨J44, hJ44, hf⟩ := jnx1_elim hf
                    have kJ44 : ∀ (u9 : Unit), J44 u9 = some (r0, σ0) → KW X σ41 141 [(0, .ref (g.1 0)), (1, .int p0), (2, .int p1), (3, .int p2), (6, .int x14)] [] := by
                      clear hf
                      intro u9 hf
                      have hf := (hJ44 u9).symm.trans hf
                      refine kw_iload C dX10_when_141 4 rfl ?_
                      refine kw_istore C dX10_when_143 hN (Nat.le_of_ble_eq_true rfl) [(4, .int x14), (0, .ref (g.1 0)), (1, .int p0), (2, .int p1), (3, .int p2), (6, .int x14)] rfl ?_
                      refine kw_aload_n C dX10_when_145 rfl 1 rfl ?_
                      refine kw_get C inG10 _ (hO10 g σ41) rfl 54 (Nat.le_of_ble_eq_true rfl) mf_10_109 rfl rfl dX10_when_146 ?_
                      refine kw_iconst C (1 : Int32) dX10_when_149 rfl ?_
                      refine kw_iald C _ 0 (hA10_54 g σ41) rfl (by decide) dX10_when_150 ?_
                      obtain ⟨x45, ex45, hf⟩ := lt_elim hf
                      refine kw_topi ex45 ?_
                      refine kw_istore C dX10_when_151 hN (Nat.le_of_ble_eq_true rfl) [(5, .int x45), (4, .int x14), (0, .ref (g.1 0)), (1, .int p0), (2, .int p1), (3, .int p2), (6, .int x14)] rfl ?_
                      refine kw_sub [2, 3, 4, 5, 1, 0, 6] _ rfl ?_
                      exact kJ29 _ _ _ hf
                    refine kw_if_lt C 141 dX10_when_124 rfl (fun c46 => ?_) (fun c46 => ?_)
                    · have hf := if_p c46 hf
                      refine kw_sub [0, 1, 2, 3, 6] _ rfl ?_
                      exact kJ44 _ hf
                    · have hf := if_n c46 hf
                      refine kw_aload_n C dX10_when_127 rfl 0 rfl ?_
                      refine kw_get C inG10 _ (hO10 g σ41) rfl 54 (Nat.le_of_ble_eq_true rfl) mf_10_109 rfl rfl dX10_when_128 ?_
                      refine kw_iconst C (1 : Int32) dX10_when_131 rfl ?_
                      refine kw_iald C _ 0 (hA10_54 g σ41) rfl (by decide) dX10_when_132 ?_
                      refine kw_iload C dX10_when_133 5 rfl ?_
                      refine kw_icmp_lt C 141 dX10_when_135 rfl (fun c47 => ?_) (fun c47 => ?_)
                      · have hf := if_p c47 hf
                        refine kw_sub [0, 1, 2, 3, 6] _ rfl ?_
                        exact kJ44 _ hf
                      · have hf := if_n c47 hf
                        refine kw_goto C 153 dX10_when_138 rfl ?_
                        exact kJ29 _ _ _ hf
              · have hf := if_p c36 hf
                refine kw_goto C 153 dX10_when_91 rfl ?_
                exact kJ29 _ _ _ hf
      · have hf := if_p c11 hf
        refine kw_sub [] _ rfl ?_
        exact kJ4 _ hf
set_option maxRecDepth 100000 in
set_option maxHeartbeats 4000000 in
theorem kX10_match (L : Launch) (D : va_G) (g : GwT) (t0 : Nat) (p0 : Int32) (σ : St) (r0 : Int32) (σ0 : St) (hf : fX10_match σ p0 = some (r0, σ0)) : CtI L D (ttG g) (wM g) t0 yX10_match cX10_match 4 (some .int) { frames := 8, cells := 0, slots := 0, locals := 188 } [.ref (g.1 0), .int p0] σ r0 σ0 := by
  refine CtI.of (own := RX10) (by decide) rfl (Nat.le_of_ble_eq_true rfl) [(0, .ref (g.1 0)), (1, .int p0)] rfl ?_
  intro X C hN K
  unfold fX10_match at hf
  refine kw_aload_n C dX10_match_0 rfl 0 rfl ?_
  refine kw_iconst C (0 : Int32) dX10_match_1 rfl ?_
  obtain ⟨σ1, eσ1, hf⟩ := lt_elim hf
  refine kw_put C inG10 tyX10 tyX10_ok nmX10 _ (hO10 g σ) rfl 2 (Nat.le_of_ble_eq_true rfl) mf_10_151 rfl rfl (tyX10_ok 2 (Nat.le_of_ble_eq_true rfl)) rfl rfl (Nat.le_of_ble_eq_true rfl) ((hF10_2 g σ _).trans (congrArg (wM g) eσ1.symm)) dX10_match_2 ?_
  refine kw_aload_n C dX10_match_5 rfl 0 rfl ?_
  refine kw_iload_n C dX10_match_6 rfl 1 rfl ?_
  obtain ⟨r3, hc2, hf⟩ := bd_elim hf
  refine kw_callVI C [.int p0] (kX10_isOnNow L D g t0 p0 σ1 _ hc2) RX10 mV_X10_444 ⟨rfl, rfl⟩ dd_X10_isOnNow ⟨Nat.le_of_ble_eq_true rfl, Nat.le_of_ble_eq_true rfl⟩ _ (hO10 g σ1) rfl rfl rfl (Nat.le_of_ble_eq_true rfl) dX10_match_7 ?_
  refine kw_if_ne C 15 dX10_match_10 rfl (fun c4 => ?_) (fun c4 => ?_)
  · have hf := if_n c4 hf
    refine kw_bipush C (-2 : Int32) dX10_match_15 rfl ?_
    refine kw_istore_n C dX10_match_17 rfl hN (Nat.le_of_ble_eq_true rfl) [(2, .int (-2 : Int32)), (0, .ref (g.1 0)), (1, .int p0)] rfl ?_
    refine kw_iconst C (0 : Int32) dX10_match_18 rfl ?_
    refine kw_istore_n C dX10_match_19 rfl hN (Nat.le_of_ble_eq_true rfl) [(3, .int (0 : Int32)), (2, .int (-2 : Int32)), (0, .ref (g.1 0)), (1, .int p0)] rfl ?_
    refine kw_sub [2, 3, 1, 0] _ rfl ?_
    refine lpx3_walk (P := fun (x5 : Int32) (x6 : Int32) (σ7 : St) => KW X σ7 20 [(0, .ref (g.1 0)), (1, .int p0), (2, .int x5), (3, .int x6)] []) ?_ FU _ _ _ hf
    intro self8 x5 x6 σ7 ih9 hf
    refine kw_iload_n C dX10_match_20 rfl 3 rfl ?_
    refine kw_aload_n C dX10_match_21 rfl 0 rfl ?_
    refine kw_get C inG10 _ (hO10 g σ7) rfl 12 (Nat.le_of_ble_eq_true rfl) mf_10_225 rfl rfl dX10_match_22 ?_
    refine kw_icmp_ge C 97 dX10_match_25 rfl (fun c10 => ?_) (fun c10 => ?_)
    · have hf := if_p c10 hf
      refine kw_iload_n C dX10_match_97 rfl 2 rfl ?_
      exact kw_iret C K dX10_match_98 hf
    · have hf := if_n c10 hf
      refine kw_aload_n C dX10_match_28 rfl 0 rfl ?_
      refine kw_iload_n C dX10_match_29 rfl 1 rfl ?_
      refine kw_iload_n C dX10_match_30 rfl 3 rfl ?_
      obtain ⟨r12, hc11, hf⟩ := bd_elim hf
      refine kw_callVI C [.int p0, .int x6] (kX10_areTwo L D g t0 p0 x6 σ7 _ hc11) RX10 mV_X10_447 ⟨rfl, rfl⟩ dd_X10_areTwo ⟨Nat.le_of_ble_eq_true rfl, Nat.le_of_ble_eq_true rfl⟩ _ (hO10 g σ7) rfl rfl rfl (Nat.le_of_ble_eq_true rfl) dX10_match_31 ?_
      obtain ⟨J15, hJ15, hf⟩ := jnx2_elim hf
      have kJ15 : ∀ (x13 : Int32) (σ14 : St), J15 x13 σ14 = some (r0, σ0) → KW X σ14 91 [(0, .ref (g.1 0)), (1, .int p0), (2, .int x13), (3, .int x6)] [] := by
        clear hf
        intro x13 σ14 hf
        have hf := (hJ15 x13 σ14).symm.trans hf
        obtain ⟨x16, ex16, hf⟩ := lt_elim hf
        refine kw_iinc C x16 dX10_match_91 3 rfl ex16.symm hN (Nat.le_of_ble_eq_true rfl) [(3, .int x16), (0, .ref (g.1 0)), (1, .int p0), (2, .int x13)] rfl ?_
        refine kw_goto C 20 dX10_match_94 rfl ?_
        refine kw_sub [1, 2, 3, 0] _ rfl ?_
        exact ih9 _ _ _ hf
      refine kw_if_eq C 91 dX10_match_34 rfl (fun c17 => ?_) (fun c17 => ?_)
      · have hf := if_p c17 hf
        exact kJ15 _ _ hf
      · have hf := if_n c17 hf
        refine kw_iload_n C dX10_match_37 rfl 2 rfl ?_
        obtain ⟨J18, hJ18, hf⟩ := jnx1_elim hf
        have kJ18 : ∀ (u9 : Unit), J18 u9 = some (r0, σ0) → KW X σ7 59 [(0, .ref (g.1 0)), (1, .int p0), (2, .int x5), (3, .int x6)] [] := by
          clear hf
          intro u9 hf
          have hf := (hJ18 u9).symm.trans hf
          refine kw_aload_n C dX10_match_59 rfl 0 rfl ?_
          obtain ⟨σ20, hc19, hf⟩ := bV_elim hf
          refine kw_callVV C [] (kX10_layTried L D g t0 σ7 _ hc19) RX10 mV_X10_453 ⟨rfl, rfl⟩ dd_X10_layTried ⟨Nat.le_of_ble_eq_true rfl, Nat.le_of_ble_eq_true rfl⟩ _ (hO10 g σ7) rfl rfl rfl (Nat.le_of_ble_eq_true rfl) dX10_match_60 ?_
          refine kw_aload_n C dX10_match_63 rfl 0 rfl ?_
          refine kw_iconst C (1 : Int32) dX10_match_64 rfl ?_
          refine kw_iload_n C dX10_match_65 rfl 1 rfl ?_
          refine kw_iload_n C dX10_match_66 rfl 3 rfl ?_
          obtain ⟨σ22, hc21, hf⟩ := bV_elim hf
          refine kw_callVV C [.int (1 : Int32), .int p0, .int x6] (kX10_marries L D g t0 (1 : Int32) p0 x6 σ20 _ hc21) RX10 mV_X10_450 ⟨rfl, rfl⟩ dd_X10_marries ⟨Nat.le_of_ble_eq_true rfl, Nat.le_of_ble_eq_true rfl⟩ _ (hO10 g σ20) rfl rfl rfl (Nat.le_of_ble_eq_true rfl) dX10_match_67 ?_
          refine kw_aload_n C dX10_match_70 rfl 0 rfl ?_
          refine kw_bipush C (120 : Int32) dX10_match_71 rfl ?_
          obtain ⟨r24, σ25, hc23, hf⟩ := bI_elim hf
          refine kw_callVI C [.int (120 : Int32)] (kX10_fallsBy L D g t0 (120 : Int32) σ22 _ _ hc23) RX10 mV_X10_462 ⟨rfl, rfl⟩ dd_X10_fallsBy ⟨Nat.le_of_ble_eq_true rfl, Nat.le_of_ble_eq_true rfl⟩ _ (hO10 g σ22) rfl rfl rfl (Nat.le_of_ble_eq_true rfl) dX10_match_73 ?_
          refine kw_if_lt C 91 dX10_match_76 rfl (fun c26 => ?_) (fun c26 => ?_)
          · have hf := if_p c26 hf
            exact kJ15 _ _ hf
          · have hf := if_n c26 hf
            refine kw_aload_n C dX10_match_79 rfl 0 rfl ?_
            refine kw_get C inG10 _ (hO10 g σ25) rfl 55 (Nat.le_of_ble_eq_true rfl) mf_10_112 rfl rfl dX10_match_80 ?_
            refine kw_iconst C (1 : Int32) dX10_match_83 rfl ?_
            refine kw_iald C _ 0 (hA10_55 g σ25) rfl (by decide) dX10_match_84 ?_
            refine kw_iload_n C dX10_match_85 rfl 1 rfl ?_
            refine kw_icmp_ne C 91 dX10_match_86 rfl (fun c27 => ?_) (fun c27 => ?_)
            · have hf := if_n c27 hf
              exact kJ15 _ _ hf
            · have hf := if_p c27 hf
              refine kw_iload_n C dX10_match_89 rfl 3 rfl ?_
              refine kw_istore_n C dX10_match_90 rfl hN (Nat.le_of_ble_eq_true rfl) [(2, .int x6), (0, .ref (g.1 0)), (1, .int p0), (3, .int x6)] rfl ?_
              refine kw_sub [1, 2, 0, 3] _ rfl ?_
              exact kJ15 _ _ hf
        refine kw_if_lt C 59 dX10_match_38 rfl (fun c28 => ?_) (fun c28 => ?_)
        · have hf := if_p c28 hf
          exact kJ18 _ hf
        · have hf := if_n c28 hf
          refine kw_aload_n C dX10_match_41 rfl 0 rfl ?_
          refine kw_get C inG10 _ (hO10 g σ7) rfl 46 (Nat.le_of_ble_eq_true rfl) mf_10_85 rfl rfl dX10_match_42 ?_
          refine kw_iload_n C dX10_match_45 rfl 3 rfl ?_
          obtain ⟨h29, hf⟩ := gd_elim hf
          refine kw_iald C _ 0 (hA10_46 g σ7) rfl h29 dX10_match_46 ?_
          refine kw_aload_n C dX10_match_47 rfl 0 rfl ?_
          refine kw_get C inG10 _ (hO10 g σ7) rfl 46 (Nat.le_of_ble_eq_true rfl) mf_10_85 rfl rfl dX10_match_48 ?_
          refine kw_iload_n C dX10_match_51 rfl 2 rfl ?_
          obtain ⟨h30, hf⟩ := gd_elim hf
          refine kw_iald C _ 0 (hA10_46 g σ7) rfl h30 dX10_match_52 ?_
          refine kw_icmp_lt C 59 dX10_match_53 rfl (fun c31 => ?_) (fun c31 => ?_)
          · have hf := if_p c31 hf
            exact kJ18 _ hf
          · have hf := if_n c31 hf
            refine kw_goto C 91 dX10_match_56 rfl ?_
            exact kJ15 _ _ hf
  · have hf := if_p c4 hf
    refine kw_iconst C (-1 : Int32) dX10_match_13 rfl ?_
    exact kw_iret C K dX10_match_14 hf
