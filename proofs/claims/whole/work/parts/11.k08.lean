set_option maxRecDepth 100000 in
set_option maxHeartbeats 4000000 in
theorem kX10_find_a10_26 (L : Launch) (D : va_G) (g : GwT) (t0 : Nat) (p1 : Int32) (p2 : Int32) (p3 : Int32) (σ : St) (r0 : Int32) (hf : fX10_find_a10_26 σ p1 p2 p3 = some r0) : CtI L D (ttG g) (wM g) t0 yX10_find cX10_find 5 (some .int) { frames := 0, cells := 0, slots := 0, locals := 0 } [.ref (g.2.1 0 26), .int p1, .int p2, .int p3] σ r0 σ := by
  refine CtI.of (own := RX10) (by decide) rfl (Nat.le_of_ble_eq_true rfl) [(0, .ref (g.2.1 0 26)), (1, .int p1), (2, .int p2), (3, .int p3)] rfl ?_
  intro X C hN K
  unfold fX10_find_a10_26 at hf
  refine kw_iconst C (0 : Int32) dX10_find_0 rfl ?_
  refine kw_istore C dX10_find_1 hN (Nat.le_of_ble_eq_true rfl) [(4, .int (0 : Int32)), (0, .ref (g.2.1 0 26)), (1, .int p1), (2, .int p2), (3, .int p3)] rfl ?_
  refine kw_sub [1, 2, 3, 4, 0] _ rfl ?_
  refine lpx1_walk (P := fun (x1 : Int32) => KW X σ 3 [(0, .ref (g.2.1 0 26)), (1, .int p1), (2, .int p2), (3, .int p3), (4, .int x1)] []) ?_ FU _ hf
  intro self2 x1 ih3 hf
  refine kw_iload C dX10_find_3 4 rfl ?_
  refine kw_iload_n C dX10_find_5 rfl 2 rfl ?_
  refine kw_icmp_ge C 28 dX10_find_6 rfl (fun c4 => ?_) (fun c4 => ?_)
  · have hf := if_p c4 hf
    refine kw_iconst C (-1 : Int32) dX10_find_28 rfl ?_
    exact kw_iret C K dX10_find_29 (pr_ret hf)
  · have hf := if_n c4 hf
    refine kw_aload_n C dX10_find_9 rfl 0 rfl ?_
    refine kw_iload_n C dX10_find_10 rfl 1 rfl ?_
    refine kw_iload C dX10_find_11 4 rfl ?_
    refine kw_iadd C dX10_find_13 ?_
    obtain ⟨h5, hf⟩ := gd_elim hf
    refine kw_iald C _ 0 (hA10_26 g σ) rfl h5 dX10_find_14 ?_
    refine kw_iload_n C dX10_find_15 rfl 3 rfl ?_
    refine kw_icmp_ne C 22 dX10_find_16 rfl (fun c6 => ?_) (fun c6 => ?_)
    · have hf := if_n c6 hf
      obtain ⟨x7, ex7, hf⟩ := lt_elim hf
      refine kw_iinc C x7 dX10_find_22 4 rfl ex7.symm hN (Nat.le_of_ble_eq_true rfl) [(4, .int x7), (0, .ref (g.2.1 0 26)), (1, .int p1), (2, .int p2), (3, .int p3)] rfl ?_
      refine kw_goto C 3 dX10_find_25 rfl ?_
      refine kw_sub [1, 2, 3, 4, 0] _ rfl ?_
      exact ih3 _ hf
    · have hf := if_p c6 hf
      refine kw_iload C dX10_find_19 4 rfl ?_
      exact kw_iret C K dX10_find_21 (pr_ret hf)
set_option maxRecDepth 100000 in
set_option maxHeartbeats 4000000 in
theorem kX10_newName_a10_26 (L : Launch) (D : va_G) (g : GwT) (t0 : Nat) (p1 : Int32) (p2 : Int32) (σ : St) (r0 : Int32) (σ0 : St) (hf : fX10_newName_a10_26 σ p1 p2 = some (r0, σ0)) : CtI L D (ttG g) (wM g) t0 yX10_newName cX10_newName 4 (some .boolean) { frames := 2, cells := 0, slots := 0, locals := 47 } [.ref (g.1 0), .ref (g.2.1 0 26), .int p1, .int p2] σ r0 σ0 := by
  refine CtI.of (own := RX10) (by decide) rfl (Nat.le_of_ble_eq_true rfl) [(0, .ref (g.1 0)), (1, .ref (g.2.1 0 26)), (2, .int p1), (3, .int p2)] rfl ?_
  intro X C hN K
  unfold fX10_newName_a10_26 at hf
  refine kw_aload_n C dX10_newName_0 rfl 0 rfl ?_
  refine kw_get C inG10 _ (hO10 g σ) rfl 8 (Nat.le_of_ble_eq_true rfl) mf_10_169 rfl rfl dX10_newName_1 ?_
  refine kw_iconst C (2 : Int32) dX10_newName_4 rfl ?_
  refine kw_icmp_eq C 14 dX10_newName_5 rfl (fun c1 => ?_) (fun c1 => ?_)
  · have hf := if_p c1 hf
    refine kw_aload_n C dX10_newName_14 rfl 1 rfl ?_
    refine kw_iload_n C dX10_newName_15 rfl 2 rfl ?_
    refine kw_iload_n C dX10_newName_16 rfl 3 rfl ?_
    refine kw_aload_n C dX10_newName_17 rfl 0 rfl ?_
    refine kw_get C inG10 _ (hO10 g σ) rfl 9 (Nat.le_of_ble_eq_true rfl) mf_10_180 rfl rfl dX10_newName_18 ?_
    obtain ⟨r3, hc2, hf⟩ := bd_elim hf
    refine kw_callSI C [.ref (g.2.1 0 26), .int p1, .int p2, .int (gI σ 0 9)] (kX10_find_a10_26 L D g t0 p1 p2 (gI σ 0 9) σ _ hc2) mS_X10_241 ⟨rfl, rfl⟩ dd_X10_find ⟨Nat.le_of_ble_eq_true rfl, Nat.le_of_ble_eq_true rfl⟩ rfl (Nat.le_of_ble_eq_true rfl) dX10_newName_21 ?_
    refine kw_if_lt C 33 dX10_newName_24 rfl (fun c4 => ?_) (fun c4 => ?_)
    · have hf := if_p c4 hf
      refine kw_aload_n C dX10_newName_33 rfl 1 rfl ?_
      refine kw_iload_n C dX10_newName_34 rfl 2 rfl ?_
      refine kw_iload_n C dX10_newName_35 rfl 3 rfl ?_
      refine kw_iadd C dX10_newName_36 ?_
      refine kw_aload_n C dX10_newName_37 rfl 0 rfl ?_
      refine kw_get C inG10 _ (hO10 g σ) rfl 9 (Nat.le_of_ble_eq_true rfl) mf_10_180 rfl rfl dX10_newName_38 ?_
      obtain ⟨h5, hf⟩ := gd_elim hf
      obtain ⟨σ6, eσ6, hf⟩ := lt_elim hf
      refine kw_iast C _ 0 (hA10_26 g σ) rfl h5 ((hS10_26 g σ _).trans (congrArg (wM g) eσ6.symm)) dX10_newName_41 ?_
      refine kw_aload_n C dX10_newName_42 rfl 0 rfl ?_
      obtain ⟨σ8, hc7, hf⟩ := bV_elim hf
      refine kw_callVV C [] (kX10_token L D g t0 σ6 _ hc7) RX10 mV_X10_203 ⟨rfl, rfl⟩ dd_X10_token ⟨Nat.le_of_ble_eq_true rfl, Nat.le_of_ble_eq_true rfl⟩ _ (hO10 g σ6) rfl rfl rfl (Nat.le_of_ble_eq_true rfl) dX10_newName_43 ?_
      refine kw_iconst C (1 : Int32) dX10_newName_46 rfl ?_
      exact kw_zret C K (by decide) dX10_newName_47 hf
    · have hf := if_n c4 hf
      refine kw_aload_n C dX10_newName_27 rfl 0 rfl ?_
      refine kw_iconst C (3 : Int32) dX10_newName_28 rfl ?_
      obtain ⟨r10, σ11, hc9, hf⟩ := bI_elim hf
      refine kw_callVI C [.int (3 : Int32)] (kX10_wrong L D g t0 (3 : Int32) σ _ _ hc9) RX10 mV_X10_193 ⟨rfl, rfl⟩ dd_X10_wrong ⟨Nat.le_of_ble_eq_true rfl, Nat.le_of_ble_eq_true rfl⟩ _ (hO10 g σ) rfl rfl rfl (Nat.le_of_ble_eq_true rfl) dX10_newName_29 ?_
      obtain ⟨h12, hf⟩ := gd_elim hf
      exact kw_zret C K h12 dX10_newName_32 hf
  · have hf := if_n c1 hf
    refine kw_aload_n C dX10_newName_8 rfl 0 rfl ?_
    refine kw_iconst C (1 : Int32) dX10_newName_9 rfl ?_
    obtain ⟨r14, σ15, hc13, hf⟩ := bI_elim hf
    refine kw_callVI C [.int (1 : Int32)] (kX10_wrong L D g t0 (1 : Int32) σ _ _ hc13) RX10 mV_X10_193 ⟨rfl, rfl⟩ dd_X10_wrong ⟨Nat.le_of_ble_eq_true rfl, Nat.le_of_ble_eq_true rfl⟩ _ (hO10 g σ) rfl rfl rfl (Nat.le_of_ble_eq_true rfl) dX10_newName_10 ?_
    obtain ⟨h16, hf⟩ := gd_elim hf
    exact kw_zret C K h16 dX10_newName_13 hf
set_option maxRecDepth 100000 in
set_option maxHeartbeats 4000000 in
theorem kX10_partLine (L : Launch) (D : va_G) (g : GwT) (t0 : Nat) (σ : St) (r0 : Int32) (σ0 : St) (hf : fX10_partLine σ  = some (r0, σ0)) : CtI L D (ttG g) (wM g) t0 yX10_partLine cX10_partLine 1 (some .boolean) { frames := 3, cells := 0, slots := 0, locals := 70 } [.ref (g.1 0)] σ r0 σ0 := by
  refine CtI.of (own := RX10) (by decide) rfl (Nat.le_of_ble_eq_true rfl) [(0, .ref (g.1 0))] rfl ?_
  intro X C hN K
  unfold fX10_partLine at hf
  refine kw_aload_n C dX10_partLine_0 rfl 0 rfl ?_
  refine kw_get C inG10 _ (hO10 g σ) rfl 16 (Nat.le_of_ble_eq_true rfl) mf_10_216 rfl rfl dX10_partLine_1 ?_
  refine kw_bipush C (6 : Int32) dX10_partLine_4 rfl ?_
  refine kw_icmp_ne C 15 dX10_partLine_6 rfl (fun c1 => ?_) (fun c1 => ?_)
  · have hf := if_n c1 hf
    refine kw_aload_n C dX10_partLine_15 rfl 0 rfl ?_
    obtain ⟨σ3, hc2, hf⟩ := bV_elim hf
    refine kw_callVV C [] (kX10_token L D g t0 σ _ hc2) RX10 mV_X10_203 ⟨rfl, rfl⟩ dd_X10_token ⟨Nat.le_of_ble_eq_true rfl, Nat.le_of_ble_eq_true rfl⟩ _ (hO10 g σ) rfl rfl rfl (Nat.le_of_ble_eq_true rfl) dX10_partLine_16 ?_
    refine kw_aload_n C dX10_partLine_19 rfl 0 rfl ?_
    refine kw_aload_n C dX10_partLine_20 rfl 0 rfl ?_
    refine kw_get C inG10 _ (hO10 g σ3) rfl 26 (Nat.le_of_ble_eq_true rfl) mf_10_45 rfl rfl dX10_partLine_21 ?_
    refine kw_bipush C (6 : Int32) dX10_partLine_24 rfl ?_
    refine kw_aload_n C dX10_partLine_26 rfl 0 rfl ?_
    refine kw_get C inG10 _ (hO10 g σ3) rfl 16 (Nat.le_of_ble_eq_true rfl) mf_10_216 rfl rfl dX10_partLine_27 ?_
    obtain ⟨r5, σ6, hc4, hf⟩ := bI_elim hf
    refine kw_callVI C [.ref (g.2.1 0 26), .int (6 : Int32), .int (gI σ3 0 16)] (kX10_newName_a10_26 L D g t0 (6 : Int32) (gI σ3 0 16) σ3 _ _ hc4) RX10 mV_X10_245 ⟨rfl, rfl⟩ dd_X10_newName ⟨Nat.le_of_ble_eq_true rfl, Nat.le_of_ble_eq_true rfl⟩ _ (hO10 g σ3) rfl rfl rfl (Nat.le_of_ble_eq_true rfl) dX10_partLine_30 ?_
    refine kw_if_ne C 38 dX10_partLine_33 rfl (fun c7 => ?_) (fun c7 => ?_)
    · have hf := if_n c7 hf
      refine kw_aload_n C dX10_partLine_38 rfl 0 rfl ?_
      refine kw_iconst C (1 : Int32) dX10_partLine_39 rfl ?_
      refine kw_bipush C (99 : Int32) dX10_partLine_40 rfl ?_
      obtain ⟨r9, σ10, hc8, hf⟩ := bI_elim hf
      refine kw_callVI C [.int (1 : Int32), .int (99 : Int32)] (kX10_number L D g t0 (1 : Int32) (99 : Int32) σ6 _ _ hc8) RX10 mV_X10_209 ⟨rfl, rfl⟩ dd_X10_number ⟨Nat.le_of_ble_eq_true rfl, Nat.le_of_ble_eq_true rfl⟩ _ (hO10 g σ6) rfl rfl rfl (Nat.le_of_ble_eq_true rfl) dX10_partLine_42 ?_
      refine kw_if_ne C 50 dX10_partLine_45 rfl (fun c11 => ?_) (fun c11 => ?_)
      · have hf := if_n c11 hf
        refine kw_aload_n C dX10_partLine_50 rfl 0 rfl ?_
        refine kw_get C inG10 _ (hO10 g σ10) rfl 27 (Nat.le_of_ble_eq_true rfl) mf_10_48 rfl rfl dX10_partLine_51 ?_
        refine kw_bipush C (6 : Int32) dX10_partLine_54 rfl ?_
        refine kw_aload_n C dX10_partLine_56 rfl 0 rfl ?_
        refine kw_get C inG10 _ (hO10 g σ10) rfl 16 (Nat.le_of_ble_eq_true rfl) mf_10_216 rfl rfl dX10_partLine_57 ?_
        refine kw_iadd C dX10_partLine_60 ?_
        refine kw_aload_n C dX10_partLine_61 rfl 0 rfl ?_
        refine kw_get C inG10 _ (hO10 g σ10) rfl 11 (Nat.le_of_ble_eq_true rfl) mf_10_200 rfl rfl dX10_partLine_62 ?_
        obtain ⟨h12, hf⟩ := gd_elim hf
        obtain ⟨σ13, eσ13, hf⟩ := lt_elim hf
        refine kw_iast C _ 0 (hA10_27 g σ10) rfl h12 ((hS10_27 g σ10 _).trans (congrArg (wM g) eσ13.symm)) dX10_partLine_65 ?_
        refine kw_aload_n C dX10_partLine_66 rfl 0 rfl ?_
        refine kw_iconst C (0 : Int32) dX10_partLine_67 rfl ?_
        refine kw_bipush C (99 : Int32) dX10_partLine_68 rfl ?_
        obtain ⟨r15, σ16, hc14, hf⟩ := bI_elim hf
        refine kw_callVI C [.int (0 : Int32), .int (99 : Int32)] (kX10_number L D g t0 (0 : Int32) (99 : Int32) σ13 _ _ hc14) RX10 mV_X10_209 ⟨rfl, rfl⟩ dd_X10_number ⟨Nat.le_of_ble_eq_true rfl, Nat.le_of_ble_eq_true rfl⟩ _ (hO10 g σ13) rfl rfl rfl (Nat.le_of_ble_eq_true rfl) dX10_partLine_70 ?_
        refine kw_if_ne C 78 dX10_partLine_73 rfl (fun c17 => ?_) (fun c17 => ?_)
        · have hf := if_n c17 hf
          refine kw_aload_n C dX10_partLine_78 rfl 0 rfl ?_
          refine kw_get C inG10 _ (hO10 g σ16) rfl 28 (Nat.le_of_ble_eq_true rfl) mf_10_51 rfl rfl dX10_partLine_79 ?_
          refine kw_bipush C (6 : Int32) dX10_partLine_82 rfl ?_
          refine kw_aload_n C dX10_partLine_84 rfl 0 rfl ?_
          refine kw_get C inG10 _ (hO10 g σ16) rfl 16 (Nat.le_of_ble_eq_true rfl) mf_10_216 rfl rfl dX10_partLine_85 ?_
          refine kw_iadd C dX10_partLine_88 ?_
          refine kw_aload_n C dX10_partLine_89 rfl 0 rfl ?_
          refine kw_get C inG10 _ (hO10 g σ16) rfl 11 (Nat.le_of_ble_eq_true rfl) mf_10_200 rfl rfl dX10_partLine_90 ?_
          obtain ⟨h18, hf⟩ := gd_elim hf
          obtain ⟨σ19, eσ19, hf⟩ := lt_elim hf
          refine kw_iast C _ 0 (hA10_28 g σ16) rfl h18 ((hS10_28 g σ16 _).trans (congrArg (wM g) eσ19.symm)) dX10_partLine_93 ?_
          refine kw_aload_n C dX10_partLine_94 rfl 0 rfl ?_
          refine kw_dup C dX10_partLine_95 rfl ?_
          refine kw_get C inG10 _ (hO10 g σ19) rfl 16 (Nat.le_of_ble_eq_true rfl) mf_10_216 rfl rfl dX10_partLine_96 ?_
          refine kw_iconst C (1 : Int32) dX10_partLine_99 rfl ?_
          refine kw_iadd C dX10_partLine_100 ?_
          obtain ⟨σ20, eσ20, hf⟩ := lt_elim hf
          refine kw_put C inG10 tyX10 tyX10_ok nmX10 _ (hO10 g σ19) rfl 16 (Nat.le_of_ble_eq_true rfl) mf_10_216 rfl rfl (tyX10_ok 16 (Nat.le_of_ble_eq_true rfl)) rfl rfl (Nat.le_of_ble_eq_true rfl) ((hF10_16 g σ19 _).trans (congrArg (wM g) eσ20.symm)) dX10_partLine_101 ?_
          refine kw_iconst C (1 : Int32) dX10_partLine_104 rfl ?_
          exact kw_zret C K (by decide) dX10_partLine_105 hf
        · have hf := if_p c17 hf
          refine kw_iconst C (0 : Int32) dX10_partLine_76 rfl ?_
          exact kw_zret C K (by decide) dX10_partLine_77 hf
      · have hf := if_p c11 hf
        refine kw_iconst C (0 : Int32) dX10_partLine_48 rfl ?_
        exact kw_zret C K (by decide) dX10_partLine_49 hf
    · have hf := if_p c7 hf
      refine kw_iconst C (0 : Int32) dX10_partLine_36 rfl ?_
      exact kw_zret C K (by decide) dX10_partLine_37 hf
  · have hf := if_p c1 hf
    refine kw_aload_n C dX10_partLine_9 rfl 0 rfl ?_
    refine kw_iconst C (2 : Int32) dX10_partLine_10 rfl ?_
    obtain ⟨r22, σ23, hc21, hf⟩ := bI_elim hf
    refine kw_callVI C [.int (2 : Int32)] (kX10_wrong L D g t0 (2 : Int32) σ _ _ hc21) RX10 mV_X10_193 ⟨rfl, rfl⟩ dd_X10_wrong ⟨Nat.le_of_ble_eq_true rfl, Nat.le_of_ble_eq_true rfl⟩ _ (hO10 g σ) rfl rfl rfl (Nat.le_of_ble_eq_true rfl) dX10_partLine_11 ?_
    obtain ⟨h24, hf⟩ := gd_elim hf
    exact kw_zret C K h24 dX10_partLine_14 hf
set_option maxRecDepth 100000 in
set_option maxHeartbeats 4000000 in
theorem kX10_onceLine (L : Launch) (D : va_G) (g : GwT) (t0 : Nat) (p0 : Int32) (p1 : Int32) (p2 : Int32) (σ : St) (r0 : Int32) (σ0 : St) (hf : fX10_onceLine σ p0 p1 p2 = some (r0, σ0)) : CtI L D (ttG g) (wM g) t0 yX10_onceLine cX10_onceLine 4 (some .boolean) { frames := 3, cells := 0, slots := 0, locals := 69 } [.ref (g.1 0), .int p0, .int p1, .int p2] σ r0 σ0 := by
  refine CtI.of (own := RX10) (by decide) rfl (Nat.le_of_ble_eq_true rfl) [(0, .ref (g.1 0)), (1, .int p0), (2, .int p1), (3, .int p2)] rfl ?_
  intro X C hN K
  unfold fX10_onceLine at hf
  refine kw_aload_n C dX10_onceLine_0 rfl 0 rfl ?_
  refine kw_get C inG10 _ (hO10 g σ) rfl 18 (Nat.le_of_ble_eq_true rfl) mf_10_20 rfl rfl dX10_onceLine_1 ?_
  refine kw_iload_n C dX10_onceLine_4 rfl 1 rfl ?_
  obtain ⟨h1, hf⟩ := gd_elim hf
  refine kw_zald C _ 3 (hA10_18 g σ) rfl h1 dX10_onceLine_5 ?_
  refine kw_if_eq C 15 dX10_onceLine_6 rfl (fun c2 => ?_) (fun c2 => ?_)
  · have hf := if_p c2 hf
    refine kw_aload_n C dX10_onceLine_15 rfl 0 rfl ?_
    refine kw_get C inG10 _ (hO10 g σ) rfl 18 (Nat.le_of_ble_eq_true rfl) mf_10_20 rfl rfl dX10_onceLine_16 ?_
    refine kw_iload_n C dX10_onceLine_19 rfl 1 rfl ?_
    refine kw_iconst C (1 : Int32) dX10_onceLine_20 rfl ?_
    obtain ⟨h3, hf⟩ := gd_elim hf
    obtain ⟨σ4, eσ4, hf⟩ := lt_elim hf
    refine kw_zast C _ 3 (hA10_18 g σ) rfl h3 ((hS10_18 g σ _).trans (congrArg (wM g) eσ4.symm)) dX10_onceLine_21 ?_
    refine kw_aload_n C dX10_onceLine_22 rfl 0 rfl ?_
    obtain ⟨σ6, hc5, hf⟩ := bV_elim hf
    refine kw_callVV C [] (kX10_token L D g t0 σ4 _ hc5) RX10 mV_X10_203 ⟨rfl, rfl⟩ dd_X10_token ⟨Nat.le_of_ble_eq_true rfl, Nat.le_of_ble_eq_true rfl⟩ _ (hO10 g σ4) rfl rfl rfl (Nat.le_of_ble_eq_true rfl) dX10_onceLine_23 ?_
    refine kw_aload_n C dX10_onceLine_26 rfl 0 rfl ?_
    refine kw_iload_n C dX10_onceLine_27 rfl 2 rfl ?_
    refine kw_iload_n C dX10_onceLine_28 rfl 3 rfl ?_
    obtain ⟨r8, σ9, hc7, hf⟩ := bI_elim hf
    refine kw_callVI C [.int p1, .int p2] (kX10_number L D g t0 p1 p2 σ6 _ _ hc7) RX10 mV_X10_209 ⟨rfl, rfl⟩ dd_X10_number ⟨Nat.le_of_ble_eq_true rfl, Nat.le_of_ble_eq_true rfl⟩ _ (hO10 g σ6) rfl rfl rfl (Nat.le_of_ble_eq_true rfl) dX10_onceLine_29 ?_
    refine kw_if_ne C 37 dX10_onceLine_32 rfl (fun c10 => ?_) (fun c10 => ?_)
    · have hf := if_n c10 hf
      refine kw_aload_n C dX10_onceLine_37 rfl 0 rfl ?_
      refine kw_get C inG10 _ (hO10 g σ9) rfl 19 (Nat.le_of_ble_eq_true rfl) mf_10_24 rfl rfl dX10_onceLine_38 ?_
      refine kw_iconst C (3 : Int32) dX10_onceLine_41 rfl ?_
      refine kw_iload_n C dX10_onceLine_42 rfl 1 rfl ?_
      refine kw_iadd C dX10_onceLine_43 ?_
      refine kw_aload_n C dX10_onceLine_44 rfl 0 rfl ?_
      refine kw_get C inG10 _ (hO10 g σ9) rfl 11 (Nat.le_of_ble_eq_true rfl) mf_10_200 rfl rfl dX10_onceLine_45 ?_
      obtain ⟨h11, hf⟩ := gd_elim hf
      obtain ⟨σ12, eσ12, hf⟩ := lt_elim hf
      refine kw_iast C _ 0 (hA10_19 g σ9) rfl h11 ((hS10_19 g σ9 _).trans (congrArg (wM g) eσ12.symm)) dX10_onceLine_48 ?_
      refine kw_iconst C (1 : Int32) dX10_onceLine_49 rfl ?_
      exact kw_zret C K (by decide) dX10_onceLine_50 hf
    · have hf := if_p c10 hf
      refine kw_iconst C (0 : Int32) dX10_onceLine_35 rfl ?_
      exact kw_zret C K (by decide) dX10_onceLine_36 hf
  · have hf := if_n c2 hf
    refine kw_aload_n C dX10_onceLine_9 rfl 0 rfl ?_
    refine kw_iconst C (3 : Int32) dX10_onceLine_10 rfl ?_
    obtain ⟨r14, σ15, hc13, hf⟩ := bI_elim hf
    refine kw_callVI C [.int (3 : Int32)] (kX10_wrong L D g t0 (3 : Int32) σ _ _ hc13) RX10 mV_X10_193 ⟨rfl, rfl⟩ dd_X10_wrong ⟨Nat.le_of_ble_eq_true rfl, Nat.le_of_ble_eq_true rfl⟩ _ (hO10 g σ) rfl rfl rfl (Nat.le_of_ble_eq_true rfl) dX10_onceLine_11 ?_
    obtain ⟨h16, hf⟩ := gd_elim hf
    exact kw_zret C K h16 dX10_onceLine_14 hf
set_option maxRecDepth 100000 in
set_option maxHeartbeats 4000000 in
theorem kX10_isKey (L : Launch) (D : va_G) (g : GwT) (t0 : Nat) (p0 : Int32) (σ : St) (r0 : Int32) (hf : fX10_isKey σ p0 = some r0) : CtI L D (ttG g) (wM g) t0 yX10_isKey cX10_isKey 2 (some .boolean) { frames := 0, cells := 0, slots := 0, locals := 0 } [.ref (g.1 0), .int p0] σ r0 σ := by
  refine CtI.of (own := RX10) (by decide) rfl (Nat.le_of_ble_eq_true rfl) [(0, .ref (g.1 0)), (1, .int p0)] rfl ?_
  intro X C hN K
  unfold fX10_isKey at hf
  refine kw_aload_n C dX10_isKey_0 rfl 0 rfl ?_
  refine kw_get C inG10 _ (hO10 g σ) rfl 8 (Nat.le_of_ble_eq_true rfl) mf_10_169 rfl rfl dX10_isKey_1 ?_
  refine kw_iconst C (1 : Int32) dX10_isKey_4 rfl ?_
  obtain ⟨J2, hJ2, hf⟩ := jnx1_elim hf
  have kJ2 : ∀ (x1 : Int32), J2 x1 = some r0 → KW X σ 21 [] [.int x1] := by
    clear hf
    intro x1 hf
    have hf := (hJ2 x1).symm.trans hf
    obtain ⟨h3, hf⟩ := gd_elim hf
    exact kw_zret C K h3 dX10_isKey_21 (pr_ret hf)
  obtain ⟨J4, hJ4, hf⟩ := jnx1_elim hf
  have kJ4 : ∀ (u9 : Unit), J4 u9 = some r0 → KW X σ 20 [] [] := by
    clear hf
    intro u9 hf
    have hf := (hJ4 u9).symm.trans hf
    refine kw_iconst C (0 : Int32) dX10_isKey_20 rfl ?_
    exact kJ2 _ hf
  refine kw_icmp_ne C 20 dX10_isKey_5 rfl (fun c5 => ?_) (fun c5 => ?_)
  · have hf := if_n c5 hf
    refine kw_sub [] _ rfl ?_
    exact kJ4 _ hf
  · have hf := if_p c5 hf
    refine kw_aload_n C dX10_isKey_8 rfl 0 rfl ?_
    refine kw_get C inG10 _ (hO10 g σ) rfl 9 (Nat.le_of_ble_eq_true rfl) mf_10_180 rfl rfl dX10_isKey_9 ?_
    refine kw_iload_n C dX10_isKey_12 rfl 1 rfl ?_
    refine kw_icmp_ne C 20 dX10_isKey_13 rfl (fun c6 => ?_) (fun c6 => ?_)
    · have hf := if_n c6 hf
      refine kw_sub [] _ rfl ?_
      exact kJ4 _ hf
    · have hf := if_p c6 hf
      refine kw_iconst C (1 : Int32) dX10_isKey_16 rfl ?_
      refine kw_goto C 21 dX10_isKey_17 rfl ?_
      refine kw_sub [] _ rfl ?_
      exact kJ2 _ hf
set_option maxRecDepth 100000 in
set_option maxHeartbeats 4000000 in
theorem kX10_rank (L : Launch) (D : va_G) (g : GwT) (t0 : Nat) (p0 : Int32) (σ : St) (r0 : Int32) (hf : fX10_rank σ p0 = some r0) : CtI L D (ttG g) (wM g) t0 yX10_rank cX10_rank 1 (some .int) { frames := 0, cells := 0, slots := 0, locals := 0 } [.int p0] σ r0 σ := by
  refine CtI.of (own := RX10) (by decide) rfl (Nat.le_of_ble_eq_true rfl) [(0, .int p0)] rfl ?_
  intro X C hN K
  unfold fX10_rank at hf
  refine kw_iload_n C dX10_rank_0 rfl 0 rfl ?_
  refine kw_bipush C (13 : Int32) dX10_rank_1 rfl ?_
  obtain ⟨J2, hJ2, hf⟩ := jnx1_elim hf
  have kJ2 : ∀ (x1 : Int32), J2 x1 = some r0 → KW X σ 58 [] [.int x1] := by
    clear hf
    intro x1 hf
    have hf := (hJ2 x1).symm.trans hf
    exact kw_iret C K dX10_rank_58 (pr_ret hf)
  refine kw_icmp_lt C 11 dX10_rank_3 rfl (fun c3 => ?_) (fun c3 => ?_)
  · have hf := if_p c3 hf
    refine kw_iload_n C dX10_rank_11 rfl 0 rfl ?_
    refine kw_bipush C (11 : Int32) dX10_rank_12 rfl ?_
    refine kw_icmp_lt C 21 dX10_rank_14 rfl (fun c4 => ?_) (fun c4 => ?_)
    · have hf := if_p c4 hf
      refine kw_iload_n C dX10_rank_21 rfl 0 rfl ?_
      refine kw_iconst C (5 : Int32) dX10_rank_22 rfl ?_
      refine kw_icmp_lt C 30 dX10_rank_23 rfl (fun c5 => ?_) (fun c5 => ?_)
      · have hf := if_p c5 hf
        refine kw_iload_n C dX10_rank_30 rfl 0 rfl ?_
        refine kw_iconst C (2 : Int32) dX10_rank_31 rfl ?_
        refine kw_icmp_ne C 39 dX10_rank_32 rfl (fun c6 => ?_) (fun c6 => ?_)
        · have hf := if_n c6 hf
          refine kw_iload_n C dX10_rank_39 rfl 0 rfl ?_
          refine kw_iconst C (3 : Int32) dX10_rank_40 rfl ?_
          refine kw_icmp_ne C 48 dX10_rank_41 rfl (fun c7 => ?_) (fun c7 => ?_)
          · have hf := if_n c7 hf
            refine kw_iload_n C dX10_rank_48 rfl 0 rfl ?_
            refine kw_iconst C (4 : Int32) dX10_rank_49 rfl ?_
            refine kw_icmp_ne C 57 dX10_rank_50 rfl (fun c8 => ?_) (fun c8 => ?_)
            · have hf := if_n c8 hf
              refine kw_iconst C (0 : Int32) dX10_rank_57 rfl ?_
              refine kw_sub [] _ rfl ?_
              exact kJ2 _ hf
            · have hf := if_p c8 hf
              refine kw_iconst C (1 : Int32) dX10_rank_53 rfl ?_
              refine kw_goto C 58 dX10_rank_54 rfl ?_
              refine kw_sub [] _ rfl ?_
              exact kJ2 _ hf
          · have hf := if_p c7 hf
            refine kw_iconst C (2 : Int32) dX10_rank_44 rfl ?_
            refine kw_goto C 58 dX10_rank_45 rfl ?_
            refine kw_sub [] _ rfl ?_
            exact kJ2 _ hf
        · have hf := if_p c6 hf
          refine kw_iconst C (3 : Int32) dX10_rank_35 rfl ?_
          refine kw_goto C 58 dX10_rank_36 rfl ?_
          refine kw_sub [] _ rfl ?_
          exact kJ2 _ hf
      · have hf := if_n c5 hf
        refine kw_iconst C (4 : Int32) dX10_rank_26 rfl ?_
        refine kw_goto C 58 dX10_rank_27 rfl ?_
        refine kw_sub [] _ rfl ?_
        exact kJ2 _ hf
    · have hf := if_n c4 hf
      refine kw_iconst C (5 : Int32) dX10_rank_17 rfl ?_
      refine kw_goto C 58 dX10_rank_18 rfl ?_
      refine kw_sub [] _ rfl ?_
      exact kJ2 _ hf
  · have hf := if_n c3 hf
    refine kw_bipush C (6 : Int32) dX10_rank_6 rfl ?_
    refine kw_goto C 58 dX10_rank_8 rfl ?_
    refine kw_sub [] _ rfl ?_
    exact kJ2 _ hf
set_option maxRecDepth 100000 in
set_option maxHeartbeats 4000000 in
theorem kX10_dropHeld (L : Launch) (D : va_G) (g : GwT) (t0 : Nat) (σ : St) (r0 : Int32) (σ0 : St) (hf : fX10_dropHeld σ  = some (r0, σ0)) : CtI L D (ttG g) (wM g) t0 yX10_dropHeld cX10_dropHeld 1 (some .int) { frames := 0, cells := 0, slots := 0, locals := 0 } [.ref (g.1 0)] σ r0 σ0 := by
  refine CtI.of (own := RX10) (by decide) rfl (Nat.le_of_ble_eq_true rfl) [(0, .ref (g.1 0))] rfl ?_
  intro X C hN K
  unfold fX10_dropHeld at hf
  refine kw_aload_n C dX10_dropHeld_0 rfl 0 rfl ?_
  refine kw_dup C dX10_dropHeld_1 rfl ?_
  refine kw_get C inG10 _ (hO10 g σ) rfl 38 (Nat.le_of_ble_eq_true rfl) mf_10_265 rfl rfl dX10_dropHeld_2 ?_
  refine kw_iconst C (1 : Int32) dX10_dropHeld_5 rfl ?_
  refine kw_isub C dX10_dropHeld_6 ?_
  obtain ⟨σ1, eσ1, hf⟩ := lt_elim hf
  refine kw_put C inG10 tyX10 tyX10_ok nmX10 _ (hO10 g σ) rfl 38 (Nat.le_of_ble_eq_true rfl) mf_10_265 rfl rfl (tyX10_ok 38 (Nat.le_of_ble_eq_true rfl)) rfl rfl (Nat.le_of_ble_eq_true rfl) ((hF10_38 g σ _).trans (congrArg (wM g) eσ1.symm)) dX10_dropHeld_7 ?_
  refine kw_aload_n C dX10_dropHeld_10 rfl 0 rfl ?_
  refine kw_get C inG10 _ (hO10 g σ1) rfl 36 (Nat.le_of_ble_eq_true rfl) mf_10_75 rfl rfl dX10_dropHeld_11 ?_
  refine kw_aload_n C dX10_dropHeld_14 rfl 0 rfl ?_
  refine kw_get C inG10 _ (hO10 g σ1) rfl 38 (Nat.le_of_ble_eq_true rfl) mf_10_265 rfl rfl dX10_dropHeld_15 ?_
  obtain ⟨h2, hf⟩ := gd_elim hf
  refine kw_iald C _ 0 (hA10_36 g σ1) rfl h2 dX10_dropHeld_18 ?_
  exact kw_iret C K dX10_dropHeld_19 hf
set_option maxRecDepth 100000 in
set_option maxHeartbeats 4000000 in
theorem kX10_grown (L : Launch) (D : va_G) (g : GwT) (t0 : Nat) (p0 : Int32) (p1 : Int32) (p2 : Int32) (σ : St) (σ0 : St) (hf : fX10_grown σ p0 p1 p2 = some σ0) : CtV L D (ttG g) (wM g) t0 yX10_grown cX10_grown 4 none { frames := 0, cells := 0, slots := 0, locals := 0 } [.ref (g.1 0), .int p0, .int p1, .int p2] σ σ0 := by
  refine CtV.of (own := RX10) (by decide) rfl (Nat.le_of_ble_eq_true rfl) [(0, .ref (g.1 0)), (1, .int p0), (2, .int p1), (3, .int p2)] rfl ?_
  intro X C hN K
  unfold fX10_grown at hf
  refine kw_aload_n C dX10_grown_0 rfl 0 rfl ?_
  refine kw_get C inG10 _ (hO10 g σ) rfl 32 (Nat.le_of_ble_eq_true rfl) mf_10_63 rfl rfl dX10_grown_1 ?_
  refine kw_bipush C (64 : Int32) dX10_grown_4 rfl ?_
  refine kw_aload_n C dX10_grown_6 rfl 0 rfl ?_
  refine kw_get C inG10 _ (hO10 g σ) rfl 17 (Nat.le_of_ble_eq_true rfl) mf_10_219 rfl rfl dX10_grown_7 ?_
  refine kw_iadd C dX10_grown_10 ?_
  refine kw_iload_n C dX10_grown_11 rfl 1 rfl ?_
  obtain ⟨h1, hf⟩ := gd_elim hf
  obtain ⟨σ2, eσ2, hf⟩ := lt_elim hf
  refine kw_iast C _ 0 (hA10_32 g σ) rfl h1 ((hS10_32 g σ _).trans (congrArg (wM g) eσ2.symm)) dX10_grown_12 ?_
  refine kw_aload_n C dX10_grown_13 rfl 0 rfl ?_
  refine kw_get C inG10 _ (hO10 g σ2) rfl 33 (Nat.le_of_ble_eq_true rfl) mf_10_66 rfl rfl dX10_grown_14 ?_
  refine kw_bipush C (64 : Int32) dX10_grown_17 rfl ?_
  refine kw_aload_n C dX10_grown_19 rfl 0 rfl ?_
  refine kw_get C inG10 _ (hO10 g σ2) rfl 17 (Nat.le_of_ble_eq_true rfl) mf_10_219 rfl rfl dX10_grown_20 ?_
  refine kw_iadd C dX10_grown_23 ?_
  refine kw_iload_n C dX10_grown_24 rfl 2 rfl ?_
  obtain ⟨h3, hf⟩ := gd_elim hf
  obtain ⟨σ4, eσ4, hf⟩ := lt_elim hf
  refine kw_iast C _ 0 (hA10_33 g σ2) rfl h3 ((hS10_33 g σ2 _).trans (congrArg (wM g) eσ4.symm)) dX10_grown_25 ?_
  refine kw_aload_n C dX10_grown_26 rfl 0 rfl ?_
  refine kw_get C inG10 _ (hO10 g σ4) rfl 34 (Nat.le_of_ble_eq_true rfl) mf_10_69 rfl rfl dX10_grown_27 ?_
  refine kw_bipush C (64 : Int32) dX10_grown_30 rfl ?_
  refine kw_aload_n C dX10_grown_32 rfl 0 rfl ?_
  refine kw_get C inG10 _ (hO10 g σ4) rfl 17 (Nat.le_of_ble_eq_true rfl) mf_10_219 rfl rfl dX10_grown_33 ?_
  refine kw_iadd C dX10_grown_36 ?_
  refine kw_iload_n C dX10_grown_37 rfl 3 rfl ?_
  obtain ⟨h5, hf⟩ := gd_elim hf
  obtain ⟨σ6, eσ6, hf⟩ := lt_elim hf
  refine kw_iast C _ 0 (hA10_34 g σ4) rfl h5 ((hS10_34 g σ4 _).trans (congrArg (wM g) eσ6.symm)) dX10_grown_38 ?_
  refine kw_aload_n C dX10_grown_39 rfl 0 rfl ?_
  refine kw_get C inG10 _ (hO10 g σ6) rfl 36 (Nat.le_of_ble_eq_true rfl) mf_10_75 rfl rfl dX10_grown_40 ?_
  refine kw_aload_n C dX10_grown_43 rfl 0 rfl ?_
  refine kw_get C inG10 _ (hO10 g σ6) rfl 38 (Nat.le_of_ble_eq_true rfl) mf_10_265 rfl rfl dX10_grown_44 ?_
  refine kw_aload_n C dX10_grown_47 rfl 0 rfl ?_
  refine kw_get C inG10 _ (hO10 g σ6) rfl 17 (Nat.le_of_ble_eq_true rfl) mf_10_219 rfl rfl dX10_grown_48 ?_
  obtain ⟨h7, hf⟩ := gd_elim hf
  obtain ⟨σ8, eσ8, hf⟩ := lt_elim hf
  refine kw_iast C _ 0 (hA10_36 g σ6) rfl h7 ((hS10_36 g σ6 _).trans (congrArg (wM g) eσ8.symm)) dX10_grown_51 ?_
  refine kw_aload_n C dX10_grown_52 rfl 0 rfl ?_
  refine kw_dup C dX10_grown_53 rfl ?_
  refine kw_get C inG10 _ (hO10 g σ8) rfl 38 (Nat.le_of_ble_eq_true rfl) mf_10_265 rfl rfl dX10_grown_54 ?_
  refine kw_iconst C (1 : Int32) dX10_grown_57 rfl ?_
  refine kw_iadd C dX10_grown_58 ?_
  obtain ⟨σ9, eσ9, hf⟩ := lt_elim hf
  refine kw_put C inG10 tyX10 tyX10_ok nmX10 _ (hO10 g σ8) rfl 38 (Nat.le_of_ble_eq_true rfl) mf_10_265 rfl rfl (tyX10_ok 38 (Nat.le_of_ble_eq_true rfl)) rfl rfl (Nat.le_of_ble_eq_true rfl) ((hF10_38 g σ8 _).trans (congrArg (wM g) eσ9.symm)) dX10_grown_59 ?_
  refine kw_aload_n C dX10_grown_62 rfl 0 rfl ?_
  refine kw_dup C dX10_grown_63 rfl ?_
  refine kw_get C inG10 _ (hO10 g σ9) rfl 17 (Nat.le_of_ble_eq_true rfl) mf_10_219 rfl rfl dX10_grown_64 ?_
  refine kw_iconst C (1 : Int32) dX10_grown_67 rfl ?_
  refine kw_iadd C dX10_grown_68 ?_
  obtain ⟨σ10, eσ10, hf⟩ := lt_elim hf
  refine kw_put C inG10 tyX10 tyX10_ok nmX10 _ (hO10 g σ9) rfl 17 (Nat.le_of_ble_eq_true rfl) mf_10_219 rfl rfl (tyX10_ok 17 (Nat.le_of_ble_eq_true rfl)) rfl rfl (Nat.le_of_ble_eq_true rfl) ((hF10_17 g σ9 _).trans (congrArg (wM g) eσ10.symm)) dX10_grown_69 ?_
  exact kw_vret (u9 := ()) C K dX10_grown_72 hf
set_option maxRecDepth 100000 in
set_option maxHeartbeats 4000000 in
theorem kX10_bind (L : Launch) (D : va_G) (g : GwT) (t0 : Nat) (p0 : Int32) (σ : St) (σ0 : St) (hf : fX10_bind σ p0 = some σ0) : CtV L D (ttG g) (wM g) t0 yX10_bind cX10_bind 5 none { frames := 1, cells := 0, slots := 0, locals := 23 } [.ref (g.1 0), .int p0] σ σ0 := by
  refine CtV.of (own := RX10) (by decide) rfl (Nat.le_of_ble_eq_true rfl) [(0, .ref (g.1 0)), (1, .int p0)] rfl ?_
  intro X C hN K
  unfold fX10_bind at hf
  refine lpx1_walk (P := fun (σ1 : St) => KW X σ1 0 [(0, .ref (g.1 0)), (1, .int p0)] []) ?_ FU _ hf
  intro self2 σ1 ih3 hf
  refine kw_aload_n C dX10_bind_0 rfl 0 rfl ?_
  refine kw_get C inG10 _ (hO10 g σ1) rfl 37 (Nat.le_of_ble_eq_true rfl) mf_10_268 rfl rfl dX10_bind_1 ?_
  obtain ⟨J4, hJ4, hf⟩ := jnx1_elim hf
  have kJ4 : ∀ (u9 : Unit), J4 u9 = some σ0 → KW X σ1 76 [] [] := by
    clear hf
    intro u9 hf
    have hf := (hJ4 u9).symm.trans hf
    exact kw_vret (u9 := ()) C K dX10_bind_76 hf
  refine kw_if_le C 76 dX10_bind_4 rfl (fun c5 => ?_) (fun c5 => ?_)
  · have hf := if_p c5 hf
    refine kw_sub [] _ rfl ?_
    exact kJ4 _ hf
  · have hf := if_n c5 hf
    refine kw_aload_n C dX10_bind_7 rfl 0 rfl ?_
    refine kw_get C inG10 _ (hO10 g σ1) rfl 35 (Nat.le_of_ble_eq_true rfl) mf_10_72 rfl rfl dX10_bind_8 ?_
    refine kw_aload_n C dX10_bind_11 rfl 0 rfl ?_
    refine kw_get C inG10 _ (hO10 g σ1) rfl 37 (Nat.le_of_ble_eq_true rfl) mf_10_268 rfl rfl dX10_bind_12 ?_
    refine kw_iconst C (1 : Int32) dX10_bind_15 rfl ?_
    refine kw_isub C dX10_bind_16 ?_
    obtain ⟨h6, hf⟩ := gd_elim hf
    refine kw_iald C _ 0 (hA10_35 g σ1) rfl h6 dX10_bind_17 ?_
    obtain ⟨r8, hc7, hf⟩ := bd_elim hf
    refine kw_callSI C [.int (gA σ1 0 35 (Int32.toNatClampNeg ((gI σ1 0 37) - (1 : Int32))))] (kX10_rank L D g t0 (gA σ1 0 35 (Int32.toNatClampNeg ((gI σ1 0 37) - (1 : Int32)))) σ1 _ hc7) mS_X10_271 ⟨rfl, rfl⟩ dd_X10_rank ⟨Nat.le_of_ble_eq_true rfl, Nat.le_of_ble_eq_true rfl⟩ rfl (Nat.le_of_ble_eq_true rfl) dX10_bind_18 ?_
    refine kw_iload_n C dX10_bind_21 rfl 1 rfl ?_
    refine kw_icmp_lt C 76 dX10_bind_22 rfl (fun c9 => ?_) (fun c9 => ?_)
    · have hf := if_p c9 hf
      refine kw_sub [] _ rfl ?_
      exact kJ4 _ hf
    · have hf := if_n c9 hf
      refine kw_aload_n C dX10_bind_25 rfl 0 rfl ?_
      refine kw_dup C dX10_bind_26 rfl ?_
      refine kw_get C inG10 _ (hO10 g σ1) rfl 37 (Nat.le_of_ble_eq_true rfl) mf_10_268 rfl rfl dX10_bind_27 ?_
      refine kw_iconst C (1 : Int32) dX10_bind_30 rfl ?_
      refine kw_isub C dX10_bind_31 ?_
      obtain ⟨σ10, eσ10, hf⟩ := lt_elim hf
      refine kw_put C inG10 tyX10 tyX10_ok nmX10 _ (hO10 g σ1) rfl 37 (Nat.le_of_ble_eq_true rfl) mf_10_268 rfl rfl (tyX10_ok 37 (Nat.le_of_ble_eq_true rfl)) rfl rfl (Nat.le_of_ble_eq_true rfl) ((hF10_37 g σ1 _).trans (congrArg (wM g) eσ10.symm)) dX10_bind_32 ?_
      refine kw_aload_n C dX10_bind_35 rfl 0 rfl ?_
      refine kw_get C inG10 _ (hO10 g σ10) rfl 35 (Nat.le_of_ble_eq_true rfl) mf_10_72 rfl rfl dX10_bind_36 ?_
      refine kw_aload_n C dX10_bind_39 rfl 0 rfl ?_
      refine kw_get C inG10 _ (hO10 g σ10) rfl 37 (Nat.le_of_ble_eq_true rfl) mf_10_268 rfl rfl dX10_bind_40 ?_
      obtain ⟨h11, hf⟩ := gd_elim hf
      refine kw_iald C _ 0 (hA10_35 g σ10) rfl h11 dX10_bind_43 ?_
      obtain ⟨x12, ex12, hf⟩ := lt_elim hf
      refine kw_topi ex12 ?_
      refine kw_istore_n C dX10_bind_44 rfl hN (Nat.le_of_ble_eq_true rfl) [(2, .int x12), (0, .ref (g.1 0)), (1, .int p0)] rfl ?_
      refine kw_iload_n C dX10_bind_45 rfl 0 rfl ?_
      refine kw_iconst C (2 : Int32) dX10_bind_46 rfl ?_
      obtain ⟨J15, hJ15, hf⟩ := jnx2_elim hf
      have kJ15 : ∀ (x13 : Int32) (σ14 : St), J15 x13 σ14 = some σ0 → KW X σ14 58 [(0, .ref (g.1 0)), (1, .int p0), (2, .int x12)] [.int x13] := by
        clear hf
        intro x13 σ14 hf
        have hf := (hJ15 x13 σ14).symm.trans hf
        refine kw_istore_n C dX10_bind_58 rfl hN (Nat.le_of_ble_eq_true rfl) [(3, .int x13), (0, .ref (g.1 0)), (1, .int p0), (2, .int x12)] rfl ?_
        refine kw_aload_n C dX10_bind_59 rfl 1 rfl ?_
        obtain ⟨r17, σ18, hc16, hf⟩ := bI_elim hf
        refine kw_callVI C [] (kX10_dropHeld L D g t0 σ14 _ _ hc16) RX10 mV_X10_275 ⟨rfl, rfl⟩ dd_X10_dropHeld ⟨Nat.le_of_ble_eq_true rfl, Nat.le_of_ble_eq_true rfl⟩ _ (hO10 g σ14) rfl rfl rfl (Nat.le_of_ble_eq_true rfl) dX10_bind_60 ?_
        refine kw_istore C dX10_bind_63 hN (Nat.le_of_ble_eq_true rfl) [(4, .int r17), (3, .int x13), (0, .ref (g.1 0)), (1, .int p0), (2, .int x12)] rfl ?_
        refine kw_aload_n C dX10_bind_65 rfl 2 rfl ?_
        refine kw_iload_n C dX10_bind_66 rfl 4 rfl ?_
        refine kw_iload C dX10_bind_67 0 rfl ?_
        refine kw_iload_n C dX10_bind_69 rfl 1 rfl ?_
        obtain ⟨σ20, hc19, hf⟩ := bV_elim hf
        refine kw_callVV C [.int x12, .int r17, .int x13] (kX10_grown L D g t0 x12 r17 x13 σ18 _ hc19) RX10 mV_X10_279 ⟨rfl, rfl⟩ dd_X10_grown ⟨Nat.le_of_ble_eq_true rfl, Nat.le_of_ble_eq_true rfl⟩ _ (hO10 g σ18) rfl rfl rfl (Nat.le_of_ble_eq_true rfl) dX10_bind_70 ?_
        refine kw_goto C 0 dX10_bind_73 rfl ?_
        refine kw_sub [2, 3] _ rfl ?_
        exact ih3 _ hf
      refine kw_icmp_ne C 54 dX10_bind_47 rfl (fun c21 => ?_) (fun c21 => ?_)
      · have hf := if_n c21 hf
        refine kw_aload_n C dX10_bind_54 rfl 1 rfl ?_
        obtain ⟨r23, σ24, hc22, hf⟩ := bI_elim hf
        refine kw_callVI C [] (kX10_dropHeld L D g t0 σ10 _ _ hc22) RX10 mV_X10_275 ⟨rfl, rfl⟩ dd_X10_dropHeld ⟨Nat.le_of_ble_eq_true rfl, Nat.le_of_ble_eq_true rfl⟩ _ (hO10 g σ10) rfl rfl rfl (Nat.le_of_ble_eq_true rfl) dX10_bind_55 ?_
        refine kw_sub [1, 2, 0] _ rfl ?_
        exact kJ15 _ _ hf
      · have hf := if_p c21 hf
        refine kw_iconst C (-1 : Int32) dX10_bind_50 rfl ?_
        refine kw_goto C 58 dX10_bind_51 rfl ?_
        refine kw_sub [1, 2, 0] _ rfl ?_
        exact kJ15 _ _ hf
set_option maxRecDepth 100000 in
set_option maxHeartbeats 4000000 in
theorem kX10_isCounted (L : Launch) (D : va_G) (g : GwT) (t0 : Nat) (σ : St) (r0 : Int32) (σ0 : St) (hf : fX10_isCounted σ  = some (r0, σ0)) : CtI L D (ttG g) (wM g) t0 yX10_isCounted cX10_isCounted 1 (some .boolean) { frames := 1, cells := 0, slots := 0, locals := 21 } [.ref (g.1 0)] σ r0 σ0 := by
  refine CtI.of (own := RX10) (by decide) rfl (Nat.le_of_ble_eq_true rfl) [(0, .ref (g.1 0))] rfl ?_
  intro X C hN K
  unfold fX10_isCounted at hf
  refine kw_aload_n C dX10_isCounted_0 rfl 0 rfl ?_
  refine kw_get C inG10 _ (hO10 g σ) rfl 40 (Nat.le_of_ble_eq_true rfl) mf_10_222 rfl rfl dX10_isCounted_1 ?_
  refine kw_bipush C (64 : Int32) dX10_isCounted_4 rfl ?_
  refine kw_icmp_ne C 15 dX10_isCounted_6 rfl (fun c1 => ?_) (fun c1 => ?_)
  · have hf := if_n c1 hf
    refine kw_aload_n C dX10_isCounted_15 rfl 0 rfl ?_
    refine kw_dup C dX10_isCounted_16 rfl ?_
    refine kw_get C inG10 _ (hO10 g σ) rfl 40 (Nat.le_of_ble_eq_true rfl) mf_10_222 rfl rfl dX10_isCounted_17 ?_
    refine kw_iconst C (1 : Int32) dX10_isCounted_20 rfl ?_
    refine kw_iadd C dX10_isCounted_21 ?_
    obtain ⟨σ2, eσ2, hf⟩ := lt_elim hf
    refine kw_put C inG10 tyX10 tyX10_ok nmX10 _ (hO10 g σ) rfl 40 (Nat.le_of_ble_eq_true rfl) mf_10_222 rfl rfl (tyX10_ok 40 (Nat.le_of_ble_eq_true rfl)) rfl rfl (Nat.le_of_ble_eq_true rfl) ((hF10_40 g σ _).trans (congrArg (wM g) eσ2.symm)) dX10_isCounted_22 ?_
    refine kw_iconst C (1 : Int32) dX10_isCounted_25 rfl ?_
    exact kw_zret C K (by decide) dX10_isCounted_26 hf
  · have hf := if_p c1 hf
    refine kw_aload_n C dX10_isCounted_9 rfl 0 rfl ?_
    refine kw_iconst C (2 : Int32) dX10_isCounted_10 rfl ?_
    obtain ⟨r4, σ5, hc3, hf⟩ := bI_elim hf
    refine kw_callVI C [.int (2 : Int32)] (kX10_wrong L D g t0 (2 : Int32) σ _ _ hc3) RX10 mV_X10_193 ⟨rfl, rfl⟩ dd_X10_wrong ⟨Nat.le_of_ble_eq_true rfl, Nat.le_of_ble_eq_true rfl⟩ _ (hO10 g σ) rfl rfl rfl (Nat.le_of_ble_eq_true rfl) dX10_isCounted_11 ?_
    obtain ⟨h6, hf⟩ := gd_elim hf
    exact kw_zret C K h6 dX10_isCounted_14 hf
set_option maxRecDepth 100000 in
set_option maxHeartbeats 4000000 in
theorem kX10_waitsFor (L : Launch) (D : va_G) (g : GwT) (t0 : Nat) (p0 : Int32) (σ : St) (σ0 : St) (hf : fX10_waitsFor σ p0 = some σ0) : CtV L D (ttG g) (wM g) t0 yX10_waitsFor cX10_waitsFor 2 none { frames := 0, cells := 0, slots := 0, locals := 0 } [.ref (g.1 0), .int p0] σ σ0 := by
  refine CtV.of (own := RX10) (by decide) rfl (Nat.le_of_ble_eq_true rfl) [(0, .ref (g.1 0)), (1, .int p0)] rfl ?_
  intro X C hN K
  unfold fX10_waitsFor at hf
  refine kw_aload_n C dX10_waitsFor_0 rfl 0 rfl ?_
  refine kw_get C inG10 _ (hO10 g σ) rfl 35 (Nat.le_of_ble_eq_true rfl) mf_10_72 rfl rfl dX10_waitsFor_1 ?_
  refine kw_aload_n C dX10_waitsFor_4 rfl 0 rfl ?_
  refine kw_get C inG10 _ (hO10 g σ) rfl 37 (Nat.le_of_ble_eq_true rfl) mf_10_268 rfl rfl dX10_waitsFor_5 ?_
  refine kw_iload_n C dX10_waitsFor_8 rfl 1 rfl ?_
  obtain ⟨h1, hf⟩ := gd_elim hf
  obtain ⟨σ2, eσ2, hf⟩ := lt_elim hf
  refine kw_iast C _ 0 (hA10_35 g σ) rfl h1 ((hS10_35 g σ _).trans (congrArg (wM g) eσ2.symm)) dX10_waitsFor_9 ?_
  refine kw_aload_n C dX10_waitsFor_10 rfl 0 rfl ?_
  refine kw_dup C dX10_waitsFor_11 rfl ?_
  refine kw_get C inG10 _ (hO10 g σ2) rfl 37 (Nat.le_of_ble_eq_true rfl) mf_10_268 rfl rfl dX10_waitsFor_12 ?_
  refine kw_iconst C (1 : Int32) dX10_waitsFor_15 rfl ?_
  refine kw_iadd C dX10_waitsFor_16 ?_
  obtain ⟨σ3, eσ3, hf⟩ := lt_elim hf
  refine kw_put C inG10 tyX10 tyX10_ok nmX10 _ (hO10 g σ2) rfl 37 (Nat.le_of_ble_eq_true rfl) mf_10_268 rfl rfl (tyX10_ok 37 (Nat.le_of_ble_eq_true rfl)) rfl rfl (Nat.le_of_ble_eq_true rfl) ((hF10_37 g σ2 _).trans (congrArg (wM g) eσ3.symm)) dX10_waitsFor_17 ?_
  exact kw_vret (u9 := ()) C K dX10_waitsFor_20 hf
set_option maxRecDepth 100000 in
set_option maxHeartbeats 4000000 in
theorem kX10_signs (L : Launch) (D : va_G) (g : GwT) (t0 : Nat) (σ : St) (r0 : Int32) (σ0 : St) (hf : fX10_signs σ  = some (r0, σ0)) : CtI L D (ttG g) (wM g) t0 yX10_signs cX10_signs 2 (some .boolean) { frames := 2, cells := 0, slots := 0, locals := 47 } [.ref (g.1 0)] σ r0 σ0 := by
  refine CtI.of (own := RX10) (by decide) rfl (Nat.le_of_ble_eq_true rfl) [(0, .ref (g.1 0))] rfl ?_
  intro X C hN K
  unfold fX10_signs at hf
  refine kw_aload_n C dX10_signs_0 rfl 0 rfl ?_
  refine kw_bipush C (41 : Int32) dX10_signs_1 rfl ?_
  obtain ⟨r2, hc1, hf⟩ := bd_elim hf
  refine kw_callVI C [.int (41 : Int32)] (kX10_isSign L D g t0 (41 : Int32) σ _ hc1) RX10 mV_X10_206 ⟨rfl, rfl⟩ dd_X10_isSign ⟨Nat.le_of_ble_eq_true rfl, Nat.le_of_ble_eq_true rfl⟩ _ (hO10 g σ) rfl rfl rfl (Nat.le_of_ble_eq_true rfl) dX10_signs_3 ?_
  obtain ⟨J3, hJ3, hf⟩ := jnx1_elim hf
  have kJ3 : ∀ (u9 : Unit), J3 u9 = some (r0, σ0) → KW X σ 47 [(0, .ref (g.1 0))] [] := by
    clear hf
    intro u9 hf
    have hf := (hJ3 u9).symm.trans hf
    refine kw_aload_n C dX10_signs_47 rfl 0 rfl ?_
    refine kw_bipush C (9 : Int32) dX10_signs_48 rfl ?_
    obtain ⟨r5, hc4, hf⟩ := bd_elim hf
    refine kw_callVI C [.int (9 : Int32)] (kX10_isKey L D g t0 (9 : Int32) σ _ hc4) RX10 mV_X10_294 ⟨rfl, rfl⟩ dd_X10_isKey ⟨Nat.le_of_ble_eq_true rfl, Nat.le_of_ble_eq_true rfl⟩ _ (hO10 g σ) rfl rfl rfl (Nat.le_of_ble_eq_true rfl) dX10_signs_50 ?_
    obtain ⟨J7, hJ7, hf⟩ := jnx1_elim hf
    have kJ7 : ∀ (x6 : Int32), J7 x6 = some (r0, σ0) → KW X σ 147 [(0, .ref (g.1 0))] [.int x6] := by
      clear hf
      intro x6 hf
      have hf := (hJ7 x6).symm.trans hf
      refine kw_istore_n C dX10_signs_147 rfl hN (Nat.le_of_ble_eq_true rfl) [(1, .int x6), (0, .ref (g.1 0))] rfl ?_
      refine kw_iload_n C dX10_signs_148 rfl 0 rfl ?_
      refine kw_if_ne C 158 dX10_signs_149 rfl (fun c8 => ?_) (fun c8 => ?_)
      · have hf := if_n c8 hf
        refine kw_aload_n C dX10_signs_158 rfl 1 rfl ?_
        refine kw_iload_n C dX10_signs_159 rfl 0 rfl ?_
        obtain ⟨r10, hc9, hf⟩ := bd_elim hf
        refine kw_callSI C [.int x6] (kX10_rank L D g t0 x6 σ _ hc9) mS_X10_271 ⟨rfl, rfl⟩ dd_X10_rank ⟨Nat.le_of_ble_eq_true rfl, Nat.le_of_ble_eq_true rfl⟩ rfl (Nat.le_of_ble_eq_true rfl) dX10_signs_160 ?_
        refine kw_iconst C (4 : Int32) dX10_signs_163 rfl ?_
        obtain ⟨J12, hJ12, hf⟩ := jnx1_elim hf
        have kJ12 : ∀ (x11 : Int32), J12 x11 = some (r0, σ0) → KW X σ 175 [(0, .ref (g.1 0)), (1, .int x6)] [.int x11, .ref (g.1 0)] := by
          clear hf
          intro x11 hf
          have hf := (hJ12 x11).symm.trans hf
          obtain ⟨σ14, hc13, hf⟩ := bV_elim hf
          refine kw_callVV C [.int x11] (kX10_bind L D g t0 x11 σ _ hc13) RX10 mV_X10_306 ⟨rfl, rfl⟩ dd_X10_bind ⟨Nat.le_of_ble_eq_true rfl, Nat.le_of_ble_eq_true rfl⟩ _ (hO10 g σ) rfl rfl rfl (Nat.le_of_ble_eq_true rfl) dX10_signs_175 ?_
          refine kw_iload_n C dX10_signs_178 rfl 1 rfl ?_
          obtain ⟨r16, hc15, hf⟩ := bd_elim hf
          refine kw_callSI C [.int x6] (kX10_rank L D g t0 x6 σ14 _ hc15) mS_X10_271 ⟨rfl, rfl⟩ dd_X10_rank ⟨Nat.le_of_ble_eq_true rfl, Nat.le_of_ble_eq_true rfl⟩ rfl (Nat.le_of_ble_eq_true rfl) dX10_signs_179 ?_
          refine kw_iconst C (4 : Int32) dX10_signs_182 rfl ?_
          obtain ⟨J17, hJ17, hf⟩ := jnx1_elim hf
          have kJ17 : ∀ (u9 : Unit), J17 u9 = some (r0, σ0) → KW X σ14 217 [(0, .ref (g.1 0)), (1, .int x6)] [] := by
            clear hf
            intro u9 hf
            have hf := (hJ17 u9).symm.trans hf
            refine kw_aload_n C dX10_signs_217 rfl 0 rfl ?_
            obtain ⟨r19, σ20, hc18, hf⟩ := bI_elim hf
            refine kw_callVI C [] (kX10_isCounted L D g t0 σ14 _ _ hc18) RX10 mV_X10_297 ⟨rfl, rfl⟩ dd_X10_isCounted ⟨Nat.le_of_ble_eq_true rfl, Nat.le_of_ble_eq_true rfl⟩ _ (hO10 g σ14) rfl rfl rfl (Nat.le_of_ble_eq_true rfl) dX10_signs_218 ?_
            refine kw_if_ne C 226 dX10_signs_221 rfl (fun c21 => ?_) (fun c21 => ?_)
            · have hf := if_n c21 hf
              refine kw_aload_n C dX10_signs_226 rfl 0 rfl ?_
              refine kw_iload_n C dX10_signs_227 rfl 1 rfl ?_
              obtain ⟨σ23, hc22, hf⟩ := bV_elim hf
              refine kw_callVV C [.int x6] (kX10_waitsFor L D g t0 x6 σ20 _ hc22) RX10 mV_X10_286 ⟨rfl, rfl⟩ dd_X10_waitsFor ⟨Nat.le_of_ble_eq_true rfl, Nat.le_of_ble_eq_true rfl⟩ _ (hO10 g σ20) rfl rfl rfl (Nat.le_of_ble_eq_true rfl) dX10_signs_228 ?_
              refine kw_aload_n C dX10_signs_231 rfl 0 rfl ?_
              refine kw_iconst C (1 : Int32) dX10_signs_232 rfl ?_
              obtain ⟨σ24, eσ24, hf⟩ := lt_elim hf
              refine kw_put C inG10 tyX10 tyX10_ok nmX10 _ (hO10 g σ23) rfl 41 (Nat.le_of_ble_eq_true rfl) mf_10_303 rfl rfl (tyX10_ok 41 (Nat.le_of_ble_eq_true rfl)) (narrow_bz (by decide)) (fits_bz (by decide)) (Nat.le_of_ble_eq_true rfl) ((hF10_41 g σ23 _).trans (congrArg (wM g) eσ24.symm)) dX10_signs_233 ?_
              refine kw_aload_n C dX10_signs_236 rfl 0 rfl ?_
              refine kw_iload_n C dX10_signs_237 rfl 1 rfl ?_
              obtain ⟨r26, hc25, hf⟩ := bd_elim hf
              refine kw_callSI C [.int x6] (kX10_rank L D g t0 x6 σ24 _ hc25) mS_X10_271 ⟨rfl, rfl⟩ dd_X10_rank ⟨Nat.le_of_ble_eq_true rfl, Nat.le_of_ble_eq_true rfl⟩ rfl (Nat.le_of_ble_eq_true rfl) dX10_signs_238 ?_
              refine kw_iconst C (3 : Int32) dX10_signs_241 rfl ?_
              obtain ⟨J28, hJ28, hf⟩ := jnx1_elim hf
              have kJ28 : ∀ (x27 : Int32), J28 x27 = some (r0, σ0) → KW X σ24 250 [(0, .ref (g.1 0))] [.int x27, .ref (g.1 0)] := by
                clear hf
                intro x27 hf
                have hf := (hJ28 x27).symm.trans hf
                obtain ⟨h29, hf⟩ := gd_elim hf
                obtain ⟨σ30, eσ30, hf⟩ := lt_elim hf
                refine kw_put C inG10 tyX10 tyX10_ok nmX10 _ (hO10 g σ24) rfl 42 (Nat.le_of_ble_eq_true rfl) mf_10_290 rfl rfl (tyX10_ok 42 (Nat.le_of_ble_eq_true rfl)) (narrow_bz h29) (fits_bz h29) (Nat.le_of_ble_eq_true rfl) ((hF10_42 g σ24 _).trans (congrArg (wM g) eσ30.symm)) dX10_signs_250 ?_
                refine kw_aload_n C dX10_signs_253 rfl 0 rfl ?_
                obtain ⟨σ32, hc31, hf⟩ := bV_elim hf
                refine kw_callVV C [] (kX10_token L D g t0 σ30 _ hc31) RX10 mV_X10_203 ⟨rfl, rfl⟩ dd_X10_token ⟨Nat.le_of_ble_eq_true rfl, Nat.le_of_ble_eq_true rfl⟩ _ (hO10 g σ30) rfl rfl rfl (Nat.le_of_ble_eq_true rfl) dX10_signs_254 ?_
                refine kw_iconst C (1 : Int32) dX10_signs_257 rfl ?_
                exact kw_zret C K (by decide) dX10_signs_258 hf
              refine kw_icmp_ge C 249 dX10_signs_242 rfl (fun c33 => ?_) (fun c33 => ?_)
              · have hf := if_p c33 hf
                refine kw_iconst C (0 : Int32) dX10_signs_249 rfl ?_
                refine kw_sub [0] _ rfl ?_
                exact kJ28 _ hf
              · have hf := if_n c33 hf
                refine kw_iconst C (1 : Int32) dX10_signs_245 rfl ?_
                refine kw_goto C 250 dX10_signs_246 rfl ?_
                refine kw_sub [0] _ rfl ?_
                exact kJ28 _ hf
            · have hf := if_p c21 hf
              refine kw_iconst C (0 : Int32) dX10_signs_224 rfl ?_
              exact kw_zret C K (by decide) dX10_signs_225 hf
          refine kw_icmp_ne C 217 dX10_signs_183 rfl (fun c34 => ?_) (fun c34 => ?_)
          · have hf := if_n c34 hf
            exact kJ17 _ hf
          · have hf := if_p c34 hf
            refine kw_aload_n C dX10_signs_186 rfl 0 rfl ?_
            refine kw_get C inG10 _ (hO10 g σ14) rfl 37 (Nat.le_of_ble_eq_true rfl) mf_10_268 rfl rfl dX10_signs_187 ?_
            refine kw_if_le C 217 dX10_signs_190 rfl (fun c35 => ?_) (fun c35 => ?_)
            · have hf := if_p c35 hf
              exact kJ17 _ hf
            · have hf := if_n c35 hf
              refine kw_aload_n C dX10_signs_193 rfl 0 rfl ?_
              refine kw_get C inG10 _ (hO10 g σ14) rfl 35 (Nat.le_of_ble_eq_true rfl) mf_10_72 rfl rfl dX10_signs_194 ?_
              refine kw_aload_n C dX10_signs_197 rfl 0 rfl ?_
              refine kw_get C inG10 _ (hO10 g σ14) rfl 37 (Nat.le_of_ble_eq_true rfl) mf_10_268 rfl rfl dX10_signs_198 ?_
              refine kw_iconst C (1 : Int32) dX10_signs_201 rfl ?_
              refine kw_isub C dX10_signs_202 ?_
              obtain ⟨h36, hf⟩ := gd_elim hf
              refine kw_iald C _ 0 (hA10_35 g σ14) rfl h36 dX10_signs_203 ?_
              obtain ⟨r38, hc37, hf⟩ := bd_elim hf
              refine kw_callSI C [.int (gA σ14 0 35 (Int32.toNatClampNeg ((gI σ14 0 37) - (1 : Int32))))] (kX10_rank L D g t0 (gA σ14 0 35 (Int32.toNatClampNeg ((gI σ14 0 37) - (1 : Int32)))) σ14 _ hc37) mS_X10_271 ⟨rfl, rfl⟩ dd_X10_rank ⟨Nat.le_of_ble_eq_true rfl, Nat.le_of_ble_eq_true rfl⟩ rfl (Nat.le_of_ble_eq_true rfl) dX10_signs_204 ?_
              refine kw_iconst C (4 : Int32) dX10_signs_207 rfl ?_
              refine kw_icmp_ne C 217 dX10_signs_208 rfl (fun c39 => ?_) (fun c39 => ?_)
              · have hf := if_n c39 hf
                exact kJ17 _ hf
              · have hf := if_p c39 hf
                refine kw_aload_n C dX10_signs_211 rfl 0 rfl ?_
                refine kw_iconst C (1 : Int32) dX10_signs_212 rfl ?_
                obtain ⟨r41, σ42, hc40, hf⟩ := bI_elim hf
                refine kw_callVI C [.int (1 : Int32)] (kX10_wrong L D g t0 (1 : Int32) σ14 _ _ hc40) RX10 mV_X10_193 ⟨rfl, rfl⟩ dd_X10_wrong ⟨Nat.le_of_ble_eq_true rfl, Nat.le_of_ble_eq_true rfl⟩ _ (hO10 g σ14) rfl rfl rfl (Nat.le_of_ble_eq_true rfl) dX10_signs_213 ?_
                obtain ⟨h43, hf⟩ := gd_elim hf
                exact kw_zret C K h43 dX10_signs_216 hf
        refine kw_icmp_ne C 171 dX10_signs_164 rfl (fun c44 => ?_) (fun c44 => ?_)
        · have hf := if_n c44 hf
          refine kw_iload_n C dX10_signs_171 rfl 0 rfl ?_
          obtain ⟨r46, hc45, hf⟩ := bd_elim hf
          refine kw_callSI C [.int x6] (kX10_rank L D g t0 x6 σ _ hc45) mS_X10_271 ⟨rfl, rfl⟩ dd_X10_rank ⟨Nat.le_of_ble_eq_true rfl, Nat.le_of_ble_eq_true rfl⟩ rfl (Nat.le_of_ble_eq_true rfl) dX10_signs_172 ?_
          refine kw_sub [1, 0] _ rfl ?_
          exact kJ12 _ hf
        · have hf := if_p c44 hf
          refine kw_iconst C (5 : Int32) dX10_signs_167 rfl ?_
          refine kw_goto C 175 dX10_signs_168 rfl ?_
          refine kw_sub [1, 0] _ rfl ?_
          exact kJ12 _ hf
      · have hf := if_p c8 hf
        refine kw_aload_n C dX10_signs_152 rfl 1 rfl ?_
        refine kw_iconst C (1 : Int32) dX10_signs_153 rfl ?_
        obtain ⟨r48, σ49, hc47, hf⟩ := bI_elim hf
        refine kw_callVI C [.int (1 : Int32)] (kX10_wrong L D g t0 (1 : Int32) σ _ _ hc47) RX10 mV_X10_193 ⟨rfl, rfl⟩ dd_X10_wrong ⟨Nat.le_of_ble_eq_true rfl, Nat.le_of_ble_eq_true rfl⟩ _ (hO10 g σ) rfl rfl rfl (Nat.le_of_ble_eq_true rfl) dX10_signs_154 ?_
        obtain ⟨h50, hf⟩ := gd_elim hf
        exact kw_zret C K h50 dX10_signs_157 hf
    refine kw_if_eq C 60 dX10_signs_53 rfl (fun c51 => ?_) (fun c51 => ?_)
    · have hf := if_p c51 hf
      refine kw_aload_n C dX10_signs_60 rfl 0 rfl ?_
      refine kw_bipush C (10 : Int32) dX10_signs_61 rfl ?_
      obtain ⟨r53, hc52, hf⟩ := bd_elim hf
      refine kw_callVI C [.int (10 : Int32)] (kX10_isKey L D g t0 (10 : Int32) σ _ hc52) RX10 mV_X10_294 ⟨rfl, rfl⟩ dd_X10_isKey ⟨Nat.le_of_ble_eq_true rfl, Nat.le_of_ble_eq_true rfl⟩ _ (hO10 g σ) rfl rfl rfl (Nat.le_of_ble_eq_true rfl) dX10_signs_63 ?_
      refine kw_if_eq C 73 dX10_signs_66 rfl (fun c54 => ?_) (fun c54 => ?_)
      · have hf := if_p c54 hf
        refine kw_aload_n C dX10_signs_73 rfl 0 rfl ?_
        refine kw_get C inG10 _ (hO10 g σ) rfl 8 (Nat.le_of_ble_eq_true rfl) mf_10_169 rfl rfl dX10_signs_74 ?_
        refine kw_iconst C (5 : Int32) dX10_signs_77 rfl ?_
        refine kw_icmp_ne C 90 dX10_signs_78 rfl (fun c55 => ?_) (fun c55 => ?_)
        · have hf := if_n c55 hf
          refine kw_aload_n C dX10_signs_90 rfl 0 rfl ?_
          refine kw_bipush C (43 : Int32) dX10_signs_91 rfl ?_
          obtain ⟨r57, hc56, hf⟩ := bd_elim hf
          refine kw_callVI C [.int (43 : Int32)] (kX10_isSign L D g t0 (43 : Int32) σ _ hc56) RX10 mV_X10_206 ⟨rfl, rfl⟩ dd_X10_isSign ⟨Nat.le_of_ble_eq_true rfl, Nat.le_of_ble_eq_true rfl⟩ _ (hO10 g σ) rfl rfl rfl (Nat.le_of_ble_eq_true rfl) dX10_signs_93 ?_
          refine kw_if_eq C 104 dX10_signs_96 rfl (fun c58 => ?_) (fun c58 => ?_)
          · have hf := if_p c58 hf
            refine kw_aload_n C dX10_signs_104 rfl 0 rfl ?_
            refine kw_bipush C (45 : Int32) dX10_signs_105 rfl ?_
            obtain ⟨r60, hc59, hf⟩ := bd_elim hf
            refine kw_callVI C [.int (45 : Int32)] (kX10_isSign L D g t0 (45 : Int32) σ _ hc59) RX10 mV_X10_206 ⟨rfl, rfl⟩ dd_X10_isSign ⟨Nat.le_of_ble_eq_true rfl, Nat.le_of_ble_eq_true rfl⟩ _ (hO10 g σ) rfl rfl rfl (Nat.le_of_ble_eq_true rfl) dX10_signs_107 ?_
            refine kw_if_eq C 118 dX10_signs_110 rfl (fun c61 => ?_) (fun c61 => ?_)
            · have hf := if_p c61 hf
              refine kw_aload_n C dX10_signs_118 rfl 0 rfl ?_
              refine kw_bipush C (42 : Int32) dX10_signs_119 rfl ?_
              obtain ⟨r63, hc62, hf⟩ := bd_elim hf
              refine kw_callVI C [.int (42 : Int32)] (kX10_isSign L D g t0 (42 : Int32) σ _ hc62) RX10 mV_X10_206 ⟨rfl, rfl⟩ dd_X10_isSign ⟨Nat.le_of_ble_eq_true rfl, Nat.le_of_ble_eq_true rfl⟩ _ (hO10 g σ) rfl rfl rfl (Nat.le_of_ble_eq_true rfl) dX10_signs_121 ?_
              refine kw_if_eq C 132 dX10_signs_124 rfl (fun c64 => ?_) (fun c64 => ?_)
              · have hf := if_p c64 hf
                refine kw_aload_n C dX10_signs_132 rfl 0 rfl ?_
                refine kw_bipush C (47 : Int32) dX10_signs_133 rfl ?_
                obtain ⟨r66, hc65, hf⟩ := bd_elim hf
                refine kw_callVI C [.int (47 : Int32)] (kX10_isSign L D g t0 (47 : Int32) σ _ hc65) RX10 mV_X10_206 ⟨rfl, rfl⟩ dd_X10_isSign ⟨Nat.le_of_ble_eq_true rfl, Nat.le_of_ble_eq_true rfl⟩ _ (hO10 g σ) rfl rfl rfl (Nat.le_of_ble_eq_true rfl) dX10_signs_135 ?_
                refine kw_if_eq C 146 dX10_signs_138 rfl (fun c67 => ?_) (fun c67 => ?_)
                · have hf := if_p c67 hf
                  refine kw_iconst C (0 : Int32) dX10_signs_146 rfl ?_
                  exact kJ7 _ hf
                · have hf := if_n c67 hf
                  refine kw_bipush C (14 : Int32) dX10_signs_141 rfl ?_
                  refine kw_goto C 147 dX10_signs_143 rfl ?_
                  exact kJ7 _ hf
              · have hf := if_n c64 hf
                refine kw_bipush C (13 : Int32) dX10_signs_127 rfl ?_
                refine kw_goto C 147 dX10_signs_129 rfl ?_
                exact kJ7 _ hf
            · have hf := if_n c61 hf
              refine kw_bipush C (12 : Int32) dX10_signs_113 rfl ?_
              refine kw_goto C 147 dX10_signs_115 rfl ?_
              exact kJ7 _ hf
          · have hf := if_n c58 hf
            refine kw_bipush C (11 : Int32) dX10_signs_99 rfl ?_
            refine kw_goto C 147 dX10_signs_101 rfl ?_
            exact kJ7 _ hf
        · have hf := if_p c55 hf
          refine kw_iconst C (5 : Int32) dX10_signs_81 rfl ?_
          refine kw_aload_n C dX10_signs_82 rfl 0 rfl ?_
          refine kw_get C inG10 _ (hO10 g σ) rfl 9 (Nat.le_of_ble_eq_true rfl) mf_10_180 rfl rfl dX10_signs_83 ?_
          refine kw_iadd C dX10_signs_86 ?_
          refine kw_goto C 147 dX10_signs_87 rfl ?_
          exact kJ7 _ hf
      · have hf := if_n c54 hf
        refine kw_iconst C (4 : Int32) dX10_signs_69 rfl ?_
        refine kw_goto C 147 dX10_signs_70 rfl ?_
        exact kJ7 _ hf
    · have hf := if_n c51 hf
      refine kw_iconst C (3 : Int32) dX10_signs_56 rfl ?_
      refine kw_goto C 147 dX10_signs_57 rfl ?_
      exact kJ7 _ hf
  refine kw_if_eq C 47 dX10_signs_6 rfl (fun c68 => ?_) (fun c68 => ?_)
  · have hf := if_p c68 hf
    exact kJ3 _ hf
  · have hf := if_n c68 hf
    refine kw_aload_n C dX10_signs_9 rfl 0 rfl ?_
    refine kw_get C inG10 _ (hO10 g σ) rfl 39 (Nat.le_of_ble_eq_true rfl) mf_10_283 rfl rfl dX10_signs_10 ?_
    refine kw_if_le C 47 dX10_signs_13 rfl (fun c69 => ?_) (fun c69 => ?_)
    · have hf := if_p c69 hf
      exact kJ3 _ hf
    · have hf := if_n c69 hf
      refine kw_aload_n C dX10_signs_16 rfl 0 rfl ?_
      refine kw_iconst C (1 : Int32) dX10_signs_17 rfl ?_
      obtain ⟨σ71, hc70, hf⟩ := bV_elim hf
      refine kw_callVV C [.int (1 : Int32)] (kX10_bind L D g t0 (1 : Int32) σ _ hc70) RX10 mV_X10_306 ⟨rfl, rfl⟩ dd_X10_bind ⟨Nat.le_of_ble_eq_true rfl, Nat.le_of_ble_eq_true rfl⟩ _ (hO10 g σ) rfl rfl rfl (Nat.le_of_ble_eq_true rfl) dX10_signs_18 ?_
      refine kw_aload_n C dX10_signs_21 rfl 0 rfl ?_
      refine kw_dup C dX10_signs_22 rfl ?_
      refine kw_get C inG10 _ (hO10 g σ71) rfl 37 (Nat.le_of_ble_eq_true rfl) mf_10_268 rfl rfl dX10_signs_23 ?_
      refine kw_iconst C (1 : Int32) dX10_signs_26 rfl ?_
      refine kw_isub C dX10_signs_27 ?_
      obtain ⟨σ72, eσ72, hf⟩ := lt_elim hf
      refine kw_put C inG10 tyX10 tyX10_ok nmX10 _ (hO10 g σ71) rfl 37 (Nat.le_of_ble_eq_true rfl) mf_10_268 rfl rfl (tyX10_ok 37 (Nat.le_of_ble_eq_true rfl)) rfl rfl (Nat.le_of_ble_eq_true rfl) ((hF10_37 g σ71 _).trans (congrArg (wM g) eσ72.symm)) dX10_signs_28 ?_
      refine kw_aload_n C dX10_signs_31 rfl 0 rfl ?_
      refine kw_dup C dX10_signs_32 rfl ?_
      refine kw_get C inG10 _ (hO10 g σ72) rfl 39 (Nat.le_of_ble_eq_true rfl) mf_10_283 rfl rfl dX10_signs_33 ?_
      refine kw_iconst C (1 : Int32) dX10_signs_36 rfl ?_
      refine kw_isub C dX10_signs_37 ?_
      obtain ⟨σ73, eσ73, hf⟩ := lt_elim hf
      refine kw_put C inG10 tyX10 tyX10_ok nmX10 _ (hO10 g σ72) rfl 39 (Nat.le_of_ble_eq_true rfl) mf_10_283 rfl rfl (tyX10_ok 39 (Nat.le_of_ble_eq_true rfl)) rfl rfl (Nat.le_of_ble_eq_true rfl) ((hF10_39 g σ72 _).trans (congrArg (wM g) eσ73.symm)) dX10_signs_38 ?_
      refine kw_aload_n C dX10_signs_41 rfl 0 rfl ?_
      obtain ⟨σ75, hc74, hf⟩ := bV_elim hf
      refine kw_callVV C [] (kX10_token L D g t0 σ73 _ hc74) RX10 mV_X10_203 ⟨rfl, rfl⟩ dd_X10_token ⟨Nat.le_of_ble_eq_true rfl, Nat.le_of_ble_eq_true rfl⟩ _ (hO10 g σ73) rfl rfl rfl (Nat.le_of_ble_eq_true rfl) dX10_signs_42 ?_
      refine kw_iconst C (1 : Int32) dX10_signs_45 rfl ?_
      exact kw_zret C K (by decide) dX10_signs_46 hf
set_option maxRecDepth 100000 in
set_option maxHeartbeats 4000000 in
theorem kX10_nameMet (L : Launch) (D : va_G) (g : GwT) (t0 : Nat) (σ : St) (r0 : Int32) (hf : fX10_nameMet σ  = some r0) : CtI L D (ttG g) (wM g) t0 yX10_nameMet cX10_nameMet 1 (some .int) { frames := 0, cells := 0, slots := 0, locals := 0 } [.ref (g.1 0)] σ r0 σ := by
  refine CtI.of (own := RX10) (by decide) rfl (Nat.le_of_ble_eq_true rfl) [(0, .ref (g.1 0))] rfl ?_
  intro X C hN K
  unfold fX10_nameMet at hf
  refine kw_aload_n C dX10_nameMet_0 rfl 0 rfl ?_
  refine kw_get C inG10 _ (hO10 g σ) rfl 8 (Nat.le_of_ble_eq_true rfl) mf_10_169 rfl rfl dX10_nameMet_1 ?_
  refine kw_iconst C (1 : Int32) dX10_nameMet_4 rfl ?_
  obtain ⟨J2, hJ2, hf⟩ := jnx1_elim hf
  have kJ2 : ∀ (x1 : Int32), J2 x1 = some r0 → KW X σ 28 [] [.int x1] := by
    clear hf
    intro x1 hf
    have hf := (hJ2 x1).symm.trans hf
    exact kw_iret C K dX10_nameMet_28 (pr_ret hf)
  obtain ⟨J3, hJ3, hf⟩ := jnx1_elim hf
  have kJ3 : ∀ (u9 : Unit), J3 u9 = some r0 → KW X σ 27 [] [] := by
    clear hf
    intro u9 hf
    have hf := (hJ3 u9).symm.trans hf
    refine kw_iconst C (-1 : Int32) dX10_nameMet_27 rfl ?_
    exact kJ2 _ hf
  refine kw_icmp_ne C 27 dX10_nameMet_5 rfl (fun c4 => ?_) (fun c4 => ?_)
  · have hf := if_n c4 hf
    refine kw_sub [] _ rfl ?_
    exact kJ3 _ hf
  · have hf := if_p c4 hf
    refine kw_aload_n C dX10_nameMet_8 rfl 0 rfl ?_
    refine kw_get C inG10 _ (hO10 g σ) rfl 9 (Nat.le_of_ble_eq_true rfl) mf_10_180 rfl rfl dX10_nameMet_9 ?_
    refine kw_bipush C (12 : Int32) dX10_nameMet_12 rfl ?_
    refine kw_icmp_lt C 27 dX10_nameMet_14 rfl (fun c5 => ?_) (fun c5 => ?_)
    · have hf := if_p c5 hf
      refine kw_sub [] _ rfl ?_
      exact kJ3 _ hf
    · have hf := if_n c5 hf
      refine kw_aload_n C dX10_nameMet_17 rfl 0 rfl ?_
      refine kw_get C inG10 _ (hO10 g σ) rfl 9 (Nat.le_of_ble_eq_true rfl) mf_10_180 rfl rfl dX10_nameMet_18 ?_
      refine kw_bipush C (12 : Int32) dX10_nameMet_21 rfl ?_
      refine kw_isub C dX10_nameMet_23 ?_
      refine kw_goto C 28 dX10_nameMet_24 rfl ?_
      refine kw_sub [] _ rfl ?_
      exact kJ2 _ hf
set_option maxRecDepth 100000 in
set_option maxHeartbeats 4000000 in
theorem kX10_leafRead (L : Launch) (D : va_G) (g : GwT) (t0 : Nat) (σ : St) (r0 : Int32) (σ0 : St) (hf : fX10_leafRead σ  = some (r0, σ0)) : CtI L D (ttG g) (wM g) t0 yX10_leafRead cX10_leafRead 2 (some .boolean) { frames := 2, cells := 0, slots := 0, locals := 47 } [.ref (g.1 0)] σ r0 σ0 := by
  refine CtI.of (own := RX10) (by decide) rfl (Nat.le_of_ble_eq_true rfl) [(0, .ref (g.1 0))] rfl ?_
  intro X C hN K
  unfold fX10_leafRead at hf
  refine kw_aload_n C dX10_leafRead_0 rfl 0 rfl ?_
  refine kw_bipush C (40 : Int32) dX10_leafRead_1 rfl ?_
  obtain ⟨r2, hc1, hf⟩ := bd_elim hf
  refine kw_callVI C [.int (40 : Int32)] (kX10_isSign L D g t0 (40 : Int32) σ _ hc1) RX10 mV_X10_206 ⟨rfl, rfl⟩ dd_X10_isSign ⟨Nat.le_of_ble_eq_true rfl, Nat.le_of_ble_eq_true rfl⟩ _ (hO10 g σ) rfl rfl rfl (Nat.le_of_ble_eq_true rfl) dX10_leafRead_3 ?_
  refine kw_if_eq C 50 dX10_leafRead_6 rfl (fun c3 => ?_) (fun c3 => ?_)
  · have hf := if_p c3 hf
    refine kw_aload_n C dX10_leafRead_50 rfl 0 rfl ?_
    refine kw_bipush C (11 : Int32) dX10_leafRead_51 rfl ?_
    obtain ⟨r5, hc4, hf⟩ := bd_elim hf
    refine kw_callVI C [.int (11 : Int32)] (kX10_isKey L D g t0 (11 : Int32) σ _ hc4) RX10 mV_X10_294 ⟨rfl, rfl⟩ dd_X10_isKey ⟨Nat.le_of_ble_eq_true rfl, Nat.le_of_ble_eq_true rfl⟩ _ (hO10 g σ) rfl rfl rfl (Nat.le_of_ble_eq_true rfl) dX10_leafRead_53 ?_
    obtain ⟨J6, hJ6, hf⟩ := jnx1_elim hf
    have kJ6 : ∀ (u9 : Unit), J6 u9 = some (r0, σ0) → KW X σ 86 [(0, .ref (g.1 0))] [] := by
      clear hf
      intro u9 hf
      have hf := (hJ6 u9).symm.trans hf
      refine kw_aload_n C dX10_leafRead_86 rfl 0 rfl ?_
      obtain ⟨r8, hc7, hf⟩ := bd_elim hf
      refine kw_callVI C [] (kX10_nameMet L D g t0 σ _ hc7) RX10 mV_X10_300 ⟨rfl, rfl⟩ dd_X10_nameMet ⟨Nat.le_of_ble_eq_true rfl, Nat.le_of_ble_eq_true rfl⟩ _ (hO10 g σ) rfl rfl rfl (Nat.le_of_ble_eq_true rfl) dX10_leafRead_87 ?_
      refine kw_istore_n C dX10_leafRead_90 rfl hN (Nat.le_of_ble_eq_true rfl) [(1, .int r8), (0, .ref (g.1 0))] rfl ?_
      refine kw_iload_n C dX10_leafRead_91 rfl 0 rfl ?_
      obtain ⟨J9, hJ9, hf⟩ := jnx1_elim hf
      have kJ9 : ∀ (u9 : Unit), J9 u9 = some (r0, σ0) → KW X σ 109 [(0, .ref (g.1 0)), (1, .int r8)] [] := by
        clear hf
        intro u9 hf
        have hf := (hJ9 u9).symm.trans hf
        refine kw_iload_n C dX10_leafRead_109 rfl 1 rfl ?_
        obtain ⟨J10, hJ10, hf⟩ := jnx1_elim hf
        have kJ10 : ∀ (u9 : Unit), J10 u9 = some (r0, σ0) → KW X σ 129 [(0, .ref (g.1 0)), (1, .int r8)] [] := by
          clear hf
          intro u9 hf
          have hf := (hJ10 u9).symm.trans hf
          refine kw_aload_n C dX10_leafRead_129 rfl 0 rfl ?_
          obtain ⟨r12, σ13, hc11, hf⟩ := bI_elim hf
          refine kw_callVI C [] (kX10_isCounted L D g t0 σ _ _ hc11) RX10 mV_X10_297 ⟨rfl, rfl⟩ dd_X10_isCounted ⟨Nat.le_of_ble_eq_true rfl, Nat.le_of_ble_eq_true rfl⟩ _ (hO10 g σ) rfl rfl rfl (Nat.le_of_ble_eq_true rfl) dX10_leafRead_130 ?_
          refine kw_if_ne C 138 dX10_leafRead_133 rfl (fun c14 => ?_) (fun c14 => ?_)
          · have hf := if_n c14 hf
            refine kw_aload_n C dX10_leafRead_138 rfl 0 rfl ?_
            refine kw_iload_n C dX10_leafRead_139 rfl 1 rfl ?_
            obtain ⟨J16, hJ16, hf⟩ := jnx1_elim hf
            have kJ16 : ∀ (x15 : Int32), J16 x15 = some (r0, σ0) → KW X σ13 148 [(0, .ref (g.1 0)), (1, .int r8)] [.int x15, .ref (g.1 0)] := by
              clear hf
              intro x15 hf
              have hf := (hJ16 x15).symm.trans hf
              refine kw_iload_n C dX10_leafRead_148 rfl 1 rfl ?_
              obtain ⟨J18, hJ18, hf⟩ := jnx1_elim hf
              have kJ18 : ∀ (x17 : Int32), J18 x17 = some (r0, σ0) → KW X σ13 160 [(0, .ref (g.1 0))] [.int x17, .int x15, .ref (g.1 0)] := by
                clear hf
                intro x17 hf
                have hf := (hJ18 x17).symm.trans hf
                refine kw_iconst C (0 : Int32) dX10_leafRead_160 rfl ?_
                obtain ⟨σ20, hc19, hf⟩ := bV_elim hf
                refine kw_callVV C [.int x15, .int x17, .int (0 : Int32)] (kX10_grown L D g t0 x15 x17 (0 : Int32) σ13 _ hc19) RX10 mV_X10_279 ⟨rfl, rfl⟩ dd_X10_grown ⟨Nat.le_of_ble_eq_true rfl, Nat.le_of_ble_eq_true rfl⟩ _ (hO10 g σ13) rfl rfl rfl (Nat.le_of_ble_eq_true rfl) dX10_leafRead_161 ?_
                refine kw_aload_n C dX10_leafRead_164 rfl 0 rfl ?_
                refine kw_iconst C (0 : Int32) dX10_leafRead_165 rfl ?_
                obtain ⟨σ21, eσ21, hf⟩ := lt_elim hf
                refine kw_put C inG10 tyX10 tyX10_ok nmX10 _ (hO10 g σ20) rfl 41 (Nat.le_of_ble_eq_true rfl) mf_10_303 rfl rfl (tyX10_ok 41 (Nat.le_of_ble_eq_true rfl)) (narrow_bz (by decide)) (fits_bz (by decide)) (Nat.le_of_ble_eq_true rfl) ((hF10_41 g σ20 _).trans (congrArg (wM g) eσ21.symm)) dX10_leafRead_166 ?_
                refine kw_aload_n C dX10_leafRead_169 rfl 0 rfl ?_
                obtain ⟨σ23, hc22, hf⟩ := bV_elim hf
                refine kw_callVV C [] (kX10_token L D g t0 σ21 _ hc22) RX10 mV_X10_203 ⟨rfl, rfl⟩ dd_X10_token ⟨Nat.le_of_ble_eq_true rfl, Nat.le_of_ble_eq_true rfl⟩ _ (hO10 g σ21) rfl rfl rfl (Nat.le_of_ble_eq_true rfl) dX10_leafRead_170 ?_
                refine kw_iconst C (1 : Int32) dX10_leafRead_173 rfl ?_
                exact kw_zret C K (by decide) dX10_leafRead_174 hf
              refine kw_if_lt C 156 dX10_leafRead_149 rfl (fun c24 => ?_) (fun c24 => ?_)
              · have hf := if_p c24 hf
                refine kw_aload_n C dX10_leafRead_156 rfl 0 rfl ?_
                refine kw_get C inG10 _ (hO10 g σ13) rfl 9 (Nat.le_of_ble_eq_true rfl) mf_10_180 rfl rfl dX10_leafRead_157 ?_
                refine kw_sub [0] _ rfl ?_
                exact kJ18 _ hf
              · have hf := if_n c24 hf
                refine kw_iload_n C dX10_leafRead_152 rfl 1 rfl ?_
                refine kw_goto C 160 dX10_leafRead_153 rfl ?_
                refine kw_sub [0] _ rfl ?_
                exact kJ18 _ hf
            refine kw_if_lt C 147 dX10_leafRead_140 rfl (fun c25 => ?_) (fun c25 => ?_)
            · have hf := if_p c25 hf
              refine kw_iconst C (0 : Int32) dX10_leafRead_147 rfl ?_
              exact kJ16 _ hf
            · have hf := if_n c25 hf
              refine kw_iconst C (1 : Int32) dX10_leafRead_143 rfl ?_
              refine kw_goto C 148 dX10_leafRead_144 rfl ?_
              exact kJ16 _ hf
          · have hf := if_p c14 hf
            refine kw_iconst C (0 : Int32) dX10_leafRead_136 rfl ?_
            exact kw_zret C K (by decide) dX10_leafRead_137 hf
        refine kw_if_ge C 129 dX10_leafRead_110 rfl (fun c26 => ?_) (fun c26 => ?_)
        · have hf := if_p c26 hf
          exact kJ10 _ hf
        · have hf := if_n c26 hf
          refine kw_aload_n C dX10_leafRead_113 rfl 0 rfl ?_
          refine kw_get C inG10 _ (hO10 g σ) rfl 9 (Nat.le_of_ble_eq_true rfl) mf_10_180 rfl rfl dX10_leafRead_114 ?_
          refine kw_sipush C (9999 : Int32) dX10_leafRead_117 rfl ?_
          refine kw_icmp_le C 129 dX10_leafRead_120 rfl (fun c27 => ?_) (fun c27 => ?_)
          · have hf := if_p c27 hf
            exact kJ10 _ hf
          · have hf := if_n c27 hf
            refine kw_aload_n C dX10_leafRead_123 rfl 0 rfl ?_
            refine kw_iconst C (2 : Int32) dX10_leafRead_124 rfl ?_
            obtain ⟨r29, σ30, hc28, hf⟩ := bI_elim hf
            refine kw_callVI C [.int (2 : Int32)] (kX10_wrong L D g t0 (2 : Int32) σ _ _ hc28) RX10 mV_X10_193 ⟨rfl, rfl⟩ dd_X10_wrong ⟨Nat.le_of_ble_eq_true rfl, Nat.le_of_ble_eq_true rfl⟩ _ (hO10 g σ) rfl rfl rfl (Nat.le_of_ble_eq_true rfl) dX10_leafRead_125 ?_
            obtain ⟨h31, hf⟩ := gd_elim hf
            exact kw_zret C K h31 dX10_leafRead_128 hf
      refine kw_if_ge C 109 dX10_leafRead_92 rfl (fun c32 => ?_) (fun c32 => ?_)
      · have hf := if_p c32 hf
        refine kw_sub [1, 0] _ rfl ?_
        exact kJ9 _ hf
      · have hf := if_n c32 hf
        refine kw_aload_n C dX10_leafRead_95 rfl 1 rfl ?_
        refine kw_get C inG10 _ (hO10 g σ) rfl 8 (Nat.le_of_ble_eq_true rfl) mf_10_169 rfl rfl dX10_leafRead_96 ?_
        refine kw_iconst C (3 : Int32) dX10_leafRead_99 rfl ?_
        refine kw_icmp_eq C 109 dX10_leafRead_100 rfl (fun c33 => ?_) (fun c33 => ?_)
        · have hf := if_p c33 hf
          refine kw_sub [1, 0] _ rfl ?_
          exact kJ9 _ hf
        · have hf := if_n c33 hf
          refine kw_aload_n C dX10_leafRead_103 rfl 1 rfl ?_
          refine kw_iconst C (1 : Int32) dX10_leafRead_104 rfl ?_
          obtain ⟨r35, σ36, hc34, hf⟩ := bI_elim hf
          refine kw_callVI C [.int (1 : Int32)] (kX10_wrong L D g t0 (1 : Int32) σ _ _ hc34) RX10 mV_X10_193 ⟨rfl, rfl⟩ dd_X10_wrong ⟨Nat.le_of_ble_eq_true rfl, Nat.le_of_ble_eq_true rfl⟩ _ (hO10 g σ) rfl rfl rfl (Nat.le_of_ble_eq_true rfl) dX10_leafRead_105 ?_
          obtain ⟨h37, hf⟩ := gd_elim hf
          exact kw_zret C K h37 dX10_leafRead_108 hf
    refine kw_if_eq C 86 dX10_leafRead_56 rfl (fun c38 => ?_) (fun c38 => ?_)
    · have hf := if_p c38 hf
      exact kJ6 _ hf
    · have hf := if_n c38 hf
      refine kw_aload_n C dX10_leafRead_59 rfl 0 rfl ?_
      refine kw_get C inG10 _ (hO10 g σ) rfl 42 (Nat.le_of_ble_eq_true rfl) mf_10_290 rfl rfl dX10_leafRead_60 ?_
      refine kw_if_eq C 86 dX10_leafRead_63 rfl (fun c39 => ?_) (fun c39 => ?_)
      · have hf := if_p c39 hf
        exact kJ6 _ hf
      · have hf := if_n c39 hf
        refine kw_aload_n C dX10_leafRead_66 rfl 0 rfl ?_
        obtain ⟨r41, σ42, hc40, hf⟩ := bI_elim hf
        refine kw_callVI C [] (kX10_isCounted L D g t0 σ _ _ hc40) RX10 mV_X10_297 ⟨rfl, rfl⟩ dd_X10_isCounted ⟨Nat.le_of_ble_eq_true rfl, Nat.le_of_ble_eq_true rfl⟩ _ (hO10 g σ) rfl rfl rfl (Nat.le_of_ble_eq_true rfl) dX10_leafRead_67 ?_
        refine kw_if_ne C 75 dX10_leafRead_70 rfl (fun c43 => ?_) (fun c43 => ?_)
        · have hf := if_n c43 hf
          refine kw_aload_n C dX10_leafRead_75 rfl 0 rfl ?_
          refine kw_iconst C (2 : Int32) dX10_leafRead_76 rfl ?_
          obtain ⟨σ45, hc44, hf⟩ := bV_elim hf
          refine kw_callVV C [.int (2 : Int32)] (kX10_waitsFor L D g t0 (2 : Int32) σ42 _ hc44) RX10 mV_X10_286 ⟨rfl, rfl⟩ dd_X10_waitsFor ⟨Nat.le_of_ble_eq_true rfl, Nat.le_of_ble_eq_true rfl⟩ _ (hO10 g σ42) rfl rfl rfl (Nat.le_of_ble_eq_true rfl) dX10_leafRead_77 ?_
          refine kw_aload_n C dX10_leafRead_80 rfl 0 rfl ?_
          obtain ⟨σ47, hc46, hf⟩ := bV_elim hf
          refine kw_callVV C [] (kX10_token L D g t0 σ45 _ hc46) RX10 mV_X10_203 ⟨rfl, rfl⟩ dd_X10_token ⟨Nat.le_of_ble_eq_true rfl, Nat.le_of_ble_eq_true rfl⟩ _ (hO10 g σ45) rfl rfl rfl (Nat.le_of_ble_eq_true rfl) dX10_leafRead_81 ?_
          refine kw_iconst C (1 : Int32) dX10_leafRead_84 rfl ?_
          exact kw_zret C K (by decide) dX10_leafRead_85 hf
        · have hf := if_p c43 hf
          refine kw_iconst C (0 : Int32) dX10_leafRead_73 rfl ?_
          exact kw_zret C K (by decide) dX10_leafRead_74 hf
  · have hf := if_n c3 hf
    refine kw_aload_n C dX10_leafRead_9 rfl 0 rfl ?_
    refine kw_get C inG10 _ (hO10 g σ) rfl 39 (Nat.le_of_ble_eq_true rfl) mf_10_283 rfl rfl dX10_leafRead_10 ?_
    refine kw_bipush C (8 : Int32) dX10_leafRead_13 rfl ?_
    refine kw_icmp_ne C 24 dX10_leafRead_15 rfl (fun c48 => ?_) (fun c48 => ?_)
    · have hf := if_n c48 hf
      refine kw_aload_n C dX10_leafRead_24 rfl 0 rfl ?_
      refine kw_dup C dX10_leafRead_25 rfl ?_
      refine kw_get C inG10 _ (hO10 g σ) rfl 39 (Nat.le_of_ble_eq_true rfl) mf_10_283 rfl rfl dX10_leafRead_26 ?_
      refine kw_iconst C (1 : Int32) dX10_leafRead_29 rfl ?_
      refine kw_iadd C dX10_leafRead_30 ?_
      obtain ⟨σ49, eσ49, hf⟩ := lt_elim hf
      refine kw_put C inG10 tyX10 tyX10_ok nmX10 _ (hO10 g σ) rfl 39 (Nat.le_of_ble_eq_true rfl) mf_10_283 rfl rfl (tyX10_ok 39 (Nat.le_of_ble_eq_true rfl)) rfl rfl (Nat.le_of_ble_eq_true rfl) ((hF10_39 g σ _).trans (congrArg (wM g) eσ49.symm)) dX10_leafRead_31 ?_
      refine kw_aload_n C dX10_leafRead_34 rfl 0 rfl ?_
      refine kw_iconst C (0 : Int32) dX10_leafRead_35 rfl ?_
      obtain ⟨σ51, hc50, hf⟩ := bV_elim hf
      refine kw_callVV C [.int (0 : Int32)] (kX10_waitsFor L D g t0 (0 : Int32) σ49 _ hc50) RX10 mV_X10_286 ⟨rfl, rfl⟩ dd_X10_waitsFor ⟨Nat.le_of_ble_eq_true rfl, Nat.le_of_ble_eq_true rfl⟩ _ (hO10 g σ49) rfl rfl rfl (Nat.le_of_ble_eq_true rfl) dX10_leafRead_36 ?_
      refine kw_aload_n C dX10_leafRead_39 rfl 0 rfl ?_
      refine kw_iconst C (1 : Int32) dX10_leafRead_40 rfl ?_
      obtain ⟨σ52, eσ52, hf⟩ := lt_elim hf
      refine kw_put C inG10 tyX10 tyX10_ok nmX10 _ (hO10 g σ51) rfl 42 (Nat.le_of_ble_eq_true rfl) mf_10_290 rfl rfl (tyX10_ok 42 (Nat.le_of_ble_eq_true rfl)) (narrow_bz (by decide)) (fits_bz (by decide)) (Nat.le_of_ble_eq_true rfl) ((hF10_42 g σ51 _).trans (congrArg (wM g) eσ52.symm)) dX10_leafRead_41 ?_
      refine kw_aload_n C dX10_leafRead_44 rfl 0 rfl ?_
      obtain ⟨σ54, hc53, hf⟩ := bV_elim hf
      refine kw_callVV C [] (kX10_token L D g t0 σ52 _ hc53) RX10 mV_X10_203 ⟨rfl, rfl⟩ dd_X10_token ⟨Nat.le_of_ble_eq_true rfl, Nat.le_of_ble_eq_true rfl⟩ _ (hO10 g σ52) rfl rfl rfl (Nat.le_of_ble_eq_true rfl) dX10_leafRead_45 ?_
      refine kw_iconst C (1 : Int32) dX10_leafRead_48 rfl ?_
      exact kw_zret C K (by decide) dX10_leafRead_49 hf
    · have hf := if_p c48 hf
      refine kw_aload_n C dX10_leafRead_18 rfl 0 rfl ?_
      refine kw_iconst C (2 : Int32) dX10_leafRead_19 rfl ?_
      obtain ⟨r56, σ57, hc55, hf⟩ := bI_elim hf
      refine kw_callVI C [.int (2 : Int32)] (kX10_wrong L D g t0 (2 : Int32) σ _ _ hc55) RX10 mV_X10_193 ⟨rfl, rfl⟩ dd_X10_wrong ⟨Nat.le_of_ble_eq_true rfl, Nat.le_of_ble_eq_true rfl⟩ _ (hO10 g σ) rfl rfl rfl (Nat.le_of_ble_eq_true rfl) dX10_leafRead_20 ?_
      obtain ⟨h58, hf⟩ := gd_elim hf
      exact kw_zret C K h58 dX10_leafRead_23 hf
set_option maxRecDepth 100000 in
set_option maxHeartbeats 4000000 in
theorem kX10_sumRead (L : Launch) (D : va_G) (g : GwT) (t0 : Nat) (σ : St) (r0 : Int32) (σ0 : St) (hf : fX10_sumRead σ  = some (r0, σ0)) : CtI L D (ttG g) (wM g) t0 yX10_sumRead cX10_sumRead 1 (some .boolean) { frames := 3, cells := 0, slots := 0, locals := 68 } [.ref (g.1 0)] σ r0 σ0 := by
  refine CtI.of (own := RX10) (by decide) rfl (Nat.le_of_ble_eq_true rfl) [(0, .ref (g.1 0))] rfl ?_
  intro X C hN K
  unfold fX10_sumRead at hf
  refine kw_aload_n C dX10_sumRead_0 rfl 0 rfl ?_
  refine kw_iconst C (0 : Int32) dX10_sumRead_1 rfl ?_
  obtain ⟨σ1, eσ1, hf⟩ := lt_elim hf
  refine kw_put C inG10 tyX10 tyX10_ok nmX10 _ (hO10 g σ) rfl 37 (Nat.le_of_ble_eq_true rfl) mf_10_268 rfl rfl (tyX10_ok 37 (Nat.le_of_ble_eq_true rfl)) rfl rfl (Nat.le_of_ble_eq_true rfl) ((hF10_37 g σ _).trans (congrArg (wM g) eσ1.symm)) dX10_sumRead_2 ?_
  refine kw_aload_n C dX10_sumRead_5 rfl 0 rfl ?_
  refine kw_iconst C (0 : Int32) dX10_sumRead_6 rfl ?_
  obtain ⟨σ2, eσ2, hf⟩ := lt_elim hf
  refine kw_put C inG10 tyX10 tyX10_ok nmX10 _ (hO10 g σ1) rfl 38 (Nat.le_of_ble_eq_true rfl) mf_10_265 rfl rfl (tyX10_ok 38 (Nat.le_of_ble_eq_true rfl)) rfl rfl (Nat.le_of_ble_eq_true rfl) ((hF10_38 g σ1 _).trans (congrArg (wM g) eσ2.symm)) dX10_sumRead_7 ?_
  refine kw_aload_n C dX10_sumRead_10 rfl 0 rfl ?_
  refine kw_iconst C (0 : Int32) dX10_sumRead_11 rfl ?_
  obtain ⟨σ3, eσ3, hf⟩ := lt_elim hf
  refine kw_put C inG10 tyX10 tyX10_ok nmX10 _ (hO10 g σ2) rfl 39 (Nat.le_of_ble_eq_true rfl) mf_10_283 rfl rfl (tyX10_ok 39 (Nat.le_of_ble_eq_true rfl)) rfl rfl (Nat.le_of_ble_eq_true rfl) ((hF10_39 g σ2 _).trans (congrArg (wM g) eσ3.symm)) dX10_sumRead_12 ?_
  refine kw_aload_n C dX10_sumRead_15 rfl 0 rfl ?_
  refine kw_iconst C (1 : Int32) dX10_sumRead_16 rfl ?_
  obtain ⟨σ4, eσ4, hf⟩ := lt_elim hf
  refine kw_put C inG10 tyX10 tyX10_ok nmX10 _ (hO10 g σ3) rfl 41 (Nat.le_of_ble_eq_true rfl) mf_10_303 rfl rfl (tyX10_ok 41 (Nat.le_of_ble_eq_true rfl)) (narrow_bz (by decide)) (fits_bz (by decide)) (Nat.le_of_ble_eq_true rfl) ((hF10_41 g σ3 _).trans (congrArg (wM g) eσ4.symm)) dX10_sumRead_17 ?_
  refine kw_aload_n C dX10_sumRead_20 rfl 0 rfl ?_
  refine kw_iconst C (1 : Int32) dX10_sumRead_21 rfl ?_
  obtain ⟨σ5, eσ5, hf⟩ := lt_elim hf
  refine kw_put C inG10 tyX10 tyX10_ok nmX10 _ (hO10 g σ4) rfl 42 (Nat.le_of_ble_eq_true rfl) mf_10_290 rfl rfl (tyX10_ok 42 (Nat.le_of_ble_eq_true rfl)) (narrow_bz (by decide)) (fits_bz (by decide)) (Nat.le_of_ble_eq_true rfl) ((hF10_42 g σ4 _).trans (congrArg (wM g) eσ5.symm)) dX10_sumRead_22 ?_
  refine lpx1_walk (P := fun (σ6 : St) => KW X σ6 25 [(0, .ref (g.1 0))] []) ?_ FU _ hf
  intro self7 σ6 ih8 hf
  refine kw_aload_n C dX10_sumRead_25 rfl 0 rfl ?_
  refine kw_bipush C (59 : Int32) dX10_sumRead_26 rfl ?_
  obtain ⟨r10, hc9, hf⟩ := bd_elim hf
  refine kw_callVI C [.int (59 : Int32)] (kX10_isSign L D g t0 (59 : Int32) σ6 _ hc9) RX10 mV_X10_206 ⟨rfl, rfl⟩ dd_X10_isSign ⟨Nat.le_of_ble_eq_true rfl, Nat.le_of_ble_eq_true rfl⟩ _ (hO10 g σ6) rfl rfl rfl (Nat.le_of_ble_eq_true rfl) dX10_sumRead_28 ?_
  obtain ⟨J11, hJ11, hf⟩ := jnx1_elim hf
  have kJ11 : ∀ (u9 : Unit), J11 u9 = some (r0, σ0) → KW X σ6 48 [(0, .ref (g.1 0))] [] := by
    clear hf
    intro u9 hf
    have hf := (hJ11 u9).symm.trans hf
    refine kw_aload_n C dX10_sumRead_48 rfl 0 rfl ?_
    refine kw_get C inG10 _ (hO10 g σ6) rfl 41 (Nat.le_of_ble_eq_true rfl) mf_10_303 rfl rfl dX10_sumRead_49 ?_
    obtain ⟨J13, hJ13, hf⟩ := jnx1_elim hf
    have kJ13 : ∀ (σ12 : St), J13 σ12 = some (r0, σ0) → KW X σ12 72 [] [] := by
      clear hf
      intro σ12 hf
      have hf := (hJ13 σ12).symm.trans hf
      refine kw_iconst C (0 : Int32) dX10_sumRead_72 rfl ?_
      exact kw_zret C K (by decide) dX10_sumRead_73 hf
    refine kw_if_eq C 65 dX10_sumRead_52 rfl (fun c14 => ?_) (fun c14 => ?_)
    · have hf := if_p c14 hf
      refine kw_aload_n C dX10_sumRead_65 rfl 0 rfl ?_
      obtain ⟨r16, σ17, hc15, hf⟩ := bI_elim hf
      refine kw_callVI C [] (kX10_signs L D g t0 σ6 _ _ hc15) RX10 mV_X10_312 ⟨rfl, rfl⟩ dd_X10_signs ⟨Nat.le_of_ble_eq_true rfl, Nat.le_of_ble_eq_true rfl⟩ _ (hO10 g σ6) rfl rfl rfl (Nat.le_of_ble_eq_true rfl) dX10_sumRead_66 ?_
      refine kw_if_ne C 25 dX10_sumRead_69 rfl (fun c18 => ?_) (fun c18 => ?_)
      · have hf := if_n c18 hf
        exact ih8 _ hf
      · have hf := if_p c18 hf
        refine kw_sub [] _ rfl ?_
        exact kJ13 _ hf
    · have hf := if_n c14 hf
      refine kw_aload_n C dX10_sumRead_55 rfl 0 rfl ?_
      obtain ⟨r20, σ21, hc19, hf⟩ := bI_elim hf
      refine kw_callVI C [] (kX10_leafRead L D g t0 σ6 _ _ hc19) RX10 mV_X10_309 ⟨rfl, rfl⟩ dd_X10_leafRead ⟨Nat.le_of_ble_eq_true rfl, Nat.le_of_ble_eq_true rfl⟩ _ (hO10 g σ6) rfl rfl rfl (Nat.le_of_ble_eq_true rfl) dX10_sumRead_56 ?_
      refine kw_if_eq C 72 dX10_sumRead_59 rfl (fun c22 => ?_) (fun c22 => ?_)
      · have hf := if_p c22 hf
        refine kw_sub [] _ rfl ?_
        exact kJ13 _ hf
      · have hf := if_n c22 hf
        refine kw_goto C 25 dX10_sumRead_62 rfl ?_
        exact ih8 _ hf
  refine kw_if_eq C 48 dX10_sumRead_31 rfl (fun c23 => ?_) (fun c23 => ?_)
  · have hf := if_p c23 hf
    exact kJ11 _ hf
  · have hf := if_n c23 hf
    refine kw_aload_n C dX10_sumRead_34 rfl 0 rfl ?_
    refine kw_get C inG10 _ (hO10 g σ6) rfl 41 (Nat.le_of_ble_eq_true rfl) mf_10_303 rfl rfl dX10_sumRead_35 ?_
    refine kw_if_ne C 48 dX10_sumRead_38 rfl (fun c24 => ?_) (fun c24 => ?_)
    · have hf := if_n c24 hf
      exact kJ11 _ hf
    · have hf := if_p c24 hf
      refine kw_aload_n C dX10_sumRead_41 rfl 0 rfl ?_
      refine kw_get C inG10 _ (hO10 g σ6) rfl 39 (Nat.le_of_ble_eq_true rfl) mf_10_283 rfl rfl dX10_sumRead_42 ?_
      refine kw_if_le C 74 dX10_sumRead_45 rfl (fun c25 => ?_) (fun c25 => ?_)
      · have hf := if_p c25 hf
        refine kw_aload_n C dX10_sumRead_74 rfl 0 rfl ?_
        refine kw_iconst C (1 : Int32) dX10_sumRead_75 rfl ?_
        obtain ⟨σ27, hc26, hf⟩ := bV_elim hf
        refine kw_callVV C [.int (1 : Int32)] (kX10_bind L D g t0 (1 : Int32) σ6 _ hc26) RX10 mV_X10_306 ⟨rfl, rfl⟩ dd_X10_bind ⟨Nat.le_of_ble_eq_true rfl, Nat.le_of_ble_eq_true rfl⟩ _ (hO10 g σ6) rfl rfl rfl (Nat.le_of_ble_eq_true rfl) dX10_sumRead_76 ?_
        refine kw_iconst C (1 : Int32) dX10_sumRead_79 rfl ?_
        exact kw_zret C K (by decide) dX10_sumRead_80 hf
      · have hf := if_n c25 hf
        exact kJ11 _ hf
set_option maxRecDepth 100000 in
set_option maxHeartbeats 4000000 in
theorem kX10_lineRead (L : Launch) (D : va_G) (g : GwT) (t0 : Nat) (σ : St) (r0 : Int32) (σ0 : St) (hf : fX10_lineRead σ  = some (r0, σ0)) : CtI L D (ttG g) (wM g) t0 yX10_lineRead cX10_lineRead 3 (some .boolean) { frames := 4, cells := 0, slots := 0, locals := 92 } [.ref (g.1 0)] σ r0 σ0 := by
  refine CtI.of (own := RX10) (by decide) rfl (Nat.le_of_ble_eq_true rfl) [(0, .ref (g.1 0))] rfl ?_
  intro X C hN K
  unfold fX10_lineRead at hf
  refine kw_aload_n C dX10_lineRead_0 rfl 0 rfl ?_
  refine kw_get C inG10 _ (hO10 g σ) rfl 8 (Nat.le_of_ble_eq_true rfl) mf_10_169 rfl rfl dX10_lineRead_1 ?_
  refine kw_iconst C (1 : Int32) dX10_lineRead_4 rfl ?_
  obtain ⟨J1, hJ1, hf⟩ := jnx1_elim hf
  have kJ1 : ∀ (u9 : Unit), J1 u9 = some (r0, σ0) → KW X σ 16 [(0, .ref (g.1 0))] [] := by
    clear hf
    intro u9 hf
    have hf := (hJ1 u9).symm.trans hf
    refine kw_aload_n C dX10_lineRead_16 rfl 0 rfl ?_
    refine kw_iconst C (1 : Int32) dX10_lineRead_17 rfl ?_
    obtain ⟨r3, σ4, hc2, hf⟩ := bI_elim hf
    refine kw_callVI C [.int (1 : Int32)] (kX10_wrong L D g t0 (1 : Int32) σ _ _ hc2) RX10 mV_X10_193 ⟨rfl, rfl⟩ dd_X10_wrong ⟨Nat.le_of_ble_eq_true rfl, Nat.le_of_ble_eq_true rfl⟩ _ (hO10 g σ) rfl rfl rfl (Nat.le_of_ble_eq_true rfl) dX10_lineRead_18 ?_
    obtain ⟨h5, hf⟩ := gd_elim hf
    exact kw_zret C K h5 dX10_lineRead_21 hf
  refine kw_icmp_ne C 16 dX10_lineRead_5 rfl (fun c6 => ?_) (fun c6 => ?_)
  · have hf := if_n c6 hf
    exact kJ1 _ hf
  · have hf := if_p c6 hf
    refine kw_aload_n C dX10_lineRead_8 rfl 0 rfl ?_
    refine kw_get C inG10 _ (hO10 g σ) rfl 9 (Nat.le_of_ble_eq_true rfl) mf_10_180 rfl rfl dX10_lineRead_9 ?_
    refine kw_iconst C (5 : Int32) dX10_lineRead_12 rfl ?_
    refine kw_icmp_le C 22 dX10_lineRead_13 rfl (fun c7 => ?_) (fun c7 => ?_)
    · have hf := if_p c7 hf
      refine kw_aload_n C dX10_lineRead_22 rfl 0 rfl ?_
      refine kw_get C inG10 _ (hO10 g σ) rfl 9 (Nat.le_of_ble_eq_true rfl) mf_10_180 rfl rfl dX10_lineRead_23 ?_
      obtain ⟨x8, ex8, hf⟩ := lt_elim hf
      refine kw_topi ex8 ?_
      obtain ⟨J11, hJ11, hf⟩ := jnx2_elim hf
      have kJ11 : ∀ (x9 : Int32) (σ10 : St), J11 x9 σ10 = some (r0, σ0) → KW X σ10 210 [(0, .ref (g.1 0)), (1, .int x9)] [] := by
        clear hf
        intro x9 σ10 hf
        have hf := (hJ11 x9 σ10).symm.trans hf
        refine kw_iload_n C dX10_lineRead_210 rfl 1 rfl ?_
        refine kw_if_ne C 216 dX10_lineRead_211 rfl (fun c12 => ?_) (fun c12 => ?_)
        · have hf := if_n c12 hf
          refine kw_aload_n C dX10_lineRead_216 rfl 0 rfl ?_
          refine kw_bipush C (59 : Int32) dX10_lineRead_217 rfl ?_
          obtain ⟨r14, hc13, hf⟩ := bd_elim hf
          refine kw_callVI C [.int (59 : Int32)] (kX10_isSign L D g t0 (59 : Int32) σ10 _ hc13) RX10 mV_X10_206 ⟨rfl, rfl⟩ dd_X10_isSign ⟨Nat.le_of_ble_eq_true rfl, Nat.le_of_ble_eq_true rfl⟩ _ (hO10 g σ10) rfl rfl rfl (Nat.le_of_ble_eq_true rfl) dX10_lineRead_219 ?_
          refine kw_if_ne C 231 dX10_lineRead_222 rfl (fun c15 => ?_) (fun c15 => ?_)
          · have hf := if_n c15 hf
            refine kw_aload_n C dX10_lineRead_231 rfl 0 rfl ?_
            obtain ⟨σ17, hc16, hf⟩ := bV_elim hf
            refine kw_callVV C [] (kX10_token L D g t0 σ10 _ hc16) RX10 mV_X10_203 ⟨rfl, rfl⟩ dd_X10_token ⟨Nat.le_of_ble_eq_true rfl, Nat.le_of_ble_eq_true rfl⟩ _ (hO10 g σ10) rfl rfl rfl (Nat.le_of_ble_eq_true rfl) dX10_lineRead_232 ?_
            refine kw_iconst C (1 : Int32) dX10_lineRead_235 rfl ?_
            exact kw_zret C K (by decide) dX10_lineRead_236 hf
          · have hf := if_p c15 hf
            refine kw_aload_n C dX10_lineRead_225 rfl 0 rfl ?_
            refine kw_iconst C (1 : Int32) dX10_lineRead_226 rfl ?_
            obtain ⟨r19, σ20, hc18, hf⟩ := bI_elim hf
            refine kw_callVI C [.int (1 : Int32)] (kX10_wrong L D g t0 (1 : Int32) σ10 _ _ hc18) RX10 mV_X10_193 ⟨rfl, rfl⟩ dd_X10_wrong ⟨Nat.le_of_ble_eq_true rfl, Nat.le_of_ble_eq_true rfl⟩ _ (hO10 g σ10) rfl rfl rfl (Nat.le_of_ble_eq_true rfl) dX10_lineRead_227 ?_
            obtain ⟨h21, hf⟩ := gd_elim hf
            exact kw_zret C K h21 dX10_lineRead_230 hf
        · have hf := if_p c12 hf
          refine kw_iconst C (0 : Int32) dX10_lineRead_214 rfl ?_
          exact kw_zret C K (by decide) dX10_lineRead_215 hf
      by_cases c22 : x8 = (0 : Int32)
      · have hf := if_p c22 hf
        refine kw_tabIn C 60 dX10_lineRead_26 c22 (by decide) (by decide) rfl rfl ?_
        refine kw_aload_n C dX10_lineRead_60 rfl 0 rfl ?_
        obtain ⟨r24, σ25, hc23, hf⟩ := bI_elim hf
        refine kw_callVI C [] (kX10_houseLine L D g t0 σ _ _ hc23) RX10 mV_X10_249 ⟨rfl, rfl⟩ dd_X10_houseLine ⟨Nat.le_of_ble_eq_true rfl, Nat.le_of_ble_eq_true rfl⟩ _ (hO10 g σ) rfl rfl rfl (Nat.le_of_ble_eq_true rfl) dX10_lineRead_61 ?_
        refine kw_istore_n C dX10_lineRead_64 rfl hN (Nat.le_of_ble_eq_true rfl) [(1, .int r24), (0, .ref (g.1 0))] rfl ?_
        refine kw_goto C 210 dX10_lineRead_65 rfl ?_
        refine kw_sub [1, 0] _ rfl ?_
        exact kJ11 _ _ hf
      have hf := if_n c22 hf
      by_cases c26 : x8 = (1 : Int32)
      · have hf := if_p c26 hf
        refine kw_tabIn C 68 dX10_lineRead_26 c26 (by decide) (by decide) rfl rfl ?_
        refine kw_aload_n C dX10_lineRead_68 rfl 0 rfl ?_
        obtain ⟨r28, σ29, hc27, hf⟩ := bI_elim hf
        refine kw_callVI C [] (kX10_partLine L D g t0 σ _ _ hc27) RX10 mV_X10_253 ⟨rfl, rfl⟩ dd_X10_partLine ⟨Nat.le_of_ble_eq_true rfl, Nat.le_of_ble_eq_true rfl⟩ _ (hO10 g σ) rfl rfl rfl (Nat.le_of_ble_eq_true rfl) dX10_lineRead_69 ?_
        refine kw_istore_n C dX10_lineRead_72 rfl hN (Nat.le_of_ble_eq_true rfl) [(1, .int r28), (0, .ref (g.1 0))] rfl ?_
        refine kw_goto C 210 dX10_lineRead_73 rfl ?_
        refine kw_sub [1, 0] _ rfl ?_
        exact kJ11 _ _ hf
      have hf := if_n c26 hf
      by_cases c30 : x8 = (2 : Int32)
      · have hf := if_p c30 hf
        refine kw_tabIn C 76 dX10_lineRead_26 c30 (by decide) (by decide) rfl rfl ?_
        refine kw_aload_n C dX10_lineRead_76 rfl 0 rfl ?_
        refine kw_iconst C (0 : Int32) dX10_lineRead_77 rfl ?_
        refine kw_iconst C (1 : Int32) dX10_lineRead_78 rfl ?_
        refine kw_bipush C (20 : Int32) dX10_lineRead_79 rfl ?_
        obtain ⟨r32, σ33, hc31, hf⟩ := bI_elim hf
        refine kw_callVI C [.int (0 : Int32), .int (1 : Int32), .int (20 : Int32)] (kX10_onceLine L D g t0 (0 : Int32) (1 : Int32) (20 : Int32) σ _ _ hc31) RX10 mV_X10_256 ⟨rfl, rfl⟩ dd_X10_onceLine ⟨Nat.le_of_ble_eq_true rfl, Nat.le_of_ble_eq_true rfl⟩ _ (hO10 g σ) rfl rfl rfl (Nat.le_of_ble_eq_true rfl) dX10_lineRead_81 ?_
        refine kw_istore_n C dX10_lineRead_84 rfl hN (Nat.le_of_ble_eq_true rfl) [(1, .int r32), (0, .ref (g.1 0))] rfl ?_
        refine kw_goto C 210 dX10_lineRead_85 rfl ?_
        refine kw_sub [1, 0] _ rfl ?_
        exact kJ11 _ _ hf
      have hf := if_n c30 hf
      by_cases c34 : x8 = (3 : Int32)
      · have hf := if_p c34 hf
        refine kw_tabIn C 88 dX10_lineRead_26 c34 (by decide) (by decide) rfl rfl ?_
        refine kw_aload_n C dX10_lineRead_88 rfl 0 rfl ?_
        refine kw_iconst C (1 : Int32) dX10_lineRead_89 rfl ?_
        refine kw_iconst C (0 : Int32) dX10_lineRead_90 rfl ?_
        refine kw_sipush C (999 : Int32) dX10_lineRead_91 rfl ?_
        obtain ⟨r36, σ37, hc35, hf⟩ := bI_elim hf
        refine kw_callVI C [.int (1 : Int32), .int (0 : Int32), .int (999 : Int32)] (kX10_onceLine L D g t0 (1 : Int32) (0 : Int32) (999 : Int32) σ _ _ hc35) RX10 mV_X10_256 ⟨rfl, rfl⟩ dd_X10_onceLine ⟨Nat.le_of_ble_eq_true rfl, Nat.le_of_ble_eq_true rfl⟩ _ (hO10 g σ) rfl rfl rfl (Nat.le_of_ble_eq_true rfl) dX10_lineRead_94 ?_
        refine kw_istore_n C dX10_lineRead_97 rfl hN (Nat.le_of_ble_eq_true rfl) [(1, .int r36), (0, .ref (g.1 0))] rfl ?_
        refine kw_goto C 210 dX10_lineRead_98 rfl ?_
        refine kw_sub [1, 0] _ rfl ?_
        exact kJ11 _ _ hf
      have hf := if_n c34 hf
      by_cases c38 : x8 = (4 : Int32)
      · have hf := if_p c38 hf
        refine kw_tabIn C 101 dX10_lineRead_26 c38 (by decide) (by decide) rfl rfl ?_
        refine kw_aload_n C dX10_lineRead_101 rfl 0 rfl ?_
        refine kw_iconst C (2 : Int32) dX10_lineRead_102 rfl ?_
        refine kw_iconst C (0 : Int32) dX10_lineRead_103 rfl ?_
        refine kw_ldc C dX10_lineRead_104 mk_X10_189 ?_
        obtain ⟨r40, σ41, hc39, hf⟩ := bI_elim hf
        refine kw_callVI C [.int (2 : Int32), .int (0 : Int32), .int (99999 : Int32)] (kX10_onceLine L D g t0 (2 : Int32) (0 : Int32) (99999 : Int32) σ _ _ hc39) RX10 mV_X10_256 ⟨rfl, rfl⟩ dd_X10_onceLine ⟨Nat.le_of_ble_eq_true rfl, Nat.le_of_ble_eq_true rfl⟩ _ (hO10 g σ) rfl rfl rfl (Nat.le_of_ble_eq_true rfl) dX10_lineRead_106 ?_
        refine kw_istore_n C dX10_lineRead_109 rfl hN (Nat.le_of_ble_eq_true rfl) [(1, .int r40), (0, .ref (g.1 0))] rfl ?_
        refine kw_goto C 210 dX10_lineRead_110 rfl ?_
        refine kw_sub [1, 0] _ rfl ?_
        exact kJ11 _ _ hf
      have hf := if_n c38 hf
      have c22_ : x8.toInt ≠ 0 := ne_ti c22
      have c26_ : x8.toInt ≠ 1 := ne_ti c26
      have c30_ : x8.toInt ≠ 2 := ne_ti c30
      have c34_ : x8.toInt ≠ 3 := ne_ti c34
      have c38_ : x8.toInt ≠ 4 := ne_ti c38
      refine kw_tabOut C 113 dX10_lineRead_26 (by omega) rfl ?_
      refine kw_aload_n C dX10_lineRead_113 rfl 0 rfl ?_
      obtain ⟨σ43, hc42, hf⟩ := bV_elim hf
      refine kw_callVV C [] (kX10_token L D g t0 σ _ hc42) RX10 mV_X10_203 ⟨rfl, rfl⟩ dd_X10_token ⟨Nat.le_of_ble_eq_true rfl, Nat.le_of_ble_eq_true rfl⟩ _ (hO10 g σ) rfl rfl rfl (Nat.le_of_ble_eq_true rfl) dX10_lineRead_114 ?_
      refine kw_aload_n C dX10_lineRead_117 rfl 0 rfl ?_
      refine kw_get C inG10 _ (hO10 g σ43) rfl 8 (Nat.le_of_ble_eq_true rfl) mf_10_169 rfl rfl dX10_lineRead_118 ?_
      refine kw_iconst C (1 : Int32) dX10_lineRead_121 rfl ?_
      obtain ⟨J44, hJ44, hf⟩ := jnx1_elim hf
      have kJ44 : ∀ (u9 : Unit), J44 u9 = some (r0, σ0) → KW X σ43 143 [(0, .ref (g.1 0))] [] := by
        clear hf
        intro u9 hf
        have hf := (hJ44 u9).symm.trans hf
        refine kw_aload_n C dX10_lineRead_143 rfl 0 rfl ?_
        refine kw_iconst C (1 : Int32) dX10_lineRead_144 rfl ?_
        obtain ⟨r46, σ47, hc45, hf⟩ := bI_elim hf
        refine kw_callVI C [.int (1 : Int32)] (kX10_wrong L D g t0 (1 : Int32) σ43 _ _ hc45) RX10 mV_X10_193 ⟨rfl, rfl⟩ dd_X10_wrong ⟨Nat.le_of_ble_eq_true rfl, Nat.le_of_ble_eq_true rfl⟩ _ (hO10 g σ43) rfl rfl rfl (Nat.le_of_ble_eq_true rfl) dX10_lineRead_145 ?_
        obtain ⟨h48, hf⟩ := gd_elim hf
        exact kw_zret C K h48 dX10_lineRead_148 hf
      refine kw_icmp_ne C 143 dX10_lineRead_122 rfl (fun c49 => ?_) (fun c49 => ?_)
      · have hf := if_n c49 hf
        exact kJ44 _ hf
      · have hf := if_p c49 hf
        refine kw_aload_n C dX10_lineRead_125 rfl 0 rfl ?_
        refine kw_get C inG10 _ (hO10 g σ43) rfl 9 (Nat.le_of_ble_eq_true rfl) mf_10_180 rfl rfl dX10_lineRead_126 ?_
        refine kw_bipush C (6 : Int32) dX10_lineRead_129 rfl ?_
        refine kw_icmp_lt C 143 dX10_lineRead_131 rfl (fun c50 => ?_) (fun c50 => ?_)
        · have hf := if_p c50 hf
          exact kJ44 _ hf
        · have hf := if_n c50 hf
          refine kw_aload_n C dX10_lineRead_134 rfl 0 rfl ?_
          refine kw_get C inG10 _ (hO10 g σ43) rfl 9 (Nat.le_of_ble_eq_true rfl) mf_10_180 rfl rfl dX10_lineRead_135 ?_
          refine kw_bipush C (8 : Int32) dX10_lineRead_138 rfl ?_
          refine kw_icmp_le C 149 dX10_lineRead_140 rfl (fun c51 => ?_) (fun c51 => ?_)
          · have hf := if_p c51 hf
            refine kw_iconst C (3 : Int32) dX10_lineRead_149 rfl ?_
            refine kw_aload_n C dX10_lineRead_150 rfl 0 rfl ?_
            refine kw_get C inG10 _ (hO10 g σ43) rfl 9 (Nat.le_of_ble_eq_true rfl) mf_10_180 rfl rfl dX10_lineRead_151 ?_
            refine kw_iadd C dX10_lineRead_154 ?_
            refine kw_bipush C (6 : Int32) dX10_lineRead_155 rfl ?_
            refine kw_isub C dX10_lineRead_157 ?_
            obtain ⟨x52, ex52, hf⟩ := lt_elim hf
            refine kw_topi ex52 ?_
            refine kw_istore_n C dX10_lineRead_158 rfl hN (Nat.le_of_ble_eq_true rfl) [(2, .int x52), (0, .ref (g.1 0))] rfl ?_
            refine kw_aload_n C dX10_lineRead_159 rfl 1 rfl ?_
            refine kw_get C inG10 _ (hO10 g σ43) rfl 29 (Nat.le_of_ble_eq_true rfl) mf_10_54 rfl rfl dX10_lineRead_160 ?_
            refine kw_iload_n C dX10_lineRead_163 rfl 0 rfl ?_
            obtain ⟨h53, hf⟩ := gd_elim hf
            refine kw_zald C _ 3 (hA10_29 g σ43) rfl h53 dX10_lineRead_164 ?_
            refine kw_if_eq C 174 dX10_lineRead_165 rfl (fun c54 => ?_) (fun c54 => ?_)
            · have hf := if_p c54 hf
              refine kw_aload_n C dX10_lineRead_174 rfl 1 rfl ?_
              refine kw_get C inG10 _ (hO10 g σ43) rfl 29 (Nat.le_of_ble_eq_true rfl) mf_10_54 rfl rfl dX10_lineRead_175 ?_
              refine kw_iload_n C dX10_lineRead_178 rfl 0 rfl ?_
              refine kw_iconst C (1 : Int32) dX10_lineRead_179 rfl ?_
              obtain ⟨h55, hf⟩ := gd_elim hf
              obtain ⟨σ56, eσ56, hf⟩ := lt_elim hf
              refine kw_zast C _ 3 (hA10_29 g σ43) rfl h55 ((hS10_29 g σ43 _).trans (congrArg (wM g) eσ56.symm)) dX10_lineRead_180 ?_
              refine kw_aload_n C dX10_lineRead_181 rfl 1 rfl ?_
              obtain ⟨σ58, hc57, hf⟩ := bV_elim hf
              refine kw_callVV C [] (kX10_token L D g t0 σ56 _ hc57) RX10 mV_X10_203 ⟨rfl, rfl⟩ dd_X10_token ⟨Nat.le_of_ble_eq_true rfl, Nat.le_of_ble_eq_true rfl⟩ _ (hO10 g σ56) rfl rfl rfl (Nat.le_of_ble_eq_true rfl) dX10_lineRead_182 ?_
              refine kw_aload_n C dX10_lineRead_185 rfl 1 rfl ?_
              refine kw_get C inG10 _ (hO10 g σ58) rfl 30 (Nat.le_of_ble_eq_true rfl) mf_10_57 rfl rfl dX10_lineRead_186 ?_
              refine kw_iload_n C dX10_lineRead_189 rfl 0 rfl ?_
              refine kw_aload_n C dX10_lineRead_190 rfl 1 rfl ?_
              refine kw_get C inG10 _ (hO10 g σ58) rfl 17 (Nat.le_of_ble_eq_true rfl) mf_10_219 rfl rfl dX10_lineRead_191 ?_
              obtain ⟨h59, hf⟩ := gd_elim hf
              obtain ⟨σ60, eσ60, hf⟩ := lt_elim hf
              refine kw_iast C _ 0 (hA10_30 g σ58) rfl h59 ((hS10_30 g σ58 _).trans (congrArg (wM g) eσ60.symm)) dX10_lineRead_194 ?_
              refine kw_aload_n C dX10_lineRead_195 rfl 1 rfl ?_
              obtain ⟨r62, σ63, hc61, hf⟩ := bI_elim hf
              refine kw_callVI C [] (kX10_sumRead L D g t0 σ60 _ _ hc61) RX10 mV_X10_259 ⟨rfl, rfl⟩ dd_X10_sumRead ⟨Nat.le_of_ble_eq_true rfl, Nat.le_of_ble_eq_true rfl⟩ _ (hO10 g σ60) rfl rfl rfl (Nat.le_of_ble_eq_true rfl) dX10_lineRead_196 ?_
              refine kw_istore_n C dX10_lineRead_199 rfl hN (Nat.le_of_ble_eq_true rfl) [(1, .int r62), (2, .int x52), (0, .ref (g.1 0))] rfl ?_
              refine kw_aload_n C dX10_lineRead_200 rfl 2 rfl ?_
              refine kw_get C inG10 _ (hO10 g σ63) rfl 31 (Nat.le_of_ble_eq_true rfl) mf_10_60 rfl rfl dX10_lineRead_201 ?_
              refine kw_iload_n C dX10_lineRead_204 rfl 1 rfl ?_
              refine kw_aload_n C dX10_lineRead_205 rfl 2 rfl ?_
              refine kw_get C inG10 _ (hO10 g σ63) rfl 17 (Nat.le_of_ble_eq_true rfl) mf_10_219 rfl rfl dX10_lineRead_206 ?_
              obtain ⟨h64, hf⟩ := gd_elim hf
              obtain ⟨σ65, eσ65, hf⟩ := lt_elim hf
              refine kw_iast C _ 0 (hA10_31 g σ63) rfl h64 ((hS10_31 g σ63 _).trans (congrArg (wM g) eσ65.symm)) dX10_lineRead_209 ?_
              refine kw_sub [2, 0] _ rfl ?_
              exact kJ11 _ _ hf
            · have hf := if_n c54 hf
              refine kw_aload_n C dX10_lineRead_168 rfl 1 rfl ?_
              refine kw_iconst C (3 : Int32) dX10_lineRead_169 rfl ?_
              obtain ⟨r67, σ68, hc66, hf⟩ := bI_elim hf
              refine kw_callVI C [.int (3 : Int32)] (kX10_wrong L D g t0 (3 : Int32) σ43 _ _ hc66) RX10 mV_X10_193 ⟨rfl, rfl⟩ dd_X10_wrong ⟨Nat.le_of_ble_eq_true rfl, Nat.le_of_ble_eq_true rfl⟩ _ (hO10 g σ43) rfl rfl rfl (Nat.le_of_ble_eq_true rfl) dX10_lineRead_170 ?_
              obtain ⟨h69, hf⟩ := gd_elim hf
              exact kw_zret C K h69 dX10_lineRead_173 hf
          · have hf := if_n c51 hf
            exact kJ44 _ hf
    · have hf := if_n c7 hf
      exact kJ1 _ hf
set_option maxRecDepth 100000 in
set_option maxHeartbeats 4000000 in
theorem kX10_text (L : Launch) (D : va_G) (g : GwT) (t0 : Nat) (p0 : Int32) (σ : St) (r0 : Int32) (σ0 : St) (hf : fX10_text σ p0 = some (r0, σ0)) : CtI L D (ttG g) (wM g) t0 yX10_text cX10_text 3 (some .int) { frames := 5, cells := 0, slots := 0, locals := 114 } [.ref (g.1 0), .int p0] σ r0 σ0 := by
  refine CtI.of (own := RX10) (by decide) rfl (Nat.le_of_ble_eq_true rfl) [(0, .ref (g.1 0)), (1, .int p0)] rfl ?_
  intro X C hN K
  unfold fX10_text at hf
  refine kw_aload_n C dX10_text_0 rfl 0 rfl ?_
  refine kw_iconst C (0 : Int32) dX10_text_1 rfl ?_
  obtain ⟨σ1, eσ1, hf⟩ := lt_elim hf
  refine kw_put C inG10 tyX10 tyX10_ok nmX10 _ (hO10 g σ) rfl 2 (Nat.le_of_ble_eq_true rfl) mf_10_151 rfl rfl (tyX10_ok 2 (Nat.le_of_ble_eq_true rfl)) rfl rfl (Nat.le_of_ble_eq_true rfl) ((hF10_2 g σ _).trans (congrArg (wM g) eσ1.symm)) dX10_text_2 ?_
  refine kw_iload_n C dX10_text_5 rfl 1 rfl ?_
  obtain ⟨J2, hJ2, hf⟩ := jnx1_elim hf
  have kJ2 : ∀ (u9 : Unit), J2 u9 = some (r0, σ0) → KW X σ1 17 [] [] := by
    clear hf
    intro u9 hf
    have hf := (hJ2 u9).symm.trans hf
    refine kw_bipush C (-2 : Int32) dX10_text_17 rfl ?_
    exact kw_iret C K dX10_text_19 hf
  refine kw_if_lt C 17 dX10_text_6 rfl (fun c3 => ?_) (fun c3 => ?_)
  · have hf := if_p c3 hf
    refine kw_sub [] _ rfl ?_
    exact kJ2 _ hf
  · have hf := if_n c3 hf
    refine kw_iload_n C dX10_text_9 rfl 1 rfl ?_
    refine kw_aload_n C dX10_text_10 rfl 0 rfl ?_
    refine kw_get C inG10 _ (hO10 g σ1) rfl 1 (Nat.le_of_ble_eq_true rfl) mf_10_154 rfl rfl dX10_text_11 ?_
    refine kw_icmp_le C 20 dX10_text_14 rfl (fun c4 => ?_) (fun c4 => ?_)
    · have hf := if_p c4 hf
      refine kw_aload_n C dX10_text_20 rfl 0 rfl ?_
      refine kw_iload_n C dX10_text_21 rfl 1 rfl ?_
      obtain ⟨σ5, eσ5, hf⟩ := lt_elim hf
      refine kw_put C inG10 tyX10 tyX10_ok nmX10 _ (hO10 g σ1) rfl 6 (Nat.le_of_ble_eq_true rfl) mf_10_163 rfl rfl (tyX10_ok 6 (Nat.le_of_ble_eq_true rfl)) rfl rfl (Nat.le_of_ble_eq_true rfl) ((hF10_6 g σ1 _).trans (congrArg (wM g) eσ5.symm)) dX10_text_22 ?_
      refine kw_aload_n C dX10_text_25 rfl 0 rfl ?_
      refine kw_iconst C (0 : Int32) dX10_text_26 rfl ?_
      obtain ⟨σ6, eσ6, hf⟩ := lt_elim hf
      refine kw_put C inG10 tyX10 tyX10_ok nmX10 _ (hO10 g σ5) rfl 1 (Nat.le_of_ble_eq_true rfl) mf_10_154 rfl rfl (tyX10_ok 1 (Nat.le_of_ble_eq_true rfl)) rfl rfl (Nat.le_of_ble_eq_true rfl) ((hF10_1 g σ5 _).trans (congrArg (wM g) eσ6.symm)) dX10_text_27 ?_
      refine kw_aload_n C dX10_text_30 rfl 0 rfl ?_
      refine kw_iconst C (0 : Int32) dX10_text_31 rfl ?_
      obtain ⟨σ7, eσ7, hf⟩ := lt_elim hf
      refine kw_put C inG10 tyX10 tyX10_ok nmX10 _ (hO10 g σ6) rfl 4 (Nat.le_of_ble_eq_true rfl) mf_10_157 rfl rfl (tyX10_ok 4 (Nat.le_of_ble_eq_true rfl)) rfl rfl (Nat.le_of_ble_eq_true rfl) ((hF10_4 g σ6 _).trans (congrArg (wM g) eσ7.symm)) dX10_text_32 ?_
      refine kw_aload_n C dX10_text_35 rfl 0 rfl ?_
      refine kw_iconst C (-1 : Int32) dX10_text_36 rfl ?_
      obtain ⟨σ8, eσ8, hf⟩ := lt_elim hf
      refine kw_put C inG10 tyX10 tyX10_ok nmX10 _ (hO10 g σ7) rfl 5 (Nat.le_of_ble_eq_true rfl) mf_10_16 rfl rfl (tyX10_ok 5 (Nat.le_of_ble_eq_true rfl)) rfl rfl (Nat.le_of_ble_eq_true rfl) ((hF10_5 g σ7 _).trans (congrArg (wM g) eσ8.symm)) dX10_text_37 ?_
      refine kw_aload_n C dX10_text_40 rfl 0 rfl ?_
      refine kw_iconst C (0 : Int32) dX10_text_41 rfl ?_
      obtain ⟨σ9, eσ9, hf⟩ := lt_elim hf
      refine kw_put C inG10 tyX10 tyX10_ok nmX10 _ (hO10 g σ8) rfl 7 (Nat.le_of_ble_eq_true rfl) mf_10_166 rfl rfl (tyX10_ok 7 (Nat.le_of_ble_eq_true rfl)) rfl rfl (Nat.le_of_ble_eq_true rfl) ((hF10_7 g σ8 _).trans (congrArg (wM g) eσ9.symm)) dX10_text_42 ?_
      refine kw_aload_n C dX10_text_45 rfl 0 rfl ?_
      obtain ⟨σ11, hc10, hf⟩ := bV_elim hf
      refine kw_callVV C [] (kX10_plain L D g t0 σ9 _ hc10) RX10 mV_X10_145 ⟨rfl, rfl⟩ dd_X10_plain ⟨Nat.le_of_ble_eq_true rfl, Nat.le_of_ble_eq_true rfl⟩ _ (hO10 g σ9) rfl rfl rfl (Nat.le_of_ble_eq_true rfl) dX10_text_46 ?_
      refine kw_aload_n C dX10_text_49 rfl 0 rfl ?_
      obtain ⟨σ13, hc12, hf⟩ := bV_elim hf
      refine kw_callVV C [] (kX10_token L D g t0 σ11 _ hc12) RX10 mV_X10_203 ⟨rfl, rfl⟩ dd_X10_token ⟨Nat.le_of_ble_eq_true rfl, Nat.le_of_ble_eq_true rfl⟩ _ (hO10 g σ11) rfl rfl rfl (Nat.le_of_ble_eq_true rfl) dX10_text_50 ?_
      refine kw_iconst C (0 : Int32) dX10_text_53 rfl ?_
      refine kw_istore_n C dX10_text_54 rfl hN (Nat.le_of_ble_eq_true rfl) [(2, .int (0 : Int32)), (0, .ref (g.1 0)), (1, .int p0)] rfl ?_
      refine kw_sub [1, 0] _ rfl ?_
      refine lpx2_walk (P := fun (x14 : Int32) (σ15 : St) => KW X σ15 55 [(0, .ref (g.1 0)), (2, .int x14)] []) ?_ FU _ _ hf
      intro self16 x14 σ15 ih17 hf
      refine kw_aload_n C dX10_text_55 rfl 0 rfl ?_
      refine kw_get C inG10 _ (hO10 g σ15) rfl 8 (Nat.le_of_ble_eq_true rfl) mf_10_169 rfl rfl dX10_text_56 ?_
      refine kw_if_eq C 77 dX10_text_59 rfl (fun c18 => ?_) (fun c18 => ?_)
      · have hf := if_p c18 hf
        refine kw_aload_n C dX10_text_77 rfl 0 rfl ?_
        obtain ⟨σ20, hc19, hf⟩ := bV_elim hf
        refine kw_callVV C [] (kX10_keepText L D g t0 σ15 _ hc19) RX10 mV_X10_148 ⟨rfl, rfl⟩ dd_X10_keepText ⟨Nat.le_of_ble_eq_true rfl, Nat.le_of_ble_eq_true rfl⟩ _ (hO10 g σ15) rfl rfl rfl (Nat.le_of_ble_eq_true rfl) dX10_text_78 ?_
        refine kw_iload_n C dX10_text_81 rfl 1 rfl ?_
        exact kw_iret C K dX10_text_82 hf
      · have hf := if_n c18 hf
        refine kw_aload_n C dX10_text_62 rfl 0 rfl ?_
        obtain ⟨r22, σ23, hc21, hf⟩ := bI_elim hf
        refine kw_callVI C [] (kX10_lineRead L D g t0 σ15 _ _ hc21) RX10 mV_X10_262 ⟨rfl, rfl⟩ dd_X10_lineRead ⟨Nat.le_of_ble_eq_true rfl, Nat.le_of_ble_eq_true rfl⟩ _ (hO10 g σ15) rfl rfl rfl (Nat.le_of_ble_eq_true rfl) dX10_text_63 ?_
        refine kw_if_ne C 71 dX10_text_66 rfl (fun c24 => ?_) (fun c24 => ?_)
        · have hf := if_n c24 hf
          obtain ⟨x25, ex25, hf⟩ := lt_elim hf
          refine kw_iinc C x25 dX10_text_71 1 rfl ex25.symm hN (Nat.le_of_ble_eq_true rfl) [(2, .int x25), (0, .ref (g.1 0))] rfl ?_
          refine kw_goto C 55 dX10_text_74 rfl ?_
          refine kw_sub [1, 0] _ rfl ?_
          exact ih17 _ _ hf
        · have hf := if_p c24 hf
          refine kw_iconst C (-1 : Int32) dX10_text_69 rfl ?_
          exact kw_iret C K dX10_text_70 hf
    · have hf := if_n c4 hf
      refine kw_sub [] _ rfl ?_
      exact kJ2 _ hf
set_option maxRecDepth 100000 in
set_option maxHeartbeats 4000000 in
theorem kX10_fault (L : Launch) (D : va_G) (g : GwT) (t0 : Nat) (p0 : Int32) (σ : St) (r0 : Int32) (σ0 : St) (hf : fX10_fault σ p0 = some (r0, σ0)) : CtI L D (ttG g) (wM g) t0 yX10_fault cX10_fault 2 (some .int) { frames := 0, cells := 0, slots := 0, locals := 0 } [.ref (g.1 0), .int p0] σ r0 σ0 := by
  refine CtI.of (own := RX10) (by decide) rfl (Nat.le_of_ble_eq_true rfl) [(0, .ref (g.1 0)), (1, .int p0)] rfl ?_
  intro X C hN K
  unfold fX10_fault at hf
  refine kw_aload_n C dX10_fault_0 rfl 0 rfl ?_
  refine kw_iconst C (0 : Int32) dX10_fault_1 rfl ?_
  obtain ⟨σ1, eσ1, hf⟩ := lt_elim hf
  refine kw_put C inG10 tyX10 tyX10_ok nmX10 _ (hO10 g σ) rfl 2 (Nat.le_of_ble_eq_true rfl) mf_10_151 rfl rfl (tyX10_ok 2 (Nat.le_of_ble_eq_true rfl)) rfl rfl (Nat.le_of_ble_eq_true rfl) ((hF10_2 g σ _).trans (congrArg (wM g) eσ1.symm)) dX10_fault_2 ?_
  refine kw_iload_n C dX10_fault_5 rfl 1 rfl ?_
  obtain ⟨J3, hJ3, hf⟩ := jnx1_elim hf
  have kJ3 : ∀ (x2 : Int32), J3 x2 = some (r0, σ0) → KW X σ1 29 [] [.int x2] := by
    clear hf
    intro x2 hf
    have hf := (hJ3 x2).symm.trans hf
    exact kw_iret C K dX10_fault_29 hf
  refine kw_if_ne C 16 dX10_fault_6 rfl (fun c4 => ?_) (fun c4 => ?_)
  · have hf := if_n c4 hf
    refine kw_iload_n C dX10_fault_16 rfl 1 rfl ?_
    refine kw_iconst C (1 : Int32) dX10_fault_17 rfl ?_
    refine kw_icmp_ne C 28 dX10_fault_18 rfl (fun c5 => ?_) (fun c5 => ?_)
    · have hf := if_n c5 hf
      refine kw_iconst C (-1 : Int32) dX10_fault_28 rfl ?_
      refine kw_sub [] _ rfl ?_
      exact kJ3 _ hf
    · have hf := if_p c5 hf
      refine kw_aload_n C dX10_fault_21 rfl 0 rfl ?_
      refine kw_get C inG10 _ (hO10 g σ1) rfl 5 (Nat.le_of_ble_eq_true rfl) mf_10_16 rfl rfl dX10_fault_22 ?_
      refine kw_goto C 29 dX10_fault_25 rfl ?_
      refine kw_sub [] _ rfl ?_
      exact kJ3 _ hf
  · have hf := if_p c4 hf
    refine kw_aload_n C dX10_fault_9 rfl 0 rfl ?_
    refine kw_get C inG10 _ (hO10 g σ1) rfl 4 (Nat.le_of_ble_eq_true rfl) mf_10_157 rfl rfl dX10_fault_10 ?_
    refine kw_goto C 29 dX10_fault_13 rfl ?_
    refine kw_sub [] _ rfl ?_
    exact kJ3 _ hf
set_option maxRecDepth 100000 in
set_option maxHeartbeats 4000000 in
theorem kX10_named (L : Launch) (D : va_G) (g : GwT) (t0 : Nat) (p0 : Int32) (p1 : Int32) (σ : St) (r0 : Int32) (σ0 : St) (hf : fX10_named σ p0 p1 = some (r0, σ0)) : CtI L D (ttG g) (wM g) t0 yX10_named cX10_named 3 (some .int) { frames := 1, cells := 0, slots := 0, locals := 24 } [.ref (g.1 0), .int p0, .int p1] σ r0 σ0 := by
  refine CtI.of (own := RX10) (by decide) rfl (Nat.le_of_ble_eq_true rfl) [(0, .ref (g.1 0)), (1, .int p0), (2, .int p1)] rfl ?_
  intro X C hN K
  unfold fX10_named at hf
  refine kw_aload_n C dX10_named_0 rfl 0 rfl ?_
  refine kw_iconst C (0 : Int32) dX10_named_1 rfl ?_
  obtain ⟨σ1, eσ1, hf⟩ := lt_elim hf
  refine kw_put C inG10 tyX10 tyX10_ok nmX10 _ (hO10 g σ) rfl 2 (Nat.le_of_ble_eq_true rfl) mf_10_151 rfl rfl (tyX10_ok 2 (Nat.le_of_ble_eq_true rfl)) rfl rfl (Nat.le_of_ble_eq_true rfl) ((hF10_2 g σ _).trans (congrArg (wM g) eσ1.symm)) dX10_named_2 ?_
  refine kw_iload_n C dX10_named_5 rfl 1 rfl ?_
  obtain ⟨J3, hJ3, hf⟩ := jnx1_elim hf
  have kJ3 : ∀ (x2 : Int32), J3 x2 = some (r0, σ0) → KW X σ1 47 [] [.int x2] := by
    clear hf
    intro x2 hf
    have hf := (hJ3 x2).symm.trans hf
    exact kw_iret C K dX10_named_47 hf
  refine kw_if_ne C 25 dX10_named_6 rfl (fun c4 => ?_) (fun c4 => ?_)
  · have hf := if_n c4 hf
    refine kw_iload_n C dX10_named_25 rfl 1 rfl ?_
    refine kw_iconst C (1 : Int32) dX10_named_26 rfl ?_
    refine kw_icmp_ne C 46 dX10_named_27 rfl (fun c5 => ?_) (fun c5 => ?_)
    · have hf := if_n c5 hf
      refine kw_iconst C (-1 : Int32) dX10_named_46 rfl ?_
      refine kw_sub [] _ rfl ?_
      exact kJ3 _ hf
    · have hf := if_p c5 hf
      refine kw_aload_n C dX10_named_30 rfl 0 rfl ?_
      refine kw_get C inG10 _ (hO10 g σ1) rfl 26 (Nat.le_of_ble_eq_true rfl) mf_10_45 rfl rfl dX10_named_31 ?_
      refine kw_iconst C (0 : Int32) dX10_named_34 rfl ?_
      refine kw_aload_n C dX10_named_35 rfl 0 rfl ?_
      refine kw_get C inG10 _ (hO10 g σ1) rfl 13 (Nat.le_of_ble_eq_true rfl) mf_10_228 rfl rfl dX10_named_36 ?_
      refine kw_iload_n C dX10_named_39 rfl 2 rfl ?_
      obtain ⟨r7, hc6, hf⟩ := bd_elim hf
      refine kw_callSI C [.ref (g.2.1 0 26), .int (0 : Int32), .int (gI σ1 0 13), .int p1] (kX10_find_a10_26 L D g t0 (0 : Int32) (gI σ1 0 13) p1 σ1 _ hc6) mS_X10_241 ⟨rfl, rfl⟩ dd_X10_find ⟨Nat.le_of_ble_eq_true rfl, Nat.le_of_ble_eq_true rfl⟩ rfl (Nat.le_of_ble_eq_true rfl) dX10_named_40 ?_
      refine kw_goto C 47 dX10_named_43 rfl ?_
      refine kw_sub [] _ rfl ?_
      exact kJ3 _ hf
  · have hf := if_p c4 hf
    refine kw_aload_n C dX10_named_9 rfl 0 rfl ?_
    refine kw_get C inG10 _ (hO10 g σ1) rfl 20 (Nat.le_of_ble_eq_true rfl) mf_10_27 rfl rfl dX10_named_10 ?_
    refine kw_iconst C (0 : Int32) dX10_named_13 rfl ?_
    refine kw_aload_n C dX10_named_14 rfl 0 rfl ?_
    refine kw_get C inG10 _ (hO10 g σ1) rfl 12 (Nat.le_of_ble_eq_true rfl) mf_10_225 rfl rfl dX10_named_15 ?_
    refine kw_iload_n C dX10_named_18 rfl 2 rfl ?_
    obtain ⟨r9, hc8, hf⟩ := bd_elim hf
    refine kw_callSI C [.ref (g.2.1 0 20), .int (0 : Int32), .int (gI σ1 0 12), .int p1] (kX10_find_a10_20 L D g t0 (0 : Int32) (gI σ1 0 12) p1 σ1 _ hc8) mS_X10_241 ⟨rfl, rfl⟩ dd_X10_find ⟨Nat.le_of_ble_eq_true rfl, Nat.le_of_ble_eq_true rfl⟩ rfl (Nat.le_of_ble_eq_true rfl) dX10_named_19 ?_
    refine kw_goto C 47 dX10_named_22 rfl ?_
    refine kw_sub [] _ rfl ?_
    exact kJ3 _ hf
