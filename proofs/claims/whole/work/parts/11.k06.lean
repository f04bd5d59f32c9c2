set_option maxRecDepth 100000 in
set_option maxHeartbeats 4000000 in
theorem kX9_against (L : Launch) (D : va_G) (g : GwT) (t0 : Nat) (p0 : Int32) (p1 : Int32) (p2 : Int32) (σ : St) (r0 : Int32) (hf : fX9_against σ p0 p1 p2 = some r0) : CtI L D (ttG g) (wB g) t0 yX9_against cX9_against 10 (some .int) { frames := 3, cells := 0, slots := 0, locals := 64 } [.ref (g.1 0), .int p0, .int p1, .int p2] σ r0 σ := by
  refine CtI.of (own := RX9) (by decide) rfl (Nat.le_of_ble_eq_true rfl) [(0, .ref (g.1 0)), (1, .int p0), (2, .int p1), (3, .int p2)] rfl ?_
  intro X C hN K
  unfold fX9_against at hf
  refine kw_aload_n C dX9_against_0 rfl 0 rfl ?_
  refine kw_iload_n C dX9_against_1 rfl 1 rfl ?_
  refine kw_iload_n C dX9_against_2 rfl 2 rfl ?_
  obtain ⟨r2, hc1, hf⟩ := bd_elim hf
  refine kw_callVI C [.int p0, .int p1] (kX9_areTwoIn L D g t0 p0 p1 σ _ hc1) RX9 mV_X9_142 ⟨rfl, rfl⟩ dd_X9_areTwoIn ⟨Nat.le_of_ble_eq_true rfl, Nat.le_of_ble_eq_true rfl⟩ _ (hO9 g σ) rfl rfl rfl (Nat.le_of_ble_eq_true rfl) dX9_against_3 ?_
  obtain ⟨J3, hJ3, hf⟩ := jnx1_elim hf
  have kJ3 : ∀ (u9 : Unit), J3 u9 = some r0 → KW X σ 18 [] [] := by
    clear hf
    intro u9 hf
    have hf := (hJ3 u9).symm.trans hf
    refine kw_iconst C (-1 : Int32) dX9_against_18 rfl ?_
    exact kw_iret C K dX9_against_19 (pr_ret hf)
  refine kw_if_eq C 18 dX9_against_6 rfl (fun c4 => ?_) (fun c4 => ?_)
  · have hf := if_p c4 hf
    refine kw_sub [] _ rfl ?_
    exact kJ3 _ hf
  · have hf := if_n c4 hf
    refine kw_iload_n C dX9_against_9 rfl 3 rfl ?_
    refine kw_iconst C (0 : Int32) dX9_against_10 rfl ?_
    refine kw_iconst C (1 : Int32) dX9_against_11 rfl ?_
    obtain ⟨r6, hc5, hf⟩ := bd_elim hf
    refine kw_callSI C [.int p2, .int (0 : Int32), .int (1 : Int32)] (kX9_isWithin L D g t0 p2 (0 : Int32) (1 : Int32) σ _ hc5) mS_X9_188 ⟨rfl, rfl⟩ dd_X9_isWithin ⟨Nat.le_of_ble_eq_true rfl, Nat.le_of_ble_eq_true rfl⟩ rfl (Nat.le_of_ble_eq_true rfl) dX9_against_12 ?_
    refine kw_if_ne C 20 dX9_against_15 rfl (fun c7 => ?_) (fun c7 => ?_)
    · have hf := if_n c7 hf
      refine kw_aload_n C dX9_against_20 rfl 0 rfl ?_
      refine kw_get C inG9 _ (hO9 g σ) rfl 7 (Nat.le_of_ble_eq_true rfl) mf_9_47 rfl rfl dX9_against_21 ?_
      refine kw_get C inG4 _ (hO4 g σ 5 (by simp [isSale])) rfl 9 (Nat.le_of_ble_eq_true rfl) mf_9_213 rfl rfl dX9_against_24 ?_
      obtain ⟨x8, ex8, hf⟩ := lt_elim hf
      refine kw_topi ex8 ?_
      refine kw_istore C dX9_against_27 hN (Nat.le_of_ble_eq_true rfl) [(4, .int x8), (0, .ref (g.1 0)), (1, .int p0), (2, .int p1), (3, .int p2)] rfl ?_
      refine kw_iload_n C dX9_against_29 rfl 2 rfl ?_
      refine kw_istore C dX9_against_30 hN (Nat.le_of_ble_eq_true rfl) [(5, .int p0), (4, .int x8), (0, .ref (g.1 0)), (1, .int p0), (2, .int p1), (3, .int p2)] rfl ?_
      refine kw_iload_n C dX9_against_32 rfl 4 rfl ?_
      refine kw_istore C dX9_against_33 hN (Nat.le_of_ble_eq_true rfl) [(6, .int p1), (5, .int p0), (4, .int x8), (0, .ref (g.1 0)), (1, .int p0), (2, .int p1), (3, .int p2)] rfl ?_
      refine kw_iconst C (0 : Int32) dX9_against_35 rfl ?_
      refine kw_istore C dX9_against_36 hN (Nat.le_of_ble_eq_true rfl) [(7, .int (0 : Int32)), (6, .int p1), (5, .int p0), (4, .int x8), (0, .ref (g.1 0)), (1, .int p0), (2, .int p1), (3, .int p2)] rfl ?_
      refine kw_sub [4, 5, 7, 3, 2, 1, 0] _ rfl ?_
      refine lpx4_walk (P := fun (x9 : Int32) (x10 : Int32) (x11 : Int32) (x12 : Int32) => KW X σ 38 [(0, .ref (g.1 0)), (1, .int p0), (3, .int p2), (4, .int x9), (5, .int x10), (6, .int x11), (7, .int x12)] []) ?_ FU _ _ _ _ hf
      intro self13 x9 x10 x11 x12 ih14 hf
      refine kw_iload C dX9_against_38 6 rfl ?_
      refine kw_sipush C (20000 : Int32) dX9_against_40 rfl ?_
      obtain ⟨J15, hJ15, hf⟩ := jnx1_elim hf
      have kJ15 : ∀ (u9 : Unit), J15 u9 = some r0 → KW X σ 116 [(1, .int p0), (3, .int p2), (4, .int x9), (6, .int x11)] [] := by
        clear hf
        intro u9 hf
        have hf := (hJ15 u9).symm.trans hf
        refine kw_iload_n C dX9_against_116 rfl 1 rfl ?_
        refine kw_iconst C (1 : Int32) dX9_against_117 rfl ?_
        refine kw_icmp_ne C 124 dX9_against_118 rfl (fun c16 => ?_) (fun c16 => ?_)
        · have hf := if_n c16 hf
          refine kw_iload C dX9_against_124 3 rfl ?_
          refine kw_iload_n C dX9_against_126 rfl 0 rfl ?_
          obtain ⟨J18, hJ18, hf⟩ := jnx1_elim hf
          have kJ18 : ∀ (x17 : Int32), J18 x17 = some r0 → KW X σ 135 [] [.int x17] := by
            clear hf
            intro x17 hf
            have hf := (hJ18 x17).symm.trans hf
            exact kw_iret C K dX9_against_135 (pr_ret hf)
          refine kw_icmp_ne C 134 dX9_against_127 rfl (fun c19 => ?_) (fun c19 => ?_)
          · have hf := if_n c19 hf
            refine kw_iconst C (1 : Int32) dX9_against_134 rfl ?_
            refine kw_sub [] _ rfl ?_
            exact kJ18 _ hf
          · have hf := if_p c19 hf
            refine kw_iconst C (0 : Int32) dX9_against_130 rfl ?_
            refine kw_goto C 135 dX9_against_131 rfl ?_
            refine kw_sub [] _ rfl ?_
            exact kJ18 _ hf
        · have hf := if_p c16 hf
          refine kw_iload C dX9_against_121 2 rfl ?_
          exact kw_iret C K dX9_against_123 (pr_ret hf)
      refine kw_icmp_ge C 116 dX9_against_43 rfl (fun c20 => ?_) (fun c20 => ?_)
      · have hf := if_p c20 hf
        refine kw_sub [1, 2, 3, 5] _ rfl ?_
        exact kJ15 _ hf
      · have hf := if_n c20 hf
        refine kw_iload C dX9_against_46 3 rfl ?_
        refine kw_aload_n C dX9_against_48 rfl 0 rfl ?_
        refine kw_get C inG9 _ (hO9 g σ) rfl 2 (Nat.le_of_ble_eq_true rfl) mf_9_22 rfl rfl dX9_against_49 ?_
        refine kw_get C inG6 _ (hO6 g σ (gR σ 0)) rfl 5 (Nat.le_of_ble_eq_true rfl) mf_9_159 rfl rfl dX9_against_52 ?_
        refine kw_iload C dX9_against_55 4 rfl ?_
        obtain ⟨h21, hf⟩ := gd_elim hf
        refine kw_iald C _ 0 (hA6_5 g σ (gR σ 0)) rfl h21 dX9_against_57 ?_
        refine kw_iadd C dX9_against_58 ?_
        obtain ⟨x22, ex22, hf⟩ := lt_elim hf
        refine kw_topi ex22 ?_
        refine kw_istore C dX9_against_59 hN (Nat.le_of_ble_eq_true rfl) [(8, .int x22), (0, .ref (g.1 0)), (1, .int p0), (3, .int p2), (4, .int x9), (5, .int x10), (6, .int x11), (7, .int x12)] rfl ?_
        refine kw_iload C dX9_against_61 0 rfl ?_
        refine kw_aload_n C dX9_against_63 rfl 1 rfl ?_
        refine kw_get C inG9 _ (hO9 g σ) rfl 7 (Nat.le_of_ble_eq_true rfl) mf_9_47 rfl rfl dX9_against_64 ?_
        refine kw_get C inG4 _ (hO4 g σ 5 (by simp [isSale])) rfl 0 (Nat.le_of_ble_eq_true rfl) mf_9_153 rfl rfl dX9_against_67 ?_
        refine kw_iload C dX9_against_70 5 rfl ?_
        obtain ⟨h23, hf⟩ := gd_elim hf
        refine kw_iald C _ 0 (hA4_0 g σ 5 (by simp [isSale])) rfl h23 dX9_against_72 ?_
        refine kw_icmp_gt C 116 dX9_against_73 rfl (fun c24 => ?_) (fun c24 => ?_)
        · have hf := if_p c24 hf
          refine kw_sub [2, 3, 4, 6] _ rfl ?_
          exact kJ15 _ hf
        · have hf := if_n c24 hf
          refine kw_iload C dX9_against_76 0 rfl ?_
          refine kw_aload_n C dX9_against_78 rfl 1 rfl ?_
          refine kw_get C inG9 _ (hO9 g σ) rfl 2 (Nat.le_of_ble_eq_true rfl) mf_9_22 rfl rfl dX9_against_79 ?_
          refine kw_get C inG6 _ (hO6 g σ (gR σ 0)) rfl 4 (Nat.le_of_ble_eq_true rfl) mf_9_156 rfl rfl dX9_against_82 ?_
          refine kw_iload C dX9_against_85 5 rfl ?_
          obtain ⟨h25, hf⟩ := gd_elim hf
          refine kw_iald C _ 0 (hA6_4 g σ (gR σ 0)) rfl h25 dX9_against_87 ?_
          refine kw_icmp_lt C 94 dX9_against_88 rfl (fun c26 => ?_) (fun c26 => ?_)
          · have hf := if_p c26 hf
            refine kw_iload C dX9_against_94 0 rfl ?_
            refine kw_istore C dX9_against_96 hN (Nat.le_of_ble_eq_true rfl) [(4, .int x22), (8, .int x22), (0, .ref (g.1 0)), (1, .int p0), (3, .int p2), (5, .int x10), (6, .int x11), (7, .int x12)] rfl ?_
            refine kw_iload C dX9_against_98 6 rfl ?_
            refine kw_istore C dX9_against_100 hN (Nat.le_of_ble_eq_true rfl) [(9, .int x11), (4, .int x22), (8, .int x22), (0, .ref (g.1 0)), (1, .int p0), (3, .int p2), (5, .int x10), (6, .int x11), (7, .int x12)] rfl ?_
            refine kw_iload C dX9_against_102 6 rfl ?_
            refine kw_istore C dX9_against_104 hN (Nat.le_of_ble_eq_true rfl) [(6, .int x10), (9, .int x11), (4, .int x22), (8, .int x22), (0, .ref (g.1 0)), (1, .int p0), (3, .int p2), (5, .int x10), (7, .int x12)] rfl ?_
            refine kw_iload C dX9_against_106 1 rfl ?_
            refine kw_istore C dX9_against_108 hN (Nat.le_of_ble_eq_true rfl) [(5, .int x11), (6, .int x10), (9, .int x11), (4, .int x22), (8, .int x22), (0, .ref (g.1 0)), (1, .int p0), (3, .int p2), (7, .int x12)] rfl ?_
            obtain ⟨x27, ex27, hf⟩ := lt_elim hf
            refine kw_iinc C x27 dX9_against_110 8 rfl ex27.symm hN (Nat.le_of_ble_eq_true rfl) [(7, .int x27), (5, .int x11), (6, .int x10), (9, .int x11), (4, .int x22), (8, .int x22), (0, .ref (g.1 0)), (1, .int p0), (3, .int p2)] rfl ?_
            refine kw_goto C 38 dX9_against_113 rfl ?_
            refine kw_sub [6, 7, 8, 4, 1, 2, 0] _ rfl ?_
            exact ih14 _ _ _ _ hf
          · have hf := if_n c26 hf
            refine kw_goto C 116 dX9_against_91 rfl ?_
            refine kw_sub [2, 3, 4, 6] _ rfl ?_
            exact kJ15 _ hf
    · have hf := if_p c7 hf
      refine kw_sub [] _ rfl ?_
      exact kJ3 _ hf
set_option maxRecDepth 100000 in
set_option maxHeartbeats 4000000 in
theorem kX9_still (L : Launch) (D : va_G) (g : GwT) (t0 : Nat) (σ : St) (r0 : Int32) (hf : fX9_still σ  = some r0) : CtI L D (ttG g) (wB g) t0 yX9_still cX9_still 3 (some .int) { frames := 1, cells := 0, slots := 0, locals := 21 } [.ref (g.1 0)] σ r0 σ := by
  refine CtI.of (own := RX9) (by decide) rfl (Nat.le_of_ble_eq_true rfl) [(0, .ref (g.1 0))] rfl ?_
  intro X C hN K
  unfold fX9_still at hf
  refine kw_iconst C (0 : Int32) dX9_still_0 rfl ?_
  refine kw_istore_n C dX9_still_1 rfl hN (Nat.le_of_ble_eq_true rfl) [(1, .int (0 : Int32)), (0, .ref (g.1 0))] rfl ?_
  refine kw_iconst C (0 : Int32) dX9_still_2 rfl ?_
  refine kw_istore_n C dX9_still_3 rfl hN (Nat.le_of_ble_eq_true rfl) [(2, .int (0 : Int32)), (1, .int (0 : Int32)), (0, .ref (g.1 0))] rfl ?_
  refine kw_sub [2, 1, 0] _ rfl ?_
  refine lpx2_walk (P := fun (x1 : Int32) (x2 : Int32) => KW X σ 4 [(0, .ref (g.1 0)), (1, .int x1), (2, .int x2)] []) ?_ FU _ _ hf
  intro self3 x1 x2 ih4 hf
  refine kw_iload_n C dX9_still_4 rfl 2 rfl ?_
  refine kw_aload_n C dX9_still_5 rfl 0 rfl ?_
  refine kw_get C inG9 _ (hO9 g σ) rfl 2 (Nat.le_of_ble_eq_true rfl) mf_9_22 rfl rfl dX9_still_6 ?_
  refine kw_get C inG6 _ (hO6 g σ (gR σ 0)) rfl 1 (Nat.le_of_ble_eq_true rfl) mf_9_119 rfl rfl dX9_still_9 ?_
  refine kw_icmp_ge C 67 dX9_still_12 rfl (fun c5 => ?_) (fun c5 => ?_)
  · have hf := if_p c5 hf
    refine kw_iload_n C dX9_still_67 rfl 1 rfl ?_
    exact kw_iret C K dX9_still_68 (pr_ret hf)
  · have hf := if_n c5 hf
    refine kw_aload_n C dX9_still_15 rfl 0 rfl ?_
    refine kw_get C inG9 _ (hO9 g σ) rfl 7 (Nat.le_of_ble_eq_true rfl) mf_9_47 rfl rfl dX9_still_16 ?_
    refine kw_iload_n C dX9_still_19 rfl 2 rfl ?_
    obtain ⟨r7, hc6, hf⟩ := bd_elim hf
    refine kw_callVI C [.int x2] (kX4_holds L D g t0 5 (by simp [isSale]) x2 σ _ hc6) RX4 mV_X9_136 ⟨rfl, rfl⟩ dd_X4_holds ⟨Nat.le_of_ble_eq_true rfl, Nat.le_of_ble_eq_true rfl⟩ _ (hO4 g σ 5 (by simp [isSale])) rfl rfl rfl (Nat.le_of_ble_eq_true rfl) dX9_still_20 ?_
    obtain ⟨J9, hJ9, hf⟩ := jnx1_elim hf
    have kJ9 : ∀ (x8 : Int32), J9 x8 = some r0 → KW X σ 61 [(0, .ref (g.1 0)), (1, .int x8), (2, .int x2)] [] := by
      clear hf
      intro x8 hf
      have hf := (hJ9 x8).symm.trans hf
      obtain ⟨x10, ex10, hf⟩ := lt_elim hf
      refine kw_iinc C x10 dX9_still_61 2 rfl ex10.symm hN (Nat.le_of_ble_eq_true rfl) [(2, .int x10), (0, .ref (g.1 0)), (1, .int x8)] rfl ?_
      refine kw_goto C 4 dX9_still_64 rfl ?_
      refine kw_sub [1, 2, 0] _ rfl ?_
      exact ih4 _ _ hf
    refine kw_if_eq C 61 dX9_still_23 rfl (fun c11 => ?_) (fun c11 => ?_)
    · have hf := if_p c11 hf
      exact kJ9 _ hf
    · have hf := if_n c11 hf
      refine kw_aload_n C dX9_still_26 rfl 0 rfl ?_
      refine kw_get C inG9 _ (hO9 g σ) rfl 7 (Nat.le_of_ble_eq_true rfl) mf_9_47 rfl rfl dX9_still_27 ?_
      refine kw_get C inG4 _ (hO4 g σ 5 (by simp [isSale])) rfl 9 (Nat.le_of_ble_eq_true rfl) mf_9_213 rfl rfl dX9_still_30 ?_
      refine kw_aload_n C dX9_still_33 rfl 0 rfl ?_
      refine kw_get C inG9 _ (hO9 g σ) rfl 2 (Nat.le_of_ble_eq_true rfl) mf_9_22 rfl rfl dX9_still_34 ?_
      refine kw_get C inG6 _ (hO6 g σ (gR σ 0)) rfl 5 (Nat.le_of_ble_eq_true rfl) mf_9_159 rfl rfl dX9_still_37 ?_
      refine kw_iload_n C dX9_still_40 rfl 2 rfl ?_
      obtain ⟨h12, hf⟩ := gd_elim hf
      refine kw_iald C _ 0 (hA6_5 g σ (gR σ 0)) rfl h12 dX9_still_41 ?_
      refine kw_iadd C dX9_still_42 ?_
      refine kw_aload_n C dX9_still_43 rfl 0 rfl ?_
      refine kw_get C inG9 _ (hO9 g σ) rfl 7 (Nat.le_of_ble_eq_true rfl) mf_9_47 rfl rfl dX9_still_44 ?_
      refine kw_get C inG4 _ (hO4 g σ 5 (by simp [isSale])) rfl 0 (Nat.le_of_ble_eq_true rfl) mf_9_153 rfl rfl dX9_still_47 ?_
      refine kw_iload_n C dX9_still_50 rfl 2 rfl ?_
      obtain ⟨h13, hf⟩ := gd_elim hf
      refine kw_iald C _ 0 (hA4_0 g σ 5 (by simp [isSale])) rfl h13 dX9_still_51 ?_
      refine kw_icmp_gt C 61 dX9_still_52 rfl (fun c14 => ?_) (fun c14 => ?_)
      · have hf := if_p c14 hf
        exact kJ9 _ hf
      · have hf := if_n c14 hf
        refine kw_iload_n C dX9_still_55 rfl 1 rfl ?_
        refine kw_iconst C (1 : Int32) dX9_still_56 rfl ?_
        refine kw_iload_n C dX9_still_57 rfl 2 rfl ?_
        refine kw_ishl C dX9_still_58 ?_
        refine kw_ior C dX9_still_59 ?_
        obtain ⟨x15, ex15, hf⟩ := lt_elim hf
        refine kw_topi ex15 ?_
        refine kw_istore_n C dX9_still_60 rfl hN (Nat.le_of_ble_eq_true rfl) [(1, .int x15), (0, .ref (g.1 0)), (2, .int x2)] rfl ?_
        refine kw_sub [1, 0, 2] _ rfl ?_
        exact kJ9 _ hf
set_option maxRecDepth 100000 in
set_option maxHeartbeats 4000000 in
theorem kX9_raisesInRow (L : Launch) (D : va_G) (g : GwT) (t0 : Nat) (σ : St) (r0 : Int32) (σ0 : St) (hf : fX9_raisesInRow σ  = some (r0, σ0)) : CtI L D (ttG g) (wB g) t0 yX9_raisesInRow cX9_raisesInRow 3 (some .int) { frames := 2, cells := 0, slots := 0, locals := 43 } [.ref (g.1 0)] σ r0 σ0 := by
  refine CtI.of (own := RX9) (by decide) rfl (Nat.le_of_ble_eq_true rfl) [(0, .ref (g.1 0))] rfl ?_
  intro X C hN K
  unfold fX9_raisesInRow at hf
  refine kw_iconst C (0 : Int32) dX9_raisesInRow_0 rfl ?_
  refine kw_istore_n C dX9_raisesInRow_1 rfl hN (Nat.le_of_ble_eq_true rfl) [(1, .int (0 : Int32)), (0, .ref (g.1 0))] rfl ?_
  refine kw_iconst C (0 : Int32) dX9_raisesInRow_2 rfl ?_
  refine kw_istore_n C dX9_raisesInRow_3 rfl hN (Nat.le_of_ble_eq_true rfl) [(2, .int (0 : Int32)), (1, .int (0 : Int32)), (0, .ref (g.1 0))] rfl ?_
  refine kw_sub [2, 1, 0] _ rfl ?_
  refine lpx3_walk (P := fun (x1 : Int32) (x2 : Int32) (σ3 : St) => KW X σ3 4 [(0, .ref (g.1 0)), (1, .int x1), (2, .int x2)] []) ?_ FU _ _ _ hf
  intro self4 x1 x2 σ3 ih5 hf
  refine kw_iload_n C dX9_raisesInRow_4 rfl 2 rfl ?_
  refine kw_aload_n C dX9_raisesInRow_5 rfl 0 rfl ?_
  refine kw_get C inG9 _ (hO9 g σ3) rfl 2 (Nat.le_of_ble_eq_true rfl) mf_9_22 rfl rfl dX9_raisesInRow_6 ?_
  refine kw_get C inG6 _ (hO6 g σ3 (gR σ3 0)) rfl 1 (Nat.le_of_ble_eq_true rfl) mf_9_119 rfl rfl dX9_raisesInRow_9 ?_
  refine kw_icmp_ge C 51 dX9_raisesInRow_12 rfl (fun c6 => ?_) (fun c6 => ?_)
  · have hf := if_p c6 hf
    refine kw_iload_n C dX9_raisesInRow_51 rfl 1 rfl ?_
    exact kw_iret C K dX9_raisesInRow_52 hf
  · have hf := if_n c6 hf
    refine kw_aload_n C dX9_raisesInRow_15 rfl 0 rfl ?_
    refine kw_get C inG9 _ (hO9 g σ3) rfl 14 (Nat.le_of_ble_eq_true rfl) mf_9_83 rfl rfl dX9_raisesInRow_16 ?_
    refine kw_aload_n C dX9_raisesInRow_19 rfl 0 rfl ?_
    refine kw_get C inG9 _ (hO9 g σ3) rfl 8 (Nat.le_of_ble_eq_true rfl) mf_9_51 rfl rfl dX9_raisesInRow_20 ?_
    refine kw_iload_n C dX9_raisesInRow_23 rfl 2 rfl ?_
    obtain ⟨r8, hc7, hf⟩ := bd_elim hf
    refine kw_callVI C [.ref (g.1 6), .int x2] (kX0_mayNod L D g t0 6 (by simp [isSale]) x2 σ3 _ hc7) RX0 mV_X9_248 ⟨rfl, rfl⟩ dd_X0_mayNod ⟨Nat.le_of_ble_eq_true rfl, Nat.le_of_ble_eq_true rfl⟩ _ (hO0 g σ3) rfl rfl rfl (Nat.le_of_ble_eq_true rfl) dX9_raisesInRow_24 ?_
    obtain ⟨J11, hJ11, hf⟩ := jnx2_elim hf
    have kJ11 : ∀ (x9 : Int32) (σ10 : St), J11 x9 σ10 = some (r0, σ0) → KW X σ10 45 [(0, .ref (g.1 0)), (1, .int x9), (2, .int x2)] [] := by
      clear hf
      intro x9 σ10 hf
      have hf := (hJ11 x9 σ10).symm.trans hf
      obtain ⟨x12, ex12, hf⟩ := lt_elim hf
      refine kw_iinc C x12 dX9_raisesInRow_45 2 rfl ex12.symm hN (Nat.le_of_ble_eq_true rfl) [(2, .int x12), (0, .ref (g.1 0)), (1, .int x9)] rfl ?_
      refine kw_goto C 4 dX9_raisesInRow_48 rfl ?_
      refine kw_sub [1, 2, 0] _ rfl ?_
      exact ih5 _ _ _ hf
    refine kw_if_eq C 45 dX9_raisesInRow_27 rfl (fun c13 => ?_) (fun c13 => ?_)
    · have hf := if_p c13 hf
      exact kJ11 _ _ hf
    · have hf := if_n c13 hf
      refine kw_aload_n C dX9_raisesInRow_30 rfl 0 rfl ?_
      refine kw_get C inG9 _ (hO9 g σ3) rfl 14 (Nat.le_of_ble_eq_true rfl) mf_9_83 rfl rfl dX9_raisesInRow_31 ?_
      refine kw_aload_n C dX9_raisesInRow_34 rfl 0 rfl ?_
      refine kw_get C inG9 _ (hO9 g σ3) rfl 8 (Nat.le_of_ble_eq_true rfl) mf_9_51 rfl rfl dX9_raisesInRow_35 ?_
      refine kw_iload_n C dX9_raisesInRow_38 rfl 2 rfl ?_
      obtain ⟨σ15, hc14, hf⟩ := bV_elim hf
      refine kw_callVV C [.ref (g.1 6), .int x2] (kX0_raise L D g t0 6 (by simp [isSale]) x2 σ3 _ hc14) RX0 mV_X9_256 ⟨rfl, rfl⟩ dd_X0_raise ⟨Nat.le_of_ble_eq_true rfl, Nat.le_of_ble_eq_true rfl⟩ _ (hO0 g σ3) rfl rfl rfl (Nat.le_of_ble_eq_true rfl) dX9_raisesInRow_39 ?_
      obtain ⟨x16, ex16, hf⟩ := lt_elim hf
      refine kw_iinc C x16 dX9_raisesInRow_42 1 rfl ex16.symm hN (Nat.le_of_ble_eq_true rfl) [(1, .int x16), (0, .ref (g.1 0)), (2, .int x2)] rfl ?_
      refine kw_sub [1, 0, 2] _ rfl ?_
      exact kJ11 _ _ hf
set_option maxRecDepth 100000 in
set_option maxHeartbeats 4000000 in
theorem kX9_most (L : Launch) (D : va_G) (g : GwT) (t0 : Nat) (σ : St) (r0 : Int32) (σ0 : St) (hf : fX9_most σ  = some (r0, σ0)) : CtI L D (ttG g) (wB g) t0 yX9_most cX9_most 4 (some .int) { frames := 3, cells := 0, slots := 0, locals := 76 } [.ref (g.1 0)] σ r0 σ0 := by
  refine CtI.of (own := RX9) (by decide) rfl (Nat.le_of_ble_eq_true rfl) [(0, .ref (g.1 0))] rfl ?_
  intro X C hN K
  unfold fX9_most at hf
  refine kw_aload_n C dX9_most_0 rfl 0 rfl ?_
  obtain ⟨σ2, hc1, hf⟩ := bV_elim hf
  refine kw_callVV C [] (kX9_tryAsItGoes L D g t0 σ _ hc1) RX9 mV_X9_279 ⟨rfl, rfl⟩ dd_X9_tryAsItGoes ⟨Nat.le_of_ble_eq_true rfl, Nat.le_of_ble_eq_true rfl⟩ _ (hO9 g σ) rfl rfl rfl (Nat.le_of_ble_eq_true rfl) dX9_most_1 ?_
  refine kw_iconst C (0 : Int32) dX9_most_4 rfl ?_
  refine kw_istore_n C dX9_most_5 rfl hN (Nat.le_of_ble_eq_true rfl) [(1, .int (0 : Int32)), (0, .ref (g.1 0))] rfl ?_
  refine kw_iconst C (0 : Int32) dX9_most_6 rfl ?_
  refine kw_istore_n C dX9_most_7 rfl hN (Nat.le_of_ble_eq_true rfl) [(2, .int (0 : Int32)), (1, .int (0 : Int32)), (0, .ref (g.1 0))] rfl ?_
  refine kw_sub [2, 1, 0] _ rfl ?_
  refine lpx3_walk (P := fun (x3 : Int32) (x4 : Int32) (σ5 : St) => KW X σ5 8 [(0, .ref (g.1 0)), (1, .int x3), (2, .int x4)] []) ?_ FU _ _ _ hf
  intro self6 x3 x4 σ5 ih7 hf
  refine kw_iload_n C dX9_most_8 rfl 2 rfl ?_
  refine kw_sipush C (20000 : Int32) dX9_most_9 rfl ?_
  obtain ⟨J9, hJ9, hf⟩ := jnx1_elim hf
  have kJ9 : ∀ (σ8 : St), J9 σ8 = some (r0, σ0) → KW X σ8 37 [(1, .int x3)] [] := by
    clear hf
    intro σ8 hf
    have hf := (hJ9 σ8).symm.trans hf
    refine kw_iload_n C dX9_most_37 rfl 0 rfl ?_
    exact kw_iret C K dX9_most_38 hf
  refine kw_icmp_ge C 37 dX9_most_12 rfl (fun c10 => ?_) (fun c10 => ?_)
  · have hf := if_p c10 hf
    refine kw_sub [1] _ rfl ?_
    exact kJ9 _ hf
  · have hf := if_n c10 hf
    refine kw_aload_n C dX9_most_15 rfl 0 rfl ?_
    obtain ⟨r12, σ13, hc11, hf⟩ := bI_elim hf
    refine kw_callVI C [] (kX9_raisesInRow L D g t0 σ5 _ _ hc11) RX9 mV_X9_357 ⟨rfl, rfl⟩ dd_X9_raisesInRow ⟨Nat.le_of_ble_eq_true rfl, Nat.le_of_ble_eq_true rfl⟩ _ (hO9 g σ5) rfl rfl rfl (Nat.le_of_ble_eq_true rfl) dX9_most_16 ?_
    refine kw_istore_n C dX9_most_19 rfl hN (Nat.le_of_ble_eq_true rfl) [(3, .int r12), (0, .ref (g.1 0)), (1, .int x3), (2, .int x4)] rfl ?_
    refine kw_iload_n C dX9_most_20 rfl 0 rfl ?_
    refine kw_if_ne C 27 dX9_most_21 rfl (fun c14 => ?_) (fun c14 => ?_)
    · have hf := if_n c14 hf
      refine kw_iload_n C dX9_most_27 rfl 2 rfl ?_
      refine kw_iload_n C dX9_most_28 rfl 0 rfl ?_
      refine kw_iadd C dX9_most_29 ?_
      obtain ⟨x15, ex15, hf⟩ := lt_elim hf
      refine kw_topi ex15 ?_
      refine kw_istore_n C dX9_most_30 rfl hN (Nat.le_of_ble_eq_true rfl) [(1, .int x15), (3, .int r12), (0, .ref (g.1 0)), (2, .int x4)] rfl ?_
      obtain ⟨x16, ex16, hf⟩ := lt_elim hf
      refine kw_iinc C x16 dX9_most_31 3 rfl ex16.symm hN (Nat.le_of_ble_eq_true rfl) [(2, .int x16), (1, .int x15), (3, .int r12), (0, .ref (g.1 0))] rfl ?_
      refine kw_goto C 8 dX9_most_34 rfl ?_
      refine kw_sub [3, 1, 0] _ rfl ?_
      exact ih7 _ _ _ hf
    · have hf := if_p c14 hf
      refine kw_goto C 37 dX9_most_24 rfl ?_
      refine kw_sub [2] _ rfl ?_
      exact kJ9 _ hf
set_option maxRecDepth 100000 in
set_option maxHeartbeats 4000000 in
theorem kX9_rival (L : Launch) (D : va_G) (g : GwT) (t0 : Nat) (p0 : Int32) (σ : St) (r0 : Int32) (hf : fX9_rival σ p0 = some r0) : CtI L D (ttG g) (wB g) t0 yX9_rival cX9_rival 5 (some .int) { frames := 1, cells := 0, slots := 0, locals := 21 } [.ref (g.1 0), .int p0] σ r0 σ := by
  refine CtI.of (own := RX9) (by decide) rfl (Nat.le_of_ble_eq_true rfl) [(0, .ref (g.1 0)), (1, .int p0)] rfl ?_
  intro X C hN K
  unfold fX9_rival at hf
  refine kw_aload_n C dX9_rival_0 rfl 0 rfl ?_
  refine kw_iload_n C dX9_rival_1 rfl 1 rfl ?_
  obtain ⟨r2, hc1, hf⟩ := bd_elim hf
  refine kw_callVI C [.int p0] (kX9_isHouse L D g t0 p0 σ _ hc1) RX9 mV_X9_132 ⟨rfl, rfl⟩ dd_X9_isHouse ⟨Nat.le_of_ble_eq_true rfl, Nat.le_of_ble_eq_true rfl⟩ _ (hO9 g σ) rfl rfl rfl (Nat.le_of_ble_eq_true rfl) dX9_rival_2 ?_
  refine kw_if_ne C 10 dX9_rival_5 rfl (fun c3 => ?_) (fun c3 => ?_)
  · have hf := if_n c3 hf
    refine kw_bipush C (-2 : Int32) dX9_rival_10 rfl ?_
    refine kw_istore_n C dX9_rival_12 rfl hN (Nat.le_of_ble_eq_true rfl) [(2, .int (-2 : Int32)), (0, .ref (g.1 0)), (1, .int p0)] rfl ?_
    refine kw_iconst C (0 : Int32) dX9_rival_13 rfl ?_
    refine kw_istore_n C dX9_rival_14 rfl hN (Nat.le_of_ble_eq_true rfl) [(3, .int (0 : Int32)), (2, .int (-2 : Int32)), (0, .ref (g.1 0)), (1, .int p0)] rfl ?_
    refine kw_sub [2, 3, 1, 0] _ rfl ?_
    refine lpx2_walk (P := fun (x4 : Int32) (x5 : Int32) => KW X σ 15 [(0, .ref (g.1 0)), (1, .int p0), (2, .int x4), (3, .int x5)] []) ?_ FU _ _ hf
    intro self6 x4 x5 ih7 hf
    refine kw_iload_n C dX9_rival_15 rfl 3 rfl ?_
    refine kw_aload_n C dX9_rival_16 rfl 0 rfl ?_
    refine kw_get C inG9 _ (hO9 g σ) rfl 2 (Nat.le_of_ble_eq_true rfl) mf_9_22 rfl rfl dX9_rival_17 ?_
    refine kw_get C inG6 _ (hO6 g σ (gR σ 0)) rfl 1 (Nat.le_of_ble_eq_true rfl) mf_9_119 rfl rfl dX9_rival_20 ?_
    refine kw_icmp_ge C 87 dX9_rival_23 rfl (fun c8 => ?_) (fun c8 => ?_)
    · have hf := if_p c8 hf
      refine kw_iload_n C dX9_rival_87 rfl 2 rfl ?_
      exact kw_iret C K dX9_rival_88 (pr_ret hf)
    · have hf := if_n c8 hf
      refine kw_iload_n C dX9_rival_26 rfl 2 rfl ?_
      obtain ⟨J10, hJ10, hf⟩ := jnx1_elim hf
      have kJ10 : ∀ (x9 : Int32), J10 x9 = some r0 → KW X σ 56 [(0, .ref (g.1 0)), (1, .int p0), (2, .int x4), (3, .int x5)] [.int x9] := by
        clear hf
        intro x9 hf
        have hf := (hJ10 x9).symm.trans hf
        refine kw_istore C dX9_rival_56 hN (Nat.le_of_ble_eq_true rfl) [(4, .int x9), (0, .ref (g.1 0)), (1, .int p0), (2, .int x4), (3, .int x5)] rfl ?_
        refine kw_iload_n C dX9_rival_58 rfl 4 rfl ?_
        refine kw_iload_n C dX9_rival_59 rfl 2 rfl ?_
        obtain ⟨J12, hJ12, hf⟩ := jnx1_elim hf
        have kJ12 : ∀ (x11 : Int32), J12 x11 = some r0 → KW X σ 81 [(0, .ref (g.1 0)), (1, .int p0), (2, .int x11), (3, .int x5)] [] := by
          clear hf
          intro x11 hf
          have hf := (hJ12 x11).symm.trans hf
          obtain ⟨x13, ex13, hf⟩ := lt_elim hf
          refine kw_iinc C x13 dX9_rival_81 3 rfl ex13.symm hN (Nat.le_of_ble_eq_true rfl) [(3, .int x13), (0, .ref (g.1 0)), (1, .int p0), (2, .int x11)] rfl ?_
          refine kw_goto C 15 dX9_rival_84 rfl ?_
          refine kw_sub [1, 2, 3, 0] _ rfl ?_
          exact ih7 _ _ hf
        refine kw_icmp_eq C 81 dX9_rival_60 rfl (fun c14 => ?_) (fun c14 => ?_)
        · have hf := if_p c14 hf
          refine kw_sub [1, 2, 3, 4] _ rfl ?_
          exact kJ12 _ hf
        · have hf := if_n c14 hf
          refine kw_aload_n C dX9_rival_63 rfl 1 rfl ?_
          refine kw_get C inG9 _ (hO9 g σ) rfl 7 (Nat.le_of_ble_eq_true rfl) mf_9_47 rfl rfl dX9_rival_64 ?_
          refine kw_iload_n C dX9_rival_67 rfl 4 rfl ?_
          obtain ⟨r16, hc15, hf⟩ := bd_elim hf
          refine kw_callVI C [.int x5] (kX4_holds L D g t0 5 (by simp [isSale]) x5 σ _ hc15) RX4 mV_X9_136 ⟨rfl, rfl⟩ dd_X4_holds ⟨Nat.le_of_ble_eq_true rfl, Nat.le_of_ble_eq_true rfl⟩ _ (hO4 g σ 5 (by simp [isSale])) rfl rfl rfl (Nat.le_of_ble_eq_true rfl) dX9_rival_68 ?_
          refine kw_if_eq C 81 dX9_rival_71 rfl (fun c17 => ?_) (fun c17 => ?_)
          · have hf := if_p c17 hf
            refine kw_sub [1, 2, 3, 4] _ rfl ?_
            exact kJ12 _ hf
          · have hf := if_n c17 hf
            refine kw_iload C dX9_rival_74 0 rfl ?_
            refine kw_if_eq C 81 dX9_rival_76 rfl (fun c18 => ?_) (fun c18 => ?_)
            · have hf := if_p c18 hf
              refine kw_sub [1, 2, 3, 4] _ rfl ?_
              exact kJ12 _ hf
            · have hf := if_n c18 hf
              refine kw_iload_n C dX9_rival_79 rfl 4 rfl ?_
              refine kw_istore_n C dX9_rival_80 rfl hN (Nat.le_of_ble_eq_true rfl) [(2, .int x5), (4, .int x9), (0, .ref (g.1 0)), (1, .int p0), (3, .int x5)] rfl ?_
              refine kw_sub [2, 3, 0, 4] _ rfl ?_
              exact kJ12 _ hf
      obtain ⟨J19, hJ19, hf⟩ := jnx1_elim hf
      have kJ19 : ∀ (u9 : Unit), J19 u9 = some r0 → KW X σ 51 [(0, .ref (g.1 0)), (1, .int p0), (2, .int x4), (3, .int x5)] [] := by
        clear hf
        intro u9 hf
        have hf := (hJ19 u9).symm.trans hf
        refine kw_iconst C (1 : Int32) dX9_rival_51 rfl ?_
        refine kw_goto C 56 dX9_rival_52 rfl ?_
        exact kJ10 _ hf
      refine kw_if_lt C 51 dX9_rival_27 rfl (fun c20 => ?_) (fun c20 => ?_)
      · have hf := if_p c20 hf
        exact kJ19 _ hf
      · have hf := if_n c20 hf
        refine kw_aload_n C dX9_rival_30 rfl 0 rfl ?_
        refine kw_get C inG9 _ (hO9 g σ) rfl 7 (Nat.le_of_ble_eq_true rfl) mf_9_47 rfl rfl dX9_rival_31 ?_
        refine kw_get C inG4 _ (hO4 g σ 5 (by simp [isSale])) rfl 0 (Nat.le_of_ble_eq_true rfl) mf_9_153 rfl rfl dX9_rival_34 ?_
        refine kw_iload_n C dX9_rival_37 rfl 3 rfl ?_
        obtain ⟨h21, hf⟩ := gd_elim hf
        refine kw_iald C _ 0 (hA4_0 g σ 5 (by simp [isSale])) rfl h21 dX9_rival_38 ?_
        refine kw_aload_n C dX9_rival_39 rfl 0 rfl ?_
        refine kw_get C inG9 _ (hO9 g σ) rfl 7 (Nat.le_of_ble_eq_true rfl) mf_9_47 rfl rfl dX9_rival_40 ?_
        refine kw_get C inG4 _ (hO4 g σ 5 (by simp [isSale])) rfl 0 (Nat.le_of_ble_eq_true rfl) mf_9_153 rfl rfl dX9_rival_43 ?_
        refine kw_iload_n C dX9_rival_46 rfl 2 rfl ?_
        obtain ⟨h22, hf⟩ := gd_elim hf
        refine kw_iald C _ 0 (hA4_0 g σ 5 (by simp [isSale])) rfl h22 dX9_rival_47 ?_
        refine kw_icmp_le C 55 dX9_rival_48 rfl (fun c23 => ?_) (fun c23 => ?_)
        · have hf := if_p c23 hf
          refine kw_iconst C (0 : Int32) dX9_rival_55 rfl ?_
          exact kJ10 _ hf
        · have hf := if_n c23 hf
          exact kJ19 _ hf
  · have hf := if_p c3 hf
    refine kw_iconst C (-1 : Int32) dX9_rival_8 rfl ?_
    exact kw_iret C K dX9_rival_9 (pr_ret hf)
set_option maxRecDepth 100000 in
set_option maxHeartbeats 4000000 in
theorem kX9_partsLeftIn (L : Launch) (D : va_G) (g : GwT) (t0 : Nat) (p0 : Int32) (σ : St) (r0 : Int32) (hf : fX9_partsLeftIn σ p0 = some r0) : CtI L D (ttG g) (wB g) t0 yX9_partsLeftIn cX9_partsLeftIn 4 (some .int) { frames := 2, cells := 0, slots := 0, locals := 45 } [.ref (g.1 0), .int p0] σ r0 σ := by
  refine CtI.of (own := RX9) (by decide) rfl (Nat.le_of_ble_eq_true rfl) [(0, .ref (g.1 0)), (1, .int p0)] rfl ?_
  intro X C hN K
  unfold fX9_partsLeftIn at hf
  refine kw_iconst C (0 : Int32) dX9_partsLeftIn_0 rfl ?_
  refine kw_istore_n C dX9_partsLeftIn_1 rfl hN (Nat.le_of_ble_eq_true rfl) [(2, .int (0 : Int32)), (0, .ref (g.1 0)), (1, .int p0)] rfl ?_
  refine kw_iconst C (0 : Int32) dX9_partsLeftIn_2 rfl ?_
  refine kw_istore_n C dX9_partsLeftIn_3 rfl hN (Nat.le_of_ble_eq_true rfl) [(3, .int (0 : Int32)), (2, .int (0 : Int32)), (0, .ref (g.1 0)), (1, .int p0)] rfl ?_
  refine kw_sub [2, 3, 1, 0] _ rfl ?_
  refine lpx2_walk (P := fun (x1 : Int32) (x2 : Int32) => KW X σ 4 [(0, .ref (g.1 0)), (1, .int p0), (2, .int x1), (3, .int x2)] []) ?_ FU _ _ hf
  intro self3 x1 x2 ih4 hf
  refine kw_iload_n C dX9_partsLeftIn_4 rfl 3 rfl ?_
  refine kw_aload_n C dX9_partsLeftIn_5 rfl 0 rfl ?_
  refine kw_get C inG9 _ (hO9 g σ) rfl 2 (Nat.le_of_ble_eq_true rfl) mf_9_22 rfl rfl dX9_partsLeftIn_6 ?_
  refine kw_get C inG6 _ (hO6 g σ (gR σ 0)) rfl 8 (Nat.le_of_ble_eq_true rfl) mf_9_129 rfl rfl dX9_partsLeftIn_9 ?_
  refine kw_icmp_ge C 51 dX9_partsLeftIn_12 rfl (fun c5 => ?_) (fun c5 => ?_)
  · have hf := if_p c5 hf
    refine kw_iload_n C dX9_partsLeftIn_51 rfl 2 rfl ?_
    exact kw_iret C K dX9_partsLeftIn_52 (pr_ret hf)
  · have hf := if_n c5 hf
    refine kw_aload_n C dX9_partsLeftIn_15 rfl 0 rfl ?_
    refine kw_get C inG9 _ (hO9 g σ) rfl 7 (Nat.le_of_ble_eq_true rfl) mf_9_47 rfl rfl dX9_partsLeftIn_16 ?_
    refine kw_iload_n C dX9_partsLeftIn_19 rfl 3 rfl ?_
    obtain ⟨r7, hc6, hf⟩ := bd_elim hf
    refine kw_callVI C [.int x2] (kX4_isFirst L D g t0 5 (by simp [isSale]) x2 σ _ hc6) RX4 mV_X9_185 ⟨rfl, rfl⟩ dd_X4_isFirst ⟨Nat.le_of_ble_eq_true rfl, Nat.le_of_ble_eq_true rfl⟩ _ (hO4 g σ 5 (by simp [isSale])) rfl rfl rfl (Nat.le_of_ble_eq_true rfl) dX9_partsLeftIn_20 ?_
    obtain ⟨J9, hJ9, hf⟩ := jnx1_elim hf
    have kJ9 : ∀ (x8 : Int32), J9 x8 = some r0 → KW X σ 45 [(0, .ref (g.1 0)), (1, .int p0), (2, .int x8), (3, .int x2)] [] := by
      clear hf
      intro x8 hf
      have hf := (hJ9 x8).symm.trans hf
      obtain ⟨x10, ex10, hf⟩ := lt_elim hf
      refine kw_iinc C x10 dX9_partsLeftIn_45 3 rfl ex10.symm hN (Nat.le_of_ble_eq_true rfl) [(3, .int x10), (0, .ref (g.1 0)), (1, .int p0), (2, .int x8)] rfl ?_
      refine kw_goto C 4 dX9_partsLeftIn_48 rfl ?_
      refine kw_sub [1, 2, 3, 0] _ rfl ?_
      exact ih4 _ _ hf
    refine kw_if_eq C 45 dX9_partsLeftIn_23 rfl (fun c11 => ?_) (fun c11 => ?_)
    · have hf := if_p c11 hf
      exact kJ9 _ hf
    · have hf := if_n c11 hf
      refine kw_aload_n C dX9_partsLeftIn_26 rfl 0 rfl ?_
      refine kw_get C inG9 _ (hO9 g σ) rfl 7 (Nat.le_of_ble_eq_true rfl) mf_9_47 rfl rfl dX9_partsLeftIn_27 ?_
      refine kw_aload_n C dX9_partsLeftIn_30 rfl 0 rfl ?_
      refine kw_get C inG9 _ (hO9 g σ) rfl 2 (Nat.le_of_ble_eq_true rfl) mf_9_22 rfl rfl dX9_partsLeftIn_31 ?_
      refine kw_iload_n C dX9_partsLeftIn_34 rfl 3 rfl ?_
      obtain ⟨r13, hc12, hf⟩ := bd_elim hf
      refine kw_callVI C [.ref (g.1 (tx (gR σ 0))), .int x2] (kX4_yearsToRenewal L D g t0 5 (by simp [isSale]) (gR σ 0) x2 σ _ hc12) RX4 mV_X9_363 ⟨rfl, rfl⟩ dd_X4_yearsToRenewal ⟨Nat.le_of_ble_eq_true rfl, Nat.le_of_ble_eq_true rfl⟩ _ (hO4 g σ 5 (by simp [isSale])) rfl rfl rfl (Nat.le_of_ble_eq_true rfl) dX9_partsLeftIn_35 ?_
      refine kw_iload_n C dX9_partsLeftIn_38 rfl 1 rfl ?_
      refine kw_icmp_le C 45 dX9_partsLeftIn_39 rfl (fun c14 => ?_) (fun c14 => ?_)
      · have hf := if_p c14 hf
        exact kJ9 _ hf
      · have hf := if_n c14 hf
        obtain ⟨x15, ex15, hf⟩ := lt_elim hf
        refine kw_iinc C x15 dX9_partsLeftIn_42 2 rfl ex15.symm hN (Nat.le_of_ble_eq_true rfl) [(2, .int x15), (0, .ref (g.1 0)), (1, .int p0), (3, .int x2)] rfl ?_
        refine kw_sub [1, 2, 0, 3] _ rfl ?_
        exact kJ9 _ hf
set_option maxRecDepth 100000 in
set_option maxHeartbeats 4000000 in
theorem kX9_same (L : Launch) (D : va_G) (g : GwT) (t0 : Nat) (σ : St) (r0 : Int32) (hf : fX9_same σ  = some r0) : CtI L D (ttG g) (wB g) t0 yX9_same cX9_same 1 (some .int) { frames := 3, cells := 0, slots := 0, locals := 68 } [.ref (g.1 0)] σ r0 σ := by
  refine CtI.of (own := RX9) (by decide) rfl (Nat.le_of_ble_eq_true rfl) [(0, .ref (g.1 0))] rfl ?_
  intro X C hN K
  unfold fX9_same at hf
  refine kw_aload_n C dX9_same_0 rfl 0 rfl ?_
  refine kw_iconst C (0 : Int32) dX9_same_1 rfl ?_
  obtain ⟨r2, hc1, hf⟩ := bd_elim hf
  refine kw_callVI C [.int (0 : Int32)] (kX9_partsLeftIn L D g t0 (0 : Int32) σ _ hc1) RX9 mV_X9_360 ⟨rfl, rfl⟩ dd_X9_partsLeftIn ⟨Nat.le_of_ble_eq_true rfl, Nat.le_of_ble_eq_true rfl⟩ _ (hO9 g σ) rfl rfl rfl (Nat.le_of_ble_eq_true rfl) dX9_same_2 ?_
  exact kw_iret C K dX9_same_5 (pr_ret hf)
set_option maxRecDepth 100000 in
set_option maxHeartbeats 4000000 in
theorem kX9_sameIn (L : Launch) (D : va_G) (g : GwT) (t0 : Nat) (p0 : Int32) (σ : St) (r0 : Int32) (hf : fX9_sameIn σ p0 = some r0) : CtI L D (ttG g) (wB g) t0 yX9_sameIn cX9_sameIn 2 (some .int) { frames := 3, cells := 0, slots := 0, locals := 68 } [.ref (g.1 0), .int p0] σ r0 σ := by
  refine CtI.of (own := RX9) (by decide) rfl (Nat.le_of_ble_eq_true rfl) [(0, .ref (g.1 0)), (1, .int p0)] rfl ?_
  intro X C hN K
  unfold fX9_sameIn at hf
  refine kw_iload_n C dX9_sameIn_0 rfl 1 rfl ?_
  refine kw_iconst C (0 : Int32) dX9_sameIn_1 rfl ?_
  refine kw_sipush C (999 : Int32) dX9_sameIn_2 rfl ?_
  obtain ⟨r2, hc1, hf⟩ := bd_elim hf
  refine kw_callSI C [.int p0, .int (0 : Int32), .int (999 : Int32)] (kX9_isWithin L D g t0 p0 (0 : Int32) (999 : Int32) σ _ hc1) mS_X9_188 ⟨rfl, rfl⟩ dd_X9_isWithin ⟨Nat.le_of_ble_eq_true rfl, Nat.le_of_ble_eq_true rfl⟩ rfl (Nat.le_of_ble_eq_true rfl) dX9_sameIn_5 ?_
  obtain ⟨J4, hJ4, hf⟩ := jnx1_elim hf
  have kJ4 : ∀ (x3 : Int32), J4 x3 = some r0 → KW X σ 20 [] [.int x3] := by
    clear hf
    intro x3 hf
    have hf := (hJ4 x3).symm.trans hf
    exact kw_iret C K dX9_sameIn_20 (pr_ret hf)
  refine kw_if_eq C 19 dX9_sameIn_8 rfl (fun c5 => ?_) (fun c5 => ?_)
  · have hf := if_p c5 hf
    refine kw_iconst C (-1 : Int32) dX9_sameIn_19 rfl ?_
    refine kw_sub [] _ rfl ?_
    exact kJ4 _ hf
  · have hf := if_n c5 hf
    refine kw_aload_n C dX9_sameIn_11 rfl 0 rfl ?_
    refine kw_iload_n C dX9_sameIn_12 rfl 1 rfl ?_
    obtain ⟨r7, hc6, hf⟩ := bd_elim hf
    refine kw_callVI C [.int p0] (kX9_partsLeftIn L D g t0 p0 σ _ hc6) RX9 mV_X9_360 ⟨rfl, rfl⟩ dd_X9_partsLeftIn ⟨Nat.le_of_ble_eq_true rfl, Nat.le_of_ble_eq_true rfl⟩ _ (hO9 g σ) rfl rfl rfl (Nat.le_of_ble_eq_true rfl) dX9_sameIn_13 ?_
    refine kw_goto C 20 dX9_sameIn_16 rfl ?_
    refine kw_sub [] _ rfl ?_
    exact kJ4 _ hf
set_option maxRecDepth 100000 in
set_option maxHeartbeats 4000000 in
theorem kX9_noneLeft (L : Launch) (D : va_G) (g : GwT) (t0 : Nat) (σ : St) (r0 : Int32) (hf : fX9_noneLeft σ  = some r0) : CtI L D (ttG g) (wB g) t0 yX9_noneLeft cX9_noneLeft 3 (some .int) { frames := 2, cells := 0, slots := 0, locals := 45 } [.ref (g.1 0)] σ r0 σ := by
  refine CtI.of (own := RX9) (by decide) rfl (Nat.le_of_ble_eq_true rfl) [(0, .ref (g.1 0))] rfl ?_
  intro X C hN K
  unfold fX9_noneLeft at hf
  refine kw_iconst C (0 : Int32) dX9_noneLeft_0 rfl ?_
  refine kw_istore_n C dX9_noneLeft_1 rfl hN (Nat.le_of_ble_eq_true rfl) [(1, .int (0 : Int32)), (0, .ref (g.1 0))] rfl ?_
  refine kw_iconst C (0 : Int32) dX9_noneLeft_2 rfl ?_
  refine kw_istore_n C dX9_noneLeft_3 rfl hN (Nat.le_of_ble_eq_true rfl) [(2, .int (0 : Int32)), (1, .int (0 : Int32)), (0, .ref (g.1 0))] rfl ?_
  refine kw_sub [2, 1, 0] _ rfl ?_
  refine lpx2_walk (P := fun (x1 : Int32) (x2 : Int32) => KW X σ 4 [(0, .ref (g.1 0)), (1, .int x1), (2, .int x2)] []) ?_ FU _ _ hf
  intro self3 x1 x2 ih4 hf
  refine kw_iload_n C dX9_noneLeft_4 rfl 2 rfl ?_
  refine kw_aload_n C dX9_noneLeft_5 rfl 0 rfl ?_
  refine kw_get C inG9 _ (hO9 g σ) rfl 2 (Nat.le_of_ble_eq_true rfl) mf_9_22 rfl rfl dX9_noneLeft_6 ?_
  refine kw_get C inG6 _ (hO6 g σ (gR σ 0)) rfl 8 (Nat.le_of_ble_eq_true rfl) mf_9_129 rfl rfl dX9_noneLeft_9 ?_
  refine kw_icmp_ge C 49 dX9_noneLeft_12 rfl (fun c5 => ?_) (fun c5 => ?_)
  · have hf := if_p c5 hf
    refine kw_iload_n C dX9_noneLeft_49 rfl 1 rfl ?_
    refine kw_sipush C (999 : Int32) dX9_noneLeft_50 rfl ?_
    obtain ⟨J7, hJ7, hf⟩ := jnx1_elim hf
    have kJ7 : ∀ (x6 : Int32), J7 x6 = some r0 → KW X σ 62 [] [.int x6] := by
      clear hf
      intro x6 hf
      have hf := (hJ7 x6).symm.trans hf
      exact kw_iret C K dX9_noneLeft_62 (pr_ret hf)
    refine kw_icmp_gt C 60 dX9_noneLeft_53 rfl (fun c8 => ?_) (fun c8 => ?_)
    · have hf := if_p c8 hf
      refine kw_bipush C (-2 : Int32) dX9_noneLeft_60 rfl ?_
      refine kw_sub [] _ rfl ?_
      exact kJ7 _ hf
    · have hf := if_n c8 hf
      refine kw_iload_n C dX9_noneLeft_56 rfl 1 rfl ?_
      refine kw_goto C 62 dX9_noneLeft_57 rfl ?_
      refine kw_sub [] _ rfl ?_
      exact kJ7 _ hf
  · have hf := if_n c5 hf
    refine kw_aload_n C dX9_noneLeft_15 rfl 0 rfl ?_
    refine kw_get C inG9 _ (hO9 g σ) rfl 7 (Nat.le_of_ble_eq_true rfl) mf_9_47 rfl rfl dX9_noneLeft_16 ?_
    refine kw_iload_n C dX9_noneLeft_19 rfl 2 rfl ?_
    obtain ⟨r10, hc9, hf⟩ := bd_elim hf
    refine kw_callVI C [.int x2] (kX4_isFirst L D g t0 5 (by simp [isSale]) x2 σ _ hc9) RX4 mV_X9_185 ⟨rfl, rfl⟩ dd_X4_isFirst ⟨Nat.le_of_ble_eq_true rfl, Nat.le_of_ble_eq_true rfl⟩ _ (hO4 g σ 5 (by simp [isSale])) rfl rfl rfl (Nat.le_of_ble_eq_true rfl) dX9_noneLeft_20 ?_
    obtain ⟨J12, hJ12, hf⟩ := jnx1_elim hf
    have kJ12 : ∀ (x11 : Int32), J12 x11 = some r0 → KW X σ 43 [(0, .ref (g.1 0)), (1, .int x11), (2, .int x2)] [] := by
      clear hf
      intro x11 hf
      have hf := (hJ12 x11).symm.trans hf
      obtain ⟨x13, ex13, hf⟩ := lt_elim hf
      refine kw_iinc C x13 dX9_noneLeft_43 2 rfl ex13.symm hN (Nat.le_of_ble_eq_true rfl) [(2, .int x13), (0, .ref (g.1 0)), (1, .int x11)] rfl ?_
      refine kw_goto C 4 dX9_noneLeft_46 rfl ?_
      refine kw_sub [1, 2, 0] _ rfl ?_
      exact ih4 _ _ hf
    refine kw_if_eq C 43 dX9_noneLeft_23 rfl (fun c14 => ?_) (fun c14 => ?_)
    · have hf := if_p c14 hf
      exact kJ12 _ hf
    · have hf := if_n c14 hf
      refine kw_iload_n C dX9_noneLeft_26 rfl 1 rfl ?_
      refine kw_aload_n C dX9_noneLeft_27 rfl 0 rfl ?_
      refine kw_get C inG9 _ (hO9 g σ) rfl 7 (Nat.le_of_ble_eq_true rfl) mf_9_47 rfl rfl dX9_noneLeft_28 ?_
      refine kw_aload_n C dX9_noneLeft_31 rfl 0 rfl ?_
      refine kw_get C inG9 _ (hO9 g σ) rfl 2 (Nat.le_of_ble_eq_true rfl) mf_9_22 rfl rfl dX9_noneLeft_32 ?_
      refine kw_iload_n C dX9_noneLeft_35 rfl 2 rfl ?_
      obtain ⟨r16, hc15, hf⟩ := bd_elim hf
      refine kw_callVI C [.ref (g.1 (tx (gR σ 0))), .int x2] (kX4_yearsToRenewal L D g t0 5 (by simp [isSale]) (gR σ 0) x2 σ _ hc15) RX4 mV_X9_363 ⟨rfl, rfl⟩ dd_X4_yearsToRenewal ⟨Nat.le_of_ble_eq_true rfl, Nat.le_of_ble_eq_true rfl⟩ _ (hO4 g σ 5 (by simp [isSale])) rfl rfl rfl (Nat.le_of_ble_eq_true rfl) dX9_noneLeft_36 ?_
      refine kw_mmax C ml_X9_346 mst_max mi_Math mcode_max ⟨Nat.le_of_ble_eq_true rfl, Nat.le_of_ble_eq_true rfl⟩ dX9_noneLeft_39 ?_
      obtain ⟨x17, ex17, hf⟩ := lt_elim hf
      refine kw_topi ex17 ?_
      refine kw_istore_n C dX9_noneLeft_42 rfl hN (Nat.le_of_ble_eq_true rfl) [(1, .int x17), (0, .ref (g.1 0)), (2, .int x2)] rfl ?_
      refine kw_sub [1, 0, 2] _ rfl ?_
      exact kJ12 _ hf
set_option maxRecDepth 100000 in
set_option maxHeartbeats 4000000 in
theorem kX9_nextPart (L : Launch) (D : va_G) (g : GwT) (t0 : Nat) (p0 : Int32) (σ : St) (r0 : Int32) (hf : fX9_nextPart σ p0 = some r0) : CtI L D (ttG g) (wB g) t0 yX9_nextPart cX9_nextPart 6 (some .int) { frames := 2, cells := 0, slots := 0, locals := 45 } [.ref (g.1 0), .int p0] σ r0 σ := by
  refine CtI.of (own := RX9) (by decide) rfl (Nat.le_of_ble_eq_true rfl) [(0, .ref (g.1 0)), (1, .int p0)] rfl ?_
  intro X C hN K
  unfold fX9_nextPart at hf
  refine kw_iload_n C dX9_nextPart_0 rfl 1 rfl ?_
  refine kw_iconst C (0 : Int32) dX9_nextPart_1 rfl ?_
  refine kw_iconst C (1 : Int32) dX9_nextPart_2 rfl ?_
  obtain ⟨r2, hc1, hf⟩ := bd_elim hf
  refine kw_callSI C [.int p0, .int (0 : Int32), .int (1 : Int32)] (kX9_isWithin L D g t0 p0 (0 : Int32) (1 : Int32) σ _ hc1) mS_X9_188 ⟨rfl, rfl⟩ dd_X9_isWithin ⟨Nat.le_of_ble_eq_true rfl, Nat.le_of_ble_eq_true rfl⟩ rfl (Nat.le_of_ble_eq_true rfl) dX9_nextPart_3 ?_
  refine kw_if_ne C 11 dX9_nextPart_6 rfl (fun c3 => ?_) (fun c3 => ?_)
  · have hf := if_n c3 hf
    refine kw_bipush C (-2 : Int32) dX9_nextPart_11 rfl ?_
    refine kw_istore_n C dX9_nextPart_13 rfl hN (Nat.le_of_ble_eq_true rfl) [(2, .int (-2 : Int32)), (0, .ref (g.1 0)), (1, .int p0)] rfl ?_
    refine kw_bipush C (-2 : Int32) dX9_nextPart_14 rfl ?_
    refine kw_istore_n C dX9_nextPart_16 rfl hN (Nat.le_of_ble_eq_true rfl) [(3, .int (-2 : Int32)), (2, .int (-2 : Int32)), (0, .ref (g.1 0)), (1, .int p0)] rfl ?_
    refine kw_iconst C (0 : Int32) dX9_nextPart_17 rfl ?_
    refine kw_istore C dX9_nextPart_18 hN (Nat.le_of_ble_eq_true rfl) [(4, .int (0 : Int32)), (3, .int (-2 : Int32)), (2, .int (-2 : Int32)), (0, .ref (g.1 0)), (1, .int p0)] rfl ?_
    refine kw_sub [3, 4, 2, 1, 0] _ rfl ?_
    refine lpx3_walk (P := fun (x4 : Int32) (x5 : Int32) (x6 : Int32) => KW X σ 20 [(0, .ref (g.1 0)), (1, .int p0), (2, .int x4), (3, .int x5), (4, .int x6)] []) ?_ FU _ _ _ hf
    intro self7 x4 x5 x6 ih8 hf
    refine kw_iload C dX9_nextPart_20 4 rfl ?_
    refine kw_aload_n C dX9_nextPart_22 rfl 0 rfl ?_
    refine kw_get C inG9 _ (hO9 g σ) rfl 2 (Nat.le_of_ble_eq_true rfl) mf_9_22 rfl rfl dX9_nextPart_23 ?_
    refine kw_get C inG6 _ (hO6 g σ (gR σ 0)) rfl 8 (Nat.le_of_ble_eq_true rfl) mf_9_129 rfl rfl dX9_nextPart_26 ?_
    refine kw_icmp_ge C 71 dX9_nextPart_29 rfl (fun c9 => ?_) (fun c9 => ?_)
    · have hf := if_p c9 hf
      refine kw_iload_n C dX9_nextPart_71 rfl 1 rfl ?_
      obtain ⟨J11, hJ11, hf⟩ := jnx1_elim hf
      have kJ11 : ∀ (x10 : Int32), J11 x10 = some r0 → KW X σ 80 [] [.int x10] := by
        clear hf
        intro x10 hf
        have hf := (hJ11 x10).symm.trans hf
        exact kw_iret C K dX9_nextPart_80 (pr_ret hf)
      refine kw_if_ne C 79 dX9_nextPart_72 rfl (fun c12 => ?_) (fun c12 => ?_)
      · have hf := if_n c12 hf
        refine kw_iload_n C dX9_nextPart_79 rfl 3 rfl ?_
        refine kw_sub [] _ rfl ?_
        exact kJ11 _ hf
      · have hf := if_p c12 hf
        refine kw_iload_n C dX9_nextPart_75 rfl 2 rfl ?_
        refine kw_goto C 80 dX9_nextPart_76 rfl ?_
        refine kw_sub [] _ rfl ?_
        exact kJ11 _ hf
    · have hf := if_n c9 hf
      refine kw_aload_n C dX9_nextPart_32 rfl 0 rfl ?_
      refine kw_get C inG9 _ (hO9 g σ) rfl 7 (Nat.le_of_ble_eq_true rfl) mf_9_47 rfl rfl dX9_nextPart_33 ?_
      refine kw_aload_n C dX9_nextPart_36 rfl 0 rfl ?_
      refine kw_get C inG9 _ (hO9 g σ) rfl 2 (Nat.le_of_ble_eq_true rfl) mf_9_22 rfl rfl dX9_nextPart_37 ?_
      refine kw_iload C dX9_nextPart_40 4 rfl ?_
      obtain ⟨r14, hc13, hf⟩ := bd_elim hf
      refine kw_callVI C [.ref (g.1 (tx (gR σ 0))), .int x6] (kX4_yearsToRenewal L D g t0 5 (by simp [isSale]) (gR σ 0) x6 σ _ hc13) RX4 mV_X9_363 ⟨rfl, rfl⟩ dd_X4_yearsToRenewal ⟨Nat.le_of_ble_eq_true rfl, Nat.le_of_ble_eq_true rfl⟩ _ (hO4 g σ 5 (by simp [isSale])) rfl rfl rfl (Nat.le_of_ble_eq_true rfl) dX9_nextPart_42 ?_
      refine kw_istore C dX9_nextPart_45 hN (Nat.le_of_ble_eq_true rfl) [(5, .int r14), (0, .ref (g.1 0)), (1, .int p0), (2, .int x4), (3, .int x5), (4, .int x6)] rfl ?_
      refine kw_iload_n C dX9_nextPart_47 rfl 3 rfl ?_
      refine kw_bipush C (-2 : Int32) dX9_nextPart_48 rfl ?_
      obtain ⟨J17, hJ17, hf⟩ := jnx2_elim hf
      have kJ17 : ∀ (x15 : Int32) (x16 : Int32), J17 x15 x16 = some r0 → KW X σ 65 [(0, .ref (g.1 0)), (1, .int p0), (2, .int x15), (3, .int x16), (4, .int x6)] [] := by
        clear hf
        intro x15 x16 hf
        have hf := (hJ17 x15 x16).symm.trans hf
        obtain ⟨x18, ex18, hf⟩ := lt_elim hf
        refine kw_iinc C x18 dX9_nextPart_65 4 rfl ex18.symm hN (Nat.le_of_ble_eq_true rfl) [(4, .int x18), (0, .ref (g.1 0)), (1, .int p0), (2, .int x15), (3, .int x16)] rfl ?_
        refine kw_goto C 20 dX9_nextPart_68 rfl ?_
        refine kw_sub [1, 2, 3, 4, 0] _ rfl ?_
        exact ih8 _ _ _ hf
      obtain ⟨J19, hJ19, hf⟩ := jnx1_elim hf
      have kJ19 : ∀ (u9 : Unit), J19 u9 = some r0 → KW X σ 59 [(0, .ref (g.1 0)), (1, .int p0), (4, .int x6), (5, .int r14)] [] := by
        clear hf
        intro u9 hf
        have hf := (hJ19 u9).symm.trans hf
        refine kw_iload C dX9_nextPart_59 2 rfl ?_
        refine kw_istore_n C dX9_nextPart_61 rfl hN (Nat.le_of_ble_eq_true rfl) [(2, .int x6), (0, .ref (g.1 0)), (1, .int p0), (4, .int x6), (5, .int r14)] rfl ?_
        refine kw_iload C dX9_nextPart_62 4 rfl ?_
        refine kw_istore_n C dX9_nextPart_64 rfl hN (Nat.le_of_ble_eq_true rfl) [(3, .int r14), (2, .int x6), (0, .ref (g.1 0)), (1, .int p0), (4, .int x6), (5, .int r14)] rfl ?_
        refine kw_sub [2, 3, 1, 0, 4] _ rfl ?_
        exact kJ17 _ _ hf
      refine kw_icmp_eq C 59 dX9_nextPart_50 rfl (fun c20 => ?_) (fun c20 => ?_)
      · have hf := if_p c20 hf
        refine kw_sub [1, 2, 5, 0] _ rfl ?_
        exact kJ19 _ hf
      · have hf := if_n c20 hf
        refine kw_iload C dX9_nextPart_53 0 rfl ?_
        refine kw_iload_n C dX9_nextPart_55 rfl 4 rfl ?_
        refine kw_icmp_ge C 65 dX9_nextPart_56 rfl (fun c21 => ?_) (fun c21 => ?_)
        · have hf := if_p c21 hf
          refine kw_sub [1, 2, 3, 4, 5] _ rfl ?_
          exact kJ17 _ _ hf
        · have hf := if_n c21 hf
          refine kw_sub [1, 2, 5, 0] _ rfl ?_
          exact kJ19 _ hf
  · have hf := if_p c3 hf
    refine kw_iconst C (-1 : Int32) dX9_nextPart_9 rfl ?_
    exact kw_iret C K dX9_nextPart_10 (pr_ret hf)
set_option maxRecDepth 100000 in
set_option maxHeartbeats 4000000 in
theorem kX9_see (L : Launch) (D : va_G) (g : GwT) (t0 : Nat) (p0 : Int32) (p1 : Int32) (p2 : Int32) (σ : St) (r0 : Int32) (σ0 : St) (hf : fX9_see σ p0 p1 p2 = some (r0, σ0)) : CtI L D (ttG g) (wB g) t0 yX9_see cX9_see 4 (some .int) { frames := 1, cells := 0, slots := 0, locals := 23 } [.ref (g.1 0), .int p0, .int p1, .int p2] σ r0 σ0 := by
  refine CtI.of (own := RX9) (by decide) rfl (Nat.le_of_ble_eq_true rfl) [(0, .ref (g.1 0)), (1, .int p0), (2, .int p1), (3, .int p2)] rfl ?_
  intro X C hN K
  unfold fX9_see at hf
  refine kw_iload_n C dX9_see_0 rfl 1 rfl ?_
  refine kw_iconst C (1 : Int32) dX9_see_1 rfl ?_
  refine kw_bipush C (99 : Int32) dX9_see_2 rfl ?_
  obtain ⟨r2, hc1, hf⟩ := bd_elim hf
  refine kw_callSI C [.int p0, .int (1 : Int32), .int (99 : Int32)] (kX9_isWithin L D g t0 p0 (1 : Int32) (99 : Int32) σ _ hc1) mS_X9_188 ⟨rfl, rfl⟩ dd_X9_isWithin ⟨Nat.le_of_ble_eq_true rfl, Nat.le_of_ble_eq_true rfl⟩ rfl (Nat.le_of_ble_eq_true rfl) dX9_see_4 ?_
  obtain ⟨J3, hJ3, hf⟩ := jnx1_elim hf
  have kJ3 : ∀ (u9 : Unit), J3 u9 = some (r0, σ0) → KW X σ 21 [] [] := by
    clear hf
    intro u9 hf
    have hf := (hJ3 u9).symm.trans hf
    refine kw_iconst C (-1 : Int32) dX9_see_21 rfl ?_
    exact kw_iret C K dX9_see_22 hf
  refine kw_if_eq C 21 dX9_see_7 rfl (fun c4 => ?_) (fun c4 => ?_)
  · have hf := if_p c4 hf
    refine kw_sub [] _ rfl ?_
    exact kJ3 _ hf
  · have hf := if_n c4 hf
    refine kw_iload_n C dX9_see_10 rfl 2 rfl ?_
    refine kw_iconst C (0 : Int32) dX9_see_11 rfl ?_
    refine kw_sipush C (9999 : Int32) dX9_see_12 rfl ?_
    obtain ⟨r6, hc5, hf⟩ := bd_elim hf
    refine kw_callSI C [.int p1, .int (0 : Int32), .int (9999 : Int32)] (kX9_isWithin L D g t0 p1 (0 : Int32) (9999 : Int32) σ _ hc5) mS_X9_188 ⟨rfl, rfl⟩ dd_X9_isWithin ⟨Nat.le_of_ble_eq_true rfl, Nat.le_of_ble_eq_true rfl⟩ rfl (Nat.le_of_ble_eq_true rfl) dX9_see_15 ?_
    refine kw_if_ne C 23 dX9_see_18 rfl (fun c7 => ?_) (fun c7 => ?_)
    · have hf := if_n c7 hf
      refine kw_aload_n C dX9_see_23 rfl 0 rfl ?_
      refine kw_get C inG9 _ (hO9 g σ) rfl 13 (Nat.le_of_ble_eq_true rfl) mf_9_74 rfl rfl dX9_see_24 ?_
      refine kw_iload_n C dX9_see_27 rfl 3 rfl ?_
      obtain ⟨J9, hJ9, hf⟩ := jnx1_elim hf
      have kJ9 : ∀ (x8 : Int32), J9 x8 = some (r0, σ0) → KW X σ 36 [(1, .int p0), (2, .int p1)] [.int x8, .ref (g.1 13)] := by
        clear hf
        intro x8 hf
        have hf := (hJ9 x8).symm.trans hf
        refine kw_iload_n C dX9_see_36 rfl 0 rfl ?_
        refine kw_iload_n C dX9_see_37 rfl 1 rfl ?_
        obtain ⟨r11, σ12, hc10, hf⟩ := bI_elim hf
        refine kw_callVI C [.int x8, .int p0, .int p1] (kX5_add L D g t0 x8 p0 p1 σ _ _ hc10) RX5 mV_X9_367 ⟨rfl, rfl⟩ dd_X5_add ⟨Nat.le_of_ble_eq_true rfl, Nat.le_of_ble_eq_true rfl⟩ _ (hO5 g σ) rfl rfl rfl (Nat.le_of_ble_eq_true rfl) dX9_see_38 ?_
        exact kw_iret C K dX9_see_41 hf
      refine kw_if_eq C 35 dX9_see_28 rfl (fun c13 => ?_) (fun c13 => ?_)
      · have hf := if_p c13 hf
        refine kw_iconst C (0 : Int32) dX9_see_35 rfl ?_
        refine kw_sub [1, 2] _ rfl ?_
        exact kJ9 _ hf
      · have hf := if_n c13 hf
        refine kw_iconst C (1 : Int32) dX9_see_31 rfl ?_
        refine kw_goto C 36 dX9_see_32 rfl ?_
        refine kw_sub [1, 2] _ rfl ?_
        exact kJ9 _ hf
    · have hf := if_p c7 hf
      refine kw_sub [] _ rfl ?_
      exact kJ3 _ hf
set_option maxRecDepth 100000 in
set_option maxHeartbeats 4000000 in
theorem kX9_strike (L : Launch) (D : va_G) (g : GwT) (t0 : Nat) (p0 : Int32) (σ : St) (r0 : Int32) (σ0 : St) (hf : fX9_strike σ p0 = some (r0, σ0)) : CtI L D (ttG g) (wB g) t0 yX9_strike cX9_strike 2 (some .int) { frames := 1, cells := 0, slots := 0, locals := 23 } [.ref (g.1 0), .int p0] σ r0 σ0 := by
  refine CtI.of (own := RX9) (by decide) rfl (Nat.le_of_ble_eq_true rfl) [(0, .ref (g.1 0)), (1, .int p0)] rfl ?_
  intro X C hN K
  unfold fX9_strike at hf
  refine kw_iload_n C dX9_strike_0 rfl 1 rfl ?_
  obtain ⟨J1, hJ1, hf⟩ := jnx1_elim hf
  have kJ1 : ∀ (u9 : Unit), J1 u9 = some (r0, σ0) → KW X σ 15 [] [] := by
    clear hf
    intro u9 hf
    have hf := (hJ1 u9).symm.trans hf
    refine kw_iconst C (-1 : Int32) dX9_strike_15 rfl ?_
    exact kw_iret C K dX9_strike_16 hf
  refine kw_if_lt C 15 dX9_strike_1 rfl (fun c2 => ?_) (fun c2 => ?_)
  · have hf := if_p c2 hf
    refine kw_sub [] _ rfl ?_
    exact kJ1 _ hf
  · have hf := if_n c2 hf
    refine kw_iload_n C dX9_strike_4 rfl 1 rfl ?_
    refine kw_aload_n C dX9_strike_5 rfl 0 rfl ?_
    refine kw_get C inG9 _ (hO9 g σ) rfl 13 (Nat.le_of_ble_eq_true rfl) mf_9_74 rfl rfl dX9_strike_6 ?_
    refine kw_get C inG5 _ (hO5 g σ) rfl 4 (Nat.le_of_ble_eq_true rfl) mf_9_237 rfl rfl dX9_strike_9 ?_
    refine kw_icmp_lt C 17 dX9_strike_12 rfl (fun c3 => ?_) (fun c3 => ?_)
    · have hf := if_p c3 hf
      refine kw_aload_n C dX9_strike_17 rfl 0 rfl ?_
      refine kw_get C inG9 _ (hO9 g σ) rfl 13 (Nat.le_of_ble_eq_true rfl) mf_9_74 rfl rfl dX9_strike_18 ?_
      refine kw_iconst C (2 : Int32) dX9_strike_21 rfl ?_
      refine kw_iconst C (0 : Int32) dX9_strike_22 rfl ?_
      refine kw_iload_n C dX9_strike_23 rfl 1 rfl ?_
      obtain ⟨r5, σ6, hc4, hf⟩ := bI_elim hf
      refine kw_callVI C [.int (2 : Int32), .int (0 : Int32), .int p0] (kX5_add L D g t0 (2 : Int32) (0 : Int32) p0 σ _ _ hc4) RX5 mV_X9_367 ⟨rfl, rfl⟩ dd_X5_add ⟨Nat.le_of_ble_eq_true rfl, Nat.le_of_ble_eq_true rfl⟩ _ (hO5 g σ) rfl rfl rfl (Nat.le_of_ble_eq_true rfl) dX9_strike_24 ?_
      exact kw_iret C K dX9_strike_27 hf
    · have hf := if_n c3 hf
      refine kw_sub [] _ rfl ?_
      exact kJ1 _ hf
set_option maxRecDepth 100000 in
set_option maxHeartbeats 4000000 in
theorem kX9_known (L : Launch) (D : va_G) (g : GwT) (t0 : Nat) (p0 : Int32) (σ : St) (r0 : Int32) (σ0 : St) (hf : fX9_known σ p0 = some (r0, σ0)) : CtI L D (ttG g) (wB g) t0 yX9_known cX9_known 2 (some .boolean) { frames := 1, cells := 0, slots := 0, locals := 22 } [.ref (g.1 0), .int p0] σ r0 σ0 := by
  refine CtI.of (own := RX9) (by decide) rfl (Nat.le_of_ble_eq_true rfl) [(0, .ref (g.1 0)), (1, .int p0)] rfl ?_
  intro X C hN K
  unfold fX9_known at hf
  refine kw_iload_n C dX9_known_0 rfl 1 rfl ?_
  refine kw_iconst C (-1 : Int32) dX9_known_1 rfl ?_
  refine kw_aload_n C dX9_known_2 rfl 0 rfl ?_
  refine kw_get C inG9 _ (hO9 g σ) rfl 13 (Nat.le_of_ble_eq_true rfl) mf_9_74 rfl rfl dX9_known_3 ?_
  refine kw_get C inG5 _ (hO5 g σ) rfl 4 (Nat.le_of_ble_eq_true rfl) mf_9_237 rfl rfl dX9_known_6 ?_
  obtain ⟨r2, hc1, hf⟩ := bd_elim hf
  refine kw_callSI C [.int p0, .int (-1 : Int32), .int (gI σ 13 4)] (kX9_isWithin L D g t0 p0 (-1 : Int32) (gI σ 13 4) σ _ hc1) mS_X9_188 ⟨rfl, rfl⟩ dd_X9_isWithin ⟨Nat.le_of_ble_eq_true rfl, Nat.le_of_ble_eq_true rfl⟩ rfl (Nat.le_of_ble_eq_true rfl) dX9_known_9 ?_
  refine kw_if_ne C 17 dX9_known_12 rfl (fun c3 => ?_) (fun c3 => ?_)
  · have hf := if_n c3 hf
    refine kw_aload_n C dX9_known_17 rfl 0 rfl ?_
    refine kw_get C inG9 _ (hO9 g σ) rfl 13 (Nat.le_of_ble_eq_true rfl) mf_9_74 rfl rfl dX9_known_18 ?_
    refine kw_iload_n C dX9_known_21 rfl 1 rfl ?_
    obtain ⟨σ4, eσ4, hf⟩ := lt_elim hf
    refine kw_put C inG5 tyX5 tyX5_ok nmX5 _ (hO5 g σ) rfl 5 (Nat.le_of_ble_eq_true rfl) mf_9_371 rfl rfl (tyX5_ok 5 (Nat.le_of_ble_eq_true rfl)) rfl rfl (Nat.le_of_ble_eq_true rfl) ((hF5_5 g σ _).trans (congrArg (wB g) eσ4.symm)) dX9_known_22 ?_
    refine kw_iconst C (1 : Int32) dX9_known_25 rfl ?_
    exact kw_zret C K (by decide) dX9_known_26 hf
  · have hf := if_p c3 hf
    refine kw_iconst C (0 : Int32) dX9_known_15 rfl ?_
    exact kw_zret C K (by decide) dX9_known_16 hf
set_option maxRecDepth 100000 in
set_option maxHeartbeats 4000000 in
theorem kX9_agreesWithSeen (L : Launch) (D : va_G) (g : GwT) (t0 : Nat) (p0 : Int32) (p1 : Int32) (σ : St) (r0 : Int32) (σ0 : St) (hf : fX9_agreesWithSeen σ p0 p1 = some (r0, σ0)) : CtI L D (ttG g) (wB g) t0 yX9_agreesWithSeen cX9_agreesWithSeen 4 (some .boolean) { frames := 6, cells := 0, slots := 0, locals := 146 } [.ref (g.1 0), .int p0, .int p1] σ r0 σ0 := by
  refine CtI.of (own := RX9) (by decide) rfl (Nat.le_of_ble_eq_true rfl) [(0, .ref (g.1 0)), (1, .int p0), (2, .int p1)] rfl ?_
  intro X C hN K
  unfold fX9_agreesWithSeen at hf
  refine kw_aload_n C dX9_agreesWithSeen_0 rfl 0 rfl ?_
  refine kw_get C inG9 _ (hO9 g σ) rfl 14 (Nat.le_of_ble_eq_true rfl) mf_9_83 rfl rfl dX9_agreesWithSeen_1 ?_
  refine kw_aload_n C dX9_agreesWithSeen_4 rfl 0 rfl ?_
  refine kw_get C inG9 _ (hO9 g σ) rfl 2 (Nat.le_of_ble_eq_true rfl) mf_9_22 rfl rfl dX9_agreesWithSeen_5 ?_
  obtain ⟨σ2, hc1, hf⟩ := bV_elim hf
  refine kw_callVV C [.ref (g.1 (tx (gR σ 0)))] (kX0_asItGoes L D g t0 (gR σ 0) σ _ hc1) RX0 mV_X9_194 ⟨rfl, rfl⟩ dd_X0_asItGoes ⟨Nat.le_of_ble_eq_true rfl, Nat.le_of_ble_eq_true rfl⟩ _ (hO0 g σ) rfl rfl rfl (Nat.le_of_ble_eq_true rfl) dX9_agreesWithSeen_8 ?_
  refine kw_aload_n C dX9_agreesWithSeen_11 rfl 0 rfl ?_
  refine kw_get C inG9 _ (hO9 g σ2) rfl 8 (Nat.le_of_ble_eq_true rfl) mf_9_51 rfl rfl dX9_agreesWithSeen_12 ?_
  refine kw_aload_n C dX9_agreesWithSeen_15 rfl 0 rfl ?_
  refine kw_get C inG9 _ (hO9 g σ2) rfl 2 (Nat.le_of_ble_eq_true rfl) mf_9_22 rfl rfl dX9_agreesWithSeen_16 ?_
  obtain ⟨σ4, hc3, hf⟩ := bV_elim hf
  refine kw_callVV C [.ref (g.1 (tx (gR σ2 0)))] (kX4_begin L D g t0 6 (by simp [isSale]) (gR σ2 0) σ2 _ hc3) RX4 mV_X9_108 ⟨rfl, rfl⟩ dd_X4_begin ⟨Nat.le_of_ble_eq_true rfl, Nat.le_of_ble_eq_true rfl⟩ _ (hO4 g σ2 6 (by simp [isSale])) rfl rfl rfl (Nat.le_of_ble_eq_true rfl) dX9_agreesWithSeen_19 ?_
  refine kw_aload_n C dX9_agreesWithSeen_22 rfl 0 rfl ?_
  refine kw_get C inG9 _ (hO9 g σ4) rfl 8 (Nat.le_of_ble_eq_true rfl) mf_9_51 rfl rfl dX9_agreesWithSeen_23 ?_
  refine kw_get C inG4 _ (hO4 g σ4 6 (by simp [isSale])) rfl 0 (Nat.le_of_ble_eq_true rfl) mf_9_153 rfl rfl dX9_agreesWithSeen_26 ?_
  refine kw_iload_n C dX9_agreesWithSeen_29 rfl 1 rfl ?_
  refine kw_iload_n C dX9_agreesWithSeen_30 rfl 2 rfl ?_
  obtain ⟨h5, hf⟩ := gd_elim hf
  obtain ⟨σ6, eσ6, hf⟩ := lt_elim hf
  refine kw_iast C _ 0 (hA4_0 g σ4 6 (by simp [isSale])) rfl h5 ((hS4_0 g σ4 6 (by simp [isSale]) _).trans (congrArg (wB g) eσ6.symm)) dX9_agreesWithSeen_31 ?_
  refine kw_iconst C (1 : Int32) dX9_agreesWithSeen_32 rfl ?_
  refine kw_istore_n C dX9_agreesWithSeen_33 rfl hN (Nat.le_of_ble_eq_true rfl) [(3, .int (1 : Int32)), (0, .ref (g.1 0)), (1, .int p0), (2, .int p1)] rfl ?_
  refine kw_sub [1, 0] _ rfl ?_
  refine lpx2_walk (P := fun (x7 : Int32) (σ8 : St) => KW X σ8 34 [(0, .ref (g.1 0)), (3, .int x7)] []) ?_ FU _ _ hf
  intro self9 x7 σ8 ih10 hf
  refine kw_iload_n C dX9_agreesWithSeen_34 rfl 1 rfl ?_
  refine kw_bipush C (99 : Int32) dX9_agreesWithSeen_35 rfl ?_
  refine kw_icmp_gt C 78 dX9_agreesWithSeen_37 rfl (fun c11 => ?_) (fun c11 => ?_)
  · have hf := if_p c11 hf
    refine kw_iconst C (1 : Int32) dX9_agreesWithSeen_78 rfl ?_
    exact kw_zret C K (by decide) dX9_agreesWithSeen_79 hf
  · have hf := if_n c11 hf
    refine kw_aload_n C dX9_agreesWithSeen_40 rfl 0 rfl ?_
    refine kw_get C inG9 _ (hO9 g σ8) rfl 14 (Nat.le_of_ble_eq_true rfl) mf_9_83 rfl rfl dX9_agreesWithSeen_41 ?_
    refine kw_aload_n C dX9_agreesWithSeen_44 rfl 0 rfl ?_
    refine kw_get C inG9 _ (hO9 g σ8) rfl 8 (Nat.le_of_ble_eq_true rfl) mf_9_51 rfl rfl dX9_agreesWithSeen_45 ?_
    obtain ⟨r13, σ14, hc12, hf⟩ := bI_elim hf
    refine kw_callVI C [.ref (g.1 6)] (kX0_passYear L D g t0 6 (by simp [isSale]) σ8 _ _ hc12) RX0 mV_X9_266 ⟨rfl, rfl⟩ dd_X0_passYear ⟨Nat.le_of_ble_eq_true rfl, Nat.le_of_ble_eq_true rfl⟩ _ (hO0 g σ8) rfl rfl rfl (Nat.le_of_ble_eq_true rfl) dX9_agreesWithSeen_48 ?_
    refine kw_pop C dX9_agreesWithSeen_51 rfl ?_
    refine kw_aload_n C dX9_agreesWithSeen_52 rfl 0 rfl ?_
    refine kw_get C inG9 _ (hO9 g σ14) rfl 13 (Nat.le_of_ble_eq_true rfl) mf_9_74 rfl rfl dX9_agreesWithSeen_53 ?_
    refine kw_iload_n C dX9_agreesWithSeen_56 rfl 1 rfl ?_
    refine kw_aload_n C dX9_agreesWithSeen_57 rfl 0 rfl ?_
    refine kw_get C inG9 _ (hO9 g σ14) rfl 8 (Nat.le_of_ble_eq_true rfl) mf_9_51 rfl rfl dX9_agreesWithSeen_58 ?_
    refine kw_get C inG4 _ (hO4 g σ14 6 (by simp [isSale])) rfl 9 (Nat.le_of_ble_eq_true rfl) mf_9_213 rfl rfl dX9_agreesWithSeen_61 ?_
    obtain ⟨r16, hc15, hf⟩ := bd_elim hf
    refine kw_callVI C [.int x7, .int (gI σ14 6 9)] (kX5_allows L D g t0 x7 (gI σ14 6 9) σ14 _ hc15) RX5 mV_X9_380 ⟨rfl, rfl⟩ dd_X5_allows ⟨Nat.le_of_ble_eq_true rfl, Nat.le_of_ble_eq_true rfl⟩ _ (hO5 g σ14) rfl rfl rfl (Nat.le_of_ble_eq_true rfl) dX9_agreesWithSeen_64 ?_
    refine kw_if_ne C 72 dX9_agreesWithSeen_67 rfl (fun c17 => ?_) (fun c17 => ?_)
    · have hf := if_n c17 hf
      obtain ⟨x18, ex18, hf⟩ := lt_elim hf
      refine kw_iinc C x18 dX9_agreesWithSeen_72 1 rfl ex18.symm hN (Nat.le_of_ble_eq_true rfl) [(3, .int x18), (0, .ref (g.1 0))] rfl ?_
      refine kw_goto C 34 dX9_agreesWithSeen_75 rfl ?_
      refine kw_sub [1, 0] _ rfl ?_
      exact ih10 _ _ hf
    · have hf := if_p c17 hf
      refine kw_iconst C (0 : Int32) dX9_agreesWithSeen_70 rfl ?_
      exact kw_zret C K (by decide) dX9_agreesWithSeen_71 hf
set_option maxRecDepth 100000 in
set_option maxHeartbeats 4000000 in
theorem kX9_bounds (L : Launch) (D : va_G) (g : GwT) (t0 : Nat) (p0 : Int32) (σ : St) (r0 : Int32) (σ0 : St) (hf : fX9_bounds σ p0 = some (r0, σ0)) : CtI L D (ttG g) (wB g) t0 yX9_bounds cX9_bounds 4 (some .int) { frames := 7, cells := 0, slots := 0, locals := 169 } [.ref (g.1 0), .int p0] σ r0 σ0 := by
  refine CtI.of (own := RX9) (by decide) rfl (Nat.le_of_ble_eq_true rfl) [(0, .ref (g.1 0)), (1, .int p0)] rfl ?_
  intro X C hN K
  unfold fX9_bounds at hf
  refine kw_aload_n C dX9_bounds_0 rfl 0 rfl ?_
  refine kw_iload_n C dX9_bounds_1 rfl 1 rfl ?_
  obtain ⟨r2, hc1, hf⟩ := bd_elim hf
  refine kw_callVI C [.int p0] (kX9_isHouse L D g t0 p0 σ _ hc1) RX9 mV_X9_132 ⟨rfl, rfl⟩ dd_X9_isHouse ⟨Nat.le_of_ble_eq_true rfl, Nat.le_of_ble_eq_true rfl⟩ _ (hO9 g σ) rfl rfl rfl (Nat.le_of_ble_eq_true rfl) dX9_bounds_2 ?_
  refine kw_if_ne C 10 dX9_bounds_5 rfl (fun c3 => ?_) (fun c3 => ?_)
  · have hf := if_n c3 hf
    refine kw_aload_n C dX9_bounds_10 rfl 0 rfl ?_
    refine kw_get C inG9 _ (hO9 g σ) rfl 13 (Nat.le_of_ble_eq_true rfl) mf_9_74 rfl rfl dX9_bounds_11 ?_
    obtain ⟨σ5, hc4, hf⟩ := bV_elim hf
    refine kw_callVV C [] (kX5_findStruck L D g t0 σ _ hc4) RX5 mV_X9_374 ⟨rfl, rfl⟩ dd_X5_findStruck ⟨Nat.le_of_ble_eq_true rfl, Nat.le_of_ble_eq_true rfl⟩ _ (hO5 g σ) rfl rfl rfl (Nat.le_of_ble_eq_true rfl) dX9_bounds_14 ?_
    refine kw_iconst C (0 : Int32) dX9_bounds_17 rfl ?_
    refine kw_istore_n C dX9_bounds_18 rfl hN (Nat.le_of_ble_eq_true rfl) [(2, .int (0 : Int32)), (0, .ref (g.1 0)), (1, .int p0)] rfl ?_
    refine kw_iconst C (0 : Int32) dX9_bounds_19 rfl ?_
    refine kw_istore_n C dX9_bounds_20 rfl hN (Nat.le_of_ble_eq_true rfl) [(3, .int (0 : Int32)), (2, .int (0 : Int32)), (0, .ref (g.1 0)), (1, .int p0)] rfl ?_
    refine kw_sub [2, 3, 1, 0] _ rfl ?_
    refine lpx3_walk (P := fun (x6 : Int32) (x7 : Int32) (σ8 : St) => KW X σ8 21 [(0, .ref (g.1 0)), (1, .int p0), (2, .int x6), (3, .int x7)] []) ?_ FU _ _ _ hf
    intro self9 x6 x7 σ8 ih10 hf
    refine kw_iload_n C dX9_bounds_21 rfl 3 rfl ?_
    refine kw_bipush C (10 : Int32) dX9_bounds_22 rfl ?_
    refine kw_icmp_ge C 51 dX9_bounds_24 rfl (fun c11 => ?_) (fun c11 => ?_)
    · have hf := if_p c11 hf
      refine kw_iload_n C dX9_bounds_51 rfl 2 rfl ?_
      exact kw_iret C K dX9_bounds_52 hf
    · have hf := if_n c11 hf
      refine kw_aload_n C dX9_bounds_27 rfl 0 rfl ?_
      refine kw_iload_n C dX9_bounds_28 rfl 1 rfl ?_
      refine kw_bipush C (20 : Int32) dX9_bounds_29 rfl ?_
      refine kw_iload_n C dX9_bounds_31 rfl 3 rfl ?_
      refine kw_imul C dX9_bounds_32 ?_
      obtain ⟨r13, σ14, hc12, hf⟩ := bI_elim hf
      refine kw_callVI C [.int p0, .int ((20 : Int32) * x7)] (kX9_agreesWithSeen L D g t0 p0 ((20 : Int32) * x7) σ8 _ _ hc12) RX9 mV_X9_377 ⟨rfl, rfl⟩ dd_X9_agreesWithSeen ⟨Nat.le_of_ble_eq_true rfl, Nat.le_of_ble_eq_true rfl⟩ _ (hO9 g σ8) rfl rfl rfl (Nat.le_of_ble_eq_true rfl) dX9_bounds_33 ?_
      obtain ⟨J16, hJ16, hf⟩ := jnx1_elim hf
      have kJ16 : ∀ (x15 : Int32), J16 x15 = some (r0, σ0) → KW X σ14 45 [(0, .ref (g.1 0)), (1, .int p0), (2, .int x15), (3, .int x7)] [] := by
        clear hf
        intro x15 hf
        have hf := (hJ16 x15).symm.trans hf
        obtain ⟨x17, ex17, hf⟩ := lt_elim hf
        refine kw_iinc C x17 dX9_bounds_45 3 rfl ex17.symm hN (Nat.le_of_ble_eq_true rfl) [(3, .int x17), (0, .ref (g.1 0)), (1, .int p0), (2, .int x15)] rfl ?_
        refine kw_goto C 21 dX9_bounds_48 rfl ?_
        refine kw_sub [1, 2, 3, 0] _ rfl ?_
        exact ih10 _ _ _ hf
      refine kw_if_eq C 45 dX9_bounds_36 rfl (fun c18 => ?_) (fun c18 => ?_)
      · have hf := if_p c18 hf
        exact kJ16 _ hf
      · have hf := if_n c18 hf
        refine kw_iload_n C dX9_bounds_39 rfl 2 rfl ?_
        refine kw_iconst C (1 : Int32) dX9_bounds_40 rfl ?_
        refine kw_iload_n C dX9_bounds_41 rfl 3 rfl ?_
        refine kw_ishl C dX9_bounds_42 ?_
        refine kw_ior C dX9_bounds_43 ?_
        obtain ⟨x19, ex19, hf⟩ := lt_elim hf
        refine kw_topi ex19 ?_
        refine kw_istore_n C dX9_bounds_44 rfl hN (Nat.le_of_ble_eq_true rfl) [(2, .int x19), (0, .ref (g.1 0)), (1, .int p0), (3, .int x7)] rfl ?_
        refine kw_sub [1, 2, 0, 3] _ rfl ?_
        exact kJ16 _ hf
  · have hf := if_p c3 hf
    refine kw_iconst C (-1 : Int32) dX9_bounds_8 rfl ?_
    exact kw_iret C K dX9_bounds_9 hf
set_option maxRecDepth 100000 in
set_option maxHeartbeats 4000000 in
theorem kX10_plain (L : Launch) (D : va_G) (g : GwT) (t0 : Nat) (σ : St) (σ0 : St) (hf : fX10_plain σ  = some σ0) : CtV L D (ttG g) (wM g) t0 yX10_plain cX10_plain 2 none { frames := 0, cells := 0, slots := 0, locals := 0 } [.ref (g.1 0)] σ σ0 := by
  refine CtV.of (own := RX10) (by decide) rfl (Nat.le_of_ble_eq_true rfl) [(0, .ref (g.1 0))] rfl ?_
  intro X C hN K
  unfold fX10_plain at hf
  refine kw_aload_n C dX10_plain_0 rfl 0 rfl ?_
  refine kw_iconst C (0 : Int32) dX10_plain_1 rfl ?_
  obtain ⟨σ1, eσ1, hf⟩ := lt_elim hf
  refine kw_put C inG10 tyX10 tyX10_ok nmX10 _ (hO10 g σ) rfl 15 (Nat.le_of_ble_eq_true rfl) mf_10_213 rfl rfl (tyX10_ok 15 (Nat.le_of_ble_eq_true rfl)) rfl rfl (Nat.le_of_ble_eq_true rfl) ((hF10_15 g σ _).trans (congrArg (wM g) eσ1.symm)) dX10_plain_2 ?_
  refine kw_aload_n C dX10_plain_5 rfl 0 rfl ?_
  refine kw_iconst C (0 : Int32) dX10_plain_6 rfl ?_
  obtain ⟨σ2, eσ2, hf⟩ := lt_elim hf
  refine kw_put C inG10 tyX10 tyX10_ok nmX10 _ (hO10 g σ1) rfl 16 (Nat.le_of_ble_eq_true rfl) mf_10_216 rfl rfl (tyX10_ok 16 (Nat.le_of_ble_eq_true rfl)) rfl rfl (Nat.le_of_ble_eq_true rfl) ((hF10_16 g σ1 _).trans (congrArg (wM g) eσ2.symm)) dX10_plain_7 ?_
  refine kw_aload_n C dX10_plain_10 rfl 0 rfl ?_
  refine kw_iconst C (0 : Int32) dX10_plain_11 rfl ?_
  obtain ⟨σ3, eσ3, hf⟩ := lt_elim hf
  refine kw_put C inG10 tyX10 tyX10_ok nmX10 _ (hO10 g σ2) rfl 17 (Nat.le_of_ble_eq_true rfl) mf_10_219 rfl rfl (tyX10_ok 17 (Nat.le_of_ble_eq_true rfl)) rfl rfl (Nat.le_of_ble_eq_true rfl) ((hF10_17 g σ2 _).trans (congrArg (wM g) eσ3.symm)) dX10_plain_12 ?_
  refine kw_aload_n C dX10_plain_15 rfl 0 rfl ?_
  refine kw_iconst C (0 : Int32) dX10_plain_16 rfl ?_
  obtain ⟨σ4, eσ4, hf⟩ := lt_elim hf
  refine kw_put C inG10 tyX10 tyX10_ok nmX10 _ (hO10 g σ3) rfl 40 (Nat.le_of_ble_eq_true rfl) mf_10_222 rfl rfl (tyX10_ok 40 (Nat.le_of_ble_eq_true rfl)) rfl rfl (Nat.le_of_ble_eq_true rfl) ((hF10_40 g σ3 _).trans (congrArg (wM g) eσ4.symm)) dX10_plain_17 ?_
  refine kw_iconst C (0 : Int32) dX10_plain_20 rfl ?_
  refine kw_istore_n C dX10_plain_21 rfl hN (Nat.le_of_ble_eq_true rfl) [(1, .int (0 : Int32)), (0, .ref (g.1 0))] rfl ?_
  refine kw_sub [1, 0] _ rfl ?_
  refine lpx2_walk (P := fun (x5 : Int32) (σ6 : St) => KW X σ6 22 [(0, .ref (g.1 0)), (1, .int x5)] []) ?_ FU _ _ hf
  intro self7 x5 σ6 ih8 hf
  refine kw_iload_n C dX10_plain_22 rfl 1 rfl ?_
  refine kw_iconst C (3 : Int32) dX10_plain_23 rfl ?_
  refine kw_icmp_ge C 49 dX10_plain_24 rfl (fun c9 => ?_) (fun c9 => ?_)
  · have hf := if_p c9 hf
    refine kw_aload_n C dX10_plain_49 rfl 0 rfl ?_
    refine kw_get C inG10 _ (hO10 g σ6) rfl 19 (Nat.le_of_ble_eq_true rfl) mf_10_24 rfl rfl dX10_plain_50 ?_
    refine kw_iconst C (3 : Int32) dX10_plain_53 rfl ?_
    refine kw_iconst C (3 : Int32) dX10_plain_54 rfl ?_
    obtain ⟨σ10, eσ10, hf⟩ := lt_elim hf
    refine kw_iast C _ 0 (hA10_19 g σ6) rfl (by decide) ((hS10_19 g σ6 _).trans (congrArg (wM g) eσ10.symm)) dX10_plain_55 ?_
    refine kw_aload_n C dX10_plain_56 rfl 0 rfl ?_
    refine kw_get C inG10 _ (hO10 g σ10) rfl 19 (Nat.le_of_ble_eq_true rfl) mf_10_24 rfl rfl dX10_plain_57 ?_
    refine kw_iconst C (4 : Int32) dX10_plain_60 rfl ?_
    refine kw_iconst C (0 : Int32) dX10_plain_61 rfl ?_
    obtain ⟨σ11, eσ11, hf⟩ := lt_elim hf
    refine kw_iast C _ 0 (hA10_19 g σ10) rfl (by decide) ((hS10_19 g σ10 _).trans (congrArg (wM g) eσ11.symm)) dX10_plain_62 ?_
    refine kw_aload_n C dX10_plain_63 rfl 0 rfl ?_
    refine kw_get C inG10 _ (hO10 g σ11) rfl 19 (Nat.le_of_ble_eq_true rfl) mf_10_24 rfl rfl dX10_plain_64 ?_
    refine kw_iconst C (5 : Int32) dX10_plain_67 rfl ?_
    refine kw_iconst C (0 : Int32) dX10_plain_68 rfl ?_
    obtain ⟨σ12, eσ12, hf⟩ := lt_elim hf
    refine kw_iast C _ 0 (hA10_19 g σ11) rfl (by decide) ((hS10_19 g σ11 _).trans (congrArg (wM g) eσ12.symm)) dX10_plain_69 ?_
    exact kw_vret (u9 := ()) C K dX10_plain_70 hf
  · have hf := if_n c9 hf
    refine kw_aload_n C dX10_plain_27 rfl 0 rfl ?_
    refine kw_get C inG10 _ (hO10 g σ6) rfl 18 (Nat.le_of_ble_eq_true rfl) mf_10_20 rfl rfl dX10_plain_28 ?_
    refine kw_iload_n C dX10_plain_31 rfl 1 rfl ?_
    refine kw_iconst C (0 : Int32) dX10_plain_32 rfl ?_
    obtain ⟨h13, hf⟩ := gd_elim hf
    obtain ⟨σ14, eσ14, hf⟩ := lt_elim hf
    refine kw_zast C _ 3 (hA10_18 g σ6) rfl h13 ((hS10_18 g σ6 _).trans (congrArg (wM g) eσ14.symm)) dX10_plain_33 ?_
    refine kw_aload_n C dX10_plain_34 rfl 0 rfl ?_
    refine kw_get C inG10 _ (hO10 g σ14) rfl 29 (Nat.le_of_ble_eq_true rfl) mf_10_54 rfl rfl dX10_plain_35 ?_
    refine kw_iconst C (3 : Int32) dX10_plain_38 rfl ?_
    refine kw_iload_n C dX10_plain_39 rfl 1 rfl ?_
    refine kw_iadd C dX10_plain_40 ?_
    refine kw_iconst C (0 : Int32) dX10_plain_41 rfl ?_
    obtain ⟨h15, hf⟩ := gd_elim hf
    obtain ⟨σ16, eσ16, hf⟩ := lt_elim hf
    refine kw_zast C _ 3 (hA10_29 g σ14) rfl h15 ((hS10_29 g σ14 _).trans (congrArg (wM g) eσ16.symm)) dX10_plain_42 ?_
    obtain ⟨x17, ex17, hf⟩ := lt_elim hf
    refine kw_iinc C x17 dX10_plain_43 1 rfl ex17.symm hN (Nat.le_of_ble_eq_true rfl) [(1, .int x17), (0, .ref (g.1 0))] rfl ?_
    refine kw_goto C 22 dX10_plain_46 rfl ?_
    refine kw_sub [1, 0] _ rfl ?_
    exact ih8 _ _ hf
set_option maxRecDepth 100000 in
set_option maxHeartbeats 4000000 in
theorem kX10_copies_a10_19 (L : Launch) (D : va_G) (g : GwT) (t0 : Nat) (p1 : Int32) (σ : St) (σ0 : St) (hf : fX10_copies_a10_19 σ p1 = some σ0) : CtV L D (ttG g) (wM g) t0 yX10_copies cX10_copies 3 none { frames := 0, cells := 0, slots := 0, locals := 0 } [.ref (g.2.1 0 19), .int p1] σ σ0 := by
  refine CtV.of (own := RX10) (by decide) rfl (Nat.le_of_ble_eq_true rfl) [(0, .ref (g.2.1 0 19)), (1, .int p1)] rfl ?_
  intro X C hN K
  unfold fX10_copies_a10_19 at hf
  refine kw_iconst C (0 : Int32) dX10_copies_0 rfl ?_
  refine kw_istore_n C dX10_copies_1 rfl hN (Nat.le_of_ble_eq_true rfl) [(2, .int (0 : Int32)), (0, .ref (g.2.1 0 19)), (1, .int p1)] rfl ?_
  refine kw_sub [1, 2, 0] _ rfl ?_
  refine lpx2_walk (P := fun (x1 : Int32) (σ2 : St) => KW X σ2 2 [(0, .ref (g.2.1 0 19)), (1, .int p1), (2, .int x1)] []) ?_ FU _ _ hf
  intro self3 x1 σ2 ih4 hf
  refine kw_iload_n C dX10_copies_2 rfl 2 rfl ?_
  refine kw_iload_n C dX10_copies_3 rfl 1 rfl ?_
  refine kw_icmp_ge C 21 dX10_copies_4 rfl (fun c5 => ?_) (fun c5 => ?_)
  · have hf := if_p c5 hf
    exact kw_vret (u9 := ()) C K dX10_copies_21 hf
  · have hf := if_n c5 hf
    refine kw_aload_n C dX10_copies_7 rfl 0 rfl ?_
    refine kw_iload_n C dX10_copies_8 rfl 2 rfl ?_
    refine kw_aload_n C dX10_copies_9 rfl 0 rfl ?_
    refine kw_iload_n C dX10_copies_10 rfl 1 rfl ?_
    refine kw_iload_n C dX10_copies_11 rfl 2 rfl ?_
    refine kw_iadd C dX10_copies_12 ?_
    obtain ⟨h6, hf⟩ := gd_elim hf
    refine kw_iald C _ 0 (hA10_19 g σ2) rfl h6 dX10_copies_13 ?_
    obtain ⟨h7, hf⟩ := gd_elim hf
    obtain ⟨σ8, eσ8, hf⟩ := lt_elim hf
    refine kw_iast C _ 0 (hA10_19 g σ2) rfl h7 ((hS10_19 g σ2 _).trans (congrArg (wM g) eσ8.symm)) dX10_copies_14 ?_
    obtain ⟨x9, ex9, hf⟩ := lt_elim hf
    refine kw_iinc C x9 dX10_copies_15 2 rfl ex9.symm hN (Nat.le_of_ble_eq_true rfl) [(2, .int x9), (0, .ref (g.2.1 0 19)), (1, .int p1)] rfl ?_
    refine kw_goto C 2 dX10_copies_18 rfl ?_
    refine kw_sub [1, 2, 0] _ rfl ?_
    exact ih4 _ _ hf
set_option maxRecDepth 100000 in
set_option maxHeartbeats 4000000 in
theorem kX10_copies_a10_20 (L : Launch) (D : va_G) (g : GwT) (t0 : Nat) (p1 : Int32) (σ : St) (σ0 : St) (hf : fX10_copies_a10_20 σ p1 = some σ0) : CtV L D (ttG g) (wM g) t0 yX10_copies cX10_copies 3 none { frames := 0, cells := 0, slots := 0, locals := 0 } [.ref (g.2.1 0 20), .int p1] σ σ0 := by
  refine CtV.of (own := RX10) (by decide) rfl (Nat.le_of_ble_eq_true rfl) [(0, .ref (g.2.1 0 20)), (1, .int p1)] rfl ?_
  intro X C hN K
  unfold fX10_copies_a10_20 at hf
  refine kw_iconst C (0 : Int32) dX10_copies_0 rfl ?_
  refine kw_istore_n C dX10_copies_1 rfl hN (Nat.le_of_ble_eq_true rfl) [(2, .int (0 : Int32)), (0, .ref (g.2.1 0 20)), (1, .int p1)] rfl ?_
  refine kw_sub [1, 2, 0] _ rfl ?_
  refine lpx2_walk (P := fun (x1 : Int32) (σ2 : St) => KW X σ2 2 [(0, .ref (g.2.1 0 20)), (1, .int p1), (2, .int x1)] []) ?_ FU _ _ hf
  intro self3 x1 σ2 ih4 hf
  refine kw_iload_n C dX10_copies_2 rfl 2 rfl ?_
  refine kw_iload_n C dX10_copies_3 rfl 1 rfl ?_
  refine kw_icmp_ge C 21 dX10_copies_4 rfl (fun c5 => ?_) (fun c5 => ?_)
  · have hf := if_p c5 hf
    exact kw_vret (u9 := ()) C K dX10_copies_21 hf
  · have hf := if_n c5 hf
    refine kw_aload_n C dX10_copies_7 rfl 0 rfl ?_
    refine kw_iload_n C dX10_copies_8 rfl 2 rfl ?_
    refine kw_aload_n C dX10_copies_9 rfl 0 rfl ?_
    refine kw_iload_n C dX10_copies_10 rfl 1 rfl ?_
    refine kw_iload_n C dX10_copies_11 rfl 2 rfl ?_
    refine kw_iadd C dX10_copies_12 ?_
    obtain ⟨h6, hf⟩ := gd_elim hf
    refine kw_iald C _ 0 (hA10_20 g σ2) rfl h6 dX10_copies_13 ?_
    obtain ⟨h7, hf⟩ := gd_elim hf
    obtain ⟨σ8, eσ8, hf⟩ := lt_elim hf
    refine kw_iast C _ 0 (hA10_20 g σ2) rfl h7 ((hS10_20 g σ2 _).trans (congrArg (wM g) eσ8.symm)) dX10_copies_14 ?_
    obtain ⟨x9, ex9, hf⟩ := lt_elim hf
    refine kw_iinc C x9 dX10_copies_15 2 rfl ex9.symm hN (Nat.le_of_ble_eq_true rfl) [(2, .int x9), (0, .ref (g.2.1 0 20)), (1, .int p1)] rfl ?_
    refine kw_goto C 2 dX10_copies_18 rfl ?_
    refine kw_sub [1, 2, 0] _ rfl ?_
    exact ih4 _ _ hf
set_option maxRecDepth 100000 in
set_option maxHeartbeats 4000000 in
theorem kX10_copies_a10_21 (L : Launch) (D : va_G) (g : GwT) (t0 : Nat) (p1 : Int32) (σ : St) (σ0 : St) (hf : fX10_copies_a10_21 σ p1 = some σ0) : CtV L D (ttG g) (wM g) t0 yX10_copies cX10_copies 3 none { frames := 0, cells := 0, slots := 0, locals := 0 } [.ref (g.2.1 0 21), .int p1] σ σ0 := by
  refine CtV.of (own := RX10) (by decide) rfl (Nat.le_of_ble_eq_true rfl) [(0, .ref (g.2.1 0 21)), (1, .int p1)] rfl ?_
  intro X C hN K
  unfold fX10_copies_a10_21 at hf
  refine kw_iconst C (0 : Int32) dX10_copies_0 rfl ?_
  refine kw_istore_n C dX10_copies_1 rfl hN (Nat.le_of_ble_eq_true rfl) [(2, .int (0 : Int32)), (0, .ref (g.2.1 0 21)), (1, .int p1)] rfl ?_
  refine kw_sub [1, 2, 0] _ rfl ?_
  refine lpx2_walk (P := fun (x1 : Int32) (σ2 : St) => KW X σ2 2 [(0, .ref (g.2.1 0 21)), (1, .int p1), (2, .int x1)] []) ?_ FU _ _ hf
  intro self3 x1 σ2 ih4 hf
  refine kw_iload_n C dX10_copies_2 rfl 2 rfl ?_
  refine kw_iload_n C dX10_copies_3 rfl 1 rfl ?_
  refine kw_icmp_ge C 21 dX10_copies_4 rfl (fun c5 => ?_) (fun c5 => ?_)
  · have hf := if_p c5 hf
    exact kw_vret (u9 := ()) C K dX10_copies_21 hf
  · have hf := if_n c5 hf
    refine kw_aload_n C dX10_copies_7 rfl 0 rfl ?_
    refine kw_iload_n C dX10_copies_8 rfl 2 rfl ?_
    refine kw_aload_n C dX10_copies_9 rfl 0 rfl ?_
    refine kw_iload_n C dX10_copies_10 rfl 1 rfl ?_
    refine kw_iload_n C dX10_copies_11 rfl 2 rfl ?_
    refine kw_iadd C dX10_copies_12 ?_
    obtain ⟨h6, hf⟩ := gd_elim hf
    refine kw_iald C _ 0 (hA10_21 g σ2) rfl h6 dX10_copies_13 ?_
    obtain ⟨h7, hf⟩ := gd_elim hf
    obtain ⟨σ8, eσ8, hf⟩ := lt_elim hf
    refine kw_iast C _ 0 (hA10_21 g σ2) rfl h7 ((hS10_21 g σ2 _).trans (congrArg (wM g) eσ8.symm)) dX10_copies_14 ?_
    obtain ⟨x9, ex9, hf⟩ := lt_elim hf
    refine kw_iinc C x9 dX10_copies_15 2 rfl ex9.symm hN (Nat.le_of_ble_eq_true rfl) [(2, .int x9), (0, .ref (g.2.1 0 21)), (1, .int p1)] rfl ?_
    refine kw_goto C 2 dX10_copies_18 rfl ?_
    refine kw_sub [1, 2, 0] _ rfl ?_
    exact ih4 _ _ hf
set_option maxRecDepth 100000 in
set_option maxHeartbeats 4000000 in
theorem kX10_copies_a10_22 (L : Launch) (D : va_G) (g : GwT) (t0 : Nat) (p1 : Int32) (σ : St) (σ0 : St) (hf : fX10_copies_a10_22 σ p1 = some σ0) : CtV L D (ttG g) (wM g) t0 yX10_copies cX10_copies 3 none { frames := 0, cells := 0, slots := 0, locals := 0 } [.ref (g.2.1 0 22), .int p1] σ σ0 := by
  refine CtV.of (own := RX10) (by decide) rfl (Nat.le_of_ble_eq_true rfl) [(0, .ref (g.2.1 0 22)), (1, .int p1)] rfl ?_
  intro X C hN K
  unfold fX10_copies_a10_22 at hf
  refine kw_iconst C (0 : Int32) dX10_copies_0 rfl ?_
  refine kw_istore_n C dX10_copies_1 rfl hN (Nat.le_of_ble_eq_true rfl) [(2, .int (0 : Int32)), (0, .ref (g.2.1 0 22)), (1, .int p1)] rfl ?_
  refine kw_sub [1, 2, 0] _ rfl ?_
  refine lpx2_walk (P := fun (x1 : Int32) (σ2 : St) => KW X σ2 2 [(0, .ref (g.2.1 0 22)), (1, .int p1), (2, .int x1)] []) ?_ FU _ _ hf
  intro self3 x1 σ2 ih4 hf
  refine kw_iload_n C dX10_copies_2 rfl 2 rfl ?_
  refine kw_iload_n C dX10_copies_3 rfl 1 rfl ?_
  refine kw_icmp_ge C 21 dX10_copies_4 rfl (fun c5 => ?_) (fun c5 => ?_)
  · have hf := if_p c5 hf
    exact kw_vret (u9 := ()) C K dX10_copies_21 hf
  · have hf := if_n c5 hf
    refine kw_aload_n C dX10_copies_7 rfl 0 rfl ?_
    refine kw_iload_n C dX10_copies_8 rfl 2 rfl ?_
    refine kw_aload_n C dX10_copies_9 rfl 0 rfl ?_
    refine kw_iload_n C dX10_copies_10 rfl 1 rfl ?_
    refine kw_iload_n C dX10_copies_11 rfl 2 rfl ?_
    refine kw_iadd C dX10_copies_12 ?_
    obtain ⟨h6, hf⟩ := gd_elim hf
    refine kw_iald C _ 0 (hA10_22 g σ2) rfl h6 dX10_copies_13 ?_
    obtain ⟨h7, hf⟩ := gd_elim hf
    obtain ⟨σ8, eσ8, hf⟩ := lt_elim hf
    refine kw_iast C _ 0 (hA10_22 g σ2) rfl h7 ((hS10_22 g σ2 _).trans (congrArg (wM g) eσ8.symm)) dX10_copies_14 ?_
    obtain ⟨x9, ex9, hf⟩ := lt_elim hf
    refine kw_iinc C x9 dX10_copies_15 2 rfl ex9.symm hN (Nat.le_of_ble_eq_true rfl) [(2, .int x9), (0, .ref (g.2.1 0 22)), (1, .int p1)] rfl ?_
    refine kw_goto C 2 dX10_copies_18 rfl ?_
    refine kw_sub [1, 2, 0] _ rfl ?_
    exact ih4 _ _ hf
set_option maxRecDepth 100000 in
set_option maxHeartbeats 4000000 in
theorem kX10_copies_a10_23 (L : Launch) (D : va_G) (g : GwT) (t0 : Nat) (p1 : Int32) (σ : St) (σ0 : St) (hf : fX10_copies_a10_23 σ p1 = some σ0) : CtV L D (ttG g) (wM g) t0 yX10_copies cX10_copies 3 none { frames := 0, cells := 0, slots := 0, locals := 0 } [.ref (g.2.1 0 23), .int p1] σ σ0 := by
  refine CtV.of (own := RX10) (by decide) rfl (Nat.le_of_ble_eq_true rfl) [(0, .ref (g.2.1 0 23)), (1, .int p1)] rfl ?_
  intro X C hN K
  unfold fX10_copies_a10_23 at hf
  refine kw_iconst C (0 : Int32) dX10_copies_0 rfl ?_
  refine kw_istore_n C dX10_copies_1 rfl hN (Nat.le_of_ble_eq_true rfl) [(2, .int (0 : Int32)), (0, .ref (g.2.1 0 23)), (1, .int p1)] rfl ?_
  refine kw_sub [1, 2, 0] _ rfl ?_
  refine lpx2_walk (P := fun (x1 : Int32) (σ2 : St) => KW X σ2 2 [(0, .ref (g.2.1 0 23)), (1, .int p1), (2, .int x1)] []) ?_ FU _ _ hf
  intro self3 x1 σ2 ih4 hf
  refine kw_iload_n C dX10_copies_2 rfl 2 rfl ?_
  refine kw_iload_n C dX10_copies_3 rfl 1 rfl ?_
  refine kw_icmp_ge C 21 dX10_copies_4 rfl (fun c5 => ?_) (fun c5 => ?_)
  · have hf := if_p c5 hf
    exact kw_vret (u9 := ()) C K dX10_copies_21 hf
  · have hf := if_n c5 hf
    refine kw_aload_n C dX10_copies_7 rfl 0 rfl ?_
    refine kw_iload_n C dX10_copies_8 rfl 2 rfl ?_
    refine kw_aload_n C dX10_copies_9 rfl 0 rfl ?_
    refine kw_iload_n C dX10_copies_10 rfl 1 rfl ?_
    refine kw_iload_n C dX10_copies_11 rfl 2 rfl ?_
    refine kw_iadd C dX10_copies_12 ?_
    obtain ⟨h6, hf⟩ := gd_elim hf
    refine kw_iald C _ 0 (hA10_23 g σ2) rfl h6 dX10_copies_13 ?_
    obtain ⟨h7, hf⟩ := gd_elim hf
    obtain ⟨σ8, eσ8, hf⟩ := lt_elim hf
    refine kw_iast C _ 0 (hA10_23 g σ2) rfl h7 ((hS10_23 g σ2 _).trans (congrArg (wM g) eσ8.symm)) dX10_copies_14 ?_
    obtain ⟨x9, ex9, hf⟩ := lt_elim hf
    refine kw_iinc C x9 dX10_copies_15 2 rfl ex9.symm hN (Nat.le_of_ble_eq_true rfl) [(2, .int x9), (0, .ref (g.2.1 0 23)), (1, .int p1)] rfl ?_
    refine kw_goto C 2 dX10_copies_18 rfl ?_
    refine kw_sub [1, 2, 0] _ rfl ?_
    exact ih4 _ _ hf
set_option maxRecDepth 100000 in
set_option maxHeartbeats 4000000 in
theorem kX10_copies_a10_24 (L : Launch) (D : va_G) (g : GwT) (t0 : Nat) (p1 : Int32) (σ : St) (σ0 : St) (hf : fX10_copies_a10_24 σ p1 = some σ0) : CtV L D (ttG g) (wM g) t0 yX10_copies cX10_copies 3 none { frames := 0, cells := 0, slots := 0, locals := 0 } [.ref (g.2.1 0 24), .int p1] σ σ0 := by
  refine CtV.of (own := RX10) (by decide) rfl (Nat.le_of_ble_eq_true rfl) [(0, .ref (g.2.1 0 24)), (1, .int p1)] rfl ?_
  intro X C hN K
  unfold fX10_copies_a10_24 at hf
  refine kw_iconst C (0 : Int32) dX10_copies_0 rfl ?_
  refine kw_istore_n C dX10_copies_1 rfl hN (Nat.le_of_ble_eq_true rfl) [(2, .int (0 : Int32)), (0, .ref (g.2.1 0 24)), (1, .int p1)] rfl ?_
  refine kw_sub [1, 2, 0] _ rfl ?_
  refine lpx2_walk (P := fun (x1 : Int32) (σ2 : St) => KW X σ2 2 [(0, .ref (g.2.1 0 24)), (1, .int p1), (2, .int x1)] []) ?_ FU _ _ hf
  intro self3 x1 σ2 ih4 hf
  refine kw_iload_n C dX10_copies_2 rfl 2 rfl ?_
  refine kw_iload_n C dX10_copies_3 rfl 1 rfl ?_
  refine kw_icmp_ge C 21 dX10_copies_4 rfl (fun c5 => ?_) (fun c5 => ?_)
  · have hf := if_p c5 hf
    exact kw_vret (u9 := ()) C K dX10_copies_21 hf
  · have hf := if_n c5 hf
    refine kw_aload_n C dX10_copies_7 rfl 0 rfl ?_
    refine kw_iload_n C dX10_copies_8 rfl 2 rfl ?_
    refine kw_aload_n C dX10_copies_9 rfl 0 rfl ?_
    refine kw_iload_n C dX10_copies_10 rfl 1 rfl ?_
    refine kw_iload_n C dX10_copies_11 rfl 2 rfl ?_
    refine kw_iadd C dX10_copies_12 ?_
    obtain ⟨h6, hf⟩ := gd_elim hf
    refine kw_iald C _ 0 (hA10_24 g σ2) rfl h6 dX10_copies_13 ?_
    obtain ⟨h7, hf⟩ := gd_elim hf
    obtain ⟨σ8, eσ8, hf⟩ := lt_elim hf
    refine kw_iast C _ 0 (hA10_24 g σ2) rfl h7 ((hS10_24 g σ2 _).trans (congrArg (wM g) eσ8.symm)) dX10_copies_14 ?_
    obtain ⟨x9, ex9, hf⟩ := lt_elim hf
    refine kw_iinc C x9 dX10_copies_15 2 rfl ex9.symm hN (Nat.le_of_ble_eq_true rfl) [(2, .int x9), (0, .ref (g.2.1 0 24)), (1, .int p1)] rfl ?_
    refine kw_goto C 2 dX10_copies_18 rfl ?_
    refine kw_sub [1, 2, 0] _ rfl ?_
    exact ih4 _ _ hf
set_option maxRecDepth 100000 in
set_option maxHeartbeats 4000000 in
theorem kX10_copies_a10_25 (L : Launch) (D : va_G) (g : GwT) (t0 : Nat) (p1 : Int32) (σ : St) (σ0 : St) (hf : fX10_copies_a10_25 σ p1 = some σ0) : CtV L D (ttG g) (wM g) t0 yX10_copies cX10_copies 3 none { frames := 0, cells := 0, slots := 0, locals := 0 } [.ref (g.2.1 0 25), .int p1] σ σ0 := by
  refine CtV.of (own := RX10) (by decide) rfl (Nat.le_of_ble_eq_true rfl) [(0, .ref (g.2.1 0 25)), (1, .int p1)] rfl ?_
  intro X C hN K
  unfold fX10_copies_a10_25 at hf
  refine kw_iconst C (0 : Int32) dX10_copies_0 rfl ?_
  refine kw_istore_n C dX10_copies_1 rfl hN (Nat.le_of_ble_eq_true rfl) [(2, .int (0 : Int32)), (0, .ref (g.2.1 0 25)), (1, .int p1)] rfl ?_
  refine kw_sub [1, 2, 0] _ rfl ?_
  refine lpx2_walk (P := fun (x1 : Int32) (σ2 : St) => KW X σ2 2 [(0, .ref (g.2.1 0 25)), (1, .int p1), (2, .int x1)] []) ?_ FU _ _ hf
  intro self3 x1 σ2 ih4 hf
  refine kw_iload_n C dX10_copies_2 rfl 2 rfl ?_
  refine kw_iload_n C dX10_copies_3 rfl 1 rfl ?_
  refine kw_icmp_ge C 21 dX10_copies_4 rfl (fun c5 => ?_) (fun c5 => ?_)
  · have hf := if_p c5 hf
    exact kw_vret (u9 := ()) C K dX10_copies_21 hf
  · have hf := if_n c5 hf
    refine kw_aload_n C dX10_copies_7 rfl 0 rfl ?_
    refine kw_iload_n C dX10_copies_8 rfl 2 rfl ?_
    refine kw_aload_n C dX10_copies_9 rfl 0 rfl ?_
    refine kw_iload_n C dX10_copies_10 rfl 1 rfl ?_
    refine kw_iload_n C dX10_copies_11 rfl 2 rfl ?_
    refine kw_iadd C dX10_copies_12 ?_
    obtain ⟨h6, hf⟩ := gd_elim hf
    refine kw_iald C _ 0 (hA10_25 g σ2) rfl h6 dX10_copies_13 ?_
    obtain ⟨h7, hf⟩ := gd_elim hf
    obtain ⟨σ8, eσ8, hf⟩ := lt_elim hf
    refine kw_iast C _ 0 (hA10_25 g σ2) rfl h7 ((hS10_25 g σ2 _).trans (congrArg (wM g) eσ8.symm)) dX10_copies_14 ?_
    obtain ⟨x9, ex9, hf⟩ := lt_elim hf
    refine kw_iinc C x9 dX10_copies_15 2 rfl ex9.symm hN (Nat.le_of_ble_eq_true rfl) [(2, .int x9), (0, .ref (g.2.1 0 25)), (1, .int p1)] rfl ?_
    refine kw_goto C 2 dX10_copies_18 rfl ?_
    refine kw_sub [1, 2, 0] _ rfl ?_
    exact ih4 _ _ hf
set_option maxRecDepth 100000 in
set_option maxHeartbeats 4000000 in
theorem kX10_copies_a10_26 (L : Launch) (D : va_G) (g : GwT) (t0 : Nat) (p1 : Int32) (σ : St) (σ0 : St) (hf : fX10_copies_a10_26 σ p1 = some σ0) : CtV L D (ttG g) (wM g) t0 yX10_copies cX10_copies 3 none { frames := 0, cells := 0, slots := 0, locals := 0 } [.ref (g.2.1 0 26), .int p1] σ σ0 := by
  refine CtV.of (own := RX10) (by decide) rfl (Nat.le_of_ble_eq_true rfl) [(0, .ref (g.2.1 0 26)), (1, .int p1)] rfl ?_
  intro X C hN K
  unfold fX10_copies_a10_26 at hf
  refine kw_iconst C (0 : Int32) dX10_copies_0 rfl ?_
  refine kw_istore_n C dX10_copies_1 rfl hN (Nat.le_of_ble_eq_true rfl) [(2, .int (0 : Int32)), (0, .ref (g.2.1 0 26)), (1, .int p1)] rfl ?_
  refine kw_sub [1, 2, 0] _ rfl ?_
  refine lpx2_walk (P := fun (x1 : Int32) (σ2 : St) => KW X σ2 2 [(0, .ref (g.2.1 0 26)), (1, .int p1), (2, .int x1)] []) ?_ FU _ _ hf
  intro self3 x1 σ2 ih4 hf
  refine kw_iload_n C dX10_copies_2 rfl 2 rfl ?_
  refine kw_iload_n C dX10_copies_3 rfl 1 rfl ?_
  refine kw_icmp_ge C 21 dX10_copies_4 rfl (fun c5 => ?_) (fun c5 => ?_)
  · have hf := if_p c5 hf
    exact kw_vret (u9 := ()) C K dX10_copies_21 hf
  · have hf := if_n c5 hf
    refine kw_aload_n C dX10_copies_7 rfl 0 rfl ?_
    refine kw_iload_n C dX10_copies_8 rfl 2 rfl ?_
    refine kw_aload_n C dX10_copies_9 rfl 0 rfl ?_
    refine kw_iload_n C dX10_copies_10 rfl 1 rfl ?_
    refine kw_iload_n C dX10_copies_11 rfl 2 rfl ?_
    refine kw_iadd C dX10_copies_12 ?_
    obtain ⟨h6, hf⟩ := gd_elim hf
    refine kw_iald C _ 0 (hA10_26 g σ2) rfl h6 dX10_copies_13 ?_
    obtain ⟨h7, hf⟩ := gd_elim hf
    obtain ⟨σ8, eσ8, hf⟩ := lt_elim hf
    refine kw_iast C _ 0 (hA10_26 g σ2) rfl h7 ((hS10_26 g σ2 _).trans (congrArg (wM g) eσ8.symm)) dX10_copies_14 ?_
    obtain ⟨x9, ex9, hf⟩ := lt_elim hf
    refine kw_iinc C x9 dX10_copies_15 2 rfl ex9.symm hN (Nat.le_of_ble_eq_true rfl) [(2, .int x9), (0, .ref (g.2.1 0 26)), (1, .int p1)] rfl ?_
    refine kw_goto C 2 dX10_copies_18 rfl ?_
    refine kw_sub [1, 2, 0] _ rfl ?_
    exact ih4 _ _ hf
set_option maxRecDepth 100000 in
set_option maxHeartbeats 4000000 in
theorem kX10_copies_a10_27 (L : Launch) (D : va_G) (g : GwT) (t0 : Nat) (p1 : Int32) (σ : St) (σ0 : St) (hf : fX10_copies_a10_27 σ p1 = some σ0) : CtV L D (ttG g) (wM g) t0 yX10_copies cX10_copies 3 none { frames := 0, cells := 0, slots := 0, locals := 0 } [.ref (g.2.1 0 27), .int p1] σ σ0 := by
  refine CtV.of (own := RX10) (by decide) rfl (Nat.le_of_ble_eq_true rfl) [(0, .ref (g.2.1 0 27)), (1, .int p1)] rfl ?_
  intro X C hN K
  unfold fX10_copies_a10_27 at hf
  refine kw_iconst C (0 : Int32) dX10_copies_0 rfl ?_
  refine kw_istore_n C dX10_copies_1 rfl hN (Nat.le_of_ble_eq_true rfl) [(2, .int (0 : Int32)), (0, .ref (g.2.1 0 27)), (1, .int p1)] rfl ?_
  refine kw_sub [1, 2, 0] _ rfl ?_
  refine lpx2_walk (P := fun (x1 : Int32) (σ2 : St) => KW X σ2 2 [(0, .ref (g.2.1 0 27)), (1, .int p1), (2, .int x1)] []) ?_ FU _ _ hf
  intro self3 x1 σ2 ih4 hf
  refine kw_iload_n C dX10_copies_2 rfl 2 rfl ?_
  refine kw_iload_n C dX10_copies_3 rfl 1 rfl ?_
  refine kw_icmp_ge C 21 dX10_copies_4 rfl (fun c5 => ?_) (fun c5 => ?_)
  · have hf := if_p c5 hf
    exact kw_vret (u9 := ()) C K dX10_copies_21 hf
  · have hf := if_n c5 hf
    refine kw_aload_n C dX10_copies_7 rfl 0 rfl ?_
    refine kw_iload_n C dX10_copies_8 rfl 2 rfl ?_
    refine kw_aload_n C dX10_copies_9 rfl 0 rfl ?_
    refine kw_iload_n C dX10_copies_10 rfl 1 rfl ?_
    refine kw_iload_n C dX10_copies_11 rfl 2 rfl ?_
    refine kw_iadd C dX10_copies_12 ?_
    obtain ⟨h6, hf⟩ := gd_elim hf
    refine kw_iald C _ 0 (hA10_27 g σ2) rfl h6 dX10_copies_13 ?_
    obtain ⟨h7, hf⟩ := gd_elim hf
    obtain ⟨σ8, eσ8, hf⟩ := lt_elim hf
    refine kw_iast C _ 0 (hA10_27 g σ2) rfl h7 ((hS10_27 g σ2 _).trans (congrArg (wM g) eσ8.symm)) dX10_copies_14 ?_
    obtain ⟨x9, ex9, hf⟩ := lt_elim hf
    refine kw_iinc C x9 dX10_copies_15 2 rfl ex9.symm hN (Nat.le_of_ble_eq_true rfl) [(2, .int x9), (0, .ref (g.2.1 0 27)), (1, .int p1)] rfl ?_
    refine kw_goto C 2 dX10_copies_18 rfl ?_
    refine kw_sub [1, 2, 0] _ rfl ?_
    exact ih4 _ _ hf
set_option maxRecDepth 100000 in
set_option maxHeartbeats 4000000 in
theorem kX10_copies_a10_28 (L : Launch) (D : va_G) (g : GwT) (t0 : Nat) (p1 : Int32) (σ : St) (σ0 : St) (hf : fX10_copies_a10_28 σ p1 = some σ0) : CtV L D (ttG g) (wM g) t0 yX10_copies cX10_copies 3 none { frames := 0, cells := 0, slots := 0, locals := 0 } [.ref (g.2.1 0 28), .int p1] σ σ0 := by
  refine CtV.of (own := RX10) (by decide) rfl (Nat.le_of_ble_eq_true rfl) [(0, .ref (g.2.1 0 28)), (1, .int p1)] rfl ?_
  intro X C hN K
  unfold fX10_copies_a10_28 at hf
  refine kw_iconst C (0 : Int32) dX10_copies_0 rfl ?_
  refine kw_istore_n C dX10_copies_1 rfl hN (Nat.le_of_ble_eq_true rfl) [(2, .int (0 : Int32)), (0, .ref (g.2.1 0 28)), (1, .int p1)] rfl ?_
  refine kw_sub [1, 2, 0] _ rfl ?_
  refine lpx2_walk (P := fun (x1 : Int32) (σ2 : St) => KW X σ2 2 [(0, .ref (g.2.1 0 28)), (1, .int p1), (2, .int x1)] []) ?_ FU _ _ hf
  intro self3 x1 σ2 ih4 hf
  refine kw_iload_n C dX10_copies_2 rfl 2 rfl ?_
  refine kw_iload_n C dX10_copies_3 rfl 1 rfl ?_
  refine kw_icmp_ge C 21 dX10_copies_4 rfl (fun c5 => ?_) (fun c5 => ?_)
  · have hf := if_p c5 hf
    exact kw_vret (u9 := ()) C K dX10_copies_21 hf
  · have hf := if_n c5 hf
    refine kw_aload_n C dX10_copies_7 rfl 0 rfl ?_
    refine kw_iload_n C dX10_copies_8 rfl 2 rfl ?_
    refine kw_aload_n C dX10_copies_9 rfl 0 rfl ?_
    refine kw_iload_n C dX10_copies_10 rfl 1 rfl ?_
    refine kw_iload_n C dX10_copies_11 rfl 2 rfl ?_
    refine kw_iadd C dX10_copies_12 ?_
    obtain ⟨h6, hf⟩ := gd_elim hf
    refine kw_iald C _ 0 (hA10_28 g σ2) rfl h6 dX10_copies_13 ?_
    obtain ⟨h7, hf⟩ := gd_elim hf
    obtain ⟨σ8, eσ8, hf⟩ := lt_elim hf
    refine kw_iast C _ 0 (hA10_28 g σ2) rfl h7 ((hS10_28 g σ2 _).trans (congrArg (wM g) eσ8.symm)) dX10_copies_14 ?_
    obtain ⟨x9, ex9, hf⟩ := lt_elim hf
    refine kw_iinc C x9 dX10_copies_15 2 rfl ex9.symm hN (Nat.le_of_ble_eq_true rfl) [(2, .int x9), (0, .ref (g.2.1 0 28)), (1, .int p1)] rfl ?_
    refine kw_goto C 2 dX10_copies_18 rfl ?_
    refine kw_sub [1, 2, 0] _ rfl ?_
    exact ih4 _ _ hf
set_option maxRecDepth 100000 in
set_option maxHeartbeats 4000000 in
theorem kX10_copies_a10_30 (L : Launch) (D : va_G) (g : GwT) (t0 : Nat) (p1 : Int32) (σ : St) (σ0 : St) (hf : fX10_copies_a10_30 σ p1 = some σ0) : CtV L D (ttG g) (wM g) t0 yX10_copies cX10_copies 3 none { frames := 0, cells := 0, slots := 0, locals := 0 } [.ref (g.2.1 0 30), .int p1] σ σ0 := by
  refine CtV.of (own := RX10) (by decide) rfl (Nat.le_of_ble_eq_true rfl) [(0, .ref (g.2.1 0 30)), (1, .int p1)] rfl ?_
  intro X C hN K
  unfold fX10_copies_a10_30 at hf
  refine kw_iconst C (0 : Int32) dX10_copies_0 rfl ?_
  refine kw_istore_n C dX10_copies_1 rfl hN (Nat.le_of_ble_eq_true rfl) [(2, .int (0 : Int32)), (0, .ref (g.2.1 0 30)), (1, .int p1)] rfl ?_
  refine kw_sub [1, 2, 0] _ rfl ?_
  refine lpx2_walk (P := fun (x1 : Int32) (σ2 : St) => KW X σ2 2 [(0, .ref (g.2.1 0 30)), (1, .int p1), (2, .int x1)] []) ?_ FU _ _ hf
  intro self3 x1 σ2 ih4 hf
  refine kw_iload_n C dX10_copies_2 rfl 2 rfl ?_
  refine kw_iload_n C dX10_copies_3 rfl 1 rfl ?_
  refine kw_icmp_ge C 21 dX10_copies_4 rfl (fun c5 => ?_) (fun c5 => ?_)
  · have hf := if_p c5 hf
    exact kw_vret (u9 := ()) C K dX10_copies_21 hf
  · have hf := if_n c5 hf
    refine kw_aload_n C dX10_copies_7 rfl 0 rfl ?_
    refine kw_iload_n C dX10_copies_8 rfl 2 rfl ?_
    refine kw_aload_n C dX10_copies_9 rfl 0 rfl ?_
    refine kw_iload_n C dX10_copies_10 rfl 1 rfl ?_
    refine kw_iload_n C dX10_copies_11 rfl 2 rfl ?_
    refine kw_iadd C dX10_copies_12 ?_
    obtain ⟨h6, hf⟩ := gd_elim hf
    refine kw_iald C _ 0 (hA10_30 g σ2) rfl h6 dX10_copies_13 ?_
    obtain ⟨h7, hf⟩ := gd_elim hf
    obtain ⟨σ8, eσ8, hf⟩ := lt_elim hf
    refine kw_iast C _ 0 (hA10_30 g σ2) rfl h7 ((hS10_30 g σ2 _).trans (congrArg (wM g) eσ8.symm)) dX10_copies_14 ?_
    obtain ⟨x9, ex9, hf⟩ := lt_elim hf
    refine kw_iinc C x9 dX10_copies_15 2 rfl ex9.symm hN (Nat.le_of_ble_eq_true rfl) [(2, .int x9), (0, .ref (g.2.1 0 30)), (1, .int p1)] rfl ?_
    refine kw_goto C 2 dX10_copies_18 rfl ?_
    refine kw_sub [1, 2, 0] _ rfl ?_
    exact ih4 _ _ hf
set_option maxRecDepth 100000 in
set_option maxHeartbeats 4000000 in
theorem kX10_copies_a10_31 (L : Launch) (D : va_G) (g : GwT) (t0 : Nat) (p1 : Int32) (σ : St) (σ0 : St) (hf : fX10_copies_a10_31 σ p1 = some σ0) : CtV L D (ttG g) (wM g) t0 yX10_copies cX10_copies 3 none { frames := 0, cells := 0, slots := 0, locals := 0 } [.ref (g.2.1 0 31), .int p1] σ σ0 := by
  refine CtV.of (own := RX10) (by decide) rfl (Nat.le_of_ble_eq_true rfl) [(0, .ref (g.2.1 0 31)), (1, .int p1)] rfl ?_
  intro X C hN K
  unfold fX10_copies_a10_31 at hf
  refine kw_iconst C (0 : Int32) dX10_copies_0 rfl ?_
  refine kw_istore_n C dX10_copies_1 rfl hN (Nat.le_of_ble_eq_true rfl) [(2, .int (0 : Int32)), (0, .ref (g.2.1 0 31)), (1, .int p1)] rfl ?_
  refine kw_sub [1, 2, 0] _ rfl ?_
  refine lpx2_walk (P := fun (x1 : Int32) (σ2 : St) => KW X σ2 2 [(0, .ref (g.2.1 0 31)), (1, .int p1), (2, .int x1)] []) ?_ FU _ _ hf
  intro self3 x1 σ2 ih4 hf
  refine kw_iload_n C dX10_copies_2 rfl 2 rfl ?_
  refine kw_iload_n C dX10_copies_3 rfl 1 rfl ?_
  refine kw_icmp_ge C 21 dX10_copies_4 rfl (fun c5 => ?_) (fun c5 => ?_)
  · have hf := if_p c5 hf
    exact kw_vret (u9 := ()) C K dX10_copies_21 hf
  · have hf := if_n c5 hf
    refine kw_aload_n C dX10_copies_7 rfl 0 rfl ?_
    refine kw_iload_n C dX10_copies_8 rfl 2 rfl ?_
    refine kw_aload_n C dX10_copies_9 rfl 0 rfl ?_
    refine kw_iload_n C dX10_copies_10 rfl 1 rfl ?_
    refine kw_iload_n C dX10_copies_11 rfl 2 rfl ?_
    refine kw_iadd C dX10_copies_12 ?_
    obtain ⟨h6, hf⟩ := gd_elim hf
    refine kw_iald C _ 0 (hA10_31 g σ2) rfl h6 dX10_copies_13 ?_
    obtain ⟨h7, hf⟩ := gd_elim hf
    obtain ⟨σ8, eσ8, hf⟩ := lt_elim hf
    refine kw_iast C _ 0 (hA10_31 g σ2) rfl h7 ((hS10_31 g σ2 _).trans (congrArg (wM g) eσ8.symm)) dX10_copies_14 ?_
    obtain ⟨x9, ex9, hf⟩ := lt_elim hf
    refine kw_iinc C x9 dX10_copies_15 2 rfl ex9.symm hN (Nat.le_of_ble_eq_true rfl) [(2, .int x9), (0, .ref (g.2.1 0 31)), (1, .int p1)] rfl ?_
    refine kw_goto C 2 dX10_copies_18 rfl ?_
    refine kw_sub [1, 2, 0] _ rfl ?_
    exact ih4 _ _ hf
set_option maxRecDepth 100000 in
set_option maxHeartbeats 4000000 in
theorem kX10_copies_a10_32 (L : Launch) (D : va_G) (g : GwT) (t0 : Nat) (p1 : Int32) (σ : St) (σ0 : St) (hf : fX10_copies_a10_32 σ p1 = some σ0) : CtV L D (ttG g) (wM g) t0 yX10_copies cX10_copies 3 none { frames := 0, cells := 0, slots := 0, locals := 0 } [.ref (g.2.1 0 32), .int p1] σ σ0 := by
  refine CtV.of (own := RX10) (by decide) rfl (Nat.le_of_ble_eq_true rfl) [(0, .ref (g.2.1 0 32)), (1, .int p1)] rfl ?_
  intro X C hN K
  unfold fX10_copies_a10_32 at hf
  refine kw_iconst C (0 : Int32) dX10_copies_0 rfl ?_
  refine kw_istore_n C dX10_copies_1 rfl hN (Nat.le_of_ble_eq_true rfl) [(2, .int (0 : Int32)), (0, .ref (g.2.1 0 32)), (1, .int p1)] rfl ?_
  refine kw_sub [1, 2, 0] _ rfl ?_
  refine lpx2_walk (P := fun (x1 : Int32) (σ2 : St) => KW X σ2 2 [(0, .ref (g.2.1 0 32)), (1, .int p1), (2, .int x1)] []) ?_ FU _ _ hf
  intro self3 x1 σ2 ih4 hf
  refine kw_iload_n C dX10_copies_2 rfl 2 rfl ?_
  refine kw_iload_n C dX10_copies_3 rfl 1 rfl ?_
  refine kw_icmp_ge C 21 dX10_copies_4 rfl (fun c5 => ?_) (fun c5 => ?_)
  · have hf := if_p c5 hf
    exact kw_vret (u9 := ()) C K dX10_copies_21 hf
  · have hf := if_n c5 hf
    refine kw_aload_n C dX10_copies_7 rfl 0 rfl ?_
    refine kw_iload_n C dX10_copies_8 rfl 2 rfl ?_
    refine kw_aload_n C dX10_copies_9 rfl 0 rfl ?_
    refine kw_iload_n C dX10_copies_10 rfl 1 rfl ?_
    refine kw_iload_n C dX10_copies_11 rfl 2 rfl ?_
    refine kw_iadd C dX10_copies_12 ?_
    obtain ⟨h6, hf⟩ := gd_elim hf
    refine kw_iald C _ 0 (hA10_32 g σ2) rfl h6 dX10_copies_13 ?_
    obtain ⟨h7, hf⟩ := gd_elim hf
    obtain ⟨σ8, eσ8, hf⟩ := lt_elim hf
    refine kw_iast C _ 0 (hA10_32 g σ2) rfl h7 ((hS10_32 g σ2 _).trans (congrArg (wM g) eσ8.symm)) dX10_copies_14 ?_
    obtain ⟨x9, ex9, hf⟩ := lt_elim hf
    refine kw_iinc C x9 dX10_copies_15 2 rfl ex9.symm hN (Nat.le_of_ble_eq_true rfl) [(2, .int x9), (0, .ref (g.2.1 0 32)), (1, .int p1)] rfl ?_
    refine kw_goto C 2 dX10_copies_18 rfl ?_
    refine kw_sub [1, 2, 0] _ rfl ?_
    exact ih4 _ _ hf
set_option maxRecDepth 100000 in
set_option maxHeartbeats 4000000 in
theorem kX10_copies_a10_33 (L : Launch) (D : va_G) (g : GwT) (t0 : Nat) (p1 : Int32) (σ : St) (σ0 : St) (hf : fX10_copies_a10_33 σ p1 = some σ0) : CtV L D (ttG g) (wM g) t0 yX10_copies cX10_copies 3 none { frames := 0, cells := 0, slots := 0, locals := 0 } [.ref (g.2.1 0 33), .int p1] σ σ0 := by
  refine CtV.of (own := RX10) (by decide) rfl (Nat.le_of_ble_eq_true rfl) [(0, .ref (g.2.1 0 33)), (1, .int p1)] rfl ?_
  intro X C hN K
  unfold fX10_copies_a10_33 at hf
  refine kw_iconst C (0 : Int32) dX10_copies_0 rfl ?_
  refine kw_istore_n C dX10_copies_1 rfl hN (Nat.le_of_ble_eq_true rfl) [(2, .int (0 : Int32)), (0, .ref (g.2.1 0 33)), (1, .int p1)] rfl ?_
  refine kw_sub [1, 2, 0] _ rfl ?_
  refine lpx2_walk (P := fun (x1 : Int32) (σ2 : St) => KW X σ2 2 [(0, .ref (g.2.1 0 33)), (1, .int p1), (2, .int x1)] []) ?_ FU _ _ hf
  intro self3 x1 σ2 ih4 hf
  refine kw_iload_n C dX10_copies_2 rfl 2 rfl ?_
  refine kw_iload_n C dX10_copies_3 rfl 1 rfl ?_
  refine kw_icmp_ge C 21 dX10_copies_4 rfl (fun c5 => ?_) (fun c5 => ?_)
  · have hf := if_p c5 hf
    exact kw_vret (u9 := ()) C K dX10_copies_21 hf
  · have hf := if_n c5 hf
    refine kw_aload_n C dX10_copies_7 rfl 0 rfl ?_
    refine kw_iload_n C dX10_copies_8 rfl 2 rfl ?_
    refine kw_aload_n C dX10_copies_9 rfl 0 rfl ?_
    refine kw_iload_n C dX10_copies_10 rfl 1 rfl ?_
    refine kw_iload_n C dX10_copies_11 rfl 2 rfl ?_
    refine kw_iadd C dX10_copies_12 ?_
    obtain ⟨h6, hf⟩ := gd_elim hf
    refine kw_iald C _ 0 (hA10_33 g σ2) rfl h6 dX10_copies_13 ?_
    obtain ⟨h7, hf⟩ := gd_elim hf
    obtain ⟨σ8, eσ8, hf⟩ := lt_elim hf
    refine kw_iast C _ 0 (hA10_33 g σ2) rfl h7 ((hS10_33 g σ2 _).trans (congrArg (wM g) eσ8.symm)) dX10_copies_14 ?_
    obtain ⟨x9, ex9, hf⟩ := lt_elim hf
    refine kw_iinc C x9 dX10_copies_15 2 rfl ex9.symm hN (Nat.le_of_ble_eq_true rfl) [(2, .int x9), (0, .ref (g.2.1 0 33)), (1, .int p1)] rfl ?_
    refine kw_goto C 2 dX10_copies_18 rfl ?_
    refine kw_sub [1, 2, 0] _ rfl ?_
    exact ih4 _ _ hf
set_option maxRecDepth 100000 in
set_option maxHeartbeats 4000000 in
theorem kX10_copies_a10_34 (L : Launch) (D : va_G) (g : GwT) (t0 : Nat) (p1 : Int32) (σ : St) (σ0 : St) (hf : fX10_copies_a10_34 σ p1 = some σ0) : CtV L D (ttG g) (wM g) t0 yX10_copies cX10_copies 3 none { frames := 0, cells := 0, slots := 0, locals := 0 } [.ref (g.2.1 0 34), .int p1] σ σ0 := by
  refine CtV.of (own := RX10) (by decide) rfl (Nat.le_of_ble_eq_true rfl) [(0, .ref (g.2.1 0 34)), (1, .int p1)] rfl ?_
  intro X C hN K
  unfold fX10_copies_a10_34 at hf
  refine kw_iconst C (0 : Int32) dX10_copies_0 rfl ?_
  refine kw_istore_n C dX10_copies_1 rfl hN (Nat.le_of_ble_eq_true rfl) [(2, .int (0 : Int32)), (0, .ref (g.2.1 0 34)), (1, .int p1)] rfl ?_
  refine kw_sub [1, 2, 0] _ rfl ?_
  refine lpx2_walk (P := fun (x1 : Int32) (σ2 : St) => KW X σ2 2 [(0, .ref (g.2.1 0 34)), (1, .int p1), (2, .int x1)] []) ?_ FU _ _ hf
  intro self3 x1 σ2 ih4 hf
  refine kw_iload_n C dX10_copies_2 rfl 2 rfl ?_
  refine kw_iload_n C dX10_copies_3 rfl 1 rfl ?_
  refine kw_icmp_ge C 21 dX10_copies_4 rfl (fun c5 => ?_) (fun c5 => ?_)
  · have hf := if_p c5 hf
    exact kw_vret (u9 := ()) C K dX10_copies_21 hf
  · have hf := if_n c5 hf
    refine kw_aload_n C dX10_copies_7 rfl 0 rfl ?_
    refine kw_iload_n C dX10_copies_8 rfl 2 rfl ?_
    refine kw_aload_n C dX10_copies_9 rfl 0 rfl ?_
    refine kw_iload_n C dX10_copies_10 rfl 1 rfl ?_
    refine kw_iload_n C dX10_copies_11 rfl 2 rfl ?_
    refine kw_iadd C dX10_copies_12 ?_
    obtain ⟨h6, hf⟩ := gd_elim hf
    refine kw_iald C _ 0 (hA10_34 g σ2) rfl h6 dX10_copies_13 ?_
    obtain ⟨h7, hf⟩ := gd_elim hf
    obtain ⟨σ8, eσ8, hf⟩ := lt_elim hf
    refine kw_iast C _ 0 (hA10_34 g σ2) rfl h7 ((hS10_34 g σ2 _).trans (congrArg (wM g) eσ8.symm)) dX10_copies_14 ?_
    obtain ⟨x9, ex9, hf⟩ := lt_elim hf
    refine kw_iinc C x9 dX10_copies_15 2 rfl ex9.symm hN (Nat.le_of_ble_eq_true rfl) [(2, .int x9), (0, .ref (g.2.1 0 34)), (1, .int p1)] rfl ?_
    refine kw_goto C 2 dX10_copies_18 rfl ?_
    refine kw_sub [1, 2, 0] _ rfl ?_
    exact ih4 _ _ hf
set_option maxRecDepth 100000 in
set_option maxHeartbeats 4000000 in
theorem kX10_atFirst (L : Launch) (D : va_G) (g : GwT) (t0 : Nat) (p0 : Int32) (σ : St) (σ0 : St) (hf : fX10_atFirst σ p0 = some σ0) : CtV L D (ttG g) (wM g) t0 yX10_atFirst cX10_atFirst 3 none { frames := 0, cells := 0, slots := 0, locals := 0 } [.ref (g.1 0), .int p0] σ σ0 := by
  refine CtV.of (own := RX10) (by decide) rfl (Nat.le_of_ble_eq_true rfl) [(0, .ref (g.1 0)), (1, .int p0)] rfl ?_
  intro X C hN K
  unfold fX10_atFirst at hf
  refine kw_iconst C (0 : Int32) dX10_atFirst_0 rfl ?_
  refine kw_istore_n C dX10_atFirst_1 rfl hN (Nat.le_of_ble_eq_true rfl) [(2, .int (0 : Int32)), (0, .ref (g.1 0)), (1, .int p0)] rfl ?_
  refine kw_sub [1, 2, 0] _ rfl ?_
  refine lpx2_walk (P := fun (x1 : Int32) (σ2 : St) => KW X σ2 2 [(0, .ref (g.1 0)), (1, .int p0), (2, .int x1)] []) ?_ FU _ _ hf
  intro self3 x1 σ2 ih4 hf
  refine kw_iload_n C dX10_atFirst_2 rfl 2 rfl ?_
  refine kw_bipush C (6 : Int32) dX10_atFirst_3 rfl ?_
  refine kw_icmp_ge C 130 dX10_atFirst_5 rfl (fun c5 => ?_) (fun c5 => ?_)
  · have hf := if_p c5 hf
    refine kw_aload_n C dX10_atFirst_130 rfl 0 rfl ?_
    refine kw_get C inG10 _ (hO10 g σ2) rfl 54 (Nat.le_of_ble_eq_true rfl) mf_10_109 rfl rfl dX10_atFirst_131 ?_
    refine kw_iload_n C dX10_atFirst_134 rfl 1 rfl ?_
    refine kw_aload_n C dX10_atFirst_135 rfl 0 rfl ?_
    refine kw_get C inG10 _ (hO10 g σ2) rfl 19 (Nat.le_of_ble_eq_true rfl) mf_10_24 rfl rfl dX10_atFirst_136 ?_
    refine kw_iconst C (1 : Int32) dX10_atFirst_139 rfl ?_
    refine kw_iald C _ 0 (hA10_19 g σ2) rfl (by decide) dX10_atFirst_140 ?_
    obtain ⟨h6, hf⟩ := gd_elim hf
    obtain ⟨σ7, eσ7, hf⟩ := lt_elim hf
    refine kw_iast C _ 0 (hA10_54 g σ2) rfl h6 ((hS10_54 g σ2 _).trans (congrArg (wM g) eσ7.symm)) dX10_atFirst_141 ?_
    refine kw_aload_n C dX10_atFirst_142 rfl 0 rfl ?_
    refine kw_get C inG10 _ (hO10 g σ7) rfl 55 (Nat.le_of_ble_eq_true rfl) mf_10_112 rfl rfl dX10_atFirst_143 ?_
    refine kw_iload_n C dX10_atFirst_146 rfl 1 rfl ?_
    refine kw_iconst C (-1 : Int32) dX10_atFirst_147 rfl ?_
    obtain ⟨h8, hf⟩ := gd_elim hf
    obtain ⟨σ9, eσ9, hf⟩ := lt_elim hf
    refine kw_iast C _ 0 (hA10_55 g σ7) rfl h8 ((hS10_55 g σ7 _).trans (congrArg (wM g) eσ9.symm)) dX10_atFirst_148 ?_
    refine kw_aload_n C dX10_atFirst_149 rfl 0 rfl ?_
    refine kw_get C inG10 _ (hO10 g σ9) rfl 56 (Nat.le_of_ble_eq_true rfl) mf_10_115 rfl rfl dX10_atFirst_150 ?_
    refine kw_iload_n C dX10_atFirst_153 rfl 1 rfl ?_
    refine kw_iconst C (0 : Int32) dX10_atFirst_154 rfl ?_
    obtain ⟨h10, hf⟩ := gd_elim hf
    obtain ⟨σ11, eσ11, hf⟩ := lt_elim hf
    refine kw_iast C _ 0 (hA10_56 g σ9) rfl h10 ((hS10_56 g σ9 _).trans (congrArg (wM g) eσ11.symm)) dX10_atFirst_155 ?_
    refine kw_aload_n C dX10_atFirst_156 rfl 0 rfl ?_
    refine kw_get C inG10 _ (hO10 g σ11) rfl 57 (Nat.le_of_ble_eq_true rfl) mf_10_118 rfl rfl dX10_atFirst_157 ?_
    refine kw_iload_n C dX10_atFirst_160 rfl 1 rfl ?_
    refine kw_iconst C (0 : Int32) dX10_atFirst_161 rfl ?_
    obtain ⟨h12, hf⟩ := gd_elim hf
    obtain ⟨σ13, eσ13, hf⟩ := lt_elim hf
    refine kw_zast C _ 3 (hA10_57 g σ11) rfl h12 ((hS10_57 g σ11 _).trans (congrArg (wM g) eσ13.symm)) dX10_atFirst_162 ?_
    refine kw_aload_n C dX10_atFirst_163 rfl 0 rfl ?_
    refine kw_get C inG10 _ (hO10 g σ13) rfl 58 (Nat.le_of_ble_eq_true rfl) mf_10_121 rfl rfl dX10_atFirst_164 ?_
    refine kw_iload_n C dX10_atFirst_167 rfl 1 rfl ?_
    refine kw_iconst C (0 : Int32) dX10_atFirst_168 rfl ?_
    obtain ⟨h14, hf⟩ := gd_elim hf
    obtain ⟨σ15, eσ15, hf⟩ := lt_elim hf
    refine kw_iast C _ 0 (hA10_58 g σ13) rfl h14 ((hS10_58 g σ13 _).trans (congrArg (wM g) eσ15.symm)) dX10_atFirst_169 ?_
    refine kw_aload_n C dX10_atFirst_170 rfl 0 rfl ?_
    refine kw_get C inG10 _ (hO10 g σ15) rfl 59 (Nat.le_of_ble_eq_true rfl) mf_10_124 rfl rfl dX10_atFirst_171 ?_
    refine kw_iload_n C dX10_atFirst_174 rfl 1 rfl ?_
    refine kw_iconst C (0 : Int32) dX10_atFirst_175 rfl ?_
    obtain ⟨h16, hf⟩ := gd_elim hf
    obtain ⟨σ17, eσ17, hf⟩ := lt_elim hf
    refine kw_iast C _ 0 (hA10_59 g σ15) rfl h16 ((hS10_59 g σ15 _).trans (congrArg (wM g) eσ17.symm)) dX10_atFirst_176 ?_
    exact kw_vret (u9 := ()) C K dX10_atFirst_177 hf
  · have hf := if_n c5 hf
    refine kw_aload_n C dX10_atFirst_8 rfl 0 rfl ?_
    refine kw_get C inG10 _ (hO10 g σ2) rfl 46 (Nat.le_of_ble_eq_true rfl) mf_10_85 rfl rfl dX10_atFirst_9 ?_
    refine kw_bipush C (6 : Int32) dX10_atFirst_12 rfl ?_
    refine kw_iload_n C dX10_atFirst_14 rfl 1 rfl ?_
    refine kw_imul C dX10_atFirst_15 ?_
    refine kw_iload_n C dX10_atFirst_16 rfl 2 rfl ?_
    refine kw_iadd C dX10_atFirst_17 ?_
    refine kw_aload_n C dX10_atFirst_18 rfl 0 rfl ?_
    refine kw_get C inG10 _ (hO10 g σ2) rfl 21 (Nat.le_of_ble_eq_true rfl) mf_10_30 rfl rfl dX10_atFirst_19 ?_
    refine kw_iload_n C dX10_atFirst_22 rfl 2 rfl ?_
    obtain ⟨h18, hf⟩ := gd_elim hf
    refine kw_iald C _ 0 (hA10_21 g σ2) rfl h18 dX10_atFirst_23 ?_
    obtain ⟨h19, hf⟩ := gd_elim hf
    obtain ⟨σ20, eσ20, hf⟩ := lt_elim hf
    refine kw_iast C _ 0 (hA10_46 g σ2) rfl h19 ((hS10_46 g σ2 _).trans (congrArg (wM g) eσ20.symm)) dX10_atFirst_24 ?_
    refine kw_aload_n C dX10_atFirst_25 rfl 0 rfl ?_
    refine kw_get C inG10 _ (hO10 g σ20) rfl 47 (Nat.le_of_ble_eq_true rfl) mf_10_88 rfl rfl dX10_atFirst_26 ?_
    refine kw_bipush C (6 : Int32) dX10_atFirst_29 rfl ?_
    refine kw_iload_n C dX10_atFirst_31 rfl 1 rfl ?_
    refine kw_imul C dX10_atFirst_32 ?_
    refine kw_iload_n C dX10_atFirst_33 rfl 2 rfl ?_
    refine kw_iadd C dX10_atFirst_34 ?_
    refine kw_aload_n C dX10_atFirst_35 rfl 0 rfl ?_
    refine kw_get C inG10 _ (hO10 g σ20) rfl 24 (Nat.le_of_ble_eq_true rfl) mf_10_39 rfl rfl dX10_atFirst_36 ?_
    refine kw_iload_n C dX10_atFirst_39 rfl 2 rfl ?_
    obtain ⟨h21, hf⟩ := gd_elim hf
    refine kw_iald C _ 0 (hA10_24 g σ20) rfl h21 dX10_atFirst_40 ?_
    obtain ⟨h22, hf⟩ := gd_elim hf
    obtain ⟨σ23, eσ23, hf⟩ := lt_elim hf
    refine kw_iast C _ 0 (hA10_47 g σ20) rfl h22 ((hS10_47 g σ20 _).trans (congrArg (wM g) eσ23.symm)) dX10_atFirst_41 ?_
    refine kw_aload_n C dX10_atFirst_42 rfl 0 rfl ?_
    refine kw_get C inG10 _ (hO10 g σ23) rfl 48 (Nat.le_of_ble_eq_true rfl) mf_10_91 rfl rfl dX10_atFirst_43 ?_
    refine kw_bipush C (6 : Int32) dX10_atFirst_46 rfl ?_
    refine kw_iload_n C dX10_atFirst_48 rfl 1 rfl ?_
    refine kw_imul C dX10_atFirst_49 ?_
    refine kw_iload_n C dX10_atFirst_50 rfl 2 rfl ?_
    refine kw_iadd C dX10_atFirst_51 ?_
    refine kw_aload_n C dX10_atFirst_52 rfl 0 rfl ?_
    refine kw_get C inG10 _ (hO10 g σ23) rfl 25 (Nat.le_of_ble_eq_true rfl) mf_10_42 rfl rfl dX10_atFirst_53 ?_
    refine kw_iload_n C dX10_atFirst_56 rfl 2 rfl ?_
    obtain ⟨h24, hf⟩ := gd_elim hf
    refine kw_iald C _ 0 (hA10_25 g σ23) rfl h24 dX10_atFirst_57 ?_
    obtain ⟨h25, hf⟩ := gd_elim hf
    obtain ⟨σ26, eσ26, hf⟩ := lt_elim hf
    refine kw_iast C _ 0 (hA10_48 g σ23) rfl h25 ((hS10_48 g σ23 _).trans (congrArg (wM g) eσ26.symm)) dX10_atFirst_58 ?_
    refine kw_aload_n C dX10_atFirst_59 rfl 0 rfl ?_
    refine kw_get C inG10 _ (hO10 g σ26) rfl 49 (Nat.le_of_ble_eq_true rfl) mf_10_94 rfl rfl dX10_atFirst_60 ?_
    refine kw_bipush C (6 : Int32) dX10_atFirst_63 rfl ?_
    refine kw_iload_n C dX10_atFirst_65 rfl 1 rfl ?_
    refine kw_imul C dX10_atFirst_66 ?_
    refine kw_iload_n C dX10_atFirst_67 rfl 2 rfl ?_
    refine kw_iadd C dX10_atFirst_68 ?_
    refine kw_iconst C (1 : Int32) dX10_atFirst_69 rfl ?_
    obtain ⟨h27, hf⟩ := gd_elim hf
    obtain ⟨σ28, eσ28, hf⟩ := lt_elim hf
    refine kw_zast C _ 3 (hA10_49 g σ26) rfl h27 ((hS10_49 g σ26 _).trans (congrArg (wM g) eσ28.symm)) dX10_atFirst_70 ?_
    refine kw_aload_n C dX10_atFirst_71 rfl 0 rfl ?_
    refine kw_get C inG10 _ (hO10 g σ28) rfl 50 (Nat.le_of_ble_eq_true rfl) mf_10_97 rfl rfl dX10_atFirst_72 ?_
    refine kw_bipush C (6 : Int32) dX10_atFirst_75 rfl ?_
    refine kw_iload_n C dX10_atFirst_77 rfl 1 rfl ?_
    refine kw_imul C dX10_atFirst_78 ?_
    refine kw_iload_n C dX10_atFirst_79 rfl 2 rfl ?_
    refine kw_iadd C dX10_atFirst_80 ?_
    refine kw_iconst C (0 : Int32) dX10_atFirst_81 rfl ?_
    obtain ⟨h29, hf⟩ := gd_elim hf
    obtain ⟨σ30, eσ30, hf⟩ := lt_elim hf
    refine kw_iast C _ 0 (hA10_50 g σ28) rfl h29 ((hS10_50 g σ28 _).trans (congrArg (wM g) eσ30.symm)) dX10_atFirst_82 ?_
    refine kw_aload_n C dX10_atFirst_83 rfl 0 rfl ?_
    refine kw_get C inG10 _ (hO10 g σ30) rfl 51 (Nat.le_of_ble_eq_true rfl) mf_10_100 rfl rfl dX10_atFirst_84 ?_
    refine kw_bipush C (6 : Int32) dX10_atFirst_87 rfl ?_
    refine kw_iload_n C dX10_atFirst_89 rfl 1 rfl ?_
    refine kw_imul C dX10_atFirst_90 ?_
    refine kw_iload_n C dX10_atFirst_91 rfl 2 rfl ?_
    refine kw_iadd C dX10_atFirst_92 ?_
    refine kw_iconst C (-1 : Int32) dX10_atFirst_93 rfl ?_
    obtain ⟨h31, hf⟩ := gd_elim hf
    obtain ⟨σ32, eσ32, hf⟩ := lt_elim hf
    refine kw_iast C _ 0 (hA10_51 g σ30) rfl h31 ((hS10_51 g σ30 _).trans (congrArg (wM g) eσ32.symm)) dX10_atFirst_94 ?_
    refine kw_aload_n C dX10_atFirst_95 rfl 0 rfl ?_
    refine kw_get C inG10 _ (hO10 g σ32) rfl 52 (Nat.le_of_ble_eq_true rfl) mf_10_103 rfl rfl dX10_atFirst_96 ?_
    refine kw_bipush C (6 : Int32) dX10_atFirst_99 rfl ?_
    refine kw_iload_n C dX10_atFirst_101 rfl 1 rfl ?_
    refine kw_imul C dX10_atFirst_102 ?_
    refine kw_iload_n C dX10_atFirst_103 rfl 2 rfl ?_
    refine kw_iadd C dX10_atFirst_104 ?_
    refine kw_aload_n C dX10_atFirst_105 rfl 0 rfl ?_
    refine kw_get C inG10 _ (hO10 g σ32) rfl 28 (Nat.le_of_ble_eq_true rfl) mf_10_51 rfl rfl dX10_atFirst_106 ?_
    refine kw_iload_n C dX10_atFirst_109 rfl 2 rfl ?_
    obtain ⟨h33, hf⟩ := gd_elim hf
    refine kw_iald C _ 0 (hA10_28 g σ32) rfl h33 dX10_atFirst_110 ?_
    obtain ⟨h34, hf⟩ := gd_elim hf
    obtain ⟨σ35, eσ35, hf⟩ := lt_elim hf
    refine kw_iast C _ 0 (hA10_52 g σ32) rfl h34 ((hS10_52 g σ32 _).trans (congrArg (wM g) eσ35.symm)) dX10_atFirst_111 ?_
    refine kw_aload_n C dX10_atFirst_112 rfl 0 rfl ?_
    refine kw_get C inG10 _ (hO10 g σ35) rfl 53 (Nat.le_of_ble_eq_true rfl) mf_10_106 rfl rfl dX10_atFirst_113 ?_
    refine kw_bipush C (6 : Int32) dX10_atFirst_116 rfl ?_
    refine kw_iload_n C dX10_atFirst_118 rfl 1 rfl ?_
    refine kw_imul C dX10_atFirst_119 ?_
    refine kw_iload_n C dX10_atFirst_120 rfl 2 rfl ?_
    refine kw_iadd C dX10_atFirst_121 ?_
    refine kw_iconst C (1 : Int32) dX10_atFirst_122 rfl ?_
    obtain ⟨h36, hf⟩ := gd_elim hf
    obtain ⟨σ37, eσ37, hf⟩ := lt_elim hf
    refine kw_zast C _ 3 (hA10_53 g σ35) rfl h36 ((hS10_53 g σ35 _).trans (congrArg (wM g) eσ37.symm)) dX10_atFirst_123 ?_
    obtain ⟨x38, ex38, hf⟩ := lt_elim hf
    refine kw_iinc C x38 dX10_atFirst_124 2 rfl ex38.symm hN (Nat.le_of_ble_eq_true rfl) [(2, .int x38), (0, .ref (g.1 0)), (1, .int p0)] rfl ?_
    refine kw_goto C 2 dX10_atFirst_127 rfl ?_
    refine kw_sub [1, 2, 0] _ rfl ?_
    exact ih4 _ _ hf
