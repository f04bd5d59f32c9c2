set_option maxRecDepth 100000 in
set_option maxHeartbeats 4000000 in
theorem kX9_chance (L : Launch) (D : va_G) (g : GwT) (t0 : Nat) (p0 : Int32) (p1 : Int32) (p2 : Int32) (σ : St) (r0 : Int32) (σ0 : St) (hf : fX9_chance σ p0 p1 p2 = some (r0, σ0)) : CtI L D (ttG g) (wB g) t0 yX9_chance cX9_chance 7 (some .int) { frames := 7, cells := 0, slots := 0, locals := 169 } [.ref (g.1 0), .int p0, .int p1, .int p2] σ r0 σ0 := by
  refine CtI.of (own := RX9) (by decide) rfl (Nat.le_of_ble_eq_true rfl) [(0, .ref (g.1 0)), (1, .int p0), (2, .int p1), (3, .int p2)] rfl ?_
  intro X C hN K
  unfold fX9_chance at hf
  refine kw_iload_n C dX9_chance_0 rfl 1 rfl ?_
  obtain ⟨J1, hJ1, hf⟩ := jnx1_elim hf
  have kJ1 : ∀ (u9 : Unit), J1 u9 = some (r0, σ0) → KW X σ 22 [] [] := by
    clear hf
    intro u9 hf
    have hf := (hJ1 u9).symm.trans hf
    refine kw_iconst C (-1 : Int32) dX9_chance_22 rfl ?_
    exact kw_iret C K dX9_chance_23 hf
  refine kw_if_lt C 22 dX9_chance_1 rfl (fun c2 => ?_) (fun c2 => ?_)
  · have hf := if_p c2 hf
    refine kw_sub [] _ rfl ?_
    exact kJ1 _ hf
  · have hf := if_n c2 hf
    refine kw_iload_n C dX9_chance_4 rfl 2 rfl ?_
    refine kw_iconst C (1 : Int32) dX9_chance_5 rfl ?_
    refine kw_bipush C (99 : Int32) dX9_chance_6 rfl ?_
    obtain ⟨r4, hc3, hf⟩ := bd_elim hf
    refine kw_callSI C [.int p1, .int (1 : Int32), .int (99 : Int32)] (kX9_isWithin L D g t0 p1 (1 : Int32) (99 : Int32) σ _ hc3) mS_X9_188 ⟨rfl, rfl⟩ dd_X9_isWithin ⟨Nat.le_of_ble_eq_true rfl, Nat.le_of_ble_eq_true rfl⟩ rfl (Nat.le_of_ble_eq_true rfl) dX9_chance_8 ?_
    refine kw_if_eq C 22 dX9_chance_11 rfl (fun c5 => ?_) (fun c5 => ?_)
    · have hf := if_p c5 hf
      refine kw_sub [] _ rfl ?_
      exact kJ1 _ hf
    · have hf := if_n c5 hf
      refine kw_aload_n C dX9_chance_14 rfl 0 rfl ?_
      refine kw_iload_n C dX9_chance_15 rfl 3 rfl ?_
      obtain ⟨r7, hc6, hf⟩ := bd_elim hf
      refine kw_callVI C [.int p2] (kX9_isHouse L D g t0 p2 σ _ hc6) RX9 mV_X9_132 ⟨rfl, rfl⟩ dd_X9_isHouse ⟨Nat.le_of_ble_eq_true rfl, Nat.le_of_ble_eq_true rfl⟩ _ (hO9 g σ) rfl rfl rfl (Nat.le_of_ble_eq_true rfl) dX9_chance_16 ?_
      refine kw_if_ne C 24 dX9_chance_19 rfl (fun c8 => ?_) (fun c8 => ?_)
      · have hf := if_n c8 hf
        refine kw_aload_n C dX9_chance_24 rfl 0 rfl ?_
        refine kw_get C inG9 _ (hO9 g σ) rfl 14 (Nat.le_of_ble_eq_true rfl) mf_9_83 rfl rfl dX9_chance_25 ?_
        refine kw_aload_n C dX9_chance_28 rfl 0 rfl ?_
        refine kw_get C inG9 _ (hO9 g σ) rfl 2 (Nat.le_of_ble_eq_true rfl) mf_9_22 rfl rfl dX9_chance_29 ?_
        obtain ⟨σ10, hc9, hf⟩ := bV_elim hf
        refine kw_callVV C [.ref (g.1 (tx (gR σ 0)))] (kX0_byNumbers L D g t0 (gR σ 0) σ _ hc9) RX0 mV_X9_263 ⟨rfl, rfl⟩ dd_X0_byNumbers ⟨Nat.le_of_ble_eq_true rfl, Nat.le_of_ble_eq_true rfl⟩ _ (hO0 g σ) rfl rfl rfl (Nat.le_of_ble_eq_true rfl) dX9_chance_32 ?_
        refine kw_iload_n C dX9_chance_35 rfl 1 rfl ?_
        refine kw_istore C dX9_chance_36 hN (Nat.le_of_ble_eq_true rfl) [(4, .int p0), (0, .ref (g.1 0)), (1, .int p0), (2, .int p1), (3, .int p2)] rfl ?_
        refine kw_iconst C (0 : Int32) dX9_chance_38 rfl ?_
        refine kw_istore C dX9_chance_39 hN (Nat.le_of_ble_eq_true rfl) [(5, .int (0 : Int32)), (4, .int p0), (0, .ref (g.1 0)), (1, .int p0), (2, .int p1), (3, .int p2)] rfl ?_
        refine kw_iconst C (0 : Int32) dX9_chance_41 rfl ?_
        refine kw_istore C dX9_chance_42 hN (Nat.le_of_ble_eq_true rfl) [(6, .int (0 : Int32)), (5, .int (0 : Int32)), (4, .int p0), (0, .ref (g.1 0)), (1, .int p0), (2, .int p1), (3, .int p2)] rfl ?_
        refine kw_sub [3, 5, 6, 2, 1, 0] _ rfl ?_
        refine lpx4_walk (P := fun (x11 : Int32) (x12 : Int32) (x13 : Int32) (σ14 : St) => KW X σ14 44 [(0, .ref (g.1 0)), (2, .int p1), (3, .int p2), (4, .int x11), (5, .int x12), (6, .int x13)] []) ?_ FU _ _ _ _ hf
        intro self15 x11 x12 x13 σ14 ih16 hf
        refine kw_iload C dX9_chance_44 5 rfl ?_
        refine kw_bipush C (10 : Int32) dX9_chance_46 rfl ?_
        refine kw_icmp_ge C 119 dX9_chance_48 rfl (fun c17 => ?_) (fun c17 => ?_)
        · have hf := if_p c17 hf
          refine kw_iload C dX9_chance_119 4 rfl ?_
          exact kw_iret C K dX9_chance_121 hf
        · have hf := if_n c17 hf
          refine kw_aload_n C dX9_chance_51 rfl 0 rfl ?_
          refine kw_get C inG9 _ (hO9 g σ14) rfl 8 (Nat.le_of_ble_eq_true rfl) mf_9_51 rfl rfl dX9_chance_52 ?_
          refine kw_aload_n C dX9_chance_55 rfl 0 rfl ?_
          refine kw_get C inG9 _ (hO9 g σ14) rfl 7 (Nat.le_of_ble_eq_true rfl) mf_9_47 rfl rfl dX9_chance_56 ?_
          obtain ⟨σ19, hc18, hf⟩ := bV_elim hf
          refine kw_callVV C [.ref (g.1 5)] (kX4_become L D g t0 6 (by simp [isSale]) 5 (by simp [isSale]) σ14 _ hc18) RX4 mV_X9_275 ⟨rfl, rfl⟩ dd_X4_become ⟨Nat.le_of_ble_eq_true rfl, Nat.le_of_ble_eq_true rfl⟩ _ (hO4 g σ14 6 (by simp [isSale])) rfl rfl rfl (Nat.le_of_ble_eq_true rfl) dX9_chance_59 ?_
          refine kw_aload_n C dX9_chance_62 rfl 0 rfl ?_
          refine kw_get C inG9 _ (hO9 g σ19) rfl 8 (Nat.le_of_ble_eq_true rfl) mf_9_51 rfl rfl dX9_chance_63 ?_
          refine kw_iload C dX9_chance_66 3 rfl ?_
          obtain ⟨σ20, eσ20, hf⟩ := lt_elim hf
          refine kw_put C inG4 tyX4 tyX4_ok nmX4 _ (hO4 g σ19 6 (by simp [isSale])) rfl 13 (Nat.le_of_ble_eq_true rfl) mf_9_304 rfl rfl (tyX4_ok 13 (Nat.le_of_ble_eq_true rfl)) rfl rfl (Nat.le_of_ble_eq_true rfl) ((hF4_13 g σ19 6 (by simp [isSale]) _).trans (congrArg (wB g) eσ20.symm)) dX9_chance_68 ?_
          refine kw_aload_n C dX9_chance_71 rfl 0 rfl ?_
          refine kw_get C inG9 _ (hO9 g σ20) rfl 14 (Nat.le_of_ble_eq_true rfl) mf_9_83 rfl rfl dX9_chance_72 ?_
          refine kw_aload_n C dX9_chance_75 rfl 0 rfl ?_
          refine kw_get C inG9 _ (hO9 g σ20) rfl 8 (Nat.le_of_ble_eq_true rfl) mf_9_51 rfl rfl dX9_chance_76 ?_
          refine kw_iload_n C dX9_chance_79 rfl 1 rfl ?_
          obtain ⟨σ22, hc21, hf⟩ := bV_elim hf
          refine kw_callVV C [.ref (g.1 6), .int p1] (kX0_passYears L D g t0 6 (by simp [isSale]) p1 σ20 _ hc21) RX0 mV_X9_282 ⟨rfl, rfl⟩ dd_X0_passYears ⟨Nat.le_of_ble_eq_true rfl, Nat.le_of_ble_eq_true rfl⟩ _ (hO0 g σ20) rfl rfl rfl (Nat.le_of_ble_eq_true rfl) dX9_chance_80 ?_
          refine kw_aload_n C dX9_chance_83 rfl 0 rfl ?_
          refine kw_get C inG9 _ (hO9 g σ22) rfl 8 (Nat.le_of_ble_eq_true rfl) mf_9_51 rfl rfl dX9_chance_84 ?_
          refine kw_get C inG4 _ (hO4 g σ22 6 (by simp [isSale])) rfl 13 (Nat.le_of_ble_eq_true rfl) mf_9_304 rfl rfl dX9_chance_87 ?_
          obtain ⟨x23, ex23, hf⟩ := lt_elim hf
          refine kw_topi ex23 ?_
          refine kw_istore C dX9_chance_90 hN (Nat.le_of_ble_eq_true rfl) [(4, .int x23), (0, .ref (g.1 0)), (2, .int p1), (3, .int p2), (5, .int x12), (6, .int x13)] rfl ?_
          refine kw_iload C dX9_chance_92 4 rfl ?_
          refine kw_aload_n C dX9_chance_94 rfl 1 rfl ?_
          refine kw_get C inG9 _ (hO9 g σ22) rfl 8 (Nat.le_of_ble_eq_true rfl) mf_9_51 rfl rfl dX9_chance_95 ?_
          refine kw_iload_n C dX9_chance_98 rfl 3 rfl ?_
          obtain ⟨r25, hc24, hf⟩ := bd_elim hf
          refine kw_callVI C [.int p2] (kX4_holds L D g t0 6 (by simp [isSale]) p2 σ22 _ hc24) RX4 mV_X9_136 ⟨rfl, rfl⟩ dd_X4_holds ⟨Nat.le_of_ble_eq_true rfl, Nat.le_of_ble_eq_true rfl⟩ _ (hO4 g σ22 6 (by simp [isSale])) rfl rfl rfl (Nat.le_of_ble_eq_true rfl) dX9_chance_99 ?_
          obtain ⟨J27, hJ27, hf⟩ := jnx1_elim hf
          have kJ27 : ∀ (x26 : Int32), J27 x26 = some (r0, σ0) → KW X σ22 110 [(0, .ref (g.1 0)), (2, .int p1), (3, .int p2), (4, .int x23), (6, .int x13)] [.int x26, .int x12] := by
            clear hf
            intro x26 hf
            have hf := (hJ27 x26).symm.trans hf
            refine kw_iadd C dX9_chance_110 ?_
            obtain ⟨x28, ex28, hf⟩ := lt_elim hf
            refine kw_topi ex28 ?_
            refine kw_istore C dX9_chance_111 hN (Nat.le_of_ble_eq_true rfl) [(5, .int x28), (0, .ref (g.1 0)), (2, .int p1), (3, .int p2), (4, .int x23), (6, .int x13)] rfl ?_
            obtain ⟨x29, ex29, hf⟩ := lt_elim hf
            refine kw_iinc C x29 dX9_chance_113 5 rfl ex29.symm hN (Nat.le_of_ble_eq_true rfl) [(6, .int x29), (5, .int x28), (0, .ref (g.1 0)), (2, .int p1), (3, .int p2), (4, .int x23)] rfl ?_
            refine kw_goto C 44 dX9_chance_116 rfl ?_
            refine kw_sub [2, 3, 4, 5, 1, 0] _ rfl ?_
            exact ih16 _ _ _ _ hf
          refine kw_if_eq C 109 dX9_chance_102 rfl (fun c30 => ?_) (fun c30 => ?_)
          · have hf := if_p c30 hf
            refine kw_iconst C (0 : Int32) dX9_chance_109 rfl ?_
            refine kw_sub [1, 2, 3, 0, 5] _ rfl ?_
            exact kJ27 _ hf
          · have hf := if_n c30 hf
            refine kw_iconst C (1 : Int32) dX9_chance_105 rfl ?_
            refine kw_goto C 110 dX9_chance_106 rfl ?_
            refine kw_sub [1, 2, 3, 0, 5] _ rfl ?_
            exact kJ27 _ hf
      · have hf := if_p c8 hf
        refine kw_sub [] _ rfl ?_
        exact kJ1 _ hf
set_option maxRecDepth 100000 in
set_option maxHeartbeats 4000000 in
theorem kX9_commonDivisor (L : Launch) (D : va_G) (g : GwT) (t0 : Nat) (p0 : Int64) (p1 : Int64) (σ : St) (r0 : Int64) (hf : fX9_commonDivisor σ p0 p1 = some r0) : CtL L D (ttG g) (wB g) t0 yX9_commonDivisor cX9_commonDivisor 11 (some .long) { frames := 0, cells := 0, slots := 0, locals := 0 } [.long p0, .long p1] σ r0 σ := by
  refine CtL.of (own := RX9) (by decide) rfl (Nat.le_of_ble_eq_true rfl) [(0, .long p0), (2, .long p1)] rfl ?_
  intro X C hN K
  unfold fX9_commonDivisor at hf
  refine kw_lload_n C dX9_commonDivisor_0 rfl 0 rfl ?_
  refine kw_lstore C dX9_commonDivisor_1 hN (Nat.le_of_ble_eq_true rfl) [(4, .long p0), (0, .long p0), (2, .long p1)] rfl ?_
  refine kw_lload_n C dX9_commonDivisor_3 rfl 2 rfl ?_
  refine kw_lstore C dX9_commonDivisor_4 hN (Nat.le_of_ble_eq_true rfl) [(6, .long p1), (4, .long p0), (0, .long p0), (2, .long p1)] rfl ?_
  refine kw_iconst C (0 : Int32) dX9_commonDivisor_6 rfl ?_
  refine kw_istore C dX9_commonDivisor_7 hN (Nat.le_of_ble_eq_true rfl) [(8, .int (0 : Int32)), (6, .long p1), (4, .long p0), (0, .long p0), (2, .long p1)] rfl ?_
  refine kw_sub [2, 1, 0] _ rfl ?_
  refine lpx3_walk (P := fun (x1 : Int64) (x2 : Int64) (x3 : Int32) => KW X σ 9 [(4, .long x1), (6, .long x2), (8, .int x3)] []) ?_ FU _ _ _ hf
  intro self4 x1 x2 x3 ih5 hf
  refine kw_iload C dX9_commonDivisor_9 2 rfl ?_
  refine kw_sipush C (200 : Int32) dX9_commonDivisor_11 rfl ?_
  obtain ⟨J6, hJ6, hf⟩ := jnx1_elim hf
  have kJ6 : ∀ (u9 : Unit), J6 u9 = some r0 → KW X σ 45 [(4, .long x1)] [] := by
    clear hf
    intro u9 hf
    have hf := (hJ6 u9).symm.trans hf
    refine kw_lload C dX9_commonDivisor_45 0 rfl ?_
    exact kw_lret C K dX9_commonDivisor_47 (pr_ret hf)
  refine kw_icmp_ge C 45 dX9_commonDivisor_14 rfl (fun c7 => ?_) (fun c7 => ?_)
  · have hf := if_p c7 hf
    refine kw_sub [0] _ rfl ?_
    exact kJ6 _ hf
  · have hf := if_n c7 hf
    refine kw_lload C dX9_commonDivisor_17 1 rfl ?_
    refine kw_lconst C (0 : Int64) dX9_commonDivisor_19 rfl ?_
    refine kw_lcmp C dX9_commonDivisor_20 ?_
    refine kw_if_eq C 45 dX9_commonDivisor_21 rfl (fun c8 => ?_) (fun c8 => ?_)
    · have hf := if_p c8 hf
      refine kw_sub [0] _ rfl ?_
      exact kJ6 _ hf
    · have hf := if_n c8 hf
      refine kw_lload C dX9_commonDivisor_24 0 rfl ?_
      refine kw_lload C dX9_commonDivisor_26 1 rfl ?_
      obtain ⟨h9, hf⟩ := gd_elim hf
      refine kw_lrem C dX9_commonDivisor_28 h9 ?_
      obtain ⟨x10, ex10, hf⟩ := lt_elim hf
      refine kw_topl ex10 ?_
      refine kw_lstore C dX9_commonDivisor_29 hN (Nat.le_of_ble_eq_true rfl) [(9, .long x10), (4, .long x1), (6, .long x2), (8, .int x3)] rfl ?_
      refine kw_lload C dX9_commonDivisor_31 2 rfl ?_
      refine kw_lstore C dX9_commonDivisor_33 hN (Nat.le_of_ble_eq_true rfl) [(4, .long x2), (9, .long x10), (6, .long x2), (8, .int x3)] rfl ?_
      refine kw_lload C dX9_commonDivisor_35 1 rfl ?_
      refine kw_lstore C dX9_commonDivisor_37 hN (Nat.le_of_ble_eq_true rfl) [(6, .long x10), (4, .long x2), (9, .long x10), (8, .int x3)] rfl ?_
      obtain ⟨x11, ex11, hf⟩ := lt_elim hf
      refine kw_iinc C x11 dX9_commonDivisor_39 3 rfl ex11.symm hN (Nat.le_of_ble_eq_true rfl) [(8, .int x11), (6, .long x10), (4, .long x2), (9, .long x10)] rfl ?_
      refine kw_goto C 9 dX9_commonDivisor_42 rfl ?_
      refine kw_sub [2, 1, 0] _ rfl ?_
      exact ih5 _ _ _ hf
set_option maxRecDepth 100000 in
set_option maxHeartbeats 4000000 in
theorem kX9_lives (L : Launch) (D : va_G) (g : GwT) (t0 : Nat) (p0 : Int32) (p1 : Int32) (p2 : Int32) (σ : St) (r0 : Int64) (σ0 : St) (hf : fX9_lives σ p0 p1 p2 = some (r0, σ0)) : CtL L D (ttG g) (wB g) t0 yX9_lives cX9_lives 10 (some .long) { frames := 4, cells := 0, slots := 0, locals := 101 } [.ref (g.1 0), .int p0, .int p1, .int p2] σ r0 σ0 := by
  refine CtL.of (own := RX9) (by decide) rfl (Nat.le_of_ble_eq_true rfl) [(0, .ref (g.1 0)), (1, .int p0), (2, .int p1), (3, .int p2)] rfl ?_
  intro X C hN K
  unfold fX9_lives at hf
  refine kw_aload_n C dX9_lives_0 rfl 0 rfl ?_
  refine kw_iload_n C dX9_lives_1 rfl 1 rfl ?_
  obtain ⟨r2, hc1, hf⟩ := bd_elim hf
  refine kw_callVI C [.int p0] (kX9_isIn L D g t0 p0 σ _ hc1) RX9 mV_X9_139 ⟨rfl, rfl⟩ dd_X9_isIn ⟨Nat.le_of_ble_eq_true rfl, Nat.le_of_ble_eq_true rfl⟩ _ (hO9 g σ) rfl rfl rfl (Nat.le_of_ble_eq_true rfl) dX9_lives_2 ?_
  obtain ⟨J3, hJ3, hf⟩ := jnx1_elim hf
  have kJ3 : ∀ (u9 : Unit), J3 u9 = some (r0, σ0) → KW X σ 27 [] [] := by
    clear hf
    intro u9 hf
    have hf := (hJ3 u9).symm.trans hf
    refine kw_ldc2 C dX9_lives_27 mk2_X9_307 ?_
    exact kw_lret C K dX9_lives_30 hf
  refine kw_if_eq C 27 dX9_lives_5 rfl (fun c4 => ?_) (fun c4 => ?_)
  · have hf := if_p c4 hf
    refine kw_sub [] _ rfl ?_
    exact kJ3 _ hf
  · have hf := if_n c4 hf
    refine kw_iload_n C dX9_lives_8 rfl 2 rfl ?_
    refine kw_iconst C (0 : Int32) dX9_lives_9 rfl ?_
    refine kw_bipush C (6 : Int32) dX9_lives_10 rfl ?_
    obtain ⟨r6, hc5, hf⟩ := bd_elim hf
    refine kw_callSI C [.int p1, .int (0 : Int32), .int (6 : Int32)] (kX9_isWithin L D g t0 p1 (0 : Int32) (6 : Int32) σ _ hc5) mS_X9_188 ⟨rfl, rfl⟩ dd_X9_isWithin ⟨Nat.le_of_ble_eq_true rfl, Nat.le_of_ble_eq_true rfl⟩ rfl (Nat.le_of_ble_eq_true rfl) dX9_lives_12 ?_
    refine kw_if_eq C 27 dX9_lives_15 rfl (fun c7 => ?_) (fun c7 => ?_)
    · have hf := if_p c7 hf
      refine kw_sub [] _ rfl ?_
      exact kJ3 _ hf
    · have hf := if_n c7 hf
      refine kw_iload_n C dX9_lives_18 rfl 3 rfl ?_
      refine kw_iconst C (0 : Int32) dX9_lives_19 rfl ?_
      refine kw_iconst C (1 : Int32) dX9_lives_20 rfl ?_
      obtain ⟨r9, hc8, hf⟩ := bd_elim hf
      refine kw_callSI C [.int p2, .int (0 : Int32), .int (1 : Int32)] (kX9_isWithin L D g t0 p2 (0 : Int32) (1 : Int32) σ _ hc8) mS_X9_188 ⟨rfl, rfl⟩ dd_X9_isWithin ⟨Nat.le_of_ble_eq_true rfl, Nat.le_of_ble_eq_true rfl⟩ rfl (Nat.le_of_ble_eq_true rfl) dX9_lives_21 ?_
      refine kw_if_ne C 31 dX9_lives_24 rfl (fun c10 => ?_) (fun c10 => ?_)
      · have hf := if_n c10 hf
        refine kw_aload_n C dX9_lives_31 rfl 0 rfl ?_
        obtain ⟨σ12, hc11, hf⟩ := bV_elim hf
        refine kw_callVV C [] (kX9_tryAsItGoes L D g t0 σ _ hc11) RX9 mV_X9_279 ⟨rfl, rfl⟩ dd_X9_tryAsItGoes ⟨Nat.le_of_ble_eq_true rfl, Nat.le_of_ble_eq_true rfl⟩ _ (hO9 g σ) rfl rfl rfl (Nat.le_of_ble_eq_true rfl) dX9_lives_32 ?_
        refine kw_lconst C (1 : Int64) dX9_lives_35 rfl ?_
        refine kw_lstore C dX9_lives_36 hN (Nat.le_of_ble_eq_true rfl) [(4, .long (1 : Int64)), (0, .ref (g.1 0)), (1, .int p0), (2, .int p1), (3, .int p2)] rfl ?_
        refine kw_lconst C (1 : Int64) dX9_lives_38 rfl ?_
        refine kw_lstore C dX9_lives_39 hN (Nat.le_of_ble_eq_true rfl) [(6, .long (1 : Int64)), (4, .long (1 : Int64)), (0, .ref (g.1 0)), (1, .int p0), (2, .int p1), (3, .int p2)] rfl ?_
        refine kw_iconst C (0 : Int32) dX9_lives_41 rfl ?_
        refine kw_istore C dX9_lives_42 hN (Nat.le_of_ble_eq_true rfl) [(8, .int (0 : Int32)), (6, .long (1 : Int64)), (4, .long (1 : Int64)), (0, .ref (g.1 0)), (1, .int p0), (2, .int p1), (3, .int p2)] rfl ?_
        refine kw_sub [3, 4, 5, 6, 2, 1, 0] _ rfl ?_
        refine lpx4_walk (P := fun (x13 : Int64) (x14 : Int64) (x15 : Int32) (σ16 : St) => KW X σ16 44 [(0, .ref (g.1 0)), (1, .int p0), (2, .int p1), (3, .int p2), (4, .long x13), (6, .long x14), (8, .int x15)] []) ?_ FU _ _ _ _ hf
        intro self17 x13 x14 x15 σ16 ih18 hf
        refine kw_iload C dX9_lives_44 6 rfl ?_
        refine kw_iload_n C dX9_lives_46 rfl 2 rfl ?_
        refine kw_icmp_ge C 93 dX9_lives_47 rfl (fun c19 => ?_) (fun c19 => ?_)
        · have hf := if_p c19 hf
          refine kw_lconst C (1 : Int64) dX9_lives_93 rfl ?_
          refine kw_lload C dX9_lives_94 4 rfl ?_
          refine kw_lload C dX9_lives_96 5 rfl ?_
          obtain ⟨r21, hc20, hf⟩ := bd_elim hf
          refine kw_callSL C [.long x13, .long x14] (kX9_commonDivisor L D g t0 x13 x14 σ16 _ hc20) mS_X9_317 ⟨rfl, rfl⟩ dd_X9_commonDivisor ⟨Nat.le_of_ble_eq_true rfl, Nat.le_of_ble_eq_true rfl⟩ rfl (Nat.le_of_ble_eq_true rfl) dX9_lives_98 ?_
          refine kw_mmax_long C ml_X9_321 mst_max_long mi_Math mcode_max_long ⟨Nat.le_of_ble_eq_true rfl, Nat.le_of_ble_eq_true rfl⟩ dX9_lives_101 ?_
          obtain ⟨x22, ex22, hf⟩ := lt_elim hf
          refine kw_topl ex22 ?_
          refine kw_lstore C dX9_lives_104 hN (Nat.le_of_ble_eq_true rfl) [(8, .long x22), (0, .ref (g.1 0)), (1, .int p0), (2, .int p1), (3, .int p2), (4, .long x13), (6, .long x14)] rfl ?_
          refine kw_iload_n C dX9_lives_106 rfl 4 rfl ?_
          obtain ⟨J24, hJ24, hf⟩ := jnx1_elim hf
          have kJ24 : ∀ (x23 : Int64), J24 x23 = some (r0, σ0) → KW X σ16 117 [(8, .long x22)] [.long x23] := by
            clear hf
            intro x23 hf
            have hf := (hJ24 x23).symm.trans hf
            refine kw_lload C dX9_lives_117 0 rfl ?_
            obtain ⟨h25, hf⟩ := gd_elim hf
            refine kw_ldiv C dX9_lives_119 h25 ?_
            exact kw_lret C K dX9_lives_120 hf
          refine kw_if_ne C 115 dX9_lives_107 rfl (fun c26 => ?_) (fun c26 => ?_)
          · have hf := if_n c26 hf
            refine kw_lload C dX9_lives_115 6 rfl ?_
            refine kw_sub [0] _ rfl ?_
            exact kJ24 _ hf
          · have hf := if_p c26 hf
            refine kw_lload C dX9_lives_110 5 rfl ?_
            refine kw_goto C 117 dX9_lives_112 rfl ?_
            refine kw_sub [0] _ rfl ?_
            exact kJ24 _ hf
        · have hf := if_n c19 hf
          refine kw_aload_n C dX9_lives_50 rfl 0 rfl ?_
          refine kw_get C inG9 _ (hO9 g σ16) rfl 8 (Nat.le_of_ble_eq_true rfl) mf_9_51 rfl rfl dX9_lives_51 ?_
          refine kw_iload_n C dX9_lives_54 rfl 1 rfl ?_
          obtain ⟨σ28, hc27, hf⟩ := bV_elim hf
          refine kw_callVV C [.int p0] (kX4_growOlder L D g t0 6 (by simp [isSale]) p0 σ16 _ hc27) RX4 mV_X9_309 ⟨rfl, rfl⟩ dd_X4_growOlder ⟨Nat.le_of_ble_eq_true rfl, Nat.le_of_ble_eq_true rfl⟩ _ (hO4 g σ16 6 (by simp [isSale])) rfl rfl rfl (Nat.le_of_ble_eq_true rfl) dX9_lives_55 ?_
          refine kw_lload C dX9_lives_58 4 rfl ?_
          refine kw_bipush C (100 : Int32) dX9_lives_60 rfl ?_
          refine kw_aload_n C dX9_lives_62 rfl 0 rfl ?_
          refine kw_get C inG9 _ (hO9 g σ28) rfl 14 (Nat.le_of_ble_eq_true rfl) mf_9_83 rfl rfl dX9_lives_63 ?_
          refine kw_aload_n C dX9_lives_66 rfl 0 rfl ?_
          refine kw_get C inG9 _ (hO9 g σ28) rfl 8 (Nat.le_of_ble_eq_true rfl) mf_9_51 rfl rfl dX9_lives_67 ?_
          refine kw_iload_n C dX9_lives_70 rfl 1 rfl ?_
          obtain ⟨r30, σ31, hc29, hf⟩ := bI_elim hf
          refine kw_callVI C [.ref (g.1 6), .int p0] (kX0_deathOf L D g t0 6 (by simp [isSale]) p0 σ28 _ _ hc29) RX0 mV_X9_312 ⟨rfl, rfl⟩ dd_X0_deathOf ⟨Nat.le_of_ble_eq_true rfl, Nat.le_of_ble_eq_true rfl⟩ _ (hO0 g σ28) rfl rfl rfl (Nat.le_of_ble_eq_true rfl) dX9_lives_71 ?_
          refine kw_isub C dX9_lives_74 ?_
          refine kw_i2l C dX9_lives_75 ?_
          refine kw_lmul C dX9_lives_76 ?_
          obtain ⟨x32, ex32, hf⟩ := lt_elim hf
          refine kw_topl ex32 ?_
          refine kw_lstore C dX9_lives_77 hN (Nat.le_of_ble_eq_true rfl) [(4, .long x32), (0, .ref (g.1 0)), (1, .int p0), (2, .int p1), (3, .int p2), (6, .long x14), (8, .int x15)] rfl ?_
          refine kw_lload C dX9_lives_79 5 rfl ?_
          refine kw_ldc2 C dX9_lives_81 mk2_X9_315 ?_
          refine kw_lmul C dX9_lives_84 ?_
          obtain ⟨x33, ex33, hf⟩ := lt_elim hf
          refine kw_topl ex33 ?_
          refine kw_lstore C dX9_lives_85 hN (Nat.le_of_ble_eq_true rfl) [(6, .long x33), (4, .long x32), (0, .ref (g.1 0)), (1, .int p0), (2, .int p1), (3, .int p2), (8, .int x15)] rfl ?_
          obtain ⟨x34, ex34, hf⟩ := lt_elim hf
          refine kw_iinc C x34 dX9_lives_87 6 rfl ex34.symm hN (Nat.le_of_ble_eq_true rfl) [(8, .int x34), (6, .long x33), (4, .long x32), (0, .ref (g.1 0)), (1, .int p0), (2, .int p1), (3, .int p2)] rfl ?_
          refine kw_goto C 44 dX9_lives_90 rfl ?_
          refine kw_sub [3, 4, 5, 6, 2, 1, 0] _ rfl ?_
          exact ih18 _ _ _ _ hf
      · have hf := if_p c10 hf
        refine kw_sub [] _ rfl ?_
        exact kJ3 _ hf
set_option maxRecDepth 100000 in
set_option maxHeartbeats 4000000 in
theorem kX9_letGo (L : Launch) (D : va_G) (g : GwT) (t0 : Nat) (p0 : Int32) (σ : St) (r0 : Int32) (σ0 : St) (hf : fX9_letGo σ p0 = some (r0, σ0)) : CtI L D (ttG g) (wB g) t0 yX9_letGo cX9_letGo 3 (some .int) { frames := 7, cells := 0, slots := 0, locals := 169 } [.ref (g.1 0), .int p0] σ r0 σ0 := by
  refine CtI.of (own := RX9) (by decide) rfl (Nat.le_of_ble_eq_true rfl) [(0, .ref (g.1 0)), (1, .int p0)] rfl ?_
  intro X C hN K
  unfold fX9_letGo at hf
  refine kw_aload_n C dX9_letGo_0 rfl 0 rfl ?_
  refine kw_iload_n C dX9_letGo_1 rfl 1 rfl ?_
  obtain ⟨r2, hc1, hf⟩ := bd_elim hf
  refine kw_callVI C [.int p0] (kX9_isIn L D g t0 p0 σ _ hc1) RX9 mV_X9_139 ⟨rfl, rfl⟩ dd_X9_isIn ⟨Nat.le_of_ble_eq_true rfl, Nat.le_of_ble_eq_true rfl⟩ _ (hO9 g σ) rfl rfl rfl (Nat.le_of_ble_eq_true rfl) dX9_letGo_2 ?_
  refine kw_if_ne C 10 dX9_letGo_5 rfl (fun c3 => ?_) (fun c3 => ?_)
  · have hf := if_n c3 hf
    refine kw_iconst C (0 : Int32) dX9_letGo_10 rfl ?_
    refine kw_istore_n C dX9_letGo_11 rfl hN (Nat.le_of_ble_eq_true rfl) [(2, .int (0 : Int32)), (0, .ref (g.1 0)), (1, .int p0)] rfl ?_
    refine kw_sub [1, 2, 0] _ rfl ?_
    refine lpx2_walk (P := fun (x4 : Int32) (σ5 : St) => KW X σ5 12 [(0, .ref (g.1 0)), (1, .int p0), (2, .int x4)] []) ?_ FU _ _ hf
    intro self6 x4 σ5 ih7 hf
    refine kw_iload_n C dX9_letGo_12 rfl 2 rfl ?_
    refine kw_sipush C (300 : Int32) dX9_letGo_13 rfl ?_
    refine kw_icmp_gt C 69 dX9_letGo_16 rfl (fun c8 => ?_) (fun c8 => ?_)
    · have hf := if_p c8 hf
      refine kw_bipush C (-2 : Int32) dX9_letGo_69 rfl ?_
      exact kw_iret C K dX9_letGo_71 hf
    · have hf := if_n c8 hf
      refine kw_aload_n C dX9_letGo_19 rfl 0 rfl ?_
      obtain ⟨σ10, hc9, hf⟩ := bV_elim hf
      refine kw_callVV C [] (kX9_tryAsItGoes L D g t0 σ5 _ hc9) RX9 mV_X9_279 ⟨rfl, rfl⟩ dd_X9_tryAsItGoes ⟨Nat.le_of_ble_eq_true rfl, Nat.le_of_ble_eq_true rfl⟩ _ (hO9 g σ5) rfl rfl rfl (Nat.le_of_ble_eq_true rfl) dX9_letGo_20 ?_
      refine kw_aload_n C dX9_letGo_23 rfl 0 rfl ?_
      refine kw_get C inG9 _ (hO9 g σ10) rfl 8 (Nat.le_of_ble_eq_true rfl) mf_9_51 rfl rfl dX9_letGo_24 ?_
      refine kw_get C inG4 _ (hO4 g σ10 6 (by simp [isSale])) rfl 0 (Nat.le_of_ble_eq_true rfl) mf_9_153 rfl rfl dX9_letGo_27 ?_
      refine kw_iload_n C dX9_letGo_30 rfl 1 rfl ?_
      refine kw_dup2 C dX9_letGo_31 rfl rfl ?_
      obtain ⟨h11, hf⟩ := gd_elim hf
      refine kw_iald C _ 0 (hA4_0 g σ10 6 (by simp [isSale])) rfl h11 dX9_letGo_32 ?_
      refine kw_iload_n C dX9_letGo_33 rfl 2 rfl ?_
      refine kw_iadd C dX9_letGo_34 ?_
      obtain ⟨h12, hf⟩ := gd_elim hf
      obtain ⟨σ13, eσ13, hf⟩ := lt_elim hf
      refine kw_iast C _ 0 (hA4_0 g σ10 6 (by simp [isSale])) rfl h12 ((hS4_0 g σ10 6 (by simp [isSale]) _).trans (congrArg (wB g) eσ13.symm)) dX9_letGo_35 ?_
      refine kw_aload_n C dX9_letGo_36 rfl 0 rfl ?_
      refine kw_get C inG9 _ (hO9 g σ13) rfl 14 (Nat.le_of_ble_eq_true rfl) mf_9_83 rfl rfl dX9_letGo_37 ?_
      refine kw_aload_n C dX9_letGo_40 rfl 0 rfl ?_
      refine kw_get C inG9 _ (hO9 g σ13) rfl 8 (Nat.le_of_ble_eq_true rfl) mf_9_51 rfl rfl dX9_letGo_41 ?_
      refine kw_bipush C (120 : Int32) dX9_letGo_44 rfl ?_
      obtain ⟨r15, σ16, hc14, hf⟩ := bI_elim hf
      refine kw_callVI C [.ref (g.1 6), .int (120 : Int32)] (kX0_yearsToFall L D g t0 6 (by simp [isSale]) (120 : Int32) σ13 _ _ hc14) RX0 mV_X9_285 ⟨rfl, rfl⟩ dd_X0_yearsToFall ⟨Nat.le_of_ble_eq_true rfl, Nat.le_of_ble_eq_true rfl⟩ _ (hO0 g σ13) rfl rfl rfl (Nat.le_of_ble_eq_true rfl) dX9_letGo_46 ?_
      refine kw_pop C dX9_letGo_49 rfl ?_
      refine kw_aload_n C dX9_letGo_50 rfl 0 rfl ?_
      refine kw_get C inG9 _ (hO9 g σ16) rfl 8 (Nat.le_of_ble_eq_true rfl) mf_9_51 rfl rfl dX9_letGo_51 ?_
      refine kw_iload_n C dX9_letGo_54 rfl 1 rfl ?_
      obtain ⟨r18, hc17, hf⟩ := bd_elim hf
      refine kw_callVI C [.int p0] (kX4_hasFallenTo L D g t0 6 (by simp [isSale]) p0 σ16 _ hc17) RX4 mV_X9_326 ⟨rfl, rfl⟩ dd_X4_hasFallenTo ⟨Nat.le_of_ble_eq_true rfl, Nat.le_of_ble_eq_true rfl⟩ _ (hO4 g σ16 6 (by simp [isSale])) rfl rfl rfl (Nat.le_of_ble_eq_true rfl) dX9_letGo_55 ?_
      refine kw_if_eq C 63 dX9_letGo_58 rfl (fun c19 => ?_) (fun c19 => ?_)
      · have hf := if_p c19 hf
        obtain ⟨x20, ex20, hf⟩ := lt_elim hf
        refine kw_iinc C x20 dX9_letGo_63 2 rfl ex20.symm hN (Nat.le_of_ble_eq_true rfl) [(2, .int x20), (0, .ref (g.1 0)), (1, .int p0)] rfl ?_
        refine kw_goto C 12 dX9_letGo_66 rfl ?_
        refine kw_sub [1, 2, 0] _ rfl ?_
        exact ih7 _ _ hf
      · have hf := if_n c19 hf
        refine kw_iload_n C dX9_letGo_61 rfl 2 rfl ?_
        exact kw_iret C K dX9_letGo_62 hf
  · have hf := if_p c3 hf
    refine kw_iconst C (-1 : Int32) dX9_letGo_8 rfl ?_
    exact kw_iret C K dX9_letGo_9 hf
set_option maxRecDepth 100000 in
set_option maxHeartbeats 4000000 in
theorem kX9_when (L : Launch) (D : va_G) (g : GwT) (t0 : Nat) (p0 : Int32) (p1 : Int32) (p2 : Int32) (σ : St) (r0 : Int32) (σ0 : St) (hf : fX9_when σ p0 p1 p2 = some (r0, σ0)) : CtI L D (ttG g) (wB g) t0 yX9_when cX9_when 7 (some .int) { frames := 7, cells := 0, slots := 0, locals := 169 } [.ref (g.1 0), .int p0, .int p1, .int p2] σ r0 σ0 := by
  refine CtI.of (own := RX9) (by decide) rfl (Nat.le_of_ble_eq_true rfl) [(0, .ref (g.1 0)), (1, .int p0), (2, .int p1), (3, .int p2)] rfl ?_
  intro X C hN K
  unfold fX9_when at hf
  refine kw_aload_n C dX9_when_0 rfl 0 rfl ?_
  refine kw_iload_n C dX9_when_1 rfl 1 rfl ?_
  obtain ⟨r2, hc1, hf⟩ := bd_elim hf
  refine kw_callVI C [.int p0] (kX9_isIn L D g t0 p0 σ _ hc1) RX9 mV_X9_139 ⟨rfl, rfl⟩ dd_X9_isIn ⟨Nat.le_of_ble_eq_true rfl, Nat.le_of_ble_eq_true rfl⟩ _ (hO9 g σ) rfl rfl rfl (Nat.le_of_ble_eq_true rfl) dX9_when_2 ?_
  obtain ⟨J3, hJ3, hf⟩ := jnx1_elim hf
  have kJ3 : ∀ (u9 : Unit), J3 u9 = some (r0, σ0) → KW X σ 27 [] [] := by
    clear hf
    intro u9 hf
    have hf := (hJ3 u9).symm.trans hf
    refine kw_iconst C (-1 : Int32) dX9_when_27 rfl ?_
    exact kw_iret C K dX9_when_28 hf
  refine kw_if_eq C 27 dX9_when_5 rfl (fun c4 => ?_) (fun c4 => ?_)
  · have hf := if_p c4 hf
    refine kw_sub [] _ rfl ?_
    exact kJ3 _ hf
  · have hf := if_n c4 hf
    refine kw_iload_n C dX9_when_8 rfl 2 rfl ?_
    refine kw_iconst C (0 : Int32) dX9_when_9 rfl ?_
    refine kw_bipush C (40 : Int32) dX9_when_10 rfl ?_
    obtain ⟨r6, hc5, hf⟩ := bd_elim hf
    refine kw_callSI C [.int p1, .int (0 : Int32), .int (40 : Int32)] (kX9_isWithin L D g t0 p1 (0 : Int32) (40 : Int32) σ _ hc5) mS_X9_188 ⟨rfl, rfl⟩ dd_X9_isWithin ⟨Nat.le_of_ble_eq_true rfl, Nat.le_of_ble_eq_true rfl⟩ rfl (Nat.le_of_ble_eq_true rfl) dX9_when_12 ?_
    refine kw_if_eq C 27 dX9_when_15 rfl (fun c7 => ?_) (fun c7 => ?_)
    · have hf := if_p c7 hf
      refine kw_sub [] _ rfl ?_
      exact kJ3 _ hf
    · have hf := if_n c7 hf
      refine kw_iload_n C dX9_when_18 rfl 3 rfl ?_
      refine kw_iconst C (0 : Int32) dX9_when_19 rfl ?_
      refine kw_iconst C (1 : Int32) dX9_when_20 rfl ?_
      obtain ⟨r9, hc8, hf⟩ := bd_elim hf
      refine kw_callSI C [.int p2, .int (0 : Int32), .int (1 : Int32)] (kX9_isWithin L D g t0 p2 (0 : Int32) (1 : Int32) σ _ hc8) mS_X9_188 ⟨rfl, rfl⟩ dd_X9_isWithin ⟨Nat.le_of_ble_eq_true rfl, Nat.le_of_ble_eq_true rfl⟩ rfl (Nat.le_of_ble_eq_true rfl) dX9_when_21 ?_
      refine kw_if_ne C 29 dX9_when_24 rfl (fun c10 => ?_) (fun c10 => ?_)
      · have hf := if_n c10 hf
        refine kw_aload_n C dX9_when_29 rfl 0 rfl ?_
        refine kw_get C inG9 _ (hO9 g σ) rfl 14 (Nat.le_of_ble_eq_true rfl) mf_9_83 rfl rfl dX9_when_30 ?_
        refine kw_aload_n C dX9_when_33 rfl 0 rfl ?_
        refine kw_get C inG9 _ (hO9 g σ) rfl 2 (Nat.le_of_ble_eq_true rfl) mf_9_22 rfl rfl dX9_when_34 ?_
        obtain ⟨σ12, hc11, hf⟩ := bV_elim hf
        refine kw_callVV C [.ref (g.1 (tx (gR σ 0)))] (kX0_asItGoes L D g t0 (gR σ 0) σ _ hc11) RX0 mV_X9_194 ⟨rfl, rfl⟩ dd_X0_asItGoes ⟨Nat.le_of_ble_eq_true rfl, Nat.le_of_ble_eq_true rfl⟩ _ (hO0 g σ) rfl rfl rfl (Nat.le_of_ble_eq_true rfl) dX9_when_37 ?_
        refine kw_aload_n C dX9_when_40 rfl 0 rfl ?_
        refine kw_get C inG9 _ (hO9 g σ12) rfl 9 (Nat.le_of_ble_eq_true rfl) mf_9_54 rfl rfl dX9_when_41 ?_
        refine kw_aload_n C dX9_when_44 rfl 0 rfl ?_
        refine kw_get C inG9 _ (hO9 g σ12) rfl 7 (Nat.le_of_ble_eq_true rfl) mf_9_47 rfl rfl dX9_when_45 ?_
        obtain ⟨σ14, hc13, hf⟩ := bV_elim hf
        refine kw_callVV C [.ref (g.1 5)] (kX4_become L D g t0 7 (by simp [isSale]) 5 (by simp [isSale]) σ12 _ hc13) RX4 mV_X9_275 ⟨rfl, rfl⟩ dd_X4_become ⟨Nat.le_of_ble_eq_true rfl, Nat.le_of_ble_eq_true rfl⟩ _ (hO4 g σ12 7 (by simp [isSale])) rfl rfl rfl (Nat.le_of_ble_eq_true rfl) dX9_when_48 ?_
        refine kw_bipush C (-2 : Int32) dX9_when_51 rfl ?_
        refine kw_istore C dX9_when_53 hN (Nat.le_of_ble_eq_true rfl) [(4, .int (-2 : Int32)), (0, .ref (g.1 0)), (1, .int p0), (2, .int p1), (3, .int p2)] rfl ?_
        refine kw_bipush C (-2 : Int32) dX9_when_55 rfl ?_
        refine kw_istore C dX9_when_57 hN (Nat.le_of_ble_eq_true rfl) [(5, .int (-2 : Int32)), (4, .int (-2 : Int32)), (0, .ref (g.1 0)), (1, .int p0), (2, .int p1), (3, .int p2)] rfl ?_
        refine kw_iconst C (0 : Int32) dX9_when_59 rfl ?_
        refine kw_istore C dX9_when_60 hN (Nat.le_of_ble_eq_true rfl) [(6, .int (0 : Int32)), (5, .int (-2 : Int32)), (4, .int (-2 : Int32)), (0, .ref (g.1 0)), (1, .int p0), (2, .int p1), (3, .int p2)] rfl ?_
        refine kw_sub [3, 4, 5, 6, 2, 1, 0] _ rfl ?_
        refine lpx4_walk (P := fun (x15 : Int32) (x16 : Int32) (x17 : Int32) (σ18 : St) => KW X σ18 62 [(0, .ref (g.1 0)), (1, .int p0), (2, .int p1), (3, .int p2), (4, .int x15), (5, .int x16), (6, .int x17)] []) ?_ FU _ _ _ _ hf
        intro self19 x15 x16 x17 σ18 ih20 hf
        refine kw_iload C dX9_when_62 6 rfl ?_
        refine kw_iload_n C dX9_when_64 rfl 2 rfl ?_
        refine kw_icmp_gt C 184 dX9_when_65 rfl (fun c21 => ?_) (fun c21 => ?_)
        · have hf := if_p c21 hf
          refine kw_iload_n C dX9_when_184 rfl 3 rfl ?_
          obtain ⟨J23, hJ23, hf⟩ := jnx1_elim hf
          have kJ23 : ∀ (x22 : Int32), J23 x22 = some (r0, σ0) → KW X σ18 195 [] [.int x22] := by
            clear hf
            intro x22 hf
            have hf := (hJ23 x22).symm.trans hf
            exact kw_iret C K dX9_when_195 hf
          refine kw_if_ne C 193 dX9_when_185 rfl (fun c24 => ?_) (fun c24 => ?_)
          · have hf := if_n c24 hf
            refine kw_iload C dX9_when_193 5 rfl ?_
            refine kw_sub [] _ rfl ?_
            exact kJ23 _ hf
          · have hf := if_p c24 hf
            refine kw_iload C dX9_when_188 4 rfl ?_
            refine kw_goto C 195 dX9_when_190 rfl ?_
            refine kw_sub [] _ rfl ?_
            exact kJ23 _ hf
        · have hf := if_n c21 hf
          refine kw_aload_n C dX9_when_68 rfl 0 rfl ?_
          refine kw_get C inG9 _ (hO9 g σ18) rfl 8 (Nat.le_of_ble_eq_true rfl) mf_9_51 rfl rfl dX9_when_69 ?_
          refine kw_aload_n C dX9_when_72 rfl 0 rfl ?_
          refine kw_get C inG9 _ (hO9 g σ18) rfl 9 (Nat.le_of_ble_eq_true rfl) mf_9_54 rfl rfl dX9_when_73 ?_
          obtain ⟨σ26, hc25, hf⟩ := bV_elim hf
          refine kw_callVV C [.ref (g.1 7)] (kX4_become L D g t0 6 (by simp [isSale]) 7 (by simp [isSale]) σ18 _ hc25) RX4 mV_X9_275 ⟨rfl, rfl⟩ dd_X4_become ⟨Nat.le_of_ble_eq_true rfl, Nat.le_of_ble_eq_true rfl⟩ _ (hO4 g σ18 6 (by simp [isSale])) rfl rfl rfl (Nat.le_of_ble_eq_true rfl) dX9_when_76 ?_
          refine kw_aload_n C dX9_when_79 rfl 0 rfl ?_
          refine kw_get C inG9 _ (hO9 g σ26) rfl 14 (Nat.le_of_ble_eq_true rfl) mf_9_83 rfl rfl dX9_when_80 ?_
          refine kw_aload_n C dX9_when_83 rfl 0 rfl ?_
          refine kw_get C inG9 _ (hO9 g σ26) rfl 8 (Nat.le_of_ble_eq_true rfl) mf_9_51 rfl rfl dX9_when_84 ?_
          refine kw_iload_n C dX9_when_87 rfl 1 rfl ?_
          obtain ⟨r28, hc27, hf⟩ := bd_elim hf
          refine kw_callVI C [.ref (g.1 6), .int p0] (kX0_mayNod L D g t0 6 (by simp [isSale]) p0 σ26 _ hc27) RX0 mV_X9_248 ⟨rfl, rfl⟩ dd_X0_mayNod ⟨Nat.le_of_ble_eq_true rfl, Nat.le_of_ble_eq_true rfl⟩ _ (hO0 g σ26) rfl rfl rfl (Nat.le_of_ble_eq_true rfl) dX9_when_88 ?_
          obtain ⟨J32, hJ32, hf⟩ := jnx3_elim hf
          have kJ32 : ∀ (x29 : Int32) (x30 : Int32) (σ31 : St), J32 x29 x30 σ31 = some (r0, σ0) → KW X σ31 166 [(0, .ref (g.1 0)), (1, .int p0), (2, .int p1), (3, .int p2), (4, .int x29), (5, .int x30), (6, .int x17)] [] := by
            clear hf
            intro x29 x30 σ31 hf
            have hf := (hJ32 x29 x30 σ31).symm.trans hf
            refine kw_aload_n C dX9_when_166 rfl 0 rfl ?_
            refine kw_get C inG9 _ (hO9 g σ31) rfl 14 (Nat.le_of_ble_eq_true rfl) mf_9_83 rfl rfl dX9_when_167 ?_
            refine kw_aload_n C dX9_when_170 rfl 0 rfl ?_
            refine kw_get C inG9 _ (hO9 g σ31) rfl 9 (Nat.le_of_ble_eq_true rfl) mf_9_54 rfl rfl dX9_when_171 ?_
            obtain ⟨r34, σ35, hc33, hf⟩ := bI_elim hf
            refine kw_callVI C [.ref (g.1 7)] (kX0_passYear L D g t0 7 (by simp [isSale]) σ31 _ _ hc33) RX0 mV_X9_266 ⟨rfl, rfl⟩ dd_X0_passYear ⟨Nat.le_of_ble_eq_true rfl, Nat.le_of_ble_eq_true rfl⟩ _ (hO0 g σ31) rfl rfl rfl (Nat.le_of_ble_eq_true rfl) dX9_when_174 ?_
            refine kw_pop C dX9_when_177 rfl ?_
            obtain ⟨x36, ex36, hf⟩ := lt_elim hf
            refine kw_iinc C x36 dX9_when_178 6 rfl ex36.symm hN (Nat.le_of_ble_eq_true rfl) [(6, .int x36), (0, .ref (g.1 0)), (1, .int p0), (2, .int p1), (3, .int p2), (4, .int x29), (5, .int x30)] rfl ?_
            refine kw_goto C 62 dX9_when_181 rfl ?_
            refine kw_sub [1, 2, 3, 4, 5, 6, 0] _ rfl ?_
            exact ih20 _ _ _ _ hf
          refine kw_if_eq C 166 dX9_when_91 rfl (fun c37 => ?_) (fun c37 => ?_)
          · have hf := if_p c37 hf
            exact kJ32 _ _ _ hf
          · have hf := if_n c37 hf
            refine kw_aload_n C dX9_when_94 rfl 0 rfl ?_
            refine kw_get C inG9 _ (hO9 g σ26) rfl 14 (Nat.le_of_ble_eq_true rfl) mf_9_83 rfl rfl dX9_when_95 ?_
            refine kw_aload_n C dX9_when_98 rfl 0 rfl ?_
            refine kw_get C inG9 _ (hO9 g σ26) rfl 8 (Nat.le_of_ble_eq_true rfl) mf_9_51 rfl rfl dX9_when_99 ?_
            refine kw_iload_n C dX9_when_102 rfl 1 rfl ?_
            obtain ⟨σ39, hc38, hf⟩ := bV_elim hf
            refine kw_callVV C [.ref (g.1 6), .int p0] (kX0_raise L D g t0 6 (by simp [isSale]) p0 σ26 _ hc38) RX0 mV_X9_256 ⟨rfl, rfl⟩ dd_X0_raise ⟨Nat.le_of_ble_eq_true rfl, Nat.le_of_ble_eq_true rfl⟩ _ (hO0 g σ26) rfl rfl rfl (Nat.le_of_ble_eq_true rfl) dX9_when_103 ?_
            refine kw_aload_n C dX9_when_106 rfl 0 rfl ?_
            refine kw_get C inG9 _ (hO9 g σ39) rfl 14 (Nat.le_of_ble_eq_true rfl) mf_9_83 rfl rfl dX9_when_107 ?_
            refine kw_aload_n C dX9_when_110 rfl 0 rfl ?_
            refine kw_get C inG9 _ (hO9 g σ39) rfl 8 (Nat.le_of_ble_eq_true rfl) mf_9_51 rfl rfl dX9_when_111 ?_
            refine kw_bipush C (120 : Int32) dX9_when_114 rfl ?_
            refine kw_iload C dX9_when_116 6 rfl ?_
            refine kw_isub C dX9_when_118 ?_
            obtain ⟨r41, σ42, hc40, hf⟩ := bI_elim hf
            refine kw_callVI C [.ref (g.1 6), .int ((120 : Int32) - x17)] (kX0_yearsToFall L D g t0 6 (by simp [isSale]) ((120 : Int32) - x17) σ39 _ _ hc40) RX0 mV_X9_285 ⟨rfl, rfl⟩ dd_X0_yearsToFall ⟨Nat.le_of_ble_eq_true rfl, Nat.le_of_ble_eq_true rfl⟩ _ (hO0 g σ39) rfl rfl rfl (Nat.le_of_ble_eq_true rfl) dX9_when_119 ?_
            refine kw_pop C dX9_when_122 rfl ?_
            refine kw_aload_n C dX9_when_123 rfl 0 rfl ?_
            refine kw_get C inG9 _ (hO9 g σ42) rfl 8 (Nat.le_of_ble_eq_true rfl) mf_9_51 rfl rfl dX9_when_124 ?_
            refine kw_iload_n C dX9_when_127 rfl 1 rfl ?_
            obtain ⟨r44, hc43, hf⟩ := bd_elim hf
            refine kw_callVI C [.int p0] (kX4_hasFallenTo L D g t0 6 (by simp [isSale]) p0 σ42 _ hc43) RX4 mV_X9_326 ⟨rfl, rfl⟩ dd_X4_hasFallenTo ⟨Nat.le_of_ble_eq_true rfl, Nat.le_of_ble_eq_true rfl⟩ _ (hO4 g σ42 6 (by simp [isSale])) rfl rfl rfl (Nat.le_of_ble_eq_true rfl) dX9_when_128 ?_
            refine kw_if_eq C 166 dX9_when_131 rfl (fun c45 => ?_) (fun c45 => ?_)
            · have hf := if_p c45 hf
              exact kJ32 _ _ _ hf
            · have hf := if_n c45 hf
              refine kw_iload C dX9_when_134 4 rfl ?_
              refine kw_bipush C (-2 : Int32) dX9_when_136 rfl ?_
              obtain ⟨J46, hJ46, hf⟩ := jnx1_elim hf
              have kJ46 : ∀ (u9 : Unit), J46 u9 = some (r0, σ0) → KW X σ42 153 [(0, .ref (g.1 0)), (1, .int p0), (2, .int p1), (3, .int p2), (6, .int x17)] [] := by
                clear hf
                intro u9 hf
                have hf := (hJ46 u9).symm.trans hf
                refine kw_iload C dX9_when_153 4 rfl ?_
                refine kw_istore C dX9_when_155 hN (Nat.le_of_ble_eq_true rfl) [(4, .int x17), (0, .ref (g.1 0)), (1, .int p0), (2, .int p1), (3, .int p2), (6, .int x17)] rfl ?_
                refine kw_aload_n C dX9_when_157 rfl 1 rfl ?_
                refine kw_get C inG9 _ (hO9 g σ42) rfl 8 (Nat.le_of_ble_eq_true rfl) mf_9_51 rfl rfl dX9_when_158 ?_
                refine kw_get C inG4 _ (hO4 g σ42 6 (by simp [isSale])) rfl 9 (Nat.le_of_ble_eq_true rfl) mf_9_213 rfl rfl dX9_when_161 ?_
                obtain ⟨x47, ex47, hf⟩ := lt_elim hf
                refine kw_topi ex47 ?_
                refine kw_istore C dX9_when_164 hN (Nat.le_of_ble_eq_true rfl) [(5, .int x47), (4, .int x17), (0, .ref (g.1 0)), (1, .int p0), (2, .int p1), (3, .int p2), (6, .int x17)] rfl ?_
                refine kw_sub [2, 3, 4, 5, 1, 0, 6] _ rfl ?_
                exact kJ32 _ _ _ hf
              refine kw_icmp_eq C 153 dX9_when_138 rfl (fun c48 => ?_) (fun c48 => ?_)
              · have hf := if_p c48 hf
                refine kw_sub [0, 1, 2, 3, 6] _ rfl ?_
                exact kJ46 _ hf
              · have hf := if_n c48 hf
                refine kw_aload_n C dX9_when_141 rfl 0 rfl ?_
                refine kw_get C inG9 _ (hO9 g σ42) rfl 8 (Nat.le_of_ble_eq_true rfl) mf_9_51 rfl rfl dX9_when_142 ?_
                refine kw_get C inG4 _ (hO4 g σ42 6 (by simp [isSale])) rfl 9 (Nat.le_of_ble_eq_true rfl) mf_9_213 rfl rfl dX9_when_145 ?_
                refine kw_iload C dX9_when_148 5 rfl ?_
                refine kw_icmp_ge C 166 dX9_when_150 rfl (fun c49 => ?_) (fun c49 => ?_)
                · have hf := if_p c49 hf
                  exact kJ32 _ _ _ hf
                · have hf := if_n c49 hf
                  refine kw_sub [0, 1, 2, 3, 6] _ rfl ?_
                  exact kJ46 _ hf
      · have hf := if_p c10 hf
        refine kw_sub [] _ rfl ?_
        exact kJ3 _ hf
set_option maxRecDepth 100000 in
set_option maxHeartbeats 4000000 in
theorem kX9_match (L : Launch) (D : va_G) (g : GwT) (t0 : Nat) (p0 : Int32) (σ : St) (r0 : Int32) (σ0 : St) (hf : fX9_match σ p0 = some (r0, σ0)) : CtI L D (ttG g) (wB g) t0 yX9_match cX9_match 5 (some .int) { frames := 7, cells := 0, slots := 0, locals := 169 } [.ref (g.1 0), .int p0] σ r0 σ0 := by
  refine CtI.of (own := RX9) (by decide) rfl (Nat.le_of_ble_eq_true rfl) [(0, .ref (g.1 0)), (1, .int p0)] rfl ?_
  intro X C hN K
  unfold fX9_match at hf
  refine kw_aload_n C dX9_match_0 rfl 0 rfl ?_
  refine kw_iload_n C dX9_match_1 rfl 1 rfl ?_
  obtain ⟨r2, hc1, hf⟩ := bd_elim hf
  refine kw_callVI C [.int p0] (kX9_isIn L D g t0 p0 σ _ hc1) RX9 mV_X9_139 ⟨rfl, rfl⟩ dd_X9_isIn ⟨Nat.le_of_ble_eq_true rfl, Nat.le_of_ble_eq_true rfl⟩ _ (hO9 g σ) rfl rfl rfl (Nat.le_of_ble_eq_true rfl) dX9_match_2 ?_
  refine kw_if_ne C 10 dX9_match_5 rfl (fun c3 => ?_) (fun c3 => ?_)
  · have hf := if_n c3 hf
    refine kw_bipush C (-2 : Int32) dX9_match_10 rfl ?_
    refine kw_istore_n C dX9_match_12 rfl hN (Nat.le_of_ble_eq_true rfl) [(2, .int (-2 : Int32)), (0, .ref (g.1 0)), (1, .int p0)] rfl ?_
    refine kw_iconst C (0 : Int32) dX9_match_13 rfl ?_
    refine kw_istore_n C dX9_match_14 rfl hN (Nat.le_of_ble_eq_true rfl) [(3, .int (0 : Int32)), (2, .int (-2 : Int32)), (0, .ref (g.1 0)), (1, .int p0)] rfl ?_
    refine kw_sub [2, 3, 1, 0] _ rfl ?_
    refine lpx3_walk (P := fun (x4 : Int32) (x5 : Int32) (σ6 : St) => KW X σ6 15 [(0, .ref (g.1 0)), (1, .int p0), (2, .int x4), (3, .int x5)] []) ?_ FU _ _ _ hf
    intro self7 x4 x5 σ6 ih8 hf
    refine kw_iload_n C dX9_match_15 rfl 3 rfl ?_
    refine kw_aload_n C dX9_match_16 rfl 0 rfl ?_
    refine kw_get C inG9 _ (hO9 g σ6) rfl 2 (Nat.le_of_ble_eq_true rfl) mf_9_22 rfl rfl dX9_match_17 ?_
    refine kw_get C inG6 _ (hO6 g σ6 (gR σ6 0)) rfl 1 (Nat.le_of_ble_eq_true rfl) mf_9_119 rfl rfl dX9_match_20 ?_
    refine kw_icmp_ge C 118 dX9_match_23 rfl (fun c9 => ?_) (fun c9 => ?_)
    · have hf := if_p c9 hf
      refine kw_iload_n C dX9_match_118 rfl 2 rfl ?_
      exact kw_iret C K dX9_match_119 hf
    · have hf := if_n c9 hf
      refine kw_iload_n C dX9_match_26 rfl 2 rfl ?_
      obtain ⟨J11, hJ11, hf⟩ := jnx1_elim hf
      have kJ11 : ∀ (x10 : Int32), J11 x10 = some (r0, σ0) → KW X σ6 56 [(0, .ref (g.1 0)), (1, .int p0), (2, .int x4), (3, .int x5)] [.int x10] := by
        clear hf
        intro x10 hf
        have hf := (hJ11 x10).symm.trans hf
        refine kw_istore C dX9_match_56 hN (Nat.le_of_ble_eq_true rfl) [(4, .int x10), (0, .ref (g.1 0)), (1, .int p0), (2, .int x4), (3, .int x5)] rfl ?_
        refine kw_iload C dX9_match_58 0 rfl ?_
        obtain ⟨J14, hJ14, hf⟩ := jnx2_elim hf
        have kJ14 : ∀ (x12 : Int32) (σ13 : St), J14 x12 σ13 = some (r0, σ0) → KW X σ13 112 [(0, .ref (g.1 0)), (1, .int p0), (2, .int x12), (3, .int x5)] [] := by
          clear hf
          intro x12 σ13 hf
          have hf := (hJ14 x12 σ13).symm.trans hf
          obtain ⟨x15, ex15, hf⟩ := lt_elim hf
          refine kw_iinc C x15 dX9_match_112 3 rfl ex15.symm hN (Nat.le_of_ble_eq_true rfl) [(3, .int x15), (0, .ref (g.1 0)), (1, .int p0), (2, .int x12)] rfl ?_
          refine kw_goto C 15 dX9_match_115 rfl ?_
          refine kw_sub [1, 2, 3, 0] _ rfl ?_
          exact ih8 _ _ _ hf
        refine kw_if_eq C 112 dX9_match_60 rfl (fun c16 => ?_) (fun c16 => ?_)
        · have hf := if_p c16 hf
          refine kw_sub [1, 2, 3, 4] _ rfl ?_
          exact kJ14 _ _ hf
        · have hf := if_n c16 hf
          refine kw_aload_n C dX9_match_63 rfl 1 rfl ?_
          refine kw_iload_n C dX9_match_64 rfl 2 rfl ?_
          refine kw_iload_n C dX9_match_65 rfl 4 rfl ?_
          obtain ⟨r18, hc17, hf⟩ := bd_elim hf
          refine kw_callVI C [.int p0, .int x5] (kX9_areTwoIn L D g t0 p0 x5 σ6 _ hc17) RX9 mV_X9_142 ⟨rfl, rfl⟩ dd_X9_areTwoIn ⟨Nat.le_of_ble_eq_true rfl, Nat.le_of_ble_eq_true rfl⟩ _ (hO9 g σ6) rfl rfl rfl (Nat.le_of_ble_eq_true rfl) dX9_match_66 ?_
          refine kw_if_eq C 112 dX9_match_69 rfl (fun c19 => ?_) (fun c19 => ?_)
          · have hf := if_p c19 hf
            refine kw_sub [1, 2, 3, 4] _ rfl ?_
            exact kJ14 _ _ hf
          · have hf := if_n c19 hf
            refine kw_aload_n C dX9_match_72 rfl 1 rfl ?_
            obtain ⟨σ21, hc20, hf⟩ := bV_elim hf
            refine kw_callVV C [] (kX9_tryAsItGoes L D g t0 σ6 _ hc20) RX9 mV_X9_279 ⟨rfl, rfl⟩ dd_X9_tryAsItGoes ⟨Nat.le_of_ble_eq_true rfl, Nat.le_of_ble_eq_true rfl⟩ _ (hO9 g σ6) rfl rfl rfl (Nat.le_of_ble_eq_true rfl) dX9_match_73 ?_
            refine kw_aload_n C dX9_match_76 rfl 1 rfl ?_
            refine kw_get C inG9 _ (hO9 g σ21) rfl 8 (Nat.le_of_ble_eq_true rfl) mf_9_51 rfl rfl dX9_match_77 ?_
            refine kw_iload_n C dX9_match_80 rfl 2 rfl ?_
            refine kw_iload_n C dX9_match_81 rfl 4 rfl ?_
            obtain ⟨σ23, hc22, hf⟩ := bV_elim hf
            refine kw_callVV C [.int p0, .int x5] (kX4_wed L D g t0 6 (by simp [isSale]) p0 x5 σ21 _ hc22) RX4 mV_X9_259 ⟨rfl, rfl⟩ dd_X4_wed ⟨Nat.le_of_ble_eq_true rfl, Nat.le_of_ble_eq_true rfl⟩ _ (hO4 g σ21 6 (by simp [isSale])) rfl rfl rfl (Nat.le_of_ble_eq_true rfl) dX9_match_82 ?_
            refine kw_aload_n C dX9_match_85 rfl 1 rfl ?_
            refine kw_get C inG9 _ (hO9 g σ23) rfl 14 (Nat.le_of_ble_eq_true rfl) mf_9_83 rfl rfl dX9_match_86 ?_
            refine kw_aload_n C dX9_match_89 rfl 1 rfl ?_
            refine kw_get C inG9 _ (hO9 g σ23) rfl 8 (Nat.le_of_ble_eq_true rfl) mf_9_51 rfl rfl dX9_match_90 ?_
            refine kw_bipush C (120 : Int32) dX9_match_93 rfl ?_
            obtain ⟨r25, σ26, hc24, hf⟩ := bI_elim hf
            refine kw_callVI C [.ref (g.1 6), .int (120 : Int32)] (kX0_yearsToFall L D g t0 6 (by simp [isSale]) (120 : Int32) σ23 _ _ hc24) RX0 mV_X9_285 ⟨rfl, rfl⟩ dd_X0_yearsToFall ⟨Nat.le_of_ble_eq_true rfl, Nat.le_of_ble_eq_true rfl⟩ _ (hO0 g σ23) rfl rfl rfl (Nat.le_of_ble_eq_true rfl) dX9_match_95 ?_
            refine kw_pop C dX9_match_98 rfl ?_
            refine kw_aload_n C dX9_match_99 rfl 1 rfl ?_
            refine kw_get C inG9 _ (hO9 g σ26) rfl 8 (Nat.le_of_ble_eq_true rfl) mf_9_51 rfl rfl dX9_match_100 ?_
            refine kw_iload_n C dX9_match_103 rfl 2 rfl ?_
            obtain ⟨r28, hc27, hf⟩ := bd_elim hf
            refine kw_callVI C [.int p0] (kX4_hasFallenTo L D g t0 6 (by simp [isSale]) p0 σ26 _ hc27) RX4 mV_X9_326 ⟨rfl, rfl⟩ dd_X4_hasFallenTo ⟨Nat.le_of_ble_eq_true rfl, Nat.le_of_ble_eq_true rfl⟩ _ (hO4 g σ26 6 (by simp [isSale])) rfl rfl rfl (Nat.le_of_ble_eq_true rfl) dX9_match_104 ?_
            refine kw_if_eq C 112 dX9_match_107 rfl (fun c29 => ?_) (fun c29 => ?_)
            · have hf := if_p c29 hf
              refine kw_sub [1, 2, 3, 4] _ rfl ?_
              exact kJ14 _ _ hf
            · have hf := if_n c29 hf
              refine kw_iload_n C dX9_match_110 rfl 4 rfl ?_
              refine kw_istore_n C dX9_match_111 rfl hN (Nat.le_of_ble_eq_true rfl) [(2, .int x5), (4, .int x10), (0, .ref (g.1 0)), (1, .int p0), (3, .int x5)] rfl ?_
              refine kw_sub [2, 3, 0, 4] _ rfl ?_
              exact kJ14 _ _ hf
      obtain ⟨J30, hJ30, hf⟩ := jnx1_elim hf
      have kJ30 : ∀ (u9 : Unit), J30 u9 = some (r0, σ0) → KW X σ6 51 [(0, .ref (g.1 0)), (1, .int p0), (2, .int x4), (3, .int x5)] [] := by
        clear hf
        intro u9 hf
        have hf := (hJ30 u9).symm.trans hf
        refine kw_iconst C (1 : Int32) dX9_match_51 rfl ?_
        refine kw_goto C 56 dX9_match_52 rfl ?_
        exact kJ11 _ hf
      refine kw_if_lt C 51 dX9_match_27 rfl (fun c31 => ?_) (fun c31 => ?_)
      · have hf := if_p c31 hf
        exact kJ30 _ hf
      · have hf := if_n c31 hf
        refine kw_aload_n C dX9_match_30 rfl 0 rfl ?_
        refine kw_get C inG9 _ (hO9 g σ6) rfl 7 (Nat.le_of_ble_eq_true rfl) mf_9_47 rfl rfl dX9_match_31 ?_
        refine kw_get C inG4 _ (hO4 g σ6 5 (by simp [isSale])) rfl 0 (Nat.le_of_ble_eq_true rfl) mf_9_153 rfl rfl dX9_match_34 ?_
        refine kw_iload_n C dX9_match_37 rfl 3 rfl ?_
        obtain ⟨h32, hf⟩ := gd_elim hf
        refine kw_iald C _ 0 (hA4_0 g σ6 5 (by simp [isSale])) rfl h32 dX9_match_38 ?_
        refine kw_aload_n C dX9_match_39 rfl 0 rfl ?_
        refine kw_get C inG9 _ (hO9 g σ6) rfl 7 (Nat.le_of_ble_eq_true rfl) mf_9_47 rfl rfl dX9_match_40 ?_
        refine kw_get C inG4 _ (hO4 g σ6 5 (by simp [isSale])) rfl 0 (Nat.le_of_ble_eq_true rfl) mf_9_153 rfl rfl dX9_match_43 ?_
        refine kw_iload_n C dX9_match_46 rfl 2 rfl ?_
        obtain ⟨h33, hf⟩ := gd_elim hf
        refine kw_iald C _ 0 (hA4_0 g σ6 5 (by simp [isSale])) rfl h33 dX9_match_47 ?_
        refine kw_icmp_ge C 55 dX9_match_48 rfl (fun c34 => ?_) (fun c34 => ?_)
        · have hf := if_p c34 hf
          refine kw_iconst C (0 : Int32) dX9_match_55 rfl ?_
          exact kJ11 _ hf
        · have hf := if_n c34 hf
          exact kJ30 _ hf
  · have hf := if_p c3 hf
    refine kw_iconst C (-1 : Int32) dX9_match_8 rfl ?_
    exact kw_iret C K dX9_match_9 hf
set_option maxRecDepth 100000 in
set_option maxHeartbeats 4000000 in
theorem kX9_isFewer (L : Launch) (D : va_G) (g : GwT) (t0 : Nat) (p0 : Int32) (p1 : Int32) (σ : St) (r0 : Int32) (hf : fX9_isFewer σ p0 p1 = some r0) : CtI L D (ttG g) (wB g) t0 yX9_isFewer cX9_isFewer 2 (some .boolean) { frames := 1, cells := 0, slots := 0, locals := 20 } [.int p0, .int p1] σ r0 σ := by
  refine CtI.of (own := RX9) (by decide) rfl (Nat.le_of_ble_eq_true rfl) [(0, .int p0), (1, .int p1)] rfl ?_
  intro X C hN K
  unfold fX9_isFewer at hf
  refine kw_iload_n C dX9_isFewer_0 rfl 1 rfl ?_
  obtain ⟨J2, hJ2, hf⟩ := jnx1_elim hf
  have kJ2 : ∀ (x1 : Int32), J2 x1 = some r0 → KW X σ 20 [] [.int x1] := by
    clear hf
    intro x1 hf
    have hf := (hJ2 x1).symm.trans hf
    obtain ⟨h3, hf⟩ := gd_elim hf
    exact kw_zret C K h3 dX9_isFewer_20 (pr_ret hf)
  obtain ⟨J4, hJ4, hf⟩ := jnx1_elim hf
  have kJ4 : ∀ (u9 : Unit), J4 u9 = some r0 → KW X σ 15 [] [] := by
    clear hf
    intro u9 hf
    have hf := (hJ4 u9).symm.trans hf
    refine kw_iconst C (1 : Int32) dX9_isFewer_15 rfl ?_
    refine kw_goto C 20 dX9_isFewer_16 rfl ?_
    exact kJ2 _ hf
  refine kw_if_lt C 15 dX9_isFewer_1 rfl (fun c5 => ?_) (fun c5 => ?_)
  · have hf := if_p c5 hf
    refine kw_sub [] _ rfl ?_
    exact kJ4 _ hf
  · have hf := if_n c5 hf
    refine kw_iload_n C dX9_isFewer_4 rfl 0 rfl ?_
    obtain ⟨r7, hc6, hf⟩ := bd_elim hf
    refine kw_callTI C [.int p0] (kJ6_bitCount_0f7a4 L D g t0 p0 σ _ hc6) mT_X9_228 ⟨rfl, rfl⟩ dd_J6_bitCount_0f7a4.2 ⟨Nat.le_of_ble_eq_true rfl, Nat.le_of_ble_eq_true rfl⟩ rfl (Nat.le_of_ble_eq_true rfl) dX9_isFewer_5 ?_
    refine kw_iload_n C dX9_isFewer_8 rfl 1 rfl ?_
    obtain ⟨r9, hc8, hf⟩ := bd_elim hf
    refine kw_callTI C [.int p1] (kJ6_bitCount_0f7a4 L D g t0 p1 σ _ hc8) mT_X9_228 ⟨rfl, rfl⟩ dd_J6_bitCount_0f7a4.2 ⟨Nat.le_of_ble_eq_true rfl, Nat.le_of_ble_eq_true rfl⟩ rfl (Nat.le_of_ble_eq_true rfl) dX9_isFewer_9 ?_
    refine kw_icmp_ge C 19 dX9_isFewer_12 rfl (fun c10 => ?_) (fun c10 => ?_)
    · have hf := if_p c10 hf
      refine kw_iconst C (0 : Int32) dX9_isFewer_19 rfl ?_
      refine kw_sub [] _ rfl ?_
      exact kJ2 _ hf
    · have hf := if_n c10 hf
      refine kw_sub [] _ rfl ?_
      exact kJ4 _ hf
set_option maxRecDepth 100000 in
set_option maxHeartbeats 4000000 in
theorem kX9_hush (L : Launch) (D : va_G) (g : GwT) (t0 : Nat) (p0 : Int32) (p1 : Int32) (σ : St) (r0 : Int32) (σ0 : St) (hf : fX9_hush σ p0 p1 = some (r0, σ0)) : CtI L D (ttG g) (wB g) t0 yX9_hush cX9_hush 6 (some .int) { frames := 7, cells := 0, slots := 0, locals := 169 } [.ref (g.1 0), .int p0, .int p1] σ r0 σ0 := by
  refine CtI.of (own := RX9) (by decide) rfl (Nat.le_of_ble_eq_true rfl) [(0, .ref (g.1 0)), (1, .int p0), (2, .int p1)] rfl ?_
  intro X C hN K
  unfold fX9_hush at hf
  refine kw_aload_n C dX9_hush_0 rfl 0 rfl ?_
  refine kw_iload_n C dX9_hush_1 rfl 1 rfl ?_
  obtain ⟨r2, hc1, hf⟩ := bd_elim hf
  refine kw_callVI C [.int p0] (kX9_isIn L D g t0 p0 σ _ hc1) RX9 mV_X9_139 ⟨rfl, rfl⟩ dd_X9_isIn ⟨Nat.le_of_ble_eq_true rfl, Nat.le_of_ble_eq_true rfl⟩ _ (hO9 g σ) rfl rfl rfl (Nat.le_of_ble_eq_true rfl) dX9_hush_2 ?_
  obtain ⟨J3, hJ3, hf⟩ := jnx1_elim hf
  have kJ3 : ∀ (u9 : Unit), J3 u9 = some (r0, σ0) → KW X σ 18 [] [] := by
    clear hf
    intro u9 hf
    have hf := (hJ3 u9).symm.trans hf
    refine kw_iconst C (-1 : Int32) dX9_hush_18 rfl ?_
    exact kw_iret C K dX9_hush_19 hf
  refine kw_if_eq C 18 dX9_hush_5 rfl (fun c4 => ?_) (fun c4 => ?_)
  · have hf := if_p c4 hf
    refine kw_sub [] _ rfl ?_
    exact kJ3 _ hf
  · have hf := if_n c4 hf
    refine kw_iload_n C dX9_hush_8 rfl 2 rfl ?_
    refine kw_iconst C (1 : Int32) dX9_hush_9 rfl ?_
    refine kw_bipush C (40 : Int32) dX9_hush_10 rfl ?_
    obtain ⟨r6, hc5, hf⟩ := bd_elim hf
    refine kw_callSI C [.int p1, .int (1 : Int32), .int (40 : Int32)] (kX9_isWithin L D g t0 p1 (1 : Int32) (40 : Int32) σ _ hc5) mS_X9_188 ⟨rfl, rfl⟩ dd_X9_isWithin ⟨Nat.le_of_ble_eq_true rfl, Nat.le_of_ble_eq_true rfl⟩ rfl (Nat.le_of_ble_eq_true rfl) dX9_hush_12 ?_
    refine kw_if_ne C 20 dX9_hush_15 rfl (fun c7 => ?_) (fun c7 => ?_)
    · have hf := if_n c7 hf
      refine kw_aload_n C dX9_hush_20 rfl 0 rfl ?_
      refine kw_get C inG9 _ (hO9 g σ) rfl 7 (Nat.le_of_ble_eq_true rfl) mf_9_47 rfl rfl dX9_hush_21 ?_
      refine kw_get C inG4 _ (hO4 g σ 5 (by simp [isSale])) rfl 6 (Nat.le_of_ble_eq_true rfl) mf_9_225 rfl rfl dX9_hush_24 ?_
      refine kw_iconst C (1 : Int32) dX9_hush_27 rfl ?_
      refine kw_iload_n C dX9_hush_28 rfl 1 rfl ?_
      refine kw_ishl C dX9_hush_29 ?_
      refine kw_iconst C (-1 : Int32) dX9_hush_30 rfl ?_
      refine kw_ixor C dX9_hush_31 ?_
      refine kw_iand C dX9_hush_32 ?_
      obtain ⟨x8, ex8, hf⟩ := lt_elim hf
      refine kw_topi ex8 ?_
      refine kw_istore_n C dX9_hush_33 rfl hN (Nat.le_of_ble_eq_true rfl) [(3, .int x8), (0, .ref (g.1 0)), (1, .int p0), (2, .int p1)] rfl ?_
      refine kw_bipush C (-2 : Int32) dX9_hush_34 rfl ?_
      refine kw_istore C dX9_hush_36 hN (Nat.le_of_ble_eq_true rfl) [(4, .int (-2 : Int32)), (3, .int x8), (0, .ref (g.1 0)), (1, .int p0), (2, .int p1)] rfl ?_
      refine kw_iconst C (0 : Int32) dX9_hush_38 rfl ?_
      refine kw_istore C dX9_hush_39 hN (Nat.le_of_ble_eq_true rfl) [(5, .int (0 : Int32)), (4, .int (-2 : Int32)), (3, .int x8), (0, .ref (g.1 0)), (1, .int p0), (2, .int p1)] rfl ?_
      refine kw_sub [3, 4, 5, 2, 1, 0] _ rfl ?_
      refine lpx3_walk (P := fun (x9 : Int32) (x10 : Int32) (σ11 : St) => KW X σ11 41 [(0, .ref (g.1 0)), (1, .int p0), (2, .int p1), (3, .int x8), (4, .int x9), (5, .int x10)] []) ?_ FU _ _ _ hf
      intro self12 x9 x10 σ11 ih13 hf
      refine kw_iload C dX9_hush_41 5 rfl ?_
      refine kw_bipush C (64 : Int32) dX9_hush_43 rfl ?_
      refine kw_icmp_ge C 113 dX9_hush_45 rfl (fun c14 => ?_) (fun c14 => ?_)
      · have hf := if_p c14 hf
        refine kw_iload C dX9_hush_113 4 rfl ?_
        exact kw_iret C K dX9_hush_115 hf
      · have hf := if_n c14 hf
        refine kw_iload C dX9_hush_48 5 rfl ?_
        refine kw_iload_n C dX9_hush_50 rfl 3 rfl ?_
        refine kw_iconst C (-1 : Int32) dX9_hush_51 rfl ?_
        refine kw_ixor C dX9_hush_52 ?_
        refine kw_iand C dX9_hush_53 ?_
        obtain ⟨J17, hJ17, hf⟩ := jnx2_elim hf
        have kJ17 : ∀ (x15 : Int32) (σ16 : St), J17 x15 σ16 = some (r0, σ0) → KW X σ16 107 [(0, .ref (g.1 0)), (1, .int p0), (2, .int p1), (3, .int x8), (4, .int x15), (5, .int x10)] [] := by
          clear hf
          intro x15 σ16 hf
          have hf := (hJ17 x15 σ16).symm.trans hf
          obtain ⟨x18, ex18, hf⟩ := lt_elim hf
          refine kw_iinc C x18 dX9_hush_107 5 rfl ex18.symm hN (Nat.le_of_ble_eq_true rfl) [(5, .int x18), (0, .ref (g.1 0)), (1, .int p0), (2, .int p1), (3, .int x8), (4, .int x15)] rfl ?_
          refine kw_goto C 41 dX9_hush_110 rfl ?_
          refine kw_sub [1, 2, 3, 4, 5, 0] _ rfl ?_
          exact ih13 _ _ _ hf
        refine kw_if_ne C 107 dX9_hush_54 rfl (fun c19 => ?_) (fun c19 => ?_)
        · have hf := if_n c19 hf
          exact kJ17 _ _ hf
        · have hf := if_p c19 hf
          refine kw_iload C dX9_hush_57 5 rfl ?_
          refine kw_iload C dX9_hush_59 4 rfl ?_
          obtain ⟨r21, hc20, hf⟩ := bd_elim hf
          refine kw_callSI C [.int x10, .int x9] (kX9_isFewer L D g t0 x10 x9 σ11 _ hc20) mS_X9_329 ⟨rfl, rfl⟩ dd_X9_isFewer ⟨Nat.le_of_ble_eq_true rfl, Nat.le_of_ble_eq_true rfl⟩ rfl (Nat.le_of_ble_eq_true rfl) dX9_hush_61 ?_
          refine kw_if_eq C 107 dX9_hush_64 rfl (fun c22 => ?_) (fun c22 => ?_)
          · have hf := if_p c22 hf
            exact kJ17 _ _ hf
          · have hf := if_n c22 hf
            refine kw_aload_n C dX9_hush_67 rfl 0 rfl ?_
            obtain ⟨σ24, hc23, hf⟩ := bV_elim hf
            refine kw_callVV C [] (kX9_tryAsItGoes L D g t0 σ11 _ hc23) RX9 mV_X9_279 ⟨rfl, rfl⟩ dd_X9_tryAsItGoes ⟨Nat.le_of_ble_eq_true rfl, Nat.le_of_ble_eq_true rfl⟩ _ (hO9 g σ11) rfl rfl rfl (Nat.le_of_ble_eq_true rfl) dX9_hush_68 ?_
            refine kw_aload_n C dX9_hush_71 rfl 0 rfl ?_
            refine kw_get C inG9 _ (hO9 g σ24) rfl 14 (Nat.le_of_ble_eq_true rfl) mf_9_83 rfl rfl dX9_hush_72 ?_
            refine kw_iload C dX9_hush_75 5 rfl ?_
            obtain ⟨σ25, eσ25, hf⟩ := lt_elim hf
            refine kw_put C inG0 tyX0 tyX0_ok nmX0 _ (hO0 g σ24) rfl 6 (Nat.le_of_ble_eq_true rfl) mf_9_295 rfl rfl (tyX0_ok 6 (Nat.le_of_ble_eq_true rfl)) rfl rfl (Nat.le_of_ble_eq_true rfl) ((hF0_6 g σ24 _).trans (congrArg (wB g) eσ25.symm)) dX9_hush_77 ?_
            refine kw_aload_n C dX9_hush_80 rfl 0 rfl ?_
            refine kw_get C inG9 _ (hO9 g σ25) rfl 14 (Nat.le_of_ble_eq_true rfl) mf_9_83 rfl rfl dX9_hush_81 ?_
            refine kw_aload_n C dX9_hush_84 rfl 0 rfl ?_
            refine kw_get C inG9 _ (hO9 g σ25) rfl 8 (Nat.le_of_ble_eq_true rfl) mf_9_51 rfl rfl dX9_hush_85 ?_
            refine kw_iload_n C dX9_hush_88 rfl 2 rfl ?_
            obtain ⟨σ27, hc26, hf⟩ := bV_elim hf
            refine kw_callVV C [.ref (g.1 6), .int p1] (kX0_passYears L D g t0 6 (by simp [isSale]) p1 σ25 _ hc26) RX0 mV_X9_282 ⟨rfl, rfl⟩ dd_X0_passYears ⟨Nat.le_of_ble_eq_true rfl, Nat.le_of_ble_eq_true rfl⟩ _ (hO0 g σ25) rfl rfl rfl (Nat.le_of_ble_eq_true rfl) dX9_hush_89 ?_
            refine kw_aload_n C dX9_hush_92 rfl 0 rfl ?_
            refine kw_get C inG9 _ (hO9 g σ27) rfl 8 (Nat.le_of_ble_eq_true rfl) mf_9_51 rfl rfl dX9_hush_93 ?_
            refine kw_get C inG4 _ (hO4 g σ27 6 (by simp [isSale])) rfl 10 (Nat.le_of_ble_eq_true rfl) mf_9_216 rfl rfl dX9_hush_96 ?_
            refine kw_iload_n C dX9_hush_99 rfl 1 rfl ?_
            refine kw_icmp_ne C 107 dX9_hush_100 rfl (fun c28 => ?_) (fun c28 => ?_)
            · have hf := if_n c28 hf
              exact kJ17 _ _ hf
            · have hf := if_p c28 hf
              refine kw_iload C dX9_hush_103 5 rfl ?_
              refine kw_istore C dX9_hush_105 hN (Nat.le_of_ble_eq_true rfl) [(4, .int x10), (0, .ref (g.1 0)), (1, .int p0), (2, .int p1), (3, .int x8), (5, .int x10)] rfl ?_
              refine kw_sub [1, 2, 3, 4, 0, 5] _ rfl ?_
              exact kJ17 _ _ hf
    · have hf := if_p c7 hf
      refine kw_sub [] _ rfl ?_
      exact kJ3 _ hf
set_option maxRecDepth 100000 in
set_option maxHeartbeats 4000000 in
theorem kX9_sumOfBounds (L : Launch) (D : va_G) (g : GwT) (t0 : Nat) (p0 : Int32) (σ : St) (r0 : Int32) (hf : fX9_sumOfBounds σ p0 = some r0) : CtI L D (ttG g) (wB g) t0 yX9_sumOfBounds cX9_sumOfBounds 4 (some .int) { frames := 0, cells := 0, slots := 0, locals := 0 } [.ref (g.1 0), .int p0] σ r0 σ := by
  refine CtI.of (own := RX9) (by decide) rfl (Nat.le_of_ble_eq_true rfl) [(0, .ref (g.1 0)), (1, .int p0)] rfl ?_
  intro X C hN K
  unfold fX9_sumOfBounds at hf
  refine kw_iconst C (0 : Int32) dX9_sumOfBounds_0 rfl ?_
  refine kw_istore_n C dX9_sumOfBounds_1 rfl hN (Nat.le_of_ble_eq_true rfl) [(2, .int (0 : Int32)), (0, .ref (g.1 0)), (1, .int p0)] rfl ?_
  refine kw_iconst C (0 : Int32) dX9_sumOfBounds_2 rfl ?_
  refine kw_istore_n C dX9_sumOfBounds_3 rfl hN (Nat.le_of_ble_eq_true rfl) [(3, .int (0 : Int32)), (2, .int (0 : Int32)), (0, .ref (g.1 0)), (1, .int p0)] rfl ?_
  refine kw_sub [2, 3, 1, 0] _ rfl ?_
  refine lpx2_walk (P := fun (x1 : Int32) (x2 : Int32) => KW X σ 4 [(0, .ref (g.1 0)), (1, .int p0), (2, .int x1), (3, .int x2)] []) ?_ FU _ _ hf
  intro self3 x1 x2 ih4 hf
  refine kw_iload_n C dX9_sumOfBounds_4 rfl 3 rfl ?_
  refine kw_aload_n C dX9_sumOfBounds_5 rfl 0 rfl ?_
  refine kw_get C inG9 _ (hO9 g σ) rfl 2 (Nat.le_of_ble_eq_true rfl) mf_9_22 rfl rfl dX9_sumOfBounds_6 ?_
  refine kw_get C inG6 _ (hO6 g σ (gR σ 0)) rfl 1 (Nat.le_of_ble_eq_true rfl) mf_9_119 rfl rfl dX9_sumOfBounds_9 ?_
  refine kw_icmp_ge C 39 dX9_sumOfBounds_12 rfl (fun c5 => ?_) (fun c5 => ?_)
  · have hf := if_p c5 hf
    refine kw_iload_n C dX9_sumOfBounds_39 rfl 2 rfl ?_
    exact kw_iret C K dX9_sumOfBounds_40 (pr_ret hf)
  · have hf := if_n c5 hf
    refine kw_iload_n C dX9_sumOfBounds_15 rfl 2 rfl ?_
    refine kw_iload_n C dX9_sumOfBounds_16 rfl 1 rfl ?_
    refine kw_iload_n C dX9_sumOfBounds_17 rfl 3 rfl ?_
    refine kw_ishr C dX9_sumOfBounds_18 ?_
    refine kw_iconst C (1 : Int32) dX9_sumOfBounds_19 rfl ?_
    refine kw_iand C dX9_sumOfBounds_20 ?_
    refine kw_aload_n C dX9_sumOfBounds_21 rfl 0 rfl ?_
    refine kw_get C inG9 _ (hO9 g σ) rfl 7 (Nat.le_of_ble_eq_true rfl) mf_9_47 rfl rfl dX9_sumOfBounds_22 ?_
    refine kw_get C inG4 _ (hO4 g σ 5 (by simp [isSale])) rfl 0 (Nat.le_of_ble_eq_true rfl) mf_9_153 rfl rfl dX9_sumOfBounds_25 ?_
    refine kw_iload_n C dX9_sumOfBounds_28 rfl 3 rfl ?_
    obtain ⟨h6, hf⟩ := gd_elim hf
    refine kw_iald C _ 0 (hA4_0 g σ 5 (by simp [isSale])) rfl h6 dX9_sumOfBounds_29 ?_
    refine kw_imul C dX9_sumOfBounds_30 ?_
    refine kw_iadd C dX9_sumOfBounds_31 ?_
    obtain ⟨x7, ex7, hf⟩ := lt_elim hf
    refine kw_topi ex7 ?_
    refine kw_istore_n C dX9_sumOfBounds_32 rfl hN (Nat.le_of_ble_eq_true rfl) [(2, .int x7), (0, .ref (g.1 0)), (1, .int p0), (3, .int x2)] rfl ?_
    obtain ⟨x8, ex8, hf⟩ := lt_elim hf
    refine kw_iinc C x8 dX9_sumOfBounds_33 3 rfl ex8.symm hN (Nat.le_of_ble_eq_true rfl) [(3, .int x8), (2, .int x7), (0, .ref (g.1 0)), (1, .int p0)] rfl ?_
    refine kw_goto C 4 dX9_sumOfBounds_36 rfl ?_
    refine kw_sub [2, 3, 1, 0] _ rfl ?_
    exact ih4 _ _ hf
set_option maxRecDepth 100000 in
set_option maxHeartbeats 4000000 in
theorem kX9_leastStep (L : Launch) (D : va_G) (g : GwT) (t0 : Nat) (p0 : Int32) (σ : St) (r0 : Int32) (hf : fX9_leastStep σ p0 = some r0) : CtI L D (ttG g) (wB g) t0 yX9_leastStep cX9_leastStep 4 (some .int) { frames := 1, cells := 0, slots := 0, locals := 23 } [.ref (g.1 0), .int p0] σ r0 σ := by
  refine CtI.of (own := RX9) (by decide) rfl (Nat.le_of_ble_eq_true rfl) [(0, .ref (g.1 0)), (1, .int p0)] rfl ?_
  intro X C hN K
  unfold fX9_leastStep at hf
  refine kw_ldcw C dX9_leastStep_0 mk_X9_341 ?_
  refine kw_istore_n C dX9_leastStep_3 rfl hN (Nat.le_of_ble_eq_true rfl) [(2, .int (2147483647 : Int32)), (0, .ref (g.1 0)), (1, .int p0)] rfl ?_
  refine kw_iconst C (0 : Int32) dX9_leastStep_4 rfl ?_
  refine kw_istore_n C dX9_leastStep_5 rfl hN (Nat.le_of_ble_eq_true rfl) [(3, .int (0 : Int32)), (2, .int (2147483647 : Int32)), (0, .ref (g.1 0)), (1, .int p0)] rfl ?_
  refine kw_sub [2, 3, 1, 0] _ rfl ?_
  refine lpx2_walk (P := fun (x1 : Int32) (x2 : Int32) => KW X σ 6 [(0, .ref (g.1 0)), (1, .int p0), (2, .int x1), (3, .int x2)] []) ?_ FU _ _ hf
  intro self3 x1 x2 ih4 hf
  refine kw_iload_n C dX9_leastStep_6 rfl 3 rfl ?_
  refine kw_aload_n C dX9_leastStep_7 rfl 0 rfl ?_
  refine kw_get C inG9 _ (hO9 g σ) rfl 2 (Nat.le_of_ble_eq_true rfl) mf_9_22 rfl rfl dX9_leastStep_8 ?_
  refine kw_get C inG6 _ (hO6 g σ (gR σ 0)) rfl 1 (Nat.le_of_ble_eq_true rfl) mf_9_119 rfl rfl dX9_leastStep_11 ?_
  refine kw_icmp_ge C 46 dX9_leastStep_14 rfl (fun c5 => ?_) (fun c5 => ?_)
  · have hf := if_p c5 hf
    refine kw_iload_n C dX9_leastStep_46 rfl 2 rfl ?_
    exact kw_iret C K dX9_leastStep_47 (pr_ret hf)
  · have hf := if_n c5 hf
    refine kw_iload_n C dX9_leastStep_17 rfl 1 rfl ?_
    refine kw_iload_n C dX9_leastStep_18 rfl 3 rfl ?_
    refine kw_ishr C dX9_leastStep_19 ?_
    refine kw_iconst C (1 : Int32) dX9_leastStep_20 rfl ?_
    refine kw_iand C dX9_leastStep_21 ?_
    refine kw_iconst C (1 : Int32) dX9_leastStep_22 rfl ?_
    obtain ⟨J7, hJ7, hf⟩ := jnx1_elim hf
    have kJ7 : ∀ (x6 : Int32), J7 x6 = some r0 → KW X σ 40 [(0, .ref (g.1 0)), (1, .int p0), (2, .int x6), (3, .int x2)] [] := by
      clear hf
      intro x6 hf
      have hf := (hJ7 x6).symm.trans hf
      obtain ⟨x8, ex8, hf⟩ := lt_elim hf
      refine kw_iinc C x8 dX9_leastStep_40 3 rfl ex8.symm hN (Nat.le_of_ble_eq_true rfl) [(3, .int x8), (0, .ref (g.1 0)), (1, .int p0), (2, .int x6)] rfl ?_
      refine kw_goto C 6 dX9_leastStep_43 rfl ?_
      refine kw_sub [1, 2, 3, 0] _ rfl ?_
      exact ih4 _ _ hf
    refine kw_icmp_ne C 40 dX9_leastStep_23 rfl (fun c9 => ?_) (fun c9 => ?_)
    · have hf := if_n c9 hf
      exact kJ7 _ hf
    · have hf := if_p c9 hf
      refine kw_iload_n C dX9_leastStep_26 rfl 2 rfl ?_
      refine kw_aload_n C dX9_leastStep_27 rfl 0 rfl ?_
      refine kw_get C inG9 _ (hO9 g σ) rfl 2 (Nat.le_of_ble_eq_true rfl) mf_9_22 rfl rfl dX9_leastStep_28 ?_
      refine kw_get C inG6 _ (hO6 g σ (gR σ 0)) rfl 5 (Nat.le_of_ble_eq_true rfl) mf_9_159 rfl rfl dX9_leastStep_31 ?_
      refine kw_iload_n C dX9_leastStep_34 rfl 3 rfl ?_
      obtain ⟨h10, hf⟩ := gd_elim hf
      refine kw_iald C _ 0 (hA6_5 g σ (gR σ 0)) rfl h10 dX9_leastStep_35 ?_
      refine kw_mmin C ml_X9_342 mst_min mi_Math mcode_min ⟨Nat.le_of_ble_eq_true rfl, Nat.le_of_ble_eq_true rfl⟩ dX9_leastStep_36 ?_
      obtain ⟨x11, ex11, hf⟩ := lt_elim hf
      refine kw_topi ex11 ?_
      refine kw_istore_n C dX9_leastStep_39 rfl hN (Nat.le_of_ble_eq_true rfl) [(2, .int x11), (0, .ref (g.1 0)), (1, .int p0), (3, .int x2)] rfl ?_
      refine kw_sub [1, 2, 0, 3] _ rfl ?_
      exact kJ7 _ hf
set_option maxRecDepth 100000 in
set_option maxHeartbeats 4000000 in
theorem kX9_outbidsOthers (L : Launch) (D : va_G) (g : GwT) (t0 : Nat) (p0 : Int32) (σ : St) (r0 : Int32) (hf : fX9_outbidsOthers σ p0 = some r0) : CtI L D (ttG g) (wB g) t0 yX9_outbidsOthers cX9_outbidsOthers 5 (some .boolean) { frames := 2, cells := 0, slots := 0, locals := 46 } [.ref (g.1 0), .int p0] σ r0 σ := by
  refine CtI.of (own := RX9) (by decide) rfl (Nat.le_of_ble_eq_true rfl) [(0, .ref (g.1 0)), (1, .int p0)] rfl ?_
  intro X C hN K
  unfold fX9_outbidsOthers at hf
  refine kw_aload_n C dX9_outbidsOthers_0 rfl 0 rfl ?_
  refine kw_iload_n C dX9_outbidsOthers_1 rfl 1 rfl ?_
  obtain ⟨r2, hc1, hf⟩ := bd_elim hf
  refine kw_callVI C [.int p0] (kX9_sumOfBounds L D g t0 p0 σ _ hc1) RX9 mV_X9_335 ⟨rfl, rfl⟩ dd_X9_sumOfBounds ⟨Nat.le_of_ble_eq_true rfl, Nat.le_of_ble_eq_true rfl⟩ _ (hO9 g σ) rfl rfl rfl (Nat.le_of_ble_eq_true rfl) dX9_outbidsOthers_2 ?_
  refine kw_istore_n C dX9_outbidsOthers_5 rfl hN (Nat.le_of_ble_eq_true rfl) [(2, .int r2), (0, .ref (g.1 0)), (1, .int p0)] rfl ?_
  refine kw_iconst C (0 : Int32) dX9_outbidsOthers_6 rfl ?_
  refine kw_istore_n C dX9_outbidsOthers_7 rfl hN (Nat.le_of_ble_eq_true rfl) [(3, .int (0 : Int32)), (2, .int r2), (0, .ref (g.1 0)), (1, .int p0)] rfl ?_
  refine kw_sub [2, 3, 1, 0] _ rfl ?_
  refine lpx1_walk (P := fun (x3 : Int32) => KW X σ 8 [(0, .ref (g.1 0)), (1, .int p0), (2, .int r2), (3, .int x3)] []) ?_ FU _ hf
  intro self4 x3 ih5 hf
  refine kw_iload_n C dX9_outbidsOthers_8 rfl 3 rfl ?_
  refine kw_aload_n C dX9_outbidsOthers_9 rfl 0 rfl ?_
  refine kw_get C inG9 _ (hO9 g σ) rfl 2 (Nat.le_of_ble_eq_true rfl) mf_9_22 rfl rfl dX9_outbidsOthers_10 ?_
  refine kw_get C inG6 _ (hO6 g σ (gR σ 0)) rfl 1 (Nat.le_of_ble_eq_true rfl) mf_9_119 rfl rfl dX9_outbidsOthers_13 ?_
  refine kw_icmp_ge C 71 dX9_outbidsOthers_16 rfl (fun c6 => ?_) (fun c6 => ?_)
  · have hf := if_p c6 hf
    refine kw_iload_n C dX9_outbidsOthers_71 rfl 2 rfl ?_
    refine kw_aload_n C dX9_outbidsOthers_72 rfl 0 rfl ?_
    refine kw_get C inG9 _ (hO9 g σ) rfl 7 (Nat.le_of_ble_eq_true rfl) mf_9_47 rfl rfl dX9_outbidsOthers_73 ?_
    refine kw_get C inG4 _ (hO4 g σ 5 (by simp [isSale])) rfl 9 (Nat.le_of_ble_eq_true rfl) mf_9_213 rfl rfl dX9_outbidsOthers_76 ?_
    refine kw_aload_n C dX9_outbidsOthers_79 rfl 0 rfl ?_
    refine kw_iload_n C dX9_outbidsOthers_80 rfl 1 rfl ?_
    obtain ⟨r8, hc7, hf⟩ := bd_elim hf
    refine kw_callVI C [.int p0] (kX9_leastStep L D g t0 p0 σ _ hc7) RX9 mV_X9_338 ⟨rfl, rfl⟩ dd_X9_leastStep ⟨Nat.le_of_ble_eq_true rfl, Nat.le_of_ble_eq_true rfl⟩ _ (hO9 g σ) rfl rfl rfl (Nat.le_of_ble_eq_true rfl) dX9_outbidsOthers_81 ?_
    refine kw_iadd C dX9_outbidsOthers_84 ?_
    obtain ⟨J10, hJ10, hf⟩ := jnx1_elim hf
    have kJ10 : ∀ (x9 : Int32), J10 x9 = some r0 → KW X σ 93 [] [.int x9] := by
      clear hf
      intro x9 hf
      have hf := (hJ10 x9).symm.trans hf
      obtain ⟨h11, hf⟩ := gd_elim hf
      exact kw_zret C K h11 dX9_outbidsOthers_93 (pr_ret hf)
    refine kw_icmp_lt C 92 dX9_outbidsOthers_85 rfl (fun c12 => ?_) (fun c12 => ?_)
    · have hf := if_p c12 hf
      refine kw_iconst C (0 : Int32) dX9_outbidsOthers_92 rfl ?_
      refine kw_sub [] _ rfl ?_
      exact kJ10 _ hf
    · have hf := if_n c12 hf
      refine kw_iconst C (1 : Int32) dX9_outbidsOthers_88 rfl ?_
      refine kw_goto C 93 dX9_outbidsOthers_89 rfl ?_
      refine kw_sub [] _ rfl ?_
      exact kJ10 _ hf
  · have hf := if_n c6 hf
    refine kw_aload_n C dX9_outbidsOthers_19 rfl 0 rfl ?_
    refine kw_get C inG9 _ (hO9 g σ) rfl 7 (Nat.le_of_ble_eq_true rfl) mf_9_47 rfl rfl dX9_outbidsOthers_20 ?_
    refine kw_iload_n C dX9_outbidsOthers_23 rfl 3 rfl ?_
    obtain ⟨r14, hc13, hf⟩ := bd_elim hf
    refine kw_callVI C [.int x3] (kX4_holds L D g t0 5 (by simp [isSale]) x3 σ _ hc13) RX4 mV_X9_136 ⟨rfl, rfl⟩ dd_X4_holds ⟨Nat.le_of_ble_eq_true rfl, Nat.le_of_ble_eq_true rfl⟩ _ (hO4 g σ 5 (by simp [isSale])) rfl rfl rfl (Nat.le_of_ble_eq_true rfl) dX9_outbidsOthers_24 ?_
    obtain ⟨J16, hJ16, hf⟩ := jnx1_elim hf
    have kJ16 : ∀ (x15 : Int32), J16 x15 = some r0 → KW X σ 43 [(0, .ref (g.1 0)), (1, .int p0), (2, .int r2), (3, .int x3)] [.int x15] := by
      clear hf
      intro x15 hf
      have hf := (hJ16 x15).symm.trans hf
      refine kw_istore C dX9_outbidsOthers_43 hN (Nat.le_of_ble_eq_true rfl) [(4, .int x15), (0, .ref (g.1 0)), (1, .int p0), (2, .int r2), (3, .int x3)] rfl ?_
      refine kw_iload C dX9_outbidsOthers_45 0 rfl ?_
      obtain ⟨J17, hJ17, hf⟩ := jnx1_elim hf
      have kJ17 : ∀ (u9 : Unit), J17 u9 = some r0 → KW X σ 65 [(0, .ref (g.1 0)), (1, .int p0), (2, .int r2), (3, .int x3)] [] := by
        clear hf
        intro u9 hf
        have hf := (hJ17 u9).symm.trans hf
        obtain ⟨x18, ex18, hf⟩ := lt_elim hf
        refine kw_iinc C x18 dX9_outbidsOthers_65 3 rfl ex18.symm hN (Nat.le_of_ble_eq_true rfl) [(3, .int x18), (0, .ref (g.1 0)), (1, .int p0), (2, .int r2)] rfl ?_
        refine kw_goto C 8 dX9_outbidsOthers_68 rfl ?_
        refine kw_sub [1, 2, 3, 0] _ rfl ?_
        exact ih5 _ hf
      refine kw_if_eq C 65 dX9_outbidsOthers_47 rfl (fun c19 => ?_) (fun c19 => ?_)
      · have hf := if_p c19 hf
        refine kw_sub [1, 2, 3, 4] _ rfl ?_
        exact kJ17 _ hf
      · have hf := if_n c19 hf
        refine kw_aload_n C dX9_outbidsOthers_50 rfl 1 rfl ?_
        refine kw_get C inG9 _ (hO9 g σ) rfl 7 (Nat.le_of_ble_eq_true rfl) mf_9_47 rfl rfl dX9_outbidsOthers_51 ?_
        refine kw_get C inG4 _ (hO4 g σ 5 (by simp [isSale])) rfl 0 (Nat.le_of_ble_eq_true rfl) mf_9_153 rfl rfl dX9_outbidsOthers_54 ?_
        refine kw_iload_n C dX9_outbidsOthers_57 rfl 4 rfl ?_
        obtain ⟨h20, hf⟩ := gd_elim hf
        refine kw_iald C _ 0 (hA4_0 g σ 5 (by simp [isSale])) rfl h20 dX9_outbidsOthers_58 ?_
        refine kw_iload_n C dX9_outbidsOthers_59 rfl 3 rfl ?_
        refine kw_icmp_lt C 65 dX9_outbidsOthers_60 rfl (fun c21 => ?_) (fun c21 => ?_)
        · have hf := if_p c21 hf
          refine kw_sub [1, 2, 3, 4] _ rfl ?_
          exact kJ17 _ hf
        · have hf := if_n c21 hf
          refine kw_iconst C (0 : Int32) dX9_outbidsOthers_63 rfl ?_
          exact kw_zret C K (by decide) dX9_outbidsOthers_64 (pr_ret hf)
    obtain ⟨J22, hJ22, hf⟩ := jnx1_elim hf
    have kJ22 : ∀ (u9 : Unit), J22 u9 = some r0 → KW X σ 42 [(0, .ref (g.1 0)), (1, .int p0), (2, .int r2), (3, .int x3)] [] := by
      clear hf
      intro u9 hf
      have hf := (hJ22 u9).symm.trans hf
      refine kw_iconst C (0 : Int32) dX9_outbidsOthers_42 rfl ?_
      exact kJ16 _ hf
    refine kw_if_eq C 42 dX9_outbidsOthers_27 rfl (fun c23 => ?_) (fun c23 => ?_)
    · have hf := if_p c23 hf
      exact kJ22 _ hf
    · have hf := if_n c23 hf
      refine kw_iload_n C dX9_outbidsOthers_30 rfl 1 rfl ?_
      refine kw_iload_n C dX9_outbidsOthers_31 rfl 3 rfl ?_
      refine kw_ishr C dX9_outbidsOthers_32 ?_
      refine kw_iconst C (1 : Int32) dX9_outbidsOthers_33 rfl ?_
      refine kw_iand C dX9_outbidsOthers_34 ?_
      refine kw_if_ne C 42 dX9_outbidsOthers_35 rfl (fun c24 => ?_) (fun c24 => ?_)
      · have hf := if_n c24 hf
        exact kJ22 _ hf
      · have hf := if_p c24 hf
        refine kw_iconst C (1 : Int32) dX9_outbidsOthers_38 rfl ?_
        refine kw_goto C 43 dX9_outbidsOthers_39 rfl ?_
        exact kJ16 _ hf
set_option maxRecDepth 100000 in
set_option maxHeartbeats 4000000 in
theorem kX9_outbid (L : Launch) (D : va_G) (g : GwT) (t0 : Nat) (σ : St) (r0 : Int32) (hf : fX9_outbid σ  = some r0) : CtI L D (ttG g) (wB g) t0 yX9_outbid cX9_outbid 3 (some .int) { frames := 3, cells := 0, slots := 0, locals := 70 } [.ref (g.1 0)] σ r0 σ := by
  refine CtI.of (own := RX9) (by decide) rfl (Nat.le_of_ble_eq_true rfl) [(0, .ref (g.1 0))] rfl ?_
  intro X C hN K
  unfold fX9_outbid at hf
  refine kw_bipush C (-2 : Int32) dX9_outbid_0 rfl ?_
  refine kw_istore_n C dX9_outbid_2 rfl hN (Nat.le_of_ble_eq_true rfl) [(1, .int (-2 : Int32)), (0, .ref (g.1 0))] rfl ?_
  refine kw_iconst C (1 : Int32) dX9_outbid_3 rfl ?_
  refine kw_istore_n C dX9_outbid_4 rfl hN (Nat.le_of_ble_eq_true rfl) [(2, .int (1 : Int32)), (1, .int (-2 : Int32)), (0, .ref (g.1 0))] rfl ?_
  refine kw_sub [2, 1, 0] _ rfl ?_
  refine lpx2_walk (P := fun (x1 : Int32) (x2 : Int32) => KW X σ 5 [(0, .ref (g.1 0)), (1, .int x1), (2, .int x2)] []) ?_ FU _ _ hf
  intro self3 x1 x2 ih4 hf
  refine kw_iload_n C dX9_outbid_5 rfl 2 rfl ?_
  refine kw_bipush C (64 : Int32) dX9_outbid_6 rfl ?_
  refine kw_icmp_ge C 49 dX9_outbid_8 rfl (fun c5 => ?_) (fun c5 => ?_)
  · have hf := if_p c5 hf
    refine kw_iload_n C dX9_outbid_49 rfl 1 rfl ?_
    exact kw_iret C K dX9_outbid_50 (pr_ret hf)
  · have hf := if_n c5 hf
    refine kw_iload_n C dX9_outbid_11 rfl 2 rfl ?_
    refine kw_aload_n C dX9_outbid_12 rfl 0 rfl ?_
    refine kw_get C inG9 _ (hO9 g σ) rfl 7 (Nat.le_of_ble_eq_true rfl) mf_9_47 rfl rfl dX9_outbid_13 ?_
    refine kw_get C inG4 _ (hO4 g σ 5 (by simp [isSale])) rfl 6 (Nat.le_of_ble_eq_true rfl) mf_9_225 rfl rfl dX9_outbid_16 ?_
    refine kw_iconst C (-1 : Int32) dX9_outbid_19 rfl ?_
    refine kw_ixor C dX9_outbid_20 ?_
    refine kw_iand C dX9_outbid_21 ?_
    obtain ⟨J7, hJ7, hf⟩ := jnx1_elim hf
    have kJ7 : ∀ (x6 : Int32), J7 x6 = some r0 → KW X σ 43 [(0, .ref (g.1 0)), (1, .int x6), (2, .int x2)] [] := by
      clear hf
      intro x6 hf
      have hf := (hJ7 x6).symm.trans hf
      obtain ⟨x8, ex8, hf⟩ := lt_elim hf
      refine kw_iinc C x8 dX9_outbid_43 2 rfl ex8.symm hN (Nat.le_of_ble_eq_true rfl) [(2, .int x8), (0, .ref (g.1 0)), (1, .int x6)] rfl ?_
      refine kw_goto C 5 dX9_outbid_46 rfl ?_
      refine kw_sub [1, 2, 0] _ rfl ?_
      exact ih4 _ _ hf
    refine kw_if_ne C 43 dX9_outbid_22 rfl (fun c9 => ?_) (fun c9 => ?_)
    · have hf := if_n c9 hf
      exact kJ7 _ hf
    · have hf := if_p c9 hf
      refine kw_iload_n C dX9_outbid_25 rfl 2 rfl ?_
      refine kw_iload_n C dX9_outbid_26 rfl 1 rfl ?_
      obtain ⟨r11, hc10, hf⟩ := bd_elim hf
      refine kw_callSI C [.int x2, .int x1] (kX9_isFewer L D g t0 x2 x1 σ _ hc10) mS_X9_329 ⟨rfl, rfl⟩ dd_X9_isFewer ⟨Nat.le_of_ble_eq_true rfl, Nat.le_of_ble_eq_true rfl⟩ rfl (Nat.le_of_ble_eq_true rfl) dX9_outbid_27 ?_
      refine kw_if_eq C 43 dX9_outbid_30 rfl (fun c12 => ?_) (fun c12 => ?_)
      · have hf := if_p c12 hf
        exact kJ7 _ hf
      · have hf := if_n c12 hf
        refine kw_aload_n C dX9_outbid_33 rfl 0 rfl ?_
        refine kw_iload_n C dX9_outbid_34 rfl 2 rfl ?_
        obtain ⟨r14, hc13, hf⟩ := bd_elim hf
        refine kw_callVI C [.int x2] (kX9_outbidsOthers L D g t0 x2 σ _ hc13) RX9 mV_X9_332 ⟨rfl, rfl⟩ dd_X9_outbidsOthers ⟨Nat.le_of_ble_eq_true rfl, Nat.le_of_ble_eq_true rfl⟩ _ (hO9 g σ) rfl rfl rfl (Nat.le_of_ble_eq_true rfl) dX9_outbid_35 ?_
        refine kw_if_eq C 43 dX9_outbid_38 rfl (fun c15 => ?_) (fun c15 => ?_)
        · have hf := if_p c15 hf
          exact kJ7 _ hf
        · have hf := if_n c15 hf
          refine kw_iload_n C dX9_outbid_41 rfl 2 rfl ?_
          refine kw_istore_n C dX9_outbid_42 rfl hN (Nat.le_of_ble_eq_true rfl) [(1, .int x2), (0, .ref (g.1 0)), (2, .int x2)] rfl ?_
          refine kw_sub [1, 0, 2] _ rfl ?_
          exact kJ7 _ hf
set_option maxRecDepth 100000 in
set_option maxHeartbeats 4000000 in
theorem kX9_greatestWorth (L : Launch) (D : va_G) (g : GwT) (t0 : Nat) (p0 : Int32) (σ : St) (r0 : Int32) (hf : fX9_greatestWorth σ p0 = some r0) : CtI L D (ttG g) (wB g) t0 yX9_greatestWorth cX9_greatestWorth 4 (some .int) { frames := 1, cells := 0, slots := 0, locals := 23 } [.ref (g.1 0), .int p0] σ r0 σ := by
  refine CtI.of (own := RX9) (by decide) rfl (Nat.le_of_ble_eq_true rfl) [(0, .ref (g.1 0)), (1, .int p0)] rfl ?_
  intro X C hN K
  unfold fX9_greatestWorth at hf
  refine kw_iconst C (0 : Int32) dX9_greatestWorth_0 rfl ?_
  refine kw_istore_n C dX9_greatestWorth_1 rfl hN (Nat.le_of_ble_eq_true rfl) [(2, .int (0 : Int32)), (0, .ref (g.1 0)), (1, .int p0)] rfl ?_
  refine kw_iconst C (0 : Int32) dX9_greatestWorth_2 rfl ?_
  refine kw_istore_n C dX9_greatestWorth_3 rfl hN (Nat.le_of_ble_eq_true rfl) [(3, .int (0 : Int32)), (2, .int (0 : Int32)), (0, .ref (g.1 0)), (1, .int p0)] rfl ?_
  refine kw_sub [2, 3, 1, 0] _ rfl ?_
  refine lpx2_walk (P := fun (x1 : Int32) (x2 : Int32) => KW X σ 4 [(0, .ref (g.1 0)), (1, .int p0), (2, .int x1), (3, .int x2)] []) ?_ FU _ _ hf
  intro self3 x1 x2 ih4 hf
  refine kw_iload_n C dX9_greatestWorth_4 rfl 3 rfl ?_
  refine kw_aload_n C dX9_greatestWorth_5 rfl 0 rfl ?_
  refine kw_get C inG9 _ (hO9 g σ) rfl 2 (Nat.le_of_ble_eq_true rfl) mf_9_22 rfl rfl dX9_greatestWorth_6 ?_
  refine kw_get C inG6 _ (hO6 g σ (gR σ 0)) rfl 1 (Nat.le_of_ble_eq_true rfl) mf_9_119 rfl rfl dX9_greatestWorth_9 ?_
  refine kw_icmp_ge C 44 dX9_greatestWorth_12 rfl (fun c5 => ?_) (fun c5 => ?_)
  · have hf := if_p c5 hf
    refine kw_iload_n C dX9_greatestWorth_44 rfl 2 rfl ?_
    exact kw_iret C K dX9_greatestWorth_45 (pr_ret hf)
  · have hf := if_n c5 hf
    refine kw_iload_n C dX9_greatestWorth_15 rfl 1 rfl ?_
    refine kw_iload_n C dX9_greatestWorth_16 rfl 3 rfl ?_
    refine kw_ishr C dX9_greatestWorth_17 ?_
    refine kw_iconst C (1 : Int32) dX9_greatestWorth_18 rfl ?_
    refine kw_iand C dX9_greatestWorth_19 ?_
    refine kw_iconst C (1 : Int32) dX9_greatestWorth_20 rfl ?_
    obtain ⟨J7, hJ7, hf⟩ := jnx1_elim hf
    have kJ7 : ∀ (x6 : Int32), J7 x6 = some r0 → KW X σ 38 [(0, .ref (g.1 0)), (1, .int p0), (2, .int x6), (3, .int x2)] [] := by
      clear hf
      intro x6 hf
      have hf := (hJ7 x6).symm.trans hf
      obtain ⟨x8, ex8, hf⟩ := lt_elim hf
      refine kw_iinc C x8 dX9_greatestWorth_38 3 rfl ex8.symm hN (Nat.le_of_ble_eq_true rfl) [(3, .int x8), (0, .ref (g.1 0)), (1, .int p0), (2, .int x6)] rfl ?_
      refine kw_goto C 4 dX9_greatestWorth_41 rfl ?_
      refine kw_sub [1, 2, 3, 0] _ rfl ?_
      exact ih4 _ _ hf
    refine kw_icmp_ne C 38 dX9_greatestWorth_21 rfl (fun c9 => ?_) (fun c9 => ?_)
    · have hf := if_n c9 hf
      exact kJ7 _ hf
    · have hf := if_p c9 hf
      refine kw_iload_n C dX9_greatestWorth_24 rfl 2 rfl ?_
      refine kw_aload_n C dX9_greatestWorth_25 rfl 0 rfl ?_
      refine kw_get C inG9 _ (hO9 g σ) rfl 2 (Nat.le_of_ble_eq_true rfl) mf_9_22 rfl rfl dX9_greatestWorth_26 ?_
      refine kw_get C inG6 _ (hO6 g σ (gR σ 0)) rfl 4 (Nat.le_of_ble_eq_true rfl) mf_9_156 rfl rfl dX9_greatestWorth_29 ?_
      refine kw_iload_n C dX9_greatestWorth_32 rfl 3 rfl ?_
      obtain ⟨h10, hf⟩ := gd_elim hf
      refine kw_iald C _ 0 (hA6_4 g σ (gR σ 0)) rfl h10 dX9_greatestWorth_33 ?_
      refine kw_mmax C ml_X9_346 mst_max mi_Math mcode_max ⟨Nat.le_of_ble_eq_true rfl, Nat.le_of_ble_eq_true rfl⟩ dX9_greatestWorth_34 ?_
      obtain ⟨x11, ex11, hf⟩ := lt_elim hf
      refine kw_topi ex11 ?_
      refine kw_istore_n C dX9_greatestWorth_37 rfl hN (Nat.le_of_ble_eq_true rfl) [(2, .int x11), (0, .ref (g.1 0)), (1, .int p0), (3, .int x2)] rfl ?_
      refine kw_sub [1, 2, 0, 3] _ rfl ?_
      exact kJ7 _ hf
set_option maxRecDepth 100000 in
set_option maxHeartbeats 4000000 in
theorem kX9_gainOf (L : Launch) (D : va_G) (g : GwT) (t0 : Nat) (p0 : Int32) (σ : St) (r0 : Int32) (hf : fX9_gainOf σ p0 = some r0) : CtI L D (ttG g) (wB g) t0 yX9_gainOf cX9_gainOf 2 (some .int) { frames := 2, cells := 0, slots := 0, locals := 46 } [.ref (g.1 0), .int p0] σ r0 σ := by
  refine CtI.of (own := RX9) (by decide) rfl (Nat.le_of_ble_eq_true rfl) [(0, .ref (g.1 0)), (1, .int p0)] rfl ?_
  intro X C hN K
  unfold fX9_gainOf at hf
  refine kw_aload_n C dX9_gainOf_0 rfl 0 rfl ?_
  refine kw_iload_n C dX9_gainOf_1 rfl 1 rfl ?_
  obtain ⟨r2, hc1, hf⟩ := bd_elim hf
  refine kw_callVI C [.int p0] (kX9_sumOfBounds L D g t0 p0 σ _ hc1) RX9 mV_X9_335 ⟨rfl, rfl⟩ dd_X9_sumOfBounds ⟨Nat.le_of_ble_eq_true rfl, Nat.le_of_ble_eq_true rfl⟩ _ (hO9 g σ) rfl rfl rfl (Nat.le_of_ble_eq_true rfl) dX9_gainOf_2 ?_
  refine kw_aload_n C dX9_gainOf_5 rfl 0 rfl ?_
  refine kw_get C inG9 _ (hO9 g σ) rfl 7 (Nat.le_of_ble_eq_true rfl) mf_9_47 rfl rfl dX9_gainOf_6 ?_
  refine kw_get C inG4 _ (hO4 g σ 5 (by simp [isSale])) rfl 9 (Nat.le_of_ble_eq_true rfl) mf_9_213 rfl rfl dX9_gainOf_9 ?_
  refine kw_aload_n C dX9_gainOf_12 rfl 0 rfl ?_
  refine kw_iload_n C dX9_gainOf_13 rfl 1 rfl ?_
  obtain ⟨r4, hc3, hf⟩ := bd_elim hf
  refine kw_callVI C [.int p0] (kX9_leastStep L D g t0 p0 σ _ hc3) RX9 mV_X9_338 ⟨rfl, rfl⟩ dd_X9_leastStep ⟨Nat.le_of_ble_eq_true rfl, Nat.le_of_ble_eq_true rfl⟩ _ (hO9 g σ) rfl rfl rfl (Nat.le_of_ble_eq_true rfl) dX9_gainOf_14 ?_
  refine kw_iadd C dX9_gainOf_17 ?_
  refine kw_icmp_ge C 23 dX9_gainOf_18 rfl (fun c5 => ?_) (fun c5 => ?_)
  · have hf := if_p c5 hf
    refine kw_iconst C (0 : Int32) dX9_gainOf_23 rfl ?_
    refine kw_aload_n C dX9_gainOf_24 rfl 0 rfl ?_
    refine kw_iload_n C dX9_gainOf_25 rfl 1 rfl ?_
    obtain ⟨r7, hc6, hf⟩ := bd_elim hf
    refine kw_callVI C [.int p0] (kX9_greatestWorth L D g t0 p0 σ _ hc6) RX9 mV_X9_348 ⟨rfl, rfl⟩ dd_X9_greatestWorth ⟨Nat.le_of_ble_eq_true rfl, Nat.le_of_ble_eq_true rfl⟩ _ (hO9 g σ) rfl rfl rfl (Nat.le_of_ble_eq_true rfl) dX9_gainOf_26 ?_
    refine kw_aload_n C dX9_gainOf_29 rfl 0 rfl ?_
    refine kw_get C inG9 _ (hO9 g σ) rfl 7 (Nat.le_of_ble_eq_true rfl) mf_9_47 rfl rfl dX9_gainOf_30 ?_
    refine kw_get C inG4 _ (hO4 g σ 5 (by simp [isSale])) rfl 9 (Nat.le_of_ble_eq_true rfl) mf_9_213 rfl rfl dX9_gainOf_33 ?_
    refine kw_isub C dX9_gainOf_36 ?_
    refine kw_mmax C ml_X9_346 mst_max mi_Math mcode_max ⟨Nat.le_of_ble_eq_true rfl, Nat.le_of_ble_eq_true rfl⟩ dX9_gainOf_37 ?_
    exact kw_iret C K dX9_gainOf_40 (pr_ret hf)
  · have hf := if_n c5 hf
    refine kw_iconst C (0 : Int32) dX9_gainOf_21 rfl ?_
    exact kw_iret C K dX9_gainOf_22 (pr_ret hf)
set_option maxRecDepth 100000 in
set_option maxHeartbeats 4000000 in
theorem kX9_shares (L : Launch) (D : va_G) (g : GwT) (t0 : Nat) (p0 : Int32) (p1 : Int32) (σ : St) (r0 : Int32) (hf : fX9_shares σ p0 p1 = some r0) : CtI L D (ttG g) (wB g) t0 yX9_shares cX9_shares 6 (some .int) { frames := 3, cells := 0, slots := 0, locals := 67 } [.ref (g.1 0), .int p0, .int p1] σ r0 σ := by
  refine CtI.of (own := RX9) (by decide) rfl (Nat.le_of_ble_eq_true rfl) [(0, .ref (g.1 0)), (1, .int p0), (2, .int p1)] rfl ?_
  intro X C hN K
  unfold fX9_shares at hf
  refine kw_aload_n C dX9_shares_0 rfl 0 rfl ?_
  refine kw_iload_n C dX9_shares_1 rfl 1 rfl ?_
  refine kw_iload_n C dX9_shares_2 rfl 2 rfl ?_
  obtain ⟨r2, hc1, hf⟩ := bd_elim hf
  refine kw_callVI C [.int p0, .int p1] (kX9_areTwoIn L D g t0 p0 p1 σ _ hc1) RX9 mV_X9_142 ⟨rfl, rfl⟩ dd_X9_areTwoIn ⟨Nat.le_of_ble_eq_true rfl, Nat.le_of_ble_eq_true rfl⟩ _ (hO9 g σ) rfl rfl rfl (Nat.le_of_ble_eq_true rfl) dX9_shares_3 ?_
  refine kw_if_ne C 11 dX9_shares_6 rfl (fun c3 => ?_) (fun c3 => ?_)
  · have hf := if_n c3 hf
    refine kw_aload_n C dX9_shares_11 rfl 0 rfl ?_
    refine kw_iconst C (1 : Int32) dX9_shares_12 rfl ?_
    refine kw_iload_n C dX9_shares_13 rfl 1 rfl ?_
    refine kw_ishl C dX9_shares_14 ?_
    obtain ⟨r5, hc4, hf⟩ := bd_elim hf
    refine kw_callVI C [.int ((1 : Int32) <<< (p0 &&& 31))] (kX9_gainOf L D g t0 ((1 : Int32) <<< (p0 &&& 31)) σ _ hc4) RX9 mV_X9_351 ⟨rfl, rfl⟩ dd_X9_gainOf ⟨Nat.le_of_ble_eq_true rfl, Nat.le_of_ble_eq_true rfl⟩ _ (hO9 g σ) rfl rfl rfl (Nat.le_of_ble_eq_true rfl) dX9_shares_15 ?_
    refine kw_istore_n C dX9_shares_18 rfl hN (Nat.le_of_ble_eq_true rfl) [(3, .int r5), (0, .ref (g.1 0)), (1, .int p0), (2, .int p1)] rfl ?_
    refine kw_aload_n C dX9_shares_19 rfl 1 rfl ?_
    refine kw_iconst C (1 : Int32) dX9_shares_20 rfl ?_
    refine kw_iload_n C dX9_shares_21 rfl 3 rfl ?_
    refine kw_ishl C dX9_shares_22 ?_
    obtain ⟨r7, hc6, hf⟩ := bd_elim hf
    refine kw_callVI C [.int ((1 : Int32) <<< (p1 &&& 31))] (kX9_gainOf L D g t0 ((1 : Int32) <<< (p1 &&& 31)) σ _ hc6) RX9 mV_X9_351 ⟨rfl, rfl⟩ dd_X9_gainOf ⟨Nat.le_of_ble_eq_true rfl, Nat.le_of_ble_eq_true rfl⟩ _ (hO9 g σ) rfl rfl rfl (Nat.le_of_ble_eq_true rfl) dX9_shares_23 ?_
    refine kw_istore C dX9_shares_26 hN (Nat.le_of_ble_eq_true rfl) [(4, .int r7), (3, .int r5), (0, .ref (g.1 0)), (1, .int p0), (2, .int p1)] rfl ?_
    refine kw_aload_n C dX9_shares_28 rfl 2 rfl ?_
    refine kw_iconst C (1 : Int32) dX9_shares_29 rfl ?_
    refine kw_iload_n C dX9_shares_30 rfl 3 rfl ?_
    refine kw_ishl C dX9_shares_31 ?_
    refine kw_iconst C (1 : Int32) dX9_shares_32 rfl ?_
    refine kw_iload_n C dX9_shares_33 rfl 4 rfl ?_
    refine kw_ishl C dX9_shares_34 ?_
    refine kw_ior C dX9_shares_35 ?_
    obtain ⟨r9, hc8, hf⟩ := bd_elim hf
    refine kw_callVI C [.int (((1 : Int32) <<< (p0 &&& 31)) ||| ((1 : Int32) <<< (p1 &&& 31)))] (kX9_gainOf L D g t0 (((1 : Int32) <<< (p0 &&& 31)) ||| ((1 : Int32) <<< (p1 &&& 31))) σ _ hc8) RX9 mV_X9_351 ⟨rfl, rfl⟩ dd_X9_gainOf ⟨Nat.le_of_ble_eq_true rfl, Nat.le_of_ble_eq_true rfl⟩ _ (hO9 g σ) rfl rfl rfl (Nat.le_of_ble_eq_true rfl) dX9_shares_36 ?_
    refine kw_istore C dX9_shares_39 hN (Nat.le_of_ble_eq_true rfl) [(5, .int r9), (4, .int r7), (3, .int r5), (0, .ref (g.1 0)), (1, .int p0), (2, .int p1)] rfl ?_
    refine kw_iload_n C dX9_shares_41 rfl 2 rfl ?_
    refine kw_iload C dX9_shares_42 0 rfl ?_
    refine kw_iload_n C dX9_shares_44 rfl 2 rfl ?_
    refine kw_isub C dX9_shares_45 ?_
    refine kw_iload C dX9_shares_46 1 rfl ?_
    refine kw_isub C dX9_shares_48 ?_
    refine kw_iconst C (2 : Int32) dX9_shares_49 rfl ?_
    refine kw_idiv C dX9_shares_50 (by decide) ?_
    refine kw_iadd C dX9_shares_51 ?_
    exact kw_iret C K dX9_shares_52 (pr_ret hf)
  · have hf := if_p c3 hf
    refine kw_iconst C (-1 : Int32) dX9_shares_9 rfl ?_
    exact kw_iret C K dX9_shares_10 (pr_ret hf)
set_option maxRecDepth 100000 in
set_option maxHeartbeats 4000000 in
theorem kX9_areThreeIn (L : Launch) (D : va_G) (g : GwT) (t0 : Nat) (p0 : Int32) (p1 : Int32) (p2 : Int32) (σ : St) (r0 : Int32) (hf : fX9_areThreeIn σ p0 p1 p2 = some r0) : CtI L D (ttG g) (wB g) t0 yX9_areThreeIn cX9_areThreeIn 4 (some .boolean) { frames := 3, cells := 0, slots := 0, locals := 64 } [.ref (g.1 0), .int p0, .int p1, .int p2] σ r0 σ := by
  refine CtI.of (own := RX9) (by decide) rfl (Nat.le_of_ble_eq_true rfl) [(0, .ref (g.1 0)), (1, .int p0), (2, .int p1), (3, .int p2)] rfl ?_
  intro X C hN K
  unfold fX9_areThreeIn at hf
  refine kw_aload_n C dX9_areThreeIn_0 rfl 0 rfl ?_
  refine kw_iload_n C dX9_areThreeIn_1 rfl 1 rfl ?_
  refine kw_iload_n C dX9_areThreeIn_2 rfl 2 rfl ?_
  obtain ⟨r2, hc1, hf⟩ := bd_elim hf
  refine kw_callVI C [.int p0, .int p1] (kX9_areTwoIn L D g t0 p0 p1 σ _ hc1) RX9 mV_X9_142 ⟨rfl, rfl⟩ dd_X9_areTwoIn ⟨Nat.le_of_ble_eq_true rfl, Nat.le_of_ble_eq_true rfl⟩ _ (hO9 g σ) rfl rfl rfl (Nat.le_of_ble_eq_true rfl) dX9_areThreeIn_3 ?_
  obtain ⟨J4, hJ4, hf⟩ := jnx1_elim hf
  have kJ4 : ∀ (x3 : Int32), J4 x3 = some r0 → KW X σ 32 [] [.int x3] := by
    clear hf
    intro x3 hf
    have hf := (hJ4 x3).symm.trans hf
    obtain ⟨h5, hf⟩ := gd_elim hf
    exact kw_zret C K h5 dX9_areThreeIn_32 (pr_ret hf)
  obtain ⟨J6, hJ6, hf⟩ := jnx1_elim hf
  have kJ6 : ∀ (u9 : Unit), J6 u9 = some r0 → KW X σ 31 [] [] := by
    clear hf
    intro u9 hf
    have hf := (hJ6 u9).symm.trans hf
    refine kw_iconst C (0 : Int32) dX9_areThreeIn_31 rfl ?_
    exact kJ4 _ hf
  refine kw_if_eq C 31 dX9_areThreeIn_6 rfl (fun c7 => ?_) (fun c7 => ?_)
  · have hf := if_p c7 hf
    refine kw_sub [] _ rfl ?_
    exact kJ6 _ hf
  · have hf := if_n c7 hf
    refine kw_aload_n C dX9_areThreeIn_9 rfl 0 rfl ?_
    refine kw_iload_n C dX9_areThreeIn_10 rfl 1 rfl ?_
    refine kw_iload_n C dX9_areThreeIn_11 rfl 3 rfl ?_
    obtain ⟨r9, hc8, hf⟩ := bd_elim hf
    refine kw_callVI C [.int p0, .int p2] (kX9_areTwoIn L D g t0 p0 p2 σ _ hc8) RX9 mV_X9_142 ⟨rfl, rfl⟩ dd_X9_areTwoIn ⟨Nat.le_of_ble_eq_true rfl, Nat.le_of_ble_eq_true rfl⟩ _ (hO9 g σ) rfl rfl rfl (Nat.le_of_ble_eq_true rfl) dX9_areThreeIn_12 ?_
    refine kw_if_eq C 31 dX9_areThreeIn_15 rfl (fun c10 => ?_) (fun c10 => ?_)
    · have hf := if_p c10 hf
      refine kw_sub [] _ rfl ?_
      exact kJ6 _ hf
    · have hf := if_n c10 hf
      refine kw_aload_n C dX9_areThreeIn_18 rfl 0 rfl ?_
      refine kw_iload_n C dX9_areThreeIn_19 rfl 2 rfl ?_
      refine kw_iload_n C dX9_areThreeIn_20 rfl 3 rfl ?_
      obtain ⟨r12, hc11, hf⟩ := bd_elim hf
      refine kw_callVI C [.int p1, .int p2] (kX9_areTwoIn L D g t0 p1 p2 σ _ hc11) RX9 mV_X9_142 ⟨rfl, rfl⟩ dd_X9_areTwoIn ⟨Nat.le_of_ble_eq_true rfl, Nat.le_of_ble_eq_true rfl⟩ _ (hO9 g σ) rfl rfl rfl (Nat.le_of_ble_eq_true rfl) dX9_areThreeIn_21 ?_
      refine kw_if_eq C 31 dX9_areThreeIn_24 rfl (fun c13 => ?_) (fun c13 => ?_)
      · have hf := if_p c13 hf
        refine kw_sub [] _ rfl ?_
        exact kJ6 _ hf
      · have hf := if_n c13 hf
        refine kw_iconst C (1 : Int32) dX9_areThreeIn_27 rfl ?_
        refine kw_goto C 32 dX9_areThreeIn_28 rfl ?_
        refine kw_sub [] _ rfl ?_
        exact kJ4 _ hf
set_option maxRecDepth 100000 in
set_option maxHeartbeats 4000000 in
theorem kX9_stays (L : Launch) (D : va_G) (g : GwT) (t0 : Nat) (p0 : Int32) (p1 : Int32) (p2 : Int32) (p3 : Int32) (p4 : Int32) (σ : St) (r0 : Int32) (hf : fX9_stays σ p0 p1 p2 p3 p4 = some r0) : CtI L D (ttG g) (wB g) t0 yX9_stays cX9_stays 13 (some .int) { frames := 4, cells := 0, slots := 0, locals := 87 } [.ref (g.1 0), .int p0, .int p1, .int p2, .int p3, .int p4] σ r0 σ := by
  refine CtI.of (own := RX9) (by decide) rfl (Nat.le_of_ble_eq_true rfl) [(0, .ref (g.1 0)), (1, .int p0), (2, .int p1), (3, .int p2), (4, .int p3), (5, .int p4)] rfl ?_
  intro X C hN K
  unfold fX9_stays at hf
  refine kw_iload C dX9_stays_0 4 rfl ?_
  refine kw_sipush C (-9999 : Int32) dX9_stays_2 rfl ?_
  refine kw_sipush C (9999 : Int32) dX9_stays_5 rfl ?_
  obtain ⟨r2, hc1, hf⟩ := bd_elim hf
  refine kw_callSI C [.int p3, .int (-9999 : Int32), .int (9999 : Int32)] (kX9_isWithin L D g t0 p3 (-9999 : Int32) (9999 : Int32) σ _ hc1) mS_X9_188 ⟨rfl, rfl⟩ dd_X9_isWithin ⟨Nat.le_of_ble_eq_true rfl, Nat.le_of_ble_eq_true rfl⟩ rfl (Nat.le_of_ble_eq_true rfl) dX9_stays_8 ?_
  obtain ⟨J4, hJ4, hf⟩ := jnx1_elim hf
  have kJ4 : ∀ (x3 : Int32), J4 x3 = some r0 → KW X σ 33 [(0, .ref (g.1 0)), (1, .int p0), (2, .int p1), (3, .int p2), (4, .int p3), (5, .int p4)] [.int x3] := by
    clear hf
    intro x3 hf
    have hf := (hJ4 x3).symm.trans hf
    refine kw_istore C dX9_stays_33 hN (Nat.le_of_ble_eq_true rfl) [(6, .int x3), (0, .ref (g.1 0)), (1, .int p0), (2, .int p1), (3, .int p2), (4, .int p3), (5, .int p4)] rfl ?_
    refine kw_aload_n C dX9_stays_35 rfl 1 rfl ?_
    refine kw_iload_n C dX9_stays_36 rfl 2 rfl ?_
    refine kw_iload_n C dX9_stays_37 rfl 3 rfl ?_
    refine kw_iload_n C dX9_stays_38 rfl 4 rfl ?_
    obtain ⟨r6, hc5, hf⟩ := bd_elim hf
    refine kw_callVI C [.int p0, .int p1, .int p2] (kX9_areThreeIn L D g t0 p0 p1 p2 σ _ hc5) RX9 mV_X9_354 ⟨rfl, rfl⟩ dd_X9_areThreeIn ⟨Nat.le_of_ble_eq_true rfl, Nat.le_of_ble_eq_true rfl⟩ _ (hO9 g σ) rfl rfl rfl (Nat.le_of_ble_eq_true rfl) dX9_stays_39 ?_
    obtain ⟨J7, hJ7, hf⟩ := jnx1_elim hf
    have kJ7 : ∀ (u9 : Unit), J7 u9 = some r0 → KW X σ 50 [] [] := by
      clear hf
      intro u9 hf
      have hf := (hJ7 u9).symm.trans hf
      refine kw_iconst C (-1 : Int32) dX9_stays_50 rfl ?_
      exact kw_iret C K dX9_stays_51 (pr_ret hf)
    refine kw_if_eq C 50 dX9_stays_42 rfl (fun c8 => ?_) (fun c8 => ?_)
    · have hf := if_p c8 hf
      refine kw_sub [] _ rfl ?_
      exact kJ7 _ hf
    · have hf := if_n c8 hf
      refine kw_iload C dX9_stays_45 0 rfl ?_
      refine kw_if_ne C 52 dX9_stays_47 rfl (fun c9 => ?_) (fun c9 => ?_)
      · have hf := if_n c9 hf
        refine kw_iconst C (1 : Int32) dX9_stays_52 rfl ?_
        refine kw_iload_n C dX9_stays_53 rfl 2 rfl ?_
        refine kw_ishl C dX9_stays_54 ?_
        obtain ⟨x10, ex10, hf⟩ := lt_elim hf
        refine kw_topi ex10 ?_
        refine kw_istore C dX9_stays_55 hN (Nat.le_of_ble_eq_true rfl) [(7, .int x10), (6, .int x3), (0, .ref (g.1 0)), (1, .int p0), (2, .int p1), (3, .int p2), (4, .int p3), (5, .int p4)] rfl ?_
        refine kw_iconst C (1 : Int32) dX9_stays_57 rfl ?_
        refine kw_iload_n C dX9_stays_58 rfl 4 rfl ?_
        refine kw_ishl C dX9_stays_59 ?_
        obtain ⟨x11, ex11, hf⟩ := lt_elim hf
        refine kw_topi ex11 ?_
        refine kw_istore C dX9_stays_60 hN (Nat.le_of_ble_eq_true rfl) [(8, .int x11), (7, .int x10), (6, .int x3), (0, .ref (g.1 0)), (1, .int p0), (2, .int p1), (3, .int p2), (4, .int p3), (5, .int p4)] rfl ?_
        refine kw_iconst C (1 : Int32) dX9_stays_62 rfl ?_
        refine kw_iload_n C dX9_stays_63 rfl 6 rfl ?_
        refine kw_ishl C dX9_stays_64 ?_
        obtain ⟨x12, ex12, hf⟩ := lt_elim hf
        refine kw_topi ex12 ?_
        refine kw_istore C dX9_stays_65 hN (Nat.le_of_ble_eq_true rfl) [(9, .int x12), (8, .int x11), (7, .int x10), (6, .int x3), (0, .ref (g.1 0)), (1, .int p0), (2, .int p1), (3, .int p2), (4, .int p3), (5, .int p4)] rfl ?_
        refine kw_aload_n C dX9_stays_67 rfl 4 rfl ?_
        refine kw_iload C dX9_stays_68 2 rfl ?_
        refine kw_iload C dX9_stays_70 1 rfl ?_
        refine kw_ior C dX9_stays_72 ?_
        refine kw_iload C dX9_stays_73 0 rfl ?_
        refine kw_ior C dX9_stays_75 ?_
        obtain ⟨r14, hc13, hf⟩ := bd_elim hf
        refine kw_callVI C [.int ((x10 ||| x11) ||| x12)] (kX9_gainOf L D g t0 ((x10 ||| x11) ||| x12) σ _ hc13) RX9 mV_X9_351 ⟨rfl, rfl⟩ dd_X9_gainOf ⟨Nat.le_of_ble_eq_true rfl, Nat.le_of_ble_eq_true rfl⟩ _ (hO9 g σ) rfl rfl rfl (Nat.le_of_ble_eq_true rfl) dX9_stays_76 ?_
        refine kw_iload C dX9_stays_79 8 rfl ?_
        refine kw_isub C dX9_stays_81 ?_
        refine kw_iload C dX9_stays_82 9 rfl ?_
        refine kw_isub C dX9_stays_84 ?_
        obtain ⟨x15, ex15, hf⟩ := lt_elim hf
        refine kw_topi ex15 ?_
        refine kw_istore C dX9_stays_85 hN (Nat.le_of_ble_eq_true rfl) [(10, .int x15), (9, .int x12), (8, .int x11), (7, .int x10), (6, .int x3), (0, .ref (g.1 0)), (1, .int p0), (2, .int p1), (3, .int p2), (4, .int p3), (5, .int p4)] rfl ?_
        refine kw_iload C dX9_stays_87 9 rfl ?_
        refine kw_aload_n C dX9_stays_89 rfl 5 rfl ?_
        refine kw_iload C dX9_stays_90 3 rfl ?_
        obtain ⟨r17, hc16, hf⟩ := bd_elim hf
        refine kw_callVI C [.int x10] (kX9_gainOf L D g t0 x10 σ _ hc16) RX9 mV_X9_351 ⟨rfl, rfl⟩ dd_X9_gainOf ⟨Nat.le_of_ble_eq_true rfl, Nat.le_of_ble_eq_true rfl⟩ _ (hO9 g σ) rfl rfl rfl (Nat.le_of_ble_eq_true rfl) dX9_stays_92 ?_
        obtain ⟨J19, hJ19, hf⟩ := jnx1_elim hf
        have kJ19 : ∀ (x18 : Int32), J19 x18 = some r0 → KW X σ 125 [(0, .ref (g.1 0)), (4, .int p3), (5, .int p4), (7, .int x10), (8, .int x11), (9, .int x12), (10, .int x15)] [.int x18] := by
          clear hf
          intro x18 hf
          have hf := (hJ19 x18).symm.trans hf
          refine kw_istore C dX9_stays_125 hN (Nat.le_of_ble_eq_true rfl) [(11, .int x18), (0, .ref (g.1 0)), (4, .int p3), (5, .int p4), (7, .int x10), (8, .int x11), (9, .int x12), (10, .int x15)] rfl ?_
          refine kw_iload C dX9_stays_127 2 rfl ?_
          refine kw_iload C dX9_stays_129 3 rfl ?_
          refine kw_iadd C dX9_stays_131 ?_
          refine kw_aload_n C dX9_stays_132 rfl 1 rfl ?_
          refine kw_iload C dX9_stays_133 4 rfl ?_
          refine kw_iload C dX9_stays_135 5 rfl ?_
          refine kw_ior C dX9_stays_137 ?_
          obtain ⟨r21, hc20, hf⟩ := bd_elim hf
          refine kw_callVI C [.int (x10 ||| x11)] (kX9_gainOf L D g t0 (x10 ||| x11) σ _ hc20) RX9 mV_X9_351 ⟨rfl, rfl⟩ dd_X9_gainOf ⟨Nat.le_of_ble_eq_true rfl, Nat.le_of_ble_eq_true rfl⟩ _ (hO9 g σ) rfl rfl rfl (Nat.le_of_ble_eq_true rfl) dX9_stays_138 ?_
          obtain ⟨J23, hJ23, hf⟩ := jnx1_elim hf
          have kJ23 : ∀ (x22 : Int32), J23 x22 = some r0 → KW X σ 183 [(11, .int x18)] [.int x22] := by
            clear hf
            intro x22 hf
            have hf := (hJ23 x22).symm.trans hf
            refine kw_istore C dX9_stays_183 hN (Nat.le_of_ble_eq_true rfl) [(12, .int x22), (11, .int x18)] rfl ?_
            refine kw_iload C dX9_stays_185 1 rfl ?_
            obtain ⟨J25, hJ25, hf⟩ := jnx1_elim hf
            have kJ25 : ∀ (x24 : Int32), J25 x24 = some r0 → KW X σ 200 [] [.int x24] := by
              clear hf
              intro x24 hf
              have hf := (hJ25 x24).symm.trans hf
              exact kw_iret C K dX9_stays_200 (pr_ret hf)
            obtain ⟨J26, hJ26, hf⟩ := jnx1_elim hf
            have kJ26 : ∀ (u9 : Unit), J26 u9 = some r0 → KW X σ 199 [] [] := by
              clear hf
              intro u9 hf
              have hf := (hJ26 u9).symm.trans hf
              refine kw_iconst C (0 : Int32) dX9_stays_199 rfl ?_
              exact kJ25 _ hf
            refine kw_if_eq C 199 dX9_stays_187 rfl (fun c27 => ?_) (fun c27 => ?_)
            · have hf := if_p c27 hf
              refine kw_sub [] _ rfl ?_
              exact kJ26 _ hf
            · have hf := if_n c27 hf
              refine kw_iload C dX9_stays_190 0 rfl ?_
              refine kw_if_eq C 199 dX9_stays_192 rfl (fun c28 => ?_) (fun c28 => ?_)
              · have hf := if_p c28 hf
                refine kw_sub [] _ rfl ?_
                exact kJ26 _ hf
              · have hf := if_n c28 hf
                refine kw_iconst C (1 : Int32) dX9_stays_195 rfl ?_
                refine kw_goto C 200 dX9_stays_196 rfl ?_
                refine kw_sub [] _ rfl ?_
                exact kJ25 _ hf
          obtain ⟨J29, hJ29, hf⟩ := jnx1_elim hf
          have kJ29 : ∀ (u9 : Unit), J29 u9 = some r0 → KW X σ 182 [(11, .int x18)] [] := by
            clear hf
            intro u9 hf
            have hf := (hJ29 u9).symm.trans hf
            refine kw_iconst C (0 : Int32) dX9_stays_182 rfl ?_
            exact kJ23 _ hf
          refine kw_icmp_lt C 182 dX9_stays_141 rfl (fun c30 => ?_) (fun c30 => ?_)
          · have hf := if_p c30 hf
            refine kw_sub [0] _ rfl ?_
            exact kJ29 _ hf
          · have hf := if_n c30 hf
            refine kw_iload C dX9_stays_144 2 rfl ?_
            refine kw_iload C dX9_stays_146 7 rfl ?_
            refine kw_iadd C dX9_stays_148 ?_
            refine kw_aload_n C dX9_stays_149 rfl 1 rfl ?_
            refine kw_iload C dX9_stays_150 4 rfl ?_
            refine kw_iload C dX9_stays_152 6 rfl ?_
            refine kw_ior C dX9_stays_154 ?_
            obtain ⟨r32, hc31, hf⟩ := bd_elim hf
            refine kw_callVI C [.int (x10 ||| x12)] (kX9_gainOf L D g t0 (x10 ||| x12) σ _ hc31) RX9 mV_X9_351 ⟨rfl, rfl⟩ dd_X9_gainOf ⟨Nat.le_of_ble_eq_true rfl, Nat.le_of_ble_eq_true rfl⟩ _ (hO9 g σ) rfl rfl rfl (Nat.le_of_ble_eq_true rfl) dX9_stays_155 ?_
            refine kw_icmp_lt C 182 dX9_stays_158 rfl (fun c33 => ?_) (fun c33 => ?_)
            · have hf := if_p c33 hf
              refine kw_sub [0] _ rfl ?_
              exact kJ29 _ hf
            · have hf := if_n c33 hf
              refine kw_iload C dX9_stays_161 3 rfl ?_
              refine kw_iload C dX9_stays_163 7 rfl ?_
              refine kw_iadd C dX9_stays_165 ?_
              refine kw_aload_n C dX9_stays_166 rfl 1 rfl ?_
              refine kw_iload C dX9_stays_167 5 rfl ?_
              refine kw_iload C dX9_stays_169 6 rfl ?_
              refine kw_ior C dX9_stays_171 ?_
              obtain ⟨r35, hc34, hf⟩ := bd_elim hf
              refine kw_callVI C [.int (x11 ||| x12)] (kX9_gainOf L D g t0 (x11 ||| x12) σ _ hc34) RX9 mV_X9_351 ⟨rfl, rfl⟩ dd_X9_gainOf ⟨Nat.le_of_ble_eq_true rfl, Nat.le_of_ble_eq_true rfl⟩ _ (hO9 g σ) rfl rfl rfl (Nat.le_of_ble_eq_true rfl) dX9_stays_172 ?_
              refine kw_icmp_lt C 182 dX9_stays_175 rfl (fun c36 => ?_) (fun c36 => ?_)
              · have hf := if_p c36 hf
                refine kw_sub [0] _ rfl ?_
                exact kJ29 _ hf
              · have hf := if_n c36 hf
                refine kw_iconst C (1 : Int32) dX9_stays_178 rfl ?_
                refine kw_goto C 183 dX9_stays_179 rfl ?_
                refine kw_sub [0] _ rfl ?_
                exact kJ23 _ hf
        obtain ⟨J37, hJ37, hf⟩ := jnx1_elim hf
        have kJ37 : ∀ (u9 : Unit), J37 u9 = some r0 → KW X σ 124 [(0, .ref (g.1 0)), (4, .int p3), (5, .int p4), (7, .int x10), (8, .int x11), (9, .int x12), (10, .int x15)] [] := by
          clear hf
          intro u9 hf
          have hf := (hJ37 u9).symm.trans hf
          refine kw_iconst C (0 : Int32) dX9_stays_124 rfl ?_
          exact kJ19 _ hf
        refine kw_icmp_lt C 124 dX9_stays_95 rfl (fun c38 => ?_) (fun c38 => ?_)
        · have hf := if_p c38 hf
          refine kw_sub [5, 9, 10, 3, 2, 1, 0] _ rfl ?_
          exact kJ37 _ hf
        · have hf := if_n c38 hf
          refine kw_iload C dX9_stays_98 10 rfl ?_
          refine kw_aload_n C dX9_stays_100 rfl 5 rfl ?_
          refine kw_iload C dX9_stays_101 2 rfl ?_
          obtain ⟨r40, hc39, hf⟩ := bd_elim hf
          refine kw_callVI C [.int x11] (kX9_gainOf L D g t0 x11 σ _ hc39) RX9 mV_X9_351 ⟨rfl, rfl⟩ dd_X9_gainOf ⟨Nat.le_of_ble_eq_true rfl, Nat.le_of_ble_eq_true rfl⟩ _ (hO9 g σ) rfl rfl rfl (Nat.le_of_ble_eq_true rfl) dX9_stays_103 ?_
          refine kw_icmp_lt C 124 dX9_stays_106 rfl (fun c41 => ?_) (fun c41 => ?_)
          · have hf := if_p c41 hf
            refine kw_sub [5, 9, 10, 3, 2, 1, 0] _ rfl ?_
            exact kJ37 _ hf
          · have hf := if_n c41 hf
            refine kw_iload C dX9_stays_109 0 rfl ?_
            refine kw_aload_n C dX9_stays_111 rfl 5 rfl ?_
            refine kw_iload C dX9_stays_112 1 rfl ?_
            obtain ⟨r43, hc42, hf⟩ := bd_elim hf
            refine kw_callVI C [.int x12] (kX9_gainOf L D g t0 x12 σ _ hc42) RX9 mV_X9_351 ⟨rfl, rfl⟩ dd_X9_gainOf ⟨Nat.le_of_ble_eq_true rfl, Nat.le_of_ble_eq_true rfl⟩ _ (hO9 g σ) rfl rfl rfl (Nat.le_of_ble_eq_true rfl) dX9_stays_114 ?_
            refine kw_icmp_lt C 124 dX9_stays_117 rfl (fun c44 => ?_) (fun c44 => ?_)
            · have hf := if_p c44 hf
              refine kw_sub [5, 9, 10, 3, 2, 1, 0] _ rfl ?_
              exact kJ37 _ hf
            · have hf := if_n c44 hf
              refine kw_iconst C (1 : Int32) dX9_stays_120 rfl ?_
              refine kw_goto C 125 dX9_stays_121 rfl ?_
              refine kw_sub [5, 9, 10, 3, 2, 1, 0] _ rfl ?_
              exact kJ19 _ hf
      · have hf := if_p c9 hf
        refine kw_sub [] _ rfl ?_
        exact kJ7 _ hf
  obtain ⟨J45, hJ45, hf⟩ := jnx1_elim hf
  have kJ45 : ∀ (u9 : Unit), J45 u9 = some r0 → KW X σ 32 [(0, .ref (g.1 0)), (1, .int p0), (2, .int p1), (3, .int p2), (4, .int p3), (5, .int p4)] [] := by
    clear hf
    intro u9 hf
    have hf := (hJ45 u9).symm.trans hf
    refine kw_iconst C (0 : Int32) dX9_stays_32 rfl ?_
    exact kJ4 _ hf
  refine kw_if_eq C 32 dX9_stays_11 rfl (fun c46 => ?_) (fun c46 => ?_)
  · have hf := if_p c46 hf
    exact kJ45 _ hf
  · have hf := if_n c46 hf
    refine kw_iload C dX9_stays_14 5 rfl ?_
    refine kw_sipush C (-9999 : Int32) dX9_stays_16 rfl ?_
    refine kw_sipush C (9999 : Int32) dX9_stays_19 rfl ?_
    obtain ⟨r48, hc47, hf⟩ := bd_elim hf
    refine kw_callSI C [.int p4, .int (-9999 : Int32), .int (9999 : Int32)] (kX9_isWithin L D g t0 p4 (-9999 : Int32) (9999 : Int32) σ _ hc47) mS_X9_188 ⟨rfl, rfl⟩ dd_X9_isWithin ⟨Nat.le_of_ble_eq_true rfl, Nat.le_of_ble_eq_true rfl⟩ rfl (Nat.le_of_ble_eq_true rfl) dX9_stays_22 ?_
    refine kw_if_eq C 32 dX9_stays_25 rfl (fun c49 => ?_) (fun c49 => ?_)
    · have hf := if_p c49 hf
      exact kJ45 _ hf
    · have hf := if_n c49 hf
      refine kw_iconst C (1 : Int32) dX9_stays_28 rfl ?_
      refine kw_goto C 33 dX9_stays_29 rfl ?_
      exact kJ4 _ hf
