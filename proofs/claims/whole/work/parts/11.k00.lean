set_option maxRecDepth 100000 in
set_option maxHeartbeats 4000000 in
theorem kJ6_bitCount_0f7a4 (L : Launch) (D : va_G) (g : GwT) (t0 : Nat) (p0 : Int32) (σ : St) (r0 : Int32) (hf : fJ6_bitCount_0f7a4 σ p0 = some r0) : CtI L D (ttG g) (wB g) t0 yJ6_bitCount_0f7a4 cJ6_bitCount_0f7a4 1 (some .int) { frames := 0, cells := 0, slots := 0, locals := 0 } [.int p0] σ r0 σ := by
  refine CtI.of (own := RJ6) (by decide) rfl (Nat.le_of_ble_eq_true rfl) [(0, .int p0)] rfl ?_
  intro X C hN K
  unfold fJ6_bitCount_0f7a4 at hf
  refine kw_iload_n C dJ6_bitCount_0f7a4_0 rfl 0 rfl ?_
  refine kw_iload_n C dJ6_bitCount_0f7a4_1 rfl 0 rfl ?_
  refine kw_iconst C (1 : Int32) dJ6_bitCount_0f7a4_2 rfl ?_
  refine kw_iushr C dJ6_bitCount_0f7a4_3 ?_
  refine kw_ldcw C dJ6_bitCount_0f7a4_4 mk_J6_265 ?_
  refine kw_iand C dJ6_bitCount_0f7a4_7 ?_
  refine kw_isub C dJ6_bitCount_0f7a4_8 ?_
  obtain ⟨x1, ex1, hf⟩ := lt_elim hf
  refine kw_topi ex1 ?_
  refine kw_istore_n C dJ6_bitCount_0f7a4_9 rfl hN (Nat.le_of_ble_eq_true rfl) [(0, .int x1)] rfl ?_
  refine kw_iload_n C dJ6_bitCount_0f7a4_10 rfl 0 rfl ?_
  refine kw_ldcw C dJ6_bitCount_0f7a4_11 mk_J6_266 ?_
  refine kw_iand C dJ6_bitCount_0f7a4_14 ?_
  refine kw_iload_n C dJ6_bitCount_0f7a4_15 rfl 0 rfl ?_
  refine kw_iconst C (2 : Int32) dJ6_bitCount_0f7a4_16 rfl ?_
  refine kw_iushr C dJ6_bitCount_0f7a4_17 ?_
  refine kw_ldcw C dJ6_bitCount_0f7a4_18 mk_J6_266 ?_
  refine kw_iand C dJ6_bitCount_0f7a4_21 ?_
  refine kw_iadd C dJ6_bitCount_0f7a4_22 ?_
  obtain ⟨x2, ex2, hf⟩ := lt_elim hf
  refine kw_topi ex2 ?_
  refine kw_istore_n C dJ6_bitCount_0f7a4_23 rfl hN (Nat.le_of_ble_eq_true rfl) [(0, .int x2)] rfl ?_
  refine kw_iload_n C dJ6_bitCount_0f7a4_24 rfl 0 rfl ?_
  refine kw_iload_n C dJ6_bitCount_0f7a4_25 rfl 0 rfl ?_
  refine kw_iconst C (4 : Int32) dJ6_bitCount_0f7a4_26 rfl ?_
  refine kw_iushr C dJ6_bitCount_0f7a4_27 ?_
  refine kw_iadd C dJ6_bitCount_0f7a4_28 ?_
  refine kw_ldcw C dJ6_bitCount_0f7a4_29 mk_J6_267 ?_
  refine kw_iand C dJ6_bitCount_0f7a4_32 ?_
  obtain ⟨x3, ex3, hf⟩ := lt_elim hf
  refine kw_topi ex3 ?_
  refine kw_istore_n C dJ6_bitCount_0f7a4_33 rfl hN (Nat.le_of_ble_eq_true rfl) [(0, .int x3)] rfl ?_
  refine kw_iload_n C dJ6_bitCount_0f7a4_34 rfl 0 rfl ?_
  refine kw_iload_n C dJ6_bitCount_0f7a4_35 rfl 0 rfl ?_
  refine kw_bipush C (8 : Int32) dJ6_bitCount_0f7a4_36 rfl ?_
  refine kw_iushr C dJ6_bitCount_0f7a4_38 ?_
  refine kw_iadd C dJ6_bitCount_0f7a4_39 ?_
  obtain ⟨x4, ex4, hf⟩ := lt_elim hf
  refine kw_topi ex4 ?_
  refine kw_istore_n C dJ6_bitCount_0f7a4_40 rfl hN (Nat.le_of_ble_eq_true rfl) [(0, .int x4)] rfl ?_
  refine kw_iload_n C dJ6_bitCount_0f7a4_41 rfl 0 rfl ?_
  refine kw_iload_n C dJ6_bitCount_0f7a4_42 rfl 0 rfl ?_
  refine kw_bipush C (16 : Int32) dJ6_bitCount_0f7a4_43 rfl ?_
  refine kw_iushr C dJ6_bitCount_0f7a4_45 ?_
  refine kw_iadd C dJ6_bitCount_0f7a4_46 ?_
  obtain ⟨x5, ex5, hf⟩ := lt_elim hf
  refine kw_topi ex5 ?_
  refine kw_istore_n C dJ6_bitCount_0f7a4_47 rfl hN (Nat.le_of_ble_eq_true rfl) [(0, .int x5)] rfl ?_
  refine kw_iload_n C dJ6_bitCount_0f7a4_48 rfl 0 rfl ?_
  refine kw_bipush C (63 : Int32) dJ6_bitCount_0f7a4_49 rfl ?_
  refine kw_iand C dJ6_bitCount_0f7a4_51 ?_
  exact kw_iret C K dJ6_bitCount_0f7a4_52 (pr_ret hf)
set_option maxRecDepth 100000 in
set_option maxHeartbeats 4000000 in
theorem kX2_empty (L : Launch) (D : va_G) (g : GwT) (t0 : Nat) (o : Bool) (σ : St) (σ0 : St) (hf : fX2_empty σ o = some σ0) : CtV L D (ttG g) (wB g) t0 yX2_empty cX2_empty 2 none { frames := 0, cells := 0, slots := 0, locals := 0 } [.ref (g.1 (lw o))] σ σ0 := by
  refine CtV.of (own := RX2) (by decide) rfl (Nat.le_of_ble_eq_true rfl) [(0, .ref (g.1 (lw o)))] rfl ?_
  intro X C hN K
  unfold fX2_empty at hf
  refine kw_aload_n C dX2_empty_0 rfl 0 rfl ?_
  refine kw_iconst C (0 : Int32) dX2_empty_1 rfl ?_
  obtain ⟨σ1, eσ1, hf⟩ := lt_elim hf
  refine kw_put C inG2 tyX2 tyX2_ok nmX2 _ (hO2 g σ o) rfl 4 (Nat.le_of_ble_eq_true rfl) mf_2_24 rfl rfl (tyX2_ok 4 (Nat.le_of_ble_eq_true rfl)) rfl rfl (Nat.le_of_ble_eq_true rfl) ((hF2_4 g σ o _).trans (congrArg (wB g) eσ1.symm)) dX2_empty_2 ?_
  refine kw_iconst C (0 : Int32) dX2_empty_5 rfl ?_
  refine kw_istore_n C dX2_empty_6 rfl hN (Nat.le_of_ble_eq_true rfl) [(1, .int (0 : Int32)), (0, .ref (g.1 (lw o)))] rfl ?_
  refine kw_sub [1, 0] _ rfl ?_
  refine lpx2_walk (P := fun (x2 : Int32) (σ3 : St) => KW X σ3 7 [(0, .ref (g.1 (lw o))), (1, .int x2)] []) ?_ FU _ _ hf
  intro self4 x2 σ3 ih5 hf
  refine kw_iload_n C dX2_empty_7 rfl 1 rfl ?_
  refine kw_iconst C (3 : Int32) dX2_empty_8 rfl ?_
  refine kw_icmp_ge C 32 dX2_empty_9 rfl (fun c6 => ?_) (fun c6 => ?_)
  · have hf := if_p c6 hf
    exact kw_vret (u9 := ()) C K dX2_empty_32 hf
  · have hf := if_n c6 hf
    refine kw_aload_n C dX2_empty_12 rfl 0 rfl ?_
    refine kw_get C inG2 _ (hO2 g σ3 o) rfl 2 (Nat.le_of_ble_eq_true rfl) mf_2_18 rfl rfl dX2_empty_13 ?_
    refine kw_iload_n C dX2_empty_16 rfl 1 rfl ?_
    refine kw_iconst C (0 : Int32) dX2_empty_17 rfl ?_
    obtain ⟨h7, hf⟩ := gd_elim hf
    obtain ⟨σ8, eσ8, hf⟩ := lt_elim hf
    refine kw_iast C _ 0 (hA2_2 g σ3 o) rfl h7 ((hS2_2 g σ3 o _).trans (congrArg (wB g) eσ8.symm)) dX2_empty_18 ?_
    refine kw_aload_n C dX2_empty_19 rfl 0 rfl ?_
    refine kw_get C inG2 _ (hO2 g σ8 o) rfl 3 (Nat.le_of_ble_eq_true rfl) mf_2_21 rfl rfl dX2_empty_20 ?_
    refine kw_iload_n C dX2_empty_23 rfl 1 rfl ?_
    refine kw_iconst C (0 : Int32) dX2_empty_24 rfl ?_
    obtain ⟨h9, hf⟩ := gd_elim hf
    obtain ⟨σ10, eσ10, hf⟩ := lt_elim hf
    refine kw_iast C _ 0 (hA2_3 g σ8 o) rfl h9 ((hS2_3 g σ8 o _).trans (congrArg (wB g) eσ10.symm)) dX2_empty_25 ?_
    obtain ⟨x11, ex11, hf⟩ := lt_elim hf
    refine kw_iinc C x11 dX2_empty_26 1 rfl ex11.symm hN (Nat.le_of_ble_eq_true rfl) [(1, .int x11), (0, .ref (g.1 (lw o)))] rfl ?_
    refine kw_goto C 7 dX2_empty_29 rfl ?_
    refine kw_sub [1, 0] _ rfl ?_
    exact ih5 _ _ hf
set_option maxRecDepth 100000 in
set_option maxHeartbeats 4000000 in
theorem kX2_isTold (L : Launch) (D : va_G) (g : GwT) (t0 : Nat) (o : Bool) (p0 : Int32) (σ : St) (r0 : Int32) (hf : fX2_isTold σ o p0 = some r0) : CtI L D (ttG g) (wB g) t0 yX2_isTold cX2_isTold 2 (some .boolean) { frames := 0, cells := 0, slots := 0, locals := 0 } [.ref (g.1 (lw o)), .int p0] σ r0 σ := by
  refine CtI.of (own := RX2) (by decide) rfl (Nat.le_of_ble_eq_true rfl) [(0, .ref (g.1 (lw o))), (1, .int p0)] rfl ?_
  intro X C hN K
  unfold fX2_isTold at hf
  refine kw_aload_n C dX2_isTold_0 rfl 0 rfl ?_
  refine kw_get C inG2 _ (hO2 g σ o) rfl 3 (Nat.le_of_ble_eq_true rfl) mf_2_21 rfl rfl dX2_isTold_1 ?_
  refine kw_iload_n C dX2_isTold_4 rfl 1 rfl ?_
  obtain ⟨h1, hf⟩ := gd_elim hf
  refine kw_iald C _ 0 (hA2_3 g σ o) rfl h1 dX2_isTold_5 ?_
  refine kw_aload_n C dX2_isTold_6 rfl 0 rfl ?_
  refine kw_get C inG2 _ (hO2 g σ o) rfl 2 (Nat.le_of_ble_eq_true rfl) mf_2_18 rfl rfl dX2_isTold_7 ?_
  refine kw_iload_n C dX2_isTold_10 rfl 1 rfl ?_
  obtain ⟨h2, hf⟩ := gd_elim hf
  refine kw_iald C _ 0 (hA2_2 g σ o) rfl h2 dX2_isTold_11 ?_
  obtain ⟨J4, hJ4, hf⟩ := jnx1_elim hf
  have kJ4 : ∀ (x3 : Int32), J4 x3 = some r0 → KW X σ 20 [] [.int x3] := by
    clear hf
    intro x3 hf
    have hf := (hJ4 x3).symm.trans hf
    obtain ⟨h5, hf⟩ := gd_elim hf
    exact kw_zret C K h5 dX2_isTold_20 (pr_ret hf)
  refine kw_icmp_le C 19 dX2_isTold_12 rfl (fun c6 => ?_) (fun c6 => ?_)
  · have hf := if_p c6 hf
    refine kw_iconst C (0 : Int32) dX2_isTold_19 rfl ?_
    refine kw_sub [] _ rfl ?_
    exact kJ4 _ hf
  · have hf := if_n c6 hf
    refine kw_iconst C (1 : Int32) dX2_isTold_15 rfl ?_
    refine kw_goto C 20 dX2_isTold_16 rfl ?_
    refine kw_sub [] _ rfl ?_
    exact kJ4 _ hf
set_option maxRecDepth 100000 in
set_option maxHeartbeats 4000000 in
theorem kX2_add (L : Launch) (D : va_G) (g : GwT) (t0 : Nat) (o : Bool) (p0 : Int32) (p1 : Int32) (σ : St) (σ0 : St) (hf : fX2_add σ o p0 p1 = some σ0) : CtV L D (ttG g) (wB g) t0 yX2_add cX2_add 3 none { frames := 0, cells := 0, slots := 0, locals := 0 } [.ref (g.1 (lw o)), .int p0, .int p1] σ σ0 := by
  refine CtV.of (own := RX2) (by decide) rfl (Nat.le_of_ble_eq_true rfl) [(0, .ref (g.1 (lw o))), (1, .int p0), (2, .int p1)] rfl ?_
  intro X C hN K
  unfold fX2_add at hf
  refine kw_aload_n C dX2_add_0 rfl 0 rfl ?_
  refine kw_get C inG2 _ (hO2 g σ o) rfl 4 (Nat.le_of_ble_eq_true rfl) mf_2_24 rfl rfl dX2_add_1 ?_
  refine kw_bipush C (64 : Int32) dX2_add_4 rfl ?_
  obtain ⟨J2, hJ2, hf⟩ := jnx1_elim hf
  have kJ2 : ∀ (σ1 : St), J2 σ1 = some σ0 → KW X σ1 39 [] [] := by
    clear hf
    intro σ1 hf
    have hf := (hJ2 σ1).symm.trans hf
    exact kw_vret (u9 := ()) C K dX2_add_39 hf
  refine kw_icmp_ge C 39 dX2_add_6 rfl (fun c3 => ?_) (fun c3 => ?_)
  · have hf := if_p c3 hf
    refine kw_sub [] _ rfl ?_
    exact kJ2 _ hf
  · have hf := if_n c3 hf
    refine kw_aload_n C dX2_add_9 rfl 0 rfl ?_
    refine kw_get C inG2 _ (hO2 g σ o) rfl 0 (Nat.le_of_ble_eq_true rfl) mf_2_9 rfl rfl dX2_add_10 ?_
    refine kw_aload_n C dX2_add_13 rfl 0 rfl ?_
    refine kw_get C inG2 _ (hO2 g σ o) rfl 4 (Nat.le_of_ble_eq_true rfl) mf_2_24 rfl rfl dX2_add_14 ?_
    refine kw_iload_n C dX2_add_17 rfl 1 rfl ?_
    obtain ⟨h4, hf⟩ := gd_elim hf
    obtain ⟨σ5, eσ5, hf⟩ := lt_elim hf
    refine kw_iast C _ 0 (hA2_0 g σ o) rfl h4 ((hS2_0 g σ o _).trans (congrArg (wB g) eσ5.symm)) dX2_add_18 ?_
    refine kw_aload_n C dX2_add_19 rfl 0 rfl ?_
    refine kw_get C inG2 _ (hO2 g σ5 o) rfl 1 (Nat.le_of_ble_eq_true rfl) mf_2_15 rfl rfl dX2_add_20 ?_
    refine kw_aload_n C dX2_add_23 rfl 0 rfl ?_
    refine kw_get C inG2 _ (hO2 g σ5 o) rfl 4 (Nat.le_of_ble_eq_true rfl) mf_2_24 rfl rfl dX2_add_24 ?_
    refine kw_iload_n C dX2_add_27 rfl 2 rfl ?_
    obtain ⟨h6, hf⟩ := gd_elim hf
    obtain ⟨σ7, eσ7, hf⟩ := lt_elim hf
    refine kw_iast C _ 0 (hA2_1 g σ5 o) rfl h6 ((hS2_1 g σ5 o _).trans (congrArg (wB g) eσ7.symm)) dX2_add_28 ?_
    refine kw_aload_n C dX2_add_29 rfl 0 rfl ?_
    refine kw_dup C dX2_add_30 rfl ?_
    refine kw_get C inG2 _ (hO2 g σ7 o) rfl 4 (Nat.le_of_ble_eq_true rfl) mf_2_24 rfl rfl dX2_add_31 ?_
    refine kw_iconst C (1 : Int32) dX2_add_34 rfl ?_
    refine kw_iadd C dX2_add_35 ?_
    obtain ⟨σ8, eσ8, hf⟩ := lt_elim hf
    refine kw_put C inG2 tyX2 tyX2_ok nmX2 _ (hO2 g σ7 o) rfl 4 (Nat.le_of_ble_eq_true rfl) mf_2_24 rfl rfl (tyX2_ok 4 (Nat.le_of_ble_eq_true rfl)) rfl rfl (Nat.le_of_ble_eq_true rfl) ((hF2_4 g σ7 o _).trans (congrArg (wB g) eσ8.symm)) dX2_add_36 ?_
    refine kw_sub [] _ rfl ?_
    exact kJ2 _ hf
set_option maxRecDepth 100000 in
set_option maxHeartbeats 4000000 in
theorem kX4_begin (L : Launch) (D : va_G) (g : GwT) (t0 : Nat) (o : Nat) (ho_o : isSale o) (p0 : Bool) (σ : St) (σ0 : St) (hf : fX4_begin σ o p0 = some σ0) : CtV L D (ttG g) (wB g) t0 yX4_begin cX4_begin 3 none { frames := 0, cells := 0, slots := 0, locals := 0 } [.ref (g.1 o), .ref (g.1 (tx p0))] σ σ0 := by
  refine CtV.of (own := RX4) (by decide) rfl (Nat.le_of_ble_eq_true rfl) [(0, .ref (g.1 o)), (1, .ref (g.1 (tx p0)))] rfl ?_
  intro X C hN K
  unfold fX4_begin at hf
  refine kw_iconst C (0 : Int32) dX4_begin_0 rfl ?_
  refine kw_istore_n C dX4_begin_1 rfl hN (Nat.le_of_ble_eq_true rfl) [(2, .int (0 : Int32)), (0, .ref (g.1 o)), (1, .ref (g.1 (tx p0)))] rfl ?_
  refine kw_sub [1, 2, 0] _ rfl ?_
  refine lpx2_walk (P := fun (x1 : Int32) (σ2 : St) => KW X σ2 2 [(0, .ref (g.1 o)), (1, .ref (g.1 (tx p0))), (2, .int x1)] []) ?_ FU _ _ hf
  intro self3 x1 σ2 ih4 hf
  refine kw_iload_n C dX4_begin_2 rfl 2 rfl ?_
  refine kw_aload_n C dX4_begin_3 rfl 1 rfl ?_
  refine kw_get C inG6 _ (hO6 g σ2 p0) rfl 1 (Nat.le_of_ble_eq_true rfl) mf_4_34 rfl rfl dX4_begin_4 ?_
  refine kw_icmp_ge C 66 dX4_begin_7 rfl (fun c5 => ?_) (fun c5 => ?_)
  · have hf := if_p c5 hf
    refine kw_iconst C (0 : Int32) dX4_begin_66 rfl ?_
    refine kw_istore_n C dX4_begin_67 rfl hN (Nat.le_of_ble_eq_true rfl) [(2, .int (0 : Int32)), (0, .ref (g.1 o)), (1, .ref (g.1 (tx p0)))] rfl ?_
    refine kw_sub [1, 2, 0] _ rfl ?_
    refine lpx2_walk (P := fun (x6 : Int32) (σ7 : St) => KW X σ7 68 [(0, .ref (g.1 o)), (1, .ref (g.1 (tx p0))), (2, .int x6)] []) ?_ FU _ _ hf
    intro self8 x6 σ7 ih9 hf
    refine kw_iload_n C dX4_begin_68 rfl 2 rfl ?_
    refine kw_aload_n C dX4_begin_69 rfl 1 rfl ?_
    refine kw_get C inG6 _ (hO6 g σ7 p0) rfl 8 (Nat.le_of_ble_eq_true rfl) mf_4_42 rfl rfl dX4_begin_70 ?_
    refine kw_icmp_ge C 94 dX4_begin_73 rfl (fun c10 => ?_) (fun c10 => ?_)
    · have hf := if_p c10 hf
      refine kw_aload_n C dX4_begin_94 rfl 0 rfl ?_
      refine kw_iconst C (1 : Int32) dX4_begin_95 rfl ?_
      refine kw_aload_n C dX4_begin_96 rfl 1 rfl ?_
      refine kw_get C inG6 _ (hO6 g σ7 p0) rfl 1 (Nat.le_of_ble_eq_true rfl) mf_4_34 rfl rfl dX4_begin_97 ?_
      refine kw_ishl C dX4_begin_100 ?_
      refine kw_iconst C (1 : Int32) dX4_begin_101 rfl ?_
      refine kw_isub C dX4_begin_102 ?_
      obtain ⟨σ11, eσ11, hf⟩ := lt_elim hf
      refine kw_put C inG4 tyX4 tyX4_ok nmX4 _ (hO4 g σ7 o ho_o) rfl 6 (Nat.le_of_ble_eq_true rfl) mf_4_46 rfl rfl (tyX4_ok 6 (Nat.le_of_ble_eq_true rfl)) rfl rfl (Nat.le_of_ble_eq_true rfl) ((hF4_6 g σ7 o ho_o _).trans (congrArg (wB g) eσ11.symm)) dX4_begin_103 ?_
      refine kw_aload_n C dX4_begin_106 rfl 0 rfl ?_
      refine kw_iconst C (1 : Int32) dX4_begin_107 rfl ?_
      refine kw_aload_n C dX4_begin_108 rfl 1 rfl ?_
      refine kw_get C inG6 _ (hO6 g σ11 p0) rfl 8 (Nat.le_of_ble_eq_true rfl) mf_4_42 rfl rfl dX4_begin_109 ?_
      refine kw_ishl C dX4_begin_112 ?_
      refine kw_iconst C (1 : Int32) dX4_begin_113 rfl ?_
      refine kw_isub C dX4_begin_114 ?_
      obtain ⟨σ12, eσ12, hf⟩ := lt_elim hf
      refine kw_put C inG4 tyX4 tyX4_ok nmX4 _ (hO4 g σ11 o ho_o) rfl 7 (Nat.le_of_ble_eq_true rfl) mf_4_49 rfl rfl (tyX4_ok 7 (Nat.le_of_ble_eq_true rfl)) rfl rfl (Nat.le_of_ble_eq_true rfl) ((hF4_7 g σ11 o ho_o _).trans (congrArg (wB g) eσ12.symm)) dX4_begin_115 ?_
      refine kw_aload_n C dX4_begin_118 rfl 0 rfl ?_
      refine kw_iconst C (0 : Int32) dX4_begin_119 rfl ?_
      obtain ⟨σ13, eσ13, hf⟩ := lt_elim hf
      refine kw_put C inG4 tyX4 tyX4_ok nmX4 _ (hO4 g σ12 o ho_o) rfl 8 (Nat.le_of_ble_eq_true rfl) mf_4_52 rfl rfl (tyX4_ok 8 (Nat.le_of_ble_eq_true rfl)) rfl rfl (Nat.le_of_ble_eq_true rfl) ((hF4_8 g σ12 o ho_o _).trans (congrArg (wB g) eσ13.symm)) dX4_begin_120 ?_
      refine kw_aload_n C dX4_begin_123 rfl 0 rfl ?_
      refine kw_aload_n C dX4_begin_124 rfl 1 rfl ?_
      refine kw_get C inG6 _ (hO6 g σ13 p0) rfl 13 (Nat.le_of_ble_eq_true rfl) mf_4_55 rfl rfl dX4_begin_125 ?_
      obtain ⟨σ14, eσ14, hf⟩ := lt_elim hf
      refine kw_put C inG4 tyX4 tyX4_ok nmX4 _ (hO4 g σ13 o ho_o) rfl 9 (Nat.le_of_ble_eq_true rfl) mf_4_58 rfl rfl (tyX4_ok 9 (Nat.le_of_ble_eq_true rfl)) rfl rfl (Nat.le_of_ble_eq_true rfl) ((hF4_9 g σ13 o ho_o _).trans (congrArg (wB g) eσ14.symm)) dX4_begin_128 ?_
      refine kw_aload_n C dX4_begin_131 rfl 0 rfl ?_
      refine kw_iconst C (-1 : Int32) dX4_begin_132 rfl ?_
      obtain ⟨σ15, eσ15, hf⟩ := lt_elim hf
      refine kw_put C inG4 tyX4 tyX4_ok nmX4 _ (hO4 g σ14 o ho_o) rfl 10 (Nat.le_of_ble_eq_true rfl) mf_4_30 rfl rfl (tyX4_ok 10 (Nat.le_of_ble_eq_true rfl)) rfl rfl (Nat.le_of_ble_eq_true rfl) ((hF4_10 g σ14 o ho_o _).trans (congrArg (wB g) eσ15.symm)) dX4_begin_133 ?_
      refine kw_aload_n C dX4_begin_136 rfl 0 rfl ?_
      refine kw_iconst C (0 : Int32) dX4_begin_137 rfl ?_
      obtain ⟨σ16, eσ16, hf⟩ := lt_elim hf
      refine kw_put C inG4 tyX4 tyX4_ok nmX4 _ (hO4 g σ15 o ho_o) rfl 11 (Nat.le_of_ble_eq_true rfl) mf_4_61 rfl rfl (tyX4_ok 11 (Nat.le_of_ble_eq_true rfl)) rfl rfl (Nat.le_of_ble_eq_true rfl) ((hF4_11 g σ15 o ho_o _).trans (congrArg (wB g) eσ16.symm)) dX4_begin_138 ?_
      refine kw_aload_n C dX4_begin_141 rfl 0 rfl ?_
      refine kw_iconst C (0 : Int32) dX4_begin_142 rfl ?_
      obtain ⟨σ17, eσ17, hf⟩ := lt_elim hf
      refine kw_put C inG4 tyX4 tyX4_ok nmX4 _ (hO4 g σ16 o ho_o) rfl 12 (Nat.le_of_ble_eq_true rfl) mf_4_64 rfl rfl (tyX4_ok 12 (Nat.le_of_ble_eq_true rfl)) rfl rfl (Nat.le_of_ble_eq_true rfl) ((hF4_12 g σ16 o ho_o _).trans (congrArg (wB g) eσ17.symm)) dX4_begin_143 ?_
      refine kw_aload_n C dX4_begin_146 rfl 0 rfl ?_
      refine kw_aload_n C dX4_begin_147 rfl 1 rfl ?_
      refine kw_get C inG6 _ (hO6 g σ17 p0) rfl 14 (Nat.le_of_ble_eq_true rfl) mf_4_67 rfl rfl dX4_begin_148 ?_
      obtain ⟨σ18, eσ18, hf⟩ := lt_elim hf
      refine kw_put C inG4 tyX4 tyX4_ok nmX4 _ (hO4 g σ17 o ho_o) rfl 13 (Nat.le_of_ble_eq_true rfl) mf_4_70 rfl rfl (tyX4_ok 13 (Nat.le_of_ble_eq_true rfl)) rfl rfl (Nat.le_of_ble_eq_true rfl) ((hF4_13 g σ17 o ho_o _).trans (congrArg (wB g) eσ18.symm)) dX4_begin_151 ?_
      refine kw_aload_n C dX4_begin_154 rfl 0 rfl ?_
      refine kw_iconst C (0 : Int32) dX4_begin_155 rfl ?_
      obtain ⟨σ19, eσ19, hf⟩ := lt_elim hf
      refine kw_put C inG4 tyX4 tyX4_ok nmX4 _ (hO4 g σ18 o ho_o) rfl 14 (Nat.le_of_ble_eq_true rfl) mf_4_73 rfl rfl (tyX4_ok 14 (Nat.le_of_ble_eq_true rfl)) (narrow_bz (by decide)) (fits_bz (by decide)) (Nat.le_of_ble_eq_true rfl) ((hF4_14 g σ18 o ho_o _).trans (congrArg (wB g) eσ19.symm)) dX4_begin_156 ?_
      exact kw_vret (u9 := ()) C K dX4_begin_159 hf
    · have hf := if_n c10 hf
      refine kw_aload_n C dX4_begin_76 rfl 0 rfl ?_
      refine kw_get C inG4 _ (hO4 g σ7 o ho_o) rfl 5 (Nat.le_of_ble_eq_true rfl) mf_4_27 rfl rfl dX4_begin_77 ?_
      refine kw_iload_n C dX4_begin_80 rfl 2 rfl ?_
      refine kw_aload_n C dX4_begin_81 rfl 1 rfl ?_
      refine kw_get C inG6 _ (hO6 g σ7 p0) rfl 11 (Nat.le_of_ble_eq_true rfl) mf_4_45 rfl rfl dX4_begin_82 ?_
      refine kw_iload_n C dX4_begin_85 rfl 2 rfl ?_
      obtain ⟨h20, hf⟩ := gd_elim hf
      refine kw_iald C _ 0 (hA6_11 g σ7 p0) rfl h20 dX4_begin_86 ?_
      obtain ⟨h21, hf⟩ := gd_elim hf
      obtain ⟨σ22, eσ22, hf⟩ := lt_elim hf
      refine kw_iast C _ 0 (hA4_5 g σ7 o ho_o) rfl h21 ((hS4_5 g σ7 o ho_o _).trans (congrArg (wB g) eσ22.symm)) dX4_begin_87 ?_
      obtain ⟨x23, ex23, hf⟩ := lt_elim hf
      refine kw_iinc C x23 dX4_begin_88 2 rfl ex23.symm hN (Nat.le_of_ble_eq_true rfl) [(2, .int x23), (0, .ref (g.1 o)), (1, .ref (g.1 (tx p0)))] rfl ?_
      refine kw_goto C 68 dX4_begin_91 rfl ?_
      refine kw_sub [1, 2, 0] _ rfl ?_
      exact ih9 _ _ hf
  · have hf := if_n c5 hf
    refine kw_aload_n C dX4_begin_10 rfl 0 rfl ?_
    refine kw_get C inG4 _ (hO4 g σ2 o ho_o) rfl 0 (Nat.le_of_ble_eq_true rfl) mf_4_9 rfl rfl dX4_begin_11 ?_
    refine kw_iload_n C dX4_begin_14 rfl 2 rfl ?_
    refine kw_aload_n C dX4_begin_15 rfl 1 rfl ?_
    refine kw_get C inG6 _ (hO6 g σ2 p0) rfl 3 (Nat.le_of_ble_eq_true rfl) mf_4_39 rfl rfl dX4_begin_16 ?_
    refine kw_iload_n C dX4_begin_19 rfl 2 rfl ?_
    obtain ⟨h24, hf⟩ := gd_elim hf
    refine kw_iald C _ 0 (hA6_3 g σ2 p0) rfl h24 dX4_begin_20 ?_
    obtain ⟨h25, hf⟩ := gd_elim hf
    obtain ⟨σ26, eσ26, hf⟩ := lt_elim hf
    refine kw_iast C _ 0 (hA4_0 g σ2 o ho_o) rfl h25 ((hS4_0 g σ2 o ho_o _).trans (congrArg (wB g) eσ26.symm)) dX4_begin_21 ?_
    refine kw_aload_n C dX4_begin_22 rfl 0 rfl ?_
    refine kw_get C inG4 _ (hO4 g σ26 o ho_o) rfl 1 (Nat.le_of_ble_eq_true rfl) mf_4_15 rfl rfl dX4_begin_23 ?_
    refine kw_iload_n C dX4_begin_26 rfl 2 rfl ?_
    refine kw_aload_n C dX4_begin_27 rfl 1 rfl ?_
    refine kw_get C inG6 _ (hO6 g σ26 p0) rfl 6 (Nat.le_of_ble_eq_true rfl) mf_4_40 rfl rfl dX4_begin_28 ?_
    refine kw_iload_n C dX4_begin_31 rfl 2 rfl ?_
    obtain ⟨h27, hf⟩ := gd_elim hf
    refine kw_iald C _ 0 (hA6_6 g σ26 p0) rfl h27 dX4_begin_32 ?_
    obtain ⟨h28, hf⟩ := gd_elim hf
    obtain ⟨σ29, eσ29, hf⟩ := lt_elim hf
    refine kw_iast C _ 0 (hA4_1 g σ26 o ho_o) rfl h28 ((hS4_1 g σ26 o ho_o _).trans (congrArg (wB g) eσ29.symm)) dX4_begin_33 ?_
    refine kw_aload_n C dX4_begin_34 rfl 0 rfl ?_
    refine kw_get C inG4 _ (hO4 g σ29 o ho_o) rfl 2 (Nat.le_of_ble_eq_true rfl) mf_4_18 rfl rfl dX4_begin_35 ?_
    refine kw_iload_n C dX4_begin_38 rfl 2 rfl ?_
    refine kw_aload_n C dX4_begin_39 rfl 1 rfl ?_
    refine kw_get C inG6 _ (hO6 g σ29 p0) rfl 7 (Nat.le_of_ble_eq_true rfl) mf_4_41 rfl rfl dX4_begin_40 ?_
    refine kw_iload_n C dX4_begin_43 rfl 2 rfl ?_
    obtain ⟨h30, hf⟩ := gd_elim hf
    refine kw_iald C _ 0 (hA6_7 g σ29 p0) rfl h30 dX4_begin_44 ?_
    obtain ⟨h31, hf⟩ := gd_elim hf
    obtain ⟨σ32, eσ32, hf⟩ := lt_elim hf
    refine kw_iast C _ 0 (hA4_2 g σ29 o ho_o) rfl h31 ((hS4_2 g σ29 o ho_o _).trans (congrArg (wB g) eσ32.symm)) dX4_begin_45 ?_
    refine kw_aload_n C dX4_begin_46 rfl 0 rfl ?_
    refine kw_get C inG4 _ (hO4 g σ32 o ho_o) rfl 3 (Nat.le_of_ble_eq_true rfl) mf_4_21 rfl rfl dX4_begin_47 ?_
    refine kw_iload_n C dX4_begin_50 rfl 2 rfl ?_
    refine kw_iconst C (0 : Int32) dX4_begin_51 rfl ?_
    obtain ⟨h33, hf⟩ := gd_elim hf
    obtain ⟨σ34, eσ34, hf⟩ := lt_elim hf
    refine kw_iast C _ 0 (hA4_3 g σ32 o ho_o) rfl h33 ((hS4_3 g σ32 o ho_o _).trans (congrArg (wB g) eσ34.symm)) dX4_begin_52 ?_
    refine kw_aload_n C dX4_begin_53 rfl 0 rfl ?_
    refine kw_get C inG4 _ (hO4 g σ34 o ho_o) rfl 4 (Nat.le_of_ble_eq_true rfl) mf_4_24 rfl rfl dX4_begin_54 ?_
    refine kw_iload_n C dX4_begin_57 rfl 2 rfl ?_
    refine kw_iconst C (-1 : Int32) dX4_begin_58 rfl ?_
    obtain ⟨h35, hf⟩ := gd_elim hf
    obtain ⟨σ36, eσ36, hf⟩ := lt_elim hf
    refine kw_iast C _ 0 (hA4_4 g σ34 o ho_o) rfl h35 ((hS4_4 g σ34 o ho_o _).trans (congrArg (wB g) eσ36.symm)) dX4_begin_59 ?_
    obtain ⟨x37, ex37, hf⟩ := lt_elim hf
    refine kw_iinc C x37 dX4_begin_60 2 rfl ex37.symm hN (Nat.le_of_ble_eq_true rfl) [(2, .int x37), (0, .ref (g.1 o)), (1, .ref (g.1 (tx p0)))] rfl ?_
    refine kw_goto C 2 dX4_begin_63 rfl ?_
    refine kw_sub [1, 2, 0] _ rfl ?_
    exact ih4 _ _ hf
set_option maxRecDepth 100000 in
set_option maxHeartbeats 4000000 in
theorem kX4_isFirst (L : Launch) (D : va_G) (g : GwT) (t0 : Nat) (o : Nat) (ho_o : isSale o) (p0 : Int32) (σ : St) (r0 : Int32) (hf : fX4_isFirst σ o p0 = some r0) : CtI L D (ttG g) (wB g) t0 yX4_isFirst cX4_isFirst 2 (some .boolean) { frames := 0, cells := 0, slots := 0, locals := 0 } [.ref (g.1 o), .int p0] σ r0 σ := by
  refine CtI.of (own := RX4) (by decide) rfl (Nat.le_of_ble_eq_true rfl) [(0, .ref (g.1 o)), (1, .int p0)] rfl ?_
  intro X C hN K
  unfold fX4_isFirst at hf
  refine kw_aload_n C dX4_isFirst_0 rfl 0 rfl ?_
  refine kw_get C inG4 _ (hO4 g σ o ho_o) rfl 7 (Nat.le_of_ble_eq_true rfl) mf_4_49 rfl rfl dX4_isFirst_1 ?_
  refine kw_iload_n C dX4_isFirst_4 rfl 1 rfl ?_
  refine kw_ishr C dX4_isFirst_5 ?_
  refine kw_iconst C (1 : Int32) dX4_isFirst_6 rfl ?_
  refine kw_iand C dX4_isFirst_7 ?_
  refine kw_iconst C (1 : Int32) dX4_isFirst_8 rfl ?_
  obtain ⟨J2, hJ2, hf⟩ := jnx1_elim hf
  have kJ2 : ∀ (x1 : Int32), J2 x1 = some r0 → KW X σ 17 [] [.int x1] := by
    clear hf
    intro x1 hf
    have hf := (hJ2 x1).symm.trans hf
    obtain ⟨h3, hf⟩ := gd_elim hf
    exact kw_zret C K h3 dX4_isFirst_17 (pr_ret hf)
  refine kw_icmp_ne C 16 dX4_isFirst_9 rfl (fun c4 => ?_) (fun c4 => ?_)
  · have hf := if_n c4 hf
    refine kw_iconst C (0 : Int32) dX4_isFirst_16 rfl ?_
    refine kw_sub [] _ rfl ?_
    exact kJ2 _ hf
  · have hf := if_p c4 hf
    refine kw_iconst C (1 : Int32) dX4_isFirst_12 rfl ?_
    refine kw_goto C 17 dX4_isFirst_13 rfl ?_
    refine kw_sub [] _ rfl ?_
    exact kJ2 _ hf
set_option maxRecDepth 100000 in
set_option maxHeartbeats 4000000 in
theorem kX4_holds (L : Launch) (D : va_G) (g : GwT) (t0 : Nat) (o : Nat) (ho_o : isSale o) (p0 : Int32) (σ : St) (r0 : Int32) (hf : fX4_holds σ o p0 = some r0) : CtI L D (ttG g) (wB g) t0 yX4_holds cX4_holds 2 (some .boolean) { frames := 0, cells := 0, slots := 0, locals := 0 } [.ref (g.1 o), .int p0] σ r0 σ := by
  refine CtI.of (own := RX4) (by decide) rfl (Nat.le_of_ble_eq_true rfl) [(0, .ref (g.1 o)), (1, .int p0)] rfl ?_
  intro X C hN K
  unfold fX4_holds at hf
  refine kw_aload_n C dX4_holds_0 rfl 0 rfl ?_
  refine kw_get C inG4 _ (hO4 g σ o ho_o) rfl 6 (Nat.le_of_ble_eq_true rfl) mf_4_46 rfl rfl dX4_holds_1 ?_
  refine kw_iload_n C dX4_holds_4 rfl 1 rfl ?_
  refine kw_ishr C dX4_holds_5 ?_
  refine kw_iconst C (1 : Int32) dX4_holds_6 rfl ?_
  refine kw_iand C dX4_holds_7 ?_
  refine kw_iconst C (1 : Int32) dX4_holds_8 rfl ?_
  obtain ⟨J2, hJ2, hf⟩ := jnx1_elim hf
  have kJ2 : ∀ (x1 : Int32), J2 x1 = some r0 → KW X σ 17 [] [.int x1] := by
    clear hf
    intro x1 hf
    have hf := (hJ2 x1).symm.trans hf
    obtain ⟨h3, hf⟩ := gd_elim hf
    exact kw_zret C K h3 dX4_holds_17 (pr_ret hf)
  refine kw_icmp_ne C 16 dX4_holds_9 rfl (fun c4 => ?_) (fun c4 => ?_)
  · have hf := if_n c4 hf
    refine kw_iconst C (0 : Int32) dX4_holds_16 rfl ?_
    refine kw_sub [] _ rfl ?_
    exact kJ2 _ hf
  · have hf := if_p c4 hf
    refine kw_iconst C (1 : Int32) dX4_holds_12 rfl ?_
    refine kw_goto C 17 dX4_holds_13 rfl ?_
    refine kw_sub [] _ rfl ?_
    exact kJ2 _ hf
set_option maxRecDepth 100000 in
set_option maxHeartbeats 4000000 in
theorem kX4_end (L : Launch) (D : va_G) (g : GwT) (t0 : Nat) (o : Nat) (ho_o : isSale o) (p0 : Int32) (σ : St) (σ0 : St) (hf : fX4_end σ o p0 = some σ0) : CtV L D (ttG g) (wB g) t0 yX4_end cX4_end 2 none { frames := 0, cells := 0, slots := 0, locals := 0 } [.ref (g.1 o), .int p0] σ σ0 := by
  refine CtV.of (own := RX4) (by decide) rfl (Nat.le_of_ble_eq_true rfl) [(0, .ref (g.1 o)), (1, .int p0)] rfl ?_
  intro X C hN K
  unfold fX4_end at hf
  refine kw_aload_n C dX4_end_0 rfl 0 rfl ?_
  refine kw_dup C dX4_end_1 rfl ?_
  refine kw_get C inG4 _ (hO4 g σ o ho_o) rfl 6 (Nat.le_of_ble_eq_true rfl) mf_4_46 rfl rfl dX4_end_2 ?_
  refine kw_iconst C (1 : Int32) dX4_end_5 rfl ?_
  refine kw_iload_n C dX4_end_6 rfl 1 rfl ?_
  refine kw_ishl C dX4_end_7 ?_
  refine kw_iconst C (-1 : Int32) dX4_end_8 rfl ?_
  refine kw_ixor C dX4_end_9 ?_
  refine kw_iand C dX4_end_10 ?_
  obtain ⟨σ1, eσ1, hf⟩ := lt_elim hf
  refine kw_put C inG4 tyX4 tyX4_ok nmX4 _ (hO4 g σ o ho_o) rfl 6 (Nat.le_of_ble_eq_true rfl) mf_4_46 rfl rfl (tyX4_ok 6 (Nat.le_of_ble_eq_true rfl)) rfl rfl (Nat.le_of_ble_eq_true rfl) ((hF4_6 g σ o ho_o _).trans (congrArg (wB g) eσ1.symm)) dX4_end_11 ?_
  exact kw_vret (u9 := ()) C K dX4_end_14 hf
set_option maxRecDepth 100000 in
set_option maxHeartbeats 4000000 in
theorem kX4_wed (L : Launch) (D : va_G) (g : GwT) (t0 : Nat) (o : Nat) (ho_o : isSale o) (p0 : Int32) (p1 : Int32) (σ : St) (σ0 : St) (hf : fX4_wed σ o p0 p1 = some σ0) : CtV L D (ttG g) (wB g) t0 yX4_wed cX4_wed 3 none { frames := 1, cells := 0, slots := 0, locals := 23 } [.ref (g.1 o), .int p0, .int p1] σ σ0 := by
  refine CtV.of (own := RX4) (by decide) rfl (Nat.le_of_ble_eq_true rfl) [(0, .ref (g.1 o)), (1, .int p0), (2, .int p1)] rfl ?_
  intro X C hN K
  unfold fX4_wed at hf
  refine kw_aload_n C dX4_wed_0 rfl 0 rfl ?_
  refine kw_get C inG4 _ (hO4 g σ o ho_o) rfl 0 (Nat.le_of_ble_eq_true rfl) mf_4_9 rfl rfl dX4_wed_1 ?_
  refine kw_iload_n C dX4_wed_4 rfl 1 rfl ?_
  refine kw_sipush C (9999 : Int32) dX4_wed_5 rfl ?_
  refine kw_aload_n C dX4_wed_8 rfl 0 rfl ?_
  refine kw_get C inG4 _ (hO4 g σ o ho_o) rfl 0 (Nat.le_of_ble_eq_true rfl) mf_4_9 rfl rfl dX4_wed_9 ?_
  refine kw_iload_n C dX4_wed_12 rfl 1 rfl ?_
  obtain ⟨h1, hf⟩ := gd_elim hf
  refine kw_iald C _ 0 (hA4_0 g σ o ho_o) rfl h1 dX4_wed_13 ?_
  refine kw_aload_n C dX4_wed_14 rfl 0 rfl ?_
  refine kw_get C inG4 _ (hO4 g σ o ho_o) rfl 0 (Nat.le_of_ble_eq_true rfl) mf_4_9 rfl rfl dX4_wed_15 ?_
  refine kw_iload_n C dX4_wed_18 rfl 2 rfl ?_
  obtain ⟨h2, hf⟩ := gd_elim hf
  refine kw_iald C _ 0 (hA4_0 g σ o ho_o) rfl h2 dX4_wed_19 ?_
  refine kw_iadd C dX4_wed_20 ?_
  refine kw_mmin C ml_X4_83 mst_min mi_Math mcode_min ⟨Nat.le_of_ble_eq_true rfl, Nat.le_of_ble_eq_true rfl⟩ dX4_wed_21 ?_
  obtain ⟨h3, hf⟩ := gd_elim hf
  obtain ⟨σ4, eσ4, hf⟩ := lt_elim hf
  refine kw_iast C _ 0 (hA4_0 g σ o ho_o) rfl h3 ((hS4_0 g σ o ho_o _).trans (congrArg (wB g) eσ4.symm)) dX4_wed_24 ?_
  refine kw_aload_n C dX4_wed_25 rfl 0 rfl ?_
  refine kw_get C inG4 _ (hO4 g σ4 o ho_o) rfl 2 (Nat.le_of_ble_eq_true rfl) mf_4_18 rfl rfl dX4_wed_26 ?_
  refine kw_iload_n C dX4_wed_29 rfl 1 rfl ?_
  refine kw_bipush C (9 : Int32) dX4_wed_30 rfl ?_
  refine kw_aload_n C dX4_wed_32 rfl 0 rfl ?_
  refine kw_get C inG4 _ (hO4 g σ4 o ho_o) rfl 2 (Nat.le_of_ble_eq_true rfl) mf_4_18 rfl rfl dX4_wed_33 ?_
  refine kw_iload_n C dX4_wed_36 rfl 1 rfl ?_
  obtain ⟨h5, hf⟩ := gd_elim hf
  refine kw_iald C _ 0 (hA4_2 g σ4 o ho_o) rfl h5 dX4_wed_37 ?_
  refine kw_aload_n C dX4_wed_38 rfl 0 rfl ?_
  refine kw_get C inG4 _ (hO4 g σ4 o ho_o) rfl 2 (Nat.le_of_ble_eq_true rfl) mf_4_18 rfl rfl dX4_wed_39 ?_
  refine kw_iload_n C dX4_wed_42 rfl 2 rfl ?_
  obtain ⟨h6, hf⟩ := gd_elim hf
  refine kw_iald C _ 0 (hA4_2 g σ4 o ho_o) rfl h6 dX4_wed_43 ?_
  refine kw_iadd C dX4_wed_44 ?_
  refine kw_mmin C ml_X4_83 mst_min mi_Math mcode_min ⟨Nat.le_of_ble_eq_true rfl, Nat.le_of_ble_eq_true rfl⟩ dX4_wed_45 ?_
  obtain ⟨h7, hf⟩ := gd_elim hf
  obtain ⟨σ8, eσ8, hf⟩ := lt_elim hf
  refine kw_iast C _ 0 (hA4_2 g σ4 o ho_o) rfl h7 ((hS4_2 g σ4 o ho_o _).trans (congrArg (wB g) eσ8.symm)) dX4_wed_48 ?_
  refine kw_aload_n C dX4_wed_49 rfl 0 rfl ?_
  refine kw_iload_n C dX4_wed_50 rfl 2 rfl ?_
  obtain ⟨σ10, hc9, hf⟩ := bV_elim hf
  refine kw_callVV C [.int p1] (kX4_end L D g t0 o ho_o p1 σ8 _ hc9) RX4 mV_X4_89 ⟨rfl, rfl⟩ dd_X4_end ⟨Nat.le_of_ble_eq_true rfl, Nat.le_of_ble_eq_true rfl⟩ _ (hO4 g σ8 o ho_o) rfl rfl rfl (Nat.le_of_ble_eq_true rfl) dX4_wed_51 ?_
  refine kw_aload_n C dX4_wed_54 rfl 0 rfl ?_
  refine kw_get C inG4 _ (hO4 g σ10 o ho_o) rfl 10 (Nat.le_of_ble_eq_true rfl) mf_4_30 rfl rfl dX4_wed_55 ?_
  refine kw_iload_n C dX4_wed_58 rfl 2 rfl ?_
  obtain ⟨J12, hJ12, hf⟩ := jnx1_elim hf
  have kJ12 : ∀ (σ11 : St), J12 σ11 = some σ0 → KW X σ11 67 [] [] := by
    clear hf
    intro σ11 hf
    have hf := (hJ12 σ11).symm.trans hf
    exact kw_vret (u9 := ()) C K dX4_wed_67 hf
  refine kw_icmp_ne C 67 dX4_wed_59 rfl (fun c13 => ?_) (fun c13 => ?_)
  · have hf := if_n c13 hf
    refine kw_sub [] _ rfl ?_
    exact kJ12 _ hf
  · have hf := if_p c13 hf
    refine kw_aload_n C dX4_wed_62 rfl 0 rfl ?_
    refine kw_iload_n C dX4_wed_63 rfl 1 rfl ?_
    obtain ⟨σ14, eσ14, hf⟩ := lt_elim hf
    refine kw_put C inG4 tyX4 tyX4_ok nmX4 _ (hO4 g σ10 o ho_o) rfl 10 (Nat.le_of_ble_eq_true rfl) mf_4_30 rfl rfl (tyX4_ok 10 (Nat.le_of_ble_eq_true rfl)) rfl rfl (Nat.le_of_ble_eq_true rfl) ((hF4_10 g σ10 o ho_o _).trans (congrArg (wB g) eσ14.symm)) dX4_wed_64 ?_
    refine kw_sub [] _ rfl ?_
    exact kJ12 _ hf
set_option maxRecDepth 100000 in
set_option maxHeartbeats 4000000 in
theorem kX4_growOlder (L : Launch) (D : va_G) (g : GwT) (t0 : Nat) (o : Nat) (ho_o : isSale o) (p0 : Int32) (σ : St) (σ0 : St) (hf : fX4_growOlder σ o p0 = some σ0) : CtV L D (ttG g) (wB g) t0 yX4_growOlder cX4_growOlder 2 none { frames := 1, cells := 0, slots := 0, locals := 23 } [.ref (g.1 o), .int p0] σ σ0 := by
  refine CtV.of (own := RX4) (by decide) rfl (Nat.le_of_ble_eq_true rfl) [(0, .ref (g.1 o)), (1, .int p0)] rfl ?_
  intro X C hN K
  unfold fX4_growOlder at hf
  refine kw_aload_n C dX4_growOlder_0 rfl 0 rfl ?_
  refine kw_get C inG4 _ (hO4 g σ o ho_o) rfl 1 (Nat.le_of_ble_eq_true rfl) mf_4_15 rfl rfl dX4_growOlder_1 ?_
  refine kw_iload_n C dX4_growOlder_4 rfl 1 rfl ?_
  refine kw_bipush C (99 : Int32) dX4_growOlder_5 rfl ?_
  refine kw_aload_n C dX4_growOlder_7 rfl 0 rfl ?_
  refine kw_get C inG4 _ (hO4 g σ o ho_o) rfl 1 (Nat.le_of_ble_eq_true rfl) mf_4_15 rfl rfl dX4_growOlder_8 ?_
  refine kw_iload_n C dX4_growOlder_11 rfl 1 rfl ?_
  obtain ⟨h1, hf⟩ := gd_elim hf
  refine kw_iald C _ 0 (hA4_1 g σ o ho_o) rfl h1 dX4_growOlder_12 ?_
  refine kw_iconst C (1 : Int32) dX4_growOlder_13 rfl ?_
  refine kw_iadd C dX4_growOlder_14 ?_
  refine kw_mmin C ml_X4_83 mst_min mi_Math mcode_min ⟨Nat.le_of_ble_eq_true rfl, Nat.le_of_ble_eq_true rfl⟩ dX4_growOlder_15 ?_
  obtain ⟨h2, hf⟩ := gd_elim hf
  obtain ⟨σ3, eσ3, hf⟩ := lt_elim hf
  refine kw_iast C _ 0 (hA4_1 g σ o ho_o) rfl h2 ((hS4_1 g σ o ho_o _).trans (congrArg (wB g) eσ3.symm)) dX4_growOlder_18 ?_
  exact kw_vret (u9 := ()) C K dX4_growOlder_19 hf
set_option maxRecDepth 100000 in
set_option maxHeartbeats 4000000 in
theorem kX4_nextNumber (L : Launch) (D : va_G) (g : GwT) (t0 : Nat) (o : Nat) (ho_o : isSale o) (σ : St) (r0 : Int32) (σ0 : St) (hf : fX4_nextNumber σ o = some (r0, σ0)) : CtI L D (ttG g) (wB g) t0 yX4_nextNumber cX4_nextNumber 1 (some .int) { frames := 0, cells := 0, slots := 0, locals := 0 } [.ref (g.1 o)] σ r0 σ0 := by
  refine CtI.of (own := RX4) (by decide) rfl (Nat.le_of_ble_eq_true rfl) [(0, .ref (g.1 o))] rfl ?_
  intro X C hN K
  unfold fX4_nextNumber at hf
  refine kw_aload_n C dX4_nextNumber_0 rfl 0 rfl ?_
  refine kw_aload_n C dX4_nextNumber_1 rfl 0 rfl ?_
  refine kw_get C inG4 _ (hO4 g σ o ho_o) rfl 13 (Nat.le_of_ble_eq_true rfl) mf_4_70 rfl rfl dX4_nextNumber_2 ?_
  refine kw_ldc C dX4_nextNumber_5 mk_X4_99 ?_
  refine kw_imul C dX4_nextNumber_7 ?_
  refine kw_sipush C (12345 : Int32) dX4_nextNumber_8 rfl ?_
  refine kw_iadd C dX4_nextNumber_11 ?_
  refine kw_ldc C dX4_nextNumber_12 mk_X4_102 ?_
  refine kw_iand C dX4_nextNumber_14 ?_
  obtain ⟨σ1, eσ1, hf⟩ := lt_elim hf
  refine kw_put C inG4 tyX4 tyX4_ok nmX4 _ (hO4 g σ o ho_o) rfl 13 (Nat.le_of_ble_eq_true rfl) mf_4_70 rfl rfl (tyX4_ok 13 (Nat.le_of_ble_eq_true rfl)) rfl rfl (Nat.le_of_ble_eq_true rfl) ((hF4_13 g σ o ho_o _).trans (congrArg (wB g) eσ1.symm)) dX4_nextNumber_15 ?_
  refine kw_aload_n C dX4_nextNumber_18 rfl 0 rfl ?_
  refine kw_get C inG4 _ (hO4 g σ1 o ho_o) rfl 13 (Nat.le_of_ble_eq_true rfl) mf_4_70 rfl rfl dX4_nextNumber_19 ?_
  refine kw_ldc C dX4_nextNumber_22 mk_X4_103 ?_
  refine kw_idiv C dX4_nextNumber_24 (by decide) ?_
  exact kw_iret C K dX4_nextNumber_25 hf
set_option maxRecDepth 100000 in
set_option maxHeartbeats 4000000 in
theorem kX4_ageParts (L : Launch) (D : va_G) (g : GwT) (t0 : Nat) (o : Nat) (ho_o : isSale o) (p0 : Bool) (σ : St) (σ0 : St) (hf : fX4_ageParts σ o p0 = some σ0) : CtV L D (ttG g) (wB g) t0 yX4_ageParts cX4_ageParts 3 none { frames := 0, cells := 0, slots := 0, locals := 0 } [.ref (g.1 o), .ref (g.1 (tx p0))] σ σ0 := by
  refine CtV.of (own := RX4) (by decide) rfl (Nat.le_of_ble_eq_true rfl) [(0, .ref (g.1 o)), (1, .ref (g.1 (tx p0)))] rfl ?_
  intro X C hN K
  unfold fX4_ageParts at hf
  refine kw_iconst C (0 : Int32) dX4_ageParts_0 rfl ?_
  refine kw_istore_n C dX4_ageParts_1 rfl hN (Nat.le_of_ble_eq_true rfl) [(2, .int (0 : Int32)), (0, .ref (g.1 o)), (1, .ref (g.1 (tx p0)))] rfl ?_
  refine kw_sub [1, 2, 0] _ rfl ?_
  refine lpx2_walk (P := fun (x1 : Int32) (σ2 : St) => KW X σ2 2 [(0, .ref (g.1 o)), (1, .ref (g.1 (tx p0))), (2, .int x1)] []) ?_ FU _ _ hf
  intro self3 x1 σ2 ih4 hf
  refine kw_iload_n C dX4_ageParts_2 rfl 2 rfl ?_
  refine kw_aload_n C dX4_ageParts_3 rfl 1 rfl ?_
  refine kw_get C inG6 _ (hO6 g σ2 p0) rfl 8 (Nat.le_of_ble_eq_true rfl) mf_4_42 rfl rfl dX4_ageParts_4 ?_
  refine kw_icmp_ge C 62 dX4_ageParts_7 rfl (fun c5 => ?_) (fun c5 => ?_)
  · have hf := if_p c5 hf
    exact kw_vret (u9 := ()) C K dX4_ageParts_62 hf
  · have hf := if_n c5 hf
    refine kw_aload_n C dX4_ageParts_10 rfl 0 rfl ?_
    refine kw_get C inG4 _ (hO4 g σ2 o ho_o) rfl 5 (Nat.le_of_ble_eq_true rfl) mf_4_27 rfl rfl dX4_ageParts_11 ?_
    refine kw_iload_n C dX4_ageParts_14 rfl 2 rfl ?_
    refine kw_dup2 C dX4_ageParts_15 rfl rfl ?_
    obtain ⟨h6, hf⟩ := gd_elim hf
    refine kw_iald C _ 0 (hA4_5 g σ2 o ho_o) rfl h6 dX4_ageParts_16 ?_
    refine kw_iconst C (1 : Int32) dX4_ageParts_17 rfl ?_
    refine kw_iadd C dX4_ageParts_18 ?_
    obtain ⟨h7, hf⟩ := gd_elim hf
    obtain ⟨σ8, eσ8, hf⟩ := lt_elim hf
    refine kw_iast C _ 0 (hA4_5 g σ2 o ho_o) rfl h7 ((hS4_5 g σ2 o ho_o _).trans (congrArg (wB g) eσ8.symm)) dX4_ageParts_19 ?_
    refine kw_aload_n C dX4_ageParts_20 rfl 0 rfl ?_
    refine kw_get C inG4 _ (hO4 g σ8 o ho_o) rfl 5 (Nat.le_of_ble_eq_true rfl) mf_4_27 rfl rfl dX4_ageParts_21 ?_
    refine kw_iload_n C dX4_ageParts_24 rfl 2 rfl ?_
    obtain ⟨h9, hf⟩ := gd_elim hf
    refine kw_iald C _ 0 (hA4_5 g σ8 o ho_o) rfl h9 dX4_ageParts_25 ?_
    refine kw_aload_n C dX4_ageParts_26 rfl 1 rfl ?_
    refine kw_get C inG6 _ (hO6 g σ8 p0) rfl 10 (Nat.le_of_ble_eq_true rfl) mf_4_93 rfl rfl dX4_ageParts_27 ?_
    refine kw_iload_n C dX4_ageParts_30 rfl 2 rfl ?_
    obtain ⟨h10, hf⟩ := gd_elim hf
    refine kw_iald C _ 0 (hA6_10 g σ8 p0) rfl h10 dX4_ageParts_31 ?_
    obtain ⟨J12, hJ12, hf⟩ := jnx1_elim hf
    have kJ12 : ∀ (σ11 : St), J12 σ11 = some σ0 → KW X σ11 56 [(0, .ref (g.1 o)), (1, .ref (g.1 (tx p0))), (2, .int x1)] [] := by
      clear hf
      intro σ11 hf
      have hf := (hJ12 σ11).symm.trans hf
      obtain ⟨x13, ex13, hf⟩ := lt_elim hf
      refine kw_iinc C x13 dX4_ageParts_56 2 rfl ex13.symm hN (Nat.le_of_ble_eq_true rfl) [(2, .int x13), (0, .ref (g.1 o)), (1, .ref (g.1 (tx p0)))] rfl ?_
      refine kw_goto C 2 dX4_ageParts_59 rfl ?_
      refine kw_sub [1, 2, 0] _ rfl ?_
      exact ih4 _ _ hf
    refine kw_icmp_lt C 56 dX4_ageParts_32 rfl (fun c14 => ?_) (fun c14 => ?_)
    · have hf := if_p c14 hf
      exact kJ12 _ hf
    · have hf := if_n c14 hf
      refine kw_aload_n C dX4_ageParts_35 rfl 0 rfl ?_
      refine kw_get C inG4 _ (hO4 g σ8 o ho_o) rfl 5 (Nat.le_of_ble_eq_true rfl) mf_4_27 rfl rfl dX4_ageParts_36 ?_
      refine kw_iload_n C dX4_ageParts_39 rfl 2 rfl ?_
      refine kw_iconst C (0 : Int32) dX4_ageParts_40 rfl ?_
      obtain ⟨h15, hf⟩ := gd_elim hf
      obtain ⟨σ16, eσ16, hf⟩ := lt_elim hf
      refine kw_iast C _ 0 (hA4_5 g σ8 o ho_o) rfl h15 ((hS4_5 g σ8 o ho_o _).trans (congrArg (wB g) eσ16.symm)) dX4_ageParts_41 ?_
      refine kw_aload_n C dX4_ageParts_42 rfl 0 rfl ?_
      refine kw_dup C dX4_ageParts_43 rfl ?_
      refine kw_get C inG4 _ (hO4 g σ16 o ho_o) rfl 7 (Nat.le_of_ble_eq_true rfl) mf_4_49 rfl rfl dX4_ageParts_44 ?_
      refine kw_iconst C (1 : Int32) dX4_ageParts_47 rfl ?_
      refine kw_iload_n C dX4_ageParts_48 rfl 2 rfl ?_
      refine kw_ishl C dX4_ageParts_49 ?_
      refine kw_iconst C (-1 : Int32) dX4_ageParts_50 rfl ?_
      refine kw_ixor C dX4_ageParts_51 ?_
      refine kw_iand C dX4_ageParts_52 ?_
      obtain ⟨σ17, eσ17, hf⟩ := lt_elim hf
      refine kw_put C inG4 tyX4 tyX4_ok nmX4 _ (hO4 g σ16 o ho_o) rfl 7 (Nat.le_of_ble_eq_true rfl) mf_4_49 rfl rfl (tyX4_ok 7 (Nat.le_of_ble_eq_true rfl)) rfl rfl (Nat.le_of_ble_eq_true rfl) ((hF4_7 g σ16 o ho_o _).trans (congrArg (wB g) eσ17.symm)) dX4_ageParts_53 ?_
      exact kJ12 _ hf
set_option maxRecDepth 100000 in
set_option maxHeartbeats 4000000 in
theorem kX4_become (L : Launch) (D : va_G) (g : GwT) (t0 : Nat) (o : Nat) (ho_o : isSale o) (p0 : Nat) (ho_p0 : isSale p0) (σ : St) (σ0 : St) (hf : fX4_become σ o p0 = some σ0) : CtV L D (ttG g) (wB g) t0 yX4_become cX4_become 2 none { frames := 1, cells := 0, slots := 0, locals := 35 } [.ref (g.1 o), .ref (g.1 p0)] σ σ0 := by
  refine CtV.of (own := RX4) (by decide) rfl (Nat.le_of_ble_eq_true rfl) [(0, .ref (g.1 o)), (1, .ref (g.1 p0))] rfl ?_
  intro X C hN K
  unfold fX4_become at hf
  refine kw_aload_n C dX4_become_0 rfl 1 rfl ?_
  refine kw_get C inG4 _ (hO4 g σ p0 ho_p0) rfl 0 (Nat.le_of_ble_eq_true rfl) mf_4_9 rfl rfl dX4_become_1 ?_
  refine kw_iconst C (0 : Int32) dX4_become_4 rfl ?_
  refine kw_aload_n C dX4_become_5 rfl 0 rfl ?_
  refine kw_get C inG4 _ (hO4 g σ o ho_o) rfl 0 (Nat.le_of_ble_eq_true rfl) mf_4_9 rfl rfl dX4_become_6 ?_
  refine kw_iconst C (0 : Int32) dX4_become_9 rfl ?_
  refine kw_bipush C (6 : Int32) dX4_become_10 rfl ?_
  obtain ⟨σ1, eσ1, hf⟩ := lt_elim hf
  refine kw_copyi C _ _ 0 0 ml_X4_77 mnat_arraycopy mst_arraycopy mi_System (hA4_0 g σ p0 ho_p0) (hA4_0 g σ o ho_o) rfl rfl (by decide) (by decide) (by decide) (by decide) (by decide) ⟨Nat.le_of_ble_eq_true rfl, Nat.le_of_ble_eq_true rfl⟩ ((hS4_0 g σ o ho_o _).trans (congrArg (wB g) eσ1.symm)) dX4_become_12 ?_
  refine kw_aload_n C dX4_become_15 rfl 1 rfl ?_
  refine kw_get C inG4 _ (hO4 g σ1 p0 ho_p0) rfl 1 (Nat.le_of_ble_eq_true rfl) mf_4_15 rfl rfl dX4_become_16 ?_
  refine kw_iconst C (0 : Int32) dX4_become_19 rfl ?_
  refine kw_aload_n C dX4_become_20 rfl 0 rfl ?_
  refine kw_get C inG4 _ (hO4 g σ1 o ho_o) rfl 1 (Nat.le_of_ble_eq_true rfl) mf_4_15 rfl rfl dX4_become_21 ?_
  refine kw_iconst C (0 : Int32) dX4_become_24 rfl ?_
  refine kw_bipush C (6 : Int32) dX4_become_25 rfl ?_
  obtain ⟨σ2, eσ2, hf⟩ := lt_elim hf
  refine kw_copyi C _ _ 0 0 ml_X4_77 mnat_arraycopy mst_arraycopy mi_System (hA4_1 g σ1 p0 ho_p0) (hA4_1 g σ1 o ho_o) rfl rfl (by decide) (by decide) (by decide) (by decide) (by decide) ⟨Nat.le_of_ble_eq_true rfl, Nat.le_of_ble_eq_true rfl⟩ ((hS4_1 g σ1 o ho_o _).trans (congrArg (wB g) eσ2.symm)) dX4_become_27 ?_
  refine kw_aload_n C dX4_become_30 rfl 1 rfl ?_
  refine kw_get C inG4 _ (hO4 g σ2 p0 ho_p0) rfl 2 (Nat.le_of_ble_eq_true rfl) mf_4_18 rfl rfl dX4_become_31 ?_
  refine kw_iconst C (0 : Int32) dX4_become_34 rfl ?_
  refine kw_aload_n C dX4_become_35 rfl 0 rfl ?_
  refine kw_get C inG4 _ (hO4 g σ2 o ho_o) rfl 2 (Nat.le_of_ble_eq_true rfl) mf_4_18 rfl rfl dX4_become_36 ?_
  refine kw_iconst C (0 : Int32) dX4_become_39 rfl ?_
  refine kw_bipush C (6 : Int32) dX4_become_40 rfl ?_
  obtain ⟨σ3, eσ3, hf⟩ := lt_elim hf
  refine kw_copyi C _ _ 0 0 ml_X4_77 mnat_arraycopy mst_arraycopy mi_System (hA4_2 g σ2 p0 ho_p0) (hA4_2 g σ2 o ho_o) rfl rfl (by decide) (by decide) (by decide) (by decide) (by decide) ⟨Nat.le_of_ble_eq_true rfl, Nat.le_of_ble_eq_true rfl⟩ ((hS4_2 g σ2 o ho_o _).trans (congrArg (wB g) eσ3.symm)) dX4_become_42 ?_
  refine kw_aload_n C dX4_become_45 rfl 1 rfl ?_
  refine kw_get C inG4 _ (hO4 g σ3 p0 ho_p0) rfl 3 (Nat.le_of_ble_eq_true rfl) mf_4_21 rfl rfl dX4_become_46 ?_
  refine kw_iconst C (0 : Int32) dX4_become_49 rfl ?_
  refine kw_aload_n C dX4_become_50 rfl 0 rfl ?_
  refine kw_get C inG4 _ (hO4 g σ3 o ho_o) rfl 3 (Nat.le_of_ble_eq_true rfl) mf_4_21 rfl rfl dX4_become_51 ?_
  refine kw_iconst C (0 : Int32) dX4_become_54 rfl ?_
  refine kw_bipush C (6 : Int32) dX4_become_55 rfl ?_
  obtain ⟨σ4, eσ4, hf⟩ := lt_elim hf
  refine kw_copyi C _ _ 0 0 ml_X4_77 mnat_arraycopy mst_arraycopy mi_System (hA4_3 g σ3 p0 ho_p0) (hA4_3 g σ3 o ho_o) rfl rfl (by decide) (by decide) (by decide) (by decide) (by decide) ⟨Nat.le_of_ble_eq_true rfl, Nat.le_of_ble_eq_true rfl⟩ ((hS4_3 g σ3 o ho_o _).trans (congrArg (wB g) eσ4.symm)) dX4_become_57 ?_
  refine kw_aload_n C dX4_become_60 rfl 1 rfl ?_
  refine kw_get C inG4 _ (hO4 g σ4 p0 ho_p0) rfl 4 (Nat.le_of_ble_eq_true rfl) mf_4_24 rfl rfl dX4_become_61 ?_
  refine kw_iconst C (0 : Int32) dX4_become_64 rfl ?_
  refine kw_aload_n C dX4_become_65 rfl 0 rfl ?_
  refine kw_get C inG4 _ (hO4 g σ4 o ho_o) rfl 4 (Nat.le_of_ble_eq_true rfl) mf_4_24 rfl rfl dX4_become_66 ?_
  refine kw_iconst C (0 : Int32) dX4_become_69 rfl ?_
  refine kw_bipush C (6 : Int32) dX4_become_70 rfl ?_
  obtain ⟨σ5, eσ5, hf⟩ := lt_elim hf
  refine kw_copyi C _ _ 0 0 ml_X4_77 mnat_arraycopy mst_arraycopy mi_System (hA4_4 g σ4 p0 ho_p0) (hA4_4 g σ4 o ho_o) rfl rfl (by decide) (by decide) (by decide) (by decide) (by decide) ⟨Nat.le_of_ble_eq_true rfl, Nat.le_of_ble_eq_true rfl⟩ ((hS4_4 g σ4 o ho_o _).trans (congrArg (wB g) eσ5.symm)) dX4_become_72 ?_
  refine kw_aload_n C dX4_become_75 rfl 1 rfl ?_
  refine kw_get C inG4 _ (hO4 g σ5 p0 ho_p0) rfl 5 (Nat.le_of_ble_eq_true rfl) mf_4_27 rfl rfl dX4_become_76 ?_
  refine kw_iconst C (0 : Int32) dX4_become_79 rfl ?_
  refine kw_aload_n C dX4_become_80 rfl 0 rfl ?_
  refine kw_get C inG4 _ (hO4 g σ5 o ho_o) rfl 5 (Nat.le_of_ble_eq_true rfl) mf_4_27 rfl rfl dX4_become_81 ?_
  refine kw_iconst C (0 : Int32) dX4_become_84 rfl ?_
  refine kw_bipush C (6 : Int32) dX4_become_85 rfl ?_
  obtain ⟨σ6, eσ6, hf⟩ := lt_elim hf
  refine kw_copyi C _ _ 0 0 ml_X4_77 mnat_arraycopy mst_arraycopy mi_System (hA4_5 g σ5 p0 ho_p0) (hA4_5 g σ5 o ho_o) rfl rfl (by decide) (by decide) (by decide) (by decide) (by decide) ⟨Nat.le_of_ble_eq_true rfl, Nat.le_of_ble_eq_true rfl⟩ ((hS4_5 g σ5 o ho_o _).trans (congrArg (wB g) eσ6.symm)) dX4_become_87 ?_
  refine kw_aload_n C dX4_become_90 rfl 0 rfl ?_
  refine kw_aload_n C dX4_become_91 rfl 1 rfl ?_
  refine kw_get C inG4 _ (hO4 g σ6 p0 ho_p0) rfl 6 (Nat.le_of_ble_eq_true rfl) mf_4_46 rfl rfl dX4_become_92 ?_
  obtain ⟨σ7, eσ7, hf⟩ := lt_elim hf
  refine kw_put C inG4 tyX4 tyX4_ok nmX4 _ (hO4 g σ6 o ho_o) rfl 6 (Nat.le_of_ble_eq_true rfl) mf_4_46 rfl rfl (tyX4_ok 6 (Nat.le_of_ble_eq_true rfl)) rfl rfl (Nat.le_of_ble_eq_true rfl) ((hF4_6 g σ6 o ho_o _).trans (congrArg (wB g) eσ7.symm)) dX4_become_95 ?_
  refine kw_aload_n C dX4_become_98 rfl 0 rfl ?_
  refine kw_aload_n C dX4_become_99 rfl 1 rfl ?_
  refine kw_get C inG4 _ (hO4 g σ7 p0 ho_p0) rfl 7 (Nat.le_of_ble_eq_true rfl) mf_4_49 rfl rfl dX4_become_100 ?_
  obtain ⟨σ8, eσ8, hf⟩ := lt_elim hf
  refine kw_put C inG4 tyX4 tyX4_ok nmX4 _ (hO4 g σ7 o ho_o) rfl 7 (Nat.le_of_ble_eq_true rfl) mf_4_49 rfl rfl (tyX4_ok 7 (Nat.le_of_ble_eq_true rfl)) rfl rfl (Nat.le_of_ble_eq_true rfl) ((hF4_7 g σ7 o ho_o _).trans (congrArg (wB g) eσ8.symm)) dX4_become_103 ?_
  refine kw_aload_n C dX4_become_106 rfl 0 rfl ?_
  refine kw_aload_n C dX4_become_107 rfl 1 rfl ?_
  refine kw_get C inG4 _ (hO4 g σ8 p0 ho_p0) rfl 8 (Nat.le_of_ble_eq_true rfl) mf_4_52 rfl rfl dX4_become_108 ?_
  obtain ⟨σ9, eσ9, hf⟩ := lt_elim hf
  refine kw_put C inG4 tyX4 tyX4_ok nmX4 _ (hO4 g σ8 o ho_o) rfl 8 (Nat.le_of_ble_eq_true rfl) mf_4_52 rfl rfl (tyX4_ok 8 (Nat.le_of_ble_eq_true rfl)) rfl rfl (Nat.le_of_ble_eq_true rfl) ((hF4_8 g σ8 o ho_o _).trans (congrArg (wB g) eσ9.symm)) dX4_become_111 ?_
  refine kw_aload_n C dX4_become_114 rfl 0 rfl ?_
  refine kw_aload_n C dX4_become_115 rfl 1 rfl ?_
  refine kw_get C inG4 _ (hO4 g σ9 p0 ho_p0) rfl 9 (Nat.le_of_ble_eq_true rfl) mf_4_58 rfl rfl dX4_become_116 ?_
  obtain ⟨σ10, eσ10, hf⟩ := lt_elim hf
  refine kw_put C inG4 tyX4 tyX4_ok nmX4 _ (hO4 g σ9 o ho_o) rfl 9 (Nat.le_of_ble_eq_true rfl) mf_4_58 rfl rfl (tyX4_ok 9 (Nat.le_of_ble_eq_true rfl)) rfl rfl (Nat.le_of_ble_eq_true rfl) ((hF4_9 g σ9 o ho_o _).trans (congrArg (wB g) eσ10.symm)) dX4_become_119 ?_
  refine kw_aload_n C dX4_become_122 rfl 0 rfl ?_
  refine kw_aload_n C dX4_become_123 rfl 1 rfl ?_
  refine kw_get C inG4 _ (hO4 g σ10 p0 ho_p0) rfl 10 (Nat.le_of_ble_eq_true rfl) mf_4_30 rfl rfl dX4_become_124 ?_
  obtain ⟨σ11, eσ11, hf⟩ := lt_elim hf
  refine kw_put C inG4 tyX4 tyX4_ok nmX4 _ (hO4 g σ10 o ho_o) rfl 10 (Nat.le_of_ble_eq_true rfl) mf_4_30 rfl rfl (tyX4_ok 10 (Nat.le_of_ble_eq_true rfl)) rfl rfl (Nat.le_of_ble_eq_true rfl) ((hF4_10 g σ10 o ho_o _).trans (congrArg (wB g) eσ11.symm)) dX4_become_127 ?_
  refine kw_aload_n C dX4_become_130 rfl 0 rfl ?_
  refine kw_aload_n C dX4_become_131 rfl 1 rfl ?_
  refine kw_get C inG4 _ (hO4 g σ11 p0 ho_p0) rfl 11 (Nat.le_of_ble_eq_true rfl) mf_4_61 rfl rfl dX4_become_132 ?_
  obtain ⟨σ12, eσ12, hf⟩ := lt_elim hf
  refine kw_put C inG4 tyX4 tyX4_ok nmX4 _ (hO4 g σ11 o ho_o) rfl 11 (Nat.le_of_ble_eq_true rfl) mf_4_61 rfl rfl (tyX4_ok 11 (Nat.le_of_ble_eq_true rfl)) rfl rfl (Nat.le_of_ble_eq_true rfl) ((hF4_11 g σ11 o ho_o _).trans (congrArg (wB g) eσ12.symm)) dX4_become_135 ?_
  refine kw_aload_n C dX4_become_138 rfl 0 rfl ?_
  refine kw_aload_n C dX4_become_139 rfl 1 rfl ?_
  refine kw_get C inG4 _ (hO4 g σ12 p0 ho_p0) rfl 12 (Nat.le_of_ble_eq_true rfl) mf_4_64 rfl rfl dX4_become_140 ?_
  obtain ⟨σ13, eσ13, hf⟩ := lt_elim hf
  refine kw_put C inG4 tyX4 tyX4_ok nmX4 _ (hO4 g σ12 o ho_o) rfl 12 (Nat.le_of_ble_eq_true rfl) mf_4_64 rfl rfl (tyX4_ok 12 (Nat.le_of_ble_eq_true rfl)) rfl rfl (Nat.le_of_ble_eq_true rfl) ((hF4_12 g σ12 o ho_o _).trans (congrArg (wB g) eσ13.symm)) dX4_become_143 ?_
  refine kw_aload_n C dX4_become_146 rfl 0 rfl ?_
  refine kw_aload_n C dX4_become_147 rfl 1 rfl ?_
  refine kw_get C inG4 _ (hO4 g σ13 p0 ho_p0) rfl 13 (Nat.le_of_ble_eq_true rfl) mf_4_70 rfl rfl dX4_become_148 ?_
  obtain ⟨σ14, eσ14, hf⟩ := lt_elim hf
  refine kw_put C inG4 tyX4 tyX4_ok nmX4 _ (hO4 g σ13 o ho_o) rfl 13 (Nat.le_of_ble_eq_true rfl) mf_4_70 rfl rfl (tyX4_ok 13 (Nat.le_of_ble_eq_true rfl)) rfl rfl (Nat.le_of_ble_eq_true rfl) ((hF4_13 g σ13 o ho_o _).trans (congrArg (wB g) eσ14.symm)) dX4_become_151 ?_
  refine kw_aload_n C dX4_become_154 rfl 0 rfl ?_
  refine kw_aload_n C dX4_become_155 rfl 1 rfl ?_
  refine kw_get C inG4 _ (hO4 g σ14 p0 ho_p0) rfl 14 (Nat.le_of_ble_eq_true rfl) mf_4_73 rfl rfl dX4_become_156 ?_
  obtain ⟨h15, hf⟩ := gd_elim hf
  obtain ⟨σ16, eσ16, hf⟩ := lt_elim hf
  refine kw_put C inG4 tyX4 tyX4_ok nmX4 _ (hO4 g σ14 o ho_o) rfl 14 (Nat.le_of_ble_eq_true rfl) mf_4_73 rfl rfl (tyX4_ok 14 (Nat.le_of_ble_eq_true rfl)) (narrow_bz h15) (fits_bz h15) (Nat.le_of_ble_eq_true rfl) ((hF4_14 g σ14 o ho_o _).trans (congrArg (wB g) eσ16.symm)) dX4_become_159 ?_
  exact kw_vret (u9 := ()) C K dX4_become_162 hf
set_option maxRecDepth 100000 in
set_option maxHeartbeats 4000000 in
theorem kX4_setAllBounds (L : Launch) (D : va_G) (g : GwT) (t0 : Nat) (o : Nat) (ho_o : isSale o) (p0 : Int32) (σ : St) (σ0 : St) (hf : fX4_setAllBounds σ o p0 = some σ0) : CtV L D (ttG g) (wB g) t0 yX4_setAllBounds cX4_setAllBounds 3 none { frames := 0, cells := 0, slots := 0, locals := 0 } [.ref (g.1 o), .int p0] σ σ0 := by
  refine CtV.of (own := RX4) (by decide) rfl (Nat.le_of_ble_eq_true rfl) [(0, .ref (g.1 o)), (1, .int p0)] rfl ?_
  intro X C hN K
  unfold fX4_setAllBounds at hf
  refine kw_iconst C (0 : Int32) dX4_setAllBounds_0 rfl ?_
  refine kw_istore_n C dX4_setAllBounds_1 rfl hN (Nat.le_of_ble_eq_true rfl) [(2, .int (0 : Int32)), (0, .ref (g.1 o)), (1, .int p0)] rfl ?_
  refine kw_sub [1, 2, 0] _ rfl ?_
  refine lpx2_walk (P := fun (x1 : Int32) (σ2 : St) => KW X σ2 2 [(0, .ref (g.1 o)), (1, .int p0), (2, .int x1)] []) ?_ FU _ _ hf
  intro self3 x1 σ2 ih4 hf
  refine kw_iload_n C dX4_setAllBounds_2 rfl 2 rfl ?_
  refine kw_bipush C (6 : Int32) dX4_setAllBounds_3 rfl ?_
  refine kw_icmp_ge C 21 dX4_setAllBounds_5 rfl (fun c5 => ?_) (fun c5 => ?_)
  · have hf := if_p c5 hf
    exact kw_vret (u9 := ()) C K dX4_setAllBounds_21 hf
  · have hf := if_n c5 hf
    refine kw_aload_n C dX4_setAllBounds_8 rfl 0 rfl ?_
    refine kw_get C inG4 _ (hO4 g σ2 o ho_o) rfl 0 (Nat.le_of_ble_eq_true rfl) mf_4_9 rfl rfl dX4_setAllBounds_9 ?_
    refine kw_iload_n C dX4_setAllBounds_12 rfl 2 rfl ?_
    refine kw_iload_n C dX4_setAllBounds_13 rfl 1 rfl ?_
    obtain ⟨h6, hf⟩ := gd_elim hf
    obtain ⟨σ7, eσ7, hf⟩ := lt_elim hf
    refine kw_iast C _ 0 (hA4_0 g σ2 o ho_o) rfl h6 ((hS4_0 g σ2 o ho_o _).trans (congrArg (wB g) eσ7.symm)) dX4_setAllBounds_14 ?_
    obtain ⟨x8, ex8, hf⟩ := lt_elim hf
    refine kw_iinc C x8 dX4_setAllBounds_15 2 rfl ex8.symm hN (Nat.le_of_ble_eq_true rfl) [(2, .int x8), (0, .ref (g.1 o)), (1, .int p0)] rfl ?_
    refine kw_goto C 2 dX4_setAllBounds_18 rfl ?_
    refine kw_sub [1, 2, 0] _ rfl ?_
    exact ih4 _ _ hf
set_option maxRecDepth 100000 in
set_option maxHeartbeats 4000000 in
theorem kX4_hasFallenTo (L : Launch) (D : va_G) (g : GwT) (t0 : Nat) (o : Nat) (ho_o : isSale o) (p0 : Int32) (σ : St) (r0 : Int32) (hf : fX4_hasFallenTo σ o p0 = some r0) : CtI L D (ttG g) (wB g) t0 yX4_hasFallenTo cX4_hasFallenTo 2 (some .boolean) { frames := 0, cells := 0, slots := 0, locals := 0 } [.ref (g.1 o), .int p0] σ r0 σ := by
  refine CtI.of (own := RX4) (by decide) rfl (Nat.le_of_ble_eq_true rfl) [(0, .ref (g.1 o)), (1, .int p0)] rfl ?_
  intro X C hN K
  unfold fX4_hasFallenTo at hf
  refine kw_aload_n C dX4_hasFallenTo_0 rfl 0 rfl ?_
  refine kw_get C inG4 _ (hO4 g σ o ho_o) rfl 14 (Nat.le_of_ble_eq_true rfl) mf_4_73 rfl rfl dX4_hasFallenTo_1 ?_
  obtain ⟨J2, hJ2, hf⟩ := jnx1_elim hf
  have kJ2 : ∀ (x1 : Int32), J2 x1 = some r0 → KW X σ 20 [] [.int x1] := by
    clear hf
    intro x1 hf
    have hf := (hJ2 x1).symm.trans hf
    obtain ⟨h3, hf⟩ := gd_elim hf
    exact kw_zret C K h3 dX4_hasFallenTo_20 (pr_ret hf)
  obtain ⟨J4, hJ4, hf⟩ := jnx1_elim hf
  have kJ4 : ∀ (u9 : Unit), J4 u9 = some r0 → KW X σ 19 [] [] := by
    clear hf
    intro u9 hf
    have hf := (hJ4 u9).symm.trans hf
    refine kw_iconst C (0 : Int32) dX4_hasFallenTo_19 rfl ?_
    exact kJ2 _ hf
  refine kw_if_eq C 19 dX4_hasFallenTo_4 rfl (fun c5 => ?_) (fun c5 => ?_)
  · have hf := if_p c5 hf
    refine kw_sub [] _ rfl ?_
    exact kJ4 _ hf
  · have hf := if_n c5 hf
    refine kw_aload_n C dX4_hasFallenTo_7 rfl 0 rfl ?_
    refine kw_get C inG4 _ (hO4 g σ o ho_o) rfl 10 (Nat.le_of_ble_eq_true rfl) mf_4_30 rfl rfl dX4_hasFallenTo_8 ?_
    refine kw_iload_n C dX4_hasFallenTo_11 rfl 1 rfl ?_
    refine kw_icmp_ne C 19 dX4_hasFallenTo_12 rfl (fun c6 => ?_) (fun c6 => ?_)
    · have hf := if_n c6 hf
      refine kw_sub [] _ rfl ?_
      exact kJ4 _ hf
    · have hf := if_p c6 hf
      refine kw_iconst C (1 : Int32) dX4_hasFallenTo_15 rfl ?_
      refine kw_goto C 20 dX4_hasFallenTo_16 rfl ?_
      refine kw_sub [] _ rfl ?_
      exact kJ2 _ hf
set_option maxRecDepth 100000 in
set_option maxHeartbeats 4000000 in
theorem kX4_yearsToRenewal (L : Launch) (D : va_G) (g : GwT) (t0 : Nat) (o : Nat) (ho_o : isSale o) (p0 : Bool) (p1 : Int32) (σ : St) (r0 : Int32) (hf : fX4_yearsToRenewal σ o p0 p1 = some r0) : CtI L D (ttG g) (wB g) t0 yX4_yearsToRenewal cX4_yearsToRenewal 3 (some .int) { frames := 1, cells := 0, slots := 0, locals := 23 } [.ref (g.1 o), .ref (g.1 (tx p0)), .int p1] σ r0 σ := by
  refine CtI.of (own := RX4) (by decide) rfl (Nat.le_of_ble_eq_true rfl) [(0, .ref (g.1 o)), (1, .ref (g.1 (tx p0))), (2, .int p1)] rfl ?_
  intro X C hN K
  unfold fX4_yearsToRenewal at hf
  refine kw_iconst C (1 : Int32) dX4_yearsToRenewal_0 rfl ?_
  refine kw_aload_n C dX4_yearsToRenewal_1 rfl 1 rfl ?_
  refine kw_get C inG6 _ (hO6 g σ p0) rfl 10 (Nat.le_of_ble_eq_true rfl) mf_4_93 rfl rfl dX4_yearsToRenewal_2 ?_
  refine kw_iload_n C dX4_yearsToRenewal_5 rfl 2 rfl ?_
  obtain ⟨h1, hf⟩ := gd_elim hf
  refine kw_iald C _ 0 (hA6_10 g σ p0) rfl h1 dX4_yearsToRenewal_6 ?_
  refine kw_aload_n C dX4_yearsToRenewal_7 rfl 0 rfl ?_
  refine kw_get C inG4 _ (hO4 g σ o ho_o) rfl 5 (Nat.le_of_ble_eq_true rfl) mf_4_27 rfl rfl dX4_yearsToRenewal_8 ?_
  refine kw_iload_n C dX4_yearsToRenewal_11 rfl 2 rfl ?_
  obtain ⟨h2, hf⟩ := gd_elim hf
  refine kw_iald C _ 0 (hA4_5 g σ o ho_o) rfl h2 dX4_yearsToRenewal_12 ?_
  refine kw_isub C dX4_yearsToRenewal_13 ?_
  refine kw_mmax C ml_X4_96 mst_max mi_Math mcode_max ⟨Nat.le_of_ble_eq_true rfl, Nat.le_of_ble_eq_true rfl⟩ dX4_yearsToRenewal_14 ?_
  exact kw_iret C K dX4_yearsToRenewal_17 (pr_ret hf)
set_option maxRecDepth 100000 in
set_option maxHeartbeats 4000000 in
theorem kX5_forget (L : Launch) (D : va_G) (g : GwT) (t0 : Nat) (σ : St) (σ0 : St) (hf : fX5_forget σ  = some σ0) : CtV L D (ttG g) (wB g) t0 yX5_forget cX5_forget 1 none { frames := 0, cells := 0, slots := 0, locals := 0 } [.ref (g.1 13)] σ σ0 := by
  refine CtV.of (own := RX5) (by decide) rfl (Nat.le_of_ble_eq_true rfl) [(0, .ref (g.1 13))] rfl ?_
  intro X C hN K
  unfold fX5_forget at hf
  refine kw_aload_n C dX5_forget_0 rfl 0 rfl ?_
  refine kw_iconst C (0 : Int32) dX5_forget_1 rfl ?_
  obtain ⟨σ1, eσ1, hf⟩ := lt_elim hf
  refine kw_put C inG5 tyX5 tyX5_ok nmX5 _ (hO5 g σ) rfl 4 (Nat.le_of_ble_eq_true rfl) mf_5_29 rfl rfl (tyX5_ok 4 (Nat.le_of_ble_eq_true rfl)) rfl rfl (Nat.le_of_ble_eq_true rfl) ((hF5_4 g σ _).trans (congrArg (wB g) eσ1.symm)) dX5_forget_2 ?_
  refine kw_aload_n C dX5_forget_5 rfl 0 rfl ?_
  refine kw_iconst C (-1 : Int32) dX5_forget_6 rfl ?_
  obtain ⟨σ2, eσ2, hf⟩ := lt_elim hf
  refine kw_put C inG5 tyX5 tyX5_ok nmX5 _ (hO5 g σ1) rfl 5 (Nat.le_of_ble_eq_true rfl) mf_5_25 rfl rfl (tyX5_ok 5 (Nat.le_of_ble_eq_true rfl)) rfl rfl (Nat.le_of_ble_eq_true rfl) ((hF5_5 g σ1 _).trans (congrArg (wB g) eσ2.symm)) dX5_forget_7 ?_
  exact kw_vret (u9 := ()) C K dX5_forget_10 hf
set_option maxRecDepth 100000 in
set_option maxHeartbeats 4000000 in
theorem kX5_howManyKnown (L : Launch) (D : va_G) (g : GwT) (t0 : Nat) (σ : St) (r0 : Int32) (hf : fX5_howManyKnown σ  = some r0) : CtI L D (ttG g) (wB g) t0 yX5_howManyKnown cX5_howManyKnown 1 (some .int) { frames := 1, cells := 0, slots := 0, locals := 23 } [.ref (g.1 13)] σ r0 σ := by
  refine CtI.of (own := RX5) (by decide) rfl (Nat.le_of_ble_eq_true rfl) [(0, .ref (g.1 13))] rfl ?_
  intro X C hN K
  unfold fX5_howManyKnown at hf
  refine kw_aload_n C dX5_howManyKnown_0 rfl 0 rfl ?_
  refine kw_get C inG5 _ (hO5 g σ) rfl 5 (Nat.le_of_ble_eq_true rfl) mf_5_25 rfl rfl dX5_howManyKnown_1 ?_
  refine kw_iconst C (-1 : Int32) dX5_howManyKnown_4 rfl ?_
  obtain ⟨J2, hJ2, hf⟩ := jnx1_elim hf
  have kJ2 : ∀ (x1 : Int32), J2 x1 = some r0 → KW X σ 26 [] [.int x1] := by
    clear hf
    intro x1 hf
    have hf := (hJ2 x1).symm.trans hf
    exact kw_iret C K dX5_howManyKnown_26 (pr_ret hf)
  refine kw_icmp_ne C 15 dX5_howManyKnown_5 rfl (fun c3 => ?_) (fun c3 => ?_)
  · have hf := if_n c3 hf
    refine kw_aload_n C dX5_howManyKnown_15 rfl 0 rfl ?_
    refine kw_get C inG5 _ (hO5 g σ) rfl 5 (Nat.le_of_ble_eq_true rfl) mf_5_25 rfl rfl dX5_howManyKnown_16 ?_
    refine kw_aload_n C dX5_howManyKnown_19 rfl 0 rfl ?_
    refine kw_get C inG5 _ (hO5 g σ) rfl 4 (Nat.le_of_ble_eq_true rfl) mf_5_29 rfl rfl dX5_howManyKnown_20 ?_
    refine kw_mmin C ml_X5_32 mst_min mi_Math mcode_min ⟨Nat.le_of_ble_eq_true rfl, Nat.le_of_ble_eq_true rfl⟩ dX5_howManyKnown_23 ?_
    refine kw_sub [] _ rfl ?_
    exact kJ2 _ hf
  · have hf := if_p c3 hf
    refine kw_aload_n C dX5_howManyKnown_8 rfl 0 rfl ?_
    refine kw_get C inG5 _ (hO5 g σ) rfl 4 (Nat.le_of_ble_eq_true rfl) mf_5_29 rfl rfl dX5_howManyKnown_9 ?_
    refine kw_goto C 26 dX5_howManyKnown_12 rfl ?_
    refine kw_sub [] _ rfl ?_
    exact kJ2 _ hf
set_option maxRecDepth 100000 in
set_option maxHeartbeats 4000000 in
theorem kX5_add (L : Launch) (D : va_G) (g : GwT) (t0 : Nat) (p0 : Int32) (p1 : Int32) (p2 : Int32) (σ : St) (r0 : Int32) (σ0 : St) (hf : fX5_add σ p0 p1 p2 = some (r0, σ0)) : CtI L D (ttG g) (wB g) t0 yX5_add cX5_add 4 (some .int) { frames := 0, cells := 0, slots := 0, locals := 0 } [.ref (g.1 13), .int p0, .int p1, .int p2] σ r0 σ0 := by
  refine CtI.of (own := RX5) (by decide) rfl (Nat.le_of_ble_eq_true rfl) [(0, .ref (g.1 13)), (1, .int p0), (2, .int p1), (3, .int p2)] rfl ?_
  intro X C hN K
  unfold fX5_add at hf
  refine kw_aload_n C dX5_add_0 rfl 0 rfl ?_
  refine kw_get C inG5 _ (hO5 g σ) rfl 4 (Nat.le_of_ble_eq_true rfl) mf_5_29 rfl rfl dX5_add_1 ?_
  refine kw_bipush C (24 : Int32) dX5_add_4 rfl ?_
  refine kw_icmp_lt C 11 dX5_add_6 rfl (fun c1 => ?_) (fun c1 => ?_)
  · have hf := if_p c1 hf
    refine kw_aload_n C dX5_add_11 rfl 0 rfl ?_
    refine kw_get C inG5 _ (hO5 g σ) rfl 0 (Nat.le_of_ble_eq_true rfl) mf_5_9 rfl rfl dX5_add_12 ?_
    refine kw_aload_n C dX5_add_15 rfl 0 rfl ?_
    refine kw_get C inG5 _ (hO5 g σ) rfl 4 (Nat.le_of_ble_eq_true rfl) mf_5_29 rfl rfl dX5_add_16 ?_
    refine kw_iload_n C dX5_add_19 rfl 1 rfl ?_
    obtain ⟨h2, hf⟩ := gd_elim hf
    obtain ⟨σ3, eσ3, hf⟩ := lt_elim hf
    refine kw_iast C _ 0 (hA5_0 g σ) rfl h2 ((hS5_0 g σ _).trans (congrArg (wB g) eσ3.symm)) dX5_add_20 ?_
    refine kw_aload_n C dX5_add_21 rfl 0 rfl ?_
    refine kw_get C inG5 _ (hO5 g σ3) rfl 1 (Nat.le_of_ble_eq_true rfl) mf_5_15 rfl rfl dX5_add_22 ?_
    refine kw_aload_n C dX5_add_25 rfl 0 rfl ?_
    refine kw_get C inG5 _ (hO5 g σ3) rfl 4 (Nat.le_of_ble_eq_true rfl) mf_5_29 rfl rfl dX5_add_26 ?_
    refine kw_iload_n C dX5_add_29 rfl 2 rfl ?_
    obtain ⟨h4, hf⟩ := gd_elim hf
    obtain ⟨σ5, eσ5, hf⟩ := lt_elim hf
    refine kw_iast C _ 0 (hA5_1 g σ3) rfl h4 ((hS5_1 g σ3 _).trans (congrArg (wB g) eσ5.symm)) dX5_add_30 ?_
    refine kw_aload_n C dX5_add_31 rfl 0 rfl ?_
    refine kw_get C inG5 _ (hO5 g σ5) rfl 2 (Nat.le_of_ble_eq_true rfl) mf_5_18 rfl rfl dX5_add_32 ?_
    refine kw_aload_n C dX5_add_35 rfl 0 rfl ?_
    refine kw_get C inG5 _ (hO5 g σ5) rfl 4 (Nat.le_of_ble_eq_true rfl) mf_5_29 rfl rfl dX5_add_36 ?_
    refine kw_iload_n C dX5_add_39 rfl 3 rfl ?_
    obtain ⟨h6, hf⟩ := gd_elim hf
    obtain ⟨σ7, eσ7, hf⟩ := lt_elim hf
    refine kw_iast C _ 0 (hA5_2 g σ5) rfl h6 ((hS5_2 g σ5 _).trans (congrArg (wB g) eσ7.symm)) dX5_add_40 ?_
    refine kw_aload_n C dX5_add_41 rfl 0 rfl ?_
    refine kw_dup C dX5_add_42 rfl ?_
    refine kw_get C inG5 _ (hO5 g σ7) rfl 4 (Nat.le_of_ble_eq_true rfl) mf_5_29 rfl rfl dX5_add_43 ?_
    refine kw_iconst C (1 : Int32) dX5_add_46 rfl ?_
    refine kw_iadd C dX5_add_47 ?_
    obtain ⟨σ8, eσ8, hf⟩ := lt_elim hf
    refine kw_put C inG5 tyX5 tyX5_ok nmX5 _ (hO5 g σ7) rfl 4 (Nat.le_of_ble_eq_true rfl) mf_5_29 rfl rfl (tyX5_ok 4 (Nat.le_of_ble_eq_true rfl)) rfl rfl (Nat.le_of_ble_eq_true rfl) ((hF5_4 g σ7 _).trans (congrArg (wB g) eσ8.symm)) dX5_add_48 ?_
    refine kw_aload_n C dX5_add_51 rfl 0 rfl ?_
    refine kw_get C inG5 _ (hO5 g σ8) rfl 4 (Nat.le_of_ble_eq_true rfl) mf_5_29 rfl rfl dX5_add_52 ?_
    refine kw_iconst C (1 : Int32) dX5_add_55 rfl ?_
    refine kw_isub C dX5_add_56 ?_
    exact kw_iret C K dX5_add_57 hf
  · have hf := if_n c1 hf
    refine kw_iconst C (-1 : Int32) dX5_add_9 rfl ?_
    exact kw_iret C K dX5_add_10 hf
set_option maxRecDepth 100000 in
set_option maxHeartbeats 4000000 in
theorem kX5_findStruck (L : Launch) (D : va_G) (g : GwT) (t0 : Nat) (σ : St) (σ0 : St) (hf : fX5_findStruck σ  = some σ0) : CtV L D (ttG g) (wB g) t0 yX5_findStruck cX5_findStruck 3 none { frames := 2, cells := 0, slots := 0, locals := 43 } [.ref (g.1 13)] σ σ0 := by
  refine CtV.of (own := RX5) (by decide) rfl (Nat.le_of_ble_eq_true rfl) [(0, .ref (g.1 13))] rfl ?_
  intro X C hN K
  unfold fX5_findStruck at hf
  refine kw_aload_n C dX5_findStruck_0 rfl 0 rfl ?_
  obtain ⟨r2, hc1, hf⟩ := bd_elim hf
  refine kw_callVI C [] (kX5_howManyKnown L D g t0 σ _ hc1) RX5 mV_X5_38 ⟨rfl, rfl⟩ dd_X5_howManyKnown ⟨Nat.le_of_ble_eq_true rfl, Nat.le_of_ble_eq_true rfl⟩ _ (hO5 g σ) rfl rfl rfl (Nat.le_of_ble_eq_true rfl) dX5_findStruck_1 ?_
  refine kw_istore_n C dX5_findStruck_4 rfl hN (Nat.le_of_ble_eq_true rfl) [(1, .int r2), (0, .ref (g.1 13))] rfl ?_
  refine kw_iconst C (0 : Int32) dX5_findStruck_5 rfl ?_
  refine kw_istore_n C dX5_findStruck_6 rfl hN (Nat.le_of_ble_eq_true rfl) [(2, .int (0 : Int32)), (1, .int r2), (0, .ref (g.1 13))] rfl ?_
  refine kw_sub [2, 1, 0] _ rfl ?_
  refine lpx2_walk (P := fun (x3 : Int32) (σ4 : St) => KW X σ4 7 [(0, .ref (g.1 13)), (1, .int r2), (2, .int x3)] []) ?_ FU _ _ hf
  intro self5 x3 σ4 ih6 hf
  refine kw_iload_n C dX5_findStruck_7 rfl 2 rfl ?_
  refine kw_iload_n C dX5_findStruck_8 rfl 1 rfl ?_
  refine kw_icmp_ge C 25 dX5_findStruck_9 rfl (fun c7 => ?_) (fun c7 => ?_)
  · have hf := if_p c7 hf
    refine kw_iload_n C dX5_findStruck_25 rfl 1 rfl ?_
    refine kw_iconst C (1 : Int32) dX5_findStruck_26 rfl ?_
    refine kw_isub C dX5_findStruck_27 ?_
    obtain ⟨x8, ex8, hf⟩ := lt_elim hf
    refine kw_topi ex8 ?_
    refine kw_istore_n C dX5_findStruck_28 rfl hN (Nat.le_of_ble_eq_true rfl) [(2, .int x8), (0, .ref (g.1 13)), (1, .int r2)] rfl ?_
    refine kw_sub [1, 0] _ rfl ?_
    refine lpx2_walk (P := fun (x9 : Int32) (σ10 : St) => KW X σ10 29 [(0, .ref (g.1 13)), (2, .int x9)] []) ?_ FU _ _ hf
    intro self11 x9 σ10 ih12 hf
    refine kw_iload_n C dX5_findStruck_29 rfl 1 rfl ?_
    refine kw_if_lt C 80 dX5_findStruck_30 rfl (fun c13 => ?_) (fun c13 => ?_)
    · have hf := if_p c13 hf
      exact kw_vret (u9 := ()) C K dX5_findStruck_80 hf
    · have hf := if_n c13 hf
      refine kw_aload_n C dX5_findStruck_33 rfl 0 rfl ?_
      refine kw_get C inG5 _ (hO5 g σ10) rfl 0 (Nat.le_of_ble_eq_true rfl) mf_5_9 rfl rfl dX5_findStruck_34 ?_
      refine kw_iload_n C dX5_findStruck_37 rfl 1 rfl ?_
      obtain ⟨h14, hf⟩ := gd_elim hf
      refine kw_iald C _ 0 (hA5_0 g σ10) rfl h14 dX5_findStruck_38 ?_
      refine kw_iconst C (2 : Int32) dX5_findStruck_39 rfl ?_
      obtain ⟨J16, hJ16, hf⟩ := jnx1_elim hf
      have kJ16 : ∀ (σ15 : St), J16 σ15 = some σ0 → KW X σ15 74 [(0, .ref (g.1 13)), (2, .int x9)] [] := by
        clear hf
        intro σ15 hf
        have hf := (hJ16 σ15).symm.trans hf
        obtain ⟨x17, ex17, hf⟩ := lt_elim hf
        refine kw_iinc C x17 dX5_findStruck_74 1 rfl ex17.symm hN (Nat.le_of_ble_eq_true rfl) [(2, .int x17), (0, .ref (g.1 13))] rfl ?_
        refine kw_goto C 29 dX5_findStruck_77 rfl ?_
        refine kw_sub [1, 0] _ rfl ?_
        exact ih12 _ _ hf
      refine kw_icmp_ne C 74 dX5_findStruck_40 rfl (fun c18 => ?_) (fun c18 => ?_)
      · have hf := if_n c18 hf
        exact kJ16 _ hf
      · have hf := if_p c18 hf
        refine kw_aload_n C dX5_findStruck_43 rfl 0 rfl ?_
        refine kw_get C inG5 _ (hO5 g σ10) rfl 3 (Nat.le_of_ble_eq_true rfl) mf_5_21 rfl rfl dX5_findStruck_44 ?_
        refine kw_iload_n C dX5_findStruck_47 rfl 1 rfl ?_
        obtain ⟨h19, hf⟩ := gd_elim hf
        refine kw_zald C _ 3 (hA5_3 g σ10) rfl h19 dX5_findStruck_48 ?_
        refine kw_if_ne C 74 dX5_findStruck_49 rfl (fun c20 => ?_) (fun c20 => ?_)
        · have hf := if_n c20 hf
          exact kJ16 _ hf
        · have hf := if_p c20 hf
          refine kw_aload_n C dX5_findStruck_52 rfl 0 rfl ?_
          refine kw_get C inG5 _ (hO5 g σ10) rfl 2 (Nat.le_of_ble_eq_true rfl) mf_5_18 rfl rfl dX5_findStruck_53 ?_
          refine kw_iload_n C dX5_findStruck_56 rfl 1 rfl ?_
          obtain ⟨h21, hf⟩ := gd_elim hf
          refine kw_iald C _ 0 (hA5_2 g σ10) rfl h21 dX5_findStruck_57 ?_
          refine kw_iload_n C dX5_findStruck_58 rfl 1 rfl ?_
          refine kw_icmp_ge C 74 dX5_findStruck_59 rfl (fun c22 => ?_) (fun c22 => ?_)
          · have hf := if_p c22 hf
            exact kJ16 _ hf
          · have hf := if_n c22 hf
            refine kw_aload_n C dX5_findStruck_62 rfl 0 rfl ?_
            refine kw_get C inG5 _ (hO5 g σ10) rfl 3 (Nat.le_of_ble_eq_true rfl) mf_5_21 rfl rfl dX5_findStruck_63 ?_
            refine kw_aload_n C dX5_findStruck_66 rfl 0 rfl ?_
            refine kw_get C inG5 _ (hO5 g σ10) rfl 2 (Nat.le_of_ble_eq_true rfl) mf_5_18 rfl rfl dX5_findStruck_67 ?_
            refine kw_iload_n C dX5_findStruck_70 rfl 1 rfl ?_
            obtain ⟨h23, hf⟩ := gd_elim hf
            refine kw_iald C _ 0 (hA5_2 g σ10) rfl h23 dX5_findStruck_71 ?_
            refine kw_iconst C (1 : Int32) dX5_findStruck_72 rfl ?_
            obtain ⟨h24, hf⟩ := gd_elim hf
            obtain ⟨σ25, eσ25, hf⟩ := lt_elim hf
            refine kw_zast C _ 3 (hA5_3 g σ10) rfl h24 ((hS5_3 g σ10 _).trans (congrArg (wB g) eσ25.symm)) dX5_findStruck_73 ?_
            exact kJ16 _ hf
  · have hf := if_n c7 hf
    refine kw_aload_n C dX5_findStruck_12 rfl 0 rfl ?_
    refine kw_get C inG5 _ (hO5 g σ4) rfl 3 (Nat.le_of_ble_eq_true rfl) mf_5_21 rfl rfl dX5_findStruck_13 ?_
    refine kw_iload_n C dX5_findStruck_16 rfl 2 rfl ?_
    refine kw_iconst C (0 : Int32) dX5_findStruck_17 rfl ?_
    obtain ⟨h26, hf⟩ := gd_elim hf
    obtain ⟨σ27, eσ27, hf⟩ := lt_elim hf
    refine kw_zast C _ 3 (hA5_3 g σ4) rfl h26 ((hS5_3 g σ4 _).trans (congrArg (wB g) eσ27.symm)) dX5_findStruck_18 ?_
    obtain ⟨x28, ex28, hf⟩ := lt_elim hf
    refine kw_iinc C x28 dX5_findStruck_19 2 rfl ex28.symm hN (Nat.le_of_ble_eq_true rfl) [(2, .int x28), (0, .ref (g.1 13)), (1, .int r2)] rfl ?_
    refine kw_goto C 7 dX5_findStruck_22 rfl ?_
    refine kw_sub [1, 2, 0] _ rfl ?_
    exact ih6 _ _ hf
set_option maxRecDepth 100000 in
set_option maxHeartbeats 4000000 in
theorem kX5_allows (L : Launch) (D : va_G) (g : GwT) (t0 : Nat) (p0 : Int32) (p1 : Int32) (σ : St) (r0 : Int32) (hf : fX5_allows σ p0 p1 = some r0) : CtI L D (ttG g) (wB g) t0 yX5_allows cX5_allows 7 (some .boolean) { frames := 2, cells := 0, slots := 0, locals := 43 } [.ref (g.1 13), .int p0, .int p1] σ r0 σ := by
  refine CtI.of (own := RX5) (by decide) rfl (Nat.le_of_ble_eq_true rfl) [(0, .ref (g.1 13)), (1, .int p0), (2, .int p1)] rfl ?_
  intro X C hN K
  unfold fX5_allows at hf
  refine kw_aload_n C dX5_allows_0 rfl 0 rfl ?_
  obtain ⟨r2, hc1, hf⟩ := bd_elim hf
  refine kw_callVI C [] (kX5_howManyKnown L D g t0 σ _ hc1) RX5 mV_X5_38 ⟨rfl, rfl⟩ dd_X5_howManyKnown ⟨Nat.le_of_ble_eq_true rfl, Nat.le_of_ble_eq_true rfl⟩ _ (hO5 g σ) rfl rfl rfl (Nat.le_of_ble_eq_true rfl) dX5_allows_1 ?_
  refine kw_istore_n C dX5_allows_4 rfl hN (Nat.le_of_ble_eq_true rfl) [(3, .int r2), (0, .ref (g.1 13)), (1, .int p0), (2, .int p1)] rfl ?_
  refine kw_iconst C (0 : Int32) dX5_allows_5 rfl ?_
  refine kw_istore C dX5_allows_6 hN (Nat.le_of_ble_eq_true rfl) [(4, .int (0 : Int32)), (3, .int r2), (0, .ref (g.1 13)), (1, .int p0), (2, .int p1)] rfl ?_
  refine kw_sub [2, 3, 4, 1, 0] _ rfl ?_
  refine lpx1_walk (P := fun (x3 : Int32) => KW X σ 8 [(0, .ref (g.1 13)), (1, .int p0), (2, .int p1), (3, .int r2), (4, .int x3)] []) ?_ FU _ hf
  intro self4 x3 ih5 hf
  refine kw_iload C dX5_allows_8 4 rfl ?_
  refine kw_iload_n C dX5_allows_10 rfl 3 rfl ?_
  refine kw_icmp_ge C 105 dX5_allows_11 rfl (fun c6 => ?_) (fun c6 => ?_)
  · have hf := if_p c6 hf
    refine kw_iconst C (1 : Int32) dX5_allows_105 rfl ?_
    exact kw_zret C K (by decide) dX5_allows_106 (pr_ret hf)
  · have hf := if_n c6 hf
    refine kw_aload_n C dX5_allows_14 rfl 0 rfl ?_
    refine kw_get C inG5 _ (hO5 g σ) rfl 0 (Nat.le_of_ble_eq_true rfl) mf_5_9 rfl rfl dX5_allows_15 ?_
    refine kw_iload C dX5_allows_18 4 rfl ?_
    obtain ⟨h7, hf⟩ := gd_elim hf
    refine kw_iald C _ 0 (hA5_0 g σ) rfl h7 dX5_allows_20 ?_
    refine kw_iconst C (2 : Int32) dX5_allows_21 rfl ?_
    obtain ⟨J9, hJ9, hf⟩ := jnx1_elim hf
    have kJ9 : ∀ (x8 : Int32), J9 x8 = some r0 → KW X σ 51 [(0, .ref (g.1 13)), (1, .int p0), (2, .int p1), (3, .int r2), (4, .int x3)] [.int x8] := by
      clear hf
      intro x8 hf
      have hf := (hJ9 x8).symm.trans hf
      refine kw_istore C dX5_allows_51 hN (Nat.le_of_ble_eq_true rfl) [(5, .int x8), (0, .ref (g.1 13)), (1, .int p0), (2, .int p1), (3, .int r2), (4, .int x3)] rfl ?_
      refine kw_iload_n C dX5_allows_53 rfl 3 rfl ?_
      refine kw_aload_n C dX5_allows_54 rfl 1 rfl ?_
      refine kw_get C inG5 _ (hO5 g σ) rfl 2 (Nat.le_of_ble_eq_true rfl) mf_5_18 rfl rfl dX5_allows_55 ?_
      refine kw_iload C dX5_allows_58 5 rfl ?_
      obtain ⟨h10, hf⟩ := gd_elim hf
      refine kw_iald C _ 0 (hA5_2 g σ) rfl h10 dX5_allows_60 ?_
      obtain ⟨J12, hJ12, hf⟩ := jnx1_elim hf
      have kJ12 : ∀ (x11 : Int32), J12 x11 = some r0 → KW X σ 69 [(0, .ref (g.1 13)), (1, .int p0), (2, .int p1), (3, .int r2), (4, .int x3), (5, .int x8)] [.int x11] := by
        clear hf
        intro x11 hf
        have hf := (hJ12 x11).symm.trans hf
        refine kw_istore C dX5_allows_69 hN (Nat.le_of_ble_eq_true rfl) [(6, .int x11), (0, .ref (g.1 13)), (1, .int p0), (2, .int p1), (3, .int r2), (4, .int x3), (5, .int x8)] rfl ?_
        refine kw_iload C dX5_allows_71 6 rfl ?_
        obtain ⟨J13, hJ13, hf⟩ := jnx1_elim hf
        have kJ13 : ∀ (u9 : Unit), J13 u9 = some r0 → KW X σ 99 [(0, .ref (g.1 13)), (1, .int p0), (2, .int p1), (3, .int r2), (4, .int x3)] [] := by
          clear hf
          intro u9 hf
          have hf := (hJ13 u9).symm.trans hf
          obtain ⟨x14, ex14, hf⟩ := lt_elim hf
          refine kw_iinc C x14 dX5_allows_99 4 rfl ex14.symm hN (Nat.le_of_ble_eq_true rfl) [(4, .int x14), (0, .ref (g.1 13)), (1, .int p0), (2, .int p1), (3, .int r2)] rfl ?_
          refine kw_goto C 8 dX5_allows_102 rfl ?_
          refine kw_sub [1, 2, 3, 4, 0] _ rfl ?_
          exact ih5 _ hf
        refine kw_if_eq C 99 dX5_allows_73 rfl (fun c15 => ?_) (fun c15 => ?_)
        · have hf := if_p c15 hf
          refine kw_sub [1, 2, 3, 4, 5] _ rfl ?_
          exact kJ13 _ hf
        · have hf := if_n c15 hf
          refine kw_iload C dX5_allows_76 0 rfl ?_
          refine kw_aload_n C dX5_allows_78 rfl 1 rfl ?_
          refine kw_get C inG5 _ (hO5 g σ) rfl 0 (Nat.le_of_ble_eq_true rfl) mf_5_9 rfl rfl dX5_allows_79 ?_
          refine kw_iload C dX5_allows_82 5 rfl ?_
          obtain ⟨h16, hf⟩ := gd_elim hf
          refine kw_iald C _ 0 (hA5_0 g σ) rfl h16 dX5_allows_84 ?_
          refine kw_iconst C (1 : Int32) dX5_allows_85 rfl ?_
          obtain ⟨J18, hJ18, hf⟩ := jnx1_elim hf
          have kJ18 : ∀ (x17 : Int32), J18 x17 = some r0 → KW X σ 94 [(0, .ref (g.1 13)), (1, .int p0), (2, .int p1), (3, .int r2), (4, .int x3)] [.int x17, .int x11] := by
            clear hf
            intro x17 hf
            have hf := (hJ18 x17).symm.trans hf
            refine kw_icmp_eq C 99 dX5_allows_94 rfl (fun c19 => ?_) (fun c19 => ?_)
            · have hf := if_p c19 hf
              exact kJ13 _ hf
            · have hf := if_n c19 hf
              refine kw_iconst C (0 : Int32) dX5_allows_97 rfl ?_
              exact kw_zret C K (by decide) dX5_allows_98 (pr_ret hf)
          refine kw_icmp_ne C 93 dX5_allows_86 rfl (fun c20 => ?_) (fun c20 => ?_)
          · have hf := if_n c20 hf
            refine kw_iconst C (0 : Int32) dX5_allows_93 rfl ?_
            refine kw_sub [1, 2, 3, 4, 5] _ rfl ?_
            exact kJ18 _ hf
          · have hf := if_p c20 hf
            refine kw_iconst C (1 : Int32) dX5_allows_89 rfl ?_
            refine kw_goto C 94 dX5_allows_90 rfl ?_
            refine kw_sub [1, 2, 3, 4, 5] _ rfl ?_
            exact kJ18 _ hf
      refine kw_icmp_lt C 68 dX5_allows_61 rfl (fun c21 => ?_) (fun c21 => ?_)
      · have hf := if_p c21 hf
        refine kw_iconst C (0 : Int32) dX5_allows_68 rfl ?_
        refine kw_sub [1, 2, 3, 4, 5, 0] _ rfl ?_
        exact kJ12 _ hf
      · have hf := if_n c21 hf
        refine kw_iconst C (1 : Int32) dX5_allows_64 rfl ?_
        refine kw_goto C 69 dX5_allows_65 rfl ?_
        refine kw_sub [1, 2, 3, 4, 5, 0] _ rfl ?_
        exact kJ12 _ hf
    obtain ⟨J22, hJ22, hf⟩ := jnx1_elim hf
    have kJ22 : ∀ (u9 : Unit), J22 u9 = some r0 → KW X σ 50 [(0, .ref (g.1 13)), (1, .int p0), (2, .int p1), (3, .int r2), (4, .int x3)] [] := by
      clear hf
      intro u9 hf
      have hf := (hJ22 u9).symm.trans hf
      refine kw_iconst C (0 : Int32) dX5_allows_50 rfl ?_
      exact kJ9 _ hf
    refine kw_icmp_eq C 50 dX5_allows_22 rfl (fun c23 => ?_) (fun c23 => ?_)
    · have hf := if_p c23 hf
      exact kJ22 _ hf
    · have hf := if_n c23 hf
      refine kw_aload_n C dX5_allows_25 rfl 0 rfl ?_
      refine kw_get C inG5 _ (hO5 g σ) rfl 3 (Nat.le_of_ble_eq_true rfl) mf_5_21 rfl rfl dX5_allows_26 ?_
      refine kw_iload C dX5_allows_29 4 rfl ?_
      obtain ⟨h24, hf⟩ := gd_elim hf
      refine kw_zald C _ 3 (hA5_3 g σ) rfl h24 dX5_allows_31 ?_
      refine kw_if_ne C 50 dX5_allows_32 rfl (fun c25 => ?_) (fun c25 => ?_)
      · have hf := if_n c25 hf
        exact kJ22 _ hf
      · have hf := if_p c25 hf
        refine kw_aload_n C dX5_allows_35 rfl 0 rfl ?_
        refine kw_get C inG5 _ (hO5 g σ) rfl 1 (Nat.le_of_ble_eq_true rfl) mf_5_15 rfl rfl dX5_allows_36 ?_
        refine kw_iload C dX5_allows_39 4 rfl ?_
        obtain ⟨h26, hf⟩ := gd_elim hf
        refine kw_iald C _ 0 (hA5_1 g σ) rfl h26 dX5_allows_41 ?_
        refine kw_iload_n C dX5_allows_42 rfl 1 rfl ?_
        refine kw_icmp_ne C 50 dX5_allows_43 rfl (fun c27 => ?_) (fun c27 => ?_)
        · have hf := if_n c27 hf
          exact kJ22 _ hf
        · have hf := if_p c27 hf
          refine kw_iconst C (1 : Int32) dX5_allows_46 rfl ?_
          refine kw_goto C 51 dX5_allows_47 rfl ?_
          exact kJ9 _ hf
set_option maxRecDepth 100000 in
set_option maxHeartbeats 4000000 in
theorem kX8_forget (L : Launch) (D : va_G) (g : GwT) (t0 : Nat) (σ : St) (σ0 : St) (hf : fX8_forget σ  = some σ0) : CtV L D (ttG g) (wB g) t0 yX8_forget cX8_forget 1 none { frames := 0, cells := 0, slots := 0, locals := 0 } [.ref (g.1 12)] σ σ0 := by
  refine CtV.of (own := RX8) (by decide) rfl (Nat.le_of_ble_eq_true rfl) [(0, .ref (g.1 12))] rfl ?_
  intro X C hN K
  unfold fX8_forget at hf
  refine kw_aload_n C dX8_forget_0 rfl 0 rfl ?_
  refine kw_iconst C (0 : Int32) dX8_forget_1 rfl ?_
  obtain ⟨σ1, eσ1, hf⟩ := lt_elim hf
  refine kw_put C inG8 tyX8 tyX8_ok nmX8 _ (hO8 g σ) rfl 1 (Nat.le_of_ble_eq_true rfl) mf_8_15 rfl rfl (tyX8_ok 1 (Nat.le_of_ble_eq_true rfl)) rfl rfl (Nat.le_of_ble_eq_true rfl) ((hF8_1 g σ _).trans (congrArg (wB g) eσ1.symm)) dX8_forget_2 ?_
  exact kw_vret (u9 := ()) C K dX8_forget_5 hf
set_option maxRecDepth 100000 in
set_option maxHeartbeats 4000000 in
theorem kX8_note (L : Launch) (D : va_G) (g : GwT) (t0 : Nat) (p0 : Nat) (ho_p0 : isSale p0) (p1 : Int32) (σ : St) (σ0 : St) (hf : fX8_note σ p0 p1 = some σ0) : CtV L D (ttG g) (wB g) t0 yX8_note cX8_note 4 none { frames := 1, cells := 0, slots := 0, locals := 35 } [.ref (g.1 12), .ref (g.1 p0), .int p1] σ σ0 := by
  refine CtV.of (own := RX8) (by decide) rfl (Nat.le_of_ble_eq_true rfl) [(0, .ref (g.1 12)), (1, .ref (g.1 p0)), (2, .int p1)] rfl ?_
  intro X C hN K
  unfold fX8_note at hf
  refine kw_aload_n C dX8_note_0 rfl 0 rfl ?_
  refine kw_get C inG8 _ (hO8 g σ) rfl 1 (Nat.le_of_ble_eq_true rfl) mf_8_15 rfl rfl dX8_note_1 ?_
  refine kw_bipush C (20 : Int32) dX8_note_4 rfl ?_
  obtain ⟨J2, hJ2, hf⟩ := jnx1_elim hf
  have kJ2 : ∀ (σ1 : St), J2 σ1 = some σ0 → KW X σ1 32 [(0, .ref (g.1 12)), (1, .ref (g.1 p0)), (2, .int p1)] [] := by
    clear hf
    intro σ1 hf
    have hf := (hJ2 σ1).symm.trans hf
    refine kw_aload_n C dX8_note_32 rfl 0 rfl ?_
    refine kw_get C inG8 _ (hO8 g σ1) rfl 1 (Nat.le_of_ble_eq_true rfl) mf_8_15 rfl rfl dX8_note_33 ?_
    refine kw_bipush C (9 : Int32) dX8_note_36 rfl ?_
    refine kw_imul C dX8_note_38 ?_
    obtain ⟨x3, ex3, hf⟩ := lt_elim hf
    refine kw_topi ex3 ?_
    refine kw_istore_n C dX8_note_39 rfl hN (Nat.le_of_ble_eq_true rfl) [(3, .int x3), (0, .ref (g.1 12)), (1, .ref (g.1 p0)), (2, .int p1)] rfl ?_
    refine kw_aload_n C dX8_note_40 rfl 1 rfl ?_
    refine kw_get C inG8 _ (hO8 g σ1) rfl 0 (Nat.le_of_ble_eq_true rfl) mf_8_11 rfl rfl dX8_note_41 ?_
    refine kw_iload_n C dX8_note_44 rfl 0 rfl ?_
    refine kw_iload_n C dX8_note_45 rfl 3 rfl ?_
    obtain ⟨h4, hf⟩ := gd_elim hf
    obtain ⟨σ5, eσ5, hf⟩ := lt_elim hf
    refine kw_iast C _ 0 (hA8_0 g σ1) rfl h4 ((hS8_0 g σ1 _).trans (congrArg (wB g) eσ5.symm)) dX8_note_46 ?_
    refine kw_aload_n C dX8_note_47 rfl 1 rfl ?_
    refine kw_get C inG8 _ (hO8 g σ5) rfl 0 (Nat.le_of_ble_eq_true rfl) mf_8_11 rfl rfl dX8_note_48 ?_
    refine kw_iload_n C dX8_note_51 rfl 0 rfl ?_
    refine kw_iconst C (1 : Int32) dX8_note_52 rfl ?_
    refine kw_iadd C dX8_note_53 ?_
    refine kw_aload_n C dX8_note_54 rfl 2 rfl ?_
    refine kw_get C inG4 _ (hO4 g σ5 p0 ho_p0) rfl 0 (Nat.le_of_ble_eq_true rfl) mf_8_25 rfl rfl dX8_note_55 ?_
    refine kw_iload_n C dX8_note_58 rfl 3 rfl ?_
    obtain ⟨h6, hf⟩ := gd_elim hf
    refine kw_iald C _ 0 (hA4_0 g σ5 p0 ho_p0) rfl h6 dX8_note_59 ?_
    obtain ⟨h7, hf⟩ := gd_elim hf
    obtain ⟨σ8, eσ8, hf⟩ := lt_elim hf
    refine kw_iast C _ 0 (hA8_0 g σ5) rfl h7 ((hS8_0 g σ5 _).trans (congrArg (wB g) eσ8.symm)) dX8_note_60 ?_
    refine kw_aload_n C dX8_note_61 rfl 1 rfl ?_
    refine kw_get C inG8 _ (hO8 g σ8) rfl 0 (Nat.le_of_ble_eq_true rfl) mf_8_11 rfl rfl dX8_note_62 ?_
    refine kw_iload_n C dX8_note_65 rfl 0 rfl ?_
    refine kw_iconst C (2 : Int32) dX8_note_66 rfl ?_
    refine kw_iadd C dX8_note_67 ?_
    refine kw_aload_n C dX8_note_68 rfl 2 rfl ?_
    refine kw_get C inG4 _ (hO4 g σ8 p0 ho_p0) rfl 2 (Nat.le_of_ble_eq_true rfl) mf_8_30 rfl rfl dX8_note_69 ?_
    refine kw_iload_n C dX8_note_72 rfl 3 rfl ?_
    obtain ⟨h9, hf⟩ := gd_elim hf
    refine kw_iald C _ 0 (hA4_2 g σ8 p0 ho_p0) rfl h9 dX8_note_73 ?_
    obtain ⟨h10, hf⟩ := gd_elim hf
    obtain ⟨σ11, eσ11, hf⟩ := lt_elim hf
    refine kw_iast C _ 0 (hA8_0 g σ8) rfl h10 ((hS8_0 g σ8 _).trans (congrArg (wB g) eσ11.symm)) dX8_note_74 ?_
    refine kw_aload_n C dX8_note_75 rfl 1 rfl ?_
    refine kw_get C inG8 _ (hO8 g σ11) rfl 0 (Nat.le_of_ble_eq_true rfl) mf_8_11 rfl rfl dX8_note_76 ?_
    refine kw_iload_n C dX8_note_79 rfl 0 rfl ?_
    refine kw_iconst C (3 : Int32) dX8_note_80 rfl ?_
    refine kw_iadd C dX8_note_81 ?_
    refine kw_aload_n C dX8_note_82 rfl 2 rfl ?_
    refine kw_get C inG4 _ (hO4 g σ11 p0 ho_p0) rfl 3 (Nat.le_of_ble_eq_true rfl) mf_8_33 rfl rfl dX8_note_83 ?_
    refine kw_iload_n C dX8_note_86 rfl 3 rfl ?_
    obtain ⟨h12, hf⟩ := gd_elim hf
    refine kw_iald C _ 0 (hA4_3 g σ11 p0 ho_p0) rfl h12 dX8_note_87 ?_
    obtain ⟨h13, hf⟩ := gd_elim hf
    obtain ⟨σ14, eσ14, hf⟩ := lt_elim hf
    refine kw_iast C _ 0 (hA8_0 g σ11) rfl h13 ((hS8_0 g σ11 _).trans (congrArg (wB g) eσ14.symm)) dX8_note_88 ?_
    refine kw_aload_n C dX8_note_89 rfl 1 rfl ?_
    refine kw_get C inG8 _ (hO8 g σ14) rfl 0 (Nat.le_of_ble_eq_true rfl) mf_8_11 rfl rfl dX8_note_90 ?_
    refine kw_iload_n C dX8_note_93 rfl 0 rfl ?_
    refine kw_iconst C (4 : Int32) dX8_note_94 rfl ?_
    refine kw_iadd C dX8_note_95 ?_
    refine kw_aload_n C dX8_note_96 rfl 2 rfl ?_
    refine kw_get C inG4 _ (hO4 g σ14 p0 ho_p0) rfl 4 (Nat.le_of_ble_eq_true rfl) mf_8_36 rfl rfl dX8_note_97 ?_
    refine kw_iload_n C dX8_note_100 rfl 3 rfl ?_
    obtain ⟨h15, hf⟩ := gd_elim hf
    refine kw_iald C _ 0 (hA4_4 g σ14 p0 ho_p0) rfl h15 dX8_note_101 ?_
    obtain ⟨h16, hf⟩ := gd_elim hf
    obtain ⟨σ17, eσ17, hf⟩ := lt_elim hf
    refine kw_iast C _ 0 (hA8_0 g σ14) rfl h16 ((hS8_0 g σ14 _).trans (congrArg (wB g) eσ17.symm)) dX8_note_102 ?_
    refine kw_aload_n C dX8_note_103 rfl 1 rfl ?_
    refine kw_get C inG8 _ (hO8 g σ17) rfl 0 (Nat.le_of_ble_eq_true rfl) mf_8_11 rfl rfl dX8_note_104 ?_
    refine kw_iload_n C dX8_note_107 rfl 0 rfl ?_
    refine kw_iconst C (5 : Int32) dX8_note_108 rfl ?_
    refine kw_iadd C dX8_note_109 ?_
    refine kw_aload_n C dX8_note_110 rfl 2 rfl ?_
    refine kw_get C inG4 _ (hO4 g σ17 p0 ho_p0) rfl 6 (Nat.le_of_ble_eq_true rfl) mf_8_39 rfl rfl dX8_note_111 ?_
    obtain ⟨h18, hf⟩ := gd_elim hf
    obtain ⟨σ19, eσ19, hf⟩ := lt_elim hf
    refine kw_iast C _ 0 (hA8_0 g σ17) rfl h18 ((hS8_0 g σ17 _).trans (congrArg (wB g) eσ19.symm)) dX8_note_114 ?_
    refine kw_aload_n C dX8_note_115 rfl 1 rfl ?_
    refine kw_get C inG8 _ (hO8 g σ19) rfl 0 (Nat.le_of_ble_eq_true rfl) mf_8_11 rfl rfl dX8_note_116 ?_
    refine kw_iload_n C dX8_note_119 rfl 0 rfl ?_
    refine kw_bipush C (6 : Int32) dX8_note_120 rfl ?_
    refine kw_iadd C dX8_note_122 ?_
    refine kw_aload_n C dX8_note_123 rfl 2 rfl ?_
    refine kw_get C inG4 _ (hO4 g σ19 p0 ho_p0) rfl 9 (Nat.le_of_ble_eq_true rfl) mf_8_42 rfl rfl dX8_note_124 ?_
    obtain ⟨h20, hf⟩ := gd_elim hf
    obtain ⟨σ21, eσ21, hf⟩ := lt_elim hf
    refine kw_iast C _ 0 (hA8_0 g σ19) rfl h20 ((hS8_0 g σ19 _).trans (congrArg (wB g) eσ21.symm)) dX8_note_127 ?_
    refine kw_aload_n C dX8_note_128 rfl 1 rfl ?_
    refine kw_get C inG8 _ (hO8 g σ21) rfl 0 (Nat.le_of_ble_eq_true rfl) mf_8_11 rfl rfl dX8_note_129 ?_
    refine kw_iload_n C dX8_note_132 rfl 0 rfl ?_
    refine kw_bipush C (7 : Int32) dX8_note_133 rfl ?_
    refine kw_iadd C dX8_note_135 ?_
    refine kw_aload_n C dX8_note_136 rfl 2 rfl ?_
    refine kw_get C inG4 _ (hO4 g σ21 p0 ho_p0) rfl 10 (Nat.le_of_ble_eq_true rfl) mf_8_45 rfl rfl dX8_note_137 ?_
    obtain ⟨h22, hf⟩ := gd_elim hf
    obtain ⟨σ23, eσ23, hf⟩ := lt_elim hf
    refine kw_iast C _ 0 (hA8_0 g σ21) rfl h22 ((hS8_0 g σ21 _).trans (congrArg (wB g) eσ23.symm)) dX8_note_140 ?_
    refine kw_aload_n C dX8_note_141 rfl 1 rfl ?_
    refine kw_get C inG8 _ (hO8 g σ23) rfl 0 (Nat.le_of_ble_eq_true rfl) mf_8_11 rfl rfl dX8_note_142 ?_
    refine kw_iload_n C dX8_note_145 rfl 0 rfl ?_
    refine kw_bipush C (8 : Int32) dX8_note_146 rfl ?_
    refine kw_iadd C dX8_note_148 ?_
    refine kw_aload_n C dX8_note_149 rfl 2 rfl ?_
    refine kw_get C inG4 _ (hO4 g σ23 p0 ho_p0) rfl 11 (Nat.le_of_ble_eq_true rfl) mf_8_48 rfl rfl dX8_note_150 ?_
    obtain ⟨h24, hf⟩ := gd_elim hf
    obtain ⟨σ25, eσ25, hf⟩ := lt_elim hf
    refine kw_iast C _ 0 (hA8_0 g σ23) rfl h24 ((hS8_0 g σ23 _).trans (congrArg (wB g) eσ25.symm)) dX8_note_153 ?_
    refine kw_aload_n C dX8_note_154 rfl 1 rfl ?_
    refine kw_dup C dX8_note_155 rfl ?_
    refine kw_get C inG8 _ (hO8 g σ25) rfl 1 (Nat.le_of_ble_eq_true rfl) mf_8_15 rfl rfl dX8_note_156 ?_
    refine kw_iconst C (1 : Int32) dX8_note_159 rfl ?_
    refine kw_iadd C dX8_note_160 ?_
    obtain ⟨σ26, eσ26, hf⟩ := lt_elim hf
    refine kw_put C inG8 tyX8 tyX8_ok nmX8 _ (hO8 g σ25) rfl 1 (Nat.le_of_ble_eq_true rfl) mf_8_15 rfl rfl (tyX8_ok 1 (Nat.le_of_ble_eq_true rfl)) rfl rfl (Nat.le_of_ble_eq_true rfl) ((hF8_1 g σ25 _).trans (congrArg (wB g) eσ26.symm)) dX8_note_161 ?_
    exact kw_vret (u9 := ()) C K dX8_note_164 hf
  refine kw_icmp_lt C 32 dX8_note_6 rfl (fun c27 => ?_) (fun c27 => ?_)
  · have hf := if_p c27 hf
    exact kJ2 _ hf
  · have hf := if_n c27 hf
    refine kw_aload_n C dX8_note_9 rfl 0 rfl ?_
    refine kw_get C inG8 _ (hO8 g σ) rfl 0 (Nat.le_of_ble_eq_true rfl) mf_8_11 rfl rfl dX8_note_10 ?_
    refine kw_bipush C (9 : Int32) dX8_note_13 rfl ?_
    refine kw_aload_n C dX8_note_15 rfl 0 rfl ?_
    refine kw_get C inG8 _ (hO8 g σ) rfl 0 (Nat.le_of_ble_eq_true rfl) mf_8_11 rfl rfl dX8_note_16 ?_
    refine kw_iconst C (0 : Int32) dX8_note_19 rfl ?_
    refine kw_sipush C (171 : Int32) dX8_note_20 rfl ?_
    obtain ⟨σ28, eσ28, hf⟩ := lt_elim hf
    refine kw_copyi C _ _ 0 0 ml_X8_19 mnat_arraycopy mst_arraycopy mi_System (hA8_0 g σ) (hA8_0 g σ) rfl rfl (by decide) (by decide) (by decide) (by decide) (by decide) ⟨Nat.le_of_ble_eq_true rfl, Nat.le_of_ble_eq_true rfl⟩ ((hS8_0 g σ _).trans (congrArg (wB g) eσ28.symm)) dX8_note_23 ?_
    refine kw_aload_n C dX8_note_26 rfl 0 rfl ?_
    refine kw_bipush C (19 : Int32) dX8_note_27 rfl ?_
    obtain ⟨σ29, eσ29, hf⟩ := lt_elim hf
    refine kw_put C inG8 tyX8 tyX8_ok nmX8 _ (hO8 g σ28) rfl 1 (Nat.le_of_ble_eq_true rfl) mf_8_15 rfl rfl (tyX8_ok 1 (Nat.le_of_ble_eq_true rfl)) rfl rfl (Nat.le_of_ble_eq_true rfl) ((hF8_1 g σ28 _).trans (congrArg (wB g) eσ29.symm)) dX8_note_29 ?_
    exact kJ2 _ hf
set_option maxRecDepth 100000 in
set_option maxHeartbeats 4000000 in
theorem kX8_takeBack (L : Launch) (D : va_G) (g : GwT) (t0 : Nat) (p0 : Nat) (ho_p0 : isSale p0) (σ : St) (r0 : Int32) (σ0 : St) (hf : fX8_takeBack σ p0 = some (r0, σ0)) : CtI L D (ttG g) (wB g) t0 yX8_takeBack cX8_takeBack 4 (some .int) { frames := 0, cells := 0, slots := 0, locals := 0 } [.ref (g.1 12), .ref (g.1 p0)] σ r0 σ0 := by
  refine CtI.of (own := RX8) (by decide) rfl (Nat.le_of_ble_eq_true rfl) [(0, .ref (g.1 12)), (1, .ref (g.1 p0))] rfl ?_
  intro X C hN K
  unfold fX8_takeBack at hf
  refine kw_aload_n C dX8_takeBack_0 rfl 0 rfl ?_
  refine kw_get C inG8 _ (hO8 g σ) rfl 1 (Nat.le_of_ble_eq_true rfl) mf_8_15 rfl rfl dX8_takeBack_1 ?_
  refine kw_if_gt C 9 dX8_takeBack_4 rfl (fun c1 => ?_) (fun c1 => ?_)
  · have hf := if_p c1 hf
    refine kw_aload_n C dX8_takeBack_9 rfl 0 rfl ?_
    refine kw_dup C dX8_takeBack_10 rfl ?_
    refine kw_get C inG8 _ (hO8 g σ) rfl 1 (Nat.le_of_ble_eq_true rfl) mf_8_15 rfl rfl dX8_takeBack_11 ?_
    refine kw_iconst C (1 : Int32) dX8_takeBack_14 rfl ?_
    refine kw_isub C dX8_takeBack_15 ?_
    obtain ⟨σ2, eσ2, hf⟩ := lt_elim hf
    refine kw_put C inG8 tyX8 tyX8_ok nmX8 _ (hO8 g σ) rfl 1 (Nat.le_of_ble_eq_true rfl) mf_8_15 rfl rfl (tyX8_ok 1 (Nat.le_of_ble_eq_true rfl)) rfl rfl (Nat.le_of_ble_eq_true rfl) ((hF8_1 g σ _).trans (congrArg (wB g) eσ2.symm)) dX8_takeBack_16 ?_
    refine kw_aload_n C dX8_takeBack_19 rfl 0 rfl ?_
    refine kw_get C inG8 _ (hO8 g σ2) rfl 1 (Nat.le_of_ble_eq_true rfl) mf_8_15 rfl rfl dX8_takeBack_20 ?_
    refine kw_bipush C (9 : Int32) dX8_takeBack_23 rfl ?_
    refine kw_imul C dX8_takeBack_25 ?_
    obtain ⟨x3, ex3, hf⟩ := lt_elim hf
    refine kw_topi ex3 ?_
    refine kw_istore_n C dX8_takeBack_26 rfl hN (Nat.le_of_ble_eq_true rfl) [(2, .int x3), (0, .ref (g.1 12)), (1, .ref (g.1 p0))] rfl ?_
    refine kw_aload_n C dX8_takeBack_27 rfl 1 rfl ?_
    refine kw_get C inG8 _ (hO8 g σ2) rfl 0 (Nat.le_of_ble_eq_true rfl) mf_8_11 rfl rfl dX8_takeBack_28 ?_
    refine kw_iload_n C dX8_takeBack_31 rfl 0 rfl ?_
    obtain ⟨h4, hf⟩ := gd_elim hf
    refine kw_iald C _ 0 (hA8_0 g σ2) rfl h4 dX8_takeBack_32 ?_
    obtain ⟨x5, ex5, hf⟩ := lt_elim hf
    refine kw_topi ex5 ?_
    refine kw_istore_n C dX8_takeBack_33 rfl hN (Nat.le_of_ble_eq_true rfl) [(3, .int x5), (2, .int x3), (0, .ref (g.1 12)), (1, .ref (g.1 p0))] rfl ?_
    refine kw_aload_n C dX8_takeBack_34 rfl 3 rfl ?_
    refine kw_get C inG4 _ (hO4 g σ2 p0 ho_p0) rfl 0 (Nat.le_of_ble_eq_true rfl) mf_8_25 rfl rfl dX8_takeBack_35 ?_
    refine kw_iload_n C dX8_takeBack_38 rfl 0 rfl ?_
    refine kw_aload_n C dX8_takeBack_39 rfl 2 rfl ?_
    refine kw_get C inG8 _ (hO8 g σ2) rfl 0 (Nat.le_of_ble_eq_true rfl) mf_8_11 rfl rfl dX8_takeBack_40 ?_
    refine kw_iload_n C dX8_takeBack_43 rfl 1 rfl ?_
    refine kw_iconst C (1 : Int32) dX8_takeBack_44 rfl ?_
    refine kw_iadd C dX8_takeBack_45 ?_
    obtain ⟨h6, hf⟩ := gd_elim hf
    refine kw_iald C _ 0 (hA8_0 g σ2) rfl h6 dX8_takeBack_46 ?_
    obtain ⟨h7, hf⟩ := gd_elim hf
    obtain ⟨σ8, eσ8, hf⟩ := lt_elim hf
    refine kw_iast C _ 0 (hA4_0 g σ2 p0 ho_p0) rfl h7 ((hS4_0 g σ2 p0 ho_p0 _).trans (congrArg (wB g) eσ8.symm)) dX8_takeBack_47 ?_
    refine kw_aload_n C dX8_takeBack_48 rfl 3 rfl ?_
    refine kw_get C inG4 _ (hO4 g σ8 p0 ho_p0) rfl 2 (Nat.le_of_ble_eq_true rfl) mf_8_30 rfl rfl dX8_takeBack_49 ?_
    refine kw_iload_n C dX8_takeBack_52 rfl 0 rfl ?_
    refine kw_aload_n C dX8_takeBack_53 rfl 2 rfl ?_
    refine kw_get C inG8 _ (hO8 g σ8) rfl 0 (Nat.le_of_ble_eq_true rfl) mf_8_11 rfl rfl dX8_takeBack_54 ?_
    refine kw_iload_n C dX8_takeBack_57 rfl 1 rfl ?_
    refine kw_iconst C (2 : Int32) dX8_takeBack_58 rfl ?_
    refine kw_iadd C dX8_takeBack_59 ?_
    obtain ⟨h9, hf⟩ := gd_elim hf
    refine kw_iald C _ 0 (hA8_0 g σ8) rfl h9 dX8_takeBack_60 ?_
    obtain ⟨h10, hf⟩ := gd_elim hf
    obtain ⟨σ11, eσ11, hf⟩ := lt_elim hf
    refine kw_iast C _ 0 (hA4_2 g σ8 p0 ho_p0) rfl h10 ((hS4_2 g σ8 p0 ho_p0 _).trans (congrArg (wB g) eσ11.symm)) dX8_takeBack_61 ?_
    refine kw_aload_n C dX8_takeBack_62 rfl 3 rfl ?_
    refine kw_get C inG4 _ (hO4 g σ11 p0 ho_p0) rfl 3 (Nat.le_of_ble_eq_true rfl) mf_8_33 rfl rfl dX8_takeBack_63 ?_
    refine kw_iload_n C dX8_takeBack_66 rfl 0 rfl ?_
    refine kw_aload_n C dX8_takeBack_67 rfl 2 rfl ?_
    refine kw_get C inG8 _ (hO8 g σ11) rfl 0 (Nat.le_of_ble_eq_true rfl) mf_8_11 rfl rfl dX8_takeBack_68 ?_
    refine kw_iload_n C dX8_takeBack_71 rfl 1 rfl ?_
    refine kw_iconst C (3 : Int32) dX8_takeBack_72 rfl ?_
    refine kw_iadd C dX8_takeBack_73 ?_
    obtain ⟨h12, hf⟩ := gd_elim hf
    refine kw_iald C _ 0 (hA8_0 g σ11) rfl h12 dX8_takeBack_74 ?_
    obtain ⟨h13, hf⟩ := gd_elim hf
    obtain ⟨σ14, eσ14, hf⟩ := lt_elim hf
    refine kw_iast C _ 0 (hA4_3 g σ11 p0 ho_p0) rfl h13 ((hS4_3 g σ11 p0 ho_p0 _).trans (congrArg (wB g) eσ14.symm)) dX8_takeBack_75 ?_
    refine kw_aload_n C dX8_takeBack_76 rfl 3 rfl ?_
    refine kw_get C inG4 _ (hO4 g σ14 p0 ho_p0) rfl 4 (Nat.le_of_ble_eq_true rfl) mf_8_36 rfl rfl dX8_takeBack_77 ?_
    refine kw_iload_n C dX8_takeBack_80 rfl 0 rfl ?_
    refine kw_aload_n C dX8_takeBack_81 rfl 2 rfl ?_
    refine kw_get C inG8 _ (hO8 g σ14) rfl 0 (Nat.le_of_ble_eq_true rfl) mf_8_11 rfl rfl dX8_takeBack_82 ?_
    refine kw_iload_n C dX8_takeBack_85 rfl 1 rfl ?_
    refine kw_iconst C (4 : Int32) dX8_takeBack_86 rfl ?_
    refine kw_iadd C dX8_takeBack_87 ?_
    obtain ⟨h15, hf⟩ := gd_elim hf
    refine kw_iald C _ 0 (hA8_0 g σ14) rfl h15 dX8_takeBack_88 ?_
    obtain ⟨h16, hf⟩ := gd_elim hf
    obtain ⟨σ17, eσ17, hf⟩ := lt_elim hf
    refine kw_iast C _ 0 (hA4_4 g σ14 p0 ho_p0) rfl h16 ((hS4_4 g σ14 p0 ho_p0 _).trans (congrArg (wB g) eσ17.symm)) dX8_takeBack_89 ?_
    refine kw_aload_n C dX8_takeBack_90 rfl 3 rfl ?_
    refine kw_aload_n C dX8_takeBack_91 rfl 2 rfl ?_
    refine kw_get C inG8 _ (hO8 g σ17) rfl 0 (Nat.le_of_ble_eq_true rfl) mf_8_11 rfl rfl dX8_takeBack_92 ?_
    refine kw_iload_n C dX8_takeBack_95 rfl 1 rfl ?_
    refine kw_iconst C (5 : Int32) dX8_takeBack_96 rfl ?_
    refine kw_iadd C dX8_takeBack_97 ?_
    obtain ⟨h18, hf⟩ := gd_elim hf
    refine kw_iald C _ 0 (hA8_0 g σ17) rfl h18 dX8_takeBack_98 ?_
    obtain ⟨σ19, eσ19, hf⟩ := lt_elim hf
    refine kw_put C inG4 tyX4 tyX4_ok nmX4 _ (hO4 g σ17 p0 ho_p0) rfl 6 (Nat.le_of_ble_eq_true rfl) mf_8_39 rfl rfl (tyX4_ok 6 (Nat.le_of_ble_eq_true rfl)) rfl rfl (Nat.le_of_ble_eq_true rfl) ((hF4_6 g σ17 p0 ho_p0 _).trans (congrArg (wB g) eσ19.symm)) dX8_takeBack_99 ?_
    refine kw_aload_n C dX8_takeBack_102 rfl 3 rfl ?_
    refine kw_aload_n C dX8_takeBack_103 rfl 2 rfl ?_
    refine kw_get C inG8 _ (hO8 g σ19) rfl 0 (Nat.le_of_ble_eq_true rfl) mf_8_11 rfl rfl dX8_takeBack_104 ?_
    refine kw_iload_n C dX8_takeBack_107 rfl 1 rfl ?_
    refine kw_bipush C (6 : Int32) dX8_takeBack_108 rfl ?_
    refine kw_iadd C dX8_takeBack_110 ?_
    obtain ⟨h20, hf⟩ := gd_elim hf
    refine kw_iald C _ 0 (hA8_0 g σ19) rfl h20 dX8_takeBack_111 ?_
    obtain ⟨σ21, eσ21, hf⟩ := lt_elim hf
    refine kw_put C inG4 tyX4 tyX4_ok nmX4 _ (hO4 g σ19 p0 ho_p0) rfl 9 (Nat.le_of_ble_eq_true rfl) mf_8_42 rfl rfl (tyX4_ok 9 (Nat.le_of_ble_eq_true rfl)) rfl rfl (Nat.le_of_ble_eq_true rfl) ((hF4_9 g σ19 p0 ho_p0 _).trans (congrArg (wB g) eσ21.symm)) dX8_takeBack_112 ?_
    refine kw_aload_n C dX8_takeBack_115 rfl 3 rfl ?_
    refine kw_aload_n C dX8_takeBack_116 rfl 2 rfl ?_
    refine kw_get C inG8 _ (hO8 g σ21) rfl 0 (Nat.le_of_ble_eq_true rfl) mf_8_11 rfl rfl dX8_takeBack_117 ?_
    refine kw_iload_n C dX8_takeBack_120 rfl 1 rfl ?_
    refine kw_bipush C (7 : Int32) dX8_takeBack_121 rfl ?_
    refine kw_iadd C dX8_takeBack_123 ?_
    obtain ⟨h22, hf⟩ := gd_elim hf
    refine kw_iald C _ 0 (hA8_0 g σ21) rfl h22 dX8_takeBack_124 ?_
    obtain ⟨σ23, eσ23, hf⟩ := lt_elim hf
    refine kw_put C inG4 tyX4 tyX4_ok nmX4 _ (hO4 g σ21 p0 ho_p0) rfl 10 (Nat.le_of_ble_eq_true rfl) mf_8_45 rfl rfl (tyX4_ok 10 (Nat.le_of_ble_eq_true rfl)) rfl rfl (Nat.le_of_ble_eq_true rfl) ((hF4_10 g σ21 p0 ho_p0 _).trans (congrArg (wB g) eσ23.symm)) dX8_takeBack_125 ?_
    refine kw_aload_n C dX8_takeBack_128 rfl 3 rfl ?_
    refine kw_aload_n C dX8_takeBack_129 rfl 2 rfl ?_
    refine kw_get C inG8 _ (hO8 g σ23) rfl 0 (Nat.le_of_ble_eq_true rfl) mf_8_11 rfl rfl dX8_takeBack_130 ?_
    refine kw_iload_n C dX8_takeBack_133 rfl 1 rfl ?_
    refine kw_bipush C (8 : Int32) dX8_takeBack_134 rfl ?_
    refine kw_iadd C dX8_takeBack_136 ?_
    obtain ⟨h24, hf⟩ := gd_elim hf
    refine kw_iald C _ 0 (hA8_0 g σ23) rfl h24 dX8_takeBack_137 ?_
    obtain ⟨σ25, eσ25, hf⟩ := lt_elim hf
    refine kw_put C inG4 tyX4 tyX4_ok nmX4 _ (hO4 g σ23 p0 ho_p0) rfl 11 (Nat.le_of_ble_eq_true rfl) mf_8_48 rfl rfl (tyX4_ok 11 (Nat.le_of_ble_eq_true rfl)) rfl rfl (Nat.le_of_ble_eq_true rfl) ((hF4_11 g σ23 p0 ho_p0 _).trans (congrArg (wB g) eσ25.symm)) dX8_takeBack_138 ?_
    refine kw_aload_n C dX8_takeBack_141 rfl 2 rfl ?_
    refine kw_get C inG8 _ (hO8 g σ25) rfl 1 (Nat.le_of_ble_eq_true rfl) mf_8_15 rfl rfl dX8_takeBack_142 ?_
    exact kw_iret C K dX8_takeBack_145 hf
  · have hf := if_n c1 hf
    refine kw_iconst C (-1 : Int32) dX8_takeBack_7 rfl ?_
    exact kw_iret C K dX8_takeBack_8 hf
set_option maxRecDepth 100000 in
set_option maxHeartbeats 4000000 in
theorem kX6_empty (L : Launch) (D : va_G) (g : GwT) (t0 : Nat) (o : Bool) (σ : St) (σ0 : St) (hf : fX6_empty σ o = some σ0) : CtV L D (ttG g) (wB g) t0 yX6_empty cX6_empty 1 none { frames := 1, cells := 0, slots := 0, locals := 21 } [.ref (g.1 (tx o))] σ σ0 := by
  refine CtV.of (own := RX6) (by decide) rfl (Nat.le_of_ble_eq_true rfl) [(0, .ref (g.1 (tx o)))] rfl ?_
  intro X C hN K
  unfold fX6_empty at hf
  refine kw_aload_n C dX6_empty_0 rfl 0 rfl ?_
  refine kw_iconst C (0 : Int32) dX6_empty_1 rfl ?_
  obtain ⟨σ1, eσ1, hf⟩ := lt_elim hf
  refine kw_put C inG6 tyX6 tyX6_ok nmX6 _ (hO6 g σ o) rfl 0 (Nat.le_of_ble_eq_true rfl) mf_6_50 rfl rfl (tyX6_ok 0 (Nat.le_of_ble_eq_true rfl)) rfl rfl (Nat.le_of_ble_eq_true rfl) ((hF6_0 g σ o _).trans (congrArg (wB g) eσ1.symm)) dX6_empty_2 ?_
  refine kw_aload_n C dX6_empty_5 rfl 0 rfl ?_
  refine kw_iconst C (0 : Int32) dX6_empty_6 rfl ?_
  obtain ⟨σ2, eσ2, hf⟩ := lt_elim hf
  refine kw_put C inG6 tyX6 tyX6_ok nmX6 _ (hO6 g σ1 o) rfl 1 (Nat.le_of_ble_eq_true rfl) mf_6_53 rfl rfl (tyX6_ok 1 (Nat.le_of_ble_eq_true rfl)) rfl rfl (Nat.le_of_ble_eq_true rfl) ((hF6_1 g σ1 o _).trans (congrArg (wB g) eσ2.symm)) dX6_empty_7 ?_
  refine kw_aload_n C dX6_empty_10 rfl 0 rfl ?_
  refine kw_iconst C (0 : Int32) dX6_empty_11 rfl ?_
  obtain ⟨σ3, eσ3, hf⟩ := lt_elim hf
  refine kw_put C inG6 tyX6 tyX6_ok nmX6 _ (hO6 g σ2 o) rfl 8 (Nat.le_of_ble_eq_true rfl) mf_6_56 rfl rfl (tyX6_ok 8 (Nat.le_of_ble_eq_true rfl)) rfl rfl (Nat.le_of_ble_eq_true rfl) ((hF6_8 g σ2 o _).trans (congrArg (wB g) eσ3.symm)) dX6_empty_12 ?_
  refine kw_aload_n C dX6_empty_15 rfl 0 rfl ?_
  refine kw_iconst C (3 : Int32) dX6_empty_16 rfl ?_
  obtain ⟨σ4, eσ4, hf⟩ := lt_elim hf
  refine kw_put C inG6 tyX6 tyX6_ok nmX6 _ (hO6 g σ3 o) rfl 12 (Nat.le_of_ble_eq_true rfl) mf_6_46 rfl rfl (tyX6_ok 12 (Nat.le_of_ble_eq_true rfl)) rfl rfl (Nat.le_of_ble_eq_true rfl) ((hF6_12 g σ3 o _).trans (congrArg (wB g) eσ4.symm)) dX6_empty_17 ?_
  refine kw_aload_n C dX6_empty_20 rfl 0 rfl ?_
  refine kw_iconst C (0 : Int32) dX6_empty_21 rfl ?_
  obtain ⟨σ5, eσ5, hf⟩ := lt_elim hf
  refine kw_put C inG6 tyX6 tyX6_ok nmX6 _ (hO6 g σ4 o) rfl 13 (Nat.le_of_ble_eq_true rfl) mf_6_59 rfl rfl (tyX6_ok 13 (Nat.le_of_ble_eq_true rfl)) rfl rfl (Nat.le_of_ble_eq_true rfl) ((hF6_13 g σ4 o _).trans (congrArg (wB g) eσ5.symm)) dX6_empty_22 ?_
  refine kw_aload_n C dX6_empty_25 rfl 0 rfl ?_
  refine kw_iconst C (0 : Int32) dX6_empty_26 rfl ?_
  obtain ⟨σ6, eσ6, hf⟩ := lt_elim hf
  refine kw_put C inG6 tyX6 tyX6_ok nmX6 _ (hO6 g σ5 o) rfl 14 (Nat.le_of_ble_eq_true rfl) mf_6_62 rfl rfl (tyX6_ok 14 (Nat.le_of_ble_eq_true rfl)) rfl rfl (Nat.le_of_ble_eq_true rfl) ((hF6_14 g σ5 o _).trans (congrArg (wB g) eσ6.symm)) dX6_empty_27 ?_
  refine kw_aload_n C dX6_empty_30 rfl 0 rfl ?_
  refine kw_get C inG6 _ (hO6 g σ6 o) rfl 15 (Nat.le_of_ble_eq_true rfl) mf_6_42 rfl rfl dX6_empty_31 ?_
  obtain ⟨σ8, hc7, hf⟩ := bV_elim hf
  refine kw_callVV C [] (kX2_empty L D g t0 o σ6 _ hc7) RX2 mV_X6_65 ⟨rfl, rfl⟩ dd_X2_empty ⟨Nat.le_of_ble_eq_true rfl, Nat.le_of_ble_eq_true rfl⟩ _ (hO2 g σ6 o) rfl rfl rfl (Nat.le_of_ble_eq_true rfl) dX6_empty_34 ?_
  exact kw_vret (u9 := ()) C K dX6_empty_37 hf
set_option maxRecDepth 100000 in
set_option maxHeartbeats 4000000 in
theorem kX7_isLetter (L : Launch) (D : va_G) (g : GwT) (t0 : Nat) (p0 : Int32) (σ : St) (r0 : Int32) (hf : fX7_isLetter σ p0 = some r0) : CtI L D (ttG g) (wB g) t0 yX7_isLetter cX7_isLetter 1 (some .boolean) { frames := 0, cells := 0, slots := 0, locals := 0 } [.int p0] σ r0 σ := by
  refine CtI.of (own := RX7) (by decide) rfl (Nat.le_of_ble_eq_true rfl) [(0, .int p0)] rfl ?_
  intro X C hN K
  unfold fX7_isLetter at hf
  refine kw_iload_n C dX7_isLetter_0 rfl 0 rfl ?_
  refine kw_bipush C (97 : Int32) dX7_isLetter_1 rfl ?_
  obtain ⟨J2, hJ2, hf⟩ := jnx1_elim hf
  have kJ2 : ∀ (x1 : Int32), J2 x1 = some r0 → KW X σ 17 [] [.int x1] := by
    clear hf
    intro x1 hf
    have hf := (hJ2 x1).symm.trans hf
    obtain ⟨h3, hf⟩ := gd_elim hf
    exact kw_zret C K h3 dX7_isLetter_17 (pr_ret hf)
  obtain ⟨J4, hJ4, hf⟩ := jnx1_elim hf
  have kJ4 : ∀ (u9 : Unit), J4 u9 = some r0 → KW X σ 16 [] [] := by
    clear hf
    intro u9 hf
    have hf := (hJ4 u9).symm.trans hf
    refine kw_iconst C (0 : Int32) dX7_isLetter_16 rfl ?_
    exact kJ2 _ hf
  refine kw_icmp_lt C 16 dX7_isLetter_3 rfl (fun c5 => ?_) (fun c5 => ?_)
  · have hf := if_p c5 hf
    refine kw_sub [] _ rfl ?_
    exact kJ4 _ hf
  · have hf := if_n c5 hf
    refine kw_iload_n C dX7_isLetter_6 rfl 0 rfl ?_
    refine kw_bipush C (122 : Int32) dX7_isLetter_7 rfl ?_
    refine kw_icmp_gt C 16 dX7_isLetter_9 rfl (fun c6 => ?_) (fun c6 => ?_)
    · have hf := if_p c6 hf
      refine kw_sub [] _ rfl ?_
      exact kJ4 _ hf
    · have hf := if_n c6 hf
      refine kw_iconst C (1 : Int32) dX7_isLetter_12 rfl ?_
      refine kw_goto C 17 dX7_isLetter_13 rfl ?_
      refine kw_sub [] _ rfl ?_
      exact kJ2 _ hf
set_option maxRecDepth 100000 in
set_option maxHeartbeats 4000000 in
theorem kX7_isDigit (L : Launch) (D : va_G) (g : GwT) (t0 : Nat) (p0 : Int32) (σ : St) (r0 : Int32) (hf : fX7_isDigit σ p0 = some r0) : CtI L D (ttG g) (wB g) t0 yX7_isDigit cX7_isDigit 1 (some .boolean) { frames := 0, cells := 0, slots := 0, locals := 0 } [.int p0] σ r0 σ := by
  refine CtI.of (own := RX7) (by decide) rfl (Nat.le_of_ble_eq_true rfl) [(0, .int p0)] rfl ?_
  intro X C hN K
  unfold fX7_isDigit at hf
  refine kw_iload_n C dX7_isDigit_0 rfl 0 rfl ?_
  refine kw_bipush C (48 : Int32) dX7_isDigit_1 rfl ?_
  obtain ⟨J2, hJ2, hf⟩ := jnx1_elim hf
  have kJ2 : ∀ (x1 : Int32), J2 x1 = some r0 → KW X σ 17 [] [.int x1] := by
    clear hf
    intro x1 hf
    have hf := (hJ2 x1).symm.trans hf
    obtain ⟨h3, hf⟩ := gd_elim hf
    exact kw_zret C K h3 dX7_isDigit_17 (pr_ret hf)
  obtain ⟨J4, hJ4, hf⟩ := jnx1_elim hf
  have kJ4 : ∀ (u9 : Unit), J4 u9 = some r0 → KW X σ 16 [] [] := by
    clear hf
    intro u9 hf
    have hf := (hJ4 u9).symm.trans hf
    refine kw_iconst C (0 : Int32) dX7_isDigit_16 rfl ?_
    exact kJ2 _ hf
  refine kw_icmp_lt C 16 dX7_isDigit_3 rfl (fun c5 => ?_) (fun c5 => ?_)
  · have hf := if_p c5 hf
    refine kw_sub [] _ rfl ?_
    exact kJ4 _ hf
  · have hf := if_n c5 hf
    refine kw_iload_n C dX7_isDigit_6 rfl 0 rfl ?_
    refine kw_bipush C (57 : Int32) dX7_isDigit_7 rfl ?_
    refine kw_icmp_gt C 16 dX7_isDigit_9 rfl (fun c6 => ?_) (fun c6 => ?_)
    · have hf := if_p c6 hf
      refine kw_sub [] _ rfl ?_
      exact kJ4 _ hf
    · have hf := if_n c6 hf
      refine kw_iconst C (1 : Int32) dX7_isDigit_12 rfl ?_
      refine kw_goto C 17 dX7_isDigit_13 rfl ?_
      refine kw_sub [] _ rfl ?_
      exact kJ2 _ hf
