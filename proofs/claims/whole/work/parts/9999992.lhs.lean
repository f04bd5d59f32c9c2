set_option maxRecDepth 100000 in
set_option maxHeartbeats 4000000 in
theorem kL_house0 (L : Launch) (hL : L.stackTraces = false) (D : va_G) (gB : GwT) (aM : Nat → Nat) (bM : Nat → Nat → Nat) (qo : Nat) (t0 : Nat) (p0 p1 : Int32) (σB σM : St) (f : Nat → Int64) (v : Int32) (hf : fHs σB p0 p1 = some (0, v)) : CtH L D (ttG gB) (wL gB (aM, bM, gB.2.2) qo) t0 [.ref (gB.1 0), .int p0, .int p1, .ref qo] (σB, σM, f) 0 (σB, σM, vp_updL f (Int32.toNatClampNeg (0 : Int32)) v.toInt64) := by
  refine CtH.of (Nat.le_of_ble_eq_true rfl) [(0, .ref (gB.1 0)), (1, .int p0), (2, .int p1), (3, .ref qo)] rfl ?_
  intro X C hN K
  have C1 := C 1 6 (Nat.le_refl _) (Nat.le_refl _)
  have C0 := K.base C
  have hN1 := XN.nl (c9 := 1) (s9 := 6) hN
  refine kw_aload_n C0 dL_house_0 rfl 3 rfl ?_
  refine kw_iconst C0 (0 : Int32) dL_house_1 rfl ?_
  refine kw_aload_n C0 dL_house_2 rfl 0 rfl ?_
  refine kw_iload_n C0 dL_house_3 rfl 1 rfl ?_
  refine kw_iload_n C0 dL_house_4 rfl 2 rfl ?_
  refine kl_callBI C0 [.int p0, .int p1] (kX9_houseV L D gB t0 p0 p1 σB v hf) mV_L_7 ⟨rfl, rfl⟩ dd_X9_house ⟨Nat.le_of_ble_eq_true rfl, Nat.le_of_ble_eq_true rfl⟩ rfl (Nat.le_of_ble_eq_true rfl) dL_house_5 ?_
  refine kw_i2l C0 dL_house_8 ?_
  refine kw_last C0 116 2 (hOutL gB (aM, bM, gB.2.2) qo σB σM f) rfl ixI0 (hOutS gB (aM, bM, gB.2.2) qo σB σM f _) dL_house_9 ?_
  refine kw_goto C0 21 dL_house_10 rfl ?_
  refine kw_iconst C0 (0 : Int32) dL_house_21 rfl ?_
  exact K.wid (kl_iret C1 K dL_house_22)
set_option maxRecDepth 100000 in
set_option maxHeartbeats 4000000 in
theorem kL_house1 (L : Launch) (hL : L.stackTraces = false) (D : va_G) (gB : GwT) (aM : Nat → Nat) (bM : Nat → Nat → Nat) (qo : Nat) (t0 : Nat) (p0 p1 : Int32) (σB σM : St) (f : Nat → Int64) (v : Int32) (hf : fHs σB p0 p1 = some (1, v)) : CtH L D (ttG gB) (wL gB (aM, bM, gB.2.2) qo) t0 [.ref (gB.1 0), .int p0, .int p1, .ref qo] (σB, σM, f) 1 (σB, σM, f) := by
  refine CtH.of (Nat.le_of_ble_eq_true rfl) [(0, .ref (gB.1 0)), (1, .int p0), (2, .int p1), (3, .ref qo)] rfl ?_
  intro X C hN K
  have C1 := C 1 6 (Nat.le_refl _) (Nat.le_refl _)
  have C0 := K.base C
  have hN1 := XN.nl (c9 := 1) (s9 := 6) hN
  refine kw_aload_n C0 dL_house_0 rfl 3 rfl ?_
  refine kw_iconst C0 (0 : Int32) dL_house_1 rfl ?_
  refine kw_aload_n C0 dL_house_2 rfl 0 rfl ?_
  refine kw_iload_n C0 dL_house_3 rfl 1 rfl ?_
  refine kw_iload_n C0 dL_house_4 rfl 2 rfl ?_
  refine kl_callBX C1 K [.int p0, .int p1] (kX9_houseI L hL D gB t0 p0 p1 σB v hf) mV_L_7 rfl rfl (Nat.le_of_ble_eq_true rfl) [] [⟨0, 10, 17, 15⟩] ⟨0, 10, 13, 13⟩ rfl IOB (fun s args h5 h z hz => absurd hz (by simp)) (by decide) (by decide) mcl_L_13 (fun s args h => va_Nw.use rfl h.2.2.2.1) (fun q9 => ?_)
  refine kw_astore C1 dL_house_13 hN1 (Nat.le_of_ble_eq_true rfl) [(4, .ref q9), (0, .ref (gB.1 0)), (1, .int p0), (2, .int p1), (3, .ref qo)] rfl ?_
  refine kw_iconst C1 (1 : Int32) dL_house_15 rfl ?_
  exact kl_iret C1 K dL_house_16
set_option maxRecDepth 100000 in
set_option maxHeartbeats 4000000 in
theorem kL_house2 (L : Launch) (hL : L.stackTraces = false) (D : va_G) (gB : GwT) (aM : Nat → Nat) (bM : Nat → Nat → Nat) (qo : Nat) (t0 : Nat) (p0 p1 : Int32) (σB σM : St) (f : Nat → Int64) (v : Int32) (hf : fHs σB p0 p1 = some (2, v)) : CtH L D (ttG gB) (wL gB (aM, bM, gB.2.2) qo) t0 [.ref (gB.1 0), .int p0, .int p1, .ref qo] (σB, σM, f) 2 (σB, σM, f) := by
  refine CtH.of (Nat.le_of_ble_eq_true rfl) [(0, .ref (gB.1 0)), (1, .int p0), (2, .int p1), (3, .ref qo)] rfl ?_
  intro X C hN K
  have C1 := C 1 6 (Nat.le_refl _) (Nat.le_refl _)
  have C0 := K.base C
  have hN1 := XN.nl (c9 := 1) (s9 := 6) hN
  refine kw_aload_n C0 dL_house_0 rfl 3 rfl ?_
  refine kw_iconst C0 (0 : Int32) dL_house_1 rfl ?_
  refine kw_aload_n C0 dL_house_2 rfl 0 rfl ?_
  refine kw_iload_n C0 dL_house_3 rfl 1 rfl ?_
  refine kw_iload_n C0 dL_house_4 rfl 2 rfl ?_
  refine kl_callBX C1 K [.int p0, .int p1] (kX9_houseN L hL D gB t0 p0 p1 σB v hf) mV_L_7 rfl rfl (Nat.le_of_ble_eq_true rfl) [⟨0, 10, 13, 13⟩] [] ⟨0, 10, 17, 15⟩ rfl NSE (fun s args h5 h z hz => by
    rcases List.mem_cons.mp hz with rfl | hz
    · exact Or.inr ⟨by decide, IOB, h5 _ mcl_L_13, h.2.2.2.2.2⟩
    · exact absurd hz (by simp)) (by decide) (by decide) mcl_L_15 (fun s args h => va_Nw.use rfl h.2.2.2.2.1) (fun q9 => ?_)
  refine kw_astore C1 dL_house_17 hN1 (Nat.le_of_ble_eq_true rfl) [(4, .ref q9), (0, .ref (gB.1 0)), (1, .int p0), (2, .int p1), (3, .ref qo)] rfl ?_
  refine kw_iconst C1 (2 : Int32) dL_house_19 rfl ?_
  exact kl_iret C1 K dL_house_20
