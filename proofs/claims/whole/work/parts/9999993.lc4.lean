def EXX (X : KX SL) : Prop := match X with
  | (p, l, e, R, s, m, args, below, meth, c, D, tys, wf, A, nL, Q, tW, cn, sn) => EXw A s s.heap
set_option maxRecDepth 100000 in
theorem ml_L_39 : Cond.methodLink RL 39 yL_house ∈ GT := GT5 95 rfl rfl
set_option maxRecDepth 100000 in
theorem mst_L_house : Cond.static yL_house ∈ GT := GT5 96 rfl rfl
set_option maxRecDepth 100000 in
theorem mcode_L_house : Cond.codeWith yL_house cL_house 5 (some .int) hhL ∈ GT := GT5 97 rfl rfl
theorem mH_L_39 : ∀ w ∈ va_wsS RL 39 yL_house wsH, w ∈ GT := GT_all (GT_c ml_L_39 (GT_c mst_L_house (GT_c mi_L GT_n))) (GT_c mcode_L_house (fun _ h => h))
set_option maxRecDepth 100000 in
theorem ml_L_44 : Cond.methodLink RL 44 yX10_house ∈ GT := GT7 93 rfl rfl
theorem mV_L_44 : ∀ w ∈ wsV RL 44 RX10 yX10_house (wsG yX10_house cX10_house 3 (some .int)), w ∈ GT := GT_all (GT_c ml_L_44 (GT_c mint_X10_house (GT_c msel_X10_house (GT_c mi_X10 GT_n)))) (GT_c mcode_X10_house (fun _ h => h))
set_option maxRecDepth 100000 in
theorem ml_L_45 : Cond.methodLink RL 45 yX10_thrown ∈ GT := GT6 207 rfl rfl
theorem mV_L_45 : ∀ w ∈ wsV RL 45 RX10 yX10_thrown (wsG yX10_thrown cX10_thrown 1 (some .int)), w ∈ GT := GT_all (GT_c ml_L_45 (GT_c mint_X10_thrown (GT_c msel_X10_thrown (GT_c mi_X10 GT_n)))) (GT_c mcode_X10_thrown (fun _ h => h))
theorem dd_L_house : yL_house.cls ≠ "java/lang/invoke/MethodHandle" ∧ yL_house.cls ≠ "java/lang/invoke/VarHandle" ∧ (parseMethodDescriptor yL_house.desc).map (fun d => d.parameters.length) = some 4 := by decide +kernel
/-- the law calls its own 'house' -/
theorem kl_callH {X : KX SL} {L : Launch} {DD : va_G} {tt : List (ClassId × FieldType)} {t0 : Nat} {gB gM : GwT} {qo c0 s0 c2 s2 : Nat} (C : KC (XN X c0 s0) L DD tt (wL gB gM qo) room_1 t0 cL_law RL) (EX : EXX X) (hc : c0 + 1 ≤ c2) (hs : s0 + 6 ≤ s2) (hc2 : c2 ≤ 1143) (hs2 : s2 ≤ 12563) {u u' : SL} {lv : List (Nat × Value)} {st rest : List Value} {k : Int32} (As : List Value) (hM : CtH L DD tt (wL gB gM qo) t0 As u k u') (hn : As.length = 4) (hst : st = As.reverse ++ rest) (hro : (rest.map fun v => v.category).sum ≤ 8) (k9 : KW (XN X c2 s2) u' 409 lv (.int k :: rest)) : KW (XN X c0 s0) u 406 lv st := by
  obtain ⟨p, l, e, R, s, m, args, below, meth, c, D, tys, wf, A, nL, Q, tW, cn, sn⟩ := X
  have EX : EXw A s s.heap := EX
  obtain ⟨h1, h2, h3, h4, h5, h6, h7, h8, rfl, rfl, rfl, rfl, rfl, rfl, hcn, hsn⟩ := C
  intro H locs ls hP hD hS hl
  have hFc := kw_free hD hS h7
  refine va_calli (vx_runSW (As := As) (rest := rest) ⟨h1, h2, h3, h4, h5⟩ (hM H.size) (vx_cwSW 4 h5 (GT_in (fun _ h => h) _ mH_L_39) rfl rfl rfl dd_L_house ⟨Nat.le_of_ble_eq_true rfl, Nat.le_of_ble_eq_true rfl⟩) ⟨PreL.blind, fun U hU hW => ⟨rfl, by rw [hU], by rw [hU]; exact hP, va_K.moved hW.alike h6, hD.weaken (fun _ _ _ _ => trivial), by rw [hU]; exact ((h8.warm hW).kept (fun a h9 h10 => hS.2.1 a h9 h10)).narrow hFc, by rw [hU]; exact ((EX.warm hW).kept (fun a h9 h10 => hS.2.1 a h9 h10)).narrow hFc⟩⟩ rfl hn hl.1 hst (lv_room hro) dL_law_406 ⟨show c0 + 1 ≤ 1143 by omega, show s0 + 6 ≤ 12563 by omega⟩) hS (fun q _ h => hFc q h) hFc (fun r u t H1 locs1 ht hvm hw hB hz1 hk1 hS1 => ?_)
  obtain ⟨b1, b2⟩ := hB
  obtain ⟨w1, w2⟩ := hw
  subst w1
  subst w2
  subst ht
  exact W.widen hc hs (k9 _ _ _ b1 (b2.weaken (fun _ q _ h => hFc q.1 h)) hS1 hl)
theorem houseM {L : Launch} {D : va_G} {gB : GwT} {aM : Nat → Nat} {bM : Nat → Nat → Nat} {qo t0 : Nat} {p0 p1 : Int32} {σB σM : St} {f : Nat → Int64} {k v : Int32} (hL : L.stackTraces = false) (hf : fHs σB p0 p1 = some (k, v)) (hk : k = 0 ∨ k = 1 ∨ k = 2) : ∃ f' : Nat → Int64, CtH L D (ttG gB) (wL gB (aM, bM, gB.2.2) qo) t0 [.ref (gB.1 0), .int p0, .int p1, .ref qo] (σB, σM, f) k (σB, σM, f') ∧ (k = 0 → f' (Int32.toNatClampNeg (0 : Int32)) = v.toInt64) := by
  rcases hk with rfl | rfl | rfl
  · exact ⟨_, kL_house0 L hL D gB aM bM qo t0 p0 p1 σB σM f v hf, fun _ => by rw [updL_at, if_pos rfl]⟩
  · exact ⟨_, kL_house1 L hL D gB aM bM qo t0 p0 p1 σB σM f v hf, fun z => absurd z (by decide)⟩
  · exact ⟨_, kL_house2 L hL D gB aM bM qo t0 p0 p1 σB σM f v hf, fun z => absurd z (by decide)⟩
set_option maxRecDepth 100000 in
set_option maxHeartbeats 4000000 in
theorem lc_4 {X : KX SL} {L : Launch} {D : va_G} {t0 : Nat} {gB : GwT} {aM : Nat → Nat} {bM : Nat → Nat → Nat} {qo b Ln : Nat} {xs : Nat → Int32} (hL : L.stackTraces = false) (hKC : ∀ k : Nat, k ≤ 512 → KC (XN X (117 + 2 * k) (4359 + 16 * k)) L D (ttG gB) (wL gB (aM, bM, gB.2.2) qo) room_1 t0 cL_law RL) (hN0 : ∀ k : Nat, (XN X (117 + 2 * k) (4359 + 16 * k)).2.2.2.2.2.2.2.2.2.2.2.2.2.2.1 = 7) (hX0 : ∀ k : Nat, SX (XN X (117 + 2 * k) (4359 + 16 * k)) b Ln xs) (EX : EXX X) : STH 117 4359 REL X gB aM qo b Ln := by
  intro k σB σM f x4 hk R h1 h2 next
  have C := hKC k (by omega)
  have C' := hKC (k + 1) (by omega)
  have hX := hX0 k
  have hX' := hX0 (k + 1)
  have hN' := hN0 (k + 1)
  obtain ⟨kk, v, bb, σM', e1, e2, e3, e4, e5, e6⟩ := st4 (xs (Int32.toNatClampNeg (x4 + (1 : Int32)))) (xs (Int32.toNatClampNeg (x4 + (2 : Int32)))) R
  obtain ⟨f', hM, hf'⟩ := houseM (L := L) (D := D) (gB := gB) (aM := aM) (bM := bM) (qo := qo) (t0 := t0) (σM := σM) (f := f) hL e1 e5
  have next' := next σB σM' f' e6
  refine kw_aload_n C dL_law_392 rfl 1 rfl ?_
  refine kw_aload_n C dL_law_393 rfl 0 rfl ?_
  refine kw_iload C dL_law_394 4 rfl ?_
  refine kw_iconst C (1 : Int32) dL_law_396 rfl ?_
  refine kw_iadd C dL_law_397 ?_
  refine kl_sld C hX h1 dL_law_398 ?_
  refine kw_aload_n C dL_law_399 rfl 0 rfl ?_
  refine kw_iload C dL_law_400 4 rfl ?_
  refine kw_iconst C (2 : Int32) dL_law_402 rfl ?_
  refine kw_iadd C dL_law_403 ?_
  refine kl_sld C hX h2 dL_law_404 ?_
  refine kw_aload_n C dL_law_405 rfl 3 rfl ?_
  refine kl_callH (c2 := 117 + 2 * (k + 1)) (s2 := 4359 + 16 * (k + 1)) C EX (by omega) (by omega) (by omega) (by omega) [.ref (gB.1 0), .int (xs (Int32.toNatClampNeg (x4 + (1 : Int32)))), .int (xs (Int32.toNatClampNeg (x4 + (2 : Int32)))), .ref qo] hM rfl rfl (Nat.le_of_ble_eq_true rfl) ?_
  refine kw_istore C' dL_law_409 hN' (Nat.le_of_ble_eq_true rfl) [(5, .int kk), (0, .ref b), (1, .ref (gB.1 0)), (2, .ref (aM 0)), (3, .ref qo), (4, .int x4)] rfl ?_
  refine kw_aload_n C' dL_law_411 rfl 3 rfl ?_
  refine kw_aload_n C' dL_law_412 rfl 1 rfl ?_
  refine kw_iload C' dL_law_413 5 rfl ?_
  refine kw_iconst C' (1 : Int32) dL_law_415 rfl ?_
  refine kw_iadd C' dL_law_416 ?_
  refine kl_sld C' hX' h1 dL_law_417 ?_
  refine kw_aload_n C' dL_law_418 rfl 1 rfl ?_
  refine kw_iload C' dL_law_419 5 rfl ?_
  refine kw_iconst C' (2 : Int32) dL_law_421 rfl ?_
  refine kw_iadd C' dL_law_422 ?_
  refine kl_sld C' hX' h2 dL_law_423 ?_
  refine kl_callMI C' [.int (xs (Int32.toNatClampNeg (x4 + (1 : Int32)))), .int (xs (Int32.toNatClampNeg (x4 + (2 : Int32))))] (kX10_house L D (aM, bM, gB.2.2) t0 (xs (Int32.toNatClampNeg (x4 + (1 : Int32)))) (xs (Int32.toNatClampNeg (x4 + (2 : Int32)))) σM _ _ e2) mV_L_44 ⟨rfl, rfl⟩ dd_X10_house ⟨Nat.le_of_ble_eq_true rfl, Nat.le_of_ble_eq_true rfl⟩ rfl (Nat.le_of_ble_eq_true rfl) dL_law_424 ?_
  refine kw_istore C' dL_law_427 hN' (Nat.le_of_ble_eq_true rfl) [(6, .int bb), (5, .int kk), (0, .ref b), (1, .ref (gB.1 0)), (2, .ref (aM 0)), (3, .ref qo), (4, .int x4)] rfl ?_
  refine kw_aload_n C' dL_law_429 rfl 4 rfl ?_
  refine kl_callMI C' [] (kX10_thrown L D (aM, bM, gB.2.2) t0 σM' _ rfl) mV_L_45 ⟨rfl, rfl⟩ dd_X10_thrown ⟨Nat.le_of_ble_eq_true rfl, Nat.le_of_ble_eq_true rfl⟩ rfl (Nat.le_of_ble_eq_true rfl) dL_law_430 ?_
  refine kw_iload C' dL_law_433 1 rfl ?_
  refine kw_icmp_eq C' 440 dL_law_435 rfl (fun _ => ?_) (fun c9 => absurd e3 c9)
  refine kw_iload C' dL_law_440 1 rfl ?_
  refine kw_if_ne C' 457 dL_law_442 rfl (fun c => ?_) (fun c => ?_)
  · refine kw_goto C' 1609 dL_law_457 rfl ?_
    exact kw_sub [2, 3, 4, 5, 6] _ rfl next'
  · refine kw_aload_n C' dL_law_445 rfl 5 rfl ?_
    refine kw_iconst C' (0 : Int32) dL_law_446 rfl ?_
    refine kw_lald C' 116 2 (hOutL gB (aM, bM, gB.2.2) qo σB σM' f') rfl ixI0 dL_law_447 ?_
    refine kw_iload C' dL_law_448 0 rfl ?_
    refine kw_i2l C' dL_law_450 ?_
    refine kw_lcmp C' dL_law_451 ?_
    refine kw_if_eq C' 457 dL_law_452 rfl (fun _ => ?_) (fun c9 => absurd (lgc_eq ((hf' c).trans (congrArg Int32.toInt64 (e4 c).symm))) c9)
    refine kw_goto C' 1609 dL_law_457 rfl ?_
    exact kw_sub [2, 3, 4, 5, 6] _ rfl next'
