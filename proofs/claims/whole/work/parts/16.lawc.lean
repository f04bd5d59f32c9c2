theorem lgc_eq {x y : Int64} (h : x = y) : lg_cmp x y = 0 := by subst h; simp [lg_cmp]
set_option maxRecDepth 100000 in
theorem ml_L_21 : Cond.methodLink RL 21 yX9_feed ∈ GT := GT2 207 rfl rfl
theorem mV_L_21 : ∀ w ∈ wsV RL 21 RX9 yX9_feed (wsG yX9_feed cX9_feed 6 (some .int)), w ∈ GT := GT_all (GT_c ml_L_21 (GT_c mint_X9_feed (GT_c msel_X9_feed (GT_c mi_X9 GT_n)))) (GT_c mcode_X9_feed (fun _ h => h))
set_option maxRecDepth 100000 in
theorem ml_L_25 : Cond.methodLink RL 25 yX10_feed ∈ GT := GT6 211 rfl rfl
theorem mV_L_25 : ∀ w ∈ wsV RL 25 RX10 yX10_feed (wsG yX10_feed cX10_feed 8 (some .int)), w ∈ GT := GT_all (GT_c ml_L_25 (GT_c mint_X10_feed (GT_c msel_X10_feed (GT_c mi_X10 GT_n)))) (GT_c mcode_X10_feed (fun _ h => h))
set_option maxRecDepth 100000 in
set_option maxHeartbeats 4000000 in
theorem lc_0 {X : KX SL} {L : Launch} {D : va_G} {t0 : Nat} {gB : GwT} {aM : Nat → Nat} {bM : Nat → Nat → Nat} {qo b Ln : Nat} {xs : Nat → Int32} (REL : St → St → Prop) (C : KC X L D (ttG gB) (wL gB (aM, bM, gB.2.2) qo) room_1 t0 cL_law RL) (hN : X.2.2.2.2.2.2.2.2.2.2.2.2.2.2.1 = 7) (hX : SX X b Ln xs) {σB σM : St} {f : Nat → Int64} {x4 : Int32} (h1 : ixI (x4 + (1 : Int32)) Ln) (h2 : ixI (x4 + (2 : Int32)) Ln) (h3 : ixI (x4 + (3 : Int32)) Ln) (h4 : ixI (x4 + (4 : Int32)) Ln) (h5 : ixI (x4 + (5 : Int32)) Ln) (hs : SIM (fun q q' => q.1 = q'.1 ∧ REL q.2 q'.2) (fX9_feed σB (xs (Int32.toNatClampNeg (x4 + (1 : Int32)))) (xs (Int32.toNatClampNeg (x4 + (2 : Int32)))) (xs (Int32.toNatClampNeg (x4 + (3 : Int32)))) (xs (Int32.toNatClampNeg (x4 + (4 : Int32)))) (xs (Int32.toNatClampNeg (x4 + (5 : Int32))))) (fX10_feed σM (xs (Int32.toNatClampNeg (x4 + (1 : Int32)))) (xs (Int32.toNatClampNeg (x4 + (2 : Int32)))) (xs (Int32.toNatClampNeg (x4 + (3 : Int32)))) (xs (Int32.toNatClampNeg (x4 + (4 : Int32)))) (xs (Int32.toNatClampNeg (x4 + (5 : Int32)))))) (hk : ∀ σB1 σM1, REL σB1 σM1 → KW X (σB1, σM1, f) 1609 [(0, .ref b), (1, .ref (gB.1 0)), (2, .ref (aM 0)), (3, .ref qo), (4, .int x4)] []) : KW X (σB, σM, f) 232 [(0, .ref b), (1, .ref (gB.1 0)), (2, .ref (aM 0)), (3, .ref qo), (4, .int x4)] [] := by
  obtain ⟨⟨rB, σB1⟩, ⟨rM, σM1⟩, eB, eM, hr, hrel⟩ := hs
  refine kw_aload_n C dL_law_232 rfl 1 rfl ?_
  refine kw_aload_n C dL_law_233 rfl 0 rfl ?_
  refine kw_iload C dL_law_234 4 rfl ?_
  refine kw_iconst C (1 : Int32) dL_law_236 rfl ?_
  refine kw_iadd C dL_law_237 ?_
  refine kl_sld C hX h1 dL_law_238 ?_
  refine kw_aload_n C dL_law_239 rfl 0 rfl ?_
  refine kw_iload C dL_law_240 4 rfl ?_
  refine kw_iconst C (2 : Int32) dL_law_242 rfl ?_
  refine kw_iadd C dL_law_243 ?_
  refine kl_sld C hX h2 dL_law_244 ?_
  refine kw_aload_n C dL_law_245 rfl 0 rfl ?_
  refine kw_iload C dL_law_246 4 rfl ?_
  refine kw_iconst C (3 : Int32) dL_law_248 rfl ?_
  refine kw_iadd C dL_law_249 ?_
  refine kl_sld C hX h3 dL_law_250 ?_
  refine kw_aload_n C dL_law_251 rfl 0 rfl ?_
  refine kw_iload C dL_law_252 4 rfl ?_
  refine kw_iconst C (4 : Int32) dL_law_254 rfl ?_
  refine kw_iadd C dL_law_255 ?_
  refine kl_sld C hX h4 dL_law_256 ?_
  refine kw_aload_n C dL_law_257 rfl 0 rfl ?_
  refine kw_iload C dL_law_258 4 rfl ?_
  refine kw_iconst C (5 : Int32) dL_law_260 rfl ?_
  refine kw_iadd C dL_law_261 ?_
  refine kl_sld C hX h5 dL_law_262 ?_
  refine kl_callBI C [.int (xs (Int32.toNatClampNeg (x4 + (1 : Int32)))), .int (xs (Int32.toNatClampNeg (x4 + (2 : Int32)))), .int (xs (Int32.toNatClampNeg (x4 + (3 : Int32)))), .int (xs (Int32.toNatClampNeg (x4 + (4 : Int32)))), .int (xs (Int32.toNatClampNeg (x4 + (5 : Int32))))] (kX9_feed L D gB t0 (xs (Int32.toNatClampNeg (x4 + (1 : Int32)))) (xs (Int32.toNatClampNeg (x4 + (2 : Int32)))) (xs (Int32.toNatClampNeg (x4 + (3 : Int32)))) (xs (Int32.toNatClampNeg (x4 + (4 : Int32)))) (xs (Int32.toNatClampNeg (x4 + (5 : Int32)))) σB _ _ eB) mV_L_21 ⟨rfl, rfl⟩ dd_X9_feed ⟨Nat.le_of_ble_eq_true rfl, Nat.le_of_ble_eq_true rfl⟩ rfl (Nat.le_of_ble_eq_true rfl) dL_law_263 ?_
  refine kw_aload_n C dL_law_266 rfl 2 rfl ?_
  refine kw_aload_n C dL_law_267 rfl 0 rfl ?_
  refine kw_iload C dL_law_268 4 rfl ?_
  refine kw_iconst C (1 : Int32) dL_law_270 rfl ?_
  refine kw_iadd C dL_law_271 ?_
  refine kl_sld C hX h1 dL_law_272 ?_
  refine kw_aload_n C dL_law_273 rfl 0 rfl ?_
  refine kw_iload C dL_law_274 4 rfl ?_
  refine kw_iconst C (2 : Int32) dL_law_276 rfl ?_
  refine kw_iadd C dL_law_277 ?_
  refine kl_sld C hX h2 dL_law_278 ?_
  refine kw_aload_n C dL_law_279 rfl 0 rfl ?_
  refine kw_iload C dL_law_280 4 rfl ?_
  refine kw_iconst C (3 : Int32) dL_law_282 rfl ?_
  refine kw_iadd C dL_law_283 ?_
  refine kl_sld C hX h3 dL_law_284 ?_
  refine kw_aload_n C dL_law_285 rfl 0 rfl ?_
  refine kw_iload C dL_law_286 4 rfl ?_
  refine kw_iconst C (4 : Int32) dL_law_288 rfl ?_
  refine kw_iadd C dL_law_289 ?_
  refine kl_sld C hX h4 dL_law_290 ?_
  refine kw_aload_n C dL_law_291 rfl 0 rfl ?_
  refine kw_iload C dL_law_292 4 rfl ?_
  refine kw_iconst C (5 : Int32) dL_law_294 rfl ?_
  refine kw_iadd C dL_law_295 ?_
  refine kl_sld C hX h5 dL_law_296 ?_
  refine kl_callMI C [.int (xs (Int32.toNatClampNeg (x4 + (1 : Int32)))), .int (xs (Int32.toNatClampNeg (x4 + (2 : Int32)))), .int (xs (Int32.toNatClampNeg (x4 + (3 : Int32)))), .int (xs (Int32.toNatClampNeg (x4 + (4 : Int32)))), .int (xs (Int32.toNatClampNeg (x4 + (5 : Int32))))] (kX10_feed L D (aM, bM, gB.2.2) t0 (xs (Int32.toNatClampNeg (x4 + (1 : Int32)))) (xs (Int32.toNatClampNeg (x4 + (2 : Int32)))) (xs (Int32.toNatClampNeg (x4 + (3 : Int32)))) (xs (Int32.toNatClampNeg (x4 + (4 : Int32)))) (xs (Int32.toNatClampNeg (x4 + (5 : Int32)))) σM _ _ eM) mV_L_25 ⟨rfl, rfl⟩ dd_X10_feed ⟨Nat.le_of_ble_eq_true rfl, Nat.le_of_ble_eq_true rfl⟩ rfl (Nat.le_of_ble_eq_true rfl) dL_law_297 ?_
  refine kw_icmp_eq C 1609 dL_law_300 rfl (fun _ => ?_) (fun c9 => absurd hr c9)
  exact hk _ _ hrel
set_option maxRecDepth 100000 in
theorem ml_L_26 : Cond.methodLink RL 26 yX9_text ∈ GT := GT2 215 rfl rfl
theorem mV_L_26 : ∀ w ∈ wsV RL 26 RX9 yX9_text (wsG yX9_text cX9_text 4 (some .int)), w ∈ GT := GT_all (GT_c ml_L_26 (GT_c mint_X9_text (GT_c msel_X9_text (GT_c mi_X9 GT_n)))) (GT_c mcode_X9_text (fun _ h => h))
set_option maxRecDepth 100000 in
theorem ml_L_30 : Cond.methodLink RL 30 yX10_text ∈ GT := GT6 215 rfl rfl
theorem mV_L_30 : ∀ w ∈ wsV RL 30 RX10 yX10_text (wsG yX10_text cX10_text 3 (some .int)), w ∈ GT := GT_all (GT_c ml_L_30 (GT_c mint_X10_text (GT_c msel_X10_text (GT_c mi_X10 GT_n)))) (GT_c mcode_X10_text (fun _ h => h))
set_option maxRecDepth 100000 in
set_option maxHeartbeats 4000000 in
theorem lc_1 {X : KX SL} {L : Launch} {D : va_G} {t0 : Nat} {gB : GwT} {aM : Nat → Nat} {bM : Nat → Nat → Nat} {qo b Ln : Nat} {xs : Nat → Int32} (REL : St → St → Prop) (C : KC X L D (ttG gB) (wL gB (aM, bM, gB.2.2) qo) room_1 t0 cL_law RL) (hN : X.2.2.2.2.2.2.2.2.2.2.2.2.2.2.1 = 7) (hX : SX X b Ln xs) {σB σM : St} {f : Nat → Int64} {x4 : Int32} (h1 : ixI (x4 + (1 : Int32)) Ln) (hs : SIM (fun q q' => q.1 = q'.1 ∧ REL q.2 q'.2) (fX9_text σB (xs (Int32.toNatClampNeg (x4 + (1 : Int32))))) (fX10_text σM (xs (Int32.toNatClampNeg (x4 + (1 : Int32)))))) (hk : ∀ σB1 σM1, REL σB1 σM1 → KW X (σB1, σM1, f) 1609 [(0, .ref b), (1, .ref (gB.1 0)), (2, .ref (aM 0)), (3, .ref qo), (4, .int x4)] []) : KW X (σB, σM, f) 305 [(0, .ref b), (1, .ref (gB.1 0)), (2, .ref (aM 0)), (3, .ref qo), (4, .int x4)] [] := by
  obtain ⟨⟨rB, σB1⟩, ⟨rM, σM1⟩, eB, eM, hr, hrel⟩ := hs
  refine kw_aload_n C dL_law_305 rfl 1 rfl ?_
  refine kw_aload_n C dL_law_306 rfl 0 rfl ?_
  refine kw_iload C dL_law_307 4 rfl ?_
  refine kw_iconst C (1 : Int32) dL_law_309 rfl ?_
  refine kw_iadd C dL_law_310 ?_
  refine kl_sld C hX h1 dL_law_311 ?_
  refine kl_callBI C [.int (xs (Int32.toNatClampNeg (x4 + (1 : Int32))))] (kX9_text L D gB t0 (xs (Int32.toNatClampNeg (x4 + (1 : Int32)))) σB _ _ eB) mV_L_26 ⟨rfl, rfl⟩ dd_X9_text ⟨Nat.le_of_ble_eq_true rfl, Nat.le_of_ble_eq_true rfl⟩ rfl (Nat.le_of_ble_eq_true rfl) dL_law_312 ?_
  refine kw_aload_n C dL_law_315 rfl 2 rfl ?_
  refine kw_aload_n C dL_law_316 rfl 0 rfl ?_
  refine kw_iload C dL_law_317 4 rfl ?_
  refine kw_iconst C (1 : Int32) dL_law_319 rfl ?_
  refine kw_iadd C dL_law_320 ?_
  refine kl_sld C hX h1 dL_law_321 ?_
  refine kl_callMI C [.int (xs (Int32.toNatClampNeg (x4 + (1 : Int32))))] (kX10_text L D (aM, bM, gB.2.2) t0 (xs (Int32.toNatClampNeg (x4 + (1 : Int32)))) σM _ _ eM) mV_L_30 ⟨rfl, rfl⟩ dd_X10_text ⟨Nat.le_of_ble_eq_true rfl, Nat.le_of_ble_eq_true rfl⟩ rfl (Nat.le_of_ble_eq_true rfl) dL_law_322 ?_
  refine kw_icmp_eq C 1609 dL_law_325 rfl (fun _ => ?_) (fun c9 => absurd hr c9)
  exact hk _ _ hrel
set_option maxRecDepth 100000 in
theorem ml_L_31 : Cond.methodLink RL 31 yX9_fault ∈ GT := GT3 166 rfl rfl
theorem mV_L_31 : ∀ w ∈ wsV RL 31 RX9 yX9_fault (wsG yX9_fault cX9_fault 2 (some .int)), w ∈ GT := GT_all (GT_c ml_L_31 (GT_c mint_X9_fault (GT_c msel_X9_fault (GT_c mi_X9 GT_n)))) (GT_c mcode_X9_fault (fun _ h => h))
set_option maxRecDepth 100000 in
theorem ml_L_34 : Cond.methodLink RL 34 yX10_fault ∈ GT := GT7 85 rfl rfl
theorem mV_L_34 : ∀ w ∈ wsV RL 34 RX10 yX10_fault (wsG yX10_fault cX10_fault 2 (some .int)), w ∈ GT := GT_all (GT_c ml_L_34 (GT_c mint_X10_fault (GT_c msel_X10_fault (GT_c mi_X10 GT_n)))) (GT_c mcode_X10_fault (fun _ h => h))
set_option maxRecDepth 100000 in
set_option maxHeartbeats 4000000 in
theorem lc_2 {X : KX SL} {L : Launch} {D : va_G} {t0 : Nat} {gB : GwT} {aM : Nat → Nat} {bM : Nat → Nat → Nat} {qo b Ln : Nat} {xs : Nat → Int32} (REL : St → St → Prop) (C : KC X L D (ttG gB) (wL gB (aM, bM, gB.2.2) qo) room_1 t0 cL_law RL) (hN : X.2.2.2.2.2.2.2.2.2.2.2.2.2.2.1 = 7) (hX : SX X b Ln xs) {σB σM : St} {f : Nat → Int64} {x4 : Int32} (h1 : ixI (x4 + (1 : Int32)) Ln) (hs : SIM (fun q q' => q = q'.1 ∧ REL σB q'.2) (fX9_fault σB (xs (Int32.toNatClampNeg (x4 + (1 : Int32))))) (fX10_fault σM (xs (Int32.toNatClampNeg (x4 + (1 : Int32)))))) (hk : ∀ σB1 σM1, REL σB1 σM1 → KW X (σB1, σM1, f) 1609 [(0, .ref b), (1, .ref (gB.1 0)), (2, .ref (aM 0)), (3, .ref qo), (4, .int x4)] []) : KW X (σB, σM, f) 330 [(0, .ref b), (1, .ref (gB.1 0)), (2, .ref (aM 0)), (3, .ref qo), (4, .int x4)] [] := by
  obtain ⟨rB, ⟨rM, σM1⟩, eB, eM, hr, hrel⟩ := hs
  refine kw_aload_n C dL_law_330 rfl 1 rfl ?_
  refine kw_aload_n C dL_law_331 rfl 0 rfl ?_
  refine kw_iload C dL_law_332 4 rfl ?_
  refine kw_iconst C (1 : Int32) dL_law_334 rfl ?_
  refine kw_iadd C dL_law_335 ?_
  refine kl_sld C hX h1 dL_law_336 ?_
  refine kl_callBI C [.int (xs (Int32.toNatClampNeg (x4 + (1 : Int32))))] (kX9_fault L D gB t0 (xs (Int32.toNatClampNeg (x4 + (1 : Int32)))) σB _ eB) mV_L_31 ⟨rfl, rfl⟩ dd_X9_fault ⟨Nat.le_of_ble_eq_true rfl, Nat.le_of_ble_eq_true rfl⟩ rfl (Nat.le_of_ble_eq_true rfl) dL_law_337 ?_
  refine kw_aload_n C dL_law_340 rfl 2 rfl ?_
  refine kw_aload_n C dL_law_341 rfl 0 rfl ?_
  refine kw_iload C dL_law_342 4 rfl ?_
  refine kw_iconst C (1 : Int32) dL_law_344 rfl ?_
  refine kw_iadd C dL_law_345 ?_
  refine kl_sld C hX h1 dL_law_346 ?_
  refine kl_callMI C [.int (xs (Int32.toNatClampNeg (x4 + (1 : Int32))))] (kX10_fault L D (aM, bM, gB.2.2) t0 (xs (Int32.toNatClampNeg (x4 + (1 : Int32)))) σM _ _ eM) mV_L_34 ⟨rfl, rfl⟩ dd_X10_fault ⟨Nat.le_of_ble_eq_true rfl, Nat.le_of_ble_eq_true rfl⟩ rfl (Nat.le_of_ble_eq_true rfl) dL_law_347 ?_
  refine kw_icmp_eq C 1609 dL_law_350 rfl (fun _ => ?_) (fun c9 => absurd hr c9)
  exact hk _ _ hrel
set_option maxRecDepth 100000 in
theorem ml_L_35 : Cond.methodLink RL 35 yX9_named ∈ GT := GT3 170 rfl rfl
theorem mV_L_35 : ∀ w ∈ wsV RL 35 RX9 yX9_named (wsG yX9_named cX9_named 3 (some .int)), w ∈ GT := GT_all (GT_c ml_L_35 (GT_c mint_X9_named (GT_c msel_X9_named (GT_c mi_X9 GT_n)))) (GT_c mcode_X9_named (fun _ h => h))
set_option maxRecDepth 100000 in
theorem ml_L_38 : Cond.methodLink RL 38 yX10_named ∈ GT := GT7 89 rfl rfl
theorem mV_L_38 : ∀ w ∈ wsV RL 38 RX10 yX10_named (wsG yX10_named cX10_named 3 (some .int)), w ∈ GT := GT_all (GT_c ml_L_38 (GT_c mint_X10_named (GT_c msel_X10_named (GT_c mi_X10 GT_n)))) (GT_c mcode_X10_named (fun _ h => h))
set_option maxRecDepth 100000 in
set_option maxHeartbeats 4000000 in
theorem lc_3 {X : KX SL} {L : Launch} {D : va_G} {t0 : Nat} {gB : GwT} {aM : Nat → Nat} {bM : Nat → Nat → Nat} {qo b Ln : Nat} {xs : Nat → Int32} (REL : St → St → Prop) (C : KC X L D (ttG gB) (wL gB (aM, bM, gB.2.2) qo) room_1 t0 cL_law RL) (hN : X.2.2.2.2.2.2.2.2.2.2.2.2.2.2.1 = 7) (hX : SX X b Ln xs) {σB σM : St} {f : Nat → Int64} {x4 : Int32} (h1 : ixI (x4 + (1 : Int32)) Ln) (h2 : ixI (x4 + (2 : Int32)) Ln) (hs : SIM (fun q q' => q = q'.1 ∧ REL σB q'.2) (fX9_named σB (xs (Int32.toNatClampNeg (x4 + (1 : Int32)))) (xs (Int32.toNatClampNeg (x4 + (2 : Int32))))) (fX10_named σM (xs (Int32.toNatClampNeg (x4 + (1 : Int32)))) (xs (Int32.toNatClampNeg (x4 + (2 : Int32)))))) (hk : ∀ σB1 σM1, REL σB1 σM1 → KW X (σB1, σM1, f) 1609 [(0, .ref b), (1, .ref (gB.1 0)), (2, .ref (aM 0)), (3, .ref qo), (4, .int x4)] []) : KW X (σB, σM, f) 355 [(0, .ref b), (1, .ref (gB.1 0)), (2, .ref (aM 0)), (3, .ref qo), (4, .int x4)] [] := by
  obtain ⟨rB, ⟨rM, σM1⟩, eB, eM, hr, hrel⟩ := hs
  refine kw_aload_n C dL_law_355 rfl 1 rfl ?_
  refine kw_aload_n C dL_law_356 rfl 0 rfl ?_
  refine kw_iload C dL_law_357 4 rfl ?_
  refine kw_iconst C (1 : Int32) dL_law_359 rfl ?_
  refine kw_iadd C dL_law_360 ?_
  refine kl_sld C hX h1 dL_law_361 ?_
  refine kw_aload_n C dL_law_362 rfl 0 rfl ?_
  refine kw_iload C dL_law_363 4 rfl ?_
  refine kw_iconst C (2 : Int32) dL_law_365 rfl ?_
  refine kw_iadd C dL_law_366 ?_
  refine kl_sld C hX h2 dL_law_367 ?_
  refine kl_callBI C [.int (xs (Int32.toNatClampNeg (x4 + (1 : Int32)))), .int (xs (Int32.toNatClampNeg (x4 + (2 : Int32))))] (kX9_named L D gB t0 (xs (Int32.toNatClampNeg (x4 + (1 : Int32)))) (xs (Int32.toNatClampNeg (x4 + (2 : Int32)))) σB _ eB) mV_L_35 ⟨rfl, rfl⟩ dd_X9_named ⟨Nat.le_of_ble_eq_true rfl, Nat.le_of_ble_eq_true rfl⟩ rfl (Nat.le_of_ble_eq_true rfl) dL_law_368 ?_
  refine kw_aload_n C dL_law_371 rfl 2 rfl ?_
  refine kw_aload_n C dL_law_372 rfl 0 rfl ?_
  refine kw_iload C dL_law_373 4 rfl ?_
  refine kw_iconst C (1 : Int32) dL_law_375 rfl ?_
  refine kw_iadd C dL_law_376 ?_
  refine kl_sld C hX h1 dL_law_377 ?_
  refine kw_aload_n C dL_law_378 rfl 0 rfl ?_
  refine kw_iload C dL_law_379 4 rfl ?_
  refine kw_iconst C (2 : Int32) dL_law_381 rfl ?_
  refine kw_iadd C dL_law_382 ?_
  refine kl_sld C hX h2 dL_law_383 ?_
  refine kl_callMI C [.int (xs (Int32.toNatClampNeg (x4 + (1 : Int32)))), .int (xs (Int32.toNatClampNeg (x4 + (2 : Int32))))] (kX10_named L D (aM, bM, gB.2.2) t0 (xs (Int32.toNatClampNeg (x4 + (1 : Int32)))) (xs (Int32.toNatClampNeg (x4 + (2 : Int32)))) σM _ _ eM) mV_L_38 ⟨rfl, rfl⟩ dd_X10_named ⟨Nat.le_of_ble_eq_true rfl, Nat.le_of_ble_eq_true rfl⟩ rfl (Nat.le_of_ble_eq_true rfl) dL_law_384 ?_
  refine kw_icmp_eq C 1609 dL_law_387 rfl (fun _ => ?_) (fun c9 => absurd hr c9)
  exact hk _ _ hrel
set_option maxRecDepth 100000 in
theorem ml_L_49 : Cond.methodLink RL 49 yX9_part ∈ GT := GT3 175 rfl rfl
theorem mV_L_49 : ∀ w ∈ wsV RL 49 RX9 yX9_part (wsG yX9_part cX9_part 3 (some .int)), w ∈ GT := GT_all (GT_c ml_L_49 (GT_c mint_X9_part (GT_c msel_X9_part (GT_c mi_X9 GT_n)))) (GT_c mcode_X9_part (fun _ h => h))
set_option maxRecDepth 100000 in
theorem ml_L_52 : Cond.methodLink RL 52 yX10_part ∈ GT := GT7 105 rfl rfl
theorem mV_L_52 : ∀ w ∈ wsV RL 52 RX10 yX10_part (wsG yX10_part cX10_part 3 (some .int)), w ∈ GT := GT_all (GT_c ml_L_52 (GT_c mint_X10_part (GT_c msel_X10_part (GT_c mi_X10 GT_n)))) (GT_c mcode_X10_part (fun _ h => h))
set_option maxRecDepth 100000 in
set_option maxHeartbeats 4000000 in
theorem lc_5 {X : KX SL} {L : Launch} {D : va_G} {t0 : Nat} {gB : GwT} {aM : Nat → Nat} {bM : Nat → Nat → Nat} {qo b Ln : Nat} {xs : Nat → Int32} (REL : St → St → Prop) (C : KC X L D (ttG gB) (wL gB (aM, bM, gB.2.2) qo) room_1 t0 cL_law RL) (hN : X.2.2.2.2.2.2.2.2.2.2.2.2.2.2.1 = 7) (hX : SX X b Ln xs) {σB σM : St} {f : Nat → Int64} {x4 : Int32} (h1 : ixI (x4 + (1 : Int32)) Ln) (h2 : ixI (x4 + (2 : Int32)) Ln) (hs : SIM (fun q q' => q = q'.1 ∧ REL σB q'.2) (fX9_part σB (xs (Int32.toNatClampNeg (x4 + (1 : Int32)))) (xs (Int32.toNatClampNeg (x4 + (2 : Int32))))) (fX10_part σM (xs (Int32.toNatClampNeg (x4 + (1 : Int32)))) (xs (Int32.toNatClampNeg (x4 + (2 : Int32)))))) (hk : ∀ σB1 σM1, REL σB1 σM1 → KW X (σB1, σM1, f) 1609 [(0, .ref b), (1, .ref (gB.1 0)), (2, .ref (aM 0)), (3, .ref qo), (4, .int x4)] []) : KW X (σB, σM, f) 460 [(0, .ref b), (1, .ref (gB.1 0)), (2, .ref (aM 0)), (3, .ref qo), (4, .int x4)] [] := by
  obtain ⟨rB, ⟨rM, σM1⟩, eB, eM, hr, hrel⟩ := hs
  refine kw_aload_n C dL_law_460 rfl 1 rfl ?_
  refine kw_aload_n C dL_law_461 rfl 0 rfl ?_
  refine kw_iload C dL_law_462 4 rfl ?_
  refine kw_iconst C (1 : Int32) dL_law_464 rfl ?_
  refine kw_iadd C dL_law_465 ?_
  refine kl_sld C hX h1 dL_law_466 ?_
  refine kw_aload_n C dL_law_467 rfl 0 rfl ?_
  refine kw_iload C dL_law_468 4 rfl ?_
  refine kw_iconst C (2 : Int32) dL_law_470 rfl ?_
  refine kw_iadd C dL_law_471 ?_
  refine kl_sld C hX h2 dL_law_472 ?_
  refine kl_callBI C [.int (xs (Int32.toNatClampNeg (x4 + (1 : Int32)))), .int (xs (Int32.toNatClampNeg (x4 + (2 : Int32))))] (kX9_part L D gB t0 (xs (Int32.toNatClampNeg (x4 + (1 : Int32)))) (xs (Int32.toNatClampNeg (x4 + (2 : Int32)))) σB _ eB) mV_L_49 ⟨rfl, rfl⟩ dd_X9_part ⟨Nat.le_of_ble_eq_true rfl, Nat.le_of_ble_eq_true rfl⟩ rfl (Nat.le_of_ble_eq_true rfl) dL_law_473 ?_
  refine kw_aload_n C dL_law_476 rfl 2 rfl ?_
  refine kw_aload_n C dL_law_477 rfl 0 rfl ?_
  refine kw_iload C dL_law_478 4 rfl ?_
  refine kw_iconst C (1 : Int32) dL_law_480 rfl ?_
  refine kw_iadd C dL_law_481 ?_
  refine kl_sld C hX h1 dL_law_482 ?_
  refine kw_aload_n C dL_law_483 rfl 0 rfl ?_
  refine kw_iload C dL_law_484 4 rfl ?_
  refine kw_iconst C (2 : Int32) dL_law_486 rfl ?_
  refine kw_iadd C dL_law_487 ?_
  refine kl_sld C hX h2 dL_law_488 ?_
  refine kl_callMI C [.int (xs (Int32.toNatClampNeg (x4 + (1 : Int32)))), .int (xs (Int32.toNatClampNeg (x4 + (2 : Int32))))] (kX10_part L D (aM, bM, gB.2.2) t0 (xs (Int32.toNatClampNeg (x4 + (1 : Int32)))) (xs (Int32.toNatClampNeg (x4 + (2 : Int32)))) σM _ _ eM) mV_L_52 ⟨rfl, rfl⟩ dd_X10_part ⟨Nat.le_of_ble_eq_true rfl, Nat.le_of_ble_eq_true rfl⟩ rfl (Nat.le_of_ble_eq_true rfl) dL_law_489 ?_
  refine kw_icmp_eq C 1609 dL_law_492 rfl (fun _ => ?_) (fun c9 => absurd hr c9)
  exact hk _ _ hrel
set_option maxRecDepth 100000 in
theorem ml_L_53 : Cond.methodLink RL 53 yX9_law ∈ GT := GT3 183 rfl rfl
theorem mV_L_53 : ∀ w ∈ wsV RL 53 RX9 yX9_law (wsG yX9_law cX9_law 3 (some .long)), w ∈ GT := GT_all (GT_c ml_L_53 (GT_c mint_X9_law (GT_c msel_X9_law (GT_c mi_X9 GT_n)))) (GT_c mcode_X9_law (fun _ h => h))
set_option maxRecDepth 100000 in
theorem ml_L_57 : Cond.methodLink RL 57 yX10_law ∈ GT := GT7 109 rfl rfl
theorem mV_L_57 : ∀ w ∈ wsV RL 57 RX10 yX10_law (wsG yX10_law cX10_law 5 (some .long)), w ∈ GT := GT_all (GT_c ml_L_57 (GT_c mint_X10_law (GT_c msel_X10_law (GT_c mi_X10 GT_n)))) (GT_c mcode_X10_law (fun _ h => h))
set_option maxRecDepth 100000 in
set_option maxHeartbeats 4000000 in
theorem lc_6 {X : KX SL} {L : Launch} {D : va_G} {t0 : Nat} {gB : GwT} {aM : Nat → Nat} {bM : Nat → Nat → Nat} {qo b Ln : Nat} {xs : Nat → Int32} (REL : St → St → Prop) (C : KC X L D (ttG gB) (wL gB (aM, bM, gB.2.2) qo) room_1 t0 cL_law RL) (hN : X.2.2.2.2.2.2.2.2.2.2.2.2.2.2.1 = 7) (hX : SX X b Ln xs) {σB σM : St} {f : Nat → Int64} {x4 : Int32} (h1 : ixI (x4 + (1 : Int32)) Ln) (h2 : ixI (x4 + (2 : Int32)) Ln) (hs : SIM (fun q q' => q.1 = q'.1 ∧ REL q.2 q'.2) (fX9_law σB (xs (Int32.toNatClampNeg (x4 + (1 : Int32)))) (xs (Int32.toNatClampNeg (x4 + (2 : Int32))))) (fX10_law σM (xs (Int32.toNatClampNeg (x4 + (1 : Int32)))) (xs (Int32.toNatClampNeg (x4 + (2 : Int32)))))) (hk : ∀ σB1 σM1, REL σB1 σM1 → KW X (σB1, σM1, f) 1609 [(0, .ref b), (1, .ref (gB.1 0)), (2, .ref (aM 0)), (3, .ref qo), (4, .int x4)] []) : KW X (σB, σM, f) 497 [(0, .ref b), (1, .ref (gB.1 0)), (2, .ref (aM 0)), (3, .ref qo), (4, .int x4)] [] := by
  obtain ⟨⟨rB, σB1⟩, ⟨rM, σM1⟩, eB, eM, hr, hrel⟩ := hs
  refine kw_aload_n C dL_law_497 rfl 1 rfl ?_
  refine kw_aload_n C dL_law_498 rfl 0 rfl ?_
  refine kw_iload C dL_law_499 4 rfl ?_
  refine kw_iconst C (1 : Int32) dL_law_501 rfl ?_
  refine kw_iadd C dL_law_502 ?_
  refine kl_sld C hX h1 dL_law_503 ?_
  refine kw_aload_n C dL_law_504 rfl 0 rfl ?_
  refine kw_iload C dL_law_505 4 rfl ?_
  refine kw_iconst C (2 : Int32) dL_law_507 rfl ?_
  refine kw_iadd C dL_law_508 ?_
  refine kl_sld C hX h2 dL_law_509 ?_
  refine kl_callBL C [.int (xs (Int32.toNatClampNeg (x4 + (1 : Int32)))), .int (xs (Int32.toNatClampNeg (x4 + (2 : Int32))))] (kX9_law L D gB t0 (xs (Int32.toNatClampNeg (x4 + (1 : Int32)))) (xs (Int32.toNatClampNeg (x4 + (2 : Int32)))) σB _ _ eB) mV_L_53 ⟨rfl, rfl⟩ dd_X9_law ⟨Nat.le_of_ble_eq_true rfl, Nat.le_of_ble_eq_true rfl⟩ rfl (Nat.le_of_ble_eq_true rfl) dL_law_510 ?_
  refine kw_aload_n C dL_law_513 rfl 2 rfl ?_
  refine kw_aload_n C dL_law_514 rfl 0 rfl ?_
  refine kw_iload C dL_law_515 4 rfl ?_
  refine kw_iconst C (1 : Int32) dL_law_517 rfl ?_
  refine kw_iadd C dL_law_518 ?_
  refine kl_sld C hX h1 dL_law_519 ?_
  refine kw_aload_n C dL_law_520 rfl 0 rfl ?_
  refine kw_iload C dL_law_521 4 rfl ?_
  refine kw_iconst C (2 : Int32) dL_law_523 rfl ?_
  refine kw_iadd C dL_law_524 ?_
  refine kl_sld C hX h2 dL_law_525 ?_
  refine kl_callML C [.int (xs (Int32.toNatClampNeg (x4 + (1 : Int32)))), .int (xs (Int32.toNatClampNeg (x4 + (2 : Int32))))] (kX10_law L D (aM, bM, gB.2.2) t0 (xs (Int32.toNatClampNeg (x4 + (1 : Int32)))) (xs (Int32.toNatClampNeg (x4 + (2 : Int32)))) σM _ _ eM) mV_L_57 ⟨rfl, rfl⟩ dd_X10_law ⟨Nat.le_of_ble_eq_true rfl, Nat.le_of_ble_eq_true rfl⟩ rfl (Nat.le_of_ble_eq_true rfl) dL_law_526 ?_
  refine kw_lcmp C dL_law_529 ?_
  refine kw_if_eq C 1609 dL_law_530 rfl (fun _ => ?_) (fun c9 => absurd (lgc_eq hr) c9)
  exact hk _ _ hrel
set_option maxRecDepth 100000 in
theorem ml_L_58 : Cond.methodLink RL 58 yX9_nod ∈ GT := GT4 2 rfl rfl
theorem mV_L_58 : ∀ w ∈ wsV RL 58 RX9 yX9_nod (wsG yX9_nod cX9_nod 2 (some .int)), w ∈ GT := GT_all (GT_c ml_L_58 (GT_c mint_X9_nod (GT_c msel_X9_nod (GT_c mi_X9 GT_n)))) (GT_c mcode_X9_nod (fun _ h => h))
set_option maxRecDepth 100000 in
theorem ml_L_61 : Cond.methodLink RL 61 yX10_nod ∈ GT := GT7 139 rfl rfl
theorem mV_L_61 : ∀ w ∈ wsV RL 61 RX10 yX10_nod (wsG yX10_nod cX10_nod 2 (some .int)), w ∈ GT := GT_all (GT_c ml_L_61 (GT_c mint_X10_nod (GT_c msel_X10_nod (GT_c mi_X10 GT_n)))) (GT_c mcode_X10_nod (fun _ h => h))
set_option maxRecDepth 100000 in
set_option maxHeartbeats 4000000 in
theorem lc_7 {X : KX SL} {L : Launch} {D : va_G} {t0 : Nat} {gB : GwT} {aM : Nat → Nat} {bM : Nat → Nat → Nat} {qo b Ln : Nat} {xs : Nat → Int32} (REL : St → St → Prop) (C : KC X L D (ttG gB) (wL gB (aM, bM, gB.2.2) qo) room_1 t0 cL_law RL) (hN : X.2.2.2.2.2.2.2.2.2.2.2.2.2.2.1 = 7) (hX : SX X b Ln xs) {σB σM : St} {f : Nat → Int64} {x4 : Int32} (h1 : ixI (x4 + (1 : Int32)) Ln) (hs : SIM (fun q q' => q.1 = q'.1 ∧ REL q.2 q'.2) (fX9_nod σB (xs (Int32.toNatClampNeg (x4 + (1 : Int32))))) (fX10_nod σM (xs (Int32.toNatClampNeg (x4 + (1 : Int32)))))) (hk : ∀ σB1 σM1, REL σB1 σM1 → KW X (σB1, σM1, f) 1609 [(0, .ref b), (1, .ref (gB.1 0)), (2, .ref (aM 0)), (3, .ref qo), (4, .int x4)] []) : KW X (σB, σM, f) 535 [(0, .ref b), (1, .ref (gB.1 0)), (2, .ref (aM 0)), (3, .ref qo), (4, .int x4)] [] := by
  obtain ⟨⟨rB, σB1⟩, ⟨rM, σM1⟩, eB, eM, hr, hrel⟩ := hs
  refine kw_aload_n C dL_law_535 rfl 1 rfl ?_
  refine kw_aload_n C dL_law_536 rfl 0 rfl ?_
  refine kw_iload C dL_law_537 4 rfl ?_
  refine kw_iconst C (1 : Int32) dL_law_539 rfl ?_
  refine kw_iadd C dL_law_540 ?_
  refine kl_sld C hX h1 dL_law_541 ?_
  refine kl_callBI C [.int (xs (Int32.toNatClampNeg (x4 + (1 : Int32))))] (kX9_nod L D gB t0 (xs (Int32.toNatClampNeg (x4 + (1 : Int32)))) σB _ _ eB) mV_L_58 ⟨rfl, rfl⟩ dd_X9_nod ⟨Nat.le_of_ble_eq_true rfl, Nat.le_of_ble_eq_true rfl⟩ rfl (Nat.le_of_ble_eq_true rfl) dL_law_542 ?_
  refine kw_aload_n C dL_law_545 rfl 2 rfl ?_
  refine kw_aload_n C dL_law_546 rfl 0 rfl ?_
  refine kw_iload C dL_law_547 4 rfl ?_
  refine kw_iconst C (1 : Int32) dL_law_549 rfl ?_
  refine kw_iadd C dL_law_550 ?_
  refine kl_sld C hX h1 dL_law_551 ?_
  refine kl_callMI C [.int (xs (Int32.toNatClampNeg (x4 + (1 : Int32))))] (kX10_nod L D (aM, bM, gB.2.2) t0 (xs (Int32.toNatClampNeg (x4 + (1 : Int32)))) σM _ _ eM) mV_L_61 ⟨rfl, rfl⟩ dd_X10_nod ⟨Nat.le_of_ble_eq_true rfl, Nat.le_of_ble_eq_true rfl⟩ rfl (Nat.le_of_ble_eq_true rfl) dL_law_552 ?_
  refine kw_icmp_eq C 1609 dL_law_555 rfl (fun _ => ?_) (fun c9 => absurd hr c9)
  exact hk _ _ hrel
set_option maxRecDepth 100000 in
theorem ml_L_62 : Cond.methodLink RL 62 yX9_marry ∈ GT := GT4 25 rfl rfl
theorem mV_L_62 : ∀ w ∈ wsV RL 62 RX9 yX9_marry (wsG yX9_marry cX9_marry 3 (some .boolean)), w ∈ GT := GT_all (GT_c ml_L_62 (GT_c mint_X9_marry (GT_c msel_X9_marry (GT_c mi_X9 GT_n)))) (GT_c mcode_X9_marry (fun _ h => h))
set_option maxRecDepth 100000 in
theorem ml_L_66 : Cond.methodLink RL 66 yX10_marry ∈ GT := GT7 163 rfl rfl
theorem mV_L_66 : ∀ w ∈ wsV RL 66 RX10 yX10_marry (wsG yX10_marry cX10_marry 3 (some .boolean)), w ∈ GT := GT_all (GT_c ml_L_66 (GT_c mint_X10_marry (GT_c msel_X10_marry (GT_c mi_X10 GT_n)))) (GT_c mcode_X10_marry (fun _ h => h))
set_option maxRecDepth 100000 in
set_option maxHeartbeats 4000000 in
theorem lc_8 {X : KX SL} {L : Launch} {D : va_G} {t0 : Nat} {gB : GwT} {aM : Nat → Nat} {bM : Nat → Nat → Nat} {qo b Ln : Nat} {xs : Nat → Int32} (REL : St → St → Prop) (C : KC X L D (ttG gB) (wL gB (aM, bM, gB.2.2) qo) room_1 t0 cL_law RL) (hN : X.2.2.2.2.2.2.2.2.2.2.2.2.2.2.1 = 7) (hX : SX X b Ln xs) {σB σM : St} {f : Nat → Int64} {x4 : Int32} (h1 : ixI (x4 + (1 : Int32)) Ln) (h2 : ixI (x4 + (2 : Int32)) Ln) (hs : SIM (fun q q' => q.1 = q'.1 ∧ REL q.2 q'.2) (fX9_marry σB (xs (Int32.toNatClampNeg (x4 + (1 : Int32)))) (xs (Int32.toNatClampNeg (x4 + (2 : Int32))))) (fX10_marry σM (xs (Int32.toNatClampNeg (x4 + (1 : Int32)))) (xs (Int32.toNatClampNeg (x4 + (2 : Int32)))))) (hk : ∀ σB1 σM1, REL σB1 σM1 → KW X (σB1, σM1, f) 1609 [(0, .ref b), (1, .ref (gB.1 0)), (2, .ref (aM 0)), (3, .ref qo), (4, .int x4)] []) : KW X (σB, σM, f) 560 [(0, .ref b), (1, .ref (gB.1 0)), (2, .ref (aM 0)), (3, .ref qo), (4, .int x4)] [] := by
  obtain ⟨⟨rB, σB1⟩, ⟨rM, σM1⟩, eB, eM, hr, hrel⟩ := hs
  refine kw_aload_n C dL_law_560 rfl 1 rfl ?_
  refine kw_aload_n C dL_law_561 rfl 0 rfl ?_
  refine kw_iload C dL_law_562 4 rfl ?_
  refine kw_iconst C (1 : Int32) dL_law_564 rfl ?_
  refine kw_iadd C dL_law_565 ?_
  refine kl_sld C hX h1 dL_law_566 ?_
  refine kw_aload_n C dL_law_567 rfl 0 rfl ?_
  refine kw_iload C dL_law_568 4 rfl ?_
  refine kw_iconst C (2 : Int32) dL_law_570 rfl ?_
  refine kw_iadd C dL_law_571 ?_
  refine kl_sld C hX h2 dL_law_572 ?_
  refine kl_callBI C [.int (xs (Int32.toNatClampNeg (x4 + (1 : Int32)))), .int (xs (Int32.toNatClampNeg (x4 + (2 : Int32))))] (kX9_marry L D gB t0 (xs (Int32.toNatClampNeg (x4 + (1 : Int32)))) (xs (Int32.toNatClampNeg (x4 + (2 : Int32)))) σB _ _ eB) mV_L_62 ⟨rfl, rfl⟩ dd_X9_marry ⟨Nat.le_of_ble_eq_true rfl, Nat.le_of_ble_eq_true rfl⟩ rfl (Nat.le_of_ble_eq_true rfl) dL_law_573 ?_
  refine kw_aload_n C dL_law_576 rfl 2 rfl ?_
  refine kw_aload_n C dL_law_577 rfl 0 rfl ?_
  refine kw_iload C dL_law_578 4 rfl ?_
  refine kw_iconst C (1 : Int32) dL_law_580 rfl ?_
  refine kw_iadd C dL_law_581 ?_
  refine kl_sld C hX h1 dL_law_582 ?_
  refine kw_aload_n C dL_law_583 rfl 0 rfl ?_
  refine kw_iload C dL_law_584 4 rfl ?_
  refine kw_iconst C (2 : Int32) dL_law_586 rfl ?_
  refine kw_iadd C dL_law_587 ?_
  refine kl_sld C hX h2 dL_law_588 ?_
  refine kl_callMI C [.int (xs (Int32.toNatClampNeg (x4 + (1 : Int32)))), .int (xs (Int32.toNatClampNeg (x4 + (2 : Int32))))] (kX10_marry L D (aM, bM, gB.2.2) t0 (xs (Int32.toNatClampNeg (x4 + (1 : Int32)))) (xs (Int32.toNatClampNeg (x4 + (2 : Int32)))) σM _ _ eM) mV_L_66 ⟨rfl, rfl⟩ dd_X10_marry ⟨Nat.le_of_ble_eq_true rfl, Nat.le_of_ble_eq_true rfl⟩ rfl (Nat.le_of_ble_eq_true rfl) dL_law_589 ?_
  refine kw_icmp_eq C 1609 dL_law_592 rfl (fun _ => ?_) (fun c9 => absurd hr c9)
  exact hk _ _ hrel
set_option maxRecDepth 100000 in
theorem ml_L_67 : Cond.methodLink RL 67 yX9_will ∈ GT := GT4 47 rfl rfl
theorem mV_L_67 : ∀ w ∈ wsV RL 67 RX9 yX9_will (wsG yX9_will cX9_will 3 (some .boolean)), w ∈ GT := GT_all (GT_c ml_L_67 (GT_c mint_X9_will (GT_c msel_X9_will (GT_c mi_X9 GT_n)))) (GT_c mcode_X9_will (fun _ h => h))
set_option maxRecDepth 100000 in
theorem ml_L_70 : Cond.methodLink RL 70 yX10_will ∈ GT := GT7 179 rfl rfl
theorem mV_L_70 : ∀ w ∈ wsV RL 70 RX10 yX10_will (wsG yX10_will cX10_will 3 (some .boolean)), w ∈ GT := GT_all (GT_c ml_L_70 (GT_c mint_X10_will (GT_c msel_X10_will (GT_c mi_X10 GT_n)))) (GT_c mcode_X10_will (fun _ h => h))
set_option maxRecDepth 100000 in
set_option maxHeartbeats 4000000 in
theorem lc_9 {X : KX SL} {L : Launch} {D : va_G} {t0 : Nat} {gB : GwT} {aM : Nat → Nat} {bM : Nat → Nat → Nat} {qo b Ln : Nat} {xs : Nat → Int32} (REL : St → St → Prop) (C : KC X L D (ttG gB) (wL gB (aM, bM, gB.2.2) qo) room_1 t0 cL_law RL) (hN : X.2.2.2.2.2.2.2.2.2.2.2.2.2.2.1 = 7) (hX : SX X b Ln xs) {σB σM : St} {f : Nat → Int64} {x4 : Int32} (h1 : ixI (x4 + (1 : Int32)) Ln) (h2 : ixI (x4 + (2 : Int32)) Ln) (hs : SIM (fun q q' => q.1 = q'.1 ∧ REL q.2 q'.2) (fX9_will σB (xs (Int32.toNatClampNeg (x4 + (1 : Int32)))) (xs (Int32.toNatClampNeg (x4 + (2 : Int32))))) (fX10_will σM (xs (Int32.toNatClampNeg (x4 + (1 : Int32)))) (xs (Int32.toNatClampNeg (x4 + (2 : Int32)))))) (hk : ∀ σB1 σM1, REL σB1 σM1 → KW X (σB1, σM1, f) 1609 [(0, .ref b), (1, .ref (gB.1 0)), (2, .ref (aM 0)), (3, .ref qo), (4, .int x4)] []) : KW X (σB, σM, f) 597 [(0, .ref b), (1, .ref (gB.1 0)), (2, .ref (aM 0)), (3, .ref qo), (4, .int x4)] [] := by
  obtain ⟨⟨rB, σB1⟩, ⟨rM, σM1⟩, eB, eM, hr, hrel⟩ := hs
  refine kw_aload_n C dL_law_597 rfl 1 rfl ?_
  refine kw_aload_n C dL_law_598 rfl 0 rfl ?_
  refine kw_iload C dL_law_599 4 rfl ?_
  refine kw_iconst C (1 : Int32) dL_law_601 rfl ?_
  refine kw_iadd C dL_law_602 ?_
  refine kl_sld C hX h1 dL_law_603 ?_
  refine kw_aload_n C dL_law_604 rfl 0 rfl ?_
  refine kw_iload C dL_law_605 4 rfl ?_
  refine kw_iconst C (2 : Int32) dL_law_607 rfl ?_
  refine kw_iadd C dL_law_608 ?_
  refine kl_sld C hX h2 dL_law_609 ?_
  refine kl_callBI C [.int (xs (Int32.toNatClampNeg (x4 + (1 : Int32)))), .int (xs (Int32.toNatClampNeg (x4 + (2 : Int32))))] (kX9_will L D gB t0 (xs (Int32.toNatClampNeg (x4 + (1 : Int32)))) (xs (Int32.toNatClampNeg (x4 + (2 : Int32)))) σB _ _ eB) mV_L_67 ⟨rfl, rfl⟩ dd_X9_will ⟨Nat.le_of_ble_eq_true rfl, Nat.le_of_ble_eq_true rfl⟩ rfl (Nat.le_of_ble_eq_true rfl) dL_law_610 ?_
  refine kw_aload_n C dL_law_613 rfl 2 rfl ?_
  refine kw_aload_n C dL_law_614 rfl 0 rfl ?_
  refine kw_iload C dL_law_615 4 rfl ?_
  refine kw_iconst C (1 : Int32) dL_law_617 rfl ?_
  refine kw_iadd C dL_law_618 ?_
  refine kl_sld C hX h1 dL_law_619 ?_
  refine kw_aload_n C dL_law_620 rfl 0 rfl ?_
  refine kw_iload C dL_law_621 4 rfl ?_
  refine kw_iconst C (2 : Int32) dL_law_623 rfl ?_
  refine kw_iadd C dL_law_624 ?_
  refine kl_sld C hX h2 dL_law_625 ?_
  refine kl_callMI C [.int (xs (Int32.toNatClampNeg (x4 + (1 : Int32)))), .int (xs (Int32.toNatClampNeg (x4 + (2 : Int32))))] (kX10_will L D (aM, bM, gB.2.2) t0 (xs (Int32.toNatClampNeg (x4 + (1 : Int32)))) (xs (Int32.toNatClampNeg (x4 + (2 : Int32)))) σM _ _ eM) mV_L_70 ⟨rfl, rfl⟩ dd_X10_will ⟨Nat.le_of_ble_eq_true rfl, Nat.le_of_ble_eq_true rfl⟩ rfl (Nat.le_of_ble_eq_true rfl) dL_law_626 ?_
  refine kw_icmp_eq C 1609 dL_law_629 rfl (fun _ => ?_) (fun c9 => absurd hr c9)
  exact hk _ _ hrel
set_option maxRecDepth 100000 in
theorem ml_L_71 : Cond.methodLink RL 71 yX9_child ∈ GT := GT4 51 rfl rfl
theorem mV_L_71 : ∀ w ∈ wsV RL 71 RX9 yX9_child (wsG yX9_child cX9_child 2 (some .int)), w ∈ GT := GT_all (GT_c ml_L_71 (GT_c mint_X9_child (GT_c msel_X9_child (GT_c mi_X9 GT_n)))) (GT_c mcode_X9_child (fun _ h => h))
set_option maxRecDepth 100000 in
theorem ml_L_74 : Cond.methodLink RL 74 yX10_child ∈ GT := GT7 183 rfl rfl
theorem mV_L_74 : ∀ w ∈ wsV RL 74 RX10 yX10_child (wsG yX10_child cX10_child 2 (some .int)), w ∈ GT := GT_all (GT_c ml_L_74 (GT_c mint_X10_child (GT_c msel_X10_child (GT_c mi_X10 GT_n)))) (GT_c mcode_X10_child (fun _ h => h))
set_option maxRecDepth 100000 in
set_option maxHeartbeats 4000000 in
theorem lc_10 {X : KX SL} {L : Launch} {D : va_G} {t0 : Nat} {gB : GwT} {aM : Nat → Nat} {bM : Nat → Nat → Nat} {qo b Ln : Nat} {xs : Nat → Int32} (REL : St → St → Prop) (C : KC X L D (ttG gB) (wL gB (aM, bM, gB.2.2) qo) room_1 t0 cL_law RL) (hN : X.2.2.2.2.2.2.2.2.2.2.2.2.2.2.1 = 7) (hX : SX X b Ln xs) {σB σM : St} {f : Nat → Int64} {x4 : Int32} (h1 : ixI (x4 + (1 : Int32)) Ln) (hs : SIM (fun q q' => q.1 = q'.1 ∧ REL q.2 q'.2) (fX9_child σB (xs (Int32.toNatClampNeg (x4 + (1 : Int32))))) (fX10_child σM (xs (Int32.toNatClampNeg (x4 + (1 : Int32)))))) (hk : ∀ σB1 σM1, REL σB1 σM1 → KW X (σB1, σM1, f) 1609 [(0, .ref b), (1, .ref (gB.1 0)), (2, .ref (aM 0)), (3, .ref qo), (4, .int x4)] []) : KW X (σB, σM, f) 634 [(0, .ref b), (1, .ref (gB.1 0)), (2, .ref (aM 0)), (3, .ref qo), (4, .int x4)] [] := by
  obtain ⟨⟨rB, σB1⟩, ⟨rM, σM1⟩, eB, eM, hr, hrel⟩ := hs
  refine kw_aload_n C dL_law_634 rfl 1 rfl ?_
  refine kw_aload_n C dL_law_635 rfl 0 rfl ?_
  refine kw_iload C dL_law_636 4 rfl ?_
  refine kw_iconst C (1 : Int32) dL_law_638 rfl ?_
  refine kw_iadd C dL_law_639 ?_
  refine kl_sld C hX h1 dL_law_640 ?_
  refine kl_callBI C [.int (xs (Int32.toNatClampNeg (x4 + (1 : Int32))))] (kX9_child L D gB t0 (xs (Int32.toNatClampNeg (x4 + (1 : Int32)))) σB _ _ eB) mV_L_71 ⟨rfl, rfl⟩ dd_X9_child ⟨Nat.le_of_ble_eq_true rfl, Nat.le_of_ble_eq_true rfl⟩ rfl (Nat.le_of_ble_eq_true rfl) dL_law_641 ?_
  refine kw_aload_n C dL_law_644 rfl 2 rfl ?_
  refine kw_aload_n C dL_law_645 rfl 0 rfl ?_
  refine kw_iload C dL_law_646 4 rfl ?_
  refine kw_iconst C (1 : Int32) dL_law_648 rfl ?_
  refine kw_iadd C dL_law_649 ?_
  refine kl_sld C hX h1 dL_law_650 ?_
  refine kl_callMI C [.int (xs (Int32.toNatClampNeg (x4 + (1 : Int32))))] (kX10_child L D (aM, bM, gB.2.2) t0 (xs (Int32.toNatClampNeg (x4 + (1 : Int32)))) σM _ _ eM) mV_L_74 ⟨rfl, rfl⟩ dd_X10_child ⟨Nat.le_of_ble_eq_true rfl, Nat.le_of_ble_eq_true rfl⟩ rfl (Nat.le_of_ble_eq_true rfl) dL_law_651 ?_
  refine kw_icmp_eq C 1609 dL_law_654 rfl (fun _ => ?_) (fun c9 => absurd hr c9)
  exact hk _ _ hrel
set_option maxRecDepth 100000 in
theorem ml_L_75 : Cond.methodLink RL 75 yX9_go ∈ GT := GT4 55 rfl rfl
theorem mV_L_75 : ∀ w ∈ wsV RL 75 RX9 yX9_go (wsG yX9_go cX9_go 3 (some .int)), w ∈ GT := GT_all (GT_c ml_L_75 (GT_c mint_X9_go (GT_c msel_X9_go (GT_c mi_X9 GT_n)))) (GT_c mcode_X9_go (fun _ h => h))
set_option maxRecDepth 100000 in
theorem ml_L_78 : Cond.methodLink RL 78 yX10_go ∈ GT := GT7 187 rfl rfl
theorem mV_L_78 : ∀ w ∈ wsV RL 78 RX10 yX10_go (wsG yX10_go cX10_go 3 (some .int)), w ∈ GT := GT_all (GT_c ml_L_78 (GT_c mint_X10_go (GT_c msel_X10_go (GT_c mi_X10 GT_n)))) (GT_c mcode_X10_go (fun _ h => h))
set_option maxRecDepth 100000 in
set_option maxHeartbeats 4000000 in
theorem lc_11 {X : KX SL} {L : Launch} {D : va_G} {t0 : Nat} {gB : GwT} {aM : Nat → Nat} {bM : Nat → Nat → Nat} {qo b Ln : Nat} {xs : Nat → Int32} (REL : St → St → Prop) (C : KC X L D (ttG gB) (wL gB (aM, bM, gB.2.2) qo) room_1 t0 cL_law RL) (hN : X.2.2.2.2.2.2.2.2.2.2.2.2.2.2.1 = 7) (hX : SX X b Ln xs) {σB σM : St} {f : Nat → Int64} {x4 : Int32} (h1 : ixI (x4 + (1 : Int32)) Ln) (hs : SIM (fun q q' => q.1 = q'.1 ∧ REL q.2 q'.2) (fX9_go σB (xs (Int32.toNatClampNeg (x4 + (1 : Int32))))) (fX10_go σM (xs (Int32.toNatClampNeg (x4 + (1 : Int32)))))) (hk : ∀ σB1 σM1, REL σB1 σM1 → KW X (σB1, σM1, f) 1609 [(0, .ref b), (1, .ref (gB.1 0)), (2, .ref (aM 0)), (3, .ref qo), (4, .int x4)] []) : KW X (σB, σM, f) 659 [(0, .ref b), (1, .ref (gB.1 0)), (2, .ref (aM 0)), (3, .ref qo), (4, .int x4)] [] := by
  obtain ⟨⟨rB, σB1⟩, ⟨rM, σM1⟩, eB, eM, hr, hrel⟩ := hs
  refine kw_aload_n C dL_law_659 rfl 1 rfl ?_
  refine kw_aload_n C dL_law_660 rfl 0 rfl ?_
  refine kw_iload C dL_law_661 4 rfl ?_
  refine kw_iconst C (1 : Int32) dL_law_663 rfl ?_
  refine kw_iadd C dL_law_664 ?_
  refine kl_sld C hX h1 dL_law_665 ?_
  refine kl_callBI C [.int (xs (Int32.toNatClampNeg (x4 + (1 : Int32))))] (kX9_go L D gB t0 (xs (Int32.toNatClampNeg (x4 + (1 : Int32)))) σB _ _ eB) mV_L_75 ⟨rfl, rfl⟩ dd_X9_go ⟨Nat.le_of_ble_eq_true rfl, Nat.le_of_ble_eq_true rfl⟩ rfl (Nat.le_of_ble_eq_true rfl) dL_law_666 ?_
  refine kw_aload_n C dL_law_669 rfl 2 rfl ?_
  refine kw_aload_n C dL_law_670 rfl 0 rfl ?_
  refine kw_iload C dL_law_671 4 rfl ?_
  refine kw_iconst C (1 : Int32) dL_law_673 rfl ?_
  refine kw_iadd C dL_law_674 ?_
  refine kl_sld C hX h1 dL_law_675 ?_
  refine kl_callMI C [.int (xs (Int32.toNatClampNeg (x4 + (1 : Int32))))] (kX10_go L D (aM, bM, gB.2.2) t0 (xs (Int32.toNatClampNeg (x4 + (1 : Int32)))) σM _ _ eM) mV_L_78 ⟨rfl, rfl⟩ dd_X10_go ⟨Nat.le_of_ble_eq_true rfl, Nat.le_of_ble_eq_true rfl⟩ rfl (Nat.le_of_ble_eq_true rfl) dL_law_676 ?_
  refine kw_icmp_eq C 1609 dL_law_679 rfl (fun _ => ?_) (fun c9 => absurd hr c9)
  exact hk _ _ hrel
set_option maxRecDepth 100000 in
theorem ml_L_79 : Cond.methodLink RL 79 yX9_ahead ∈ GT := GT4 138 rfl rfl
theorem mV_L_79 : ∀ w ∈ wsV RL 79 RX9 yX9_ahead (wsG yX9_ahead cX9_ahead 3 (some .int)), w ∈ GT := GT_all (GT_c ml_L_79 (GT_c mint_X9_ahead (GT_c msel_X9_ahead (GT_c mi_X9 GT_n)))) (GT_c mcode_X9_ahead (fun _ h => h))
set_option maxRecDepth 100000 in
theorem ml_L_82 : Cond.methodLink RL 82 yX10_ahead ∈ GT := GT7 238 rfl rfl
theorem mV_L_82 : ∀ w ∈ wsV RL 82 RX10 yX10_ahead (wsG yX10_ahead cX10_ahead 3 (some .int)), w ∈ GT := GT_all (GT_c ml_L_82 (GT_c mint_X10_ahead (GT_c msel_X10_ahead (GT_c mi_X10 GT_n)))) (GT_c mcode_X10_ahead (fun _ h => h))
set_option maxRecDepth 100000 in
set_option maxHeartbeats 4000000 in
theorem lc_12 {X : KX SL} {L : Launch} {D : va_G} {t0 : Nat} {gB : GwT} {aM : Nat → Nat} {bM : Nat → Nat → Nat} {qo b Ln : Nat} {xs : Nat → Int32} (REL : St → St → Prop) (C : KC X L D (ttG gB) (wL gB (aM, bM, gB.2.2) qo) room_1 t0 cL_law RL) (hN : X.2.2.2.2.2.2.2.2.2.2.2.2.2.2.1 = 7) (hX : SX X b Ln xs) {σB σM : St} {f : Nat → Int64} {x4 : Int32} (h1 : ixI (x4 + (1 : Int32)) Ln) (h2 : ixI (x4 + (2 : Int32)) Ln) (hs : SIM (fun q q' => q.1 = q'.1 ∧ REL q.2 q'.2) (fX9_ahead σB (xs (Int32.toNatClampNeg (x4 + (1 : Int32)))) (xs (Int32.toNatClampNeg (x4 + (2 : Int32))))) (fX10_ahead σM (xs (Int32.toNatClampNeg (x4 + (1 : Int32)))) (xs (Int32.toNatClampNeg (x4 + (2 : Int32)))))) (hk : ∀ σB1 σM1, REL σB1 σM1 → KW X (σB1, σM1, f) 1609 [(0, .ref b), (1, .ref (gB.1 0)), (2, .ref (aM 0)), (3, .ref qo), (4, .int x4)] []) : KW X (σB, σM, f) 684 [(0, .ref b), (1, .ref (gB.1 0)), (2, .ref (aM 0)), (3, .ref qo), (4, .int x4)] [] := by
  obtain ⟨⟨rB, σB1⟩, ⟨rM, σM1⟩, eB, eM, hr, hrel⟩ := hs
  refine kw_aload_n C dL_law_684 rfl 1 rfl ?_
  refine kw_aload_n C dL_law_685 rfl 0 rfl ?_
  refine kw_iload C dL_law_686 4 rfl ?_
  refine kw_iconst C (1 : Int32) dL_law_688 rfl ?_
  refine kw_iadd C dL_law_689 ?_
  refine kl_sld C hX h1 dL_law_690 ?_
  refine kw_aload_n C dL_law_691 rfl 0 rfl ?_
  refine kw_iload C dL_law_692 4 rfl ?_
  refine kw_iconst C (2 : Int32) dL_law_694 rfl ?_
  refine kw_iadd C dL_law_695 ?_
  refine kl_sld C hX h2 dL_law_696 ?_
  refine kl_callBI C [.int (xs (Int32.toNatClampNeg (x4 + (1 : Int32)))), .int (xs (Int32.toNatClampNeg (x4 + (2 : Int32))))] (kX9_ahead L D gB t0 (xs (Int32.toNatClampNeg (x4 + (1 : Int32)))) (xs (Int32.toNatClampNeg (x4 + (2 : Int32)))) σB _ _ eB) mV_L_79 ⟨rfl, rfl⟩ dd_X9_ahead ⟨Nat.le_of_ble_eq_true rfl, Nat.le_of_ble_eq_true rfl⟩ rfl (Nat.le_of_ble_eq_true rfl) dL_law_697 ?_
  refine kw_aload_n C dL_law_700 rfl 2 rfl ?_
  refine kw_aload_n C dL_law_701 rfl 0 rfl ?_
  refine kw_iload C dL_law_702 4 rfl ?_
  refine kw_iconst C (1 : Int32) dL_law_704 rfl ?_
  refine kw_iadd C dL_law_705 ?_
  refine kl_sld C hX h1 dL_law_706 ?_
  refine kw_aload_n C dL_law_707 rfl 0 rfl ?_
  refine kw_iload C dL_law_708 4 rfl ?_
  refine kw_iconst C (2 : Int32) dL_law_710 rfl ?_
  refine kw_iadd C dL_law_711 ?_
  refine kl_sld C hX h2 dL_law_712 ?_
  refine kl_callMI C [.int (xs (Int32.toNatClampNeg (x4 + (1 : Int32)))), .int (xs (Int32.toNatClampNeg (x4 + (2 : Int32))))] (kX10_ahead L D (aM, bM, gB.2.2) t0 (xs (Int32.toNatClampNeg (x4 + (1 : Int32)))) (xs (Int32.toNatClampNeg (x4 + (2 : Int32)))) σM _ _ eM) mV_L_82 ⟨rfl, rfl⟩ dd_X10_ahead ⟨Nat.le_of_ble_eq_true rfl, Nat.le_of_ble_eq_true rfl⟩ rfl (Nat.le_of_ble_eq_true rfl) dL_law_713 ?_
  refine kw_icmp_eq C 1609 dL_law_716 rfl (fun _ => ?_) (fun c9 => absurd hr c9)
  exact hk _ _ hrel
set_option maxRecDepth 100000 in
theorem ml_L_83 : Cond.methodLink RL 83 yX9_falls ∈ GT := GT4 151 rfl rfl
theorem mV_L_83 : ∀ w ∈ wsV RL 83 RX9 yX9_falls (wsG yX9_falls cX9_falls 3 (some .int)), w ∈ GT := GT_all (GT_c ml_L_83 (GT_c mint_X9_falls (GT_c msel_X9_falls (GT_c mi_X9 GT_n)))) (GT_c mcode_X9_falls (fun _ h => h))
set_option maxRecDepth 100000 in
theorem ml_L_86 : Cond.methodLink RL 86 yX10_falls ∈ GT := GT8 14 rfl rfl
theorem mV_L_86 : ∀ w ∈ wsV RL 86 RX10 yX10_falls (wsG yX10_falls cX10_falls 3 (some .int)), w ∈ GT := GT_all (GT_c ml_L_86 (GT_c mint_X10_falls (GT_c msel_X10_falls (GT_c mi_X10 GT_n)))) (GT_c mcode_X10_falls (fun _ h => h))
set_option maxRecDepth 100000 in
set_option maxHeartbeats 4000000 in
theorem lc_13 {X : KX SL} {L : Launch} {D : va_G} {t0 : Nat} {gB : GwT} {aM : Nat → Nat} {bM : Nat → Nat → Nat} {qo b Ln : Nat} {xs : Nat → Int32} (REL : St → St → Prop) (C : KC X L D (ttG gB) (wL gB (aM, bM, gB.2.2) qo) room_1 t0 cL_law RL) (hN : X.2.2.2.2.2.2.2.2.2.2.2.2.2.2.1 = 7) (hX : SX X b Ln xs) {σB σM : St} {f : Nat → Int64} {x4 : Int32} (h1 : ixI (x4 + (1 : Int32)) Ln) (hs : SIM (fun q q' => q.1 = q'.1 ∧ REL q.2 q'.2) (fX9_falls σB (xs (Int32.toNatClampNeg (x4 + (1 : Int32))))) (fX10_falls σM (xs (Int32.toNatClampNeg (x4 + (1 : Int32)))))) (hk : ∀ σB1 σM1, REL σB1 σM1 → KW X (σB1, σM1, f) 1609 [(0, .ref b), (1, .ref (gB.1 0)), (2, .ref (aM 0)), (3, .ref qo), (4, .int x4)] []) : KW X (σB, σM, f) 721 [(0, .ref b), (1, .ref (gB.1 0)), (2, .ref (aM 0)), (3, .ref qo), (4, .int x4)] [] := by
  obtain ⟨⟨rB, σB1⟩, ⟨rM, σM1⟩, eB, eM, hr, hrel⟩ := hs
  refine kw_aload_n C dL_law_721 rfl 1 rfl ?_
  refine kw_aload_n C dL_law_722 rfl 0 rfl ?_
  refine kw_iload C dL_law_723 4 rfl ?_
  refine kw_iconst C (1 : Int32) dL_law_725 rfl ?_
  refine kw_iadd C dL_law_726 ?_
  refine kl_sld C hX h1 dL_law_727 ?_
  refine kl_callBI C [.int (xs (Int32.toNatClampNeg (x4 + (1 : Int32))))] (kX9_falls L D gB t0 (xs (Int32.toNatClampNeg (x4 + (1 : Int32)))) σB _ _ eB) mV_L_83 ⟨rfl, rfl⟩ dd_X9_falls ⟨Nat.le_of_ble_eq_true rfl, Nat.le_of_ble_eq_true rfl⟩ rfl (Nat.le_of_ble_eq_true rfl) dL_law_728 ?_
  refine kw_aload_n C dL_law_731 rfl 2 rfl ?_
  refine kw_aload_n C dL_law_732 rfl 0 rfl ?_
  refine kw_iload C dL_law_733 4 rfl ?_
  refine kw_iconst C (1 : Int32) dL_law_735 rfl ?_
  refine kw_iadd C dL_law_736 ?_
  refine kl_sld C hX h1 dL_law_737 ?_
  refine kl_callMI C [.int (xs (Int32.toNatClampNeg (x4 + (1 : Int32))))] (kX10_falls L D (aM, bM, gB.2.2) t0 (xs (Int32.toNatClampNeg (x4 + (1 : Int32)))) σM _ _ eM) mV_L_86 ⟨rfl, rfl⟩ dd_X10_falls ⟨Nat.le_of_ble_eq_true rfl, Nat.le_of_ble_eq_true rfl⟩ rfl (Nat.le_of_ble_eq_true rfl) dL_law_738 ?_
  refine kw_icmp_eq C 1609 dL_law_741 rfl (fun _ => ?_) (fun c9 => absurd hr c9)
  exact hk _ _ hrel
set_option maxRecDepth 100000 in
theorem ml_L_87 : Cond.methodLink RL 87 yX9_letGo ∈ GT := GT4 195 rfl rfl
theorem mV_L_87 : ∀ w ∈ wsV RL 87 RX9 yX9_letGo (wsG yX9_letGo cX9_letGo 3 (some .int)), w ∈ GT := GT_all (GT_c ml_L_87 (GT_c mint_X9_letGo (GT_c msel_X9_letGo (GT_c mi_X9 GT_n)))) (GT_c mcode_X9_letGo (fun _ h => h))
set_option maxRecDepth 100000 in
theorem ml_L_90 : Cond.methodLink RL 90 yX10_letGo ∈ GT := GT8 22 rfl rfl
theorem mV_L_90 : ∀ w ∈ wsV RL 90 RX10 yX10_letGo (wsG yX10_letGo cX10_letGo 3 (some .int)), w ∈ GT := GT_all (GT_c ml_L_90 (GT_c mint_X10_letGo (GT_c msel_X10_letGo (GT_c mi_X10 GT_n)))) (GT_c mcode_X10_letGo (fun _ h => h))
set_option maxRecDepth 100000 in
set_option maxHeartbeats 4000000 in
theorem lc_14 {X : KX SL} {L : Launch} {D : va_G} {t0 : Nat} {gB : GwT} {aM : Nat → Nat} {bM : Nat → Nat → Nat} {qo b Ln : Nat} {xs : Nat → Int32} (REL : St → St → Prop) (C : KC X L D (ttG gB) (wL gB (aM, bM, gB.2.2) qo) room_1 t0 cL_law RL) (hN : X.2.2.2.2.2.2.2.2.2.2.2.2.2.2.1 = 7) (hX : SX X b Ln xs) {σB σM : St} {f : Nat → Int64} {x4 : Int32} (h1 : ixI (x4 + (1 : Int32)) Ln) (hs : SIM (fun q q' => q.1 = q'.1 ∧ REL q.2 q'.2) (fX9_letGo σB (xs (Int32.toNatClampNeg (x4 + (1 : Int32))))) (fX10_letGo σM (xs (Int32.toNatClampNeg (x4 + (1 : Int32)))))) (hk : ∀ σB1 σM1, REL σB1 σM1 → KW X (σB1, σM1, f) 1609 [(0, .ref b), (1, .ref (gB.1 0)), (2, .ref (aM 0)), (3, .ref qo), (4, .int x4)] []) : KW X (σB, σM, f) 746 [(0, .ref b), (1, .ref (gB.1 0)), (2, .ref (aM 0)), (3, .ref qo), (4, .int x4)] [] := by
  obtain ⟨⟨rB, σB1⟩, ⟨rM, σM1⟩, eB, eM, hr, hrel⟩ := hs
  refine kw_aload_n C dL_law_746 rfl 1 rfl ?_
  refine kw_aload_n C dL_law_747 rfl 0 rfl ?_
  refine kw_iload C dL_law_748 4 rfl ?_
  refine kw_iconst C (1 : Int32) dL_law_750 rfl ?_
  refine kw_iadd C dL_law_751 ?_
  refine kl_sld C hX h1 dL_law_752 ?_
  refine kl_callBI C [.int (xs (Int32.toNatClampNeg (x4 + (1 : Int32))))] (kX9_letGo L D gB t0 (xs (Int32.toNatClampNeg (x4 + (1 : Int32)))) σB _ _ eB) mV_L_87 ⟨rfl, rfl⟩ dd_X9_letGo ⟨Nat.le_of_ble_eq_true rfl, Nat.le_of_ble_eq_true rfl⟩ rfl (Nat.le_of_ble_eq_true rfl) dL_law_753 ?_
  refine kw_aload_n C dL_law_756 rfl 2 rfl ?_
  refine kw_aload_n C dL_law_757 rfl 0 rfl ?_
  refine kw_iload C dL_law_758 4 rfl ?_
  refine kw_iconst C (1 : Int32) dL_law_760 rfl ?_
  refine kw_iadd C dL_law_761 ?_
  refine kl_sld C hX h1 dL_law_762 ?_
  refine kl_callMI C [.int (xs (Int32.toNatClampNeg (x4 + (1 : Int32))))] (kX10_letGo L D (aM, bM, gB.2.2) t0 (xs (Int32.toNatClampNeg (x4 + (1 : Int32)))) σM _ _ eM) mV_L_90 ⟨rfl, rfl⟩ dd_X10_letGo ⟨Nat.le_of_ble_eq_true rfl, Nat.le_of_ble_eq_true rfl⟩ rfl (Nat.le_of_ble_eq_true rfl) dL_law_763 ?_
  refine kw_icmp_eq C 1609 dL_law_766 rfl (fun _ => ?_) (fun c9 => absurd hr c9)
  exact hk _ _ hrel
set_option maxRecDepth 100000 in
theorem ml_L_91 : Cond.methodLink RL 91 yX9_outbid ∈ GT := GT4 218 rfl rfl
theorem mV_L_91 : ∀ w ∈ wsV RL 91 RX9 yX9_outbid (wsG yX9_outbid cX9_outbid 3 (some .int)), w ∈ GT := GT_all (GT_c ml_L_91 (GT_c mint_X9_outbid (GT_c msel_X9_outbid (GT_c mi_X9 GT_n)))) (GT_c mcode_X9_outbid (fun _ h => h))
set_option maxRecDepth 100000 in
theorem ml_L_94 : Cond.methodLink RL 94 yX10_outbid ∈ GT := GT8 26 rfl rfl
theorem mV_L_94 : ∀ w ∈ wsV RL 94 RX10 yX10_outbid (wsG yX10_outbid cX10_outbid 7 (some .int)), w ∈ GT := GT_all (GT_c ml_L_94 (GT_c mint_X10_outbid (GT_c msel_X10_outbid (GT_c mi_X10 GT_n)))) (GT_c mcode_X10_outbid (fun _ h => h))
set_option maxRecDepth 100000 in
set_option maxHeartbeats 4000000 in
theorem lc_15 {X : KX SL} {L : Launch} {D : va_G} {t0 : Nat} {gB : GwT} {aM : Nat → Nat} {bM : Nat → Nat → Nat} {qo b Ln : Nat} {xs : Nat → Int32} (REL : St → St → Prop) (C : KC X L D (ttG gB) (wL gB (aM, bM, gB.2.2) qo) room_1 t0 cL_law RL) (hN : X.2.2.2.2.2.2.2.2.2.2.2.2.2.2.1 = 7) (hX : SX X b Ln xs) {σB σM : St} {f : Nat → Int64} {x4 : Int32}  (hs : SIM (fun q q' => q = q'.1 ∧ REL σB q'.2) (fX9_outbid σB) (fX10_outbid σM)) (hk : ∀ σB1 σM1, REL σB1 σM1 → KW X (σB1, σM1, f) 1609 [(0, .ref b), (1, .ref (gB.1 0)), (2, .ref (aM 0)), (3, .ref qo), (4, .int x4)] []) : KW X (σB, σM, f) 771 [(0, .ref b), (1, .ref (gB.1 0)), (2, .ref (aM 0)), (3, .ref qo), (4, .int x4)] [] := by
  obtain ⟨rB, ⟨rM, σM1⟩, eB, eM, hr, hrel⟩ := hs
  refine kw_aload_n C dL_law_771 rfl 1 rfl ?_
  refine kl_callBI C [] (kX9_outbid L D gB t0  σB _ eB) mV_L_91 ⟨rfl, rfl⟩ dd_X9_outbid ⟨Nat.le_of_ble_eq_true rfl, Nat.le_of_ble_eq_true rfl⟩ rfl (Nat.le_of_ble_eq_true rfl) dL_law_772 ?_
  refine kw_aload_n C dL_law_775 rfl 2 rfl ?_
  refine kl_callMI C [] (kX10_outbid L D (aM, bM, gB.2.2) t0  σM _ _ eM) mV_L_94 ⟨rfl, rfl⟩ dd_X10_outbid ⟨Nat.le_of_ble_eq_true rfl, Nat.le_of_ble_eq_true rfl⟩ rfl (Nat.le_of_ble_eq_true rfl) dL_law_776 ?_
  refine kw_icmp_eq C 1609 dL_law_779 rfl (fun _ => ?_) (fun c9 => absurd hr c9)
  exact hk _ _ hrel
set_option maxRecDepth 100000 in
theorem ml_L_95 : Cond.methodLink RL 95 yX9_against ∈ GT := GT5 17 rfl rfl
theorem mV_L_95 : ∀ w ∈ wsV RL 95 RX9 yX9_against (wsG yX9_against cX9_against 10 (some .int)), w ∈ GT := GT_all (GT_c ml_L_95 (GT_c mint_X9_against (GT_c msel_X9_against (GT_c mi_X9 GT_n)))) (GT_c mcode_X9_against (fun _ h => h))
set_option maxRecDepth 100000 in
theorem ml_L_99 : Cond.methodLink RL 99 yX10_against ∈ GT := GT8 45 rfl rfl
theorem mV_L_99 : ∀ w ∈ wsV RL 99 RX10 yX10_against (wsG yX10_against cX10_against 8 (some .int)), w ∈ GT := GT_all (GT_c ml_L_99 (GT_c mint_X10_against (GT_c msel_X10_against (GT_c mi_X10 GT_n)))) (GT_c mcode_X10_against (fun _ h => h))
set_option maxRecDepth 100000 in
set_option maxHeartbeats 4000000 in
theorem lc_16 {X : KX SL} {L : Launch} {D : va_G} {t0 : Nat} {gB : GwT} {aM : Nat → Nat} {bM : Nat → Nat → Nat} {qo b Ln : Nat} {xs : Nat → Int32} (REL : St → St → Prop) (C : KC X L D (ttG gB) (wL gB (aM, bM, gB.2.2) qo) room_1 t0 cL_law RL) (hN : X.2.2.2.2.2.2.2.2.2.2.2.2.2.2.1 = 7) (hX : SX X b Ln xs) {σB σM : St} {f : Nat → Int64} {x4 : Int32} (h1 : ixI (x4 + (1 : Int32)) Ln) (h2 : ixI (x4 + (2 : Int32)) Ln) (h3 : ixI (x4 + (3 : Int32)) Ln) (hs : SIM (fun q q' => q = q'.1 ∧ REL σB q'.2) (fX9_against σB (xs (Int32.toNatClampNeg (x4 + (1 : Int32)))) (xs (Int32.toNatClampNeg (x4 + (2 : Int32)))) (xs (Int32.toNatClampNeg (x4 + (3 : Int32))))) (fX10_against σM (xs (Int32.toNatClampNeg (x4 + (1 : Int32)))) (xs (Int32.toNatClampNeg (x4 + (2 : Int32)))) (xs (Int32.toNatClampNeg (x4 + (3 : Int32)))))) (hk : ∀ σB1 σM1, REL σB1 σM1 → KW X (σB1, σM1, f) 1609 [(0, .ref b), (1, .ref (gB.1 0)), (2, .ref (aM 0)), (3, .ref qo), (4, .int x4)] []) : KW X (σB, σM, f) 784 [(0, .ref b), (1, .ref (gB.1 0)), (2, .ref (aM 0)), (3, .ref qo), (4, .int x4)] [] := by
  obtain ⟨rB, ⟨rM, σM1⟩, eB, eM, hr, hrel⟩ := hs
  refine kw_aload_n C dL_law_784 rfl 1 rfl ?_
  refine kw_aload_n C dL_law_785 rfl 0 rfl ?_
  refine kw_iload C dL_law_786 4 rfl ?_
  refine kw_iconst C (1 : Int32) dL_law_788 rfl ?_
  refine kw_iadd C dL_law_789 ?_
  refine kl_sld C hX h1 dL_law_790 ?_
  refine kw_aload_n C dL_law_791 rfl 0 rfl ?_
  refine kw_iload C dL_law_792 4 rfl ?_
  refine kw_iconst C (2 : Int32) dL_law_794 rfl ?_
  refine kw_iadd C dL_law_795 ?_
  refine kl_sld C hX h2 dL_law_796 ?_
  refine kw_aload_n C dL_law_797 rfl 0 rfl ?_
  refine kw_iload C dL_law_798 4 rfl ?_
  refine kw_iconst C (3 : Int32) dL_law_800 rfl ?_
  refine kw_iadd C dL_law_801 ?_
  refine kl_sld C hX h3 dL_law_802 ?_
  refine kl_callBI C [.int (xs (Int32.toNatClampNeg (x4 + (1 : Int32)))), .int (xs (Int32.toNatClampNeg (x4 + (2 : Int32)))), .int (xs (Int32.toNatClampNeg (x4 + (3 : Int32))))] (kX9_against L D gB t0 (xs (Int32.toNatClampNeg (x4 + (1 : Int32)))) (xs (Int32.toNatClampNeg (x4 + (2 : Int32)))) (xs (Int32.toNatClampNeg (x4 + (3 : Int32)))) σB _ eB) mV_L_95 ⟨rfl, rfl⟩ dd_X9_against ⟨Nat.le_of_ble_eq_true rfl, Nat.le_of_ble_eq_true rfl⟩ rfl (Nat.le_of_ble_eq_true rfl) dL_law_803 ?_
  refine kw_aload_n C dL_law_806 rfl 2 rfl ?_
  refine kw_aload_n C dL_law_807 rfl 0 rfl ?_
  refine kw_iload C dL_law_808 4 rfl ?_
  refine kw_iconst C (1 : Int32) dL_law_810 rfl ?_
  refine kw_iadd C dL_law_811 ?_
  refine kl_sld C hX h1 dL_law_812 ?_
  refine kw_aload_n C dL_law_813 rfl 0 rfl ?_
  refine kw_iload C dL_law_814 4 rfl ?_
  refine kw_iconst C (2 : Int32) dL_law_816 rfl ?_
  refine kw_iadd C dL_law_817 ?_
  refine kl_sld C hX h2 dL_law_818 ?_
  refine kw_aload_n C dL_law_819 rfl 0 rfl ?_
  refine kw_iload C dL_law_820 4 rfl ?_
  refine kw_iconst C (3 : Int32) dL_law_822 rfl ?_
  refine kw_iadd C dL_law_823 ?_
  refine kl_sld C hX h3 dL_law_824 ?_
  refine kl_callMI C [.int (xs (Int32.toNatClampNeg (x4 + (1 : Int32)))), .int (xs (Int32.toNatClampNeg (x4 + (2 : Int32)))), .int (xs (Int32.toNatClampNeg (x4 + (3 : Int32))))] (kX10_against L D (aM, bM, gB.2.2) t0 (xs (Int32.toNatClampNeg (x4 + (1 : Int32)))) (xs (Int32.toNatClampNeg (x4 + (2 : Int32)))) (xs (Int32.toNatClampNeg (x4 + (3 : Int32)))) σM _ _ eM) mV_L_99 ⟨rfl, rfl⟩ dd_X10_against ⟨Nat.le_of_ble_eq_true rfl, Nat.le_of_ble_eq_true rfl⟩ rfl (Nat.le_of_ble_eq_true rfl) dL_law_825 ?_
  refine kw_icmp_eq C 1609 dL_law_828 rfl (fun _ => ?_) (fun c9 => absurd hr c9)
  exact hk _ _ hrel
set_option maxRecDepth 100000 in
theorem ml_L_100 : Cond.methodLink RL 100 yX9_still ∈ GT := GT5 21 rfl rfl
theorem mV_L_100 : ∀ w ∈ wsV RL 100 RX9 yX9_still (wsG yX9_still cX9_still 3 (some .int)), w ∈ GT := GT_all (GT_c ml_L_100 (GT_c mint_X9_still (GT_c msel_X9_still (GT_c mi_X9 GT_n)))) (GT_c mcode_X9_still (fun _ h => h))
set_option maxRecDepth 100000 in
theorem ml_L_103 : Cond.methodLink RL 103 yX10_still ∈ GT := GT8 69 rfl rfl
theorem mV_L_103 : ∀ w ∈ wsV RL 103 RX10 yX10_still (wsG yX10_still cX10_still 3 (some .int)), w ∈ GT := GT_all (GT_c ml_L_103 (GT_c mint_X10_still (GT_c msel_X10_still (GT_c mi_X10 GT_n)))) (GT_c mcode_X10_still (fun _ h => h))
set_option maxRecDepth 100000 in
set_option maxHeartbeats 4000000 in
theorem lc_17 {X : KX SL} {L : Launch} {D : va_G} {t0 : Nat} {gB : GwT} {aM : Nat → Nat} {bM : Nat → Nat → Nat} {qo b Ln : Nat} {xs : Nat → Int32} (REL : St → St → Prop) (C : KC X L D (ttG gB) (wL gB (aM, bM, gB.2.2) qo) room_1 t0 cL_law RL) (hN : X.2.2.2.2.2.2.2.2.2.2.2.2.2.2.1 = 7) (hX : SX X b Ln xs) {σB σM : St} {f : Nat → Int64} {x4 : Int32}  (hs : SIM (fun q q' => q = q'.1 ∧ REL σB q'.2) (fX9_still σB) (fX10_still σM)) (hk : ∀ σB1 σM1, REL σB1 σM1 → KW X (σB1, σM1, f) 1609 [(0, .ref b), (1, .ref (gB.1 0)), (2, .ref (aM 0)), (3, .ref qo), (4, .int x4)] []) : KW X (σB, σM, f) 833 [(0, .ref b), (1, .ref (gB.1 0)), (2, .ref (aM 0)), (3, .ref qo), (4, .int x4)] [] := by
  obtain ⟨rB, ⟨rM, σM1⟩, eB, eM, hr, hrel⟩ := hs
  refine kw_aload_n C dL_law_833 rfl 1 rfl ?_
  refine kl_callBI C [] (kX9_still L D gB t0  σB _ eB) mV_L_100 ⟨rfl, rfl⟩ dd_X9_still ⟨Nat.le_of_ble_eq_true rfl, Nat.le_of_ble_eq_true rfl⟩ rfl (Nat.le_of_ble_eq_true rfl) dL_law_834 ?_
  refine kw_aload_n C dL_law_837 rfl 2 rfl ?_
  refine kl_callMI C [] (kX10_still L D (aM, bM, gB.2.2) t0  σM _ _ eM) mV_L_103 ⟨rfl, rfl⟩ dd_X10_still ⟨Nat.le_of_ble_eq_true rfl, Nat.le_of_ble_eq_true rfl⟩ rfl (Nat.le_of_ble_eq_true rfl) dL_law_838 ?_
  refine kw_icmp_eq C 1609 dL_law_841 rfl (fun _ => ?_) (fun c9 => absurd hr c9)
  exact hk _ _ hrel
set_option maxRecDepth 100000 in
theorem ml_L_104 : Cond.methodLink RL 104 yX9_most ∈ GT := GT5 25 rfl rfl
theorem mV_L_104 : ∀ w ∈ wsV RL 104 RX9 yX9_most (wsG yX9_most cX9_most 4 (some .int)), w ∈ GT := GT_all (GT_c ml_L_104 (GT_c mint_X9_most (GT_c msel_X9_most (GT_c mi_X9 GT_n)))) (GT_c mcode_X9_most (fun _ h => h))
set_option maxRecDepth 100000 in
theorem ml_L_107 : Cond.methodLink RL 107 yX10_most ∈ GT := GT8 73 rfl rfl
theorem mV_L_107 : ∀ w ∈ wsV RL 107 RX10 yX10_most (wsG yX10_most cX10_most 5 (some .int)), w ∈ GT := GT_all (GT_c ml_L_107 (GT_c mint_X10_most (GT_c msel_X10_most (GT_c mi_X10 GT_n)))) (GT_c mcode_X10_most (fun _ h => h))
set_option maxRecDepth 100000 in
set_option maxHeartbeats 4000000 in
theorem lc_18 {X : KX SL} {L : Launch} {D : va_G} {t0 : Nat} {gB : GwT} {aM : Nat → Nat} {bM : Nat → Nat → Nat} {qo b Ln : Nat} {xs : Nat → Int32} (REL : St → St → Prop) (C : KC X L D (ttG gB) (wL gB (aM, bM, gB.2.2) qo) room_1 t0 cL_law RL) (hN : X.2.2.2.2.2.2.2.2.2.2.2.2.2.2.1 = 7) (hX : SX X b Ln xs) {σB σM : St} {f : Nat → Int64} {x4 : Int32}  (hs : SIM (fun q q' => q.1 = q'.1 ∧ REL q.2 q'.2) (fX9_most σB) (fX10_most σM)) (hk : ∀ σB1 σM1, REL σB1 σM1 → KW X (σB1, σM1, f) 1609 [(0, .ref b), (1, .ref (gB.1 0)), (2, .ref (aM 0)), (3, .ref qo), (4, .int x4)] []) : KW X (σB, σM, f) 846 [(0, .ref b), (1, .ref (gB.1 0)), (2, .ref (aM 0)), (3, .ref qo), (4, .int x4)] [] := by
  obtain ⟨⟨rB, σB1⟩, ⟨rM, σM1⟩, eB, eM, hr, hrel⟩ := hs
  refine kw_aload_n C dL_law_846 rfl 1 rfl ?_
  refine kl_callBI C [] (kX9_most L D gB t0  σB _ _ eB) mV_L_104 ⟨rfl, rfl⟩ dd_X9_most ⟨Nat.le_of_ble_eq_true rfl, Nat.le_of_ble_eq_true rfl⟩ rfl (Nat.le_of_ble_eq_true rfl) dL_law_847 ?_
  refine kw_aload_n C dL_law_850 rfl 2 rfl ?_
  refine kl_callMI C [] (kX10_most L D (aM, bM, gB.2.2) t0  σM _ _ eM) mV_L_107 ⟨rfl, rfl⟩ dd_X10_most ⟨Nat.le_of_ble_eq_true rfl, Nat.le_of_ble_eq_true rfl⟩ rfl (Nat.le_of_ble_eq_true rfl) dL_law_851 ?_
  refine kw_icmp_eq C 1609 dL_law_854 rfl (fun _ => ?_) (fun c9 => absurd hr c9)
  exact hk _ _ hrel
set_option maxRecDepth 100000 in
theorem ml_L_108 : Cond.methodLink RL 108 yX9_same ∈ GT := GT5 37 rfl rfl
theorem mV_L_108 : ∀ w ∈ wsV RL 108 RX9 yX9_same (wsG yX9_same cX9_same 1 (some .int)), w ∈ GT := GT_all (GT_c ml_L_108 (GT_c mint_X9_same (GT_c msel_X9_same (GT_c mi_X9 GT_n)))) (GT_c mcode_X9_same (fun _ h => h))
set_option maxRecDepth 100000 in
theorem ml_L_111 : Cond.methodLink RL 111 yX10_same ∈ GT := GT8 77 rfl rfl
theorem mV_L_111 : ∀ w ∈ wsV RL 111 RX10 yX10_same (wsG yX10_same cX10_same 1 (some .int)), w ∈ GT := GT_all (GT_c ml_L_111 (GT_c mint_X10_same (GT_c msel_X10_same (GT_c mi_X10 GT_n)))) (GT_c mcode_X10_same (fun _ h => h))
set_option maxRecDepth 100000 in
set_option maxHeartbeats 4000000 in
theorem lc_19 {X : KX SL} {L : Launch} {D : va_G} {t0 : Nat} {gB : GwT} {aM : Nat → Nat} {bM : Nat → Nat → Nat} {qo b Ln : Nat} {xs : Nat → Int32} (REL : St → St → Prop) (C : KC X L D (ttG gB) (wL gB (aM, bM, gB.2.2) qo) room_1 t0 cL_law RL) (hN : X.2.2.2.2.2.2.2.2.2.2.2.2.2.2.1 = 7) (hX : SX X b Ln xs) {σB σM : St} {f : Nat → Int64} {x4 : Int32}  (hs : SIM (fun q q' => q = q'.1 ∧ REL σB q'.2) (fX9_same σB) (fX10_same σM)) (hk : ∀ σB1 σM1, REL σB1 σM1 → KW X (σB1, σM1, f) 1609 [(0, .ref b), (1, .ref (gB.1 0)), (2, .ref (aM 0)), (3, .ref qo), (4, .int x4)] []) : KW X (σB, σM, f) 859 [(0, .ref b), (1, .ref (gB.1 0)), (2, .ref (aM 0)), (3, .ref qo), (4, .int x4)] [] := by
  obtain ⟨rB, ⟨rM, σM1⟩, eB, eM, hr, hrel⟩ := hs
  refine kw_aload_n C dL_law_859 rfl 1 rfl ?_
  refine kl_callBI C [] (kX9_same L D gB t0  σB _ eB) mV_L_108 ⟨rfl, rfl⟩ dd_X9_same ⟨Nat.le_of_ble_eq_true rfl, Nat.le_of_ble_eq_true rfl⟩ rfl (Nat.le_of_ble_eq_true rfl) dL_law_860 ?_
  refine kw_aload_n C dL_law_863 rfl 2 rfl ?_
  refine kl_callMI C [] (kX10_same L D (aM, bM, gB.2.2) t0  σM _ _ eM) mV_L_111 ⟨rfl, rfl⟩ dd_X10_same ⟨Nat.le_of_ble_eq_true rfl, Nat.le_of_ble_eq_true rfl⟩ rfl (Nat.le_of_ble_eq_true rfl) dL_law_864 ?_
  refine kw_icmp_eq C 1609 dL_law_867 rfl (fun _ => ?_) (fun c9 => absurd hr c9)
  exact hk _ _ hrel
set_option maxRecDepth 100000 in
theorem ml_L_112 : Cond.methodLink RL 112 yX9_noneLeft ∈ GT := GT5 54 rfl rfl
theorem mV_L_112 : ∀ w ∈ wsV RL 112 RX9 yX9_noneLeft (wsG yX9_noneLeft cX9_noneLeft 3 (some .int)), w ∈ GT := GT_all (GT_c ml_L_112 (GT_c mint_X9_noneLeft (GT_c msel_X9_noneLeft (GT_c mi_X9 GT_n)))) (GT_c mcode_X9_noneLeft (fun _ h => h))
set_option maxRecDepth 100000 in
theorem ml_L_115 : Cond.methodLink RL 115 yX10_noneLeft ∈ GT := GT8 89 rfl rfl
theorem mV_L_115 : ∀ w ∈ wsV RL 115 RX10 yX10_noneLeft (wsG yX10_noneLeft cX10_noneLeft 2 (some .int)), w ∈ GT := GT_all (GT_c ml_L_115 (GT_c mint_X10_noneLeft (GT_c msel_X10_noneLeft (GT_c mi_X10 GT_n)))) (GT_c mcode_X10_noneLeft (fun _ h => h))
set_option maxRecDepth 100000 in
set_option maxHeartbeats 4000000 in
theorem lc_20 {X : KX SL} {L : Launch} {D : va_G} {t0 : Nat} {gB : GwT} {aM : Nat → Nat} {bM : Nat → Nat → Nat} {qo b Ln : Nat} {xs : Nat → Int32} (REL : St → St → Prop) (C : KC X L D (ttG gB) (wL gB (aM, bM, gB.2.2) qo) room_1 t0 cL_law RL) (hN : X.2.2.2.2.2.2.2.2.2.2.2.2.2.2.1 = 7) (hX : SX X b Ln xs) {σB σM : St} {f : Nat → Int64} {x4 : Int32}  (hs : SIM (fun q q' => q = q'.1 ∧ REL σB q'.2) (fX9_noneLeft σB) (fX10_noneLeft σM)) (hk : ∀ σB1 σM1, REL σB1 σM1 → KW X (σB1, σM1, f) 1609 [(0, .ref b), (1, .ref (gB.1 0)), (2, .ref (aM 0)), (3, .ref qo), (4, .int x4)] []) : KW X (σB, σM, f) 872 [(0, .ref b), (1, .ref (gB.1 0)), (2, .ref (aM 0)), (3, .ref qo), (4, .int x4)] [] := by
  obtain ⟨rB, ⟨rM, σM1⟩, eB, eM, hr, hrel⟩ := hs
  refine kw_aload_n C dL_law_872 rfl 1 rfl ?_
  refine kl_callBI C [] (kX9_noneLeft L D gB t0  σB _ eB) mV_L_112 ⟨rfl, rfl⟩ dd_X9_noneLeft ⟨Nat.le_of_ble_eq_true rfl, Nat.le_of_ble_eq_true rfl⟩ rfl (Nat.le_of_ble_eq_true rfl) dL_law_873 ?_
  refine kw_aload_n C dL_law_876 rfl 2 rfl ?_
  refine kl_callMI C [] (kX10_noneLeft L D (aM, bM, gB.2.2) t0  σM _ _ eM) mV_L_115 ⟨rfl, rfl⟩ dd_X10_noneLeft ⟨Nat.le_of_ble_eq_true rfl, Nat.le_of_ble_eq_true rfl⟩ rfl (Nat.le_of_ble_eq_true rfl) dL_law_877 ?_
  refine kw_icmp_eq C 1609 dL_law_880 rfl (fun _ => ?_) (fun c9 => absurd hr c9)
  exact hk _ _ hrel
set_option maxRecDepth 100000 in
theorem ml_L_116 : Cond.methodLink RL 116 yX9_lives ∈ GT := GT4 183 rfl rfl
theorem mV_L_116 : ∀ w ∈ wsV RL 116 RX9 yX9_lives (wsG yX9_lives cX9_lives 10 (some .long)), w ∈ GT := GT_all (GT_c ml_L_116 (GT_c mint_X9_lives (GT_c msel_X9_lives (GT_c mi_X9 GT_n)))) (GT_c mcode_X9_lives (fun _ h => h))
set_option maxRecDepth 100000 in
theorem ml_L_120 : Cond.methodLink RL 120 yX10_lives ∈ GT := GT8 97 rfl rfl
theorem mV_L_120 : ∀ w ∈ wsV RL 120 RX10 yX10_lives (wsG yX10_lives cX10_lives 14 (some .long)), w ∈ GT := GT_all (GT_c ml_L_120 (GT_c mint_X10_lives (GT_c msel_X10_lives (GT_c mi_X10 GT_n)))) (GT_c mcode_X10_lives (fun _ h => h))
set_option maxRecDepth 100000 in
set_option maxHeartbeats 4000000 in
theorem lc_21 {X : KX SL} {L : Launch} {D : va_G} {t0 : Nat} {gB : GwT} {aM : Nat → Nat} {bM : Nat → Nat → Nat} {qo b Ln : Nat} {xs : Nat → Int32} (REL : St → St → Prop) (C : KC X L D (ttG gB) (wL gB (aM, bM, gB.2.2) qo) room_1 t0 cL_law RL) (hN : X.2.2.2.2.2.2.2.2.2.2.2.2.2.2.1 = 7) (hX : SX X b Ln xs) {σB σM : St} {f : Nat → Int64} {x4 : Int32} (h1 : ixI (x4 + (1 : Int32)) Ln) (h2 : ixI (x4 + (2 : Int32)) Ln) (h3 : ixI (x4 + (3 : Int32)) Ln) (hs : SIM (fun q q' => q.1 = q'.1 ∧ REL q.2 q'.2) (fX9_lives σB (xs (Int32.toNatClampNeg (x4 + (1 : Int32)))) (xs (Int32.toNatClampNeg (x4 + (2 : Int32)))) (xs (Int32.toNatClampNeg (x4 + (3 : Int32))))) (fX10_lives σM (xs (Int32.toNatClampNeg (x4 + (1 : Int32)))) (xs (Int32.toNatClampNeg (x4 + (2 : Int32)))) (xs (Int32.toNatClampNeg (x4 + (3 : Int32)))))) (hk : ∀ σB1 σM1, REL σB1 σM1 → KW X (σB1, σM1, f) 1609 [(0, .ref b), (1, .ref (gB.1 0)), (2, .ref (aM 0)), (3, .ref qo), (4, .int x4)] []) : KW X (σB, σM, f) 885 [(0, .ref b), (1, .ref (gB.1 0)), (2, .ref (aM 0)), (3, .ref qo), (4, .int x4)] [] := by
  obtain ⟨⟨rB, σB1⟩, ⟨rM, σM1⟩, eB, eM, hr, hrel⟩ := hs
  refine kw_aload_n C dL_law_885 rfl 1 rfl ?_
  refine kw_aload_n C dL_law_886 rfl 0 rfl ?_
  refine kw_iload C dL_law_887 4 rfl ?_
  refine kw_iconst C (1 : Int32) dL_law_889 rfl ?_
  refine kw_iadd C dL_law_890 ?_
  refine kl_sld C hX h1 dL_law_891 ?_
  refine kw_aload_n C dL_law_892 rfl 0 rfl ?_
  refine kw_iload C dL_law_893 4 rfl ?_
  refine kw_iconst C (2 : Int32) dL_law_895 rfl ?_
  refine kw_iadd C dL_law_896 ?_
  refine kl_sld C hX h2 dL_law_897 ?_
  refine kw_aload_n C dL_law_898 rfl 0 rfl ?_
  refine kw_iload C dL_law_899 4 rfl ?_
  refine kw_iconst C (3 : Int32) dL_law_901 rfl ?_
  refine kw_iadd C dL_law_902 ?_
  refine kl_sld C hX h3 dL_law_903 ?_
  refine kl_callBL C [.int (xs (Int32.toNatClampNeg (x4 + (1 : Int32)))), .int (xs (Int32.toNatClampNeg (x4 + (2 : Int32)))), .int (xs (Int32.toNatClampNeg (x4 + (3 : Int32))))] (kX9_lives L D gB t0 (xs (Int32.toNatClampNeg (x4 + (1 : Int32)))) (xs (Int32.toNatClampNeg (x4 + (2 : Int32)))) (xs (Int32.toNatClampNeg (x4 + (3 : Int32)))) σB _ _ eB) mV_L_116 ⟨rfl, rfl⟩ dd_X9_lives ⟨Nat.le_of_ble_eq_true rfl, Nat.le_of_ble_eq_true rfl⟩ rfl (Nat.le_of_ble_eq_true rfl) dL_law_904 ?_
  refine kw_aload_n C dL_law_907 rfl 2 rfl ?_
  refine kw_aload_n C dL_law_908 rfl 0 rfl ?_
  refine kw_iload C dL_law_909 4 rfl ?_
  refine kw_iconst C (1 : Int32) dL_law_911 rfl ?_
  refine kw_iadd C dL_law_912 ?_
  refine kl_sld C hX h1 dL_law_913 ?_
  refine kw_aload_n C dL_law_914 rfl 0 rfl ?_
  refine kw_iload C dL_law_915 4 rfl ?_
  refine kw_iconst C (2 : Int32) dL_law_917 rfl ?_
  refine kw_iadd C dL_law_918 ?_
  refine kl_sld C hX h2 dL_law_919 ?_
  refine kw_aload_n C dL_law_920 rfl 0 rfl ?_
  refine kw_iload C dL_law_921 4 rfl ?_
  refine kw_iconst C (3 : Int32) dL_law_923 rfl ?_
  refine kw_iadd C dL_law_924 ?_
  refine kl_sld C hX h3 dL_law_925 ?_
  refine kl_callML C [.int (xs (Int32.toNatClampNeg (x4 + (1 : Int32)))), .int (xs (Int32.toNatClampNeg (x4 + (2 : Int32)))), .int (xs (Int32.toNatClampNeg (x4 + (3 : Int32))))] (kX10_lives L D (aM, bM, gB.2.2) t0 (xs (Int32.toNatClampNeg (x4 + (1 : Int32)))) (xs (Int32.toNatClampNeg (x4 + (2 : Int32)))) (xs (Int32.toNatClampNeg (x4 + (3 : Int32)))) σM _ _ eM) mV_L_120 ⟨rfl, rfl⟩ dd_X10_lives ⟨Nat.le_of_ble_eq_true rfl, Nat.le_of_ble_eq_true rfl⟩ rfl (Nat.le_of_ble_eq_true rfl) dL_law_926 ?_
  refine kw_lcmp C dL_law_929 ?_
  refine kw_if_eq C 1609 dL_law_930 rfl (fun _ => ?_) (fun c9 => absurd (lgc_eq hr) c9)
  exact hk _ _ hrel
set_option maxRecDepth 100000 in
theorem ml_L_121 : Cond.methodLink RL 121 yX9_shares ∈ GT := GT4 236 rfl rfl
theorem mV_L_121 : ∀ w ∈ wsV RL 121 RX9 yX9_shares (wsG yX9_shares cX9_shares 6 (some .int)), w ∈ GT := GT_all (GT_c ml_L_121 (GT_c mint_X9_shares (GT_c msel_X9_shares (GT_c mi_X9 GT_n)))) (GT_c mcode_X9_shares (fun _ h => h))
set_option maxRecDepth 100000 in
theorem ml_L_124 : Cond.methodLink RL 124 yX10_shares ∈ GT := GT8 103 rfl rfl
theorem mV_L_124 : ∀ w ∈ wsV RL 124 RX10 yX10_shares (wsG yX10_shares cX10_shares 5 (some .int)), w ∈ GT := GT_all (GT_c ml_L_124 (GT_c mint_X10_shares (GT_c msel_X10_shares (GT_c mi_X10 GT_n)))) (GT_c mcode_X10_shares (fun _ h => h))
set_option maxRecDepth 100000 in
set_option maxHeartbeats 4000000 in
theorem lc_22 {X : KX SL} {L : Launch} {D : va_G} {t0 : Nat} {gB : GwT} {aM : Nat → Nat} {bM : Nat → Nat → Nat} {qo b Ln : Nat} {xs : Nat → Int32} (REL : St → St → Prop) (C : KC X L D (ttG gB) (wL gB (aM, bM, gB.2.2) qo) room_1 t0 cL_law RL) (hN : X.2.2.2.2.2.2.2.2.2.2.2.2.2.2.1 = 7) (hX : SX X b Ln xs) {σB σM : St} {f : Nat → Int64} {x4 : Int32} (h1 : ixI (x4 + (1 : Int32)) Ln) (h2 : ixI (x4 + (2 : Int32)) Ln) (hs : SIM (fun q q' => q = q'.1 ∧ REL σB q'.2) (fX9_shares σB (xs (Int32.toNatClampNeg (x4 + (1 : Int32)))) (xs (Int32.toNatClampNeg (x4 + (2 : Int32))))) (fX10_shares σM (xs (Int32.toNatClampNeg (x4 + (1 : Int32)))) (xs (Int32.toNatClampNeg (x4 + (2 : Int32)))))) (hk : ∀ σB1 σM1, REL σB1 σM1 → KW X (σB1, σM1, f) 1609 [(0, .ref b), (1, .ref (gB.1 0)), (2, .ref (aM 0)), (3, .ref qo), (4, .int x4)] []) : KW X (σB, σM, f) 935 [(0, .ref b), (1, .ref (gB.1 0)), (2, .ref (aM 0)), (3, .ref qo), (4, .int x4)] [] := by
  obtain ⟨rB, ⟨rM, σM1⟩, eB, eM, hr, hrel⟩ := hs
  refine kw_aload_n C dL_law_935 rfl 1 rfl ?_
  refine kw_aload_n C dL_law_936 rfl 0 rfl ?_
  refine kw_iload C dL_law_937 4 rfl ?_
  refine kw_iconst C (1 : Int32) dL_law_939 rfl ?_
  refine kw_iadd C dL_law_940 ?_
  refine kl_sld C hX h1 dL_law_941 ?_
  refine kw_aload_n C dL_law_942 rfl 0 rfl ?_
  refine kw_iload C dL_law_943 4 rfl ?_
  refine kw_iconst C (2 : Int32) dL_law_945 rfl ?_
  refine kw_iadd C dL_law_946 ?_
  refine kl_sld C hX h2 dL_law_947 ?_
  refine kl_callBI C [.int (xs (Int32.toNatClampNeg (x4 + (1 : Int32)))), .int (xs (Int32.toNatClampNeg (x4 + (2 : Int32))))] (kX9_shares L D gB t0 (xs (Int32.toNatClampNeg (x4 + (1 : Int32)))) (xs (Int32.toNatClampNeg (x4 + (2 : Int32)))) σB _ eB) mV_L_121 ⟨rfl, rfl⟩ dd_X9_shares ⟨Nat.le_of_ble_eq_true rfl, Nat.le_of_ble_eq_true rfl⟩ rfl (Nat.le_of_ble_eq_true rfl) dL_law_948 ?_
  refine kw_aload_n C dL_law_951 rfl 2 rfl ?_
  refine kw_aload_n C dL_law_952 rfl 0 rfl ?_
  refine kw_iload C dL_law_953 4 rfl ?_
  refine kw_iconst C (1 : Int32) dL_law_955 rfl ?_
  refine kw_iadd C dL_law_956 ?_
  refine kl_sld C hX h1 dL_law_957 ?_
  refine kw_aload_n C dL_law_958 rfl 0 rfl ?_
  refine kw_iload C dL_law_959 4 rfl ?_
  refine kw_iconst C (2 : Int32) dL_law_961 rfl ?_
  refine kw_iadd C dL_law_962 ?_
  refine kl_sld C hX h2 dL_law_963 ?_
  refine kl_callMI C [.int (xs (Int32.toNatClampNeg (x4 + (1 : Int32)))), .int (xs (Int32.toNatClampNeg (x4 + (2 : Int32))))] (kX10_shares L D (aM, bM, gB.2.2) t0 (xs (Int32.toNatClampNeg (x4 + (1 : Int32)))) (xs (Int32.toNatClampNeg (x4 + (2 : Int32)))) σM _ _ eM) mV_L_124 ⟨rfl, rfl⟩ dd_X10_shares ⟨Nat.le_of_ble_eq_true rfl, Nat.le_of_ble_eq_true rfl⟩ rfl (Nat.le_of_ble_eq_true rfl) dL_law_964 ?_
  refine kw_icmp_eq C 1609 dL_law_967 rfl (fun _ => ?_) (fun c9 => absurd hr c9)
  exact hk _ _ hrel
set_option maxRecDepth 100000 in
theorem ml_L_125 : Cond.methodLink RL 125 yX9_turn ∈ GT := GT3 230 rfl rfl
theorem mV_L_125 : ∀ w ∈ wsV RL 125 RX9 yX9_turn (wsG yX9_turn cX9_turn 2 (some .int)), w ∈ GT := GT_all (GT_c ml_L_125 (GT_c mint_X9_turn (GT_c msel_X9_turn (GT_c mi_X9 GT_n)))) (GT_c mcode_X9_turn (fun _ h => h))
set_option maxRecDepth 100000 in
theorem ml_L_128 : Cond.methodLink RL 128 yX10_turn ∈ GT := GT8 107 rfl rfl
theorem mV_L_128 : ∀ w ∈ wsV RL 128 RX10 yX10_turn (wsG yX10_turn cX10_turn 2 (some .int)), w ∈ GT := GT_all (GT_c ml_L_128 (GT_c mint_X10_turn (GT_c msel_X10_turn (GT_c mi_X10 GT_n)))) (GT_c mcode_X10_turn (fun _ h => h))
set_option maxRecDepth 100000 in
set_option maxHeartbeats 4000000 in
theorem lc_23 {X : KX SL} {L : Launch} {D : va_G} {t0 : Nat} {gB : GwT} {aM : Nat → Nat} {bM : Nat → Nat → Nat} {qo b Ln : Nat} {xs : Nat → Int32} (REL : St → St → Prop) (C : KC X L D (ttG gB) (wL gB (aM, bM, gB.2.2) qo) room_1 t0 cL_law RL) (hN : X.2.2.2.2.2.2.2.2.2.2.2.2.2.2.1 = 7) (hX : SX X b Ln xs) {σB σM : St} {f : Nat → Int64} {x4 : Int32}  (hs : SIM (fun q q' => q.1 = q'.1 ∧ REL q.2 q'.2) (fX9_turn σB) (fX10_turn σM)) (hk : ∀ σB1 σM1, REL σB1 σM1 → KW X (σB1, σM1, f) 1609 [(0, .ref b), (1, .ref (gB.1 0)), (2, .ref (aM 0)), (3, .ref qo), (4, .int x4)] []) : KW X (σB, σM, f) 972 [(0, .ref b), (1, .ref (gB.1 0)), (2, .ref (aM 0)), (3, .ref qo), (4, .int x4)] [] := by
  obtain ⟨⟨rB, σB1⟩, ⟨rM, σM1⟩, eB, eM, hr, hrel⟩ := hs
  refine kw_aload_n C dL_law_972 rfl 1 rfl ?_
  refine kl_callBI C [] (kX9_turn L D gB t0  σB _ _ eB) mV_L_125 ⟨rfl, rfl⟩ dd_X9_turn ⟨Nat.le_of_ble_eq_true rfl, Nat.le_of_ble_eq_true rfl⟩ rfl (Nat.le_of_ble_eq_true rfl) dL_law_973 ?_
  refine kw_aload_n C dL_law_976 rfl 2 rfl ?_
  refine kl_callMI C [] (kX10_turn L D (aM, bM, gB.2.2) t0  σM _ _ eM) mV_L_128 ⟨rfl, rfl⟩ dd_X10_turn ⟨Nat.le_of_ble_eq_true rfl, Nat.le_of_ble_eq_true rfl⟩ rfl (Nat.le_of_ble_eq_true rfl) dL_law_977 ?_
  refine kw_icmp_eq C 1609 dL_law_980 rfl (fun _ => ?_) (fun c9 => absurd hr c9)
  exact hk _ _ hrel
set_option maxRecDepth 100000 in
theorem ml_L_129 : Cond.methodLink RL 129 yX9_stays ∈ GT := GT5 9 rfl rfl
theorem mV_L_129 : ∀ w ∈ wsV RL 129 RX9 yX9_stays (wsG yX9_stays cX9_stays 13 (some .int)), w ∈ GT := GT_all (GT_c ml_L_129 (GT_c mint_X9_stays (GT_c msel_X9_stays (GT_c mi_X9 GT_n)))) (GT_c mcode_X9_stays (fun _ h => h))
set_option maxRecDepth 100000 in
theorem ml_L_132 : Cond.methodLink RL 132 yX10_stays ∈ GT := GT8 49 rfl rfl
theorem mV_L_132 : ∀ w ∈ wsV RL 132 RX10 yX10_stays (wsG yX10_stays cX10_stays 11 (some .int)), w ∈ GT := GT_all (GT_c ml_L_132 (GT_c mint_X10_stays (GT_c msel_X10_stays (GT_c mi_X10 GT_n)))) (GT_c mcode_X10_stays (fun _ h => h))
set_option maxRecDepth 100000 in
set_option maxHeartbeats 4000000 in
theorem lc_24 {X : KX SL} {L : Launch} {D : va_G} {t0 : Nat} {gB : GwT} {aM : Nat → Nat} {bM : Nat → Nat → Nat} {qo b Ln : Nat} {xs : Nat → Int32} (REL : St → St → Prop) (C : KC X L D (ttG gB) (wL gB (aM, bM, gB.2.2) qo) room_1 t0 cL_law RL) (hN : X.2.2.2.2.2.2.2.2.2.2.2.2.2.2.1 = 7) (hX : SX X b Ln xs) {σB σM : St} {f : Nat → Int64} {x4 : Int32} (h1 : ixI (x4 + (1 : Int32)) Ln) (h2 : ixI (x4 + (2 : Int32)) Ln) (h3 : ixI (x4 + (3 : Int32)) Ln) (h4 : ixI (x4 + (4 : Int32)) Ln) (h5 : ixI (x4 + (5 : Int32)) Ln) (hs : SIM (fun q q' => q = q'.1 ∧ REL σB q'.2) (fX9_stays σB (xs (Int32.toNatClampNeg (x4 + (1 : Int32)))) (xs (Int32.toNatClampNeg (x4 + (2 : Int32)))) (xs (Int32.toNatClampNeg (x4 + (3 : Int32)))) (xs (Int32.toNatClampNeg (x4 + (4 : Int32)))) (xs (Int32.toNatClampNeg (x4 + (5 : Int32))))) (fX10_stays σM (xs (Int32.toNatClampNeg (x4 + (1 : Int32)))) (xs (Int32.toNatClampNeg (x4 + (2 : Int32)))) (xs (Int32.toNatClampNeg (x4 + (3 : Int32)))) (xs (Int32.toNatClampNeg (x4 + (4 : Int32)))) (xs (Int32.toNatClampNeg (x4 + (5 : Int32)))))) (hk : ∀ σB1 σM1, REL σB1 σM1 → KW X (σB1, σM1, f) 1609 [(0, .ref b), (1, .ref (gB.1 0)), (2, .ref (aM 0)), (3, .ref qo), (4, .int x4)] []) : KW X (σB, σM, f) 985 [(0, .ref b), (1, .ref (gB.1 0)), (2, .ref (aM 0)), (3, .ref qo), (4, .int x4)] [] := by
  obtain ⟨rB, ⟨rM, σM1⟩, eB, eM, hr, hrel⟩ := hs
  refine kw_aload_n C dL_law_985 rfl 1 rfl ?_
  refine kw_aload_n C dL_law_986 rfl 0 rfl ?_
  refine kw_iload C dL_law_987 4 rfl ?_
  refine kw_iconst C (1 : Int32) dL_law_989 rfl ?_
  refine kw_iadd C dL_law_990 ?_
  refine kl_sld C hX h1 dL_law_991 ?_
  refine kw_aload_n C dL_law_992 rfl 0 rfl ?_
  refine kw_iload C dL_law_993 4 rfl ?_
  refine kw_iconst C (2 : Int32) dL_law_995 rfl ?_
  refine kw_iadd C dL_law_996 ?_
  refine kl_sld C hX h2 dL_law_997 ?_
  refine kw_aload_n C dL_law_998 rfl 0 rfl ?_
  refine kw_iload C dL_law_999 4 rfl ?_
  refine kw_iconst C (3 : Int32) dL_law_1001 rfl ?_
  refine kw_iadd C dL_law_1002 ?_
  refine kl_sld C hX h3 dL_law_1003 ?_
  refine kw_aload_n C dL_law_1004 rfl 0 rfl ?_
  refine kw_iload C dL_law_1005 4 rfl ?_
  refine kw_iconst C (4 : Int32) dL_law_1007 rfl ?_
  refine kw_iadd C dL_law_1008 ?_
  refine kl_sld C hX h4 dL_law_1009 ?_
  refine kw_aload_n C dL_law_1010 rfl 0 rfl ?_
  refine kw_iload C dL_law_1011 4 rfl ?_
  refine kw_iconst C (5 : Int32) dL_law_1013 rfl ?_
  refine kw_iadd C dL_law_1014 ?_
  refine kl_sld C hX h5 dL_law_1015 ?_
  refine kl_callBI C [.int (xs (Int32.toNatClampNeg (x4 + (1 : Int32)))), .int (xs (Int32.toNatClampNeg (x4 + (2 : Int32)))), .int (xs (Int32.toNatClampNeg (x4 + (3 : Int32)))), .int (xs (Int32.toNatClampNeg (x4 + (4 : Int32)))), .int (xs (Int32.toNatClampNeg (x4 + (5 : Int32))))] (kX9_stays L D gB t0 (xs (Int32.toNatClampNeg (x4 + (1 : Int32)))) (xs (Int32.toNatClampNeg (x4 + (2 : Int32)))) (xs (Int32.toNatClampNeg (x4 + (3 : Int32)))) (xs (Int32.toNatClampNeg (x4 + (4 : Int32)))) (xs (Int32.toNatClampNeg (x4 + (5 : Int32)))) σB _ eB) mV_L_129 ⟨rfl, rfl⟩ dd_X9_stays ⟨Nat.le_of_ble_eq_true rfl, Nat.le_of_ble_eq_true rfl⟩ rfl (Nat.le_of_ble_eq_true rfl) dL_law_1016 ?_
  refine kw_aload_n C dL_law_1019 rfl 2 rfl ?_
  refine kw_aload_n C dL_law_1020 rfl 0 rfl ?_
  refine kw_iload C dL_law_1021 4 rfl ?_
  refine kw_iconst C (1 : Int32) dL_law_1023 rfl ?_
  refine kw_iadd C dL_law_1024 ?_
  refine kl_sld C hX h1 dL_law_1025 ?_
  refine kw_aload_n C dL_law_1026 rfl 0 rfl ?_
  refine kw_iload C dL_law_1027 4 rfl ?_
  refine kw_iconst C (2 : Int32) dL_law_1029 rfl ?_
  refine kw_iadd C dL_law_1030 ?_
  refine kl_sld C hX h2 dL_law_1031 ?_
  refine kw_aload_n C dL_law_1032 rfl 0 rfl ?_
  refine kw_iload C dL_law_1033 4 rfl ?_
  refine kw_iconst C (3 : Int32) dL_law_1035 rfl ?_
  refine kw_iadd C dL_law_1036 ?_
  refine kl_sld C hX h3 dL_law_1037 ?_
  refine kw_aload_n C dL_law_1038 rfl 0 rfl ?_
  refine kw_iload C dL_law_1039 4 rfl ?_
  refine kw_iconst C (4 : Int32) dL_law_1041 rfl ?_
  refine kw_iadd C dL_law_1042 ?_
  refine kl_sld C hX h4 dL_law_1043 ?_
  refine kw_aload_n C dL_law_1044 rfl 0 rfl ?_
  refine kw_iload C dL_law_1045 4 rfl ?_
  refine kw_iconst C (5 : Int32) dL_law_1047 rfl ?_
  refine kw_iadd C dL_law_1048 ?_
  refine kl_sld C hX h5 dL_law_1049 ?_
  refine kl_callMI C [.int (xs (Int32.toNatClampNeg (x4 + (1 : Int32)))), .int (xs (Int32.toNatClampNeg (x4 + (2 : Int32)))), .int (xs (Int32.toNatClampNeg (x4 + (3 : Int32)))), .int (xs (Int32.toNatClampNeg (x4 + (4 : Int32)))), .int (xs (Int32.toNatClampNeg (x4 + (5 : Int32))))] (kX10_stays L D (aM, bM, gB.2.2) t0 (xs (Int32.toNatClampNeg (x4 + (1 : Int32)))) (xs (Int32.toNatClampNeg (x4 + (2 : Int32)))) (xs (Int32.toNatClampNeg (x4 + (3 : Int32)))) (xs (Int32.toNatClampNeg (x4 + (4 : Int32)))) (xs (Int32.toNatClampNeg (x4 + (5 : Int32)))) σM _ _ eM) mV_L_132 ⟨rfl, rfl⟩ dd_X10_stays ⟨Nat.le_of_ble_eq_true rfl, Nat.le_of_ble_eq_true rfl⟩ rfl (Nat.le_of_ble_eq_true rfl) dL_law_1050 ?_
  refine kw_icmp_eq C 1609 dL_law_1053 rfl (fun _ => ?_) (fun c9 => absurd hr c9)
  exact hk _ _ hrel
set_option maxRecDepth 100000 in
theorem ml_L_133 : Cond.methodLink RL 133 yX9_nextRaise ∈ GT := GT4 167 rfl rfl
theorem mV_L_133 : ∀ w ∈ wsV RL 133 RX9 yX9_nextRaise (wsG yX9_nextRaise cX9_nextRaise 4 (some .int)), w ∈ GT := GT_all (GT_c ml_L_133 (GT_c mint_X9_nextRaise (GT_c msel_X9_nextRaise (GT_c mi_X9 GT_n)))) (GT_c mcode_X9_nextRaise (fun _ h => h))
set_option maxRecDepth 100000 in
theorem ml_L_136 : Cond.methodLink RL 136 yX10_nextRaise ∈ GT := GT8 111 rfl rfl
theorem mV_L_136 : ∀ w ∈ wsV RL 136 RX10 yX10_nextRaise (wsG yX10_nextRaise cX10_nextRaise 3 (some .int)), w ∈ GT := GT_all (GT_c ml_L_136 (GT_c mint_X10_nextRaise (GT_c msel_X10_nextRaise (GT_c mi_X10 GT_n)))) (GT_c mcode_X10_nextRaise (fun _ h => h))
set_option maxRecDepth 100000 in
set_option maxHeartbeats 4000000 in
theorem lc_25 {X : KX SL} {L : Launch} {D : va_G} {t0 : Nat} {gB : GwT} {aM : Nat → Nat} {bM : Nat → Nat → Nat} {qo b Ln : Nat} {xs : Nat → Int32} (REL : St → St → Prop) (C : KC X L D (ttG gB) (wL gB (aM, bM, gB.2.2) qo) room_1 t0 cL_law RL) (hN : X.2.2.2.2.2.2.2.2.2.2.2.2.2.2.1 = 7) (hX : SX X b Ln xs) {σB σM : St} {f : Nat → Int64} {x4 : Int32} (h1 : ixI (x4 + (1 : Int32)) Ln) (hs : SIM (fun q q' => q.1 = q'.1 ∧ REL q.2 q'.2) (fX9_nextRaise σB (xs (Int32.toNatClampNeg (x4 + (1 : Int32))))) (fX10_nextRaise σM (xs (Int32.toNatClampNeg (x4 + (1 : Int32)))))) (hk : ∀ σB1 σM1, REL σB1 σM1 → KW X (σB1, σM1, f) 1609 [(0, .ref b), (1, .ref (gB.1 0)), (2, .ref (aM 0)), (3, .ref qo), (4, .int x4)] []) : KW X (σB, σM, f) 1058 [(0, .ref b), (1, .ref (gB.1 0)), (2, .ref (aM 0)), (3, .ref qo), (4, .int x4)] [] := by
  obtain ⟨⟨rB, σB1⟩, ⟨rM, σM1⟩, eB, eM, hr, hrel⟩ := hs
  refine kw_aload_n C dL_law_1058 rfl 1 rfl ?_
  refine kw_aload_n C dL_law_1059 rfl 0 rfl ?_
  refine kw_iload C dL_law_1060 4 rfl ?_
  refine kw_iconst C (1 : Int32) dL_law_1062 rfl ?_
  refine kw_iadd C dL_law_1063 ?_
  refine kl_sld C hX h1 dL_law_1064 ?_
  refine kl_callBI C [.int (xs (Int32.toNatClampNeg (x4 + (1 : Int32))))] (kX9_nextRaise L D gB t0 (xs (Int32.toNatClampNeg (x4 + (1 : Int32)))) σB _ _ eB) mV_L_133 ⟨rfl, rfl⟩ dd_X9_nextRaise ⟨Nat.le_of_ble_eq_true rfl, Nat.le_of_ble_eq_true rfl⟩ rfl (Nat.le_of_ble_eq_true rfl) dL_law_1065 ?_
  refine kw_aload_n C dL_law_1068 rfl 2 rfl ?_
  refine kw_aload_n C dL_law_1069 rfl 0 rfl ?_
  refine kw_iload C dL_law_1070 4 rfl ?_
  refine kw_iconst C (1 : Int32) dL_law_1072 rfl ?_
  refine kw_iadd C dL_law_1073 ?_
  refine kl_sld C hX h1 dL_law_1074 ?_
  refine kl_callMI C [.int (xs (Int32.toNatClampNeg (x4 + (1 : Int32))))] (kX10_nextRaise L D (aM, bM, gB.2.2) t0 (xs (Int32.toNatClampNeg (x4 + (1 : Int32)))) σM _ _ eM) mV_L_136 ⟨rfl, rfl⟩ dd_X10_nextRaise ⟨Nat.le_of_ble_eq_true rfl, Nat.le_of_ble_eq_true rfl⟩ rfl (Nat.le_of_ble_eq_true rfl) dL_law_1075 ?_
  refine kw_icmp_eq C 1609 dL_law_1078 rfl (fun _ => ?_) (fun c9 => absurd hr c9)
  exact hk _ _ hrel
set_option maxRecDepth 100000 in
theorem ml_L_137 : Cond.methodLink RL 137 yX9_rival ∈ GT := GT5 33 rfl rfl
theorem mV_L_137 : ∀ w ∈ wsV RL 137 RX9 yX9_rival (wsG yX9_rival cX9_rival 5 (some .int)), w ∈ GT := GT_all (GT_c ml_L_137 (GT_c mint_X9_rival (GT_c msel_X9_rival (GT_c mi_X9 GT_n)))) (GT_c mcode_X9_rival (fun _ h => h))
set_option maxRecDepth 100000 in
theorem ml_L_140 : Cond.methodLink RL 140 yX10_rival ∈ GT := GT8 115 rfl rfl
theorem mV_L_140 : ∀ w ∈ wsV RL 140 RX10 yX10_rival (wsG yX10_rival cX10_rival 4 (some .int)), w ∈ GT := GT_all (GT_c ml_L_140 (GT_c mint_X10_rival (GT_c msel_X10_rival (GT_c mi_X10 GT_n)))) (GT_c mcode_X10_rival (fun _ h => h))
set_option maxRecDepth 100000 in
set_option maxHeartbeats 4000000 in
theorem lc_26 {X : KX SL} {L : Launch} {D : va_G} {t0 : Nat} {gB : GwT} {aM : Nat → Nat} {bM : Nat → Nat → Nat} {qo b Ln : Nat} {xs : Nat → Int32} (REL : St → St → Prop) (C : KC X L D (ttG gB) (wL gB (aM, bM, gB.2.2) qo) room_1 t0 cL_law RL) (hN : X.2.2.2.2.2.2.2.2.2.2.2.2.2.2.1 = 7) (hX : SX X b Ln xs) {σB σM : St} {f : Nat → Int64} {x4 : Int32} (h1 : ixI (x4 + (1 : Int32)) Ln) (hs : SIM (fun q q' => q = q'.1 ∧ REL σB q'.2) (fX9_rival σB (xs (Int32.toNatClampNeg (x4 + (1 : Int32))))) (fX10_rival σM (xs (Int32.toNatClampNeg (x4 + (1 : Int32)))))) (hk : ∀ σB1 σM1, REL σB1 σM1 → KW X (σB1, σM1, f) 1609 [(0, .ref b), (1, .ref (gB.1 0)), (2, .ref (aM 0)), (3, .ref qo), (4, .int x4)] []) : KW X (σB, σM, f) 1083 [(0, .ref b), (1, .ref (gB.1 0)), (2, .ref (aM 0)), (3, .ref qo), (4, .int x4)] [] := by
  obtain ⟨rB, ⟨rM, σM1⟩, eB, eM, hr, hrel⟩ := hs
  refine kw_aload_n C dL_law_1083 rfl 1 rfl ?_
  refine kw_aload_n C dL_law_1084 rfl 0 rfl ?_
  refine kw_iload C dL_law_1085 4 rfl ?_
  refine kw_iconst C (1 : Int32) dL_law_1087 rfl ?_
  refine kw_iadd C dL_law_1088 ?_
  refine kl_sld C hX h1 dL_law_1089 ?_
  refine kl_callBI C [.int (xs (Int32.toNatClampNeg (x4 + (1 : Int32))))] (kX9_rival L D gB t0 (xs (Int32.toNatClampNeg (x4 + (1 : Int32)))) σB _ eB) mV_L_137 ⟨rfl, rfl⟩ dd_X9_rival ⟨Nat.le_of_ble_eq_true rfl, Nat.le_of_ble_eq_true rfl⟩ rfl (Nat.le_of_ble_eq_true rfl) dL_law_1090 ?_
  refine kw_aload_n C dL_law_1093 rfl 2 rfl ?_
  refine kw_aload_n C dL_law_1094 rfl 0 rfl ?_
  refine kw_iload C dL_law_1095 4 rfl ?_
  refine kw_iconst C (1 : Int32) dL_law_1097 rfl ?_
  refine kw_iadd C dL_law_1098 ?_
  refine kl_sld C hX h1 dL_law_1099 ?_
  refine kl_callMI C [.int (xs (Int32.toNatClampNeg (x4 + (1 : Int32))))] (kX10_rival L D (aM, bM, gB.2.2) t0 (xs (Int32.toNatClampNeg (x4 + (1 : Int32)))) σM _ _ eM) mV_L_140 ⟨rfl, rfl⟩ dd_X10_rival ⟨Nat.le_of_ble_eq_true rfl, Nat.le_of_ble_eq_true rfl⟩ rfl (Nat.le_of_ble_eq_true rfl) dL_law_1100 ?_
  refine kw_icmp_eq C 1609 dL_law_1103 rfl (fun _ => ?_) (fun c9 => absurd hr c9)
  exact hk _ _ hrel
set_option maxRecDepth 100000 in
theorem ml_L_141 : Cond.methodLink RL 141 yX9_left ∈ GT := GT4 163 rfl rfl
theorem mV_L_141 : ∀ w ∈ wsV RL 141 RX9 yX9_left (wsG yX9_left cX9_left 2 (some .int)), w ∈ GT := GT_all (GT_c ml_L_141 (GT_c mint_X9_left (GT_c msel_X9_left (GT_c mi_X9 GT_n)))) (GT_c mcode_X9_left (fun _ h => h))
set_option maxRecDepth 100000 in
theorem ml_L_144 : Cond.methodLink RL 144 yX10_left ∈ GT := GT8 119 rfl rfl
theorem mV_L_144 : ∀ w ∈ wsV RL 144 RX10 yX10_left (wsG yX10_left cX10_left 4 (some .int)), w ∈ GT := GT_all (GT_c ml_L_144 (GT_c mint_X10_left (GT_c msel_X10_left (GT_c mi_X10 GT_n)))) (GT_c mcode_X10_left (fun _ h => h))
set_option maxRecDepth 100000 in
set_option maxHeartbeats 4000000 in
theorem lc_27 {X : KX SL} {L : Launch} {D : va_G} {t0 : Nat} {gB : GwT} {aM : Nat → Nat} {bM : Nat → Nat → Nat} {qo b Ln : Nat} {xs : Nat → Int32} (REL : St → St → Prop) (C : KC X L D (ttG gB) (wL gB (aM, bM, gB.2.2) qo) room_1 t0 cL_law RL) (hN : X.2.2.2.2.2.2.2.2.2.2.2.2.2.2.1 = 7) (hX : SX X b Ln xs) {σB σM : St} {f : Nat → Int64} {x4 : Int32} (h1 : ixI (x4 + (1 : Int32)) Ln) (hs : SIM (fun q q' => q.1 = q'.1 ∧ REL q.2 q'.2) (fX9_left σB (xs (Int32.toNatClampNeg (x4 + (1 : Int32))))) (fX10_left σM (xs (Int32.toNatClampNeg (x4 + (1 : Int32)))))) (hk : ∀ σB1 σM1, REL σB1 σM1 → KW X (σB1, σM1, f) 1609 [(0, .ref b), (1, .ref (gB.1 0)), (2, .ref (aM 0)), (3, .ref qo), (4, .int x4)] []) : KW X (σB, σM, f) 1108 [(0, .ref b), (1, .ref (gB.1 0)), (2, .ref (aM 0)), (3, .ref qo), (4, .int x4)] [] := by
  obtain ⟨⟨rB, σB1⟩, ⟨rM, σM1⟩, eB, eM, hr, hrel⟩ := hs
  refine kw_aload_n C dL_law_1108 rfl 1 rfl ?_
  refine kw_aload_n C dL_law_1109 rfl 0 rfl ?_
  refine kw_iload C dL_law_1110 4 rfl ?_
  refine kw_iconst C (1 : Int32) dL_law_1112 rfl ?_
  refine kw_iadd C dL_law_1113 ?_
  refine kl_sld C hX h1 dL_law_1114 ?_
  refine kl_callBI C [.int (xs (Int32.toNatClampNeg (x4 + (1 : Int32))))] (kX9_left L D gB t0 (xs (Int32.toNatClampNeg (x4 + (1 : Int32)))) σB _ _ eB) mV_L_141 ⟨rfl, rfl⟩ dd_X9_left ⟨Nat.le_of_ble_eq_true rfl, Nat.le_of_ble_eq_true rfl⟩ rfl (Nat.le_of_ble_eq_true rfl) dL_law_1115 ?_
  refine kw_aload_n C dL_law_1118 rfl 2 rfl ?_
  refine kw_aload_n C dL_law_1119 rfl 0 rfl ?_
  refine kw_iload C dL_law_1120 4 rfl ?_
  refine kw_iconst C (1 : Int32) dL_law_1122 rfl ?_
  refine kw_iadd C dL_law_1123 ?_
  refine kl_sld C hX h1 dL_law_1124 ?_
  refine kl_callMI C [.int (xs (Int32.toNatClampNeg (x4 + (1 : Int32))))] (kX10_left L D (aM, bM, gB.2.2) t0 (xs (Int32.toNatClampNeg (x4 + (1 : Int32)))) σM _ _ eM) mV_L_144 ⟨rfl, rfl⟩ dd_X10_left ⟨Nat.le_of_ble_eq_true rfl, Nat.le_of_ble_eq_true rfl⟩ rfl (Nat.le_of_ble_eq_true rfl) dL_law_1125 ?_
  refine kw_icmp_eq C 1609 dL_law_1128 rfl (fun _ => ?_) (fun c9 => absurd hr c9)
  exact hk _ _ hrel
set_option maxRecDepth 100000 in
theorem ml_L_145 : Cond.methodLink RL 145 yX9_when ∈ GT := GT4 203 rfl rfl
theorem mV_L_145 : ∀ w ∈ wsV RL 145 RX9 yX9_when (wsG yX9_when cX9_when 7 (some .int)), w ∈ GT := GT_all (GT_c ml_L_145 (GT_c mint_X9_when (GT_c msel_X9_when (GT_c mi_X9 GT_n)))) (GT_c mcode_X9_when (fun _ h => h))
set_option maxRecDepth 100000 in
theorem ml_L_148 : Cond.methodLink RL 148 yX10_when ∈ GT := GT8 57 rfl rfl
theorem mV_L_148 : ∀ w ∈ wsV RL 148 RX10 yX10_when (wsG yX10_when cX10_when 7 (some .int)), w ∈ GT := GT_all (GT_c ml_L_148 (GT_c mint_X10_when (GT_c msel_X10_when (GT_c mi_X10 GT_n)))) (GT_c mcode_X10_when (fun _ h => h))
set_option maxRecDepth 100000 in
set_option maxHeartbeats 4000000 in
theorem lc_28 {X : KX SL} {L : Launch} {D : va_G} {t0 : Nat} {gB : GwT} {aM : Nat → Nat} {bM : Nat → Nat → Nat} {qo b Ln : Nat} {xs : Nat → Int32} (REL : St → St → Prop) (C : KC X L D (ttG gB) (wL gB (aM, bM, gB.2.2) qo) room_1 t0 cL_law RL) (hN : X.2.2.2.2.2.2.2.2.2.2.2.2.2.2.1 = 7) (hX : SX X b Ln xs) {σB σM : St} {f : Nat → Int64} {x4 : Int32} (h1 : ixI (x4 + (1 : Int32)) Ln) (h2 : ixI (x4 + (2 : Int32)) Ln) (h3 : ixI (x4 + (3 : Int32)) Ln) (hs : SIM (fun q q' => q.1 = q'.1 ∧ REL q.2 q'.2) (fX9_when σB (xs (Int32.toNatClampNeg (x4 + (1 : Int32)))) (xs (Int32.toNatClampNeg (x4 + (2 : Int32)))) (xs (Int32.toNatClampNeg (x4 + (3 : Int32))))) (fX10_when σM (xs (Int32.toNatClampNeg (x4 + (1 : Int32)))) (xs (Int32.toNatClampNeg (x4 + (2 : Int32)))) (xs (Int32.toNatClampNeg (x4 + (3 : Int32)))))) (hk : ∀ σB1 σM1, REL σB1 σM1 → KW X (σB1, σM1, f) 1609 [(0, .ref b), (1, .ref (gB.1 0)), (2, .ref (aM 0)), (3, .ref qo), (4, .int x4)] []) : KW X (σB, σM, f) 1133 [(0, .ref b), (1, .ref (gB.1 0)), (2, .ref (aM 0)), (3, .ref qo), (4, .int x4)] [] := by
  obtain ⟨⟨rB, σB1⟩, ⟨rM, σM1⟩, eB, eM, hr, hrel⟩ := hs
  refine kw_aload_n C dL_law_1133 rfl 1 rfl ?_
  refine kw_aload_n C dL_law_1134 rfl 0 rfl ?_
  refine kw_iload C dL_law_1135 4 rfl ?_
  refine kw_iconst C (1 : Int32) dL_law_1137 rfl ?_
  refine kw_iadd C dL_law_1138 ?_
  refine kl_sld C hX h1 dL_law_1139 ?_
  refine kw_aload_n C dL_law_1140 rfl 0 rfl ?_
  refine kw_iload C dL_law_1141 4 rfl ?_
  refine kw_iconst C (2 : Int32) dL_law_1143 rfl ?_
  refine kw_iadd C dL_law_1144 ?_
  refine kl_sld C hX h2 dL_law_1145 ?_
  refine kw_aload_n C dL_law_1146 rfl 0 rfl ?_
  refine kw_iload C dL_law_1147 4 rfl ?_
  refine kw_iconst C (3 : Int32) dL_law_1149 rfl ?_
  refine kw_iadd C dL_law_1150 ?_
  refine kl_sld C hX h3 dL_law_1151 ?_
  refine kl_callBI C [.int (xs (Int32.toNatClampNeg (x4 + (1 : Int32)))), .int (xs (Int32.toNatClampNeg (x4 + (2 : Int32)))), .int (xs (Int32.toNatClampNeg (x4 + (3 : Int32))))] (kX9_when L D gB t0 (xs (Int32.toNatClampNeg (x4 + (1 : Int32)))) (xs (Int32.toNatClampNeg (x4 + (2 : Int32)))) (xs (Int32.toNatClampNeg (x4 + (3 : Int32)))) σB _ _ eB) mV_L_145 ⟨rfl, rfl⟩ dd_X9_when ⟨Nat.le_of_ble_eq_true rfl, Nat.le_of_ble_eq_true rfl⟩ rfl (Nat.le_of_ble_eq_true rfl) dL_law_1152 ?_
  refine kw_aload_n C dL_law_1155 rfl 2 rfl ?_
  refine kw_aload_n C dL_law_1156 rfl 0 rfl ?_
  refine kw_iload C dL_law_1157 4 rfl ?_
  refine kw_iconst C (1 : Int32) dL_law_1159 rfl ?_
  refine kw_iadd C dL_law_1160 ?_
  refine kl_sld C hX h1 dL_law_1161 ?_
  refine kw_aload_n C dL_law_1162 rfl 0 rfl ?_
  refine kw_iload C dL_law_1163 4 rfl ?_
  refine kw_iconst C (2 : Int32) dL_law_1165 rfl ?_
  refine kw_iadd C dL_law_1166 ?_
  refine kl_sld C hX h2 dL_law_1167 ?_
  refine kw_aload_n C dL_law_1168 rfl 0 rfl ?_
  refine kw_iload C dL_law_1169 4 rfl ?_
  refine kw_iconst C (3 : Int32) dL_law_1171 rfl ?_
  refine kw_iadd C dL_law_1172 ?_
  refine kl_sld C hX h3 dL_law_1173 ?_
  refine kl_callMI C [.int (xs (Int32.toNatClampNeg (x4 + (1 : Int32)))), .int (xs (Int32.toNatClampNeg (x4 + (2 : Int32)))), .int (xs (Int32.toNatClampNeg (x4 + (3 : Int32))))] (kX10_when L D (aM, bM, gB.2.2) t0 (xs (Int32.toNatClampNeg (x4 + (1 : Int32)))) (xs (Int32.toNatClampNeg (x4 + (2 : Int32)))) (xs (Int32.toNatClampNeg (x4 + (3 : Int32)))) σM _ _ eM) mV_L_148 ⟨rfl, rfl⟩ dd_X10_when ⟨Nat.le_of_ble_eq_true rfl, Nat.le_of_ble_eq_true rfl⟩ rfl (Nat.le_of_ble_eq_true rfl) dL_law_1174 ?_
  refine kw_icmp_eq C 1609 dL_law_1177 rfl (fun _ => ?_) (fun c9 => absurd hr c9)
  exact hk _ _ hrel
set_option maxRecDepth 100000 in
theorem ml_L_149 : Cond.methodLink RL 149 yX9_match ∈ GT := GT4 207 rfl rfl
theorem mV_L_149 : ∀ w ∈ wsV RL 149 RX9 yX9_match (wsG yX9_match cX9_match 5 (some .int)), w ∈ GT := GT_all (GT_c ml_L_149 (GT_c mint_X9_match (GT_c msel_X9_match (GT_c mi_X9 GT_n)))) (GT_c mcode_X9_match (fun _ h => h))
set_option maxRecDepth 100000 in
theorem ml_L_152 : Cond.methodLink RL 152 yX10_match ∈ GT := GT8 61 rfl rfl
theorem mV_L_152 : ∀ w ∈ wsV RL 152 RX10 yX10_match (wsG yX10_match cX10_match 4 (some .int)), w ∈ GT := GT_all (GT_c ml_L_152 (GT_c mint_X10_match (GT_c msel_X10_match (GT_c mi_X10 GT_n)))) (GT_c mcode_X10_match (fun _ h => h))
set_option maxRecDepth 100000 in
set_option maxHeartbeats 4000000 in
theorem lc_29 {X : KX SL} {L : Launch} {D : va_G} {t0 : Nat} {gB : GwT} {aM : Nat → Nat} {bM : Nat → Nat → Nat} {qo b Ln : Nat} {xs : Nat → Int32} (REL : St → St → Prop) (C : KC X L D (ttG gB) (wL gB (aM, bM, gB.2.2) qo) room_1 t0 cL_law RL) (hN : X.2.2.2.2.2.2.2.2.2.2.2.2.2.2.1 = 7) (hX : SX X b Ln xs) {σB σM : St} {f : Nat → Int64} {x4 : Int32} (h1 : ixI (x4 + (1 : Int32)) Ln) (hs : SIM (fun q q' => q.1 = q'.1 ∧ REL q.2 q'.2) (fX9_match σB (xs (Int32.toNatClampNeg (x4 + (1 : Int32))))) (fX10_match σM (xs (Int32.toNatClampNeg (x4 + (1 : Int32)))))) (hk : ∀ σB1 σM1, REL σB1 σM1 → KW X (σB1, σM1, f) 1609 [(0, .ref b), (1, .ref (gB.1 0)), (2, .ref (aM 0)), (3, .ref qo), (4, .int x4)] []) : KW X (σB, σM, f) 1182 [(0, .ref b), (1, .ref (gB.1 0)), (2, .ref (aM 0)), (3, .ref qo), (4, .int x4)] [] := by
  obtain ⟨⟨rB, σB1⟩, ⟨rM, σM1⟩, eB, eM, hr, hrel⟩ := hs
  refine kw_aload_n C dL_law_1182 rfl 1 rfl ?_
  refine kw_aload_n C dL_law_1183 rfl 0 rfl ?_
  refine kw_iload C dL_law_1184 4 rfl ?_
  refine kw_iconst C (1 : Int32) dL_law_1186 rfl ?_
  refine kw_iadd C dL_law_1187 ?_
  refine kl_sld C hX h1 dL_law_1188 ?_
  refine kl_callBI C [.int (xs (Int32.toNatClampNeg (x4 + (1 : Int32))))] (kX9_match L D gB t0 (xs (Int32.toNatClampNeg (x4 + (1 : Int32)))) σB _ _ eB) mV_L_149 ⟨rfl, rfl⟩ dd_X9_match ⟨Nat.le_of_ble_eq_true rfl, Nat.le_of_ble_eq_true rfl⟩ rfl (Nat.le_of_ble_eq_true rfl) dL_law_1189 ?_
  refine kw_aload_n C dL_law_1192 rfl 2 rfl ?_
  refine kw_aload_n C dL_law_1193 rfl 0 rfl ?_
  refine kw_iload C dL_law_1194 4 rfl ?_
  refine kw_iconst C (1 : Int32) dL_law_1196 rfl ?_
  refine kw_iadd C dL_law_1197 ?_
  refine kl_sld C hX h1 dL_law_1198 ?_
  refine kl_callMI C [.int (xs (Int32.toNatClampNeg (x4 + (1 : Int32))))] (kX10_match L D (aM, bM, gB.2.2) t0 (xs (Int32.toNatClampNeg (x4 + (1 : Int32)))) σM _ _ eM) mV_L_152 ⟨rfl, rfl⟩ dd_X10_match ⟨Nat.le_of_ble_eq_true rfl, Nat.le_of_ble_eq_true rfl⟩ rfl (Nat.le_of_ble_eq_true rfl) dL_law_1199 ?_
  refine kw_icmp_eq C 1609 dL_law_1202 rfl (fun _ => ?_) (fun c9 => absurd hr c9)
  exact hk _ _ hrel
set_option maxRecDepth 100000 in
theorem ml_L_153 : Cond.methodLink RL 153 yX9_atMost ∈ GT := GT4 159 rfl rfl
theorem mV_L_153 : ∀ w ∈ wsV RL 153 RX9 yX9_atMost (wsG yX9_atMost cX9_atMost 1 (some .int)), w ∈ GT := GT_all (GT_c ml_L_153 (GT_c mint_X9_atMost (GT_c msel_X9_atMost (GT_c mi_X9 GT_n)))) (GT_c mcode_X9_atMost (fun _ h => h))
set_option maxRecDepth 100000 in
theorem ml_L_156 : Cond.methodLink RL 156 yX10_atMost ∈ GT := GT8 123 rfl rfl
theorem mV_L_156 : ∀ w ∈ wsV RL 156 RX10 yX10_atMost (wsG yX10_atMost cX10_atMost 2 (some .int)), w ∈ GT := GT_all (GT_c ml_L_156 (GT_c mint_X10_atMost (GT_c msel_X10_atMost (GT_c mi_X10 GT_n)))) (GT_c mcode_X10_atMost (fun _ h => h))
set_option maxRecDepth 100000 in
set_option maxHeartbeats 4000000 in
theorem lc_30 {X : KX SL} {L : Launch} {D : va_G} {t0 : Nat} {gB : GwT} {aM : Nat → Nat} {bM : Nat → Nat → Nat} {qo b Ln : Nat} {xs : Nat → Int32} (REL : St → St → Prop) (C : KC X L D (ttG gB) (wL gB (aM, bM, gB.2.2) qo) room_1 t0 cL_law RL) (hN : X.2.2.2.2.2.2.2.2.2.2.2.2.2.2.1 = 7) (hX : SX X b Ln xs) {σB σM : St} {f : Nat → Int64} {x4 : Int32}  (hs : SIM (fun q q' => q.1 = q'.1 ∧ REL q.2 q'.2) (fX9_atMost σB) (fX10_atMost σM)) (hk : ∀ σB1 σM1, REL σB1 σM1 → KW X (σB1, σM1, f) 1609 [(0, .ref b), (1, .ref (gB.1 0)), (2, .ref (aM 0)), (3, .ref qo), (4, .int x4)] []) : KW X (σB, σM, f) 1207 [(0, .ref b), (1, .ref (gB.1 0)), (2, .ref (aM 0)), (3, .ref qo), (4, .int x4)] [] := by
  obtain ⟨⟨rB, σB1⟩, ⟨rM, σM1⟩, eB, eM, hr, hrel⟩ := hs
  refine kw_aload_n C dL_law_1207 rfl 1 rfl ?_
  refine kl_callBI C [] (kX9_atMost L D gB t0  σB _ _ eB) mV_L_153 ⟨rfl, rfl⟩ dd_X9_atMost ⟨Nat.le_of_ble_eq_true rfl, Nat.le_of_ble_eq_true rfl⟩ rfl (Nat.le_of_ble_eq_true rfl) dL_law_1208 ?_
  refine kw_aload_n C dL_law_1211 rfl 2 rfl ?_
  refine kl_callMI C [] (kX10_atMost L D (aM, bM, gB.2.2) t0  σM _ _ eM) mV_L_156 ⟨rfl, rfl⟩ dd_X10_atMost ⟨Nat.le_of_ble_eq_true rfl, Nat.le_of_ble_eq_true rfl⟩ rfl (Nat.le_of_ble_eq_true rfl) dL_law_1212 ?_
  refine kw_icmp_eq C 1609 dL_law_1215 rfl (fun _ => ?_) (fun c9 => absurd hr c9)
  exact hk _ _ hrel
set_option maxRecDepth 100000 in
theorem ml_L_157 : Cond.methodLink RL 157 yX9_sameIn ∈ GT := GT5 50 rfl rfl
theorem mV_L_157 : ∀ w ∈ wsV RL 157 RX9 yX9_sameIn (wsG yX9_sameIn cX9_sameIn 2 (some .int)), w ∈ GT := GT_all (GT_c ml_L_157 (GT_c mint_X9_sameIn (GT_c msel_X9_sameIn (GT_c mi_X9 GT_n)))) (GT_c mcode_X9_sameIn (fun _ h => h))
set_option maxRecDepth 100000 in
theorem ml_L_160 : Cond.methodLink RL 160 yX10_sameIn ∈ GT := GT8 85 rfl rfl
theorem mV_L_160 : ∀ w ∈ wsV RL 160 RX10 yX10_sameIn (wsG yX10_sameIn cX10_sameIn 3 (some .int)), w ∈ GT := GT_all (GT_c ml_L_160 (GT_c mint_X10_sameIn (GT_c msel_X10_sameIn (GT_c mi_X10 GT_n)))) (GT_c mcode_X10_sameIn (fun _ h => h))
set_option maxRecDepth 100000 in
set_option maxHeartbeats 4000000 in
theorem lc_31 {X : KX SL} {L : Launch} {D : va_G} {t0 : Nat} {gB : GwT} {aM : Nat → Nat} {bM : Nat → Nat → Nat} {qo b Ln : Nat} {xs : Nat → Int32} (REL : St → St → Prop) (C : KC X L D (ttG gB) (wL gB (aM, bM, gB.2.2) qo) room_1 t0 cL_law RL) (hN : X.2.2.2.2.2.2.2.2.2.2.2.2.2.2.1 = 7) (hX : SX X b Ln xs) {σB σM : St} {f : Nat → Int64} {x4 : Int32} (h1 : ixI (x4 + (1 : Int32)) Ln) (hs : SIM (fun q q' => q = q'.1 ∧ REL σB q'.2) (fX9_sameIn σB (xs (Int32.toNatClampNeg (x4 + (1 : Int32))))) (fX10_sameIn σM (xs (Int32.toNatClampNeg (x4 + (1 : Int32)))))) (hk : ∀ σB1 σM1, REL σB1 σM1 → KW X (σB1, σM1, f) 1609 [(0, .ref b), (1, .ref (gB.1 0)), (2, .ref (aM 0)), (3, .ref qo), (4, .int x4)] []) : KW X (σB, σM, f) 1220 [(0, .ref b), (1, .ref (gB.1 0)), (2, .ref (aM 0)), (3, .ref qo), (4, .int x4)] [] := by
  obtain ⟨rB, ⟨rM, σM1⟩, eB, eM, hr, hrel⟩ := hs
  refine kw_aload_n C dL_law_1220 rfl 1 rfl ?_
  refine kw_aload_n C dL_law_1221 rfl 0 rfl ?_
  refine kw_iload C dL_law_1222 4 rfl ?_
  refine kw_iconst C (1 : Int32) dL_law_1224 rfl ?_
  refine kw_iadd C dL_law_1225 ?_
  refine kl_sld C hX h1 dL_law_1226 ?_
  refine kl_callBI C [.int (xs (Int32.toNatClampNeg (x4 + (1 : Int32))))] (kX9_sameIn L D gB t0 (xs (Int32.toNatClampNeg (x4 + (1 : Int32)))) σB _ eB) mV_L_157 ⟨rfl, rfl⟩ dd_X9_sameIn ⟨Nat.le_of_ble_eq_true rfl, Nat.le_of_ble_eq_true rfl⟩ rfl (Nat.le_of_ble_eq_true rfl) dL_law_1227 ?_
  refine kw_aload_n C dL_law_1230 rfl 2 rfl ?_
  refine kw_aload_n C dL_law_1231 rfl 0 rfl ?_
  refine kw_iload C dL_law_1232 4 rfl ?_
  refine kw_iconst C (1 : Int32) dL_law_1234 rfl ?_
  refine kw_iadd C dL_law_1235 ?_
  refine kl_sld C hX h1 dL_law_1236 ?_
  refine kl_callMI C [.int (xs (Int32.toNatClampNeg (x4 + (1 : Int32))))] (kX10_sameIn L D (aM, bM, gB.2.2) t0 (xs (Int32.toNatClampNeg (x4 + (1 : Int32)))) σM _ _ eM) mV_L_160 ⟨rfl, rfl⟩ dd_X10_sameIn ⟨Nat.le_of_ble_eq_true rfl, Nat.le_of_ble_eq_true rfl⟩ rfl (Nat.le_of_ble_eq_true rfl) dL_law_1237 ?_
  refine kw_icmp_eq C 1609 dL_law_1240 rfl (fun _ => ?_) (fun c9 => absurd hr c9)
  exact hk _ _ hrel
set_option maxRecDepth 100000 in
theorem ml_L_161 : Cond.methodLink RL 161 yX9_nextPart ∈ GT := GT5 58 rfl rfl
theorem mV_L_161 : ∀ w ∈ wsV RL 161 RX9 yX9_nextPart (wsG yX9_nextPart cX9_nextPart 6 (some .int)), w ∈ GT := GT_all (GT_c ml_L_161 (GT_c mint_X9_nextPart (GT_c msel_X9_nextPart (GT_c mi_X9 GT_n)))) (GT_c mcode_X9_nextPart (fun _ h => h))
set_option maxRecDepth 100000 in
theorem ml_L_164 : Cond.methodLink RL 164 yX10_nextPart ∈ GT := GT8 93 rfl rfl
theorem mV_L_164 : ∀ w ∈ wsV RL 164 RX10 yX10_nextPart (wsG yX10_nextPart cX10_nextPart 6 (some .int)), w ∈ GT := GT_all (GT_c ml_L_164 (GT_c mint_X10_nextPart (GT_c msel_X10_nextPart (GT_c mi_X10 GT_n)))) (GT_c mcode_X10_nextPart (fun _ h => h))
set_option maxRecDepth 100000 in
set_option maxHeartbeats 4000000 in
theorem lc_32 {X : KX SL} {L : Launch} {D : va_G} {t0 : Nat} {gB : GwT} {aM : Nat → Nat} {bM : Nat → Nat → Nat} {qo b Ln : Nat} {xs : Nat → Int32} (REL : St → St → Prop) (C : KC X L D (ttG gB) (wL gB (aM, bM, gB.2.2) qo) room_1 t0 cL_law RL) (hN : X.2.2.2.2.2.2.2.2.2.2.2.2.2.2.1 = 7) (hX : SX X b Ln xs) {σB σM : St} {f : Nat → Int64} {x4 : Int32} (h1 : ixI (x4 + (1 : Int32)) Ln) (hs : SIM (fun q q' => q = q'.1 ∧ REL σB q'.2) (fX9_nextPart σB (xs (Int32.toNatClampNeg (x4 + (1 : Int32))))) (fX10_nextPart σM (xs (Int32.toNatClampNeg (x4 + (1 : Int32)))))) (hk : ∀ σB1 σM1, REL σB1 σM1 → KW X (σB1, σM1, f) 1609 [(0, .ref b), (1, .ref (gB.1 0)), (2, .ref (aM 0)), (3, .ref qo), (4, .int x4)] []) : KW X (σB, σM, f) 1245 [(0, .ref b), (1, .ref (gB.1 0)), (2, .ref (aM 0)), (3, .ref qo), (4, .int x4)] [] := by
  obtain ⟨rB, ⟨rM, σM1⟩, eB, eM, hr, hrel⟩ := hs
  refine kw_aload_n C dL_law_1245 rfl 1 rfl ?_
  refine kw_aload_n C dL_law_1246 rfl 0 rfl ?_
  refine kw_iload C dL_law_1247 4 rfl ?_
  refine kw_iconst C (1 : Int32) dL_law_1249 rfl ?_
  refine kw_iadd C dL_law_1250 ?_
  refine kl_sld C hX h1 dL_law_1251 ?_
  refine kl_callBI C [.int (xs (Int32.toNatClampNeg (x4 + (1 : Int32))))] (kX9_nextPart L D gB t0 (xs (Int32.toNatClampNeg (x4 + (1 : Int32)))) σB _ eB) mV_L_161 ⟨rfl, rfl⟩ dd_X9_nextPart ⟨Nat.le_of_ble_eq_true rfl, Nat.le_of_ble_eq_true rfl⟩ rfl (Nat.le_of_ble_eq_true rfl) dL_law_1252 ?_
  refine kw_aload_n C dL_law_1255 rfl 2 rfl ?_
  refine kw_aload_n C dL_law_1256 rfl 0 rfl ?_
  refine kw_iload C dL_law_1257 4 rfl ?_
  refine kw_iconst C (1 : Int32) dL_law_1259 rfl ?_
  refine kw_iadd C dL_law_1260 ?_
  refine kl_sld C hX h1 dL_law_1261 ?_
  refine kl_callMI C [.int (xs (Int32.toNatClampNeg (x4 + (1 : Int32))))] (kX10_nextPart L D (aM, bM, gB.2.2) t0 (xs (Int32.toNatClampNeg (x4 + (1 : Int32)))) σM _ _ eM) mV_L_164 ⟨rfl, rfl⟩ dd_X10_nextPart ⟨Nat.le_of_ble_eq_true rfl, Nat.le_of_ble_eq_true rfl⟩ rfl (Nat.le_of_ble_eq_true rfl) dL_law_1262 ?_
  refine kw_icmp_eq C 1609 dL_law_1265 rfl (fun _ => ?_) (fun c9 => absurd hr c9)
  exact hk _ _ hrel
set_option maxRecDepth 100000 in
theorem ml_L_165 : Cond.methodLink RL 165 yX9_hush ∈ GT := GT4 211 rfl rfl
theorem mV_L_165 : ∀ w ∈ wsV RL 165 RX9 yX9_hush (wsG yX9_hush cX9_hush 6 (some .int)), w ∈ GT := GT_all (GT_c ml_L_165 (GT_c mint_X9_hush (GT_c msel_X9_hush (GT_c mi_X9 GT_n)))) (GT_c mcode_X9_hush (fun _ h => h))
set_option maxRecDepth 100000 in
theorem ml_L_168 : Cond.methodLink RL 168 yX10_hush ∈ GT := GT8 65 rfl rfl
theorem mV_L_168 : ∀ w ∈ wsV RL 168 RX10 yX10_hush (wsG yX10_hush cX10_hush 6 (some .int)), w ∈ GT := GT_all (GT_c ml_L_168 (GT_c mint_X10_hush (GT_c msel_X10_hush (GT_c mi_X10 GT_n)))) (GT_c mcode_X10_hush (fun _ h => h))
set_option maxRecDepth 100000 in
set_option maxHeartbeats 4000000 in
theorem lc_33 {X : KX SL} {L : Launch} {D : va_G} {t0 : Nat} {gB : GwT} {aM : Nat → Nat} {bM : Nat → Nat → Nat} {qo b Ln : Nat} {xs : Nat → Int32} (REL : St → St → Prop) (C : KC X L D (ttG gB) (wL gB (aM, bM, gB.2.2) qo) room_1 t0 cL_law RL) (hN : X.2.2.2.2.2.2.2.2.2.2.2.2.2.2.1 = 7) (hX : SX X b Ln xs) {σB σM : St} {f : Nat → Int64} {x4 : Int32} (h1 : ixI (x4 + (1 : Int32)) Ln) (h2 : ixI (x4 + (2 : Int32)) Ln) (hs : SIM (fun q q' => q.1 = q'.1 ∧ REL q.2 q'.2) (fX9_hush σB (xs (Int32.toNatClampNeg (x4 + (1 : Int32)))) (xs (Int32.toNatClampNeg (x4 + (2 : Int32))))) (fX10_hush σM (xs (Int32.toNatClampNeg (x4 + (1 : Int32)))) (xs (Int32.toNatClampNeg (x4 + (2 : Int32)))))) (hk : ∀ σB1 σM1, REL σB1 σM1 → KW X (σB1, σM1, f) 1609 [(0, .ref b), (1, .ref (gB.1 0)), (2, .ref (aM 0)), (3, .ref qo), (4, .int x4)] []) : KW X (σB, σM, f) 1270 [(0, .ref b), (1, .ref (gB.1 0)), (2, .ref (aM 0)), (3, .ref qo), (4, .int x4)] [] := by
  obtain ⟨⟨rB, σB1⟩, ⟨rM, σM1⟩, eB, eM, hr, hrel⟩ := hs
  refine kw_aload_n C dL_law_1270 rfl 1 rfl ?_
  refine kw_aload_n C dL_law_1271 rfl 0 rfl ?_
  refine kw_iload C dL_law_1272 4 rfl ?_
  refine kw_iconst C (1 : Int32) dL_law_1274 rfl ?_
  refine kw_iadd C dL_law_1275 ?_
  refine kl_sld C hX h1 dL_law_1276 ?_
  refine kw_aload_n C dL_law_1277 rfl 0 rfl ?_
  refine kw_iload C dL_law_1278 4 rfl ?_
  refine kw_iconst C (2 : Int32) dL_law_1280 rfl ?_
  refine kw_iadd C dL_law_1281 ?_
  refine kl_sld C hX h2 dL_law_1282 ?_
  refine kl_callBI C [.int (xs (Int32.toNatClampNeg (x4 + (1 : Int32)))), .int (xs (Int32.toNatClampNeg (x4 + (2 : Int32))))] (kX9_hush L D gB t0 (xs (Int32.toNatClampNeg (x4 + (1 : Int32)))) (xs (Int32.toNatClampNeg (x4 + (2 : Int32)))) σB _ _ eB) mV_L_165 ⟨rfl, rfl⟩ dd_X9_hush ⟨Nat.le_of_ble_eq_true rfl, Nat.le_of_ble_eq_true rfl⟩ rfl (Nat.le_of_ble_eq_true rfl) dL_law_1283 ?_
  refine kw_aload_n C dL_law_1286 rfl 2 rfl ?_
  refine kw_aload_n C dL_law_1287 rfl 0 rfl ?_
  refine kw_iload C dL_law_1288 4 rfl ?_
  refine kw_iconst C (1 : Int32) dL_law_1290 rfl ?_
  refine kw_iadd C dL_law_1291 ?_
  refine kl_sld C hX h1 dL_law_1292 ?_
  refine kw_aload_n C dL_law_1293 rfl 0 rfl ?_
  refine kw_iload C dL_law_1294 4 rfl ?_
  refine kw_iconst C (2 : Int32) dL_law_1296 rfl ?_
  refine kw_iadd C dL_law_1297 ?_
  refine kl_sld C hX h2 dL_law_1298 ?_
  refine kl_callMI C [.int (xs (Int32.toNatClampNeg (x4 + (1 : Int32)))), .int (xs (Int32.toNatClampNeg (x4 + (2 : Int32))))] (kX10_hush L D (aM, bM, gB.2.2) t0 (xs (Int32.toNatClampNeg (x4 + (1 : Int32)))) (xs (Int32.toNatClampNeg (x4 + (2 : Int32)))) σM _ _ eM) mV_L_168 ⟨rfl, rfl⟩ dd_X10_hush ⟨Nat.le_of_ble_eq_true rfl, Nat.le_of_ble_eq_true rfl⟩ rfl (Nat.le_of_ble_eq_true rfl) dL_law_1299 ?_
  refine kw_icmp_eq C 1609 dL_law_1302 rfl (fun _ => ?_) (fun c9 => absurd hr c9)
  exact hk _ _ hrel
set_option maxRecDepth 100000 in
theorem ml_L_169 : Cond.methodLink RL 169 yX9_see ∈ GT := GT5 62 rfl rfl
theorem mV_L_169 : ∀ w ∈ wsV RL 169 RX9 yX9_see (wsG yX9_see cX9_see 4 (some .int)), w ∈ GT := GT_all (GT_c ml_L_169 (GT_c mint_X9_see (GT_c msel_X9_see (GT_c mi_X9 GT_n)))) (GT_c mcode_X9_see (fun _ h => h))
set_option maxRecDepth 100000 in
theorem ml_L_173 : Cond.methodLink RL 173 yX10_see ∈ GT := GT8 127 rfl rfl
theorem mV_L_173 : ∀ w ∈ wsV RL 173 RX10 yX10_see (wsG yX10_see cX10_see 4 (some .int)), w ∈ GT := GT_all (GT_c ml_L_173 (GT_c mint_X10_see (GT_c msel_X10_see (GT_c mi_X10 GT_n)))) (GT_c mcode_X10_see (fun _ h => h))
set_option maxRecDepth 100000 in
set_option maxHeartbeats 4000000 in
theorem lc_34z {X : KX SL} {L : Launch} {D : va_G} {t0 : Nat} {gB : GwT} {aM : Nat → Nat} {bM : Nat → Nat → Nat} {qo b Ln : Nat} {xs : Nat → Int32} (REL : St → St → Prop) (C : KC X L D (ttG gB) (wL gB (aM, bM, gB.2.2) qo) room_1 t0 cL_law RL) (hN : X.2.2.2.2.2.2.2.2.2.2.2.2.2.2.1 = 7) (hX : SX X b Ln xs) {σB σM : St} {f : Nat → Int64} {x4 : Int32} (h1 : ixI (x4 + (1 : Int32)) Ln) (h2 : ixI (x4 + (2 : Int32)) Ln) (h3 : ixI (x4 + (3 : Int32)) Ln) (hz : xs (Int32.toNatClampNeg (x4 + (3 : Int32))) = 0) (hs : SIM (fun q q' => q.1 = q'.1 ∧ REL q.2 q'.2) (fX9_see σB (xs (Int32.toNatClampNeg (x4 + (1 : Int32)))) (xs (Int32.toNatClampNeg (x4 + (2 : Int32)))) (0 : Int32)) (fX10_see σM (xs (Int32.toNatClampNeg (x4 + (1 : Int32)))) (xs (Int32.toNatClampNeg (x4 + (2 : Int32)))) (0 : Int32))) (hk : ∀ σB1 σM1, REL σB1 σM1 → KW X (σB1, σM1, f) 1609 [(0, .ref b), (1, .ref (gB.1 0)), (2, .ref (aM 0)), (3, .ref qo), (4, .int x4)] []) : KW X (σB, σM, f) 1307 [(0, .ref b), (1, .ref (gB.1 0)), (2, .ref (aM 0)), (3, .ref qo), (4, .int x4)] [] := by
  obtain ⟨⟨rB, σB1⟩, ⟨rM, σM1⟩, eB, eM, hr, hrel⟩ := hs
  refine kw_aload_n C dL_law_1307 rfl 1 rfl ?_
  refine kw_aload_n C dL_law_1308 rfl 0 rfl ?_
  refine kw_iload C dL_law_1309 4 rfl ?_
  refine kw_iconst C (1 : Int32) dL_law_1311 rfl ?_
  refine kw_iadd C dL_law_1312 ?_
  refine kl_sld C hX h1 dL_law_1313 ?_
  refine kw_aload_n C dL_law_1314 rfl 0 rfl ?_
  refine kw_iload C dL_law_1315 4 rfl ?_
  refine kw_iconst C (2 : Int32) dL_law_1317 rfl ?_
  refine kw_iadd C dL_law_1318 ?_
  refine kl_sld C hX h2 dL_law_1319 ?_
  refine kw_aload_n C dL_law_1320 rfl 0 rfl ?_
  refine kw_iload C dL_law_1321 4 rfl ?_
  refine kw_iconst C (3 : Int32) dL_law_1323 rfl ?_
  refine kw_iadd C dL_law_1324 ?_
  refine kl_sld C hX h3 dL_law_1325 ?_
  refine kw_if_eq C 1333 dL_law_1326 rfl (fun _ => ?_) (fun c9 => absurd hz c9)
  refine kw_iconst C (0 : Int32) dL_law_1333 rfl ?_
  refine kl_callBI C [.int (xs (Int32.toNatClampNeg (x4 + (1 : Int32)))), .int (xs (Int32.toNatClampNeg (x4 + (2 : Int32)))), .int (0 : Int32)] (kX9_see L D gB t0 (xs (Int32.toNatClampNeg (x4 + (1 : Int32)))) (xs (Int32.toNatClampNeg (x4 + (2 : Int32)))) (0 : Int32) σB _ _ eB) mV_L_169 ⟨rfl, rfl⟩ dd_X9_see ⟨Nat.le_of_ble_eq_true rfl, Nat.le_of_ble_eq_true rfl⟩ rfl (Nat.le_of_ble_eq_true rfl) dL_law_1334 ?_
  refine kw_aload_n C dL_law_1337 rfl 2 rfl ?_
  refine kw_aload_n C dL_law_1338 rfl 0 rfl ?_
  refine kw_iload C dL_law_1339 4 rfl ?_
  refine kw_iconst C (1 : Int32) dL_law_1341 rfl ?_
  refine kw_iadd C dL_law_1342 ?_
  refine kl_sld C hX h1 dL_law_1343 ?_
  refine kw_aload_n C dL_law_1344 rfl 0 rfl ?_
  refine kw_iload C dL_law_1345 4 rfl ?_
  refine kw_iconst C (2 : Int32) dL_law_1347 rfl ?_
  refine kw_iadd C dL_law_1348 ?_
  refine kl_sld C hX h2 dL_law_1349 ?_
  refine kw_aload_n C dL_law_1350 rfl 0 rfl ?_
  refine kw_iload C dL_law_1351 4 rfl ?_
  refine kw_iconst C (3 : Int32) dL_law_1353 rfl ?_
  refine kw_iadd C dL_law_1354 ?_
  refine kl_sld C hX h3 dL_law_1355 ?_
  refine kw_if_eq C 1363 dL_law_1356 rfl (fun _ => ?_) (fun c9 => absurd hz c9)
  refine kw_iconst C (0 : Int32) dL_law_1363 rfl ?_
  refine kl_callMI C [.int (xs (Int32.toNatClampNeg (x4 + (1 : Int32)))), .int (xs (Int32.toNatClampNeg (x4 + (2 : Int32)))), .int (0 : Int32)] (kX10_see L D (aM, bM, gB.2.2) t0 (xs (Int32.toNatClampNeg (x4 + (1 : Int32)))) (xs (Int32.toNatClampNeg (x4 + (2 : Int32)))) (0 : Int32) σM _ _ eM) mV_L_173 ⟨rfl, rfl⟩ dd_X10_see ⟨Nat.le_of_ble_eq_true rfl, Nat.le_of_ble_eq_true rfl⟩ rfl (Nat.le_of_ble_eq_true rfl) dL_law_1364 ?_
  refine kw_icmp_eq C 1609 dL_law_1367 rfl (fun _ => ?_) (fun c9 => absurd hr c9)
  exact hk _ _ hrel
set_option maxRecDepth 100000 in
set_option maxHeartbeats 4000000 in
theorem lc_34n {X : KX SL} {L : Launch} {D : va_G} {t0 : Nat} {gB : GwT} {aM : Nat → Nat} {bM : Nat → Nat → Nat} {qo b Ln : Nat} {xs : Nat → Int32} (REL : St → St → Prop) (C : KC X L D (ttG gB) (wL gB (aM, bM, gB.2.2) qo) room_1 t0 cL_law RL) (hN : X.2.2.2.2.2.2.2.2.2.2.2.2.2.2.1 = 7) (hX : SX X b Ln xs) {σB σM : St} {f : Nat → Int64} {x4 : Int32} (h1 : ixI (x4 + (1 : Int32)) Ln) (h2 : ixI (x4 + (2 : Int32)) Ln) (h3 : ixI (x4 + (3 : Int32)) Ln) (hz : ¬ xs (Int32.toNatClampNeg (x4 + (3 : Int32))) = 0) (hs : SIM (fun q q' => q.1 = q'.1 ∧ REL q.2 q'.2) (fX9_see σB (xs (Int32.toNatClampNeg (x4 + (1 : Int32)))) (xs (Int32.toNatClampNeg (x4 + (2 : Int32)))) (1 : Int32)) (fX10_see σM (xs (Int32.toNatClampNeg (x4 + (1 : Int32)))) (xs (Int32.toNatClampNeg (x4 + (2 : Int32)))) (1 : Int32))) (hk : ∀ σB1 σM1, REL σB1 σM1 → KW X (σB1, σM1, f) 1609 [(0, .ref b), (1, .ref (gB.1 0)), (2, .ref (aM 0)), (3, .ref qo), (4, .int x4)] []) : KW X (σB, σM, f) 1307 [(0, .ref b), (1, .ref (gB.1 0)), (2, .ref (aM 0)), (3, .ref qo), (4, .int x4)] [] := by
  obtain ⟨⟨rB, σB1⟩, ⟨rM, σM1⟩, eB, eM, hr, hrel⟩ := hs
  refine kw_aload_n C dL_law_1307 rfl 1 rfl ?_
  refine kw_aload_n C dL_law_1308 rfl 0 rfl ?_
  refine kw_iload C dL_law_1309 4 rfl ?_
  refine kw_iconst C (1 : Int32) dL_law_1311 rfl ?_
  refine kw_iadd C dL_law_1312 ?_
  refine kl_sld C hX h1 dL_law_1313 ?_
  refine kw_aload_n C dL_law_1314 rfl 0 rfl ?_
  refine kw_iload C dL_law_1315 4 rfl ?_
  refine kw_iconst C (2 : Int32) dL_law_1317 rfl ?_
  refine kw_iadd C dL_law_1318 ?_
  refine kl_sld C hX h2 dL_law_1319 ?_
  refine kw_aload_n C dL_law_1320 rfl 0 rfl ?_
  refine kw_iload C dL_law_1321 4 rfl ?_
  refine kw_iconst C (3 : Int32) dL_law_1323 rfl ?_
  refine kw_iadd C dL_law_1324 ?_
  refine kl_sld C hX h3 dL_law_1325 ?_
  refine kw_if_eq C 1333 dL_law_1326 rfl (fun c9 => absurd c9 hz) (fun _ => ?_)
  refine kw_iconst C (1 : Int32) dL_law_1329 rfl ?_
  refine kw_goto C 1334 dL_law_1330 rfl ?_
  refine kl_callBI C [.int (xs (Int32.toNatClampNeg (x4 + (1 : Int32)))), .int (xs (Int32.toNatClampNeg (x4 + (2 : Int32)))), .int (1 : Int32)] (kX9_see L D gB t0 (xs (Int32.toNatClampNeg (x4 + (1 : Int32)))) (xs (Int32.toNatClampNeg (x4 + (2 : Int32)))) (1 : Int32) σB _ _ eB) mV_L_169 ⟨rfl, rfl⟩ dd_X9_see ⟨Nat.le_of_ble_eq_true rfl, Nat.le_of_ble_eq_true rfl⟩ rfl (Nat.le_of_ble_eq_true rfl) dL_law_1334 ?_
  refine kw_aload_n C dL_law_1337 rfl 2 rfl ?_
  refine kw_aload_n C dL_law_1338 rfl 0 rfl ?_
  refine kw_iload C dL_law_1339 4 rfl ?_
  refine kw_iconst C (1 : Int32) dL_law_1341 rfl ?_
  refine kw_iadd C dL_law_1342 ?_
  refine kl_sld C hX h1 dL_law_1343 ?_
  refine kw_aload_n C dL_law_1344 rfl 0 rfl ?_
  refine kw_iload C dL_law_1345 4 rfl ?_
  refine kw_iconst C (2 : Int32) dL_law_1347 rfl ?_
  refine kw_iadd C dL_law_1348 ?_
  refine kl_sld C hX h2 dL_law_1349 ?_
  refine kw_aload_n C dL_law_1350 rfl 0 rfl ?_
  refine kw_iload C dL_law_1351 4 rfl ?_
  refine kw_iconst C (3 : Int32) dL_law_1353 rfl ?_
  refine kw_iadd C dL_law_1354 ?_
  refine kl_sld C hX h3 dL_law_1355 ?_
  refine kw_if_eq C 1363 dL_law_1356 rfl (fun c9 => absurd c9 hz) (fun _ => ?_)
  refine kw_iconst C (1 : Int32) dL_law_1359 rfl ?_
  refine kw_goto C 1364 dL_law_1360 rfl ?_
  refine kl_callMI C [.int (xs (Int32.toNatClampNeg (x4 + (1 : Int32)))), .int (xs (Int32.toNatClampNeg (x4 + (2 : Int32)))), .int (1 : Int32)] (kX10_see L D (aM, bM, gB.2.2) t0 (xs (Int32.toNatClampNeg (x4 + (1 : Int32)))) (xs (Int32.toNatClampNeg (x4 + (2 : Int32)))) (1 : Int32) σM _ _ eM) mV_L_173 ⟨rfl, rfl⟩ dd_X10_see ⟨Nat.le_of_ble_eq_true rfl, Nat.le_of_ble_eq_true rfl⟩ rfl (Nat.le_of_ble_eq_true rfl) dL_law_1364 ?_
  refine kw_icmp_eq C 1609 dL_law_1367 rfl (fun _ => ?_) (fun c9 => absurd hr c9)
  exact hk _ _ hrel
set_option maxRecDepth 100000 in
theorem ml_L_174 : Cond.methodLink RL 174 yX9_strike ∈ GT := GT5 70 rfl rfl
theorem mV_L_174 : ∀ w ∈ wsV RL 174 RX9 yX9_strike (wsG yX9_strike cX9_strike 2 (some .int)), w ∈ GT := GT_all (GT_c ml_L_174 (GT_c mint_X9_strike (GT_c msel_X9_strike (GT_c mi_X9 GT_n)))) (GT_c mcode_X9_strike (fun _ h => h))
set_option maxRecDepth 100000 in
theorem ml_L_177 : Cond.methodLink RL 177 yX10_strike ∈ GT := GT8 135 rfl rfl
theorem mV_L_177 : ∀ w ∈ wsV RL 177 RX10 yX10_strike (wsG yX10_strike cX10_strike 2 (some .int)), w ∈ GT := GT_all (GT_c ml_L_177 (GT_c mint_X10_strike (GT_c msel_X10_strike (GT_c mi_X10 GT_n)))) (GT_c mcode_X10_strike (fun _ h => h))
set_option maxRecDepth 100000 in
set_option maxHeartbeats 4000000 in
theorem lc_35 {X : KX SL} {L : Launch} {D : va_G} {t0 : Nat} {gB : GwT} {aM : Nat → Nat} {bM : Nat → Nat → Nat} {qo b Ln : Nat} {xs : Nat → Int32} (REL : St → St → Prop) (C : KC X L D (ttG gB) (wL gB (aM, bM, gB.2.2) qo) room_1 t0 cL_law RL) (hN : X.2.2.2.2.2.2.2.2.2.2.2.2.2.2.1 = 7) (hX : SX X b Ln xs) {σB σM : St} {f : Nat → Int64} {x4 : Int32} (h1 : ixI (x4 + (1 : Int32)) Ln) (hs : SIM (fun q q' => q.1 = q'.1 ∧ REL q.2 q'.2) (fX9_strike σB (xs (Int32.toNatClampNeg (x4 + (1 : Int32))))) (fX10_strike σM (xs (Int32.toNatClampNeg (x4 + (1 : Int32)))))) (hk : ∀ σB1 σM1, REL σB1 σM1 → KW X (σB1, σM1, f) 1609 [(0, .ref b), (1, .ref (gB.1 0)), (2, .ref (aM 0)), (3, .ref qo), (4, .int x4)] []) : KW X (σB, σM, f) 1372 [(0, .ref b), (1, .ref (gB.1 0)), (2, .ref (aM 0)), (3, .ref qo), (4, .int x4)] [] := by
  obtain ⟨⟨rB, σB1⟩, ⟨rM, σM1⟩, eB, eM, hr, hrel⟩ := hs
  refine kw_aload_n C dL_law_1372 rfl 1 rfl ?_
  refine kw_aload_n C dL_law_1373 rfl 0 rfl ?_
  refine kw_iload C dL_law_1374 4 rfl ?_
  refine kw_iconst C (1 : Int32) dL_law_1376 rfl ?_
  refine kw_iadd C dL_law_1377 ?_
  refine kl_sld C hX h1 dL_law_1378 ?_
  refine kl_callBI C [.int (xs (Int32.toNatClampNeg (x4 + (1 : Int32))))] (kX9_strike L D gB t0 (xs (Int32.toNatClampNeg (x4 + (1 : Int32)))) σB _ _ eB) mV_L_174 ⟨rfl, rfl⟩ dd_X9_strike ⟨Nat.le_of_ble_eq_true rfl, Nat.le_of_ble_eq_true rfl⟩ rfl (Nat.le_of_ble_eq_true rfl) dL_law_1379 ?_
  refine kw_aload_n C dL_law_1382 rfl 2 rfl ?_
  refine kw_aload_n C dL_law_1383 rfl 0 rfl ?_
  refine kw_iload C dL_law_1384 4 rfl ?_
  refine kw_iconst C (1 : Int32) dL_law_1386 rfl ?_
  refine kw_iadd C dL_law_1387 ?_
  refine kl_sld C hX h1 dL_law_1388 ?_
  refine kl_callMI C [.int (xs (Int32.toNatClampNeg (x4 + (1 : Int32))))] (kX10_strike L D (aM, bM, gB.2.2) t0 (xs (Int32.toNatClampNeg (x4 + (1 : Int32)))) σM _ _ eM) mV_L_177 ⟨rfl, rfl⟩ dd_X10_strike ⟨Nat.le_of_ble_eq_true rfl, Nat.le_of_ble_eq_true rfl⟩ rfl (Nat.le_of_ble_eq_true rfl) dL_law_1389 ?_
  refine kw_icmp_eq C 1609 dL_law_1392 rfl (fun _ => ?_) (fun c9 => absurd hr c9)
  exact hk _ _ hrel
set_option maxRecDepth 100000 in
theorem ml_L_178 : Cond.methodLink RL 178 yX9_known ∈ GT := GT5 74 rfl rfl
theorem mV_L_178 : ∀ w ∈ wsV RL 178 RX9 yX9_known (wsG yX9_known cX9_known 2 (some .boolean)), w ∈ GT := GT_all (GT_c ml_L_178 (GT_c mint_X9_known (GT_c msel_X9_known (GT_c mi_X9 GT_n)))) (GT_c mcode_X9_known (fun _ h => h))
set_option maxRecDepth 100000 in
theorem ml_L_182 : Cond.methodLink RL 182 yX10_known ∈ GT := GT8 139 rfl rfl
theorem mV_L_182 : ∀ w ∈ wsV RL 182 RX10 yX10_known (wsG yX10_known cX10_known 2 (some .boolean)), w ∈ GT := GT_all (GT_c ml_L_182 (GT_c mint_X10_known (GT_c msel_X10_known (GT_c mi_X10 GT_n)))) (GT_c mcode_X10_known (fun _ h => h))
set_option maxRecDepth 100000 in
set_option maxHeartbeats 4000000 in
theorem lc_36 {X : KX SL} {L : Launch} {D : va_G} {t0 : Nat} {gB : GwT} {aM : Nat → Nat} {bM : Nat → Nat → Nat} {qo b Ln : Nat} {xs : Nat → Int32} (REL : St → St → Prop) (C : KC X L D (ttG gB) (wL gB (aM, bM, gB.2.2) qo) room_1 t0 cL_law RL) (hN : X.2.2.2.2.2.2.2.2.2.2.2.2.2.2.1 = 7) (hX : SX X b Ln xs) {σB σM : St} {f : Nat → Int64} {x4 : Int32} (h1 : ixI (x4 + (1 : Int32)) Ln) (hs : SIM (fun q q' => q.1 = q'.1 ∧ REL q.2 q'.2) (fX9_known σB (xs (Int32.toNatClampNeg (x4 + (1 : Int32))))) (fX10_known σM (xs (Int32.toNatClampNeg (x4 + (1 : Int32)))))) (hk : ∀ σB1 σM1, REL σB1 σM1 → KW X (σB1, σM1, f) 1609 [(0, .ref b), (1, .ref (gB.1 0)), (2, .ref (aM 0)), (3, .ref qo), (4, .int x4)] []) : KW X (σB, σM, f) 1397 [(0, .ref b), (1, .ref (gB.1 0)), (2, .ref (aM 0)), (3, .ref qo), (4, .int x4)] [] := by
  obtain ⟨⟨rB, σB1⟩, ⟨rM, σM1⟩, eB, eM, hr, hrel⟩ := hs
  refine kw_aload_n C dL_law_1397 rfl 1 rfl ?_
  refine kw_aload_n C dL_law_1398 rfl 0 rfl ?_
  refine kw_iload C dL_law_1399 4 rfl ?_
  refine kw_iconst C (1 : Int32) dL_law_1401 rfl ?_
  refine kw_iadd C dL_law_1402 ?_
  refine kl_sld C hX h1 dL_law_1403 ?_
  refine kl_callBI C [.int (xs (Int32.toNatClampNeg (x4 + (1 : Int32))))] (kX9_known L D gB t0 (xs (Int32.toNatClampNeg (x4 + (1 : Int32)))) σB _ _ eB) mV_L_178 ⟨rfl, rfl⟩ dd_X9_known ⟨Nat.le_of_ble_eq_true rfl, Nat.le_of_ble_eq_true rfl⟩ rfl (Nat.le_of_ble_eq_true rfl) dL_law_1404 ?_
  refine kw_aload_n C dL_law_1407 rfl 2 rfl ?_
  refine kw_aload_n C dL_law_1408 rfl 0 rfl ?_
  refine kw_iload C dL_law_1409 4 rfl ?_
  refine kw_iconst C (1 : Int32) dL_law_1411 rfl ?_
  refine kw_iadd C dL_law_1412 ?_
  refine kl_sld C hX h1 dL_law_1413 ?_
  refine kl_callMI C [.int (xs (Int32.toNatClampNeg (x4 + (1 : Int32))))] (kX10_known L D (aM, bM, gB.2.2) t0 (xs (Int32.toNatClampNeg (x4 + (1 : Int32)))) σM _ _ eM) mV_L_182 ⟨rfl, rfl⟩ dd_X10_known ⟨Nat.le_of_ble_eq_true rfl, Nat.le_of_ble_eq_true rfl⟩ rfl (Nat.le_of_ble_eq_true rfl) dL_law_1414 ?_
  refine kw_icmp_eq C 1609 dL_law_1417 rfl (fun _ => ?_) (fun c9 => absurd hr c9)
  exact hk _ _ hrel
set_option maxRecDepth 100000 in
theorem ml_L_183 : Cond.methodLink RL 183 yX9_bounds ∈ GT := GT5 78 rfl rfl
theorem mV_L_183 : ∀ w ∈ wsV RL 183 RX9 yX9_bounds (wsG yX9_bounds cX9_bounds 4 (some .int)), w ∈ GT := GT_all (GT_c ml_L_183 (GT_c mint_X9_bounds (GT_c msel_X9_bounds (GT_c mi_X9 GT_n)))) (GT_c mcode_X9_bounds (fun _ h => h))
set_option maxRecDepth 100000 in
theorem ml_L_186 : Cond.methodLink RL 186 yX10_bounds ∈ GT := GT8 143 rfl rfl
theorem mV_L_186 : ∀ w ∈ wsV RL 186 RX10 yX10_bounds (wsG yX10_bounds cX10_bounds 4 (some .int)), w ∈ GT := GT_all (GT_c ml_L_186 (GT_c mint_X10_bounds (GT_c msel_X10_bounds (GT_c mi_X10 GT_n)))) (GT_c mcode_X10_bounds (fun _ h => h))
set_option maxRecDepth 100000 in
set_option maxHeartbeats 4000000 in
theorem lc_37 {X : KX SL} {L : Launch} {D : va_G} {t0 : Nat} {gB : GwT} {aM : Nat → Nat} {bM : Nat → Nat → Nat} {qo b Ln : Nat} {xs : Nat → Int32} (REL : St → St → Prop) (C : KC X L D (ttG gB) (wL gB (aM, bM, gB.2.2) qo) room_1 t0 cL_law RL) (hN : X.2.2.2.2.2.2.2.2.2.2.2.2.2.2.1 = 7) (hX : SX X b Ln xs) {σB σM : St} {f : Nat → Int64} {x4 : Int32} (h1 : ixI (x4 + (1 : Int32)) Ln) (hs : SIM (fun q q' => q.1 = q'.1 ∧ REL q.2 q'.2) (fX9_bounds σB (xs (Int32.toNatClampNeg (x4 + (1 : Int32))))) (fX10_bounds σM (xs (Int32.toNatClampNeg (x4 + (1 : Int32)))))) (hk : ∀ σB1 σM1, REL σB1 σM1 → KW X (σB1, σM1, f) 1609 [(0, .ref b), (1, .ref (gB.1 0)), (2, .ref (aM 0)), (3, .ref qo), (4, .int x4)] []) : KW X (σB, σM, f) 1422 [(0, .ref b), (1, .ref (gB.1 0)), (2, .ref (aM 0)), (3, .ref qo), (4, .int x4)] [] := by
  obtain ⟨⟨rB, σB1⟩, ⟨rM, σM1⟩, eB, eM, hr, hrel⟩ := hs
  refine kw_aload_n C dL_law_1422 rfl 1 rfl ?_
  refine kw_aload_n C dL_law_1423 rfl 0 rfl ?_
  refine kw_iload C dL_law_1424 4 rfl ?_
  refine kw_iconst C (1 : Int32) dL_law_1426 rfl ?_
  refine kw_iadd C dL_law_1427 ?_
  refine kl_sld C hX h1 dL_law_1428 ?_
  refine kl_callBI C [.int (xs (Int32.toNatClampNeg (x4 + (1 : Int32))))] (kX9_bounds L D gB t0 (xs (Int32.toNatClampNeg (x4 + (1 : Int32)))) σB _ _ eB) mV_L_183 ⟨rfl, rfl⟩ dd_X9_bounds ⟨Nat.le_of_ble_eq_true rfl, Nat.le_of_ble_eq_true rfl⟩ rfl (Nat.le_of_ble_eq_true rfl) dL_law_1429 ?_
  refine kw_aload_n C dL_law_1432 rfl 2 rfl ?_
  refine kw_aload_n C dL_law_1433 rfl 0 rfl ?_
  refine kw_iload C dL_law_1434 4 rfl ?_
  refine kw_iconst C (1 : Int32) dL_law_1436 rfl ?_
  refine kw_iadd C dL_law_1437 ?_
  refine kl_sld C hX h1 dL_law_1438 ?_
  refine kl_callMI C [.int (xs (Int32.toNatClampNeg (x4 + (1 : Int32))))] (kX10_bounds L D (aM, bM, gB.2.2) t0 (xs (Int32.toNatClampNeg (x4 + (1 : Int32)))) σM _ _ eM) mV_L_186 ⟨rfl, rfl⟩ dd_X10_bounds ⟨Nat.le_of_ble_eq_true rfl, Nat.le_of_ble_eq_true rfl⟩ rfl (Nat.le_of_ble_eq_true rfl) dL_law_1439 ?_
  refine kw_icmp_eq C 1609 dL_law_1442 rfl (fun _ => ?_) (fun c9 => absurd hr c9)
  exact hk _ _ hrel
set_option maxRecDepth 100000 in
theorem ml_L_187 : Cond.methodLink RL 187 yX9_chance ∈ GT := GT4 179 rfl rfl
theorem mV_L_187 : ∀ w ∈ wsV RL 187 RX9 yX9_chance (wsG yX9_chance cX9_chance 7 (some .int)), w ∈ GT := GT_all (GT_c ml_L_187 (GT_c mint_X9_chance (GT_c msel_X9_chance (GT_c mi_X9 GT_n)))) (GT_c mcode_X9_chance (fun _ h => h))
set_option maxRecDepth 100000 in
theorem ml_L_190 : Cond.methodLink RL 190 yX10_chance ∈ GT := GT8 159 rfl rfl
theorem mV_L_190 : ∀ w ∈ wsV RL 190 RX10 yX10_chance (wsG yX10_chance cX10_chance 8 (some .int)), w ∈ GT := GT_all (GT_c ml_L_190 (GT_c mint_X10_chance (GT_c msel_X10_chance (GT_c mi_X10 GT_n)))) (GT_c mcode_X10_chance (fun _ h => h))
set_option maxRecDepth 100000 in
set_option maxHeartbeats 4000000 in
theorem lc_38 {X : KX SL} {L : Launch} {D : va_G} {t0 : Nat} {gB : GwT} {aM : Nat → Nat} {bM : Nat → Nat → Nat} {qo b Ln : Nat} {xs : Nat → Int32} (REL : St → St → Prop) (C : KC X L D (ttG gB) (wL gB (aM, bM, gB.2.2) qo) room_1 t0 cL_law RL) (hN : X.2.2.2.2.2.2.2.2.2.2.2.2.2.2.1 = 7) (hX : SX X b Ln xs) {σB σM : St} {f : Nat → Int64} {x4 : Int32} (h1 : ixI (x4 + (1 : Int32)) Ln) (h2 : ixI (x4 + (2 : Int32)) Ln) (h3 : ixI (x4 + (3 : Int32)) Ln) (hs : SIM (fun q q' => q.1 = q'.1 ∧ REL q.2 q'.2) (fX9_chance σB (xs (Int32.toNatClampNeg (x4 + (1 : Int32)))) (xs (Int32.toNatClampNeg (x4 + (2 : Int32)))) (xs (Int32.toNatClampNeg (x4 + (3 : Int32))))) (fX10_chance σM (xs (Int32.toNatClampNeg (x4 + (1 : Int32)))) (xs (Int32.toNatClampNeg (x4 + (2 : Int32)))) (xs (Int32.toNatClampNeg (x4 + (3 : Int32)))))) (hk : ∀ σB1 σM1, REL σB1 σM1 → KW X (σB1, σM1, f) 1609 [(0, .ref b), (1, .ref (gB.1 0)), (2, .ref (aM 0)), (3, .ref qo), (4, .int x4)] []) : KW X (σB, σM, f) 1447 [(0, .ref b), (1, .ref (gB.1 0)), (2, .ref (aM 0)), (3, .ref qo), (4, .int x4)] [] := by
  obtain ⟨⟨rB, σB1⟩, ⟨rM, σM1⟩, eB, eM, hr, hrel⟩ := hs
  refine kw_aload_n C dL_law_1447 rfl 1 rfl ?_
  refine kw_aload_n C dL_law_1448 rfl 0 rfl ?_
  refine kw_iload C dL_law_1449 4 rfl ?_
  refine kw_iconst C (1 : Int32) dL_law_1451 rfl ?_
  refine kw_iadd C dL_law_1452 ?_
  refine kl_sld C hX h1 dL_law_1453 ?_
  refine kw_aload_n C dL_law_1454 rfl 0 rfl ?_
  refine kw_iload C dL_law_1455 4 rfl ?_
  refine kw_iconst C (2 : Int32) dL_law_1457 rfl ?_
  refine kw_iadd C dL_law_1458 ?_
  refine kl_sld C hX h2 dL_law_1459 ?_
  refine kw_aload_n C dL_law_1460 rfl 0 rfl ?_
  refine kw_iload C dL_law_1461 4 rfl ?_
  refine kw_iconst C (3 : Int32) dL_law_1463 rfl ?_
  refine kw_iadd C dL_law_1464 ?_
  refine kl_sld C hX h3 dL_law_1465 ?_
  refine kl_callBI C [.int (xs (Int32.toNatClampNeg (x4 + (1 : Int32)))), .int (xs (Int32.toNatClampNeg (x4 + (2 : Int32)))), .int (xs (Int32.toNatClampNeg (x4 + (3 : Int32))))] (kX9_chance L D gB t0 (xs (Int32.toNatClampNeg (x4 + (1 : Int32)))) (xs (Int32.toNatClampNeg (x4 + (2 : Int32)))) (xs (Int32.toNatClampNeg (x4 + (3 : Int32)))) σB _ _ eB) mV_L_187 ⟨rfl, rfl⟩ dd_X9_chance ⟨Nat.le_of_ble_eq_true rfl, Nat.le_of_ble_eq_true rfl⟩ rfl (Nat.le_of_ble_eq_true rfl) dL_law_1466 ?_
  refine kw_aload_n C dL_law_1469 rfl 2 rfl ?_
  refine kw_aload_n C dL_law_1470 rfl 0 rfl ?_
  refine kw_iload C dL_law_1471 4 rfl ?_
  refine kw_iconst C (1 : Int32) dL_law_1473 rfl ?_
  refine kw_iadd C dL_law_1474 ?_
  refine kl_sld C hX h1 dL_law_1475 ?_
  refine kw_aload_n C dL_law_1476 rfl 0 rfl ?_
  refine kw_iload C dL_law_1477 4 rfl ?_
  refine kw_iconst C (2 : Int32) dL_law_1479 rfl ?_
  refine kw_iadd C dL_law_1480 ?_
  refine kl_sld C hX h2 dL_law_1481 ?_
  refine kw_aload_n C dL_law_1482 rfl 0 rfl ?_
  refine kw_iload C dL_law_1483 4 rfl ?_
  refine kw_iconst C (3 : Int32) dL_law_1485 rfl ?_
  refine kw_iadd C dL_law_1486 ?_
  refine kl_sld C hX h3 dL_law_1487 ?_
  refine kl_callMI C [.int (xs (Int32.toNatClampNeg (x4 + (1 : Int32)))), .int (xs (Int32.toNatClampNeg (x4 + (2 : Int32)))), .int (xs (Int32.toNatClampNeg (x4 + (3 : Int32))))] (kX10_chance L D (aM, bM, gB.2.2) t0 (xs (Int32.toNatClampNeg (x4 + (1 : Int32)))) (xs (Int32.toNatClampNeg (x4 + (2 : Int32)))) (xs (Int32.toNatClampNeg (x4 + (3 : Int32)))) σM _ _ eM) mV_L_190 ⟨rfl, rfl⟩ dd_X10_chance ⟨Nat.le_of_ble_eq_true rfl, Nat.le_of_ble_eq_true rfl⟩ rfl (Nat.le_of_ble_eq_true rfl) dL_law_1488 ?_
  refine kw_icmp_eq C 1609 dL_law_1491 rfl (fun _ => ?_) (fun c9 => absurd hr c9)
  exact hk _ _ hrel
set_option maxRecDepth 100000 in
theorem ml_L_191 : Cond.methodLink RL 191 yX9_tried ∈ GT := GT4 171 rfl rfl
theorem mV_L_191 : ∀ w ∈ wsV RL 191 RX9 yX9_tried (wsG yX9_tried cX9_tried 5 (some .int)), w ∈ GT := GT_all (GT_c ml_L_191 (GT_c mint_X9_tried (GT_c msel_X9_tried (GT_c mi_X9 GT_n)))) (GT_c mcode_X9_tried (fun _ h => h))
set_option maxRecDepth 100000 in
theorem ml_L_194 : Cond.methodLink RL 194 yX10_tried ∈ GT := GT8 163 rfl rfl
theorem mV_L_194 : ∀ w ∈ wsV RL 194 RX10 yX10_tried (wsG yX10_tried cX10_tried 5 (some .int)), w ∈ GT := GT_all (GT_c ml_L_194 (GT_c mint_X10_tried (GT_c msel_X10_tried (GT_c mi_X10 GT_n)))) (GT_c mcode_X10_tried (fun _ h => h))
set_option maxRecDepth 100000 in
set_option maxHeartbeats 4000000 in
theorem lc_39 {X : KX SL} {L : Launch} {D : va_G} {t0 : Nat} {gB : GwT} {aM : Nat → Nat} {bM : Nat → Nat → Nat} {qo b Ln : Nat} {xs : Nat → Int32} (REL : St → St → Prop) (C : KC X L D (ttG gB) (wL gB (aM, bM, gB.2.2) qo) room_1 t0 cL_law RL) (hN : X.2.2.2.2.2.2.2.2.2.2.2.2.2.2.1 = 7) (hX : SX X b Ln xs) {σB σM : St} {f : Nat → Int64} {x4 : Int32} (h1 : ixI (x4 + (1 : Int32)) Ln) (h2 : ixI (x4 + (2 : Int32)) Ln) (h3 : ixI (x4 + (3 : Int32)) Ln) (hs : SIM (fun q q' => q.1 = q'.1 ∧ REL q.2 q'.2) (fX9_tried σB (xs (Int32.toNatClampNeg (x4 + (1 : Int32)))) (xs (Int32.toNatClampNeg (x4 + (2 : Int32)))) (xs (Int32.toNatClampNeg (x4 + (3 : Int32))))) (fX10_tried σM (xs (Int32.toNatClampNeg (x4 + (1 : Int32)))) (xs (Int32.toNatClampNeg (x4 + (2 : Int32)))) (xs (Int32.toNatClampNeg (x4 + (3 : Int32)))))) (hk : ∀ σB1 σM1, REL σB1 σM1 → KW X (σB1, σM1, f) 1609 [(0, .ref b), (1, .ref (gB.1 0)), (2, .ref (aM 0)), (3, .ref qo), (4, .int x4)] []) : KW X (σB, σM, f) 1496 [(0, .ref b), (1, .ref (gB.1 0)), (2, .ref (aM 0)), (3, .ref qo), (4, .int x4)] [] := by
  obtain ⟨⟨rB, σB1⟩, ⟨rM, σM1⟩, eB, eM, hr, hrel⟩ := hs
  refine kw_aload_n C dL_law_1496 rfl 1 rfl ?_
  refine kw_aload_n C dL_law_1497 rfl 0 rfl ?_
  refine kw_iload C dL_law_1498 4 rfl ?_
  refine kw_iconst C (1 : Int32) dL_law_1500 rfl ?_
  refine kw_iadd C dL_law_1501 ?_
  refine kl_sld C hX h1 dL_law_1502 ?_
  refine kw_aload_n C dL_law_1503 rfl 0 rfl ?_
  refine kw_iload C dL_law_1504 4 rfl ?_
  refine kw_iconst C (2 : Int32) dL_law_1506 rfl ?_
  refine kw_iadd C dL_law_1507 ?_
  refine kl_sld C hX h2 dL_law_1508 ?_
  refine kw_aload_n C dL_law_1509 rfl 0 rfl ?_
  refine kw_iload C dL_law_1510 4 rfl ?_
  refine kw_iconst C (3 : Int32) dL_law_1512 rfl ?_
  refine kw_iadd C dL_law_1513 ?_
  refine kl_sld C hX h3 dL_law_1514 ?_
  refine kl_callBI C [.int (xs (Int32.toNatClampNeg (x4 + (1 : Int32)))), .int (xs (Int32.toNatClampNeg (x4 + (2 : Int32)))), .int (xs (Int32.toNatClampNeg (x4 + (3 : Int32))))] (kX9_tried L D gB t0 (xs (Int32.toNatClampNeg (x4 + (1 : Int32)))) (xs (Int32.toNatClampNeg (x4 + (2 : Int32)))) (xs (Int32.toNatClampNeg (x4 + (3 : Int32)))) σB _ _ eB) mV_L_191 ⟨rfl, rfl⟩ dd_X9_tried ⟨Nat.le_of_ble_eq_true rfl, Nat.le_of_ble_eq_true rfl⟩ rfl (Nat.le_of_ble_eq_true rfl) dL_law_1515 ?_
  refine kw_aload_n C dL_law_1518 rfl 2 rfl ?_
  refine kw_aload_n C dL_law_1519 rfl 0 rfl ?_
  refine kw_iload C dL_law_1520 4 rfl ?_
  refine kw_iconst C (1 : Int32) dL_law_1522 rfl ?_
  refine kw_iadd C dL_law_1523 ?_
  refine kl_sld C hX h1 dL_law_1524 ?_
  refine kw_aload_n C dL_law_1525 rfl 0 rfl ?_
  refine kw_iload C dL_law_1526 4 rfl ?_
  refine kw_iconst C (2 : Int32) dL_law_1528 rfl ?_
  refine kw_iadd C dL_law_1529 ?_
  refine kl_sld C hX h2 dL_law_1530 ?_
  refine kw_aload_n C dL_law_1531 rfl 0 rfl ?_
  refine kw_iload C dL_law_1532 4 rfl ?_
  refine kw_iconst C (3 : Int32) dL_law_1534 rfl ?_
  refine kw_iadd C dL_law_1535 ?_
  refine kl_sld C hX h3 dL_law_1536 ?_
  refine kl_callMI C [.int (xs (Int32.toNatClampNeg (x4 + (1 : Int32)))), .int (xs (Int32.toNatClampNeg (x4 + (2 : Int32)))), .int (xs (Int32.toNatClampNeg (x4 + (3 : Int32))))] (kX10_tried L D (aM, bM, gB.2.2) t0 (xs (Int32.toNatClampNeg (x4 + (1 : Int32)))) (xs (Int32.toNatClampNeg (x4 + (2 : Int32)))) (xs (Int32.toNatClampNeg (x4 + (3 : Int32)))) σM _ _ eM) mV_L_194 ⟨rfl, rfl⟩ dd_X10_tried ⟨Nat.le_of_ble_eq_true rfl, Nat.le_of_ble_eq_true rfl⟩ rfl (Nat.le_of_ble_eq_true rfl) dL_law_1537 ?_
  refine kw_icmp_eq C 1609 dL_law_1540 rfl (fun _ => ?_) (fun c9 => absurd hr c9)
  exact hk _ _ hrel
set_option maxRecDepth 100000 in
theorem ml_L_195 : Cond.methodLink RL 195 yX9_undo ∈ GT := GT4 117 rfl rfl
theorem mV_L_195 : ∀ w ∈ wsV RL 195 RX9 yX9_undo (wsG yX9_undo cX9_undo 1 (some .int)), w ∈ GT := GT_all (GT_c ml_L_195 (GT_c mint_X9_undo (GT_c msel_X9_undo (GT_c mi_X9 GT_n)))) (GT_c mcode_X9_undo (fun _ h => h))
set_option maxRecDepth 100000 in
theorem ml_L_198 : Cond.methodLink RL 198 yX10_undo ∈ GT := GT8 167 rfl rfl
theorem mV_L_198 : ∀ w ∈ wsV RL 198 RX10 yX10_undo (wsG yX10_undo cX10_undo 1 (some .int)), w ∈ GT := GT_all (GT_c ml_L_198 (GT_c mint_X10_undo (GT_c msel_X10_undo (GT_c mi_X10 GT_n)))) (GT_c mcode_X10_undo (fun _ h => h))
set_option maxRecDepth 100000 in
set_option maxHeartbeats 4000000 in
theorem lc_40 {X : KX SL} {L : Launch} {D : va_G} {t0 : Nat} {gB : GwT} {aM : Nat → Nat} {bM : Nat → Nat → Nat} {qo b Ln : Nat} {xs : Nat → Int32} (REL : St → St → Prop) (C : KC X L D (ttG gB) (wL gB (aM, bM, gB.2.2) qo) room_1 t0 cL_law RL) (hN : X.2.2.2.2.2.2.2.2.2.2.2.2.2.2.1 = 7) (hX : SX X b Ln xs) {σB σM : St} {f : Nat → Int64} {x4 : Int32}  (hs : SIM (fun q q' => q.1 = q'.1 ∧ REL q.2 q'.2) (fX9_undo σB) (fX10_undo σM)) (hk : ∀ σB1 σM1, REL σB1 σM1 → KW X (σB1, σM1, f) 1609 [(0, .ref b), (1, .ref (gB.1 0)), (2, .ref (aM 0)), (3, .ref qo), (4, .int x4)] []) : KW X (σB, σM, f) 1545 [(0, .ref b), (1, .ref (gB.1 0)), (2, .ref (aM 0)), (3, .ref qo), (4, .int x4)] [] := by
  obtain ⟨⟨rB, σB1⟩, ⟨rM, σM1⟩, eB, eM, hr, hrel⟩ := hs
  refine kw_aload_n C dL_law_1545 rfl 1 rfl ?_
  refine kl_callBI C [] (kX9_undo L D gB t0  σB _ _ eB) mV_L_195 ⟨rfl, rfl⟩ dd_X9_undo ⟨Nat.le_of_ble_eq_true rfl, Nat.le_of_ble_eq_true rfl⟩ rfl (Nat.le_of_ble_eq_true rfl) dL_law_1546 ?_
  refine kw_aload_n C dL_law_1549 rfl 2 rfl ?_
  refine kl_callMI C [] (kX10_undo L D (aM, bM, gB.2.2) t0  σM _ _ eM) mV_L_198 ⟨rfl, rfl⟩ dd_X10_undo ⟨Nat.le_of_ble_eq_true rfl, Nat.le_of_ble_eq_true rfl⟩ rfl (Nat.le_of_ble_eq_true rfl) dL_law_1550 ?_
  refine kw_icmp_eq C 1609 dL_law_1553 rfl (fun _ => ?_) (fun c9 => absurd hr c9)
  exact hk _ _ hrel
set_option maxRecDepth 100000 in
theorem ml_L_199 : Cond.methodLink RL 199 yX9_keep ∈ GT := GT4 125 rfl rfl
theorem mV_L_199 : ∀ w ∈ wsV RL 199 RX9 yX9_keep (wsG yX9_keep cX9_keep 1 (some .int)), w ∈ GT := GT_all (GT_c ml_L_199 (GT_c mint_X9_keep (GT_c msel_X9_keep (GT_c mi_X9 GT_n)))) (GT_c mcode_X9_keep (fun _ h => h))
set_option maxRecDepth 100000 in
theorem ml_L_202 : Cond.methodLink RL 202 yX10_keep ∈ GT := GT8 175 rfl rfl
theorem mV_L_202 : ∀ w ∈ wsV RL 202 RX10 yX10_keep (wsG yX10_keep cX10_keep 2 (some .int)), w ∈ GT := GT_all (GT_c ml_L_202 (GT_c mint_X10_keep (GT_c msel_X10_keep (GT_c mi_X10 GT_n)))) (GT_c mcode_X10_keep (fun _ h => h))
set_option maxRecDepth 100000 in
set_option maxHeartbeats 4000000 in
theorem lc_41 {X : KX SL} {L : Launch} {D : va_G} {t0 : Nat} {gB : GwT} {aM : Nat → Nat} {bM : Nat → Nat → Nat} {qo b Ln : Nat} {xs : Nat → Int32} (REL : St → St → Prop) (C : KC X L D (ttG gB) (wL gB (aM, bM, gB.2.2) qo) room_1 t0 cL_law RL) (hN : X.2.2.2.2.2.2.2.2.2.2.2.2.2.2.1 = 7) (hX : SX X b Ln xs) {σB σM : St} {f : Nat → Int64} {x4 : Int32}  (hs : SIM (fun q q' => q.1 = q'.1 ∧ REL q.2 q'.2) (fX9_keep σB) (fX10_keep σM)) (hk : ∀ σB1 σM1, REL σB1 σM1 → KW X (σB1, σM1, f) 1609 [(0, .ref b), (1, .ref (gB.1 0)), (2, .ref (aM 0)), (3, .ref qo), (4, .int x4)] []) : KW X (σB, σM, f) 1558 [(0, .ref b), (1, .ref (gB.1 0)), (2, .ref (aM 0)), (3, .ref qo), (4, .int x4)] [] := by
  obtain ⟨⟨rB, σB1⟩, ⟨rM, σM1⟩, eB, eM, hr, hrel⟩ := hs
  refine kw_aload_n C dL_law_1558 rfl 1 rfl ?_
  refine kl_callBI C [] (kX9_keep L D gB t0  σB _ _ eB) mV_L_199 ⟨rfl, rfl⟩ dd_X9_keep ⟨Nat.le_of_ble_eq_true rfl, Nat.le_of_ble_eq_true rfl⟩ rfl (Nat.le_of_ble_eq_true rfl) dL_law_1559 ?_
  refine kw_aload_n C dL_law_1562 rfl 2 rfl ?_
  refine kl_callMI C [] (kX10_keep L D (aM, bM, gB.2.2) t0  σM _ _ eM) mV_L_202 ⟨rfl, rfl⟩ dd_X10_keep ⟨Nat.le_of_ble_eq_true rfl, Nat.le_of_ble_eq_true rfl⟩ rfl (Nat.le_of_ble_eq_true rfl) dL_law_1563 ?_
  refine kw_icmp_eq C 1609 dL_law_1566 rfl (fun _ => ?_) (fun c9 => absurd hr c9)
  exact hk _ _ hrel
set_option maxRecDepth 100000 in
theorem ml_L_203 : Cond.methodLink RL 203 yX9_back ∈ GT := GT4 134 rfl rfl
theorem mV_L_203 : ∀ w ∈ wsV RL 203 RX9 yX9_back (wsG yX9_back cX9_back 1 (some .int)), w ∈ GT := GT_all (GT_c ml_L_203 (GT_c mint_X9_back (GT_c msel_X9_back (GT_c mi_X9 GT_n)))) (GT_c mcode_X9_back (fun _ h => h))
set_option maxRecDepth 100000 in
theorem ml_L_206 : Cond.methodLink RL 206 yX10_back ∈ GT := GT8 179 rfl rfl
theorem mV_L_206 : ∀ w ∈ wsV RL 206 RX10 yX10_back (wsG yX10_back cX10_back 2 (some .int)), w ∈ GT := GT_all (GT_c ml_L_206 (GT_c mint_X10_back (GT_c msel_X10_back (GT_c mi_X10 GT_n)))) (GT_c mcode_X10_back (fun _ h => h))
set_option maxRecDepth 100000 in
set_option maxHeartbeats 4000000 in
theorem lc_42 {X : KX SL} {L : Launch} {D : va_G} {t0 : Nat} {gB : GwT} {aM : Nat → Nat} {bM : Nat → Nat → Nat} {qo b Ln : Nat} {xs : Nat → Int32} (REL : St → St → Prop) (C : KC X L D (ttG gB) (wL gB (aM, bM, gB.2.2) qo) room_1 t0 cL_law RL) (hN : X.2.2.2.2.2.2.2.2.2.2.2.2.2.2.1 = 7) (hX : SX X b Ln xs) {σB σM : St} {f : Nat → Int64} {x4 : Int32}  (hs : SIM (fun q q' => q.1 = q'.1 ∧ REL q.2 q'.2) (fX9_back σB) (fX10_back σM)) (hk : ∀ σB1 σM1, REL σB1 σM1 → KW X (σB1, σM1, f) 1609 [(0, .ref b), (1, .ref (gB.1 0)), (2, .ref (aM 0)), (3, .ref qo), (4, .int x4)] []) : KW X (σB, σM, f) 1571 [(0, .ref b), (1, .ref (gB.1 0)), (2, .ref (aM 0)), (3, .ref qo), (4, .int x4)] [] := by
  obtain ⟨⟨rB, σB1⟩, ⟨rM, σM1⟩, eB, eM, hr, hrel⟩ := hs
  refine kw_aload_n C dL_law_1571 rfl 1 rfl ?_
  refine kl_callBI C [] (kX9_back L D gB t0  σB _ _ eB) mV_L_203 ⟨rfl, rfl⟩ dd_X9_back ⟨Nat.le_of_ble_eq_true rfl, Nat.le_of_ble_eq_true rfl⟩ rfl (Nat.le_of_ble_eq_true rfl) dL_law_1572 ?_
  refine kw_aload_n C dL_law_1575 rfl 2 rfl ?_
  refine kl_callMI C [] (kX10_back L D (aM, bM, gB.2.2) t0  σM _ _ eM) mV_L_206 ⟨rfl, rfl⟩ dd_X10_back ⟨Nat.le_of_ble_eq_true rfl, Nat.le_of_ble_eq_true rfl⟩ rfl (Nat.le_of_ble_eq_true rfl) dL_law_1576 ?_
  refine kw_icmp_eq C 1609 dL_law_1579 rfl (fun _ => ?_) (fun c9 => absurd hr c9)
  exact hk _ _ hrel
set_option maxRecDepth 100000 in
theorem ml_L_207 : Cond.methodLink RL 207 yX9_count ∈ GT := GT3 215 rfl rfl
theorem mV_L_207 : ∀ w ∈ wsV RL 207 RX9 yX9_count (wsG yX9_count cX9_count 2 (some .int)), w ∈ GT := GT_all (GT_c ml_L_207 (GT_c mint_X9_count (GT_c msel_X9_count (GT_c mi_X9 GT_n)))) (GT_c mcode_X9_count (fun _ h => h))
set_option maxRecDepth 100000 in
theorem ml_L_210 : Cond.methodLink RL 210 yX10_count ∈ GT := GT8 183 rfl rfl
theorem mV_L_210 : ∀ w ∈ wsV RL 210 RX10 yX10_count (wsG yX10_count cX10_count 2 (some .int)), w ∈ GT := GT_all (GT_c ml_L_210 (GT_c mint_X10_count (GT_c msel_X10_count (GT_c mi_X10 GT_n)))) (GT_c mcode_X10_count (fun _ h => h))
set_option maxRecDepth 100000 in
set_option maxHeartbeats 4000000 in
theorem lc_43 {X : KX SL} {L : Launch} {D : va_G} {t0 : Nat} {gB : GwT} {aM : Nat → Nat} {bM : Nat → Nat → Nat} {qo b Ln : Nat} {xs : Nat → Int32} (REL : St → St → Prop) (C : KC X L D (ttG gB) (wL gB (aM, bM, gB.2.2) qo) room_1 t0 cL_law RL) (hN : X.2.2.2.2.2.2.2.2.2.2.2.2.2.2.1 = 7) (hX : SX X b Ln xs) {σB σM : St} {f : Nat → Int64} {x4 : Int32} (h1 : ixI (x4 + (1 : Int32)) Ln) (hs : SIM (fun q q' => q = q'.1 ∧ REL σB q'.2) (fX9_count σB (xs (Int32.toNatClampNeg (x4 + (1 : Int32))))) (fX10_count σM (xs (Int32.toNatClampNeg (x4 + (1 : Int32)))))) (hk : ∀ σB1 σM1, REL σB1 σM1 → KW X (σB1, σM1, f) 1609 [(0, .ref b), (1, .ref (gB.1 0)), (2, .ref (aM 0)), (3, .ref qo), (4, .int x4)] []) : KW X (σB, σM, f) 1584 [(0, .ref b), (1, .ref (gB.1 0)), (2, .ref (aM 0)), (3, .ref qo), (4, .int x4)] [] := by
  obtain ⟨rB, ⟨rM, σM1⟩, eB, eM, hr, hrel⟩ := hs
  refine kw_aload_n C dL_law_1584 rfl 1 rfl ?_
  refine kw_aload_n C dL_law_1585 rfl 0 rfl ?_
  refine kw_iload C dL_law_1586 4 rfl ?_
  refine kw_iconst C (1 : Int32) dL_law_1588 rfl ?_
  refine kw_iadd C dL_law_1589 ?_
  refine kl_sld C hX h1 dL_law_1590 ?_
  refine kl_callBI C [.int (xs (Int32.toNatClampNeg (x4 + (1 : Int32))))] (kX9_count L D gB t0 (xs (Int32.toNatClampNeg (x4 + (1 : Int32)))) σB _ eB) mV_L_207 ⟨rfl, rfl⟩ dd_X9_count ⟨Nat.le_of_ble_eq_true rfl, Nat.le_of_ble_eq_true rfl⟩ rfl (Nat.le_of_ble_eq_true rfl) dL_law_1591 ?_
  refine kw_aload_n C dL_law_1594 rfl 2 rfl ?_
  refine kw_aload_n C dL_law_1595 rfl 0 rfl ?_
  refine kw_iload C dL_law_1596 4 rfl ?_
  refine kw_iconst C (1 : Int32) dL_law_1598 rfl ?_
  refine kw_iadd C dL_law_1599 ?_
  refine kl_sld C hX h1 dL_law_1600 ?_
  refine kl_callMI C [.int (xs (Int32.toNatClampNeg (x4 + (1 : Int32))))] (kX10_count L D (aM, bM, gB.2.2) t0 (xs (Int32.toNatClampNeg (x4 + (1 : Int32)))) σM _ _ eM) mV_L_210 ⟨rfl, rfl⟩ dd_X10_count ⟨Nat.le_of_ble_eq_true rfl, Nat.le_of_ble_eq_true rfl⟩ rfl (Nat.le_of_ble_eq_true rfl) dL_law_1601 ?_
  refine kw_icmp_eq C 1609 dL_law_1604 rfl (fun _ => ?_) (fun c9 => absurd hr c9)
  exact hk _ _ hrel
