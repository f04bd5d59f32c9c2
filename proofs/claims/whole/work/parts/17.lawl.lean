def XN {S : Type} (X : KX S) (cn sn : Nat) : KX S := match X with
  | (p, l, e, R, s, m, args, below, meth, c, D, tys, wf, A, nL, Q, tW, _, _) => (p, l, e, R, s, m, args, below, meth, c, D, tys, wf, A, nL, Q, tW, cn, sn)
theorem kw_widen {S : Type} {X : KX S} {σ : S} {pc cn sn cn' sn' : Nat} {lv : List (Nat × Value)} {st : List Value} (h1 : cn ≤ cn') (h2 : sn ≤ sn') (k : KW (XN X cn' sn') σ pc lv st) : KW (XN X cn sn) σ pc lv st := by
  obtain ⟨p, l, e, R, s, m, args, below, meth, c, D, tys, wf, A, nL, Q, tW, cn, sn⟩ := X
  exact fun H locs ls hP hD hS hl => W.widen h1 h2 (k H locs ls hP hD hS hl)
def ST0 (REL : St → St → Prop) : Prop := ∀ (σB σM : St) (a0 a1 a2 a3 a4 : Int32), REL σB σM → SIM (fun q q' => q.1 = q'.1 ∧ REL q.2 q'.2) (fX9_feed σB a0 a1 a2 a3 a4) (fX10_feed σM a0 a1 a2 a3 a4)
def ST1 (REL : St → St → Prop) : Prop := ∀ (σB σM : St) (a0 : Int32), REL σB σM → SIM (fun q q' => q.1 = q'.1 ∧ REL q.2 q'.2) (fX9_text σB a0) (fX10_text σM a0)
def ST2 (REL : St → St → Prop) : Prop := ∀ (σB σM : St) (a0 : Int32), REL σB σM → SIM (fun q q' => q = q'.1 ∧ REL σB q'.2) (fX9_fault σB a0) (fX10_fault σM a0)
def ST3 (REL : St → St → Prop) : Prop := ∀ (σB σM : St) (a0 a1 : Int32), REL σB σM → SIM (fun q q' => q = q'.1 ∧ REL σB q'.2) (fX9_named σB a0 a1) (fX10_named σM a0 a1)
def ST5 (REL : St → St → Prop) : Prop := ∀ (σB σM : St) (a0 a1 : Int32), REL σB σM → SIM (fun q q' => q = q'.1 ∧ REL σB q'.2) (fX9_part σB a0 a1) (fX10_part σM a0 a1)
def ST6 (REL : St → St → Prop) : Prop := ∀ (σB σM : St) (a0 a1 : Int32), REL σB σM → SIM (fun q q' => q.1 = q'.1 ∧ REL q.2 q'.2) (fX9_law σB a0 a1) (fX10_law σM a0 a1)
def ST7 (REL : St → St → Prop) : Prop := ∀ (σB σM : St) (a0 : Int32), REL σB σM → SIM (fun q q' => q.1 = q'.1 ∧ REL q.2 q'.2) (fX9_nod σB a0) (fX10_nod σM a0)
def ST8 (REL : St → St → Prop) : Prop := ∀ (σB σM : St) (a0 a1 : Int32), REL σB σM → SIM (fun q q' => q.1 = q'.1 ∧ REL q.2 q'.2) (fX9_marry σB a0 a1) (fX10_marry σM a0 a1)
def ST9 (REL : St → St → Prop) : Prop := ∀ (σB σM : St) (a0 a1 : Int32), REL σB σM → SIM (fun q q' => q.1 = q'.1 ∧ REL q.2 q'.2) (fX9_will σB a0 a1) (fX10_will σM a0 a1)
def ST10 (REL : St → St → Prop) : Prop := ∀ (σB σM : St) (a0 : Int32), REL σB σM → SIM (fun q q' => q.1 = q'.1 ∧ REL q.2 q'.2) (fX9_child σB a0) (fX10_child σM a0)
def ST11 (REL : St → St → Prop) : Prop := ∀ (σB σM : St) (a0 : Int32), REL σB σM → SIM (fun q q' => q.1 = q'.1 ∧ REL q.2 q'.2) (fX9_go σB a0) (fX10_go σM a0)
def ST12 (REL : St → St → Prop) : Prop := ∀ (σB σM : St) (a0 a1 : Int32), REL σB σM → SIM (fun q q' => q.1 = q'.1 ∧ REL q.2 q'.2) (fX9_ahead σB a0 a1) (fX10_ahead σM a0 a1)
def ST13 (REL : St → St → Prop) : Prop := ∀ (σB σM : St) (a0 : Int32), REL σB σM → SIM (fun q q' => q.1 = q'.1 ∧ REL q.2 q'.2) (fX9_falls σB a0) (fX10_falls σM a0)
def ST14 (REL : St → St → Prop) : Prop := ∀ (σB σM : St) (a0 : Int32), REL σB σM → SIM (fun q q' => q.1 = q'.1 ∧ REL q.2 q'.2) (fX9_letGo σB a0) (fX10_letGo σM a0)
def ST15 (REL : St → St → Prop) : Prop := ∀ (σB σM : St), REL σB σM → SIM (fun q q' => q = q'.1 ∧ REL σB q'.2) (fX9_outbid σB ) (fX10_outbid σM )
def ST16 (REL : St → St → Prop) : Prop := ∀ (σB σM : St) (a0 a1 a2 : Int32), REL σB σM → SIM (fun q q' => q = q'.1 ∧ REL σB q'.2) (fX9_against σB a0 a1 a2) (fX10_against σM a0 a1 a2)
def ST17 (REL : St → St → Prop) : Prop := ∀ (σB σM : St), REL σB σM → SIM (fun q q' => q = q'.1 ∧ REL σB q'.2) (fX9_still σB ) (fX10_still σM )
def ST18 (REL : St → St → Prop) : Prop := ∀ (σB σM : St), REL σB σM → SIM (fun q q' => q.1 = q'.1 ∧ REL q.2 q'.2) (fX9_most σB ) (fX10_most σM )
def ST19 (REL : St → St → Prop) : Prop := ∀ (σB σM : St), REL σB σM → SIM (fun q q' => q = q'.1 ∧ REL σB q'.2) (fX9_same σB ) (fX10_same σM )
def ST20 (REL : St → St → Prop) : Prop := ∀ (σB σM : St), REL σB σM → SIM (fun q q' => q = q'.1 ∧ REL σB q'.2) (fX9_noneLeft σB ) (fX10_noneLeft σM )
def ST21 (REL : St → St → Prop) : Prop := ∀ (σB σM : St) (a0 a1 a2 : Int32), REL σB σM → SIM (fun q q' => q.1 = q'.1 ∧ REL q.2 q'.2) (fX9_lives σB a0 a1 a2) (fX10_lives σM a0 a1 a2)
def ST22 (REL : St → St → Prop) : Prop := ∀ (σB σM : St) (a0 a1 : Int32), REL σB σM → SIM (fun q q' => q = q'.1 ∧ REL σB q'.2) (fX9_shares σB a0 a1) (fX10_shares σM a0 a1)
def ST23 (REL : St → St → Prop) : Prop := ∀ (σB σM : St), REL σB σM → SIM (fun q q' => q.1 = q'.1 ∧ REL q.2 q'.2) (fX9_turn σB ) (fX10_turn σM )
def ST24 (REL : St → St → Prop) : Prop := ∀ (σB σM : St) (a0 a1 a2 a3 a4 : Int32), REL σB σM → SIM (fun q q' => q = q'.1 ∧ REL σB q'.2) (fX9_stays σB a0 a1 a2 a3 a4) (fX10_stays σM a0 a1 a2 a3 a4)
def ST25 (REL : St → St → Prop) : Prop := ∀ (σB σM : St) (a0 : Int32), REL σB σM → SIM (fun q q' => q.1 = q'.1 ∧ REL q.2 q'.2) (fX9_nextRaise σB a0) (fX10_nextRaise σM a0)
def ST26 (REL : St → St → Prop) : Prop := ∀ (σB σM : St) (a0 : Int32), REL σB σM → SIM (fun q q' => q = q'.1 ∧ REL σB q'.2) (fX9_rival σB a0) (fX10_rival σM a0)
def ST27 (REL : St → St → Prop) : Prop := ∀ (σB σM : St) (a0 : Int32), REL σB σM → SIM (fun q q' => q.1 = q'.1 ∧ REL q.2 q'.2) (fX9_left σB a0) (fX10_left σM a0)
def ST28 (REL : St → St → Prop) : Prop := ∀ (σB σM : St) (a0 a1 a2 : Int32), REL σB σM → SIM (fun q q' => q.1 = q'.1 ∧ REL q.2 q'.2) (fX9_when σB a0 a1 a2) (fX10_when σM a0 a1 a2)
def ST29 (REL : St → St → Prop) : Prop := ∀ (σB σM : St) (a0 : Int32), REL σB σM → SIM (fun q q' => q.1 = q'.1 ∧ REL q.2 q'.2) (fX9_match σB a0) (fX10_match σM a0)
def ST30 (REL : St → St → Prop) : Prop := ∀ (σB σM : St), REL σB σM → SIM (fun q q' => q.1 = q'.1 ∧ REL q.2 q'.2) (fX9_atMost σB ) (fX10_atMost σM )
def ST31 (REL : St → St → Prop) : Prop := ∀ (σB σM : St) (a0 : Int32), REL σB σM → SIM (fun q q' => q = q'.1 ∧ REL σB q'.2) (fX9_sameIn σB a0) (fX10_sameIn σM a0)
def ST32 (REL : St → St → Prop) : Prop := ∀ (σB σM : St) (a0 : Int32), REL σB σM → SIM (fun q q' => q = q'.1 ∧ REL σB q'.2) (fX9_nextPart σB a0) (fX10_nextPart σM a0)
def ST33 (REL : St → St → Prop) : Prop := ∀ (σB σM : St) (a0 a1 : Int32), REL σB σM → SIM (fun q q' => q.1 = q'.1 ∧ REL q.2 q'.2) (fX9_hush σB a0 a1) (fX10_hush σM a0 a1)
def ST34 (REL : St → St → Prop) : Prop := ∀ (σB σM : St) (a0 a1 a2 : Int32) (hz : a2 = 0 ∨ a2 = 1), REL σB σM → SIM (fun q q' => q.1 = q'.1 ∧ REL q.2 q'.2) (fX9_see σB a0 a1 a2) (fX10_see σM a0 a1 a2)
def ST35 (REL : St → St → Prop) : Prop := ∀ (σB σM : St) (a0 : Int32), REL σB σM → SIM (fun q q' => q.1 = q'.1 ∧ REL q.2 q'.2) (fX9_strike σB a0) (fX10_strike σM a0)
def ST36 (REL : St → St → Prop) : Prop := ∀ (σB σM : St) (a0 : Int32), REL σB σM → SIM (fun q q' => q.1 = q'.1 ∧ REL q.2 q'.2) (fX9_known σB a0) (fX10_known σM a0)
def ST37 (REL : St → St → Prop) : Prop := ∀ (σB σM : St) (a0 : Int32), REL σB σM → SIM (fun q q' => q.1 = q'.1 ∧ REL q.2 q'.2) (fX9_bounds σB a0) (fX10_bounds σM a0)
def ST38 (REL : St → St → Prop) : Prop := ∀ (σB σM : St) (a0 a1 a2 : Int32), REL σB σM → SIM (fun q q' => q.1 = q'.1 ∧ REL q.2 q'.2) (fX9_chance σB a0 a1 a2) (fX10_chance σM a0 a1 a2)
def ST39 (REL : St → St → Prop) : Prop := ∀ (σB σM : St) (a0 a1 a2 : Int32), REL σB σM → SIM (fun q q' => q.1 = q'.1 ∧ REL q.2 q'.2) (fX9_tried σB a0 a1 a2) (fX10_tried σM a0 a1 a2)
def ST40 (REL : St → St → Prop) : Prop := ∀ (σB σM : St), REL σB σM → SIM (fun q q' => q.1 = q'.1 ∧ REL q.2 q'.2) (fX9_undo σB ) (fX10_undo σM )
def ST41 (REL : St → St → Prop) : Prop := ∀ (σB σM : St), REL σB σM → SIM (fun q q' => q.1 = q'.1 ∧ REL q.2 q'.2) (fX9_keep σB ) (fX10_keep σM )
def ST42 (REL : St → St → Prop) : Prop := ∀ (σB σM : St), REL σB σM → SIM (fun q q' => q.1 = q'.1 ∧ REL q.2 q'.2) (fX9_back σB ) (fX10_back σM )
def ST43 (REL : St → St → Prop) : Prop := ∀ (σB σM : St) (a0 : Int32), REL σB σM → SIM (fun q q' => q = q'.1 ∧ REL σB q'.2) (fX9_count σB a0) (fX10_count σM a0)
def STH (cN sN : Nat) (REL : St → St → Prop) (X : KX SL) (gB : GwT) (aM : Nat → Nat) (qo b Ln : Nat) : Prop := ∀ (k : Nat) (σB σM : St) (f : Nat → Int64) (x4 : Int32), k < 512 → REL σB σM → ixI (x4 + (1 : Int32)) Ln → ixI (x4 + (2 : Int32)) Ln → (∀ (σB1 σM1 : St) (f1 : Nat → Int64), REL σB1 σM1 → KW (XN X (cN + 2 * (k + 1)) (sN + 16 * (k + 1))) (σB1, σM1, f1) 1609 [(0, .ref b), (1, .ref (gB.1 0)), (2, .ref (aM 0)), (3, .ref qo), (4, .int x4)] []) → KW (XN X (cN + 2 * k) (sN + 16 * k)) (σB, σM, f) 392 [(0, .ref b), (1, .ref (gB.1 0)), (2, .ref (aM 0)), (3, .ref qo), (4, .int x4)] []
set_option maxRecDepth 100000 in
set_option maxHeartbeats 16000000 in
theorem law_loop {X : KX SL} {L : Launch} {D : va_G} {t0 : Nat} {gB : GwT} {aM : Nat → Nat} {bM : Nat → Nat → Nat} {qo b Ln cN sN : Nat} {xs : Nat → Int32} (REL : St → St → Prop) (hcN : cN + 1024 ≤ 1143) (hsN : sN + 8192 ≤ 12563) (hLn : Ln ≤ 3072) (C0 : ∀ k : Nat, k ≤ 512 → KC (XN X (cN + 2 * k) (sN + 16 * k)) L D (ttG gB) (wL gB (aM, bM, gB.2.2) qo) room_1 t0 cL_law RL) (hN0 : ∀ k : Nat, (XN X (cN + 2 * k) (sN + 16 * k)).2.2.2.2.2.2.2.2.2.2.2.2.2.2.1 = 7) (hX0 : ∀ k : Nat, SX (XN X (cN + 2 * k) (sN + 16 * k)) b Ln xs) (hret : ∀ (cn sn : Nat) (u : SL) (lv : List (Nat × Value)), cn ≤ 1143 → sn ≤ 12563 → KW (XN X cn sn) u 1616 lv [.int 1]) (s0 : ST0 REL) (s1 : ST1 REL) (s2 : ST2 REL) (s3 : ST3 REL) (s5 : ST5 REL) (s6 : ST6 REL) (s7 : ST7 REL) (s8 : ST8 REL) (s9 : ST9 REL) (s10 : ST10 REL) (s11 : ST11 REL) (s12 : ST12 REL) (s13 : ST13 REL) (s14 : ST14 REL) (s15 : ST15 REL) (s16 : ST16 REL) (s17 : ST17 REL) (s18 : ST18 REL) (s19 : ST19 REL) (s20 : ST20 REL) (s21 : ST21 REL) (s22 : ST22 REL) (s23 : ST23 REL) (s24 : ST24 REL) (s25 : ST25 REL) (s26 : ST26 REL) (s27 : ST27 REL) (s28 : ST28 REL) (s29 : ST29 REL) (s30 : ST30 REL) (s31 : ST31 REL) (s32 : ST32 REL) (s33 : ST33 REL) (s34 : ST34 REL) (s35 : ST35 REL) (s36 : ST36 REL) (s37 : ST37 REL) (s38 : ST38 REL) (s39 : ST39 REL) (s40 : ST40 REL) (s41 : ST41 REL) (s42 : ST42 REL) (s43 : ST43 REL) (sH : STH cN sN REL X gB aM qo b Ln) (σB σM : St) (f : Nat → Int64) (hrel : REL σB σM) : KW (XN X cN sN) (σB, σM, f) 23 [(0, .ref b), (1, .ref (gB.1 0)), (2, .ref (aM 0)), (3, .ref qo), (4, .int (0 : Int32))] [] := by
  have key : ∀ (j k : Nat), j + k = 513 → ∀ (σB σM : St) (f : Nat → Int64) (x4 : Int32), x4 = nI (6 * k) → 6 * k ≤ 3072 → REL σB σM → KW (XN X (cN + 2 * k) (sN + 16 * k)) (σB, σM, f) 23 [(0, .ref b), (1, .ref (gB.1 0)), (2, .ref (aM 0)), (3, .ref qo), (4, .int x4)] [] := by
    intro j
    induction j with
    | zero => intro k hk σB σM f x4 hx4 h6; omega
    | succ j ih =>
      intro k hk σB σM f x4 hx4 h6 hrel
      have C := C0 k (by omega)
      have hX := hX0 k
      refine kw_iload C dL_law_23 4 rfl ?_
      refine kw_aload_n C dL_law_25 rfl 0 rfl ?_
      refine kl_slen C hX dL_law_26 ?_
      refine kw_bipush C (6 : Int32) dL_law_27 rfl ?_
      refine kw_isub C dL_law_29 ?_
      refine kw_icmp_gt C 1615 dL_law_30 rfl (fun c9 => ?_) (fun c9 => ?_)
      · refine kw_iconst C (1 : Int32) dL_law_1615 rfl ?_
        exact hret _ _ _ _ (by omega) (by omega)
      · have hb : 6 * k + 6 ≤ Ln := by
          subst hx4
          have e1 : (Int32.ofNat Ln - 6).toInt = (Ln : Int) - 6 := by
            rw [show (Int32.ofNat Ln - 6 : Int32) = nI Ln - nI 6 from rfl, pk_sub_toInt (by omega) (by omega)]
            rfl
          rw [Int32.lt_iff_toInt_lt, e1, nI_toInt (by omega)] at c9
          omega
        have hin : ∀ t : Nat, t ≤ 5 → ixI (x4 + nI t) Ln := by
          intro t ht
          subst hx4
          rw [nI_add]
          refine ⟨?_, ?_⟩ <;> rw [nI_toInt (by omega)] <;> omega
        have hin0 : ixI x4 Ln := by
          subst hx4
          refine ⟨?_, ?_⟩ <;> rw [nI_toInt (by omega)] <;> omega
        have hk : ∀ (σB1 σM1 : St) (f1 : Nat → Int64), REL σB1 σM1 → KW (XN X (cN + 2 * (k + 1)) (sN + 16 * (k + 1))) (σB1, σM1, f1) 1609 [(0, .ref b), (1, .ref (gB.1 0)), (2, .ref (aM 0)), (3, .ref qo), (4, .int x4)] [] := by
          intro σB1 σM1 f1 hr1
          have C := C0 (k + 1) (by omega)
          refine kw_iinc C (x4 + 6) dL_law_1609 4 rfl rfl (hN0 _) (Nat.le_of_ble_eq_true rfl) [(4, .int (x4 + 6)), (0, .ref b), (1, .ref (gB.1 0)), (2, .ref (aM 0)), (3, .ref qo)] rfl ?_
          refine kw_goto C 23 dL_law_1612 rfl ?_
          refine kw_sub [1, 2, 3, 4, 0] _ rfl ?_
          by_cases h7 : 6 * (k + 1) ≤ 3072
          · exact ih (k + 1) (by omega) σB1 σM1 f1 (x4 + 6) (by rw [hx4, show (6 : Int32) = nI 6 from rfl, nI_add]; exact congrArg nI (by omega)) h7 hr1
          · omega
        have hk0 : ∀ (σB1 σM1 : St), REL σB1 σM1 → KW (XN X (cN + 2 * k) (sN + 16 * k)) (σB1, σM1, f) 1609 [(0, .ref b), (1, .ref (gB.1 0)), (2, .ref (aM 0)), (3, .ref qo), (4, .int x4)] [] := fun a b c => kw_widen (by omega) (by omega) (hk a b f c)
        refine kw_aload_n C dL_law_33 rfl 0 rfl ?_
        refine kw_iload C dL_law_34 4 rfl ?_
        refine kl_sld C hX hin0 dL_law_36 ?_
        refine kw_bipush C (63 : Int32) dL_law_37 rfl ?_
        refine kw_iand C dL_law_39 ?_
        generalize xs (Int32.toNatClampNeg x4) &&& 63 = y9
        by_cases c0 : y9 = (0 : Int32)
        · refine kw_tabIn C 232 dL_law_40 c0 (by decide) (by decide) rfl rfl ?_
          exact lc_0 REL C (hN0 _) hX (hin 1 (by omega)) (hin 2 (by omega)) (hin 3 (by omega)) (hin 4 (by omega)) (hin 5 (by omega)) (s0 σB σM _ _ _ _ _ hrel) hk0
        by_cases c1 : y9 = (1 : Int32)
        · refine kw_tabIn C 305 dL_law_40 c1 (by decide) (by decide) rfl rfl ?_
          exact lc_1 REL C (hN0 _) hX (hin 1 (by omega)) (s1 σB σM _ hrel) hk0
        by_cases c2 : y9 = (2 : Int32)
        · refine kw_tabIn C 330 dL_law_40 c2 (by decide) (by decide) rfl rfl ?_
          exact lc_2 REL C (hN0 _) hX (hin 1 (by omega)) (s2 σB σM _ hrel) hk0
        by_cases c3 : y9 = (3 : Int32)
        · refine kw_tabIn C 355 dL_law_40 c3 (by decide) (by decide) rfl rfl ?_
          exact lc_3 REL C (hN0 _) hX (hin 1 (by omega)) (hin 2 (by omega)) (s3 σB σM _ _ hrel) hk0
        by_cases c4 : y9 = (4 : Int32)
        · refine kw_tabIn C 392 dL_law_40 c4 (by decide) (by decide) rfl rfl ?_
          exact sH k σB σM f x4 (by omega) hrel (hin 1 (by omega)) (hin 2 (by omega)) hk
        by_cases c5 : y9 = (5 : Int32)
        · refine kw_tabIn C 460 dL_law_40 c5 (by decide) (by decide) rfl rfl ?_
          exact lc_5 REL C (hN0 _) hX (hin 1 (by omega)) (hin 2 (by omega)) (s5 σB σM _ _ hrel) hk0
        by_cases c6 : y9 = (6 : Int32)
        · refine kw_tabIn C 497 dL_law_40 c6 (by decide) (by decide) rfl rfl ?_
          exact lc_6 REL C (hN0 _) hX (hin 1 (by omega)) (hin 2 (by omega)) (s6 σB σM _ _ hrel) hk0
        by_cases c7 : y9 = (7 : Int32)
        · refine kw_tabIn C 535 dL_law_40 c7 (by decide) (by decide) rfl rfl ?_
          exact lc_7 REL C (hN0 _) hX (hin 1 (by omega)) (s7 σB σM _ hrel) hk0
        by_cases c8 : y9 = (8 : Int32)
        · refine kw_tabIn C 560 dL_law_40 c8 (by decide) (by decide) rfl rfl ?_
          exact lc_8 REL C (hN0 _) hX (hin 1 (by omega)) (hin 2 (by omega)) (s8 σB σM _ _ hrel) hk0
        by_cases c9 : y9 = (9 : Int32)
        · refine kw_tabIn C 597 dL_law_40 c9 (by decide) (by decide) rfl rfl ?_
          exact lc_9 REL C (hN0 _) hX (hin 1 (by omega)) (hin 2 (by omega)) (s9 σB σM _ _ hrel) hk0
        by_cases c10 : y9 = (10 : Int32)
        · refine kw_tabIn C 634 dL_law_40 c10 (by decide) (by decide) rfl rfl ?_
          exact lc_10 REL C (hN0 _) hX (hin 1 (by omega)) (s10 σB σM _ hrel) hk0
        by_cases c11 : y9 = (11 : Int32)
        · refine kw_tabIn C 659 dL_law_40 c11 (by decide) (by decide) rfl rfl ?_
          exact lc_11 REL C (hN0 _) hX (hin 1 (by omega)) (s11 σB σM _ hrel) hk0
        by_cases c12 : y9 = (12 : Int32)
        · refine kw_tabIn C 684 dL_law_40 c12 (by decide) (by decide) rfl rfl ?_
          exact lc_12 REL C (hN0 _) hX (hin 1 (by omega)) (hin 2 (by omega)) (s12 σB σM _ _ hrel) hk0
        by_cases c13 : y9 = (13 : Int32)
        · refine kw_tabIn C 721 dL_law_40 c13 (by decide) (by decide) rfl rfl ?_
          exact lc_13 REL C (hN0 _) hX (hin 1 (by omega)) (s13 σB σM _ hrel) hk0
        by_cases c14 : y9 = (14 : Int32)
        · refine kw_tabIn C 746 dL_law_40 c14 (by decide) (by decide) rfl rfl ?_
          exact lc_14 REL C (hN0 _) hX (hin 1 (by omega)) (s14 σB σM _ hrel) hk0
        by_cases c15 : y9 = (15 : Int32)
        · refine kw_tabIn C 771 dL_law_40 c15 (by decide) (by decide) rfl rfl ?_
          exact lc_15 REL C (hN0 _) hX (s15 σB σM hrel) hk0
        by_cases c16 : y9 = (16 : Int32)
        · refine kw_tabIn C 784 dL_law_40 c16 (by decide) (by decide) rfl rfl ?_
          exact lc_16 REL C (hN0 _) hX (hin 1 (by omega)) (hin 2 (by omega)) (hin 3 (by omega)) (s16 σB σM _ _ _ hrel) hk0
        by_cases c17 : y9 = (17 : Int32)
        · refine kw_tabIn C 833 dL_law_40 c17 (by decide) (by decide) rfl rfl ?_
          exact lc_17 REL C (hN0 _) hX (s17 σB σM hrel) hk0
        by_cases c18 : y9 = (18 : Int32)
        · refine kw_tabIn C 846 dL_law_40 c18 (by decide) (by decide) rfl rfl ?_
          exact lc_18 REL C (hN0 _) hX (s18 σB σM hrel) hk0
        by_cases c19 : y9 = (19 : Int32)
        · refine kw_tabIn C 859 dL_law_40 c19 (by decide) (by decide) rfl rfl ?_
          exact lc_19 REL C (hN0 _) hX (s19 σB σM hrel) hk0
        by_cases c20 : y9 = (20 : Int32)
        · refine kw_tabIn C 872 dL_law_40 c20 (by decide) (by decide) rfl rfl ?_
          exact lc_20 REL C (hN0 _) hX (s20 σB σM hrel) hk0
        by_cases c21 : y9 = (21 : Int32)
        · refine kw_tabIn C 885 dL_law_40 c21 (by decide) (by decide) rfl rfl ?_
          exact lc_21 REL C (hN0 _) hX (hin 1 (by omega)) (hin 2 (by omega)) (hin 3 (by omega)) (s21 σB σM _ _ _ hrel) hk0
        by_cases c22 : y9 = (22 : Int32)
        · refine kw_tabIn C 935 dL_law_40 c22 (by decide) (by decide) rfl rfl ?_
          exact lc_22 REL C (hN0 _) hX (hin 1 (by omega)) (hin 2 (by omega)) (s22 σB σM _ _ hrel) hk0
        by_cases c23 : y9 = (23 : Int32)
        · refine kw_tabIn C 972 dL_law_40 c23 (by decide) (by decide) rfl rfl ?_
          exact lc_23 REL C (hN0 _) hX (s23 σB σM hrel) hk0
        by_cases c24 : y9 = (24 : Int32)
        · refine kw_tabIn C 985 dL_law_40 c24 (by decide) (by decide) rfl rfl ?_
          exact lc_24 REL C (hN0 _) hX (hin 1 (by omega)) (hin 2 (by omega)) (hin 3 (by omega)) (hin 4 (by omega)) (hin 5 (by omega)) (s24 σB σM _ _ _ _ _ hrel) hk0
        by_cases c25 : y9 = (25 : Int32)
        · refine kw_tabIn C 1058 dL_law_40 c25 (by decide) (by decide) rfl rfl ?_
          exact lc_25 REL C (hN0 _) hX (hin 1 (by omega)) (s25 σB σM _ hrel) hk0
        by_cases c26 : y9 = (26 : Int32)
        · refine kw_tabIn C 1083 dL_law_40 c26 (by decide) (by decide) rfl rfl ?_
          exact lc_26 REL C (hN0 _) hX (hin 1 (by omega)) (s26 σB σM _ hrel) hk0
        by_cases c27 : y9 = (27 : Int32)
        · refine kw_tabIn C 1108 dL_law_40 c27 (by decide) (by decide) rfl rfl ?_
          exact lc_27 REL C (hN0 _) hX (hin 1 (by omega)) (s27 σB σM _ hrel) hk0
        by_cases c28 : y9 = (28 : Int32)
        · refine kw_tabIn C 1133 dL_law_40 c28 (by decide) (by decide) rfl rfl ?_
          exact lc_28 REL C (hN0 _) hX (hin 1 (by omega)) (hin 2 (by omega)) (hin 3 (by omega)) (s28 σB σM _ _ _ hrel) hk0
        by_cases c29 : y9 = (29 : Int32)
        · refine kw_tabIn C 1182 dL_law_40 c29 (by decide) (by decide) rfl rfl ?_
          exact lc_29 REL C (hN0 _) hX (hin 1 (by omega)) (s29 σB σM _ hrel) hk0
        by_cases c30 : y9 = (30 : Int32)
        · refine kw_tabIn C 1207 dL_law_40 c30 (by decide) (by decide) rfl rfl ?_
          exact lc_30 REL C (hN0 _) hX (s30 σB σM hrel) hk0
        by_cases c31 : y9 = (31 : Int32)
        · refine kw_tabIn C 1220 dL_law_40 c31 (by decide) (by decide) rfl rfl ?_
          exact lc_31 REL C (hN0 _) hX (hin 1 (by omega)) (s31 σB σM _ hrel) hk0
        by_cases c32 : y9 = (32 : Int32)
        · refine kw_tabIn C 1245 dL_law_40 c32 (by decide) (by decide) rfl rfl ?_
          exact lc_32 REL C (hN0 _) hX (hin 1 (by omega)) (s32 σB σM _ hrel) hk0
        by_cases c33 : y9 = (33 : Int32)
        · refine kw_tabIn C 1270 dL_law_40 c33 (by decide) (by decide) rfl rfl ?_
          exact lc_33 REL C (hN0 _) hX (hin 1 (by omega)) (hin 2 (by omega)) (s33 σB σM _ _ hrel) hk0
        by_cases c34 : y9 = (34 : Int32)
        · refine kw_tabIn C 1307 dL_law_40 c34 (by decide) (by decide) rfl rfl ?_
          by_cases hz : xs (Int32.toNatClampNeg (x4 + (3 : Int32))) = 0
          · exact lc_34z REL C (hN0 _) hX (hin 1 (by omega)) (hin 2 (by omega)) (hin 3 (by omega)) hz (s34 σB σM _ _ 0 (Or.inl rfl) hrel) hk0
          · exact lc_34n REL C (hN0 _) hX (hin 1 (by omega)) (hin 2 (by omega)) (hin 3 (by omega)) hz (s34 σB σM _ _ 1 (Or.inr rfl) hrel) hk0
        by_cases c35 : y9 = (35 : Int32)
        · refine kw_tabIn C 1372 dL_law_40 c35 (by decide) (by decide) rfl rfl ?_
          exact lc_35 REL C (hN0 _) hX (hin 1 (by omega)) (s35 σB σM _ hrel) hk0
        by_cases c36 : y9 = (36 : Int32)
        · refine kw_tabIn C 1397 dL_law_40 c36 (by decide) (by decide) rfl rfl ?_
          exact lc_36 REL C (hN0 _) hX (hin 1 (by omega)) (s36 σB σM _ hrel) hk0
        by_cases c37 : y9 = (37 : Int32)
        · refine kw_tabIn C 1422 dL_law_40 c37 (by decide) (by decide) rfl rfl ?_
          exact lc_37 REL C (hN0 _) hX (hin 1 (by omega)) (s37 σB σM _ hrel) hk0
        by_cases c38 : y9 = (38 : Int32)
        · refine kw_tabIn C 1447 dL_law_40 c38 (by decide) (by decide) rfl rfl ?_
          exact lc_38 REL C (hN0 _) hX (hin 1 (by omega)) (hin 2 (by omega)) (hin 3 (by omega)) (s38 σB σM _ _ _ hrel) hk0
        by_cases c39 : y9 = (39 : Int32)
        · refine kw_tabIn C 1496 dL_law_40 c39 (by decide) (by decide) rfl rfl ?_
          exact lc_39 REL C (hN0 _) hX (hin 1 (by omega)) (hin 2 (by omega)) (hin 3 (by omega)) (s39 σB σM _ _ _ hrel) hk0
        by_cases c40 : y9 = (40 : Int32)
        · refine kw_tabIn C 1545 dL_law_40 c40 (by decide) (by decide) rfl rfl ?_
          exact lc_40 REL C (hN0 _) hX (s40 σB σM hrel) hk0
        by_cases c41 : y9 = (41 : Int32)
        · refine kw_tabIn C 1558 dL_law_40 c41 (by decide) (by decide) rfl rfl ?_
          exact lc_41 REL C (hN0 _) hX (s41 σB σM hrel) hk0
        by_cases c42 : y9 = (42 : Int32)
        · refine kw_tabIn C 1571 dL_law_40 c42 (by decide) (by decide) rfl rfl ?_
          exact lc_42 REL C (hN0 _) hX (s42 σB σM hrel) hk0
        by_cases c43 : y9 = (43 : Int32)
        · refine kw_tabIn C 1584 dL_law_40 c43 (by decide) (by decide) rfl rfl ?_
          exact lc_43 REL C (hN0 _) hX (hin 1 (by omega)) (s43 σB σM _ hrel) hk0
        have c0_ : y9.toInt ≠ 0 := ne_ti c0
        have c1_ : y9.toInt ≠ 1 := ne_ti c1
        have c2_ : y9.toInt ≠ 2 := ne_ti c2
        have c3_ : y9.toInt ≠ 3 := ne_ti c3
        have c4_ : y9.toInt ≠ 4 := ne_ti c4
        have c5_ : y9.toInt ≠ 5 := ne_ti c5
        have c6_ : y9.toInt ≠ 6 := ne_ti c6
        have c7_ : y9.toInt ≠ 7 := ne_ti c7
        have c8_ : y9.toInt ≠ 8 := ne_ti c8
        have c9_ : y9.toInt ≠ 9 := ne_ti c9
        have c10_ : y9.toInt ≠ 10 := ne_ti c10
        have c11_ : y9.toInt ≠ 11 := ne_ti c11
        have c12_ : y9.toInt ≠ 12 := ne_ti c12
        have c13_ : y9.toInt ≠ 13 := ne_ti c13
        have c14_ : y9.toInt ≠ 14 := ne_ti c14
        have c15_ : y9.toInt ≠ 15 := ne_ti c15
        have c16_ : y9.toInt ≠ 16 := ne_ti c16
        have c17_ : y9.toInt ≠ 17 := ne_ti c17
        have c18_ : y9.toInt ≠ 18 := ne_ti c18
        have c19_ : y9.toInt ≠ 19 := ne_ti c19
        have c20_ : y9.toInt ≠ 20 := ne_ti c20
        have c21_ : y9.toInt ≠ 21 := ne_ti c21
        have c22_ : y9.toInt ≠ 22 := ne_ti c22
        have c23_ : y9.toInt ≠ 23 := ne_ti c23
        have c24_ : y9.toInt ≠ 24 := ne_ti c24
        have c25_ : y9.toInt ≠ 25 := ne_ti c25
        have c26_ : y9.toInt ≠ 26 := ne_ti c26
        have c27_ : y9.toInt ≠ 27 := ne_ti c27
        have c28_ : y9.toInt ≠ 28 := ne_ti c28
        have c29_ : y9.toInt ≠ 29 := ne_ti c29
        have c30_ : y9.toInt ≠ 30 := ne_ti c30
        have c31_ : y9.toInt ≠ 31 := ne_ti c31
        have c32_ : y9.toInt ≠ 32 := ne_ti c32
        have c33_ : y9.toInt ≠ 33 := ne_ti c33
        have c34_ : y9.toInt ≠ 34 := ne_ti c34
        have c35_ : y9.toInt ≠ 35 := ne_ti c35
        have c36_ : y9.toInt ≠ 36 := ne_ti c36
        have c37_ : y9.toInt ≠ 37 := ne_ti c37
        have c38_ : y9.toInt ≠ 38 := ne_ti c38
        have c39_ : y9.toInt ≠ 39 := ne_ti c39
        have c40_ : y9.toInt ≠ 40 := ne_ti c40
        have c41_ : y9.toInt ≠ 41 := ne_ti c41
        have c42_ : y9.toInt ≠ 42 := ne_ti c42
        have c43_ : y9.toInt ≠ 43 := ne_ti c43
        refine kw_tabOut C 1609 dL_law_40 (by omega) rfl ?_
        exact hk0 _ _ hrel
  exact key 513 0 (by omega) σB σM f 0 rfl (by omega) hrel
