/-! THE LAW'S OWN 'house' -/
abbrev hhL : List (Nat × Nat × Nat × Nat) := [(0, 10, 13, 13), (0, 10, 17, 15)]
def wsH : List Cond := Cond.codeWith yL_house cL_house 5 (some .int) hhL :: GT
abbrev rmH : Room := { frames := 7, cells := 1, slots := 6, locals := 104 }
def PreL (DD : va_G) (tt : List (ClassId × FieldType)) (ww : SL → va_W) (t0 : Nat) (u : SL) (sz : Nat) (U : State) : Prop := U.heap.size = sz ∧ va_P DD vwCl (ww u) U.heap ∧ va_K DD vwCl tt U ∧ va_D (fun _ => True) (ww u) ∧ SBW t0 (va_A (ww u) sz) U U.heap ∧ EXw (va_A (ww u) sz) U U.heap
def AtL (DD : va_G) (ww : SL → va_W) (A : Nat → Prop) (u : SL) (t : State) : Prop := va_P DD vwCl (ww u) t.heap ∧ va_D A (ww u)
theorem PreL.blind {DD : va_G} {tt : List (ClassId × FieldType)} {ww : SL → va_W} {t0 : Nat} {u : SL} {sz : Nat} {av : List Value} : FrameBlind (va_Pc av (PreL DD tt ww t0 u sz)) := fun a U g mk q => by
  obtain ⟨q0, q1, qP, qK, qD, qS, qX⟩ := q
  exact ⟨q0, q1, qP, va_K.moved (u := U) (U := U.calling g mk a) (Vm.Alike.refl U.vm) qK, qD, SBW.same (u := U) (U := U.calling g mk a) rfl (Vm.Alike.refl U.vm) qS, EXw.same (u := U) (U := U.calling g mk a) rfl qX⟩
def CtH (L : Launch) (DD : va_G) (tt : List (ClassId × FieldType)) (ww : SL → va_W) (t0 : Nat) (av : List Value) (u : SL) (k : Int32) (u' : SL) : Prop := ∀ sz : Nat, Met L yL_house wsH rmH (va_Pc av (PreL DD tt ww t0 u sz)) (va_Qi (fun r v => r = k ∧ v = u') (AtL DD ww (va_A (ww u) sz)) (va_A (ww u) sz)) 1 6 (va_A (ww u) sz)
def KRH (X : KX SL) (k : Int32) (u' : SL) : Prop := match X with
  | (p, l, e, R, s, m, args, below, meth, c, D, tys, wf, A, nL, Q, tW, cn, sn) => meth.sig.returnType = some .int ∧ meth.locks = false ∧ cn = 0 ∧ sn = 0 ∧ c.exceptionTable.toList = tableOf hhL ∧ EXw A s s.heap ∧ Q = MQ below (va_Qi (fun r v => r = k ∧ v = u') (AtL D wf A) A) args s 1 6 A
theorem CtH.of {L : Launch} {DD : va_G} {tt : List (ClassId × FieldType)} {ww : SL → va_W} {t0 : Nat} {av : List Value} {u u' : SL} {k : Int32} (hav : (lg_sl av).length ≤ 5) (lv : List (Nat × Value)) (hlv : lv_args 0 av = lv) (body : ∀ X : KX SL, (∀ c n, c ≤ 1 → n ≤ 6 → KC (XN X c n) L DD tt ww rmH t0 cL_house RL) → X.2.2.2.2.2.2.2.2.2.2.2.2.2.2.1 = 5 → KRH X k u' → KW X u 0 lv []) : CtH L DD tt ww t0 av u k u' := by
  intro sz
  refine va_MetW (cc := cL_house) (maxL := 5) (ret := some .int) (hh := hhL) (by decide) rfl ?_
  intro p e s m args below meth c s₁ B hml hv
  obtain ⟨rfl, hsz, hP, hK, hD0, hSB, hX⟩ := hv
  subst hlv
  have hts := atoms_spec (ws := wsH) B.pre
  have hown9 : s.vm.findClass RL = some m.cls := findClass_of_methodNamed B.named
  have htab := vx_table (x := yL_house) B (hts _ List.mem_cons_self)
  have hD := hD0.self (sz := sz)
  have hA : ∀ q : Nat, s.heap.size ≤ q → va_A (ww u) sz q := fun q h => Or.inr (hsz ▸ h)
  have hb := body (p, L, e, rmH, s, m, av.toArray, below, meth, c, DD, tt, ww, va_A (ww u) sz, 5, _, t0, 0, 0) (fun c9 n9 h1 h2 => ⟨B.exec, B.bytes, hml, hown9, fun w hw => hts w (List.mem_cons_of_mem _ hw), hK, hA, hSB, rfl, rfl, rfl, rfl, rfl, rfl, h1, h2⟩) rfl ⟨B.returns, B.notSynchronized, rfl, rfl, htab, hX, rfl⟩
  have hl := lv_entry av (n := 5) hav
  rw [lg_entry_eq]
  exact hb s.heap [] _ hP hD va_S.rf hl
theorem kl_iret {X : KX SL} {L : Launch} {DD : va_G} {tt : List (ClassId × FieldType)} {ww : SL → va_W} {rm : Room} {t0 : Nat} {cc : ByteArray} {own : String} {u' : SL} {pc : Nat} {lv : List (Nat × Value)} {k : Int32} (C : KC (XN X 1 6) L DD tt ww rm t0 cc own) (K : KRH X k u') (hdg : decode cc pc = .ok (.ireturn, 1)) : KW (XN X 1 6) u' pc lv [.int k] := by
  obtain ⟨p, l, e, R, s, m, args, below, meth, c, D, tys, wf, A, nL, Q, tW, cn, sn⟩ := X
  obtain ⟨k1, k2, rfl, rfl, k3, k4, rfl⟩ := K
  exact fun H locs ls hP hD hS hl => W.iret C.1 C.2.1 k1 (fun t ht hW => ⟨⟨_, _, rfl, ⟨rfl, rfl⟩, by rw [ht]; exact hP, hD⟩, hS.F ht⟩) hS.2.2 hdg k2
/-- a call that throws, and is caught here -/
theorem kl_callBX {X : KX SL} {L : Launch} {DD : va_G} {tt : List (ClassId × FieldType)} {t0 : Nat} {gB gM : GwT} {qo : Nat} (C : KC (XN X 1 6) L DD tt (wL gB gM qo) rmH t0 cL_house RL) {σB σM : St} {f : Nat → Int64} {lv : List (Nat × Value)} {st : List Value} {k : Int32} {u' : SL} (K : KRH X k u') {E : String} {rest : List Value} (As : List Value) (hM : CtX L DD tt (wB gB) t0 yX9_house cX9_house 3 (some .int) { frames := 6, cells := 1, slots := 6, locals := 82 } (.ref (gB.1 0) :: As) σB E) (hG : ∀ w ∈ wsV RL 7 RX9 yX9_house (wsG yX9_house cX9_house 3 (some .int)), w ∈ GT) (hn : As.length = 2) (hst : st = As.reverse ++ .ref (gB.1 0) :: rest) (hro : (rest.map fun v => v.category).sum ≤ 8) (pre suf : List ExceptionTableEntry) (x : ExceptionTableEntry) (hsp : tableOf hhL = pre ++ x :: suf) (nm : String)
    (hpass : ∀ (s : State) (args : Array Value), (∀ w ∈ GT, w.before args s = true) → NXw s → ∀ z ∈ pre, covers z 5 = false ∨ (z.catchType ≠ 0 ∧ ∃ nm : String, (Cond.classLink RL z.catchType nm).before args s = true ∧ va_Nc E nm s)) (hx : covers x 5 = true) (h0 : x.catchType ≠ 0) (hlk : Cond.classLink RL x.catchType nm ∈ GT) (hca : ∀ (s : State) (args : Array Value), NXw s → (Cond.castable E nm).before args s = true)
    (k9 : ∀ q9 : Nat, KW (XN X 1 6) (σB, σM, f) x.handlerPc lv [.ref q9]) : KW X (σB, σM, f) 5 lv st := by
  obtain ⟨p, l, e, R, s, m, args, below, meth, c, D, tys, wf, A, nL, Q, tW, cn, sn⟩ := X
  obtain ⟨r1, r2, rfl, rfl, r3, r4, r5⟩ := K
  obtain ⟨h1, h2, h3, h4, h5, h6, h7, h8, rfl, rfl, rfl, rfl, rfl, rfl, hcn, hsn⟩ := C
  intro H locs ls hP hD hS hl
  obtain ⟨pC, dC⟩ := mid_sub (wl := []) (wc := wB gB σB) (wr := wM gM σM ++ [(qo, .inl (gB.2.2.2.2.1, 1, .inr (.inl f)))]) hP hD
  have hFc := kw_free dC hS h7
  refine vx_calli (vx_runV (As := As) (rest := rest) ⟨h1, h2, h3, h4, h5⟩ (hM H.size) (cwV 2 h5 (GT_in (fun _ h => h) _ hG) rfl rfl rfl dd_X9_house ⟨Nat.le_of_ble_eq_true rfl, Nat.le_of_ble_eq_true rfl⟩) ⟨PreX.blind, va_recv h6 pC rfl (hO9 gB σB), fun U hU hW => ⟨rfl, ⟨by rw [hU], by rw [hU]; exact pC, va_K.moved hW.alike h6, dC.weaken (fun _ _ _ _ => trivial), by rw [hU]; exact ((h8.warm hW).kept (fun a h9 h10 => hS.2.1 a h9 h10)).narrow hFc⟩, by rw [hU]; exact ((r4.warm hW).kept (fun a h9 h10 => hS.2.1 a h9 h10)).narrow hFc⟩⟩ rfl hn hl.1 hst (lv_room hro) dL_house_5 ⟨Nat.le_of_ble_eq_true rfl, Nat.le_of_ble_eq_true rfl⟩) hS (fun q _ h => hFc q h) hFc (fun q _ h => hFc q h) (fun E' ce q9 u t H1 locs1 ht hvm hw hB hz1 hk1 hS1 hce hcv hcl => ?_) (fun r u t H1 locs1 ht hvm hw hB hz1 hk1 hS1 => hw.elim)
  obtain ⟨rfl, b1, b2⟩ := hB
  have hw : u = σB := hw
  subst hw
  subst ht
  obtain ⟨hP2, hD2⟩ := mid_join (wl := []) (wc := wB gB u) (wr := wM gM σM ++ [(qo, .inl (gB.2.2.2.2.1, 1, .inr (.inl f)))]) hP hD hk1 hFc b1 b2
  exact vx_catch (own := RL) (name := nm) h4 pre x suf (r3.trans hsp) (hpass s args h5 r4.2.2.2.2) hx h0 (h5 _ hlk) (hca s args r4.2.2.2.2) hce hcv hcl (k9 q9 _ _ _ hP2 hD2 hS1 hl)
set_option maxRecDepth 100000 in
theorem ml_L_7 : Cond.methodLink RL 7 yX9_house ∈ GT := GT5 100 rfl rfl
theorem mV_L_7 : ∀ w ∈ wsV RL 7 RX9 yX9_house (wsG yX9_house cX9_house 3 (some .int)), w ∈ GT := GT_all (GT_c ml_L_7 (GT_c mint_X9_house (GT_c msel_X9_house (GT_c mi_X9 GT_n)))) (GT_c mcode_X9_house (fun _ h => h))
set_option maxRecDepth 100000 in
theorem mcl_L_13 : Cond.classLink RL 13 IOB ∈ GT := GT5 98 rfl rfl
set_option maxRecDepth 100000 in
theorem mcl_L_15 : Cond.classLink RL 15 NSE ∈ GT := GT5 99 rfl rfl
theorem hOutL (gB gM : GwT) (qo : Nat) (σB σM : St) (f : Nat → Int64) : (wL gB gM qo (σB, σM, f))[116]? = some (qo, .inl (gB.2.2.2.2.1, 1, .inr (.inl f))) := rfl
theorem hOutS (gB gM : GwT) (qo : Nat) (σB σM : St) (f f' : Nat → Int64) : (wL gB gM qo (σB, σM, f)).set 116 (qo, .inl (gB.2.2.2.2.1, 1, .inr (.inl f'))) = wL gB gM qo (σB, σM, f') := rfl
theorem ixI0 : ixI (0 : Int32) 1 := ⟨by decide, by decide⟩
theorem KRH.base {X : KX SL} {L : Launch} {DD : va_G} {tt : List (ClassId × FieldType)} {ww : SL → va_W} {t0 : Nat} {k : Int32} {u' : SL} (K : KRH X k u') (C : ∀ c n, c ≤ 1 → n ≤ 6 → KC (XN X c n) L DD tt ww rmH t0 cL_house RL) : KC X L DD tt ww rmH t0 cL_house RL := by
  obtain ⟨p, l, e, R, s, m, args, below, meth, c, D, tys, wf, A, nL, Q, tW, cn, sn⟩ := X
  obtain ⟨r1, r2, rfl, rfl, r3, r4, r5⟩ := K
  exact C 0 0 (Nat.zero_le _) (Nat.zero_le _)
theorem KRH.wid {X : KX SL} {k : Int32} {u' u : SL} {pc : Nat} {lv : List (Nat × Value)} {st : List Value} (K : KRH X k u') (h : KW (XN X 1 6) u pc lv st) : KW X u pc lv st := by
  obtain ⟨p, l, e, R, s, m, args, below, meth, c, D, tys, wf, A, nL, Q, tW, cn, sn⟩ := X
  obtain ⟨r1, r2, rfl, rfl, r3, r4, r5⟩ := K
  exact kw_widen (X := (p, l, e, R, s, m, args, below, meth, c, D, tys, wf, A, nL, Q, tW, 0, 0)) (cn := 0) (sn := 0) (by omega) (by omega) h
theorem XN.nl {S : Type} {X : KX S} {n c9 s9 : Nat} (hN : X.2.2.2.2.2.2.2.2.2.2.2.2.2.2.1 = n) : (XN X c9 s9).2.2.2.2.2.2.2.2.2.2.2.2.2.2.1 = n := by
  obtain ⟨p, l, e, R, s, m, args, below, meth, c, D, tys, wf, A, nL, Q, tW, cn, sn⟩ := X
  have h1 : nL = n := hN
  have h2 : (XN (p, l, e, R, s, m, args, below, meth, c, D, tys, wf, A, nL, Q, tW, cn, sn) c9 s9).2.2.2.2.2.2.2.2.2.2.2.2.2.2.1 = nL := rfl
  exact h2.trans h1
