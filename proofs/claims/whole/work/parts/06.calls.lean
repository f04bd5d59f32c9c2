/-! CONTRACTS over a world, their entries, returns and calls -/
def PreK (DD : va_G) (tt : List (ClassId × FieldType)) (ww : St → va_W) (t0 : Nat) (σ : St) (sz : Nat) (U : State) : Prop := U.heap.size = sz ∧ va_P DD vwCl (ww σ) U.heap ∧ va_K DD vwCl tt U ∧ va_D (fun _ => True) (ww σ) ∧ SBW t0 (va_A (ww σ) sz) U U.heap
def AtK (DD : va_G) (ww : St → va_W) (A : Nat → Prop) (u : St) (t : State) : Prop := va_P DD vwCl (ww u) t.heap ∧ va_D A (ww u)
theorem narrow_bz {v : Int32} (h : v = 0 ∨ v = 1) : narrow .boolean (.int v) = .int v := by rcases h with rfl | rfl <;> decide
theorem fits_bz {v : Int32} (h : v = 0 ∨ v = 1) : fits .boolean (.int v) = true := by rcases h with rfl | rfl <;> decide
theorem PreK.blind {DD : va_G} {tt : List (ClassId × FieldType)} {ww : St → va_W} {t0 : Nat} {σ : St} {sz : Nat} {av : List Value} : FrameBlind (va_Pc av (PreK DD tt ww t0 σ sz)) := fun a U g mk q => by
  obtain ⟨q0, q1, qP, qK, qD, qS⟩ := q
  exact ⟨q0, q1, qP, va_K.moved (u := U) (U := U.calling g mk a) (Vm.Alike.refl U.vm) qK, qD, SBW.same (u := U) (U := U.calling g mk a) rfl (Vm.Alike.refl U.vm) qS⟩
theorem kw_free {A : Nat → Prop} {ws : va_W} {H0 H : Heap} {locs : List Loc} (hD : va_D A ws) (hS : va_S A H0 H locs) (hA : ∀ q, H0.size ≤ q → A q) : ∀ q, va_A ws H.size q → A q := by
  intro q h
  rcases h with ⟨k, e, h⟩ | h
  · exact hD.2 k _ h
  · exact hA q (Nat.le_trans hS.1 h)

def CtI (L : Launch) (DD : va_G) (tt : List (ClassId × FieldType)) (ww : St → va_W) (t0 : Nat) (y : MethodName) (cc : ByteArray) (n : Nat) (ret : Option FieldType) (rm : Room) (av : List Value) (σ : St) (r0 : Int32) (σ0 : St) : Prop := ∀ sz : Nat, Met L y (wsG y cc n ret) rm (va_Pc av (PreK DD tt ww t0 σ sz)) (va_Qi (fun r u => r = r0 ∧ u = σ0) (AtK DD ww (va_A (ww σ) sz)) (va_A (ww σ) sz)) 0 0 (va_A (ww σ) sz)
def KRI (X : KX St) (ret : Option FieldType) (r0 : Int32) (σ0 : St) : Prop := match X with
  | (p, l, e, R, s, m, args, below, meth, c, D, tys, wf, A, nL, Q, tW, cn, sn) => meth.sig.returnType = ret ∧ meth.locks = false ∧ Q = MQ below (va_Qi (fun r u => r = r0 ∧ u = σ0) (AtK D wf A) A) args s cn sn A
theorem CtI.of {L : Launch} {DD : va_G} {tt : List (ClassId × FieldType)} {ww : St → va_W} {rm : Room} {t0 : Nat} {cc : ByteArray} {own : String} {y : MethodName} {n : Nat} {ret : Option FieldType} {av : List Value} {σ σ0 : St} {r0 : Int32}  (hy : plainName y.cls = true) (hown : y.cls = own) (hav : (lg_sl av).length ≤ n) (lv : List (Nat × Value)) (hlv : lv_args 0 av = lv) (body : ∀ X : KX St, KC X L DD tt ww rm t0 cc own → X.2.2.2.2.2.2.2.2.2.2.2.2.2.2.1 = n → KRI X ret r0 σ0 → KW X σ 0 lv []) : CtI L DD tt ww t0 y cc n ret rm av σ r0 σ0 := by
  intro sz
  refine Met.ofW (cc := cc) (maxL := n) (ret := ret) hy rfl ?_
  intro p e s m args below meth c s₁ B hml hv
  obtain ⟨rfl, hsz, hP, hK, hD0, hSB⟩ := hv
  subst hlv
  have hts := atoms_spec (ws := wsG y cc n ret) B.pre
  have hown9 : s.vm.findClass own = some m.cls := hown ▸ findClass_of_methodNamed B.named
  have hD := hD0.self (sz := sz)
  have hA : ∀ q : Nat, s.heap.size ≤ q → va_A (ww σ) sz q := fun q h => Or.inr (hsz ▸ h)
  have hb := body (p, L, e, rm, s, m, av.toArray, below, meth, c, DD, tt, ww, va_A (ww σ) sz, n, _, t0, 0, 0) ⟨B.exec, B.bytes, hml, hown9, fun w hw => hts w (List.mem_cons_of_mem _ hw), hK, hA, hSB, rfl, rfl, rfl, rfl, rfl, rfl, Nat.zero_le _, Nat.zero_le _⟩ rfl ⟨B.returns, B.notSynchronized, rfl⟩
  have hl := lv_entry av (n := n) hav
  rw [lg_entry_eq]
  exact hb s.heap [] _ hP hD va_S.rf hl
def CtL (L : Launch) (DD : va_G) (tt : List (ClassId × FieldType)) (ww : St → va_W) (t0 : Nat) (y : MethodName) (cc : ByteArray) (n : Nat) (ret : Option FieldType) (rm : Room) (av : List Value) (σ : St) (r0 : Int64) (σ0 : St) : Prop := ∀ sz : Nat, Met L y (wsG y cc n ret) rm (va_Pc av (PreK DD tt ww t0 σ sz)) (va_Ql (fun r u => r = r0 ∧ u = σ0) (AtK DD ww (va_A (ww σ) sz)) (va_A (ww σ) sz)) 0 0 (va_A (ww σ) sz)
def KRL (X : KX St) (ret : Option FieldType) (r0 : Int64) (σ0 : St) : Prop := match X with
  | (p, l, e, R, s, m, args, below, meth, c, D, tys, wf, A, nL, Q, tW, cn, sn) => meth.sig.returnType = ret ∧ meth.locks = false ∧ Q = MQ below (va_Ql (fun r u => r = r0 ∧ u = σ0) (AtK D wf A) A) args s cn sn A
theorem CtL.of {L : Launch} {DD : va_G} {tt : List (ClassId × FieldType)} {ww : St → va_W} {rm : Room} {t0 : Nat} {cc : ByteArray} {own : String} {y : MethodName} {n : Nat} {ret : Option FieldType} {av : List Value} {σ σ0 : St} {r0 : Int64}  (hy : plainName y.cls = true) (hown : y.cls = own) (hav : (lg_sl av).length ≤ n) (lv : List (Nat × Value)) (hlv : lv_args 0 av = lv) (body : ∀ X : KX St, KC X L DD tt ww rm t0 cc own → X.2.2.2.2.2.2.2.2.2.2.2.2.2.2.1 = n → KRL X ret r0 σ0 → KW X σ 0 lv []) : CtL L DD tt ww t0 y cc n ret rm av σ r0 σ0 := by
  intro sz
  refine Met.ofW (cc := cc) (maxL := n) (ret := ret) hy rfl ?_
  intro p e s m args below meth c s₁ B hml hv
  obtain ⟨rfl, hsz, hP, hK, hD0, hSB⟩ := hv
  subst hlv
  have hts := atoms_spec (ws := wsG y cc n ret) B.pre
  have hown9 : s.vm.findClass own = some m.cls := hown ▸ findClass_of_methodNamed B.named
  have hD := hD0.self (sz := sz)
  have hA : ∀ q : Nat, s.heap.size ≤ q → va_A (ww σ) sz q := fun q h => Or.inr (hsz ▸ h)
  have hb := body (p, L, e, rm, s, m, av.toArray, below, meth, c, DD, tt, ww, va_A (ww σ) sz, n, _, t0, 0, 0) ⟨B.exec, B.bytes, hml, hown9, fun w hw => hts w (List.mem_cons_of_mem _ hw), hK, hA, hSB, rfl, rfl, rfl, rfl, rfl, rfl, Nat.zero_le _, Nat.zero_le _⟩ rfl ⟨B.returns, B.notSynchronized, rfl⟩
  have hl := lv_entry av (n := n) hav
  rw [lg_entry_eq]
  exact hb s.heap [] _ hP hD va_S.rf hl
def CtV (L : Launch) (DD : va_G) (tt : List (ClassId × FieldType)) (ww : St → va_W) (t0 : Nat) (y : MethodName) (cc : ByteArray) (n : Nat) (ret : Option FieldType) (rm : Room) (av : List Value) (σ : St) (σ0 : St) : Prop := ∀ sz : Nat, Met L y (wsG y cc n ret) rm (va_Pc av (PreK DD tt ww t0 σ sz)) (va_Qv (fun u => u = σ0) (AtK DD ww (va_A (ww σ) sz)) (va_A (ww σ) sz)) 0 0 (va_A (ww σ) sz)
def KRV (X : KX St) (ret : Option FieldType) (σ0 : St) : Prop := match X with
  | (p, l, e, R, s, m, args, below, meth, c, D, tys, wf, A, nL, Q, tW, cn, sn) => meth.sig.returnType = ret ∧ meth.locks = false ∧ Q = MQ below (va_Qv (fun u => u = σ0) (AtK D wf A) A) args s cn sn A
theorem CtV.of {L : Launch} {DD : va_G} {tt : List (ClassId × FieldType)} {ww : St → va_W} {rm : Room} {t0 : Nat} {cc : ByteArray} {own : String} {y : MethodName} {n : Nat} {ret : Option FieldType} {av : List Value} {σ σ0 : St}  (hy : plainName y.cls = true) (hown : y.cls = own) (hav : (lg_sl av).length ≤ n) (lv : List (Nat × Value)) (hlv : lv_args 0 av = lv) (body : ∀ X : KX St, KC X L DD tt ww rm t0 cc own → X.2.2.2.2.2.2.2.2.2.2.2.2.2.2.1 = n → KRV X ret σ0 → KW X σ 0 lv []) : CtV L DD tt ww t0 y cc n ret rm av σ σ0 := by
  intro sz
  refine Met.ofW (cc := cc) (maxL := n) (ret := ret) hy rfl ?_
  intro p e s m args below meth c s₁ B hml hv
  obtain ⟨rfl, hsz, hP, hK, hD0, hSB⟩ := hv
  subst hlv
  have hts := atoms_spec (ws := wsG y cc n ret) B.pre
  have hown9 : s.vm.findClass own = some m.cls := hown ▸ findClass_of_methodNamed B.named
  have hD := hD0.self (sz := sz)
  have hA : ∀ q : Nat, s.heap.size ≤ q → va_A (ww σ) sz q := fun q h => Or.inr (hsz ▸ h)
  have hb := body (p, L, e, rm, s, m, av.toArray, below, meth, c, DD, tt, ww, va_A (ww σ) sz, n, _, t0, 0, 0) ⟨B.exec, B.bytes, hml, hown9, fun w hw => hts w (List.mem_cons_of_mem _ hw), hK, hA, hSB, rfl, rfl, rfl, rfl, rfl, rfl, Nat.zero_le _, Nat.zero_le _⟩ rfl ⟨B.returns, B.notSynchronized, rfl⟩
  have hl := lv_entry av (n := n) hav
  rw [lg_entry_eq]
  exact hb s.heap [] _ hP hD va_S.rf hl
theorem kw_iret {X : KX St} {L : Launch} {DD : va_G} {tt : List (ClassId × FieldType)} {ww : St → va_W} {rm : Room} {t0 : Nat} {cc : ByteArray} {own : String} {σ σ0 : St} {pc : Nat} {lv : List (Nat × Value)} (C : KC X L DD tt ww rm t0 cc own) {r r0 : Int32} (K : KRI X (some .int) r0 σ0) (hdg : decode cc pc = .ok (.ireturn, 1)) (hf : some (r, σ) = some (r0, σ0)) : KW X σ pc lv [.int r] := by
  obtain ⟨p, l, e, R, s, m, args, below, meth, c, D, tys, wf, A, nL, Q, tW, cn, sn⟩ := X
  obtain ⟨k1, k2, rfl⟩ := K
  cases hf
  exact fun H locs ls hP hD hS hl => W.iret C.1 C.2.1 k1  (fun t ht hW => ⟨⟨_, _, rfl, ⟨rfl, rfl⟩, by rw [ht]; exact hP, hD⟩, hS.F ht⟩) hS.2.2 hdg k2
theorem kw_zret {X : KX St} {L : Launch} {DD : va_G} {tt : List (ClassId × FieldType)} {ww : St → va_W} {rm : Room} {t0 : Nat} {cc : ByteArray} {own : String} {σ σ0 : St} {pc : Nat} {lv : List (Nat × Value)} (C : KC X L DD tt ww rm t0 cc own) {r r0 : Int32} (K : KRI X (some .boolean) r0 σ0) (hz : r = 0 ∨ r = 1) (hdg : decode cc pc = .ok (.ireturn, 1)) (hf : some (r, σ) = some (r0, σ0)) : KW X σ pc lv [.int r] := by
  obtain ⟨p, l, e, R, s, m, args, below, meth, c, D, tys, wf, A, nL, Q, tW, cn, sn⟩ := X
  obtain ⟨k1, k2, rfl⟩ := K
  cases hf
  exact fun H locs ls hP hD hS hl => W.zret C.1 C.2.1 k1 (narrow_bz hz) (fun t ht hW => ⟨⟨_, _, rfl, ⟨rfl, rfl⟩, by rw [ht]; exact hP, hD⟩, hS.F ht⟩) hS.2.2 hdg k2
theorem kw_lret {X : KX St} {L : Launch} {DD : va_G} {tt : List (ClassId × FieldType)} {ww : St → va_W} {rm : Room} {t0 : Nat} {cc : ByteArray} {own : String} {σ σ0 : St} {pc : Nat} {lv : List (Nat × Value)} (C : KC X L DD tt ww rm t0 cc own) {r r0 : Int64} (K : KRL X (some .long) r0 σ0) (hdg : decode cc pc = .ok (.lreturn, 1)) (hf : some (r, σ) = some (r0, σ0)) : KW X σ pc lv [.long r] := by
  obtain ⟨p, l, e, R, s, m, args, below, meth, c, D, tys, wf, A, nL, Q, tW, cn, sn⟩ := X
  obtain ⟨k1, k2, rfl⟩ := K
  cases hf
  exact fun H locs ls hP hD hS hl => W.lret C.1 C.2.1 k1  (fun t ht hW => ⟨⟨_, _, rfl, ⟨rfl, rfl⟩, by rw [ht]; exact hP, hD⟩, hS.F ht⟩) hS.2.2 hdg k2
theorem kw_vret {X : KX St} {L : Launch} {DD : va_G} {tt : List (ClassId × FieldType)} {ww : St → va_W} {rm : Room} {t0 : Nat} {cc : ByteArray} {own : String} {σ σ0 : St} {pc : Nat} {lv : List (Nat × Value)} (C : KC X L DD tt ww rm t0 cc own) {u9 : Unit} (K : KRV X none σ0) (hdg : decode cc pc = .ok (.return_, 1)) (hf : some σ = some σ0) : KW X σ pc lv [] := by
  obtain ⟨p, l, e, R, s, m, args, below, meth, c, D, tys, wf, A, nL, Q, tW, cn, sn⟩ := X
  obtain ⟨k1, k2, rfl⟩ := K
  cases hf
  exact fun H locs ls hP hD hS hl => W.vret C.1 C.2.1 k1  (fun t ht hW => ⟨⟨_, rfl, rfl, by rw [ht]; exact hP, hD⟩, hS.F ht⟩) hS.2.2 hdg k2
theorem kw_callVI {X : KX St} {L : Launch} {DD : va_G} {tt : List (ClassId × FieldType)} {ww : St → va_W} {rm : Room} {t0 : Nat} {cc : ByteArray} {own : String} {σ σ1 : St} {pc : Nat} {lv : List (Nat × Value)} {st : List Value} (C : KC X L DD tt ww rm t0 cc own) {y : MethodName} {cy : ByteArray} {n9 index : Nat} {ret : Option FieldType} {rmy : Room} {rest : List Value} {r0 : Int32} {b : Nat} (As : List Value) (hM : CtI L DD tt ww t0 y cy n9 ret rmy (.ref b :: As) σ r0 σ1) (C1 : String) (hG : ∀ w ∈ wsV own index C1 y (wsG y cy n9 ret), w ∈ GT) (hrc : rmy.cells = 0 ∧ rmy.slots = 0) (hd : y.cls = C1 ∧ y.cls ≠ "java/lang/invoke/MethodHandle" ∧ y.cls ≠ "java/lang/invoke/VarHandle" ∧ (parseMethodDescriptor y.desc).map (fun d => d.parameters.length) = some As.length) (hR : rmy.frames + 1 ≤ rm.frames ∧ 8 + (n9 + 11) + rmy.locals ≤ rm.locals) (q0 : Nat) {ci : Nat} {fs : List Value} {q : vw_C} (he : (ww σ)[q0]? = some (b, .inr (ci, fs))) (hc : vwCl[ci]? = some q) (hq : q.1 = C1) (hst : st = As.reverse ++ .ref b :: rest) (hro : (rest.map fun v => v.category).sum ≤ 8) (hdg : decode cc pc = .ok (.invokevirtual index, 3)) (k9 : KW X σ1 (pc + 3) lv (.int r0 :: rest)) : KW X σ pc lv st := by
  obtain ⟨p, l, e, R, s, m, args, below, meth, c, D, tys, wf, A, nL, Q, tW, cn, sn⟩ := X
  obtain ⟨h1, h2, h3, h4, h5, h6, h7, h8, rfl, rfl, rfl, rfl, rfl, rfl, hcn, hsn⟩ := C
  subst hq
  intro H locs ls hP hD hS hl
  have hFc := kw_free hD hS h7
  refine va_calli (va_runV (As := As) (rest := rest) ⟨h1, h2, h3, h4, h5⟩ (hM H.size) (cwV As.length h5 (GT_in (fun _ h => h) _ hG) rfl hrc.1 hrc.2 hd hR) ⟨PreK.blind, va_recv h6 hP hc he, fun U hU hW => ⟨rfl, by rw [hU], by rw [hU]; exact hP, va_K.moved hW.alike h6, hD.weaken (fun _ _ _ _ => trivial), by rw [hU]; exact ((h8.warm hW).kept (fun a h9 h10 => hS.2.1 a h9 h10)).narrow hFc⟩⟩ rfl rfl hl.1 hst (lv_room hro) hdg ⟨hcn, hsn⟩) hS (fun q _ h => hFc q h) hFc (fun r u t H1 locs1 ht hvm hw hB hz1 hk1 hS1 => ?_)
  obtain ⟨b1, b2⟩ := hB
  obtain ⟨w1, w2⟩ := hw
  subst w1
  subst w2
  subst ht
  exact k9 _ _ _ b1 (b2.weaken (fun _ q _ h => hFc q.1 h)) hS1 hl
theorem kw_callSI {X : KX St} {L : Launch} {DD : va_G} {tt : List (ClassId × FieldType)} {ww : St → va_W} {rm : Room} {t0 : Nat} {cc : ByteArray} {own : String} {σ σ1 : St} {pc : Nat} {lv : List (Nat × Value)} {st : List Value} (C : KC X L DD tt ww rm t0 cc own) {y : MethodName} {cy : ByteArray} {n9 index : Nat} {ret : Option FieldType} {rmy : Room} {rest : List Value} {r0 : Int32} (As : List Value) (hM : CtI L DD tt ww t0 y cy n9 ret rmy As σ r0 σ1) (hG : ∀ w ∈ wsS own index y (wsG y cy n9 ret), w ∈ GT) (hrc : rmy.cells = 0 ∧ rmy.slots = 0) (hd : y.cls = own ∧ y.cls ≠ "java/lang/invoke/MethodHandle" ∧ y.cls ≠ "java/lang/invoke/VarHandle" ∧ (parseMethodDescriptor y.desc).map (fun d => d.parameters.length) = some As.length) (hR : rmy.frames + 1 ≤ rm.frames ∧ 8 + (n9 + 11) + rmy.locals ≤ rm.locals) (hst : st = As.reverse ++ rest) (hro : (rest.map fun v => v.category).sum ≤ 8) (hdg : decode cc pc = .ok (.invokestatic index, 3)) (k9 : KW X σ1 (pc + 3) lv (.int r0 :: rest)) : KW X σ pc lv st := by
  obtain ⟨p, l, e, R, s, m, args, below, meth, c, D, tys, wf, A, nL, Q, tW, cn, sn⟩ := X
  obtain ⟨h1, h2, h3, h4, h5, h6, h7, h8, rfl, rfl, rfl, rfl, rfl, rfl, hcn, hsn⟩ := C
  intro H locs ls hP hD hS hl
  have hFc := kw_free hD hS h7
  refine va_calli (va_runS (As := As) (rest := rest) ⟨h1, h2, h3, h4, h5⟩ (hM H.size) (cwS As.length h5 (GT_in (fun _ h => h) _ hG) rfl hrc.1 hrc.2 hd hR) ⟨PreK.blind,  fun U hU hW => ⟨rfl, by rw [hU], by rw [hU]; exact hP, va_K.moved hW.alike h6, hD.weaken (fun _ _ _ _ => trivial), by rw [hU]; exact ((h8.warm hW).kept (fun a h9 h10 => hS.2.1 a h9 h10)).narrow hFc⟩⟩ rfl rfl hl.1 hst (lv_room hro) hdg ⟨hcn, hsn⟩) hS (fun q _ h => hFc q h) hFc (fun r u t H1 locs1 ht hvm hw hB hz1 hk1 hS1 => ?_)
  obtain ⟨b1, b2⟩ := hB
  obtain ⟨w1, w2⟩ := hw
  subst w1
  subst w2
  subst ht
  exact k9 _ _ _ b1 (b2.weaken (fun _ q _ h => hFc q.1 h)) hS1 hl
theorem kw_callTI {X : KX St} {L : Launch} {DD : va_G} {tt : List (ClassId × FieldType)} {ww : St → va_W} {rm : Room} {t0 : Nat} {cc : ByteArray} {own : String} {σ σ1 : St} {pc : Nat} {lv : List (Nat × Value)} {st : List Value} (C : KC X L DD tt ww rm t0 cc own) {y : MethodName} {cy : ByteArray} {n9 index : Nat} {ret : Option FieldType} {rmy : Room} {rest : List Value} {r0 : Int32} (As : List Value) (hM : CtI L DD tt ww t0 y cy n9 ret rmy As σ r0 σ1) (hG : ∀ w ∈ va_wsS own index y (wsG y cy n9 ret), w ∈ GT) (hrc : rmy.cells = 0 ∧ rmy.slots = 0) (hd : y.cls ≠ "java/lang/invoke/MethodHandle" ∧ y.cls ≠ "java/lang/invoke/VarHandle" ∧ (parseMethodDescriptor y.desc).map (fun d => d.parameters.length) = some As.length) (hR : rmy.frames + 1 ≤ rm.frames ∧ 8 + (n9 + 11) + rmy.locals ≤ rm.locals) (hst : st = As.reverse ++ rest) (hro : (rest.map fun v => v.category).sum ≤ 8) (hdg : decode cc pc = .ok (.invokestatic index, 3)) (k9 : KW X σ1 (pc + 3) lv (.int r0 :: rest)) : KW X σ pc lv st := by
  obtain ⟨p, l, e, R, s, m, args, below, meth, c, D, tys, wf, A, nL, Q, tW, cn, sn⟩ := X
  obtain ⟨h1, h2, h3, h4, h5, h6, h7, h8, rfl, rfl, rfl, rfl, rfl, rfl, hcn, hsn⟩ := C
  intro H locs ls hP hD hS hl
  have hFc := kw_free hD hS h7
  refine va_calli (va_runS (As := As) (rest := rest) ⟨h1, h2, h3, h4, h5⟩ (hM H.size) (va_cwS As.length h5 (GT_in (fun _ h => h) _ hG) rfl hrc.1 hrc.2 hd hR) ⟨PreK.blind,  fun U hU hW => ⟨rfl, by rw [hU], by rw [hU]; exact hP, va_K.moved hW.alike h6, hD.weaken (fun _ _ _ _ => trivial), by rw [hU]; exact ((h8.warm hW).kept (fun a h9 h10 => hS.2.1 a h9 h10)).narrow hFc⟩⟩ rfl rfl hl.1 hst (lv_room hro) hdg ⟨hcn, hsn⟩) hS (fun q _ h => hFc q h) hFc (fun r u t H1 locs1 ht hvm hw hB hz1 hk1 hS1 => ?_)
  obtain ⟨b1, b2⟩ := hB
  obtain ⟨w1, w2⟩ := hw
  subst w1
  subst w2
  subst ht
  exact k9 _ _ _ b1 (b2.weaken (fun _ q _ h => hFc q.1 h)) hS1 hl
theorem kw_callNI {X : KX St} {L : Launch} {DD : va_G} {tt : List (ClassId × FieldType)} {ww : St → va_W} {rm : Room} {t0 : Nat} {cc : ByteArray} {own : String} {σ σ1 : St} {pc : Nat} {lv : List (Nat × Value)} {st : List Value} (C : KC X L DD tt ww rm t0 cc own) {y : MethodName} {cy : ByteArray} {n9 index : Nat} {ret : Option FieldType} {rmy : Room} {rest : List Value} {r0 : Int32} (As : List Value) (hM : CtI L DD tt ww t0 y cy n9 ret rmy As σ r0 σ1) (host : String) (hNw : ∀ U, NWs U → va_Nw (.methodLinkNest own index y host) U) (hG : ∀ w ∈ wsG y cy n9 ret, w ∈ GT) (hi9 : Cond.initialized y.cls ∈ GT) (hs9 : Cond.static y ∈ GT) (hrc : rmy.cells = 0 ∧ rmy.slots = 0) (hd : y.cls ≠ "java/lang/invoke/MethodHandle" ∧ y.cls ≠ "java/lang/invoke/VarHandle" ∧ (parseMethodDescriptor y.desc).map (fun d => d.parameters.length) = some As.length) (hR : rmy.frames + 1 ≤ rm.frames ∧ 8 + (n9 + 11) + rmy.locals ≤ rm.locals) (hst : st = As.reverse ++ rest) (hro : (rest.map fun v => v.category).sum ≤ 8) (hdg : decode cc pc = .ok (.invokestatic index, 3)) (k9 : KW X σ1 (pc + 3) lv (.int r0 :: rest)) : KW X σ pc lv st := by
  obtain ⟨p, l, e, R, s, m, args, below, meth, c, D, tys, wf, A, nL, Q, tW, cn, sn⟩ := X
  obtain ⟨h1, h2, h3, h4, h5, h6, h7, h8, rfl, rfl, rfl, rfl, rfl, rfl, hcn, hsn⟩ := C
  intro H locs ls hP hD hS hl
  have hFc := kw_free hD hS h7
  refine va_calli (va_runSN (As := As) (rest := rest) ⟨h1, h2, h3, h4, h5⟩ (hM H.size) ⟨va_cnB As.length h5 (GT_in (fun _ h => h) _ hG) rfl hrc.1 hrc.2 (hNw _ h8.2.2) (h5 _ hi9) hd hR, h5 _ hs9, trivial⟩ ⟨PreK.blind,  fun U hU hW => ⟨rfl, by rw [hU], by rw [hU]; exact hP, va_K.moved hW.alike h6, hD.weaken (fun _ _ _ _ => trivial), by rw [hU]; exact ((h8.warm hW).kept (fun a h9 h10 => hS.2.1 a h9 h10)).narrow hFc⟩⟩ rfl rfl hl.1 hst (lv_room hro) hdg ⟨hcn, hsn⟩) hS (fun q _ h => hFc q h) hFc (fun r u t H1 locs1 ht hvm hw hB hz1 hk1 hS1 => ?_)
  obtain ⟨b1, b2⟩ := hB
  obtain ⟨w1, w2⟩ := hw
  subst w1
  subst w2
  subst ht
  exact k9 _ _ _ b1 (b2.weaken (fun _ q _ h => hFc q.1 h)) hS1 hl
theorem kw_callVL {X : KX St} {L : Launch} {DD : va_G} {tt : List (ClassId × FieldType)} {ww : St → va_W} {rm : Room} {t0 : Nat} {cc : ByteArray} {own : String} {σ σ1 : St} {pc : Nat} {lv : List (Nat × Value)} {st : List Value} (C : KC X L DD tt ww rm t0 cc own) {y : MethodName} {cy : ByteArray} {n9 index : Nat} {ret : Option FieldType} {rmy : Room} {rest : List Value} {r0 : Int64} {b : Nat} (As : List Value) (hM : CtL L DD tt ww t0 y cy n9 ret rmy (.ref b :: As) σ r0 σ1) (C1 : String) (hG : ∀ w ∈ wsV own index C1 y (wsG y cy n9 ret), w ∈ GT) (hrc : rmy.cells = 0 ∧ rmy.slots = 0) (hd : y.cls = C1 ∧ y.cls ≠ "java/lang/invoke/MethodHandle" ∧ y.cls ≠ "java/lang/invoke/VarHandle" ∧ (parseMethodDescriptor y.desc).map (fun d => d.parameters.length) = some As.length) (hR : rmy.frames + 1 ≤ rm.frames ∧ 8 + (n9 + 11) + rmy.locals ≤ rm.locals) (q0 : Nat) {ci : Nat} {fs : List Value} {q : vw_C} (he : (ww σ)[q0]? = some (b, .inr (ci, fs))) (hc : vwCl[ci]? = some q) (hq : q.1 = C1) (hst : st = As.reverse ++ .ref b :: rest) (hro : (rest.map fun v => v.category).sum ≤ 8) (hdg : decode cc pc = .ok (.invokevirtual index, 3)) (k9 : KW X σ1 (pc + 3) lv (.long r0 :: rest)) : KW X σ pc lv st := by
  obtain ⟨p, l, e, R, s, m, args, below, meth, c, D, tys, wf, A, nL, Q, tW, cn, sn⟩ := X
  obtain ⟨h1, h2, h3, h4, h5, h6, h7, h8, rfl, rfl, rfl, rfl, rfl, rfl, hcn, hsn⟩ := C
  subst hq
  intro H locs ls hP hD hS hl
  have hFc := kw_free hD hS h7
  refine va_calll (va_runV (As := As) (rest := rest) ⟨h1, h2, h3, h4, h5⟩ (hM H.size) (cwV As.length h5 (GT_in (fun _ h => h) _ hG) rfl hrc.1 hrc.2 hd hR) ⟨PreK.blind, va_recv h6 hP hc he, fun U hU hW => ⟨rfl, by rw [hU], by rw [hU]; exact hP, va_K.moved hW.alike h6, hD.weaken (fun _ _ _ _ => trivial), by rw [hU]; exact ((h8.warm hW).kept (fun a h9 h10 => hS.2.1 a h9 h10)).narrow hFc⟩⟩ rfl rfl hl.1 hst (lv_room hro) hdg ⟨hcn, hsn⟩) hS (fun q _ h => hFc q h) hFc (fun r u t H1 locs1 ht hvm hw hB hz1 hk1 hS1 => ?_)
  obtain ⟨b1, b2⟩ := hB
  obtain ⟨w1, w2⟩ := hw
  subst w1
  subst w2
  subst ht
  exact k9 _ _ _ b1 (b2.weaken (fun _ q _ h => hFc q.1 h)) hS1 hl
theorem kw_callSL {X : KX St} {L : Launch} {DD : va_G} {tt : List (ClassId × FieldType)} {ww : St → va_W} {rm : Room} {t0 : Nat} {cc : ByteArray} {own : String} {σ σ1 : St} {pc : Nat} {lv : List (Nat × Value)} {st : List Value} (C : KC X L DD tt ww rm t0 cc own) {y : MethodName} {cy : ByteArray} {n9 index : Nat} {ret : Option FieldType} {rmy : Room} {rest : List Value} {r0 : Int64} (As : List Value) (hM : CtL L DD tt ww t0 y cy n9 ret rmy As σ r0 σ1) (hG : ∀ w ∈ wsS own index y (wsG y cy n9 ret), w ∈ GT) (hrc : rmy.cells = 0 ∧ rmy.slots = 0) (hd : y.cls = own ∧ y.cls ≠ "java/lang/invoke/MethodHandle" ∧ y.cls ≠ "java/lang/invoke/VarHandle" ∧ (parseMethodDescriptor y.desc).map (fun d => d.parameters.length) = some As.length) (hR : rmy.frames + 1 ≤ rm.frames ∧ 8 + (n9 + 11) + rmy.locals ≤ rm.locals) (hst : st = As.reverse ++ rest) (hro : (rest.map fun v => v.category).sum ≤ 8) (hdg : decode cc pc = .ok (.invokestatic index, 3)) (k9 : KW X σ1 (pc + 3) lv (.long r0 :: rest)) : KW X σ pc lv st := by
  obtain ⟨p, l, e, R, s, m, args, below, meth, c, D, tys, wf, A, nL, Q, tW, cn, sn⟩ := X
  obtain ⟨h1, h2, h3, h4, h5, h6, h7, h8, rfl, rfl, rfl, rfl, rfl, rfl, hcn, hsn⟩ := C
  intro H locs ls hP hD hS hl
  have hFc := kw_free hD hS h7
  refine va_calll (va_runS (As := As) (rest := rest) ⟨h1, h2, h3, h4, h5⟩ (hM H.size) (cwS As.length h5 (GT_in (fun _ h => h) _ hG) rfl hrc.1 hrc.2 hd hR) ⟨PreK.blind,  fun U hU hW => ⟨rfl, by rw [hU], by rw [hU]; exact hP, va_K.moved hW.alike h6, hD.weaken (fun _ _ _ _ => trivial), by rw [hU]; exact ((h8.warm hW).kept (fun a h9 h10 => hS.2.1 a h9 h10)).narrow hFc⟩⟩ rfl rfl hl.1 hst (lv_room hro) hdg ⟨hcn, hsn⟩) hS (fun q _ h => hFc q h) hFc (fun r u t H1 locs1 ht hvm hw hB hz1 hk1 hS1 => ?_)
  obtain ⟨b1, b2⟩ := hB
  obtain ⟨w1, w2⟩ := hw
  subst w1
  subst w2
  subst ht
  exact k9 _ _ _ b1 (b2.weaken (fun _ q _ h => hFc q.1 h)) hS1 hl
theorem kw_callTL {X : KX St} {L : Launch} {DD : va_G} {tt : List (ClassId × FieldType)} {ww : St → va_W} {rm : Room} {t0 : Nat} {cc : ByteArray} {own : String} {σ σ1 : St} {pc : Nat} {lv : List (Nat × Value)} {st : List Value} (C : KC X L DD tt ww rm t0 cc own) {y : MethodName} {cy : ByteArray} {n9 index : Nat} {ret : Option FieldType} {rmy : Room} {rest : List Value} {r0 : Int64} (As : List Value) (hM : CtL L DD tt ww t0 y cy n9 ret rmy As σ r0 σ1) (hG : ∀ w ∈ va_wsS own index y (wsG y cy n9 ret), w ∈ GT) (hrc : rmy.cells = 0 ∧ rmy.slots = 0) (hd : y.cls ≠ "java/lang/invoke/MethodHandle" ∧ y.cls ≠ "java/lang/invoke/VarHandle" ∧ (parseMethodDescriptor y.desc).map (fun d => d.parameters.length) = some As.length) (hR : rmy.frames + 1 ≤ rm.frames ∧ 8 + (n9 + 11) + rmy.locals ≤ rm.locals) (hst : st = As.reverse ++ rest) (hro : (rest.map fun v => v.category).sum ≤ 8) (hdg : decode cc pc = .ok (.invokestatic index, 3)) (k9 : KW X σ1 (pc + 3) lv (.long r0 :: rest)) : KW X σ pc lv st := by
  obtain ⟨p, l, e, R, s, m, args, below, meth, c, D, tys, wf, A, nL, Q, tW, cn, sn⟩ := X
  obtain ⟨h1, h2, h3, h4, h5, h6, h7, h8, rfl, rfl, rfl, rfl, rfl, rfl, hcn, hsn⟩ := C
  intro H locs ls hP hD hS hl
  have hFc := kw_free hD hS h7
  refine va_calll (va_runS (As := As) (rest := rest) ⟨h1, h2, h3, h4, h5⟩ (hM H.size) (va_cwS As.length h5 (GT_in (fun _ h => h) _ hG) rfl hrc.1 hrc.2 hd hR) ⟨PreK.blind,  fun U hU hW => ⟨rfl, by rw [hU], by rw [hU]; exact hP, va_K.moved hW.alike h6, hD.weaken (fun _ _ _ _ => trivial), by rw [hU]; exact ((h8.warm hW).kept (fun a h9 h10 => hS.2.1 a h9 h10)).narrow hFc⟩⟩ rfl rfl hl.1 hst (lv_room hro) hdg ⟨hcn, hsn⟩) hS (fun q _ h => hFc q h) hFc (fun r u t H1 locs1 ht hvm hw hB hz1 hk1 hS1 => ?_)
  obtain ⟨b1, b2⟩ := hB
  obtain ⟨w1, w2⟩ := hw
  subst w1
  subst w2
  subst ht
  exact k9 _ _ _ b1 (b2.weaken (fun _ q _ h => hFc q.1 h)) hS1 hl
theorem kw_callNL {X : KX St} {L : Launch} {DD : va_G} {tt : List (ClassId × FieldType)} {ww : St → va_W} {rm : Room} {t0 : Nat} {cc : ByteArray} {own : String} {σ σ1 : St} {pc : Nat} {lv : List (Nat × Value)} {st : List Value} (C : KC X L DD tt ww rm t0 cc own) {y : MethodName} {cy : ByteArray} {n9 index : Nat} {ret : Option FieldType} {rmy : Room} {rest : List Value} {r0 : Int64} (As : List Value) (hM : CtL L DD tt ww t0 y cy n9 ret rmy As σ r0 σ1) (host : String) (hNw : ∀ U, NWs U → va_Nw (.methodLinkNest own index y host) U) (hG : ∀ w ∈ wsG y cy n9 ret, w ∈ GT) (hi9 : Cond.initialized y.cls ∈ GT) (hs9 : Cond.static y ∈ GT) (hrc : rmy.cells = 0 ∧ rmy.slots = 0) (hd : y.cls ≠ "java/lang/invoke/MethodHandle" ∧ y.cls ≠ "java/lang/invoke/VarHandle" ∧ (parseMethodDescriptor y.desc).map (fun d => d.parameters.length) = some As.length) (hR : rmy.frames + 1 ≤ rm.frames ∧ 8 + (n9 + 11) + rmy.locals ≤ rm.locals) (hst : st = As.reverse ++ rest) (hro : (rest.map fun v => v.category).sum ≤ 8) (hdg : decode cc pc = .ok (.invokestatic index, 3)) (k9 : KW X σ1 (pc + 3) lv (.long r0 :: rest)) : KW X σ pc lv st := by
  obtain ⟨p, l, e, R, s, m, args, below, meth, c, D, tys, wf, A, nL, Q, tW, cn, sn⟩ := X
  obtain ⟨h1, h2, h3, h4, h5, h6, h7, h8, rfl, rfl, rfl, rfl, rfl, rfl, hcn, hsn⟩ := C
  intro H locs ls hP hD hS hl
  have hFc := kw_free hD hS h7
  refine va_calll (va_runSN (As := As) (rest := rest) ⟨h1, h2, h3, h4, h5⟩ (hM H.size) ⟨va_cnB As.length h5 (GT_in (fun _ h => h) _ hG) rfl hrc.1 hrc.2 (hNw _ h8.2.2) (h5 _ hi9) hd hR, h5 _ hs9, trivial⟩ ⟨PreK.blind,  fun U hU hW => ⟨rfl, by rw [hU], by rw [hU]; exact hP, va_K.moved hW.alike h6, hD.weaken (fun _ _ _ _ => trivial), by rw [hU]; exact ((h8.warm hW).kept (fun a h9 h10 => hS.2.1 a h9 h10)).narrow hFc⟩⟩ rfl rfl hl.1 hst (lv_room hro) hdg ⟨hcn, hsn⟩) hS (fun q _ h => hFc q h) hFc (fun r u t H1 locs1 ht hvm hw hB hz1 hk1 hS1 => ?_)
  obtain ⟨b1, b2⟩ := hB
  obtain ⟨w1, w2⟩ := hw
  subst w1
  subst w2
  subst ht
  exact k9 _ _ _ b1 (b2.weaken (fun _ q _ h => hFc q.1 h)) hS1 hl
theorem kw_callVV {X : KX St} {L : Launch} {DD : va_G} {tt : List (ClassId × FieldType)} {ww : St → va_W} {rm : Room} {t0 : Nat} {cc : ByteArray} {own : String} {σ σ1 : St} {pc : Nat} {lv : List (Nat × Value)} {st : List Value} (C : KC X L DD tt ww rm t0 cc own) {y : MethodName} {cy : ByteArray} {n9 index : Nat} {ret : Option FieldType} {rmy : Room} {rest : List Value} {b : Nat} (As : List Value) (hM : CtV L DD tt ww t0 y cy n9 ret rmy (.ref b :: As) σ σ1) (C1 : String) (hG : ∀ w ∈ wsV own index C1 y (wsG y cy n9 ret), w ∈ GT) (hrc : rmy.cells = 0 ∧ rmy.slots = 0) (hd : y.cls = C1 ∧ y.cls ≠ "java/lang/invoke/MethodHandle" ∧ y.cls ≠ "java/lang/invoke/VarHandle" ∧ (parseMethodDescriptor y.desc).map (fun d => d.parameters.length) = some As.length) (hR : rmy.frames + 1 ≤ rm.frames ∧ 8 + (n9 + 11) + rmy.locals ≤ rm.locals) (q0 : Nat) {ci : Nat} {fs : List Value} {q : vw_C} (he : (ww σ)[q0]? = some (b, .inr (ci, fs))) (hc : vwCl[ci]? = some q) (hq : q.1 = C1) (hst : st = As.reverse ++ .ref b :: rest) (hro : (rest.map fun v => v.category).sum ≤ 8) (hdg : decode cc pc = .ok (.invokevirtual index, 3)) (k9 : KW X σ1 (pc + 3) lv (rest)) : KW X σ pc lv st := by
  obtain ⟨p, l, e, R, s, m, args, below, meth, c, D, tys, wf, A, nL, Q, tW, cn, sn⟩ := X
  obtain ⟨h1, h2, h3, h4, h5, h6, h7, h8, rfl, rfl, rfl, rfl, rfl, rfl, hcn, hsn⟩ := C
  subst hq
  intro H locs ls hP hD hS hl
  have hFc := kw_free hD hS h7
  refine va_callv (va_runV (As := As) (rest := rest) ⟨h1, h2, h3, h4, h5⟩ (hM H.size) (cwV As.length h5 (GT_in (fun _ h => h) _ hG) rfl hrc.1 hrc.2 hd hR) ⟨PreK.blind, va_recv h6 hP hc he, fun U hU hW => ⟨rfl, by rw [hU], by rw [hU]; exact hP, va_K.moved hW.alike h6, hD.weaken (fun _ _ _ _ => trivial), by rw [hU]; exact ((h8.warm hW).kept (fun a h9 h10 => hS.2.1 a h9 h10)).narrow hFc⟩⟩ rfl rfl hl.1 hst (lv_room hro) hdg ⟨hcn, hsn⟩) hS (fun q _ h => hFc q h) hFc (fun u t H1 locs1 ht hvm hw hB hz1 hk1 hS1 => ?_)
  obtain ⟨b1, b2⟩ := hB
  subst hw
  subst ht
  exact k9 _ _ _ b1 (b2.weaken (fun _ q _ h => hFc q.1 h)) hS1 hl
theorem kw_callSV {X : KX St} {L : Launch} {DD : va_G} {tt : List (ClassId × FieldType)} {ww : St → va_W} {rm : Room} {t0 : Nat} {cc : ByteArray} {own : String} {σ σ1 : St} {pc : Nat} {lv : List (Nat × Value)} {st : List Value} (C : KC X L DD tt ww rm t0 cc own) {y : MethodName} {cy : ByteArray} {n9 index : Nat} {ret : Option FieldType} {rmy : Room} {rest : List Value} (As : List Value) (hM : CtV L DD tt ww t0 y cy n9 ret rmy As σ σ1) (hG : ∀ w ∈ wsS own index y (wsG y cy n9 ret), w ∈ GT) (hrc : rmy.cells = 0 ∧ rmy.slots = 0) (hd : y.cls = own ∧ y.cls ≠ "java/lang/invoke/MethodHandle" ∧ y.cls ≠ "java/lang/invoke/VarHandle" ∧ (parseMethodDescriptor y.desc).map (fun d => d.parameters.length) = some As.length) (hR : rmy.frames + 1 ≤ rm.frames ∧ 8 + (n9 + 11) + rmy.locals ≤ rm.locals) (hst : st = As.reverse ++ rest) (hro : (rest.map fun v => v.category).sum ≤ 8) (hdg : decode cc pc = .ok (.invokestatic index, 3)) (k9 : KW X σ1 (pc + 3) lv (rest)) : KW X σ pc lv st := by
  obtain ⟨p, l, e, R, s, m, args, below, meth, c, D, tys, wf, A, nL, Q, tW, cn, sn⟩ := X
  obtain ⟨h1, h2, h3, h4, h5, h6, h7, h8, rfl, rfl, rfl, rfl, rfl, rfl, hcn, hsn⟩ := C
  intro H locs ls hP hD hS hl
  have hFc := kw_free hD hS h7
  refine va_callv (va_runS (As := As) (rest := rest) ⟨h1, h2, h3, h4, h5⟩ (hM H.size) (cwS As.length h5 (GT_in (fun _ h => h) _ hG) rfl hrc.1 hrc.2 hd hR) ⟨PreK.blind,  fun U hU hW => ⟨rfl, by rw [hU], by rw [hU]; exact hP, va_K.moved hW.alike h6, hD.weaken (fun _ _ _ _ => trivial), by rw [hU]; exact ((h8.warm hW).kept (fun a h9 h10 => hS.2.1 a h9 h10)).narrow hFc⟩⟩ rfl rfl hl.1 hst (lv_room hro) hdg ⟨hcn, hsn⟩) hS (fun q _ h => hFc q h) hFc (fun u t H1 locs1 ht hvm hw hB hz1 hk1 hS1 => ?_)
  obtain ⟨b1, b2⟩ := hB
  subst hw
  subst ht
  exact k9 _ _ _ b1 (b2.weaken (fun _ q _ h => hFc q.1 h)) hS1 hl
theorem kw_callTV {X : KX St} {L : Launch} {DD : va_G} {tt : List (ClassId × FieldType)} {ww : St → va_W} {rm : Room} {t0 : Nat} {cc : ByteArray} {own : String} {σ σ1 : St} {pc : Nat} {lv : List (Nat × Value)} {st : List Value} (C : KC X L DD tt ww rm t0 cc own) {y : MethodName} {cy : ByteArray} {n9 index : Nat} {ret : Option FieldType} {rmy : Room} {rest : List Value} (As : List Value) (hM : CtV L DD tt ww t0 y cy n9 ret rmy As σ σ1) (hG : ∀ w ∈ va_wsS own index y (wsG y cy n9 ret), w ∈ GT) (hrc : rmy.cells = 0 ∧ rmy.slots = 0) (hd : y.cls ≠ "java/lang/invoke/MethodHandle" ∧ y.cls ≠ "java/lang/invoke/VarHandle" ∧ (parseMethodDescriptor y.desc).map (fun d => d.parameters.length) = some As.length) (hR : rmy.frames + 1 ≤ rm.frames ∧ 8 + (n9 + 11) + rmy.locals ≤ rm.locals) (hst : st = As.reverse ++ rest) (hro : (rest.map fun v => v.category).sum ≤ 8) (hdg : decode cc pc = .ok (.invokestatic index, 3)) (k9 : KW X σ1 (pc + 3) lv (rest)) : KW X σ pc lv st := by
  obtain ⟨p, l, e, R, s, m, args, below, meth, c, D, tys, wf, A, nL, Q, tW, cn, sn⟩ := X
  obtain ⟨h1, h2, h3, h4, h5, h6, h7, h8, rfl, rfl, rfl, rfl, rfl, rfl, hcn, hsn⟩ := C
  intro H locs ls hP hD hS hl
  have hFc := kw_free hD hS h7
  refine va_callv (va_runS (As := As) (rest := rest) ⟨h1, h2, h3, h4, h5⟩ (hM H.size) (va_cwS As.length h5 (GT_in (fun _ h => h) _ hG) rfl hrc.1 hrc.2 hd hR) ⟨PreK.blind,  fun U hU hW => ⟨rfl, by rw [hU], by rw [hU]; exact hP, va_K.moved hW.alike h6, hD.weaken (fun _ _ _ _ => trivial), by rw [hU]; exact ((h8.warm hW).kept (fun a h9 h10 => hS.2.1 a h9 h10)).narrow hFc⟩⟩ rfl rfl hl.1 hst (lv_room hro) hdg ⟨hcn, hsn⟩) hS (fun q _ h => hFc q h) hFc (fun u t H1 locs1 ht hvm hw hB hz1 hk1 hS1 => ?_)
  obtain ⟨b1, b2⟩ := hB
  subst hw
  subst ht
  exact k9 _ _ _ b1 (b2.weaken (fun _ q _ h => hFc q.1 h)) hS1 hl
theorem kw_callNV {X : KX St} {L : Launch} {DD : va_G} {tt : List (ClassId × FieldType)} {ww : St → va_W} {rm : Room} {t0 : Nat} {cc : ByteArray} {own : String} {σ σ1 : St} {pc : Nat} {lv : List (Nat × Value)} {st : List Value} (C : KC X L DD tt ww rm t0 cc own) {y : MethodName} {cy : ByteArray} {n9 index : Nat} {ret : Option FieldType} {rmy : Room} {rest : List Value} (As : List Value) (hM : CtV L DD tt ww t0 y cy n9 ret rmy As σ σ1) (host : String) (hNw : ∀ U, NWs U → va_Nw (.methodLinkNest own index y host) U) (hG : ∀ w ∈ wsG y cy n9 ret, w ∈ GT) (hi9 : Cond.initialized y.cls ∈ GT) (hs9 : Cond.static y ∈ GT) (hrc : rmy.cells = 0 ∧ rmy.slots = 0) (hd : y.cls ≠ "java/lang/invoke/MethodHandle" ∧ y.cls ≠ "java/lang/invoke/VarHandle" ∧ (parseMethodDescriptor y.desc).map (fun d => d.parameters.length) = some As.length) (hR : rmy.frames + 1 ≤ rm.frames ∧ 8 + (n9 + 11) + rmy.locals ≤ rm.locals) (hst : st = As.reverse ++ rest) (hro : (rest.map fun v => v.category).sum ≤ 8) (hdg : decode cc pc = .ok (.invokestatic index, 3)) (k9 : KW X σ1 (pc + 3) lv (rest)) : KW X σ pc lv st := by
  obtain ⟨p, l, e, R, s, m, args, below, meth, c, D, tys, wf, A, nL, Q, tW, cn, sn⟩ := X
  obtain ⟨h1, h2, h3, h4, h5, h6, h7, h8, rfl, rfl, rfl, rfl, rfl, rfl, hcn, hsn⟩ := C
  intro H locs ls hP hD hS hl
  have hFc := kw_free hD hS h7
  refine va_callv (va_runSN (As := As) (rest := rest) ⟨h1, h2, h3, h4, h5⟩ (hM H.size) ⟨va_cnB As.length h5 (GT_in (fun _ h => h) _ hG) rfl hrc.1 hrc.2 (hNw _ h8.2.2) (h5 _ hi9) hd hR, h5 _ hs9, trivial⟩ ⟨PreK.blind,  fun U hU hW => ⟨rfl, by rw [hU], by rw [hU]; exact hP, va_K.moved hW.alike h6, hD.weaken (fun _ _ _ _ => trivial), by rw [hU]; exact ((h8.warm hW).kept (fun a h9 h10 => hS.2.1 a h9 h10)).narrow hFc⟩⟩ rfl rfl hl.1 hst (lv_room hro) hdg ⟨hcn, hsn⟩) hS (fun q _ h => hFc q h) hFc (fun u t H1 locs1 ht hvm hw hB hz1 hk1 hS1 => ?_)
  obtain ⟨b1, b2⟩ := hB
  subst hw
  subst ht
  exact k9 _ _ _ b1 (b2.weaken (fun _ q _ h => hFc q.1 h)) hS1 hl
def lpx1 {A0 β : Type} : Nat → ((A0 → Option β) → A0 → Option β) → A0 → Option β
  | 0, _, _ => none
  | n + 1, F, a0 => F (lpx1 n F) a0
theorem lpx1_walk {A0 β : Type} {F : (A0 → Option β) → A0 → Option β} {x : β} {P : A0 → Prop} (h : ∀ (self : A0 → Option β) (a0 : A0), (∀ (a0 : A0), self a0 = some x → P a0) → F self a0 = some x → P a0) : ∀ (n : Nat) (a0 : A0), lpx1 n F a0 = some x → P a0
  | 0, _, hf => by cases hf
  | n + 1, a0, hf => h (lpx1 n F) a0 (fun a0' h9 => lpx1_walk h n a0' h9) hf
def jnx1 {A0 β : Type} (J : A0 → Option β) (K : (A0 → Option β) → Option β) : Option β := K J
theorem jnx1_elim {A0 β : Type} {J : A0 → Option β} {K : (A0 → Option β) → Option β} {x : β} (h : jnx1 J K = some x) : ∃ J9 : A0 → Option β, (∀ (a0 : A0), J9 a0 = J a0) ∧ K J9 = some x := ⟨J, fun _ => rfl, h⟩
def lpx2 {A0 A1 β : Type} : Nat → ((A0 → A1 → Option β) → A0 → A1 → Option β) → A0 → A1 → Option β
  | 0, _, _, _ => none
  | n + 1, F, a0, a1 => F (lpx2 n F) a0 a1
theorem lpx2_walk {A0 A1 β : Type} {F : (A0 → A1 → Option β) → A0 → A1 → Option β} {x : β} {P : A0 → A1 → Prop} (h : ∀ (self : A0 → A1 → Option β) (a0 : A0) (a1 : A1), (∀ (a0 : A0) (a1 : A1), self a0 a1 = some x → P a0 a1) → F self a0 a1 = some x → P a0 a1) : ∀ (n : Nat) (a0 : A0) (a1 : A1), lpx2 n F a0 a1 = some x → P a0 a1
  | 0, _, _, hf => by cases hf
  | n + 1, a0, a1, hf => h (lpx2 n F) a0 a1 (fun a0' a1' h9 => lpx2_walk h n a0' a1' h9) hf
def jnx2 {A0 A1 β : Type} (J : A0 → A1 → Option β) (K : (A0 → A1 → Option β) → Option β) : Option β := K J
theorem jnx2_elim {A0 A1 β : Type} {J : A0 → A1 → Option β} {K : (A0 → A1 → Option β) → Option β} {x : β} (h : jnx2 J K = some x) : ∃ J9 : A0 → A1 → Option β, (∀ (a0 : A0) (a1 : A1), J9 a0 a1 = J a0 a1) ∧ K J9 = some x := ⟨J, fun _ _ => rfl, h⟩
def lpx3 {A0 A1 A2 β : Type} : Nat → ((A0 → A1 → A2 → Option β) → A0 → A1 → A2 → Option β) → A0 → A1 → A2 → Option β
  | 0, _, _, _, _ => none
  | n + 1, F, a0, a1, a2 => F (lpx3 n F) a0 a1 a2
theorem lpx3_walk {A0 A1 A2 β : Type} {F : (A0 → A1 → A2 → Option β) → A0 → A1 → A2 → Option β} {x : β} {P : A0 → A1 → A2 → Prop} (h : ∀ (self : A0 → A1 → A2 → Option β) (a0 : A0) (a1 : A1) (a2 : A2), (∀ (a0 : A0) (a1 : A1) (a2 : A2), self a0 a1 a2 = some x → P a0 a1 a2) → F self a0 a1 a2 = some x → P a0 a1 a2) : ∀ (n : Nat) (a0 : A0) (a1 : A1) (a2 : A2), lpx3 n F a0 a1 a2 = some x → P a0 a1 a2
  | 0, _, _, _, hf => by cases hf
  | n + 1, a0, a1, a2, hf => h (lpx3 n F) a0 a1 a2 (fun a0' a1' a2' h9 => lpx3_walk h n a0' a1' a2' h9) hf
def jnx3 {A0 A1 A2 β : Type} (J : A0 → A1 → A2 → Option β) (K : (A0 → A1 → A2 → Option β) → Option β) : Option β := K J
theorem jnx3_elim {A0 A1 A2 β : Type} {J : A0 → A1 → A2 → Option β} {K : (A0 → A1 → A2 → Option β) → Option β} {x : β} (h : jnx3 J K = some x) : ∃ J9 : A0 → A1 → A2 → Option β, (∀ (a0 : A0) (a1 : A1) (a2 : A2), J9 a0 a1 a2 = J a0 a1 a2) ∧ K J9 = some x := ⟨J, fun _ _ _ => rfl, h⟩
def lpx4 {A0 A1 A2 A3 β : Type} : Nat → ((A0 → A1 → A2 → A3 → Option β) → A0 → A1 → A2 → A3 → Option β) → A0 → A1 → A2 → A3 → Option β
  | 0, _, _, _, _, _ => none
  | n + 1, F, a0, a1, a2, a3 => F (lpx4 n F) a0 a1 a2 a3
theorem lpx4_walk {A0 A1 A2 A3 β : Type} {F : (A0 → A1 → A2 → A3 → Option β) → A0 → A1 → A2 → A3 → Option β} {x : β} {P : A0 → A1 → A2 → A3 → Prop} (h : ∀ (self : A0 → A1 → A2 → A3 → Option β) (a0 : A0) (a1 : A1) (a2 : A2) (a3 : A3), (∀ (a0 : A0) (a1 : A1) (a2 : A2) (a3 : A3), self a0 a1 a2 a3 = some x → P a0 a1 a2 a3) → F self a0 a1 a2 a3 = some x → P a0 a1 a2 a3) : ∀ (n : Nat) (a0 : A0) (a1 : A1) (a2 : A2) (a3 : A3), lpx4 n F a0 a1 a2 a3 = some x → P a0 a1 a2 a3
  | 0, _, _, _, _, hf => by cases hf
  | n + 1, a0, a1, a2, a3, hf => h (lpx4 n F) a0 a1 a2 a3 (fun a0' a1' a2' a3' h9 => lpx4_walk h n a0' a1' a2' a3' h9) hf
def jnx4 {A0 A1 A2 A3 β : Type} (J : A0 → A1 → A2 → A3 → Option β) (K : (A0 → A1 → A2 → A3 → Option β) → Option β) : Option β := K J
theorem jnx4_elim {A0 A1 A2 A3 β : Type} {J : A0 → A1 → A2 → A3 → Option β} {K : (A0 → A1 → A2 → A3 → Option β) → Option β} {x : β} (h : jnx4 J K = some x) : ∃ J9 : A0 → A1 → A2 → A3 → Option β, (∀ (a0 : A0) (a1 : A1) (a2 : A2) (a3 : A3), J9 a0 a1 a2 a3 = J a0 a1 a2 a3) ∧ K J9 = some x := ⟨J, fun _ _ _ _ => rfl, h⟩
def lpx5 {A0 A1 A2 A3 A4 β : Type} : Nat → ((A0 → A1 → A2 → A3 → A4 → Option β) → A0 → A1 → A2 → A3 → A4 → Option β) → A0 → A1 → A2 → A3 → A4 → Option β
  | 0, _, _, _, _, _, _ => none
  | n + 1, F, a0, a1, a2, a3, a4 => F (lpx5 n F) a0 a1 a2 a3 a4
theorem lpx5_walk {A0 A1 A2 A3 A4 β : Type} {F : (A0 → A1 → A2 → A3 → A4 → Option β) → A0 → A1 → A2 → A3 → A4 → Option β} {x : β} {P : A0 → A1 → A2 → A3 → A4 → Prop} (h : ∀ (self : A0 → A1 → A2 → A3 → A4 → Option β) (a0 : A0) (a1 : A1) (a2 : A2) (a3 : A3) (a4 : A4), (∀ (a0 : A0) (a1 : A1) (a2 : A2) (a3 : A3) (a4 : A4), self a0 a1 a2 a3 a4 = some x → P a0 a1 a2 a3 a4) → F self a0 a1 a2 a3 a4 = some x → P a0 a1 a2 a3 a4) : ∀ (n : Nat) (a0 : A0) (a1 : A1) (a2 : A2) (a3 : A3) (a4 : A4), lpx5 n F a0 a1 a2 a3 a4 = some x → P a0 a1 a2 a3 a4
  | 0, _, _, _, _, _, hf => by cases hf
  | n + 1, a0, a1, a2, a3, a4, hf => h (lpx5 n F) a0 a1 a2 a3 a4 (fun a0' a1' a2' a3' a4' h9 => lpx5_walk h n a0' a1' a2' a3' a4' h9) hf
def jnx5 {A0 A1 A2 A3 A4 β : Type} (J : A0 → A1 → A2 → A3 → A4 → Option β) (K : (A0 → A1 → A2 → A3 → A4 → Option β) → Option β) : Option β := K J
theorem jnx5_elim {A0 A1 A2 A3 A4 β : Type} {J : A0 → A1 → A2 → A3 → A4 → Option β} {K : (A0 → A1 → A2 → A3 → A4 → Option β) → Option β} {x : β} (h : jnx5 J K = some x) : ∃ J9 : A0 → A1 → A2 → A3 → A4 → Option β, (∀ (a0 : A0) (a1 : A1) (a2 : A2) (a3 : A3) (a4 : A4), J9 a0 a1 a2 a3 a4 = J a0 a1 a2 a3 a4) ∧ K J9 = some x := ⟨J, fun _ _ _ _ _ => rfl, h⟩
def lpx6 {A0 A1 A2 A3 A4 A5 β : Type} : Nat → ((A0 → A1 → A2 → A3 → A4 → A5 → Option β) → A0 → A1 → A2 → A3 → A4 → A5 → Option β) → A0 → A1 → A2 → A3 → A4 → A5 → Option β
  | 0, _, _, _, _, _, _, _ => none
  | n + 1, F, a0, a1, a2, a3, a4, a5 => F (lpx6 n F) a0 a1 a2 a3 a4 a5
theorem lpx6_walk {A0 A1 A2 A3 A4 A5 β : Type} {F : (A0 → A1 → A2 → A3 → A4 → A5 → Option β) → A0 → A1 → A2 → A3 → A4 → A5 → Option β} {x : β} {P : A0 → A1 → A2 → A3 → A4 → A5 → Prop} (h : ∀ (self : A0 → A1 → A2 → A3 → A4 → A5 → Option β) (a0 : A0) (a1 : A1) (a2 : A2) (a3 : A3) (a4 : A4) (a5 : A5), (∀ (a0 : A0) (a1 : A1) (a2 : A2) (a3 : A3) (a4 : A4) (a5 : A5), self a0 a1 a2 a3 a4 a5 = some x → P a0 a1 a2 a3 a4 a5) → F self a0 a1 a2 a3 a4 a5 = some x → P a0 a1 a2 a3 a4 a5) : ∀ (n : Nat) (a0 : A0) (a1 : A1) (a2 : A2) (a3 : A3) (a4 : A4) (a5 : A5), lpx6 n F a0 a1 a2 a3 a4 a5 = some x → P a0 a1 a2 a3 a4 a5
  | 0, _, _, _, _, _, _, hf => by cases hf
  | n + 1, a0, a1, a2, a3, a4, a5, hf => h (lpx6 n F) a0 a1 a2 a3 a4 a5 (fun a0' a1' a2' a3' a4' a5' h9 => lpx6_walk h n a0' a1' a2' a3' a4' a5' h9) hf
def jnx6 {A0 A1 A2 A3 A4 A5 β : Type} (J : A0 → A1 → A2 → A3 → A4 → A5 → Option β) (K : (A0 → A1 → A2 → A3 → A4 → A5 → Option β) → Option β) : Option β := K J
theorem jnx6_elim {A0 A1 A2 A3 A4 A5 β : Type} {J : A0 → A1 → A2 → A3 → A4 → A5 → Option β} {K : (A0 → A1 → A2 → A3 → A4 → A5 → Option β) → Option β} {x : β} (h : jnx6 J K = some x) : ∃ J9 : A0 → A1 → A2 → A3 → A4 → A5 → Option β, (∀ (a0 : A0) (a1 : A1) (a2 : A2) (a3 : A3) (a4 : A4) (a5 : A5), J9 a0 a1 a2 a3 a4 a5 = J a0 a1 a2 a3 a4 a5) ∧ K J9 = some x := ⟨J, fun _ _ _ _ _ _ => rfl, h⟩
def lpx7 {A0 A1 A2 A3 A4 A5 A6 β : Type} : Nat → ((A0 → A1 → A2 → A3 → A4 → A5 → A6 → Option β) → A0 → A1 → A2 → A3 → A4 → A5 → A6 → Option β) → A0 → A1 → A2 → A3 → A4 → A5 → A6 → Option β
  | 0, _, _, _, _, _, _, _, _ => none
  | n + 1, F, a0, a1, a2, a3, a4, a5, a6 => F (lpx7 n F) a0 a1 a2 a3 a4 a5 a6
theorem lpx7_walk {A0 A1 A2 A3 A4 A5 A6 β : Type} {F : (A0 → A1 → A2 → A3 → A4 → A5 → A6 → Option β) → A0 → A1 → A2 → A3 → A4 → A5 → A6 → Option β} {x : β} {P : A0 → A1 → A2 → A3 → A4 → A5 → A6 → Prop} (h : ∀ (self : A0 → A1 → A2 → A3 → A4 → A5 → A6 → Option β) (a0 : A0) (a1 : A1) (a2 : A2) (a3 : A3) (a4 : A4) (a5 : A5) (a6 : A6), (∀ (a0 : A0) (a1 : A1) (a2 : A2) (a3 : A3) (a4 : A4) (a5 : A5) (a6 : A6), self a0 a1 a2 a3 a4 a5 a6 = some x → P a0 a1 a2 a3 a4 a5 a6) → F self a0 a1 a2 a3 a4 a5 a6 = some x → P a0 a1 a2 a3 a4 a5 a6) : ∀ (n : Nat) (a0 : A0) (a1 : A1) (a2 : A2) (a3 : A3) (a4 : A4) (a5 : A5) (a6 : A6), lpx7 n F a0 a1 a2 a3 a4 a5 a6 = some x → P a0 a1 a2 a3 a4 a5 a6
  | 0, _, _, _, _, _, _, _, hf => by cases hf
  | n + 1, a0, a1, a2, a3, a4, a5, a6, hf => h (lpx7 n F) a0 a1 a2 a3 a4 a5 a6 (fun a0' a1' a2' a3' a4' a5' a6' h9 => lpx7_walk h n a0' a1' a2' a3' a4' a5' a6' h9) hf
def jnx7 {A0 A1 A2 A3 A4 A5 A6 β : Type} (J : A0 → A1 → A2 → A3 → A4 → A5 → A6 → Option β) (K : (A0 → A1 → A2 → A3 → A4 → A5 → A6 → Option β) → Option β) : Option β := K J
theorem jnx7_elim {A0 A1 A2 A3 A4 A5 A6 β : Type} {J : A0 → A1 → A2 → A3 → A4 → A5 → A6 → Option β} {K : (A0 → A1 → A2 → A3 → A4 → A5 → A6 → Option β) → Option β} {x : β} (h : jnx7 J K = some x) : ∃ J9 : A0 → A1 → A2 → A3 → A4 → A5 → A6 → Option β, (∀ (a0 : A0) (a1 : A1) (a2 : A2) (a3 : A3) (a4 : A4) (a5 : A5) (a6 : A6), J9 a0 a1 a2 a3 a4 a5 a6 = J a0 a1 a2 a3 a4 a5 a6) ∧ K J9 = some x := ⟨J, fun _ _ _ _ _ _ _ => rfl, h⟩
def lpx8 {A0 A1 A2 A3 A4 A5 A6 A7 β : Type} : Nat → ((A0 → A1 → A2 → A3 → A4 → A5 → A6 → A7 → Option β) → A0 → A1 → A2 → A3 → A4 → A5 → A6 → A7 → Option β) → A0 → A1 → A2 → A3 → A4 → A5 → A6 → A7 → Option β
  | 0, _, _, _, _, _, _, _, _, _ => none
  | n + 1, F, a0, a1, a2, a3, a4, a5, a6, a7 => F (lpx8 n F) a0 a1 a2 a3 a4 a5 a6 a7
theorem lpx8_walk {A0 A1 A2 A3 A4 A5 A6 A7 β : Type} {F : (A0 → A1 → A2 → A3 → A4 → A5 → A6 → A7 → Option β) → A0 → A1 → A2 → A3 → A4 → A5 → A6 → A7 → Option β} {x : β} {P : A0 → A1 → A2 → A3 → A4 → A5 → A6 → A7 → Prop} (h : ∀ (self : A0 → A1 → A2 → A3 → A4 → A5 → A6 → A7 → Option β) (a0 : A0) (a1 : A1) (a2 : A2) (a3 : A3) (a4 : A4) (a5 : A5) (a6 : A6) (a7 : A7), (∀ (a0 : A0) (a1 : A1) (a2 : A2) (a3 : A3) (a4 : A4) (a5 : A5) (a6 : A6) (a7 : A7), self a0 a1 a2 a3 a4 a5 a6 a7 = some x → P a0 a1 a2 a3 a4 a5 a6 a7) → F self a0 a1 a2 a3 a4 a5 a6 a7 = some x → P a0 a1 a2 a3 a4 a5 a6 a7) : ∀ (n : Nat) (a0 : A0) (a1 : A1) (a2 : A2) (a3 : A3) (a4 : A4) (a5 : A5) (a6 : A6) (a7 : A7), lpx8 n F a0 a1 a2 a3 a4 a5 a6 a7 = some x → P a0 a1 a2 a3 a4 a5 a6 a7
  | 0, _, _, _, _, _, _, _, _, hf => by cases hf
  | n + 1, a0, a1, a2, a3, a4, a5, a6, a7, hf => h (lpx8 n F) a0 a1 a2 a3 a4 a5 a6 a7 (fun a0' a1' a2' a3' a4' a5' a6' a7' h9 => lpx8_walk h n a0' a1' a2' a3' a4' a5' a6' a7' h9) hf
def jnx8 {A0 A1 A2 A3 A4 A5 A6 A7 β : Type} (J : A0 → A1 → A2 → A3 → A4 → A5 → A6 → A7 → Option β) (K : (A0 → A1 → A2 → A3 → A4 → A5 → A6 → A7 → Option β) → Option β) : Option β := K J
theorem jnx8_elim {A0 A1 A2 A3 A4 A5 A6 A7 β : Type} {J : A0 → A1 → A2 → A3 → A4 → A5 → A6 → A7 → Option β} {K : (A0 → A1 → A2 → A3 → A4 → A5 → A6 → A7 → Option β) → Option β} {x : β} (h : jnx8 J K = some x) : ∃ J9 : A0 → A1 → A2 → A3 → A4 → A5 → A6 → A7 → Option β, (∀ (a0 : A0) (a1 : A1) (a2 : A2) (a3 : A3) (a4 : A4) (a5 : A5) (a6 : A6) (a7 : A7), J9 a0 a1 a2 a3 a4 a5 a6 a7 = J a0 a1 a2 a3 a4 a5 a6 a7) ∧ K J9 = some x := ⟨J, fun _ _ _ _ _ _ _ _ => rfl, h⟩
def lpx9 {A0 A1 A2 A3 A4 A5 A6 A7 A8 β : Type} : Nat → ((A0 → A1 → A2 → A3 → A4 → A5 → A6 → A7 → A8 → Option β) → A0 → A1 → A2 → A3 → A4 → A5 → A6 → A7 → A8 → Option β) → A0 → A1 → A2 → A3 → A4 → A5 → A6 → A7 → A8 → Option β
  | 0, _, _, _, _, _, _, _, _, _, _ => none
  | n + 1, F, a0, a1, a2, a3, a4, a5, a6, a7, a8 => F (lpx9 n F) a0 a1 a2 a3 a4 a5 a6 a7 a8
theorem lpx9_walk {A0 A1 A2 A3 A4 A5 A6 A7 A8 β : Type} {F : (A0 → A1 → A2 → A3 → A4 → A5 → A6 → A7 → A8 → Option β) → A0 → A1 → A2 → A3 → A4 → A5 → A6 → A7 → A8 → Option β} {x : β} {P : A0 → A1 → A2 → A3 → A4 → A5 → A6 → A7 → A8 → Prop} (h : ∀ (self : A0 → A1 → A2 → A3 → A4 → A5 → A6 → A7 → A8 → Option β) (a0 : A0) (a1 : A1) (a2 : A2) (a3 : A3) (a4 : A4) (a5 : A5) (a6 : A6) (a7 : A7) (a8 : A8), (∀ (a0 : A0) (a1 : A1) (a2 : A2) (a3 : A3) (a4 : A4) (a5 : A5) (a6 : A6) (a7 : A7) (a8 : A8), self a0 a1 a2 a3 a4 a5 a6 a7 a8 = some x → P a0 a1 a2 a3 a4 a5 a6 a7 a8) → F self a0 a1 a2 a3 a4 a5 a6 a7 a8 = some x → P a0 a1 a2 a3 a4 a5 a6 a7 a8) : ∀ (n : Nat) (a0 : A0) (a1 : A1) (a2 : A2) (a3 : A3) (a4 : A4) (a5 : A5) (a6 : A6) (a7 : A7) (a8 : A8), lpx9 n F a0 a1 a2 a3 a4 a5 a6 a7 a8 = some x → P a0 a1 a2 a3 a4 a5 a6 a7 a8
  | 0, _, _, _, _, _, _, _, _, _, hf => by cases hf
  | n + 1, a0, a1, a2, a3, a4, a5, a6, a7, a8, hf => h (lpx9 n F) a0 a1 a2 a3 a4 a5 a6 a7 a8 (fun a0' a1' a2' a3' a4' a5' a6' a7' a8' h9 => lpx9_walk h n a0' a1' a2' a3' a4' a5' a6' a7' a8' h9) hf
def jnx9 {A0 A1 A2 A3 A4 A5 A6 A7 A8 β : Type} (J : A0 → A1 → A2 → A3 → A4 → A5 → A6 → A7 → A8 → Option β) (K : (A0 → A1 → A2 → A3 → A4 → A5 → A6 → A7 → A8 → Option β) → Option β) : Option β := K J
theorem jnx9_elim {A0 A1 A2 A3 A4 A5 A6 A7 A8 β : Type} {J : A0 → A1 → A2 → A3 → A4 → A5 → A6 → A7 → A8 → Option β} {K : (A0 → A1 → A2 → A3 → A4 → A5 → A6 → A7 → A8 → Option β) → Option β} {x : β} (h : jnx9 J K = some x) : ∃ J9 : A0 → A1 → A2 → A3 → A4 → A5 → A6 → A7 → A8 → Option β, (∀ (a0 : A0) (a1 : A1) (a2 : A2) (a3 : A3) (a4 : A4) (a5 : A5) (a6 : A6) (a7 : A7) (a8 : A8), J9 a0 a1 a2 a3 a4 a5 a6 a7 a8 = J a0 a1 a2 a3 a4 a5 a6 a7 a8) ∧ K J9 = some x := ⟨J, fun _ _ _ _ _ _ _ _ _ => rfl, h⟩
def bI {β : Type} (o : Option (Int32 × St)) (K : Int32 → St → Option β) : Option β := o.bind (fun q => K q.1 q.2)
def bL {β : Type} (o : Option (Int64 × St)) (K : Int64 → St → Option β) : Option β := o.bind (fun q => K q.1 q.2)
def bV {β : Type} (o : Option St) (K : St → Option β) : Option β := o.bind K
theorem bI_elim {β : Type} {o : Option (Int32 × St)} {K : Int32 → St → Option β} {x : β} (h : bI o K = some x) : ∃ (r : Int32) (σ : St), o = some (r, σ) ∧ K r σ = some x := by
  obtain ⟨⟨r, σ⟩, h1, h2⟩ := bd_elim h
  exact ⟨r, σ, h1, h2⟩
theorem bL_elim {β : Type} {o : Option (Int64 × St)} {K : Int64 → St → Option β} {x : β} (h : bL o K = some x) : ∃ (r : Int64) (σ : St), o = some (r, σ) ∧ K r σ = some x := by
  obtain ⟨⟨r, σ⟩, h1, h2⟩ := bd_elim h
  exact ⟨r, σ, h1, h2⟩
theorem bV_elim {β : Type} {o : Option St} {K : St → Option β} {x : β} (h : bV o K = some x) : ∃ (σ : St), o = some σ ∧ K σ = some x := bd_elim h
