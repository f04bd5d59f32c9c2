/-! THE JUDGEMENT: the method stands at pc, the world holds the state σ -/
def iMin (x y : Int32) : Int32 := if y < x then y else x
def iMax (x y : Int32) : Int32 := if x < y then y else x
def lMin (x y : Int64) : Int64 := if y < x then y else x
def lMax (x y : Int64) : Int64 := if y < x then x else y
def lAbs (x : Int64) : Int64 := if 0 < x then x else -x
abbrev KX (S : Type) : Type := Program × Launch × Env × Room × State × MethodId × Array Value × List Frame × Method × Code × va_G × List (ClassId × FieldType) × (S → va_W) × (Nat → Prop) × Nat × (State → Prop) × Nat × Nat × Nat
def wordsV : List Int32 := [284871840, 538529792, 102117984, 520271872, 642945024, 404455424, 139514112, 781594624, 605342880, 522190848, 48365568, 486146048, 76677120, 83540096, 788091136, 41058304, 273992288, 102117540, 844154880]
def NWs (U : State) : Prop := va_Nw (.methodLinkNest RX0 177 yX9_isWithin "BidLines") U ∧ va_Nw (.methodLinkNest RX1 80 yX9_isWithin "BidLines") U ∧ va_Nw (.methodLinkNest RX3 136 yX9_placeOf "BidLines") U ∧ va_Nw (.methodLinkNest RX3 144 yX9_isWithin "BidLines") U ∧ va_Nw (.methodLinkNest RX7 61 yX9_placeOf "BidLines") U ∧ va_Nw (.fieldLinkNest RX7 57 "BidLines" "WORDS" "[I" "BidLines") U
def SBW (tW : Nat) (A : Nat → Prop) (U : State) (H : Heap) : Prop := va_Z "BidLines" "WORDS" "[I" (.ref tW) A U H ∧ va_T .int tW 19 (fun j => .int (wordsV.getD j 0)) A U H ∧ NWs U
theorem NWs.warm {u U : State} (hW : u.WarmedH U.vm) (h : NWs u) : NWs U := ⟨va_Nw.warmM hW h.1, va_Nw.warmM hW h.2.1, va_Nw.warmM hW h.2.2.1, va_Nw.warmM hW h.2.2.2.1, va_Nw.warmM hW h.2.2.2.2.1, va_Nw.warmF hW h.2.2.2.2.2⟩
theorem NWs.same {u U : State} (hv : u.vm = U.vm) (h : NWs u) : NWs U := ⟨va_Nw.same rfl hv h.1, va_Nw.same rfl hv h.2.1, va_Nw.same rfl hv h.2.2.1, va_Nw.same rfl hv h.2.2.2.1, va_Nw.same rfl hv h.2.2.2.2.1, va_Nw.same rfl hv h.2.2.2.2.2⟩
theorem SBW.warm {tW : Nat} {A : Nat → Prop} {u U : State} {H : Heap} (hW : u.WarmedH U.vm) (h : SBW tW A u H) : SBW tW A U H := ⟨h.1.moved hW.alike, h.2.1.moved hW.alike, h.2.2.warm hW⟩
theorem SBW.same {tW : Nat} {A : Nat → Prop} {u U : State} {H : Heap} (hv : u.vm = U.vm) (ha : u.vm.Alike U.vm) (h : SBW tW A u H) : SBW tW A U H := ⟨h.1.moved ha, h.2.1.moved ha, h.2.2.same hv⟩
theorem SBW.kept {tW : Nat} {A : Nat → Prop} {U : State} {H H1 : Heap} (h : SBW tW A U H) (hq : ∀ a : Nat, a < H.size → ¬ A a → H1[a]? = H[a]?) : SBW tW A U H1 := ⟨h.1.kept hq, h.2.1.kept hq, h.2.2⟩
theorem SBW.narrow {tW : Nat} {A B : Nat → Prop} {U : State} {H : Heap} (h : SBW tW A U H) (hAB : ∀ q, B q → A q) : SBW tW B U H := ⟨h.1.narrow hAB, h.2.1.narrow hAB, h.2.2⟩
def KW {S : Type} (X : KX S) (σ : S) (pc : Nat) (lv : List (Nat × Value)) (st : List Value) : Prop := match X with
  | (p, l, e, R, s, m, args, below, meth, c, D, tys, wf, A, nL, Q, tW, cn, sn) => ∀ (H : Heap) (locs : List Loc) (ls : Array Slot), va_P D vwCl (wf σ) H → va_D A (wf σ) → va_S A s.heap H locs → lv_has ls nL lv → W p l e R s m args below meth c H locs cn sn Q (F0 m pc ls st)
/-- what stays over a method's body -/
def KC {S : Type} (X : KX S) (L : Launch) (DD : va_G) (tt : List (ClassId × FieldType)) (ww : S → va_W) (rm : Room) (t0 : Nat) (cc : ByteArray) (own : String) : Prop := match X with
  | (p, l, e, R, s, m, args, below, meth, c, D, tys, wf, A, nL, Q, tW, cn, sn) => p.tables.exec = Jvm.exec ∧ c.code = cc ∧ c.maxLocals = nL ∧ s.vm.findClass own = some m.cls ∧ (∀ w ∈ GT, w.before args s = true) ∧ va_K D vwCl tys s ∧ (∀ q, s.heap.size ≤ q → A q) ∧ SBW tW A s s.heap ∧ l = L ∧ D = DD ∧ tys = tt ∧ wf = ww ∧ R = rm ∧ tW = t0 ∧ cn ≤ R.cells ∧ sn ≤ R.slots
section KWS
variable {S : Type} {X : KX S} {L : Launch} {DD : va_G} {tt : List (ClassId × FieldType)} {ww : S → va_W} {rm : Room} {t0 : Nat} {cc : ByteArray} {own : String} {σ σ' : S} {pc : Nat} {lv lv' : List (Nat × Value)} {st : List Value}

theorem kw_iconst (C : KC X L DD tt ww rm t0 cc own) {n : Int} (v : Int32) (hdg : decode cc pc = .ok (.iconst n, 1)) (hv : Int32.ofInt n = v) (k : KW X σ (pc + 1) lv (.int v :: st)) : KW X σ (pc) lv (st) := by
  obtain ⟨p, l, e, R, s, m, args, below, meth, c, D, tys, wf, A, nL, Q, tW, cn, sn⟩ := X
  exact fun H locs ls hP hD hS hl => lv_iconst C.1 C.2.1 hdg hv (k H locs ls hP hD hS hl)
theorem kw_bipush (C : KC X L DD tt ww rm t0 cc own) {n : Int} (v : Int32) (hdg : decode cc pc = .ok (.bipush n, 2)) (hv : (Int8.ofInt n).toInt32 = v) (k : KW X σ (pc + 2) lv (.int v :: st)) : KW X σ (pc) lv (st) := by
  obtain ⟨p, l, e, R, s, m, args, below, meth, c, D, tys, wf, A, nL, Q, tW, cn, sn⟩ := X
  exact fun H locs ls hP hD hS hl => lv_bipush C.1 C.2.1 hdg hv (k H locs ls hP hD hS hl)
theorem kw_sipush (C : KC X L DD tt ww rm t0 cc own) {n : Int} (v : Int32) (hdg : decode cc pc = .ok (.sipush n, 3)) (hv : (Int16.ofInt n).toInt32 = v) (k : KW X σ (pc + 3) lv (.int v :: st)) : KW X σ (pc) lv (st) := by
  obtain ⟨p, l, e, R, s, m, args, below, meth, c, D, tys, wf, A, nL, Q, tW, cn, sn⟩ := X
  exact fun H locs ls hP hD hS hl => lv_sipush C.1 C.2.1 hdg hv (k H locs ls hP hD hS hl)
theorem kw_lconst (C : KC X L DD tt ww rm t0 cc own) {n : Fin 2} (v : Int64) (hdg : decode cc pc = .ok (.lconst n, 1)) (hv : Int64.ofNat (n : Nat) = v) (k : KW X σ (pc + 1) lv (.long v :: st)) : KW X σ (pc) lv (st) := by
  obtain ⟨p, l, e, R, s, m, args, below, meth, c, D, tys, wf, A, nL, Q, tW, cn, sn⟩ := X
  exact fun H locs ls hP hD hS hl => lv_lconst C.1 C.2.1 hdg hv (k H locs ls hP hD hS hl)
theorem kw_ldc (C : KC X L DD tt ww rm t0 cc own) {index : Nat} {v : Int32} (hdg : decode cc pc = .ok (.ldc index, 2)) (hc : Cond.constant own index v ∈ GT) (k : KW X σ (pc + 2) lv (.int v :: st)) : KW X σ (pc) lv (st) := by
  obtain ⟨p, l, e, R, s, m, args, below, meth, c, D, tys, wf, A, nL, Q, tW, cn, sn⟩ := X
  exact fun H locs ls hP hD hS hl => lv_ldc C.1 C.2.1 C.2.2.2.1 (C.2.2.2.2.1 _ hc) hdg (k H locs ls hP hD hS hl)
theorem kw_ldcw (C : KC X L DD tt ww rm t0 cc own) {index : Nat} {v : Int32} (hdg : decode cc pc = .ok (.ldc_w index, 3)) (hc : Cond.constant own index v ∈ GT) (k : KW X σ (pc + 3) lv (.int v :: st)) : KW X σ (pc) lv (st) := by
  obtain ⟨p, l, e, R, s, m, args, below, meth, c, D, tys, wf, A, nL, Q, tW, cn, sn⟩ := X
  exact fun H locs ls hP hD hS hl => lv_ldcw C.1 C.2.1 C.2.2.2.1 (C.2.2.2.2.1 _ hc) hdg (k H locs ls hP hD hS hl)
theorem kw_ldc2 (C : KC X L DD tt ww rm t0 cc own) {index : Nat} {v : Int64} (hdg : decode cc pc = .ok (.ldc2_w index, 3)) (hc : Cond.constantLong own index v ∈ GT) (k : KW X σ (pc + 3) lv (.long v :: st)) : KW X σ (pc) lv (st) := by
  obtain ⟨p, l, e, R, s, m, args, below, meth, c, D, tys, wf, A, nL, Q, tW, cn, sn⟩ := X
  exact fun H locs ls hP hD hS hl => lv_ldc2 C.1 C.2.1 C.2.2.2.1 (C.2.2.2.2.1 _ hc) hdg (k H locs ls hP hD hS hl)
theorem kw_iload_n (C : KC X L DD tt ww rm t0 cc own) {kk : Fin 4} {i : Nat} {x : Int32} (hdg : decode cc pc = .ok (.iload_n kk, 1)) (hi : (kk : Nat) = i) (j : Nat) (hj : lv[j]? = some (i, .int x)) (k : KW X σ (pc + 1) lv (.int x :: st)) : KW X σ (pc) lv (st) := by
  obtain ⟨p, l, e, R, s, m, args, below, meth, c, D, tys, wf, A, nL, Q, tW, cn, sn⟩ := X
  exact fun H locs ls hP hD hS hl => lv_iload_n C.1 C.2.1 hdg hi (lv_at hl j hj) (k H locs ls hP hD hS hl)
theorem kw_iload (C : KC X L DD tt ww rm t0 cc own) {i : Nat} {x : Int32} (hdg : decode cc pc = .ok (.iload i, 2)) (j : Nat) (hj : lv[j]? = some (i, .int x)) (k : KW X σ (pc + 2) lv (.int x :: st)) : KW X σ (pc) lv (st) := by
  obtain ⟨p, l, e, R, s, m, args, below, meth, c, D, tys, wf, A, nL, Q, tW, cn, sn⟩ := X
  exact fun H locs ls hP hD hS hl => lv_iload C.1 C.2.1 hdg (lv_at hl j hj) (k H locs ls hP hD hS hl)
theorem kw_istore_n (C : KC X L DD tt ww rm t0 cc own) {kk : Fin 4} {i n9 : Nat} {x : Int32} (hdg : decode cc pc = .ok (.istore_n kk, 1)) (hi : (kk : Nat) = i) (hN : X.2.2.2.2.2.2.2.2.2.2.2.2.2.2.1 = n9) (hn : i < n9) (lv2 : List (Nat × Value)) (hl2 : (i, Value.int x) :: lv.filter (fun q => !(q.1 == i) && !(q.1 + 1 == i && q.2.category == 2)) = lv2) (k : KW X σ (pc + 1) lv2 (st)) : KW X σ (pc) lv (.int x :: st) := by
  obtain ⟨p, l, e, R, s, m, args, below, meth, c, D, tys, wf, A, nL, Q, tW, cn, sn⟩ := X
  subst hN
  exact fun H locs ls hP hD hS hl => lv_istore_n C.1 C.2.1 hdg hi hl hn hl2 (fun ls2 h2 => k H locs ls2 hP hD hS h2)
theorem kw_istore (C : KC X L DD tt ww rm t0 cc own) {i n9 : Nat} {x : Int32} (hdg : decode cc pc = .ok (.istore i, 2)) (hN : X.2.2.2.2.2.2.2.2.2.2.2.2.2.2.1 = n9) (hn : i < n9) (lv2 : List (Nat × Value)) (hl2 : (i, Value.int x) :: lv.filter (fun q => !(q.1 == i) && !(q.1 + 1 == i && q.2.category == 2)) = lv2) (k : KW X σ (pc + 2) lv2 (st)) : KW X σ (pc) lv (.int x :: st) := by
  obtain ⟨p, l, e, R, s, m, args, below, meth, c, D, tys, wf, A, nL, Q, tW, cn, sn⟩ := X
  subst hN
  exact fun H locs ls hP hD hS hl => lv_istore C.1 C.2.1 hdg hl hn hl2 (fun ls2 h2 => k H locs ls2 hP hD hS h2)
theorem kw_lload_n (C : KC X L DD tt ww rm t0 cc own) {kk : Fin 4} {i : Nat} {x : Int64} (hdg : decode cc pc = .ok (.lload_n kk, 1)) (hi : (kk : Nat) = i) (j : Nat) (hj : lv[j]? = some (i, .long x)) (k : KW X σ (pc + 1) lv (.long x :: st)) : KW X σ (pc) lv (st) := by
  obtain ⟨p, l, e, R, s, m, args, below, meth, c, D, tys, wf, A, nL, Q, tW, cn, sn⟩ := X
  exact fun H locs ls hP hD hS hl => lv_lload_n C.1 C.2.1 hdg hi (lv_at hl j hj) (k H locs ls hP hD hS hl)
theorem kw_lload (C : KC X L DD tt ww rm t0 cc own) {i : Nat} {x : Int64} (hdg : decode cc pc = .ok (.lload i, 2)) (j : Nat) (hj : lv[j]? = some (i, .long x)) (k : KW X σ (pc + 2) lv (.long x :: st)) : KW X σ (pc) lv (st) := by
  obtain ⟨p, l, e, R, s, m, args, below, meth, c, D, tys, wf, A, nL, Q, tW, cn, sn⟩ := X
  exact fun H locs ls hP hD hS hl => lv_lload C.1 C.2.1 hdg (lv_at hl j hj) (k H locs ls hP hD hS hl)
theorem kw_lstore_n (C : KC X L DD tt ww rm t0 cc own) {kk : Fin 4} {i n9 : Nat} {x : Int64} (hdg : decode cc pc = .ok (.lstore_n kk, 1)) (hi : (kk : Nat) = i) (hN : X.2.2.2.2.2.2.2.2.2.2.2.2.2.2.1 = n9) (hn : i + 1 < n9) (lv2 : List (Nat × Value)) (hl2 : (i, Value.long x) :: lv.filter (fun q => !(q.1 == i) && (!(q.1 == i + 1) && !(q.1 + 1 == i && q.2.category == 2))) = lv2) (k : KW X σ (pc + 1) lv2 (st)) : KW X σ (pc) lv (.long x :: st) := by
  obtain ⟨p, l, e, R, s, m, args, below, meth, c, D, tys, wf, A, nL, Q, tW, cn, sn⟩ := X
  subst hN
  exact fun H locs ls hP hD hS hl => lv_lstore_n C.1 C.2.1 hdg hi hl hn hl2 (fun ls2 h2 => k H locs ls2 hP hD hS h2)
theorem kw_lstore (C : KC X L DD tt ww rm t0 cc own) {i n9 : Nat} {x : Int64} (hdg : decode cc pc = .ok (.lstore i, 2)) (hN : X.2.2.2.2.2.2.2.2.2.2.2.2.2.2.1 = n9) (hn : i + 1 < n9) (lv2 : List (Nat × Value)) (hl2 : (i, Value.long x) :: lv.filter (fun q => !(q.1 == i) && (!(q.1 == i + 1) && !(q.1 + 1 == i && q.2.category == 2))) = lv2) (k : KW X σ (pc + 2) lv2 (st)) : KW X σ (pc) lv (.long x :: st) := by
  obtain ⟨p, l, e, R, s, m, args, below, meth, c, D, tys, wf, A, nL, Q, tW, cn, sn⟩ := X
  subst hN
  exact fun H locs ls hP hD hS hl => lv_lstore C.1 C.2.1 hdg hl hn hl2 (fun ls2 h2 => k H locs ls2 hP hD hS h2)
theorem kw_aload_n (C : KC X L DD tt ww rm t0 cc own) {kk : Fin 4} {i : Nat} {x : Nat} (hdg : decode cc pc = .ok (.aload_n kk, 1)) (hi : (kk : Nat) = i) (j : Nat) (hj : lv[j]? = some (i, .ref x)) (k : KW X σ (pc + 1) lv (.ref x :: st)) : KW X σ (pc) lv (st) := by
  obtain ⟨p, l, e, R, s, m, args, below, meth, c, D, tys, wf, A, nL, Q, tW, cn, sn⟩ := X
  exact fun H locs ls hP hD hS hl => lv_aload_n C.1 C.2.1 hdg hi (lv_at hl j hj) (k H locs ls hP hD hS hl)
theorem kw_aload (C : KC X L DD tt ww rm t0 cc own) {i : Nat} {x : Nat} (hdg : decode cc pc = .ok (.aload i, 2)) (j : Nat) (hj : lv[j]? = some (i, .ref x)) (k : KW X σ (pc + 2) lv (.ref x :: st)) : KW X σ (pc) lv (st) := by
  obtain ⟨p, l, e, R, s, m, args, below, meth, c, D, tys, wf, A, nL, Q, tW, cn, sn⟩ := X
  exact fun H locs ls hP hD hS hl => lv_aload C.1 C.2.1 hdg (lv_at hl j hj) (k H locs ls hP hD hS hl)
theorem kw_astore_n (C : KC X L DD tt ww rm t0 cc own) {kk : Fin 4} {i n9 : Nat} {x : Nat} (hdg : decode cc pc = .ok (.astore_n kk, 1)) (hi : (kk : Nat) = i) (hN : X.2.2.2.2.2.2.2.2.2.2.2.2.2.2.1 = n9) (hn : i < n9) (lv2 : List (Nat × Value)) (hl2 : (i, Value.ref x) :: lv.filter (fun q => !(q.1 == i) && !(q.1 + 1 == i && q.2.category == 2)) = lv2) (k : KW X σ (pc + 1) lv2 (st)) : KW X σ (pc) lv (.ref x :: st) := by
  obtain ⟨p, l, e, R, s, m, args, below, meth, c, D, tys, wf, A, nL, Q, tW, cn, sn⟩ := X
  subst hN
  exact fun H locs ls hP hD hS hl => lv_astore_n C.1 C.2.1 hdg hi hl hn hl2 (fun ls2 h2 => k H locs ls2 hP hD hS h2)
theorem kw_astore (C : KC X L DD tt ww rm t0 cc own) {i n9 : Nat} {x : Nat} (hdg : decode cc pc = .ok (.astore i, 2)) (hN : X.2.2.2.2.2.2.2.2.2.2.2.2.2.2.1 = n9) (hn : i < n9) (lv2 : List (Nat × Value)) (hl2 : (i, Value.ref x) :: lv.filter (fun q => !(q.1 == i) && !(q.1 + 1 == i && q.2.category == 2)) = lv2) (k : KW X σ (pc + 2) lv2 (st)) : KW X σ (pc) lv (.ref x :: st) := by
  obtain ⟨p, l, e, R, s, m, args, below, meth, c, D, tys, wf, A, nL, Q, tW, cn, sn⟩ := X
  subst hN
  exact fun H locs ls hP hD hS hl => lv_astore C.1 C.2.1 hdg hl hn hl2 (fun ls2 h2 => k H locs ls2 hP hD hS h2)
theorem kw_iinc (C : KC X L DD tt ww rm t0 cc own) {i n9 : Nat} {n : Int} {x : Int32} (v : Int32) (hdg : decode cc pc = .ok (.iinc i n, 3)) (j : Nat) (hj : lv[j]? = some (i, .int x)) (hv : x + Int32.ofInt n = v) (hN : X.2.2.2.2.2.2.2.2.2.2.2.2.2.2.1 = n9) (hn : i < n9) (lv2 : List (Nat × Value)) (hl2 : (i, Value.int v) :: lv.filter (fun q => !(q.1 == i) && !(q.1 + 1 == i && q.2.category == 2)) = lv2) (k : KW X σ (pc + 3) lv2 (st)) : KW X σ (pc) lv (st) := by
  obtain ⟨p, l, e, R, s, m, args, below, meth, c, D, tys, wf, A, nL, Q, tW, cn, sn⟩ := X
  subst hN
  exact fun H locs ls hP hD hS hl => lv_iinc C.1 C.2.1 hdg hl hj hv hn hl2 (fun ls2 h2 => k H locs ls2 hP hD hS h2)
theorem kw_iadd (C : KC X L DD tt ww rm t0 cc own) {x y : Int32} (hdg : decode cc pc = .ok (.iadd, 1)) (k : KW X σ (pc + 1) lv (.int (x + y) :: st)) : KW X σ (pc) lv (.int y :: .int x :: st) := by
  obtain ⟨p, l, e, R, s, m, args, below, meth, c, D, tys, wf, A, nL, Q, tW, cn, sn⟩ := X
  exact fun H locs ls hP hD hS hl => lv_iadd C.1 C.2.1 hdg (k H locs ls hP hD hS hl)
theorem kw_isub (C : KC X L DD tt ww rm t0 cc own) {x y : Int32} (hdg : decode cc pc = .ok (.isub, 1)) (k : KW X σ (pc + 1) lv (.int (x - y) :: st)) : KW X σ (pc) lv (.int y :: .int x :: st) := by
  obtain ⟨p, l, e, R, s, m, args, below, meth, c, D, tys, wf, A, nL, Q, tW, cn, sn⟩ := X
  exact fun H locs ls hP hD hS hl => lv_isub C.1 C.2.1 hdg (k H locs ls hP hD hS hl)
theorem kw_imul (C : KC X L DD tt ww rm t0 cc own) {x y : Int32} (hdg : decode cc pc = .ok (.imul, 1)) (k : KW X σ (pc + 1) lv (.int (x * y) :: st)) : KW X σ (pc) lv (.int y :: .int x :: st) := by
  obtain ⟨p, l, e, R, s, m, args, below, meth, c, D, tys, wf, A, nL, Q, tW, cn, sn⟩ := X
  exact fun H locs ls hP hD hS hl => lv_imul C.1 C.2.1 hdg (k H locs ls hP hD hS hl)
theorem kw_iand (C : KC X L DD tt ww rm t0 cc own) {x y : Int32} (hdg : decode cc pc = .ok (.iand, 1)) (k : KW X σ (pc + 1) lv (.int (x &&& y) :: st)) : KW X σ (pc) lv (.int y :: .int x :: st) := by
  obtain ⟨p, l, e, R, s, m, args, below, meth, c, D, tys, wf, A, nL, Q, tW, cn, sn⟩ := X
  exact fun H locs ls hP hD hS hl => lv_iand C.1 C.2.1 hdg (k H locs ls hP hD hS hl)
theorem kw_ior (C : KC X L DD tt ww rm t0 cc own) {x y : Int32} (hdg : decode cc pc = .ok (.ior, 1)) (k : KW X σ (pc + 1) lv (.int (x ||| y) :: st)) : KW X σ (pc) lv (.int y :: .int x :: st) := by
  obtain ⟨p, l, e, R, s, m, args, below, meth, c, D, tys, wf, A, nL, Q, tW, cn, sn⟩ := X
  exact fun H locs ls hP hD hS hl => lv_ior C.1 C.2.1 hdg (k H locs ls hP hD hS hl)
theorem kw_ixor (C : KC X L DD tt ww rm t0 cc own) {x y : Int32} (hdg : decode cc pc = .ok (.ixor, 1)) (k : KW X σ (pc + 1) lv (.int (x ^^^ y) :: st)) : KW X σ (pc) lv (.int y :: .int x :: st) := by
  obtain ⟨p, l, e, R, s, m, args, below, meth, c, D, tys, wf, A, nL, Q, tW, cn, sn⟩ := X
  exact fun H locs ls hP hD hS hl => lv_ixor C.1 C.2.1 hdg (k H locs ls hP hD hS hl)
theorem kw_ishl (C : KC X L DD tt ww rm t0 cc own) {x y : Int32} (hdg : decode cc pc = .ok (.ishl, 1)) (k : KW X σ (pc + 1) lv (.int (x <<< (y &&& 31)) :: st)) : KW X σ (pc) lv (.int y :: .int x :: st) := by
  obtain ⟨p, l, e, R, s, m, args, below, meth, c, D, tys, wf, A, nL, Q, tW, cn, sn⟩ := X
  exact fun H locs ls hP hD hS hl => lv_ishl C.1 C.2.1 hdg (k H locs ls hP hD hS hl)
theorem kw_ishr (C : KC X L DD tt ww rm t0 cc own) {x y : Int32} (hdg : decode cc pc = .ok (.ishr, 1)) (k : KW X σ (pc + 1) lv (.int (x >>> (y &&& 31)) :: st)) : KW X σ (pc) lv (.int y :: .int x :: st) := by
  obtain ⟨p, l, e, R, s, m, args, below, meth, c, D, tys, wf, A, nL, Q, tW, cn, sn⟩ := X
  exact fun H locs ls hP hD hS hl => lv_ishr C.1 C.2.1 hdg (k H locs ls hP hD hS hl)
theorem kw_iushr (C : KC X L DD tt ww rm t0 cc own) {x y : Int32} (hdg : decode cc pc = .ok (.iushr, 1)) (k : KW X σ (pc + 1) lv (.int ((x.toUInt32 >>> (y.toUInt32 &&& Int32.toUInt32 31)).toInt32) :: st)) : KW X σ (pc) lv (.int y :: .int x :: st) := by
  obtain ⟨p, l, e, R, s, m, args, below, meth, c, D, tys, wf, A, nL, Q, tW, cn, sn⟩ := X
  exact fun H locs ls hP hD hS hl => lv_iushr C.1 C.2.1 hdg rfl (k H locs ls hP hD hS hl)
theorem kw_idiv (C : KC X L DD tt ww rm t0 cc own) {x y : Int32} (hdg : decode cc pc = .ok (.idiv, 1)) (hne : ¬ y = 0) (k : KW X σ (pc + 1) lv (.int (x / y) :: st)) : KW X σ (pc) lv (.int y :: .int x :: st) := by
  obtain ⟨p, l, e, R, s, m, args, below, meth, c, D, tys, wf, A, nL, Q, tW, cn, sn⟩ := X
  exact fun H locs ls hP hD hS hl => lv_idiv C.1 C.2.1 hdg hne (k H locs ls hP hD hS hl)
theorem kw_irem (C : KC X L DD tt ww rm t0 cc own) {x y : Int32} (hdg : decode cc pc = .ok (.irem, 1)) (hne : ¬ y = 0) (k : KW X σ (pc + 1) lv (.int (x - x / y * y) :: st)) : KW X σ (pc) lv (.int y :: .int x :: st) := by
  obtain ⟨p, l, e, R, s, m, args, below, meth, c, D, tys, wf, A, nL, Q, tW, cn, sn⟩ := X
  exact fun H locs ls hP hD hS hl => lv_irem C.1 C.2.1 hdg hne (k H locs ls hP hD hS hl)
theorem kw_ladd (C : KC X L DD tt ww rm t0 cc own) {x y : Int64} (hdg : decode cc pc = .ok (.ladd, 1)) (k : KW X σ (pc + 1) lv (.long (x + y) :: st)) : KW X σ (pc) lv (.long y :: .long x :: st) := by
  obtain ⟨p, l, e, R, s, m, args, below, meth, c, D, tys, wf, A, nL, Q, tW, cn, sn⟩ := X
  exact fun H locs ls hP hD hS hl => lv_ladd C.1 C.2.1 hdg (k H locs ls hP hD hS hl)
theorem kw_lsub (C : KC X L DD tt ww rm t0 cc own) {x y : Int64} (hdg : decode cc pc = .ok (.lsub, 1)) (k : KW X σ (pc + 1) lv (.long (x - y) :: st)) : KW X σ (pc) lv (.long y :: .long x :: st) := by
  obtain ⟨p, l, e, R, s, m, args, below, meth, c, D, tys, wf, A, nL, Q, tW, cn, sn⟩ := X
  exact fun H locs ls hP hD hS hl => lv_lsub C.1 C.2.1 hdg (k H locs ls hP hD hS hl)
theorem kw_lmul (C : KC X L DD tt ww rm t0 cc own) {x y : Int64} (hdg : decode cc pc = .ok (.lmul, 1)) (k : KW X σ (pc + 1) lv (.long (x * y) :: st)) : KW X σ (pc) lv (.long y :: .long x :: st) := by
  obtain ⟨p, l, e, R, s, m, args, below, meth, c, D, tys, wf, A, nL, Q, tW, cn, sn⟩ := X
  exact fun H locs ls hP hD hS hl => lv_lmul C.1 C.2.1 hdg (k H locs ls hP hD hS hl)
theorem kw_land (C : KC X L DD tt ww rm t0 cc own) {x y : Int64} (hdg : decode cc pc = .ok (.land, 1)) (k : KW X σ (pc + 1) lv (.long (x &&& y) :: st)) : KW X σ (pc) lv (.long y :: .long x :: st) := by
  obtain ⟨p, l, e, R, s, m, args, below, meth, c, D, tys, wf, A, nL, Q, tW, cn, sn⟩ := X
  exact fun H locs ls hP hD hS hl => lv_land C.1 C.2.1 hdg (k H locs ls hP hD hS hl)
theorem kw_ldiv (C : KC X L DD tt ww rm t0 cc own) {x y : Int64} (hdg : decode cc pc = .ok (.ldiv, 1)) (hne : ¬ y = 0) (k : KW X σ (pc + 1) lv (.long (x / y) :: st)) : KW X σ (pc) lv (.long y :: .long x :: st) := by
  obtain ⟨p, l, e, R, s, m, args, below, meth, c, D, tys, wf, A, nL, Q, tW, cn, sn⟩ := X
  exact fun H locs ls hP hD hS hl => lv_ldiv C.1 C.2.1 hdg hne (k H locs ls hP hD hS hl)
theorem kw_lrem (C : KC X L DD tt ww rm t0 cc own) {x y : Int64} (hdg : decode cc pc = .ok (.lrem, 1)) (hne : ¬ y = 0) (k : KW X σ (pc + 1) lv (.long (x - x / y * y) :: st)) : KW X σ (pc) lv (.long y :: .long x :: st) := by
  obtain ⟨p, l, e, R, s, m, args, below, meth, c, D, tys, wf, A, nL, Q, tW, cn, sn⟩ := X
  exact fun H locs ls hP hD hS hl => lv_lrem C.1 C.2.1 hdg hne (k H locs ls hP hD hS hl)
theorem kw_lneg (C : KC X L DD tt ww rm t0 cc own) {x : Int64} (hdg : decode cc pc = .ok (.lneg, 1)) (k : KW X σ (pc + 1) lv (.long (-x) :: st)) : KW X σ (pc) lv (.long x :: st) := by
  obtain ⟨p, l, e, R, s, m, args, below, meth, c, D, tys, wf, A, nL, Q, tW, cn, sn⟩ := X
  exact fun H locs ls hP hD hS hl => lv_lneg C.1 C.2.1 hdg (k H locs ls hP hD hS hl)
theorem kw_ineg (C : KC X L DD tt ww rm t0 cc own) {x : Int32} (hdg : decode cc pc = .ok (.ineg, 1)) (k : KW X σ (pc + 1) lv (.int (-x) :: st)) : KW X σ (pc) lv (.int x :: st) := by
  obtain ⟨p, l, e, R, s, m, args, below, meth, c, D, tys, wf, A, nL, Q, tW, cn, sn⟩ := X
  exact fun H locs ls hP hD hS hl => lv_ineg C.1 C.2.1 hdg (k H locs ls hP hD hS hl)
theorem kw_lcmp (C : KC X L DD tt ww rm t0 cc own) {x y : Int64} (hdg : decode cc pc = .ok (.lcmp, 1)) (k : KW X σ (pc + 1) lv (.int (lg_cmp x y) :: st)) : KW X σ (pc) lv (.long y :: .long x :: st) := by
  obtain ⟨p, l, e, R, s, m, args, below, meth, c, D, tys, wf, A, nL, Q, tW, cn, sn⟩ := X
  exact fun H locs ls hP hD hS hl => W.lcmp C.1 C.2.1 hdg (k H locs ls hP hD hS hl)
theorem kw_i2l (C : KC X L DD tt ww rm t0 cc own) {x : Int32} (hdg : decode cc pc = .ok (.i2l, 1)) (k : KW X σ (pc + 1) lv (.long (x.toInt64) :: st)) : KW X σ (pc) lv (.int x :: st) := by
  obtain ⟨p, l, e, R, s, m, args, below, meth, c, D, tys, wf, A, nL, Q, tW, cn, sn⟩ := X
  exact fun H locs ls hP hD hS hl => lv_i2l C.1 C.2.1 hdg rfl (k H locs ls hP hD hS hl)
theorem kw_l2i (C : KC X L DD tt ww rm t0 cc own) {x : Int64} (hdg : decode cc pc = .ok (.l2i, 1)) (k : KW X σ (pc + 1) lv (.int (x.toInt32) :: st)) : KW X σ (pc) lv (.long x :: st) := by
  obtain ⟨p, l, e, R, s, m, args, below, meth, c, D, tys, wf, A, nL, Q, tW, cn, sn⟩ := X
  exact fun H locs ls hP hD hS hl => lv_l2i C.1 C.2.1 hdg rfl (k H locs ls hP hD hS hl)
theorem kw_i2b (C : KC X L DD tt ww rm t0 cc own) {x : Int32} (hdg : decode cc pc = .ok (.i2b, 1)) (k : KW X σ (pc + 1) lv (.int (x.toInt8.toInt32) :: st)) : KW X σ (pc) lv (.int x :: st) := by
  obtain ⟨p, l, e, R, s, m, args, below, meth, c, D, tys, wf, A, nL, Q, tW, cn, sn⟩ := X
  exact fun H locs ls hP hD hS hl => lv_i2b C.1 C.2.1 hdg rfl (k H locs ls hP hD hS hl)
theorem kw_dup (C : KC X L DD tt ww rm t0 cc own) {v : Value} (hdg : decode cc pc = .ok (.dup, 1)) (hv : v.category = 1) (k : KW X σ (pc + 1) lv (v :: v :: st)) : KW X σ (pc) lv (v :: st) := by
  obtain ⟨p, l, e, R, s, m, args, below, meth, c, D, tys, wf, A, nL, Q, tW, cn, sn⟩ := X
  exact fun H locs ls hP hD hS hl => lv_dup C.1 C.2.1 hdg hv (k H locs ls hP hD hS hl)
theorem kw_dup2 (C : KC X L DD tt ww rm t0 cc own) {v w : Value} (hdg : decode cc pc = .ok (.dup2, 1)) (hv : v.category = 1) (hw : w.category = 1) (k : KW X σ (pc + 1) lv (v :: w :: v :: w :: st)) : KW X σ (pc) lv (v :: w :: st) := by
  obtain ⟨p, l, e, R, s, m, args, below, meth, c, D, tys, wf, A, nL, Q, tW, cn, sn⟩ := X
  exact fun H locs ls hP hD hS hl => lv_dup2_11 C.1 C.2.1 hdg hv hw (k H locs ls hP hD hS hl)
theorem kw_pop (C : KC X L DD tt ww rm t0 cc own) {v : Value} (hdg : decode cc pc = .ok (.pop, 1)) (hv : v.category = 1) (k : KW X σ (pc + 1) lv (st)) : KW X σ (pc) lv (v :: st) := by
  obtain ⟨p, l, e, R, s, m, args, below, meth, c, D, tys, wf, A, nL, Q, tW, cn, sn⟩ := X
  exact fun H locs ls hP hD hS hl => lv_pop C.1 C.2.1 hdg hv (k H locs ls hP hD hS hl)
theorem kw_if_eq (C : KC X L DD tt ww rm t0 cc own) {x : Int32} {off : Int} (tgt : Nat) (hdg : decode cc pc = .ok (.ifCond .eq off, 3)) (ht : (pc : Int) + off = (tgt : Int)) (kt : x = 0 → KW X σ (tgt) lv (st)) (kf : ¬ (x = 0) → KW X σ (pc + 3) lv (st)) : KW X σ (pc) lv (.int x :: st) := by
  obtain ⟨p, l, e, R, s, m, args, below, meth, c, D, tys, wf, A, nL, Q, tW, cn, sn⟩ := X
  exact fun H locs ls hP hD hS hl => lv_if_eq C.1 C.2.1 hdg ht (fun q => kt q H locs ls hP hD hS hl) (fun q => kf q H locs ls hP hD hS hl)
theorem kw_icmp_eq (C : KC X L DD tt ww rm t0 cc own) {x y : Int32} {off : Int} (tgt : Nat) (hdg : decode cc pc = .ok (.if_icmp .eq off, 3)) (ht : (pc : Int) + off = (tgt : Int)) (kt : x = y → KW X σ (tgt) lv (st)) (kf : ¬ (x = y) → KW X σ (pc + 3) lv (st)) : KW X σ (pc) lv (.int y :: .int x :: st) := by
  obtain ⟨p, l, e, R, s, m, args, below, meth, c, D, tys, wf, A, nL, Q, tW, cn, sn⟩ := X
  exact fun H locs ls hP hD hS hl => lv_icmp_eq C.1 C.2.1 hdg ht (fun q => kt q H locs ls hP hD hS hl) (fun q => kf q H locs ls hP hD hS hl)
theorem kw_if_ne (C : KC X L DD tt ww rm t0 cc own) {x : Int32} {off : Int} (tgt : Nat) (hdg : decode cc pc = .ok (.ifCond .ne off, 3)) (ht : (pc : Int) + off = (tgt : Int)) (kt : ¬ (x = 0) → KW X σ (tgt) lv (st)) (kf : x = 0 → KW X σ (pc + 3) lv (st)) : KW X σ (pc) lv (.int x :: st) := by
  obtain ⟨p, l, e, R, s, m, args, below, meth, c, D, tys, wf, A, nL, Q, tW, cn, sn⟩ := X
  exact fun H locs ls hP hD hS hl => lv_if_ne C.1 C.2.1 hdg ht (fun q => kt q H locs ls hP hD hS hl) (fun q => kf q H locs ls hP hD hS hl)
theorem kw_icmp_ne (C : KC X L DD tt ww rm t0 cc own) {x y : Int32} {off : Int} (tgt : Nat) (hdg : decode cc pc = .ok (.if_icmp .ne off, 3)) (ht : (pc : Int) + off = (tgt : Int)) (kt : ¬ (x = y) → KW X σ (tgt) lv (st)) (kf : x = y → KW X σ (pc + 3) lv (st)) : KW X σ (pc) lv (.int y :: .int x :: st) := by
  obtain ⟨p, l, e, R, s, m, args, below, meth, c, D, tys, wf, A, nL, Q, tW, cn, sn⟩ := X
  exact fun H locs ls hP hD hS hl => lv_icmp_ne C.1 C.2.1 hdg ht (fun q => kt q H locs ls hP hD hS hl) (fun q => kf q H locs ls hP hD hS hl)
theorem kw_if_lt (C : KC X L DD tt ww rm t0 cc own) {x : Int32} {off : Int} (tgt : Nat) (hdg : decode cc pc = .ok (.ifCond .lt off, 3)) (ht : (pc : Int) + off = (tgt : Int)) (kt : x < 0 → KW X σ (tgt) lv (st)) (kf : ¬ (x < 0) → KW X σ (pc + 3) lv (st)) : KW X σ (pc) lv (.int x :: st) := by
  obtain ⟨p, l, e, R, s, m, args, below, meth, c, D, tys, wf, A, nL, Q, tW, cn, sn⟩ := X
  exact fun H locs ls hP hD hS hl => lv_if_lt C.1 C.2.1 hdg ht (fun q => kt q H locs ls hP hD hS hl) (fun q => kf q H locs ls hP hD hS hl)
theorem kw_icmp_lt (C : KC X L DD tt ww rm t0 cc own) {x y : Int32} {off : Int} (tgt : Nat) (hdg : decode cc pc = .ok (.if_icmp .lt off, 3)) (ht : (pc : Int) + off = (tgt : Int)) (kt : x < y → KW X σ (tgt) lv (st)) (kf : ¬ (x < y) → KW X σ (pc + 3) lv (st)) : KW X σ (pc) lv (.int y :: .int x :: st) := by
  obtain ⟨p, l, e, R, s, m, args, below, meth, c, D, tys, wf, A, nL, Q, tW, cn, sn⟩ := X
  exact fun H locs ls hP hD hS hl => lv_icmp_lt C.1 C.2.1 hdg ht (fun q => kt q H locs ls hP hD hS hl) (fun q => kf q H locs ls hP hD hS hl)
theorem kw_if_ge (C : KC X L DD tt ww rm t0 cc own) {x : Int32} {off : Int} (tgt : Nat) (hdg : decode cc pc = .ok (.ifCond .ge off, 3)) (ht : (pc : Int) + off = (tgt : Int)) (kt : 0 ≤ x → KW X σ (tgt) lv (st)) (kf : ¬ (0 ≤ x) → KW X σ (pc + 3) lv (st)) : KW X σ (pc) lv (.int x :: st) := by
  obtain ⟨p, l, e, R, s, m, args, below, meth, c, D, tys, wf, A, nL, Q, tW, cn, sn⟩ := X
  exact fun H locs ls hP hD hS hl => lv_if_ge C.1 C.2.1 hdg ht (fun q => kt q H locs ls hP hD hS hl) (fun q => kf q H locs ls hP hD hS hl)
theorem kw_icmp_ge (C : KC X L DD tt ww rm t0 cc own) {x y : Int32} {off : Int} (tgt : Nat) (hdg : decode cc pc = .ok (.if_icmp .ge off, 3)) (ht : (pc : Int) + off = (tgt : Int)) (kt : y ≤ x → KW X σ (tgt) lv (st)) (kf : ¬ (y ≤ x) → KW X σ (pc + 3) lv (st)) : KW X σ (pc) lv (.int y :: .int x :: st) := by
  obtain ⟨p, l, e, R, s, m, args, below, meth, c, D, tys, wf, A, nL, Q, tW, cn, sn⟩ := X
  exact fun H locs ls hP hD hS hl => lv_icmp_ge C.1 C.2.1 hdg ht (fun q => kt q H locs ls hP hD hS hl) (fun q => kf q H locs ls hP hD hS hl)
theorem kw_if_gt (C : KC X L DD tt ww rm t0 cc own) {x : Int32} {off : Int} (tgt : Nat) (hdg : decode cc pc = .ok (.ifCond .gt off, 3)) (ht : (pc : Int) + off = (tgt : Int)) (kt : 0 < x → KW X σ (tgt) lv (st)) (kf : ¬ (0 < x) → KW X σ (pc + 3) lv (st)) : KW X σ (pc) lv (.int x :: st) := by
  obtain ⟨p, l, e, R, s, m, args, below, meth, c, D, tys, wf, A, nL, Q, tW, cn, sn⟩ := X
  exact fun H locs ls hP hD hS hl => lv_if_gt C.1 C.2.1 hdg ht (fun q => kt q H locs ls hP hD hS hl) (fun q => kf q H locs ls hP hD hS hl)
theorem kw_icmp_gt (C : KC X L DD tt ww rm t0 cc own) {x y : Int32} {off : Int} (tgt : Nat) (hdg : decode cc pc = .ok (.if_icmp .gt off, 3)) (ht : (pc : Int) + off = (tgt : Int)) (kt : y < x → KW X σ (tgt) lv (st)) (kf : ¬ (y < x) → KW X σ (pc + 3) lv (st)) : KW X σ (pc) lv (.int y :: .int x :: st) := by
  obtain ⟨p, l, e, R, s, m, args, below, meth, c, D, tys, wf, A, nL, Q, tW, cn, sn⟩ := X
  exact fun H locs ls hP hD hS hl => lv_icmp_gt C.1 C.2.1 hdg ht (fun q => kt q H locs ls hP hD hS hl) (fun q => kf q H locs ls hP hD hS hl)
theorem kw_if_le (C : KC X L DD tt ww rm t0 cc own) {x : Int32} {off : Int} (tgt : Nat) (hdg : decode cc pc = .ok (.ifCond .le off, 3)) (ht : (pc : Int) + off = (tgt : Int)) (kt : x ≤ 0 → KW X σ (tgt) lv (st)) (kf : ¬ (x ≤ 0) → KW X σ (pc + 3) lv (st)) : KW X σ (pc) lv (.int x :: st) := by
  obtain ⟨p, l, e, R, s, m, args, below, meth, c, D, tys, wf, A, nL, Q, tW, cn, sn⟩ := X
  exact fun H locs ls hP hD hS hl => lv_if_le C.1 C.2.1 hdg ht (fun q => kt q H locs ls hP hD hS hl) (fun q => kf q H locs ls hP hD hS hl)
theorem kw_icmp_le (C : KC X L DD tt ww rm t0 cc own) {x y : Int32} {off : Int} (tgt : Nat) (hdg : decode cc pc = .ok (.if_icmp .le off, 3)) (ht : (pc : Int) + off = (tgt : Int)) (kt : x ≤ y → KW X σ (tgt) lv (st)) (kf : ¬ (x ≤ y) → KW X σ (pc + 3) lv (st)) : KW X σ (pc) lv (.int y :: .int x :: st) := by
  obtain ⟨p, l, e, R, s, m, args, below, meth, c, D, tys, wf, A, nL, Q, tW, cn, sn⟩ := X
  exact fun H locs ls hP hD hS hl => lv_icmp_le C.1 C.2.1 hdg ht (fun q => kt q H locs ls hP hD hS hl) (fun q => kf q H locs ls hP hD hS hl)
theorem kw_goto (C : KC X L DD tt ww rm t0 cc own) {off : Int} (tgt : Nat) (hdg : decode cc pc = .ok (.goto off, 3)) (ht : (pc : Int) + off = (tgt : Int)) (k : KW X σ (tgt) lv (st)) : KW X σ (pc) lv (st) := by
  obtain ⟨p, l, e, R, s, m, args, below, meth, c, D, tys, wf, A, nL, Q, tW, cn, sn⟩ := X
  exact fun H locs ls hP hD hS hl => lv_goto C.1 C.2.1 hdg ht (k H locs ls hP hD hS hl)
theorem kw_tabIn (C : KC X L DD tt ww rm t0 cc own) {dflt lo hi : Int} {offs : Array Int} {len : Nat} {x y : Int32} {off : Int} (tgt : Nat) (hdg : decode cc pc = .ok (.tableswitch dflt lo hi offs, len)) (hx : x = y) (h1 : ¬ y.toInt < lo) (h2 : ¬ hi < y.toInt) (ho : offs[(y.toInt - lo).toNat]? = some off) (ht : (pc : Int) + off = (tgt : Int)) (k : KW X σ (tgt) lv (st)) : KW X σ (pc) lv (.int x :: st) := by
  obtain ⟨p, l, e, R, s, m, args, below, meth, c, D, tys, wf, A, nL, Q, tW, cn, sn⟩ := X
  subst hx
  exact fun H locs ls hP hD hS hl => lv_tableIn C.1 C.2.1 hdg h1 h2 ho ht (k H locs ls hP hD hS hl)
theorem kw_tabOut (C : KC X L DD tt ww rm t0 cc own) {dflt lo hi : Int} {offs : Array Int} {len : Nat} {x : Int32} (tgt : Nat) (hdg : decode cc pc = .ok (.tableswitch dflt lo hi offs, len)) (h : x.toInt < lo ∨ hi < x.toInt) (ht : (pc : Int) + dflt = (tgt : Int)) (k : KW X σ (tgt) lv (st)) : KW X σ (pc) lv (.int x :: st) := by
  obtain ⟨p, l, e, R, s, m, args, below, meth, c, D, tys, wf, A, nL, Q, tW, cn, sn⟩ := X
  exact fun H locs ls hP hD hS hl => lv_tableOut C.1 C.2.1 hdg h ht (k H locs ls hP hD hS hl)
theorem kw_look (C : KC X L DD tt ww rm t0 cc own) {dflt : Int} {ps : Array (Int × Int)} {len : Nat} {x : Int32} {off : Int} (tgt : Nat) (hdg : decode cc pc = .ok (.lookupswitch dflt ps, len)) (hp : (ps.toList.zip (ps.toList.drop 1)).all (fun (a, next) => a.1 < next.1) = true) (ho : Op.lookupswitch.offset ps.toList dflt x.toInt = off) (ht : (pc : Int) + off = (tgt : Int)) (k : KW X σ (tgt) lv (st)) : KW X σ (pc) lv (.int x :: st) := by
  obtain ⟨p, l, e, R, s, m, args, below, meth, c, D, tys, wf, A, nL, Q, tW, cn, sn⟩ := X
  exact fun H locs ls hP hD hS hl => lv_lookup C.1 C.2.1 hdg hp ho ht (k H locs ls hP hD hS hl)
theorem kw_sub (ks : List Nat) (lv2 : List (Nat × Value)) (h : lv_pick lv ks = lv2) (k : KW X σ pc lv2 st) : KW X σ pc lv st := by
  obtain ⟨p, l, e, R, s, m, args, below, meth, c, D, tys, wf, A, nL, Q, tW, cn, sn⟩ := X
  exact fun H locs ls hP hD hS hl => k H locs ls hP hD hS (lv_sub hl ks h)
theorem kw_pc {pc2 : Nat} (h : pc2 = pc) (k : KW X σ pc2 lv st) : KW X σ pc lv st := h ▸ k
theorem kw_get (C : KC X L DD tt ww rm t0 cc own) {ref C1 : String} {T : u_T} {N ci index a : Nat} {fs : List Value} (hin : ∀ w ∈ u_ws C1 T N, w ∈ GT) (q0 : Nat) (he : (ww σ)[q0]? = some (a, .inr (ci, fs))) (hc : vwCl[ci]? = some (C1, T, N)) (k : Nat) (hk : k < N) (hlink : Cond.fieldLink own index ref (T k).2.1 (T k).2.2.1 ∈ GT) (href : ref = (T k).1) {v : Value} (hv : fs[k]? = some v) (hdg : decode cc pc = .ok (.getfield index, 3)) (kk : KW X σ (pc + 3) lv (v :: st)) : KW X σ (pc) lv (.ref a :: st) := by
  obtain ⟨p, l, e, R, s, m, args, below, meth, c, D, tys, wf, A, nL, Q, tW, cn, sn⟩ := X
  obtain ⟨h1, h2, h3, h4, h5, h6, h7, h8, rfl, rfl, rfl, rfl, rfl, rfl, hcn, hsn⟩ := C
  exact fun H locs ls hP hD hS hl => va_get h1 h2 h5 hin h4 h6 hP q0 he hc k hk (h5 _ hlink) (fun x hx => by rw [href]; exact hx) hv hdg (kk H locs ls hP hD hS hl)
theorem kw_put (C : KC X L DD tt ww rm t0 cc own) {ref C1 : String} {T : u_T} {N ci index a : Nat} {fs : List Value} (hin : ∀ w ∈ u_ws C1 T N, w ∈ GT) (ty0 : Nat → FieldType) (hty : ∀ k, k < N → parseFieldDescriptor (T k).2.2.1 = some (ty0 k)) (hnm : ∀ a, a < N → ∀ b, b < N → a ≠ b → (T a).2.1 ≠ (T b).2.1) (q0 : Nat) (he : (ww σ)[q0]? = some (a, .inr (ci, fs))) (hc : vwCl[ci]? = some (C1, T, N)) (k : Nat) (hk : k < N) (hlink : Cond.fieldLink own index ref (T k).2.1 (T k).2.2.1 ∈ GT) (href : ref = (T k).1) (hfin : (T k).2.2.2 = false) {ty : FieldType} {v : Value} (hd : parseFieldDescriptor (T k).2.2.1 = some ty) (hn : narrow ty v = v) (hfit : fits ty v = true) (hl9 : k < fs.length) (hset : (ww σ).set q0 (a, .inr (ci, fs.set k v)) = ww σ') (hdg : decode cc pc = .ok (.putfield index, 3)) (kk : KW X σ' (pc + 3) lv (st)) : KW X σ (pc) lv (v :: .ref a :: st) := by
  obtain ⟨p, l, e, R, s, m, args, below, meth, c, D, tys, wf, A, nL, Q, tW, cn, sn⟩ := X
  obtain ⟨h1, h2, h3, h4, h5, h6, h7, h8, rfl, rfl, rfl, rfl, rfl, rfl, hcn, hsn⟩ := C
  exact fun H locs ls hP hD hS hl => va_put h1 h2 h5 hin ty0 hty hnm h4 h6 hP hD hS q0 he hc k hk (h5 _ hlink) (fun x hx => by rw [href]; exact hx) hfin hd hn hfit hl9 hdg (fun H1 locs1 p1 d1 s1 => kk H1 locs1 ls (hset ▸ p1) (hset ▸ d1) s1 hl)
theorem kw_iald (C : KC X L DD tt ww rm t0 cc own) {cA : ClassId} {n a : Nat} {f : Nat → Int32} (q0 t9 : Nat) (he : (ww σ)[q0]? = some (a, .inl (cA, n, .inl f))) (ht : tt[t9]? = some (cA, .int)) {i : Int32} (hin : ixI i n) (hdg : decode cc pc = .ok (.iaload, 1)) (kk : KW X σ (pc + 1) lv (.int (f i.toNatClampNeg) :: st)) : KW X σ (pc) lv (.int i :: .ref a :: st) := by
  obtain ⟨p, l, e, R, s, m, args, below, meth, c, D, tys, wf, A, nL, Q, tW, cn, sn⟩ := X
  obtain ⟨h1, h2, h3, h4, h5, h6, h7, h8, rfl, rfl, rfl, rfl, rfl, rfl, hcn, hsn⟩ := C
  exact fun H locs ls hP hD hS hl => va_iald h1 h2 h6 hP q0 t9 he ht (ixI_in hin) hdg (kk H locs ls hP hD hS hl)
theorem kw_bald (C : KC X L DD tt ww rm t0 cc own) {cA : ClassId} {n a : Nat} {f : Nat → Int32} (q0 t9 : Nat) (he : (ww σ)[q0]? = some (a, .inl (cA, n, .inl f))) (ht : tt[t9]? = some (cA, .byte)) {i : Int32} (hin : ixI i n) (hdg : decode cc pc = .ok (.baload, 1)) (kk : KW X σ (pc + 1) lv (.int (f i.toNatClampNeg) :: st)) : KW X σ (pc) lv (.int i :: .ref a :: st) := by
  obtain ⟨p, l, e, R, s, m, args, below, meth, c, D, tys, wf, A, nL, Q, tW, cn, sn⟩ := X
  obtain ⟨h1, h2, h3, h4, h5, h6, h7, h8, rfl, rfl, rfl, rfl, rfl, rfl, hcn, hsn⟩ := C
  exact fun H locs ls hP hD hS hl => va_bald h1 h2 h6 hP q0 t9 he ht (ixI_in hin) hdg (kk H locs ls hP hD hS hl)
theorem kw_zald (C : KC X L DD tt ww rm t0 cc own) {cA : ClassId} {n a : Nat} {f : Nat → Int32} (q0 t9 : Nat) (he : (ww σ)[q0]? = some (a, .inl (cA, n, .inl f))) (ht : tt[t9]? = some (cA, .boolean)) {i : Int32} (hin : ixI i n) (hdg : decode cc pc = .ok (.baload, 1)) (kk : KW X σ (pc + 1) lv (.int (f i.toNatClampNeg) :: st)) : KW X σ (pc) lv (.int i :: .ref a :: st) := by
  obtain ⟨p, l, e, R, s, m, args, below, meth, c, D, tys, wf, A, nL, Q, tW, cn, sn⟩ := X
  obtain ⟨h1, h2, h3, h4, h5, h6, h7, h8, rfl, rfl, rfl, rfl, rfl, rfl, hcn, hsn⟩ := C
  exact fun H locs ls hP hD hS hl => va_zald h1 h2 h6 hP q0 t9 he ht (ixI_in hin) hdg (kk H locs ls hP hD hS hl)
theorem kw_lald (C : KC X L DD tt ww rm t0 cc own) {cA : ClassId} {n a : Nat} {f : Nat → Int64} (q0 t9 : Nat) (he : (ww σ)[q0]? = some (a, .inl (cA, n, .inr (.inl f)))) (ht : tt[t9]? = some (cA, .long)) {i : Int32} (hin : ixI i n) (hdg : decode cc pc = .ok (.laload, 1)) (kk : KW X σ (pc + 1) lv (.long (f i.toNatClampNeg) :: st)) : KW X σ (pc) lv (.int i :: .ref a :: st) := by
  obtain ⟨p, l, e, R, s, m, args, below, meth, c, D, tys, wf, A, nL, Q, tW, cn, sn⟩ := X
  obtain ⟨h1, h2, h3, h4, h5, h6, h7, h8, rfl, rfl, rfl, rfl, rfl, rfl, hcn, hsn⟩ := C
  exact fun H locs ls hP hD hS hl => va_lald h1 h2 h6 hP q0 t9 he ht (ixI_in hin) hdg (kk H locs ls hP hD hS hl)
theorem kw_iast (C : KC X L DD tt ww rm t0 cc own) {cA : ClassId} {n a : Nat} {f : Nat → Int32} (q0 t9 : Nat) (he : (ww σ)[q0]? = some (a, .inl (cA, n, .inl f))) (ht : tt[t9]? = some (cA, .int)) {i : Int32} {x : Int32} (hin : ixI i n) (hset : (ww σ).set q0 (a, .inl (cA, n, .inl (upd f i.toNatClampNeg x))) = ww σ') (hdg : decode cc pc = .ok (.iastore, 1)) (kk : KW X σ' (pc + 1) lv (st)) : KW X σ (pc) lv (.int x :: .int i :: .ref a :: st) := by
  obtain ⟨p, l, e, R, s, m, args, below, meth, c, D, tys, wf, A, nL, Q, tW, cn, sn⟩ := X
  obtain ⟨h1, h2, h3, h4, h5, h6, h7, h8, rfl, rfl, rfl, rfl, rfl, rfl, hcn, hsn⟩ := C
  exact fun H locs ls hP hD hS hl => va_iast h1 h2 h6 hP hD hS q0 t9 he ht (ixI_in hin) hdg (fun H1 locs1 p1 d1 s1 => kk H1 locs1 ls (hset ▸ p1) (hset ▸ d1) s1 hl)
theorem kw_bast (C : KC X L DD tt ww rm t0 cc own) {cA : ClassId} {n a : Nat} {f : Nat → Int32} (q0 t9 : Nat) (he : (ww σ)[q0]? = some (a, .inl (cA, n, .inl f))) (ht : tt[t9]? = some (cA, .byte)) {i : Int32} {x : Int32} (hin : ixI i n) (hset : (ww σ).set q0 (a, .inl (cA, n, .inl (upd f i.toNatClampNeg (vp_nar .byte x)))) = ww σ') (hdg : decode cc pc = .ok (.bastore, 1)) (kk : KW X σ' (pc + 1) lv (st)) : KW X σ (pc) lv (.int x :: .int i :: .ref a :: st) := by
  obtain ⟨p, l, e, R, s, m, args, below, meth, c, D, tys, wf, A, nL, Q, tW, cn, sn⟩ := X
  obtain ⟨h1, h2, h3, h4, h5, h6, h7, h8, rfl, rfl, rfl, rfl, rfl, rfl, hcn, hsn⟩ := C
  exact fun H locs ls hP hD hS hl => va_bast h1 h2 h6 hP hD hS q0 t9 he ht (ixI_in hin) hdg (fun H1 locs1 p1 d1 s1 => kk H1 locs1 ls (hset ▸ p1) (hset ▸ d1) s1 hl)
theorem kw_zast (C : KC X L DD tt ww rm t0 cc own) {cA : ClassId} {n a : Nat} {f : Nat → Int32} (q0 t9 : Nat) (he : (ww σ)[q0]? = some (a, .inl (cA, n, .inl f))) (ht : tt[t9]? = some (cA, .boolean)) {i : Int32} {x : Int32} (hin : ixI i n) (hset : (ww σ).set q0 (a, .inl (cA, n, .inl (upd f i.toNatClampNeg (vp_nar .boolean x)))) = ww σ') (hdg : decode cc pc = .ok (.bastore, 1)) (kk : KW X σ' (pc + 1) lv (st)) : KW X σ (pc) lv (.int x :: .int i :: .ref a :: st) := by
  obtain ⟨p, l, e, R, s, m, args, below, meth, c, D, tys, wf, A, nL, Q, tW, cn, sn⟩ := X
  obtain ⟨h1, h2, h3, h4, h5, h6, h7, h8, rfl, rfl, rfl, rfl, rfl, rfl, hcn, hsn⟩ := C
  exact fun H locs ls hP hD hS hl => va_zast h1 h2 h6 hP hD hS q0 t9 he ht (ixI_in hin) hdg (fun H1 locs1 p1 d1 s1 => kk H1 locs1 ls (hset ▸ p1) (hset ▸ d1) s1 hl)
theorem kw_last (C : KC X L DD tt ww rm t0 cc own) {cA : ClassId} {n a : Nat} {f : Nat → Int64} (q0 t9 : Nat) (he : (ww σ)[q0]? = some (a, .inl (cA, n, .inr (.inl f)))) (ht : tt[t9]? = some (cA, .long)) {i : Int32} {x : Int64} (hin : ixI i n) (hset : (ww σ).set q0 (a, .inl (cA, n, .inr (.inl (vp_updL f i.toNatClampNeg x)))) = ww σ') (hdg : decode cc pc = .ok (.lastore, 1)) (kk : KW X σ' (pc + 1) lv (st)) : KW X σ (pc) lv (.long x :: .int i :: .ref a :: st) := by
  obtain ⟨p, l, e, R, s, m, args, below, meth, c, D, tys, wf, A, nL, Q, tW, cn, sn⟩ := X
  obtain ⟨h1, h2, h3, h4, h5, h6, h7, h8, rfl, rfl, rfl, rfl, rfl, rfl, hcn, hsn⟩ := C
  exact fun H locs ls hP hD hS hl => va_last h1 h2 h6 hP hD hS q0 t9 he ht (ixI_in hin) hdg (fun H1 locs1 p1 d1 s1 => kk H1 locs1 ls (hset ▸ p1) (hset ▸ d1) s1 hl)
theorem kw_alen (C : KC X L DD tt ww rm t0 cc own) {cA : ClassId} {a : Nat} {x : vp_A} {ty : FieldType} (q0 t9 : Nat) (he : (ww σ)[q0]? = some (a, .inl (cA, x))) (ht : tt[t9]? = some (cA, ty)) (v : Int32) (hv : Int32.ofNat x.1 = v) (hdg : decode cc pc = .ok (.arraylength, 1)) (kk : KW X σ (pc + 1) lv (.int v :: st)) : KW X σ (pc) lv (.ref a :: st) := by
  obtain ⟨p, l, e, R, s, m, args, below, meth, c, D, tys, wf, A, nL, Q, tW, cn, sn⟩ := X
  obtain ⟨h1, h2, h3, h4, h5, h6, h7, h8, rfl, rfl, rfl, rfl, rfl, rfl, hcn, hsn⟩ := C
  exact fun H locs ls hP hD hS hl => va_alen h1 h2 h6 hP q0 t9 he ht hv hdg (kk H locs ls hP hD hS hl)
theorem kw_getsN (C : KC X L DD tt ww rm t0 cc own) {index : Nat} (hl9 : ∀ U, NWs U → va_Nw (.fieldLinkNest own index "BidLines" "WORDS" "[I" "BidLines") U) (hdg : decode cc pc = .ok (.getstatic index, 3)) (kk : KW X σ (pc + 3) lv (.ref t0 :: st)) : KW X σ (pc) lv (st) := by
  obtain ⟨p, l, e, R, s, m, args, below, meth, c, D, tys, wf, A, nL, Q, tW, cn, sn⟩ := X
  obtain ⟨h1, h2, h3, h4, h5, h6, h7, h8, rfl, rfl, rfl, rfl, rfl, rfl, hcn, hsn⟩ := C
  exact fun H locs ls hP hD hS hl => va_getsN h1 h2 h8.1 hS h4 (va_Nw.use rfl (hl9 _ h8.2.2)) (fun _ h => h) hdg (kk H locs ls hP hD hS hl)
theorem kw_gets (C : KC X L DD tt ww rm t0 cc own) {index : Nat} (hl9 : Cond.fieldLink own index "BidLines" "WORDS" "[I" ∈ GT) (hdg : decode cc pc = .ok (.getstatic index, 3)) (kk : KW X σ (pc + 3) lv (.ref t0 :: st)) : KW X σ (pc) lv (st) := by
  obtain ⟨p, l, e, R, s, m, args, below, meth, c, D, tys, wf, A, nL, Q, tW, cn, sn⟩ := X
  obtain ⟨h1, h2, h3, h4, h5, h6, h7, h8, rfl, rfl, rfl, rfl, rfl, rfl, hcn, hsn⟩ := C
  exact fun H locs ls hP hD hS hl => va_gets h1 h2 h8.1 hS h4 (h5 _ hl9) (fun _ h => h) hdg (kk H locs ls hP hD hS hl)
theorem kw_ti (C : KC X L DD tt ww rm t0 cc own) {i : Int32} (hin : ixI i 19) (hdg : decode cc pc = .ok (.iaload, 1)) (kk : KW X σ (pc + 1) lv (.int (wordsV.getD i.toNatClampNeg 0) :: st)) : KW X σ (pc) lv (.int i :: .ref t0 :: st) := by
  obtain ⟨p, l, e, R, s, m, args, below, meth, c, D, tys, wf, A, nL, Q, tW, cn, sn⟩ := X
  obtain ⟨h1, h2, h3, h4, h5, h6, h7, h8, rfl, rfl, rfl, rfl, rfl, rfl, hcn, hsn⟩ := C
  exact fun H locs ls hP hD hS hl => va_ti h1 h2 h8.2.1 hS (ixI_in hin) rfl hdg (kk H locs ls hP hD hS hl)
theorem kw_tlen (C : KC X L DD tt ww rm t0 cc own) (hdg : decode cc pc = .ok (.arraylength, 1)) (kk : KW X σ (pc + 1) lv (.int 19 :: st)) : KW X σ (pc) lv (.ref t0 :: st) := by
  obtain ⟨p, l, e, R, s, m, args, below, meth, c, D, tys, wf, A, nL, Q, tW, cn, sn⟩ := X
  obtain ⟨h1, h2, h3, h4, h5, h6, h7, h8, rfl, rfl, rfl, rfl, rfl, rfl, hcn, hsn⟩ := C
  exact fun H locs ls hP hD hS hl => va_tlen h1 h2 h8.2.1 hS rfl hdg (kk H locs ls hP hD hS hl)
theorem kw_mmin (C : KC X L DD tt ww rm t0 cc own) {index : Nat} {x y : Int32} (hlink : Cond.methodLink own index Lib.Math.min.name ∈ GT) (hstat : Cond.static Lib.Math.min.name ∈ GT) (hini : Cond.initialized "java/lang/Math" ∈ GT) (hcode : Cond.code Lib.Math.min.name Lib.Math.min.code 2 (some .int) ∈ GT) (hR : 1 ≤ rm.frames ∧ (st.map fun v => v.category).sum + 13 ≤ rm.locals) (hdg : decode cc pc = .ok (.invokestatic index, 3)) (kk : KW X σ (pc + 3) lv (.int (iMin x y) :: st)) : KW X σ (pc) lv (.int y :: .int x :: st) := by
  obtain ⟨p, l, e, R, s, m, args, below, meth, c, D, tys, wf, A, nL, Q, tW, cn, sn⟩ := X
  obtain ⟨h1, h2, h3, h4, h5, h6, h7, h8, rfl, rfl, rfl, rfl, rfl, rfl, hcn, hsn⟩ := C
  exact fun H locs ls hP hD hS hl => va_mmin h1 h2 (h3.trans hl.1.symm) h4 (h5 _ hlink) (h5 _ hstat) (h5 _ hini) (h5 _ hcode) hR.1 hR.2 hcn hsn hdg (kk H locs ls hP hD hS hl)
theorem kw_mmax (C : KC X L DD tt ww rm t0 cc own) {index : Nat} {x y : Int32} (hlink : Cond.methodLink own index Lib.Math.max.name ∈ GT) (hstat : Cond.static Lib.Math.max.name ∈ GT) (hini : Cond.initialized "java/lang/Math" ∈ GT) (hcode : Cond.code Lib.Math.max.name Lib.Math.max.code 2 (some .int) ∈ GT) (hR : 1 ≤ rm.frames ∧ (st.map fun v => v.category).sum + 13 ≤ rm.locals) (hdg : decode cc pc = .ok (.invokestatic index, 3)) (kk : KW X σ (pc + 3) lv (.int (iMax x y) :: st)) : KW X σ (pc) lv (.int y :: .int x :: st) := by
  obtain ⟨p, l, e, R, s, m, args, below, meth, c, D, tys, wf, A, nL, Q, tW, cn, sn⟩ := X
  obtain ⟨h1, h2, h3, h4, h5, h6, h7, h8, rfl, rfl, rfl, rfl, rfl, rfl, hcn, hsn⟩ := C
  exact fun H locs ls hP hD hS hl => va_mmax h1 h2 (h3.trans hl.1.symm) h4 (h5 _ hlink) (h5 _ hstat) (h5 _ hini) (h5 _ hcode) hR.1 hR.2 hcn hsn hdg (kk H locs ls hP hD hS hl)
theorem kw_mmin_long (C : KC X L DD tt ww rm t0 cc own) {index : Nat} {x y : Int64} (hlink : Cond.methodLink own index Lib.MathLoose.min_long.x ∈ GT) (hstat : Cond.static Lib.MathLoose.min_long.x ∈ GT) (hini : Cond.initialized "java/lang/Math" ∈ GT) (hcode : Cond.code Lib.MathLoose.min_long.x Lib.MathLoose.min_long.code 4 (some .long) ∈ GT) (hR : 1 ≤ rm.frames ∧ (st.map fun v => v.category).sum + 15 ≤ rm.locals) (hdg : decode cc pc = .ok (.invokestatic index, 3)) (kk : KW X σ (pc + 3) lv (.long (lMin x y) :: st)) : KW X σ (pc) lv (.long y :: .long x :: st) := by
  obtain ⟨p, l, e, R, s, m, args, below, meth, c, D, tys, wf, A, nL, Q, tW, cn, sn⟩ := X
  obtain ⟨h1, h2, h3, h4, h5, h6, h7, h8, rfl, rfl, rfl, rfl, rfl, rfl, hcn, hsn⟩ := C
  exact fun H locs ls hP hD hS hl => va_mmin_long h1 h2 (h3.trans hl.1.symm) h4 (h5 _ hlink) (h5 _ hstat) (h5 _ hini) (h5 _ hcode) hR.1 hR.2 hcn hsn hdg (kk H locs ls hP hD hS hl)
theorem kw_mmax_long (C : KC X L DD tt ww rm t0 cc own) {index : Nat} {x y : Int64} (hlink : Cond.methodLink own index Lib.MathLoose.max_long.x ∈ GT) (hstat : Cond.static Lib.MathLoose.max_long.x ∈ GT) (hini : Cond.initialized "java/lang/Math" ∈ GT) (hcode : Cond.code Lib.MathLoose.max_long.x Lib.MathLoose.max_long.code 4 (some .long) ∈ GT) (hR : 1 ≤ rm.frames ∧ (st.map fun v => v.category).sum + 15 ≤ rm.locals) (hdg : decode cc pc = .ok (.invokestatic index, 3)) (kk : KW X σ (pc + 3) lv (.long (lMax x y) :: st)) : KW X σ (pc) lv (.long y :: .long x :: st) := by
  obtain ⟨p, l, e, R, s, m, args, below, meth, c, D, tys, wf, A, nL, Q, tW, cn, sn⟩ := X
  obtain ⟨h1, h2, h3, h4, h5, h6, h7, h8, rfl, rfl, rfl, rfl, rfl, rfl, hcn, hsn⟩ := C
  exact fun H locs ls hP hD hS hl => va_mmax_long h1 h2 (h3.trans hl.1.symm) h4 (h5 _ hlink) (h5 _ hstat) (h5 _ hini) (h5 _ hcode) hR.1 hR.2 hcn hsn hdg (kk H locs ls hP hD hS hl)
theorem kw_mabs_long (C : KC X L DD tt ww rm t0 cc own) {index : Nat} {x : Int64} (hlink : Cond.methodLink own index Lib.MathLoose.abs_long.x ∈ GT) (hstat : Cond.static Lib.MathLoose.abs_long.x ∈ GT) (hini : Cond.initialized "java/lang/Math" ∈ GT) (hcode : Cond.code Lib.MathLoose.abs_long.x Lib.MathLoose.abs_long.code 2 (some .long) ∈ GT) (hR : 1 ≤ rm.frames ∧ (st.map fun v => v.category).sum + 13 ≤ rm.locals) (hdg : decode cc pc = .ok (.invokestatic index, 3)) (kk : KW X σ (pc + 3) lv (.long (lAbs x) :: st)) : KW X σ (pc) lv (.long x :: st) := by
  obtain ⟨p, l, e, R, s, m, args, below, meth, c, D, tys, wf, A, nL, Q, tW, cn, sn⟩ := X
  obtain ⟨h1, h2, h3, h4, h5, h6, h7, h8, rfl, rfl, rfl, rfl, rfl, rfl, hcn, hsn⟩ := C
  exact fun H locs ls hP hD hS hl => va_mabs_long h1 h2 (h3.trans hl.1.symm) h4 (h5 _ hlink) (h5 _ hstat) (h5 _ hini) (h5 _ hcode) hR.1 hR.2 hcn hsn hdg (kk H locs ls hP hD hS hl)
theorem kw_copyi (C : KC X L DD tt ww rm t0 cc own) {index a a0 : Nat} {c0 c1 : ClassId} {n0 n1 : Nat} {f g : Nat → Int32} (q0 q1 t9 t8 : Nat) (hlink : Cond.methodLink own index arraycopyName ∈ GT) (hnat : Cond.native arraycopyName ∈ GT) (hstat : Cond.static arraycopyName ∈ GT) (hini : Cond.initialized "java/lang/System" ∈ GT) (ha0 : (ww σ)[q0]? = some (a0, .inl (c0, n0, .inl f))) (ha1 : (ww σ)[q1]? = some (a, .inl (c1, n1, .inl g))) (ht0 : tt[t9]? = some (c0, .int)) (ht1 : tt[t8]? = some (c1, .int)) {sp dp n : Int32} (g1 : ¬ sp < 0) (g2 : ¬ dp < 0) (g3 : ¬ n < 0) (g4 : sp.toNatClampNeg + n.toNatClampNeg ≤ n0) (g5 : dp.toNatClampNeg + n.toNatClampNeg ≤ n1) (hR : 1 ≤ rm.frames ∧ (st.map fun v => v.category).sum + (nativeFrameWords "java/lang/System" "arraycopy" 5 + 11) ≤ rm.locals) (hset : (ww σ).set q1 (a, .inl (c1, n1, .inl (va_cpy f g sp.toNatClampNeg dp.toNatClampNeg n.toNatClampNeg))) = ww σ') (hdg : decode cc pc = .ok (.invokestatic index, 3)) (kk : KW X σ' (pc + 3) lv (st)) : KW X σ (pc) lv (.int n :: .int dp :: .ref a :: .int sp :: .ref a0 :: st) := by
  obtain ⟨p, l, e, R, s, m, args, below, meth, c, D, tys, wf, A, nL, Q, tW, cn, sn⟩ := X
  obtain ⟨h1, h2, h3, h4, h5, h6, h7, h8, rfl, rfl, rfl, rfl, rfl, rfl, hcn, hsn⟩ := C
  exact fun H locs ls hP hD hS hl => va_copyi h1 h2 (h3.trans hl.1.symm) h4 (h5 _ hlink) (h5 _ hnat) (h5 _ hstat) (h5 _ hini) h6 hP hD hS q0 q1 t9 t8 ha0 ha1 ht0 ht1 rfl g1 g2 g3 g4 g5 (fun _ _ => rfl) hR.1 hR.2 hdg (fun H1 locs1 p1 d1 s1 => kk H1 locs1 ls (hset ▸ p1) (hset ▸ d1) s1 hl)
end KWS
