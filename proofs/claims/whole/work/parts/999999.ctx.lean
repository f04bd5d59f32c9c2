/-- a callee that throws E -/
def PreX (DD : va_G) (tt : List (ClassId × FieldType)) (ww : St → va_W) (t0 : Nat) (σ : St) (sz : Nat) (U : State) : Prop := PreK DD tt ww t0 σ sz U ∧ EXw (va_A (ww σ) sz) U U.heap
theorem PreX.blind {DD : va_G} {tt : List (ClassId × FieldType)} {ww : St → va_W} {t0 : Nat} {σ : St} {sz : Nat} {av : List Value} : FrameBlind (va_Pc av (PreX DD tt ww t0 σ sz)) := fun a U g mk q => by
  obtain ⟨q0, ⟨q1, qP, qK, qD, qS⟩, qX⟩ := q
  exact ⟨q0, ⟨q1, qP, va_K.moved (u := U) (U := U.calling g mk a) (Vm.Alike.refl U.vm) qK, qD, SBW.same (u := U) (U := U.calling g mk a) rfl (Vm.Alike.refl U.vm) qS⟩, EXw.same (u := U) (U := U.calling g mk a) rfl qX⟩
def XQ (DD : va_G) (ww : St → va_W) (A : Nat → Prop) (σ : St) (E : String) : String → State → State → Prop := vx_X (fun u => u = σ) (fun E' u t => E' = E ∧ AtK DD ww A u t) A
def CtX (L : Launch) (DD : va_G) (tt : List (ClassId × FieldType)) (ww : St → va_W) (t0 : Nat) (y : MethodName) (cc : ByteArray) (n : Nat) (ret : Option FieldType) (rm : Room) (av : List Value) (σ : St) (E : String) : Prop := ∀ sz : Nat, vx_Met L y (wsG y cc n ret) rm (va_Pc av (PreX DD tt ww t0 σ sz)) (va_Qi (fun _ _ => False) (AtK DD ww (va_A (ww σ) sz)) (va_A (ww σ) sz)) (XQ DD ww (va_A (ww σ) sz) σ E) 1 6 (va_A (ww σ) sz)
def KRX (X : KX St) (σ : St) (E : String) : Prop := match X with
  | (p, l, e, R, s, m, args, below, meth, c, D, tys, wf, A, nL, Q, tW, cn, sn) => meth.locks = false ∧ cn = 0 ∧ sn = 0 ∧ (∀ x ∈ c.exceptionTable.toList, False) ∧ EXw A s s.heap ∧ Q = vx_MQ below (va_Qi (fun _ _ => False) (AtK D wf A) A) (XQ D wf A σ E) args s 1 6 A
theorem CtX.of {L : Launch} {DD : va_G} {tt : List (ClassId × FieldType)} {ww : St → va_W} {rm : Room} {t0 : Nat} {cc : ByteArray} {own : String} {y : MethodName} {n : Nat} {ret : Option FieldType} {av : List Value} {σ : St} {E : String} (hy : plainName y.cls = true) (hown : y.cls = own) (hav : (lg_sl av).length ≤ n) (lv : List (Nat × Value)) (hlv : lv_args 0 av = lv) (body : ∀ X : KX St, KC X L DD tt ww rm t0 cc own → X.2.2.2.2.2.2.2.2.2.2.2.2.2.2.1 = n → KRX X σ E → KW X σ 0 lv []) : CtX L DD tt ww t0 y cc n ret rm av σ E := by
  intro sz
  refine vx_ofW (cc := cc) (maxL := n) (ret := ret) hy rfl ?_
  intro p e s m args below meth c s₁ B hml hnx hv
  obtain ⟨rfl, ⟨hsz, hP, hK, hD0, hSB⟩, hX⟩ := hv
  subst hlv
  have hts := atoms_spec (ws := wsG y cc n ret) B.pre
  have hown9 : s.vm.findClass own = some m.cls := hown ▸ findClass_of_methodNamed B.named
  have hD := hD0.self (sz := sz)
  have hA : ∀ q : Nat, s.heap.size ≤ q → va_A (ww σ) sz q := fun q h => Or.inr (hsz ▸ h)
  have hb := body (p, L, e, rm, s, m, av.toArray, below, meth, c, DD, tt, ww, va_A (ww σ) sz, n, _, t0, 0, 0) ⟨B.exec, B.bytes, hml, hown9, fun w hw => hts w (List.mem_cons_of_mem _ hw), hK, hA, hSB, rfl, rfl, rfl, rfl, rfl, rfl, Nat.zero_le _, Nat.zero_le _⟩ rfl ⟨B.notSynchronized, rfl, rfl, hnx, hX, rfl⟩
  have hl := lv_entry av (n := n) hav
  rw [lg_entry_eq]
  exact hb s.heap [] _ hP hD va_S.rf hl
/-- the throw itself -/
theorem kw_throw {X : KX St} {L : Launch} {DD : va_G} {tt : List (ClassId × FieldType)} {ww : St → va_W} {rm : Room} {t0 : Nat} {cc : ByteArray} {σ : St} {pc : Nat} {lv : List (Nat × Value)} {own E text : String} {ik is ic ix : Nat} {rx : ByteArray} (C : KC X L DD tt ww rm t0 cc own) (K : KRX X σ E) (hl : L.stackTraces = false)
    (x0 : decode rx 0 = .ok (.aload_n 0, 1)) (x1 : decode rx 1 = .ok (.aload_n 1, 1)) (x2 : decode rx 2 = .ok (.invokespecial ix, 3)) (x5 : decode rx 5 = .ok (.return_, 1)) (hE : Bundle.fit E = true)
    (hk : Cond.classLink own ik E ∈ GT) (hini : Cond.initialized E ∈ GT) (hstr : ∀ U A H, EXw A U H → ∃ sa, vk_R own is text sa U) (hg : ∀ w ∈ ((Bundle.ownAtomsX own ic E ix rx upN).filter vx_no).filter goodWord, w ∈ GT) (bad : List Cond) (hb1 : ∀ w ∈ ((Bundle.ownAtomsX own ic E ix rx upN).filter vx_no).filter (fun w => !goodWord w), w ∈ bad) (hb2 : ∀ (U : State) (args : Array Value), NXw U → ∀ w ∈ bad, w.before args U = true) (hot : ∀ w ∈ Cond.classLink own ik E :: Cond.initialized E :: (Bundle.ownAtomsX own ic E ix rx upN).filter vx_no, vx_ot w = true)
    (d0 : decode cc pc = .ok (.new ik, 3)) (d3 : decode cc (pc + 3) = .ok (.dup, 1)) (d4 : decode cc (pc + 4) = .ok (.ldc is, 2)) (d6 : decode cc (pc + 6) = .ok (.invokespecial ic, 3)) (d9 : decode cc (pc + 9) = .ok (.athrow, 1)) (hR1 : 5 < rm.frames) (hR2 : 82 ≤ rm.locals) (hR3 : 1 ≤ rm.cells) (hR4 : 6 ≤ rm.slots) : KW X σ pc lv [] := by
  obtain ⟨p, l, e, R, s, m, args, below, meth, c, D, tys, wf, A, nL, Q, tW, cn, sn⟩ := X
  obtain ⟨k1, rfl, rfl, k4, k5, rfl⟩ := K
  obtain ⟨h1, h2, h3, h4, h5, h6, h7, h8, rfl, rfl, rfl, rfl, rfl, rfl, hcn, hsn⟩ := C
  intro H locs ls hP hD hS hlv
  obtain ⟨sa, hsa⟩ := hstr s A s.heap k5
  refine xs_throw h1 h2 hl x0 x1 x2 x5 h4 hE (by decide +kernel) (h5 _ hk) (h5 _ hini) hsa (vx_hat (fun w hw => h5 w (hg w hw)) hb1 (hb2 s args k5.2.2.2.2)) hot k5.1 k5.2.1 hS (hlv.1.trans h3.symm) d0 d3 d4 d6 d9 (fun x hx => (k4 x hx).elim) hR1 (by simpa using hR2) (by omega) (by omega) k1 (fun t hal hz hq => ?_) hS.2.2 (by omega) (by omega)
  refine ⟨σ, rfl, ⟨rfl, hP.kept (fun k q hk => hq _ (hP k q hk).lt), hD⟩, Nat.le_trans hS.1 hz, fun q h1 h2 => ?_⟩
  rw [hq q (Nat.lt_of_lt_of_le h1 hS.1)]
  exact hS.2.1 q h1 h2
set_option maxRecDepth 100000 in
set_option maxHeartbeats 4000000 in
theorem kX9_houseI (L : Launch) (hL : L.stackTraces = false) (D : va_G) (g : GwT) (t0 : Nat) (p0 : Int32) (p1 : Int32) (σ : St) (v : Int32) (hf : fHs σ p0 p1 = some (1, v)) : CtX L D (ttG g) (wB g) t0 yX9_house cX9_house 3 (some .int) { frames := 6, cells := 1, slots := 6, locals := 82 } [.ref (g.1 0), .int p0, .int p1] σ IOB := by
  refine CtX.of (own := RX9) (by decide) rfl (Nat.le_of_ble_eq_true rfl) [(0, .ref (g.1 0)), (1, .int p0), (2, .int p1)] rfl ?_
  intro X C hN K
  unfold fHs at hf
  obtain ⟨r, hr, hf⟩ := bd_elim hf
  refine kw_aload_n C dX9_house_0 rfl 0 rfl ?_
  refine kw_iload_n C dX9_house_1 rfl 1 rfl ?_
  refine kw_callVI C [.int p0] (kX9_isHouse L D g t0 p0 σ _ hr) RX9 mV_X9_132 ⟨rfl, rfl⟩ dd_X9_isHouse ⟨Nat.le_of_ble_eq_true rfl, Nat.le_of_ble_eq_true rfl⟩ _ (hO9 g σ) rfl rfl rfl (Nat.le_of_ble_eq_true rfl) dX9_house_2 ?_
  refine kw_if_ne C 18 dX9_house_5 rfl (fun c => ?_) (fun c => ?_)
  · have hf := if_n c hf
    exfalso
    have key : ∀ {b : Prop} [Decidable b] {x y : Option (Int32 × Int32)}, (if b then x else y) = some (1, v) → x = some (1, v) ∨ y = some (1, v) := fun {b} _ {x y} h => by
      by_cases hb : b
      · rw [if_pos hb] at h; exact Or.inl h
      · rw [if_neg hb] at h; exact Or.inr h
    have no : ∀ {b : Prop} [Decidable b] {z : Int32}, gd b (some ((0 : Int32), z)) = some (1, v) → False := fun {b} _ {z} h => by
      obtain ⟨-, h⟩ := gd_elim h
      injection h with h
      injection h with h _
      exact absurd h (by decide)
    rcases key hf with hf | hf
    · exact no hf
    rcases key hf with hf | hf
    · exact no hf
    rcases key hf with hf | hf
    · exact no hf
    rcases key hf with hf | hf
    · exact no hf
    rcases key hf with hf | hf
    · exact no hf
    rcases key hf with hf | hf
    · obtain ⟨r4, -, hf⟩ := bd_elim hf
      rcases key hf with hf | hf
      · injection hf with h
        injection h with h _
        exact absurd h (by decide)
      · injection hf with h
        injection h with h _
        exact absurd h (by decide)
    rcases key hf with hf | hf
    · exact no hf
    rcases key hf with hf | hf
    · exact no hf
    injection hf with h
    injection h with h _
    exact absurd h (by decide)
  · exact kw_throw C K hL (rx := Bundle.six) (ix := 7) (ic := 150) Bundle.six_0 Bundle.six_1 Bundle.six_2 Bundle.six_5 (by decide +kernel) mcl_9_146 mi_IOB (fun U A H h => h.2.2.1) (fun w hw => List.mem_filter.mpr ⟨atI_tbl w hw, (List.mem_filter.mp hw).2⟩) _ atI_bad (fun U args h => vx_c (va_Nw.use rfl h.1) (vx_c (va_Nw.use rfl h.2.1) (vx_c (va_Nw.use rfl h.2.2.1) (vx_c (va_Nw.use rfl h.2.2.2.1) vx_n)))) atI_ot dX9_house_8 dX9_house_11 dX9_house_12 dX9_house_14 dX9_house_17 (by decide) (by decide) (by decide) (by decide)
theorem rxN_0 : decode rxN 0 = .ok (.aload_n 0, 1) := by decide +kernel
theorem rxN_1 : decode rxN 1 = .ok (.aload_n 1, 1) := by decide +kernel
theorem rxN_2 : decode rxN 2 = .ok (.invokespecial 13, 3) := by decide +kernel
theorem rxN_5 : decode rxN 5 = .ok (.return_, 1) := by decide +kernel
theorem tab07 {p1 : Int32} (h0 : ¬ p1 = 0) (h1 : ¬ p1 = 1) (h2 : ¬ p1 = 2) (h3 : ¬ p1 = 3) (h4 : ¬ p1 = 4) (h5 : ¬ p1 = 5) (h6 : ¬ p1 = 6) (h7 : ¬ p1 = 7) : p1.toInt < 0 ∨ 7 < p1.toInt := by
  rw [i32eq] at h0 h1 h2 h3 h4 h5 h6 h7
  have e0 : (0 : Int32).toInt = 0 := rfl
  have e1 : (1 : Int32).toInt = 1 := rfl
  have e2 : (2 : Int32).toInt = 2 := rfl
  have e3 : (3 : Int32).toInt = 3 := rfl
  have e4 : (4 : Int32).toInt = 4 := rfl
  have e5 : (5 : Int32).toInt = 5 := rfl
  have e6 : (6 : Int32).toInt = 6 := rfl
  have e7 : (7 : Int32).toInt = 7 := rfl
  omega
set_option maxRecDepth 100000 in
set_option maxHeartbeats 4000000 in
theorem kX9_houseN (L : Launch) (hL : L.stackTraces = false) (D : va_G) (g : GwT) (t0 : Nat) (p0 : Int32) (p1 : Int32) (σ : St) (v : Int32) (hf : fHs σ p0 p1 = some (2, v)) : CtX L D (ttG g) (wB g) t0 yX9_house cX9_house 3 (some .int) { frames := 6, cells := 1, slots := 6, locals := 82 } [.ref (g.1 0), .int p0, .int p1] σ NSE := by
  refine CtX.of (own := RX9) (by decide) rfl (Nat.le_of_ble_eq_true rfl) [(0, .ref (g.1 0)), (1, .int p0), (2, .int p1)] rfl ?_
  intro X C hN K
  unfold fHs at hf
  obtain ⟨r, hr, hf⟩ := bd_elim hf
  have no : ∀ {b : Prop} [Decidable b] {z : Int32}, gd b (some ((0 : Int32), z)) = some (2, v) → False := fun {b} _ {z} h => by
    obtain ⟨-, h⟩ := gd_elim h
    injection h with h
    injection h with h _
    exact absurd h (by decide)
  refine kw_aload_n C dX9_house_0 rfl 0 rfl ?_
  refine kw_iload_n C dX9_house_1 rfl 1 rfl ?_
  refine kw_callVI C [.int p0] (kX9_isHouse L D g t0 p0 σ _ hr) RX9 mV_X9_132 ⟨rfl, rfl⟩ dd_X9_isHouse ⟨Nat.le_of_ble_eq_true rfl, Nat.le_of_ble_eq_true rfl⟩ _ (hO9 g σ) rfl rfl rfl (Nat.le_of_ble_eq_true rfl) dX9_house_2 ?_
  refine kw_if_ne C 18 dX9_house_5 rfl (fun c => ?_) (fun c => ?_)
  · have hf := if_n c hf
    refine kw_iload_n C dX9_house_18 rfl 2 rfl ?_
    by_cases c0 : p1 = (0 : Int32)
    · exact (no (if_p c0 hf)).elim
    have hf := if_n c0 hf
    by_cases c1 : p1 = (1 : Int32)
    · exact (no (if_p c1 hf)).elim
    have hf := if_n c1 hf
    by_cases c2 : p1 = (2 : Int32)
    · exact (no (if_p c2 hf)).elim
    have hf := if_n c2 hf
    by_cases c3 : p1 = (3 : Int32)
    · exact (no (if_p c3 hf)).elim
    have hf := if_n c3 hf
    by_cases c4 : p1 = (4 : Int32)
    · exact (no (if_p c4 hf)).elim
    have hf := if_n c4 hf
    by_cases c5 : p1 = (5 : Int32)
    · exfalso
      have hf := if_p c5 hf
      obtain ⟨r4, -, hf⟩ := bd_elim hf
      by_cases d : r4 = 0
      · have hf := if_p d hf
        injection hf with h
        injection h with h _
        exact absurd h (by decide)
      · have hf := if_n d hf
        injection hf with h
        injection h with h _
        exact absurd h (by decide)
    have hf := if_n c5 hf
    by_cases c6 : p1 = (6 : Int32)
    · exact (no (if_p c6 hf)).elim
    have hf := if_n c6 hf
    by_cases c7 : p1 = (7 : Int32)
    · exact (no (if_p c7 hf)).elim
    refine kw_tabOut C 151 dX9_house_19 (tab07 c0 c1 c2 c3 c4 c5 c6 c7) rfl ?_
    exact kw_throw C K hL (rx := rxN) (ix := 13) (ic := 178) rxN_0 rxN_1 rxN_2 rxN_5 (by decide +kernel) mcl_9_174 mi_NSE (fun U A H h => h.2.2.2.1) (fun w hw => List.mem_filter.mpr ⟨atN_tbl w hw, (List.mem_filter.mp hw).2⟩) _ atN_bad (fun U args h => vx_c (va_Nw.use rfl h.1) (vx_c (va_Nw.use rfl h.2.1) (vx_c (va_Nw.use rfl h.2.2.1) (vx_c (va_Nw.use rfl h.2.2.2.2.1) vx_n)))) atN_ot dX9_house_151 dX9_house_154 dX9_house_155 dX9_house_157 dX9_house_160 (by decide) (by decide) (by decide) (by decide)
  · have hf := if_p c hf
    exfalso
    injection hf with h
    injection h with h _
    exact absurd h (by decide)
