/-! HOUSE, where it throws -/
abbrev IOB : String := "java/lang/IndexOutOfBoundsException"
abbrev NSE : String := "java/util/NoSuchElementException"
abbrev rxN : ByteArray := prog_22_method_4_code
abbrev upN : List String := ["java/lang/RuntimeException", "java/lang/Exception"]
def NXw (U : State) : Prop := va_Nw (.declares (Bundle.initS "java/lang/RuntimeException")) U ∧ va_Nw (.declares (Bundle.initS "java/lang/Exception")) U ∧ va_Nw (.declares (Bundle.initS Bundle.tN)) U ∧ va_Nw (.castable IOB IOB) U ∧ va_Nw (.castable NSE NSE) U ∧ va_Nc NSE IOB U
def EXw (A : Nat → Prop) (U : State) (H : Heap) : Prop := vx_Zq Bundle.tN "UNASSIGNED_STACK" Bundle.steD A U H ∧ vx_Zq Bundle.tN "SUPPRESSED_SENTINEL" Bundle.listD A U H ∧ (∃ sa, vk_R RX9 148 "no such house" sa U) ∧ (∃ sa, vk_R RX9 176 "no such what" sa U) ∧ NXw U
theorem NXw.warm {u U : State} (hW : u.WarmedH U.vm) (h : NXw u) : NXw U := ⟨va_Nw.warmD hW h.1, va_Nw.warmD hW h.2.1, va_Nw.warmD hW h.2.2.1, va_Nw.warmC hW h.2.2.2.1, va_Nw.warmC hW h.2.2.2.2.1, va_Nc.moved hW.alike h.2.2.2.2.2⟩
theorem EXw.warm {A : Nat → Prop} {u U : State} {H : Heap} (hW : u.WarmedH U.vm) (h : EXw A u H) : EXw A U H := by
  obtain ⟨h1, h2, ⟨s1, h3⟩, ⟨s2, h4⟩, h5⟩ := h
  exact ⟨h1.moved hW.alike, h2.moved hW.alike, ⟨s1, vk_R.warm hW h3⟩, ⟨s2, vk_R.warm hW h4⟩, h5.warm hW⟩
theorem EXw.same {A : Nat → Prop} {u U : State} {H : Heap} (hv : u.vm = U.vm) (h : EXw A u H) : EXw A U H := h.warm (by rw [← hv]; exact State.WarmedH.refl u)
theorem EXw.kept {A : Nat → Prop} {U : State} {H H1 : Heap} (h : EXw A U H) (hq : ∀ a : Nat, a < H.size → ¬ A a → H1[a]? = H[a]?) : EXw A U H1 := ⟨h.1.kept hq, h.2.1.kept hq, h.2.2⟩
theorem EXw.narrow {A B : Nat → Prop} {U : State} {H : Heap} (h : EXw A U H) (hAB : ∀ q, B q → A q) : EXw B U H := ⟨h.1.narrow hAB, h.2.1.narrow hAB, h.2.2⟩
def atI : List Cond := (Bundle.ownAtomsX RX9 150 IOB 7 Bundle.six upN).filter vx_no
def atN : List Cond := (Bundle.ownAtomsX RX9 178 NSE 13 rxN upN).filter vx_no
set_option maxRecDepth 100000 in
set_option maxHeartbeats 4000000 in
theorem atI_tbl : ∀ w ∈ atI.filter goodWord, w ∈ lw_tbl := by decide +kernel
set_option maxRecDepth 100000 in
set_option maxHeartbeats 4000000 in
theorem atN_tbl : ∀ w ∈ atN.filter goodWord, w ∈ lw_tbl := by decide +kernel
set_option maxRecDepth 100000 in
theorem atI_bad : ∀ w ∈ atI.filter (fun w => !goodWord w), w ∈ [Cond.declares (Bundle.initS "java/lang/RuntimeException"), Cond.declares (Bundle.initS "java/lang/Exception"), Cond.declares (Bundle.initS Bundle.tN), Cond.castable IOB IOB] := by decide +kernel
set_option maxRecDepth 100000 in
theorem atN_bad : ∀ w ∈ atN.filter (fun w => !goodWord w), w ∈ [Cond.declares (Bundle.initS "java/lang/RuntimeException"), Cond.declares (Bundle.initS "java/lang/Exception"), Cond.declares (Bundle.initS Bundle.tN), Cond.castable NSE NSE] := by decide +kernel
set_option maxRecDepth 100000 in
theorem atI_ot : ∀ w ∈ Cond.classLink RX9 146 IOB :: Cond.initialized IOB :: atI, vx_ot w = true := by decide +kernel
set_option maxRecDepth 100000 in
theorem atN_ot : ∀ w ∈ Cond.classLink RX9 174 NSE :: Cond.initialized NSE :: atN, vx_ot w = true := by decide +kernel
set_option maxRecDepth 100000 in
theorem mcl_9_146 : Cond.classLink RX9 146 IOB ∈ GT := GT5 104 rfl rfl
set_option maxRecDepth 100000 in
theorem mcl_9_174 : Cond.classLink RX9 174 NSE ∈ GT := GT5 170 rfl rfl
set_option maxRecDepth 100000 in
theorem mi_IOB : Cond.initialized IOB ∈ GT := GT1 16 rfl rfl
set_option maxRecDepth 100000 in
theorem mi_NSE : Cond.initialized NSE ∈ GT := GT1 17 rfl rfl
