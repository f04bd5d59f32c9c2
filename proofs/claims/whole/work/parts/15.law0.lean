/-! A CALL WHOSE WORLD IS A PART OF THE CALLER'S -/
theorem va_P_iff {D : va_G} {cl : List vw_C} {ws : va_W} {H : Heap} : va_P D cl ws H ↔ ∀ q ∈ ws, va_at D cl q H :=
  ⟨fun h q hq => by obtain ⟨k, hk⟩ := List.getElem?_of_mem hq; exact h k q hk, fun h k q hk => h q (List.mem_of_getElem? hk)⟩
theorem va_D_iff {A : Nat → Prop} {ws : va_W} : va_D A ws ↔ (ws.map Prod.fst).Nodup ∧ ∀ q ∈ ws, A q.1 := by
  constructor
  · intro h
    refine ⟨?_, fun q hq => by obtain ⟨k, hk⟩ := List.getElem?_of_mem hq; exact h.2 k q hk⟩
    rw [List.Nodup, List.pairwise_iff_getElem]
    intro i j hi hj hij e
    simp only [List.length_map] at hi hj
    simp only [List.getElem_map] at e
    have := h.1 i j ws[i] ws[j] (List.getElem?_eq_getElem hi) (List.getElem?_eq_getElem hj) e
    omega
  · rintro ⟨h1, h2⟩
    refine ⟨fun i j p q hp hq e => ?_, fun k q hk => h2 q (List.mem_of_getElem? hk)⟩
    obtain ⟨hi, rfl⟩ := List.getElem?_eq_some_iff.mp hp
    obtain ⟨hj, rfl⟩ := List.getElem?_eq_some_iff.mp hq
    rw [List.Nodup, List.pairwise_iff_getElem] at h1
    rcases Nat.lt_trichotomy i j with h | h | h
    · exact absurd (by rw [List.getElem_map, List.getElem_map]; exact e) (h1 i j (by simpa using hi) (by simpa using hj) h)
    · exact h
    · exact absurd (by rw [List.getElem_map, List.getElem_map]; exact e.symm) (h1 j i (by simpa using hj) (by simpa using hi) h)
theorem mid_sub {D : va_G} {cl : List vw_C} {A : Nat → Prop} {wl wc wr : va_W} {H : Heap} (hP : va_P D cl (wl ++ (wc ++ wr)) H) (hD : va_D A (wl ++ (wc ++ wr))) : va_P D cl wc H ∧ va_D A wc := by
  rw [va_P_iff] at hP ⊢
  rw [va_D_iff] at hD ⊢
  refine ⟨fun q hq => hP q (by simp [hq]), ?_, fun q hq => hD.2 q (by simp [hq])⟩
  have h := hD.1
  rw [List.map_append, List.map_append, List.nodup_append] at h
  have h2 := h.2.1
  rw [List.nodup_append] at h2
  exact h2.1
theorem mid_join {D : va_G} {cl : List vw_C} {A : Nat → Prop} {wl wc wr w1 : va_W} {H H1 : Heap} (hP : va_P D cl (wl ++ (wc ++ wr)) H) (hD : va_D A (wl ++ (wc ++ wr))) (hk : ∀ q : Nat, q < H.size → ¬ va_A wc H.size q → H1[q]? = H[q]?) (hF : ∀ q, va_A wc H.size q → A q) (hP1 : va_P D cl w1 H1) (hD1 : va_D (va_A wc H.size) w1) : va_P D cl (wl ++ (w1 ++ wr)) H1 ∧ va_D A (wl ++ (w1 ++ wr)) := by
  rw [va_P_iff] at hP hP1 ⊢
  rw [va_D_iff] at hD hD1 ⊢
  have hn := hD.1
  rw [List.map_append, List.map_append, List.nodup_append] at hn
  obtain ⟨n1, n2, n3⟩ := hn
  rw [List.nodup_append] at n2
  obtain ⟨n4, n5, n6⟩ := n2
  have inC : ∀ q, va_A wc H.size q → (∃ z ∈ wc, z.1 = q) ∨ H.size ≤ q := by
    rintro q (⟨k, e, h⟩ | h)
    · exact Or.inl ⟨_, List.mem_of_getElem? h, rfl⟩
    · exact Or.inr h
  have outL : ∀ z ∈ wl, z.1 < H.size ∧ ¬ va_A wc H.size z.1 := by
    intro z hz
    have hl := (hP z (by simp [hz])).lt
    refine ⟨hl, fun h => ?_⟩
    rcases inC _ h with ⟨y, hy, e⟩ | h
    · exact n3 z.1 (List.mem_map_of_mem hz) y.1 (List.mem_append_left _ (List.mem_map_of_mem hy)) e.symm
    · omega
  have outR : ∀ z ∈ wr, z.1 < H.size ∧ ¬ va_A wc H.size z.1 := by
    intro z hz
    have hl := (hP z (by simp [hz])).lt
    refine ⟨hl, fun h => ?_⟩
    rcases inC _ h with ⟨y, hy, e⟩ | h
    · exact n6 y.1 (List.mem_map_of_mem hy) z.1 (List.mem_map_of_mem hz) e
    · omega
  refine ⟨fun q hq => ?_, ?_, fun q hq => ?_⟩
  · rcases List.mem_append.mp hq with h | h
    · exact (hP q (by simp [h])).kept (hk _ (outL q h).1 (outL q h).2)
    · rcases List.mem_append.mp h with h | h
      · exact hP1 q h
      · exact (hP q (by simp [h])).kept (hk _ (outR q h).1 (outR q h).2)
  · rw [List.map_append, List.map_append, List.nodup_append, List.nodup_append]
    refine ⟨n1, ⟨hD1.1, n5, ?_⟩, ?_⟩
    · intro a ha b hb e
      obtain ⟨x, hx, rfl⟩ := List.mem_map.mp ha
      obtain ⟨y, hy, rfl⟩ := List.mem_map.mp hb
      exact (outR y hy).2 (e ▸ hD1.2 x hx)
    · intro a ha b hb e
      obtain ⟨x, hx, rfl⟩ := List.mem_map.mp ha
      rcases List.mem_append.mp hb with h | h
      · obtain ⟨y, hy, rfl⟩ := List.mem_map.mp h
        exact (outL x hx).2 (e ▸ hD1.2 y hy)
      · obtain ⟨y, hy, rfl⟩ := List.mem_map.mp h
        exact n3 x.1 (List.mem_map_of_mem hx) y.1 (List.mem_append_right _ (List.mem_map_of_mem hy)) e
  · rcases List.mem_append.mp hq with h | h
    · exact hD.2 q (by simp [h])
    · rcases List.mem_append.mp h with h | h
      · exact hF _ (hD1.2 q h)
      · exact hD.2 q (by simp [h])

/-! THE LAW'S WORLD: the class, the reference, the law's own array -/
abbrev SL : Type := St × St × (Nat → Int64)
def wL (gB gM : GwT) (qo : Nat) (u : SL) : va_W := wB gB u.1 ++ (wM gM u.2.1 ++ [(qo, .inl (gB.2.2.2.2.1, 1, .inr (.inl u.2.2)))])
def SX {S : Type} (X : KX S) (b Ln : Nat) (xs : Nat → Int32) : Prop := match X with
  | (p, l, e, R, s, m, args, below, meth, c, D, tys, wf, A, nL, Q, tW, cn, sn) => va_X b Ln xs s s.heap ∧ b < s.heap.size ∧ ¬ A b
section KLS
variable {S : Type} {X : KX S} {L : Launch} {DD : va_G} {tt : List (ClassId × FieldType)} {ww : S → va_W} {rm : Room} {t0 : Nat} {cc : ByteArray} {own : String} {σ : S} {pc : Nat} {lv : List (Nat × Value)} {st : List Value} {b Ln : Nat} {xs : Nat → Int32}
theorem kl_sld (C : KC X L DD tt ww rm t0 cc own) (hX : SX X b Ln xs) {i : Int32} (hin : ixI i Ln) (hdg : decode cc pc = .ok (.iaload, 1)) (kk : KW X σ (pc + 1) lv (.int (xs i.toNatClampNeg) :: st)) : KW X σ pc lv (.int i :: .ref b :: st) := by
  obtain ⟨p, l, e, R, s, m, args, below, meth, c, D, tys, wf, A, nL, Q, tW, cn, sn⟩ := X
  exact fun H locs ls hP hD hS hl => va_sld C.1 C.2.1 hX.1 hX.2.1 hX.2.2 hS (ixI_in hin) hdg (kk H locs ls hP hD hS hl)
theorem kl_slen (C : KC X L DD tt ww rm t0 cc own) (hX : SX X b Ln xs) (hdg : decode cc pc = .ok (.arraylength, 1)) (kk : KW X σ (pc + 1) lv (.int (Int32.ofNat Ln) :: st)) : KW X σ pc lv (.ref b :: st) := by
  obtain ⟨p, l, e, R, s, m, args, below, meth, c, D, tys, wf, A, nL, Q, tW, cn, sn⟩ := X
  exact fun H locs ls hP hD hS hl => va_slen C.1 C.2.1 hX.1 hX.2.1 hX.2.2 hS hdg (kk H locs ls hP hD hS hl)
end KLS
theorem kl_callBI {X : KX SL} {L : Launch} {DD : va_G} {tt : List (ClassId × FieldType)} {rm : Room} {t0 : Nat} {cc : ByteArray} {own : String} {gB gM : GwT} {qo : Nat} (C : KC X L DD tt (wL gB gM qo) rm t0 cc own) {σB σM σB1 : St} {f : Nat → Int64} {pc : Nat} {lv : List (Nat × Value)} {st : List Value} {y : MethodName} {cy : ByteArray} {n9 index : Nat} {ret : Option FieldType} {rmy : Room} {rest : List Value} {r0 : Int32} (As : List Value) (hM : CtI L DD tt (wB gB) t0 y cy n9 ret rmy (.ref (gB.1 0) :: As) σB r0 σB1) (hG : ∀ w ∈ wsV own index RX9 y (wsG y cy n9 ret), w ∈ GT) (hrc : rmy.cells = 0 ∧ rmy.slots = 0) (hd : y.cls = RX9 ∧ y.cls ≠ "java/lang/invoke/MethodHandle" ∧ y.cls ≠ "java/lang/invoke/VarHandle" ∧ (parseMethodDescriptor y.desc).map (fun d => d.parameters.length) = some As.length) (hR : rmy.frames + 1 ≤ rm.frames ∧ 8 + (n9 + 11) + rmy.locals ≤ rm.locals) (hst : st = As.reverse ++ .ref (gB.1 0) :: rest) (hro : (rest.map fun v => v.category).sum ≤ 8) (hdg : decode cc pc = .ok (.invokevirtual index, 3)) (k9 : KW X (σB1, σM, f) (pc + 3) lv (.int r0 :: rest)) : KW X (σB, σM, f) pc lv st := by
  obtain ⟨p, l, e, R, s, m, args, below, meth, c, D, tys, wf, A, nL, Q, tW, cn, sn⟩ := X
  obtain ⟨h1, h2, h3, h4, h5, h6, h7, h8, rfl, rfl, rfl, rfl, rfl, rfl, hcn, hsn⟩ := C
  intro H locs ls hP hD hS hl
  obtain ⟨pC, dC⟩ := mid_sub (wl := []) (wc := wB gB σB) (wr := wM gM σM ++ [(qo, .inl (gB.2.2.2.2.1, 1, .inr (.inl f)))]) hP hD
  have hFc := kw_free dC hS h7
  refine va_calli (va_runV (As := As) (rest := rest) ⟨h1, h2, h3, h4, h5⟩ (hM H.size) (cwV As.length h5 (GT_in (fun _ h => h) _ hG) rfl hrc.1 hrc.2 hd hR) ⟨PreK.blind, va_recv h6 pC rfl (hO9 gB σB), fun U hU hW => ⟨rfl, by rw [hU], by rw [hU]; exact pC, va_K.moved hW.alike h6, dC.weaken (fun _ _ _ _ => trivial), by rw [hU]; exact ((h8.warm hW).kept (fun a h9 h10 => hS.2.1 a h9 h10)).narrow hFc⟩⟩ rfl rfl hl.1 hst (lv_room hro) hdg ⟨hcn, hsn⟩) hS (fun q _ h => hFc q h) hFc (fun r u t H1 locs1 ht hvm hw hB hz1 hk1 hS1 => ?_)
  obtain ⟨b1, b2⟩ := hB
  obtain ⟨w1, w2⟩ := hw
  subst w1
  subst w2
  subst ht
  obtain ⟨hP2, hD2⟩ := mid_join (wl := []) (wc := wB gB σB) (wr := wM gM σM ++ [(qo, .inl (gB.2.2.2.2.1, 1, .inr (.inl f)))]) hP hD hk1 hFc b1 b2
  exact k9 _ _ _ hP2 hD2 hS1 hl
theorem kl_callBL {X : KX SL} {L : Launch} {DD : va_G} {tt : List (ClassId × FieldType)} {rm : Room} {t0 : Nat} {cc : ByteArray} {own : String} {gB gM : GwT} {qo : Nat} (C : KC X L DD tt (wL gB gM qo) rm t0 cc own) {σB σM σB1 : St} {f : Nat → Int64} {pc : Nat} {lv : List (Nat × Value)} {st : List Value} {y : MethodName} {cy : ByteArray} {n9 index : Nat} {ret : Option FieldType} {rmy : Room} {rest : List Value} {r0 : Int64} (As : List Value) (hM : CtL L DD tt (wB gB) t0 y cy n9 ret rmy (.ref (gB.1 0) :: As) σB r0 σB1) (hG : ∀ w ∈ wsV own index RX9 y (wsG y cy n9 ret), w ∈ GT) (hrc : rmy.cells = 0 ∧ rmy.slots = 0) (hd : y.cls = RX9 ∧ y.cls ≠ "java/lang/invoke/MethodHandle" ∧ y.cls ≠ "java/lang/invoke/VarHandle" ∧ (parseMethodDescriptor y.desc).map (fun d => d.parameters.length) = some As.length) (hR : rmy.frames + 1 ≤ rm.frames ∧ 8 + (n9 + 11) + rmy.locals ≤ rm.locals) (hst : st = As.reverse ++ .ref (gB.1 0) :: rest) (hro : (rest.map fun v => v.category).sum ≤ 8) (hdg : decode cc pc = .ok (.invokevirtual index, 3)) (k9 : KW X (σB1, σM, f) (pc + 3) lv (.long r0 :: rest)) : KW X (σB, σM, f) pc lv st := by
  obtain ⟨p, l, e, R, s, m, args, below, meth, c, D, tys, wf, A, nL, Q, tW, cn, sn⟩ := X
  obtain ⟨h1, h2, h3, h4, h5, h6, h7, h8, rfl, rfl, rfl, rfl, rfl, rfl, hcn, hsn⟩ := C
  intro H locs ls hP hD hS hl
  obtain ⟨pC, dC⟩ := mid_sub (wl := []) (wc := wB gB σB) (wr := wM gM σM ++ [(qo, .inl (gB.2.2.2.2.1, 1, .inr (.inl f)))]) hP hD
  have hFc := kw_free dC hS h7
  refine va_calll (va_runV (As := As) (rest := rest) ⟨h1, h2, h3, h4, h5⟩ (hM H.size) (cwV As.length h5 (GT_in (fun _ h => h) _ hG) rfl hrc.1 hrc.2 hd hR) ⟨PreK.blind, va_recv h6 pC rfl (hO9 gB σB), fun U hU hW => ⟨rfl, by rw [hU], by rw [hU]; exact pC, va_K.moved hW.alike h6, dC.weaken (fun _ _ _ _ => trivial), by rw [hU]; exact ((h8.warm hW).kept (fun a h9 h10 => hS.2.1 a h9 h10)).narrow hFc⟩⟩ rfl rfl hl.1 hst (lv_room hro) hdg ⟨hcn, hsn⟩) hS (fun q _ h => hFc q h) hFc (fun r u t H1 locs1 ht hvm hw hB hz1 hk1 hS1 => ?_)
  obtain ⟨b1, b2⟩ := hB
  obtain ⟨w1, w2⟩ := hw
  subst w1
  subst w2
  subst ht
  obtain ⟨hP2, hD2⟩ := mid_join (wl := []) (wc := wB gB σB) (wr := wM gM σM ++ [(qo, .inl (gB.2.2.2.2.1, 1, .inr (.inl f)))]) hP hD hk1 hFc b1 b2
  exact k9 _ _ _ hP2 hD2 hS1 hl
theorem kl_callMI {X : KX SL} {L : Launch} {DD : va_G} {tt : List (ClassId × FieldType)} {rm : Room} {t0 : Nat} {cc : ByteArray} {own : String} {gB gM : GwT} {qo : Nat} (C : KC X L DD tt (wL gB gM qo) rm t0 cc own) {σB σM σM1 : St} {f : Nat → Int64} {pc : Nat} {lv : List (Nat × Value)} {st : List Value} {y : MethodName} {cy : ByteArray} {n9 index : Nat} {ret : Option FieldType} {rmy : Room} {rest : List Value} {r0 : Int32} (As : List Value) (hM : CtI L DD tt (wM gM) t0 y cy n9 ret rmy (.ref (gM.1 0) :: As) σM r0 σM1) (hG : ∀ w ∈ wsV own index RX10 y (wsG y cy n9 ret), w ∈ GT) (hrc : rmy.cells = 0 ∧ rmy.slots = 0) (hd : y.cls = RX10 ∧ y.cls ≠ "java/lang/invoke/MethodHandle" ∧ y.cls ≠ "java/lang/invoke/VarHandle" ∧ (parseMethodDescriptor y.desc).map (fun d => d.parameters.length) = some As.length) (hR : rmy.frames + 1 ≤ rm.frames ∧ 8 + (n9 + 11) + rmy.locals ≤ rm.locals) (hst : st = As.reverse ++ .ref (gM.1 0) :: rest) (hro : (rest.map fun v => v.category).sum ≤ 8) (hdg : decode cc pc = .ok (.invokevirtual index, 3)) (k9 : KW X (σB, σM1, f) (pc + 3) lv (.int r0 :: rest)) : KW X (σB, σM, f) pc lv st := by
  obtain ⟨p, l, e, R, s, m, args, below, meth, c, D, tys, wf, A, nL, Q, tW, cn, sn⟩ := X
  obtain ⟨h1, h2, h3, h4, h5, h6, h7, h8, rfl, rfl, rfl, rfl, rfl, rfl, hcn, hsn⟩ := C
  intro H locs ls hP hD hS hl
  obtain ⟨pC, dC⟩ := mid_sub (wl := wB gB σB) (wc := wM gM σM) (wr := [(qo, .inl (gB.2.2.2.2.1, 1, .inr (.inl f)))]) hP hD
  have hFc := kw_free dC hS h7
  refine va_calli (va_runV (As := As) (rest := rest) ⟨h1, h2, h3, h4, h5⟩ (hM H.size) (cwV As.length h5 (GT_in (fun _ h => h) _ hG) rfl hrc.1 hrc.2 hd hR) ⟨PreK.blind, va_recv h6 pC rfl (hO10 gM σM), fun U hU hW => ⟨rfl, by rw [hU], by rw [hU]; exact pC, va_K.moved hW.alike h6, dC.weaken (fun _ _ _ _ => trivial), by rw [hU]; exact ((h8.warm hW).kept (fun a h9 h10 => hS.2.1 a h9 h10)).narrow hFc⟩⟩ rfl rfl hl.1 hst (lv_room hro) hdg ⟨hcn, hsn⟩) hS (fun q _ h => hFc q h) hFc (fun r u t H1 locs1 ht hvm hw hB hz1 hk1 hS1 => ?_)
  obtain ⟨b1, b2⟩ := hB
  obtain ⟨w1, w2⟩ := hw
  subst w1
  subst w2
  subst ht
  obtain ⟨hP2, hD2⟩ := mid_join (wl := wB gB σB) (wc := wM gM σM) (wr := [(qo, .inl (gB.2.2.2.2.1, 1, .inr (.inl f)))]) hP hD hk1 hFc b1 b2
  exact k9 _ _ _ hP2 hD2 hS1 hl
theorem kl_callML {X : KX SL} {L : Launch} {DD : va_G} {tt : List (ClassId × FieldType)} {rm : Room} {t0 : Nat} {cc : ByteArray} {own : String} {gB gM : GwT} {qo : Nat} (C : KC X L DD tt (wL gB gM qo) rm t0 cc own) {σB σM σM1 : St} {f : Nat → Int64} {pc : Nat} {lv : List (Nat × Value)} {st : List Value} {y : MethodName} {cy : ByteArray} {n9 index : Nat} {ret : Option FieldType} {rmy : Room} {rest : List Value} {r0 : Int64} (As : List Value) (hM : CtL L DD tt (wM gM) t0 y cy n9 ret rmy (.ref (gM.1 0) :: As) σM r0 σM1) (hG : ∀ w ∈ wsV own index RX10 y (wsG y cy n9 ret), w ∈ GT) (hrc : rmy.cells = 0 ∧ rmy.slots = 0) (hd : y.cls = RX10 ∧ y.cls ≠ "java/lang/invoke/MethodHandle" ∧ y.cls ≠ "java/lang/invoke/VarHandle" ∧ (parseMethodDescriptor y.desc).map (fun d => d.parameters.length) = some As.length) (hR : rmy.frames + 1 ≤ rm.frames ∧ 8 + (n9 + 11) + rmy.locals ≤ rm.locals) (hst : st = As.reverse ++ .ref (gM.1 0) :: rest) (hro : (rest.map fun v => v.category).sum ≤ 8) (hdg : decode cc pc = .ok (.invokevirtual index, 3)) (k9 : KW X (σB, σM1, f) (pc + 3) lv (.long r0 :: rest)) : KW X (σB, σM, f) pc lv st := by
  obtain ⟨p, l, e, R, s, m, args, below, meth, c, D, tys, wf, A, nL, Q, tW, cn, sn⟩ := X
  obtain ⟨h1, h2, h3, h4, h5, h6, h7, h8, rfl, rfl, rfl, rfl, rfl, rfl, hcn, hsn⟩ := C
  intro H locs ls hP hD hS hl
  obtain ⟨pC, dC⟩ := mid_sub (wl := wB gB σB) (wc := wM gM σM) (wr := [(qo, .inl (gB.2.2.2.2.1, 1, .inr (.inl f)))]) hP hD
  have hFc := kw_free dC hS h7
  refine va_calll (va_runV (As := As) (rest := rest) ⟨h1, h2, h3, h4, h5⟩ (hM H.size) (cwV As.length h5 (GT_in (fun _ h => h) _ hG) rfl hrc.1 hrc.2 hd hR) ⟨PreK.blind, va_recv h6 pC rfl (hO10 gM σM), fun U hU hW => ⟨rfl, by rw [hU], by rw [hU]; exact pC, va_K.moved hW.alike h6, dC.weaken (fun _ _ _ _ => trivial), by rw [hU]; exact ((h8.warm hW).kept (fun a h9 h10 => hS.2.1 a h9 h10)).narrow hFc⟩⟩ rfl rfl hl.1 hst (lv_room hro) hdg ⟨hcn, hsn⟩) hS (fun q _ h => hFc q h) hFc (fun r u t H1 locs1 ht hvm hw hB hz1 hk1 hS1 => ?_)
  obtain ⟨b1, b2⟩ := hB
  obtain ⟨w1, w2⟩ := hw
  subst w1
  subst w2
  subst ht
  obtain ⟨hP2, hD2⟩ := mid_join (wl := wB gB σB) (wc := wM gM σM) (wr := [(qo, .inl (gB.2.2.2.2.1, 1, .inr (.inl f)))]) hP hD hk1 hFc b1 b2
  exact k9 _ _ _ hP2 hD2 hS1 hl
