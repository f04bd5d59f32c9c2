set_option maxRecDepth 100000 in
theorem tb_x1 : Cond.laysStatic Bundle.tN "UNASSIGNED_STACK" Bundle.steD ∈ lw_tbl := List.mem_append_right _ (List.mem_append_right _ (List.mem_append_right _ (List.mem_append_right _ (List.mem_append_right _ (List.mem_append_left _ (List.mem_of_getElem? (i := 131) rfl))))))
set_option maxRecDepth 100000 in
theorem tb_x2 : Cond.laysStatic Bundle.tN "SUPPRESSED_SENTINEL" Bundle.listD ∈ lw_tbl := List.mem_append_right _ (List.mem_append_right _ (List.mem_append_right _ (List.mem_append_right _ (List.mem_append_right _ (List.mem_append_left _ (List.mem_of_getElem? (i := 133) rfl))))))
set_option maxRecDepth 100000 in
theorem tb_x3 : Cond.stringRef RX9 148 "no such house" ∈ lw_tbl := List.mem_append_right _ (List.mem_append_right _ (List.mem_append_right _ (List.mem_append_right _ (List.mem_append_right _ (List.mem_append_left _ (List.mem_of_getElem? (i := 144) rfl))))))
set_option maxRecDepth 100000 in
theorem tb_x4 : Cond.stringRef RX9 176 "no such what" ∈ lw_tbl := List.mem_append_right _ (List.mem_append_right _ (List.mem_append_right _ (List.mem_append_right _ (List.mem_append_right _ (List.mem_append_left _ (List.mem_of_getElem? (i := 179) rfl))))))
set_option maxRecDepth 100000 in
theorem tb_x5 : Cond.declares (Bundle.initS "java/lang/RuntimeException") ∈ lw_tbl := List.mem_append_right _ (List.mem_append_right _ (List.mem_append_right _ (List.mem_append_right _ (List.mem_append_right _ (List.mem_append_left _ (List.mem_of_getElem? (i := 108) rfl))))))
set_option maxRecDepth 100000 in
theorem tb_x6 : Cond.declares (Bundle.initS "java/lang/Exception") ∈ lw_tbl := List.mem_append_right _ (List.mem_append_right _ (List.mem_append_right _ (List.mem_append_right _ (List.mem_append_right _ (List.mem_append_left _ (List.mem_of_getElem? (i := 110) rfl))))))
set_option maxRecDepth 100000 in
theorem tb_x7 : Cond.declares (Bundle.initS Bundle.tN) ∈ lw_tbl := List.mem_append_right _ (List.mem_append_right _ (List.mem_append_right _ (List.mem_append_right _ (List.mem_append_right _ (List.mem_append_left _ (List.mem_of_getElem? (i := 112) rfl))))))
set_option maxRecDepth 100000 in
theorem tb_x8 : Cond.castable IOB IOB ∈ lw_tbl := List.mem_append_right _ (List.mem_append_right _ (List.mem_append_right _ (List.mem_append_right _ (List.mem_append_right _ (List.mem_append_left _ (List.mem_of_getElem? (i := 106) rfl))))))
set_option maxRecDepth 100000 in
theorem tb_x9 : Cond.castable NSE NSE ∈ lw_tbl := List.mem_append_right _ (List.mem_append_right _ (List.mem_append_right _ (List.mem_append_right _ (List.mem_append_right _ (List.mem_append_left _ (List.mem_of_getElem? (i := 172) rfl))))))
set_option maxRecDepth 100000 in
theorem mi_Thr : Cond.initialized Bundle.tN ∈ GT := GT1 13 rfl rfl
theorem no_trace {l : Launch} (h : l.flags = flags0) : l.stackTraces = false := by
  unfold Launch.stackTraces
  rw [h]
  decide +kernel
set_option maxHeartbeats 16000000 in
set_option maxRecDepth 100000 in
theorem whole_start {p : Program} {e : Env} {s : State} {m : MethodId} {below : List Frame} {meth : Method} {c : Code} (l : Launch) (hnt : l.stackTraces = false) {b L : Nat} {xs : Nat → Int32} (hL : L ≤ 3072) (C0 : lw_At p s m meth c b L xs) : W p l e room_1 s m #[Value.ref b] below meth c s.heap [] 0 0 (lw_Z below #[Value.ref b] s) (entryFrame m ([Value.ref b] : List Value).toArray 7) := by
  obtain ⟨σ1, σ2, hf1, hf2, hrel⟩ := rel_ini
  obtain ⟨hx, hb, hr, hml, hown, hts, hX, hbl, hlocks, hgv⟩ := id C0
  have h5 : ∀ w ∈ GT, w.before #[Value.ref b] s = true := fun w hw => hts w (GT_sub hw)
  have hA : ∀ q : Nat, s.heap.size ≤ q → (fun q : Nat => s.heap.size ≤ q) q := fun _ h => h
  have hbA : ¬ (fun q : Nat => s.heap.size ≤ q) b := Nat.not_le.mpr hbl
  obtain ⟨c0, iS0, hKn0⟩ := u_known (C := RX0) (T := TX0) (N := 7) (n := 7) h5 inG0 (h5 _ minst_0)
  obtain ⟨c1, iS1, hKn1⟩ := u_known (C := RX1) (T := TX1) (N := 9) (n := 9) h5 inG1 (h5 _ minst_1)
  obtain ⟨c2, iS2, hKn2⟩ := u_known (C := RX2) (T := TX2) (N := 5) (n := 5) h5 inG2 (h5 _ minst_2)
  obtain ⟨c3, iS3, hKn3⟩ := u_known (C := RX3) (T := TX3) (N := 5) (n := 5) h5 inG3 (h5 _ minst_3)
  obtain ⟨c4, iS4, hKn4⟩ := u_known (C := RX4) (T := TX4) (N := 15) (n := 15) h5 inG4 (h5 _ minst_4)
  obtain ⟨c5, iS5, hKn5⟩ := u_known (C := RX5) (T := TX5) (N := 6) (n := 6) h5 inG5 (h5 _ minst_5)
  obtain ⟨c6, iS6, hKn6⟩ := u_known (C := RX6) (T := TX6) (N := 16) (n := 16) h5 inG6 (h5 _ minst_6)
  obtain ⟨c7, iS7, hKn7⟩ := u_known (C := RX7) (T := TX7) (N := 6) (n := 6) h5 inG7 (h5 _ minst_7)
  obtain ⟨c8, iS8, hKn8⟩ := u_known (C := RX8) (T := TX8) (N := 2) (n := 2) h5 inG8 (h5 _ minst_8)
  obtain ⟨c9, iS9, hKn9⟩ := u_known (C := RX9) (T := TX9) (N := 15) (n := 15) h5 inG9 (h5 _ minst_9)
  obtain ⟨c10, iS10, hKn10⟩ := u_known (C := RX10) (T := TX10) (N := 77) (n := 77) h5 inG10 (h5 _ minst_10)
  obtain ⟨dC, dI, hKc⟩ : ∃ (dC : Nat → ClassId) (dI : Nat → Nat → Nat), ∀ (k : Nat) (q : vw_C), vwCl[k]? = some q → u_Kn s q.1 q.2.1 q.2.2 (dC k) (dI k) := by
    refine ⟨fun k => match k with | 0 => c0 | 1 => c1 | 2 => c2 | 3 => c3 | 4 => c4 | 5 => c5 | 6 => c6 | 7 => c7 | 8 => c8 | 9 => c9 | _ => c10, fun k => match k with | 0 => iS0 | 1 => iS1 | 2 => iS2 | 3 => iS3 | 4 => iS4 | 5 => iS5 | 6 => iS6 | 7 => iS7 | 8 => iS8 | 9 => iS9 | _ => iS10, ?_⟩
    intro k q hq
    match k, hq with
    | 0, hq => cases hq; exact hKn0
    | 1, hq => cases hq; exact hKn1
    | 2, hq => cases hq; exact hKn2
    | 3, hq => cases hq; exact hKn3
    | 4, hq => cases hq; exact hKn4
    | 5, hq => cases hq; exact hKn5
    | 6, hq => cases hq; exact hKn6
    | 7, hq => cases hq; exact hKn7
    | 8, hq => cases hq; exact hKn8
    | 9, hq => cases hq; exact hKn9
    | 10, hq => cases hq; exact hKn10
    | k + 11, hq => simp [vwCl] at hq
  obtain ⟨cI, kI, mI, aI1, aI2, aI3⟩ := Cond.arrayClass_spec (h5 _ mac_int)
  obtain ⟨cB, kB, mB, aB1, aB2, aB3⟩ := Cond.arrayClass_spec (h5 _ mac_byte)
  obtain ⟨cJ, kJ, mJ, aJ1, aJ2, aJ3⟩ := Cond.arrayClass_spec (h5 _ mac_long)
  obtain ⟨cZ, kZ, mZ, aZ1, aZ2, aZ3⟩ := Cond.arrayClass_spec (h5 _ mac_boolean)
  obtain ⟨g0, hg0⟩ : ∃ g0 : GwT, g0 = (fun _ => 0, fun _ _ => 0, cI, cB, cJ, cZ) := ⟨_, rfl⟩
  have hK : va_K (dC, dI) vwCl (ttG g0) s := by
    subst hg0
    refine ⟨hKc, fun k q hk => ?_⟩
    match k, hk with
    | 0, hk => cases hk; exact ⟨fun n z => ⟨fun k h => (by cases h), kI, aI2, mI, aI3⟩, aI1⟩
    | 1, hk => cases hk; exact ⟨fun n z => ⟨fun k h => (by cases h), kB, aB2, mB, aB3⟩, aB1⟩
    | 2, hk => cases hk; exact ⟨fun n z => ⟨fun k h => (by cases h), kJ, aJ2, mJ, aJ3⟩, aJ1⟩
    | 3, hk => cases hk; exact ⟨fun n z => ⟨fun k h => (by cases h), kZ, aZ2, mZ, aZ3⟩, aZ1⟩
    | k + 4, hk => simp [ttG] at hk
  have hfl := flat_of_before _ hgv
  have hw1 : (Cond.arrayOf (.static "BidLines" "WORDS" "[I") .int).before #[Value.ref b] s = true := hfl _ (by decide +kernel)
  have hw2 : (Term.length (.static "BidLines" "WORDS" "[I")).eval #[Value.ref b] s none [] s = some (.int (Int32.ofNat 19)) := va_eqt (hfl _ (by decide +kernel))
  have hw3 : ∀ j : Nat, j < 19 → (Term.elem (.static "BidLines" "WORDS" "[I") (.int (Int32.ofNat j))).eval #[Value.ref b] s none [] s = some (.int (wordsV.getD j 0)) := by
    intro j hj
    match j, hj with
    | 0, _ => exact va_eqt (hfl _ (by decide +kernel))
    | 1, _ => exact va_eqt (hfl _ (by decide +kernel))
    | 2, _ => exact va_eqt (hfl _ (by decide +kernel))
    | 3, _ => exact va_eqt (hfl _ (by decide +kernel))
    | 4, _ => exact va_eqt (hfl _ (by decide +kernel))
    | 5, _ => exact va_eqt (hfl _ (by decide +kernel))
    | 6, _ => exact va_eqt (hfl _ (by decide +kernel))
    | 7, _ => exact va_eqt (hfl _ (by decide +kernel))
    | 8, _ => exact va_eqt (hfl _ (by decide +kernel))
    | 9, _ => exact va_eqt (hfl _ (by decide +kernel))
    | 10, _ => exact va_eqt (hfl _ (by decide +kernel))
    | 11, _ => exact va_eqt (hfl _ (by decide +kernel))
    | 12, _ => exact va_eqt (hfl _ (by decide +kernel))
    | 13, _ => exact va_eqt (hfl _ (by decide +kernel))
    | 14, _ => exact va_eqt (hfl _ (by decide +kernel))
    | 15, _ => exact va_eqt (hfl _ (by decide +kernel))
    | 16, _ => exact va_eqt (hfl _ (by decide +kernel))
    | 17, _ => exact va_eqt (hfl _ (by decide +kernel))
    | 18, _ => exact va_eqt (hfl _ (by decide +kernel))
    | j + 19, hj => omega
  obtain ⟨tW, htW, hT⟩ := va_Tof (N := 19) (f := fun j => .int (wordsV.getD j 0)) (A := fun q : Nat => s.heap.size ≤ q) (by decide) hw1 hw2 hw3 (fun a h => Nat.not_le.mpr h)
  have hZ : va_Z "BidLines" "WORDS" "[I" (.ref tW) (fun q : Nat => s.heap.size ≤ q) s s.heap := va_Zof (hts _ tb_ls) (h5 _ mi_X9) htW (fun a h => Nat.not_le.mpr h)
  have hNW : NWs s := ⟨va_Nw.of rfl (hts _ tb_n0), va_Nw.of rfl (hts _ tb_n1), va_Nw.of rfl (hts _ tb_n2), va_Nw.of rfl (hts _ tb_n3), va_Nw.of rfl (hts _ tb_n4), va_Nw.of rfl (hts _ tb_n5)⟩
  have hCN : CNs s := ⟨va_Nw.of rfl (hts _ tb_n6), va_Nw.of rfl (hts _ tb_n7)⟩
  have hSB : SBW tW (fun q : Nat => s.heap.size ≤ q) s s.heap := ⟨hZ, hT, hNW⟩
  have hEX : EXw (fun q : Nat => s.heap.size ≤ q) s s.heap := by
    refine ⟨vx_Zqof (hts _ tb_x1) (h5 _ mi_Thr) (hfl _ (by decide +kernel)) (fun a h => Nat.not_le.mpr h), vx_Zqof (hts _ tb_x2) (h5 _ mi_Thr) (hfl _ (by decide +kernel)) (fun a h => Nat.not_le.mpr h), ?_, ?_, va_Nw.of rfl (hts _ tb_x5), va_Nw.of rfl (hts _ tb_x6), va_Nw.of rfl (hts _ tb_x7), va_Nw.of rfl (hts _ tb_x8), va_Nw.of rfl (hts _ tb_x9), va_Nc.of (hfl _ (by decide +kernel))⟩
    · obtain ⟨a, c9, cA, kA, q1, -⟩ := Cond.exactly_spec (args := #[Value.ref b]) (first := s) (o := none) (s := s) (idx := []) (t := .string RX9 148) (cls := "java/lang/String") (hfl _ (by decide +kernel))
      exact ⟨a, vk_R.of (hts _ tb_x3) q1⟩
    · obtain ⟨a, c9, cA, kA, q1, -⟩ := Cond.exactly_spec (args := #[Value.ref b]) (first := s) (o := none) (s := s) (idx := []) (t := .string RX9 176) (cls := "java/lang/String") (hfl _ (by decide +kernel))
      exact ⟨a, vk_R.of (hts _ tb_x4) q1⟩
  have hS : va_S (fun q : Nat => s.heap.size ≤ q) s.heap s.heap [] := va_S.rf
  have hP : va_P (dC, dI) vwCl [] s.heap := fun k q h => by simp at h
  have hD : va_D (fun q : Nat => s.heap.size ≤ q) [] := ⟨fun i j p q h => by simp at h, fun k q h => by simp at h⟩
  have hl := lv_entry ([.ref b]) (n := 7) (Nat.le_of_ble_eq_true rfl)
  rw [lg_entry_eq]
  generalize (lg_sl ([.ref b]) ++ List.replicate (7 - (lg_sl ([.ref b])).length) Slot.unset).toArray = ls at hl ⊢
  have hl : lv_has ls 7 [(0, .ref b)] := hl
  refine va_new (ci := 9) (fs := [.null, .int 0, .null, .null, .null, .int 0, .int 0, .null, .null, .null, .null, .int 0, .null, .null, .null]) (C := RX9) (T := TX9) (N := 15) hx hb h5 inG9 tyX9 tyX9_ok hown (h5 _ mcl_L_8) (h5 _ minst_9) (h5 _ mi_X9) hK hP hD hS hA rfl df9 (Nat.le_of_ble_eq_true rfl) (Nat.le_of_ble_eq_true rfl) dL_law_0 (fun qB H hP hD hS => ?_)
  refine W.widen (k := 1) (n := 15) (by omega) (by omega) ?_
  refine lv_dup hx hb dL_law_3 rfl ?_
  have hP : va_P (dC, dI) vwCl [(qB, .inr (9, [.null, .int 0, .null, .null, .null, .int 0, .int 0, .null, .null, .null, .null, .int 0, .null, .null, .null]))] H := hP
  have hD : va_D (fun q : Nat => s.heap.size ≤ q) [(qB, .inr (9, [.null, .int 0, .null, .null, .null, .int 0, .int 0, .null, .null, .null, .null, .int 0, .null, .null, .null]))] := hD
  have hFc := kw_free hD hS hA
  refine va_callv (va_runI (As := []) (rest := [.ref qB]) ⟨hx, hb, hml, hown, h5⟩ (kc9 l (dC, dI) g0 qB H.size) (cwI 0 h5 (GT_in (fun _ h => h) _ (GT_c mcode_X9_init (fun _ h => h))) rfl rfl rfl (h5 _ mi_X9) (h5 _ ml_L_17) (h5 _ mint_X9_init) rfl (by decide +kernel) ⟨Nat.le_of_ble_eq_true rfl, Nat.le_of_ble_eq_true rfl⟩) ⟨PreC.blind, fun U hU hW => ⟨rfl, by rw [hU], by rw [hU]; exact hP, va_K.moved hW.alike hK, hD.weaken (fun _ _ _ _ => trivial), hCN.warm hW⟩⟩ rfl rfl hl.1 rfl (lv_room (Nat.le_of_ble_eq_true rfl)) dL_law_4 ⟨Nat.le_of_ble_eq_true rfl, Nat.le_of_ble_eq_true rfl⟩) hS (fun q _ h => hFc q h) hFc (fun uB t H1 locs ht hvm hw hB hz1 hk1 hS => ?_)
  have hw : uB.1 0 = qB := hw
  obtain ⟨hP9, hD9⟩ := hB
  subst ht
  replace hD9 := hD9.weaken (fun _ q _ h => hFc q.1 h)
  clear hFc hk1 hz1 hvm
  refine W.widen (k := 73) (n := 1784) (by omega) (by omega) ?_
  obtain ⟨gB, hgB⟩ : ∃ gB : GwT, gB = (uB.1, uB.2, g0.2.2) := ⟨_, rfl⟩
  rw [← hgB] at hP9 hD9
  have hqB : gB.1 0 = qB := by rw [hgB]; exact hw
  have hK : va_K (dC, dI) vwCl (ttG gB) s := by rw [hgB]; exact hK
  subst hqB
  clear hw
  generalize t.heap = H at hP9 hS ⊢
  refine lv_astore_n (lv' := [(1, .ref (gB.1 0)), (0, .ref b)]) hx hb dL_law_7 rfl hl (by decide) rfl (fun ls hl => ?_)
  refine va_new (ci := 10) (fs := [.null, .int 0, .int 0, .null, .int 0, .int 0, .int 0, .int 0, .int 0, .int 0, .int 0, .int 0, .int 0, .int 0, .int 0, .int 0, .int 0, .int 0, .null, .null, .null, .null, .null, .null, .null, .null, .null, .null, .null, .null, .null, .null, .null, .null, .null, .null, .null, .int 0, .int 0, .int 0, .int 0, .int 0, .int 0, .null, .null, .int 0, .null, .null, .null, .null, .null, .null, .null, .null, .null, .null, .null, .null, .null, .null, .long 0, .int 0, .int 0, .int 0, .int 0, .int 0, .int 0, .int 0, .int 0, .null, .null, .int 0, .null, .int 0, .null, .null, .long 0]) (C := RX10) (T := TX10) (N := 77) hx hb h5 inG10 tyX10 tyX10_ok hown (h5 _ mcl_L_18) (h5 _ minst_10) (h5 _ mi_X10) hK hP9 hD9 hS hA rfl df10 (Nat.le_of_ble_eq_true rfl) (Nat.le_of_ble_eq_true rfl) dL_law_8 (fun qM H hP hD hS => ?_)
  refine W.widen (k := 74) (n := 1861) (by omega) (by omega) ?_
  refine lv_dup hx hb dL_law_11 rfl ?_
  have hP : va_P (dC, dI) vwCl (wB gB iniB ++ ([(qM, .inr (10, [.null, .int 0, .int 0, .null, .int 0, .int 0, .int 0, .int 0, .int 0, .int 0, .int 0, .int 0, .int 0, .int 0, .int 0, .int 0, .int 0, .int 0, .null, .null, .null, .null, .null, .null, .null, .null, .null, .null, .null, .null, .null, .null, .null, .null, .null, .null, .null, .int 0, .int 0, .int 0, .int 0, .int 0, .int 0, .null, .null, .int 0, .null, .null, .null, .null, .null, .null, .null, .null, .null, .null, .null, .null, .null, .null, .long 0, .int 0, .int 0, .int 0, .int 0, .int 0, .int 0, .int 0, .int 0, .null, .null, .int 0, .null, .int 0, .null, .null, .long 0]))] ++ [])) H := hP
  have hD : va_D (fun q : Nat => s.heap.size ≤ q) (wB gB iniB ++ ([(qM, .inr (10, [.null, .int 0, .int 0, .null, .int 0, .int 0, .int 0, .int 0, .int 0, .int 0, .int 0, .int 0, .int 0, .int 0, .int 0, .int 0, .int 0, .int 0, .null, .null, .null, .null, .null, .null, .null, .null, .null, .null, .null, .null, .null, .null, .null, .null, .null, .null, .null, .int 0, .int 0, .int 0, .int 0, .int 0, .int 0, .null, .null, .int 0, .null, .null, .null, .null, .null, .null, .null, .null, .null, .null, .null, .null, .null, .null, .long 0, .int 0, .int 0, .int 0, .int 0, .int 0, .int 0, .int 0, .int 0, .null, .null, .int 0, .null, .int 0, .null, .null, .long 0]))] ++ [])) := hD
  obtain ⟨pC, dC9⟩ := mid_sub hP hD
  have hFc := kw_free dC9 hS hA
  refine va_callv (va_runI (As := []) (rest := [.ref qM]) ⟨hx, hb, hml, hown, h5⟩ (kc10 l (dC, dI) gB tW qM H.size σ1 σ2 hf1 hf2) (cwI 0 h5 (GT_in (fun _ h => h) _ (GT_c mcode_X10_init (fun _ h => h))) rfl rfl rfl (h5 _ mi_X10) (h5 _ ml_L_20) (h5 _ mint_X10_init) rfl (by decide +kernel) ⟨Nat.le_of_ble_eq_true rfl, Nat.le_of_ble_eq_true rfl⟩) ⟨fun a U g9 mk q => by obtain ⟨q0, q1, q2⟩ := q; exact ⟨q0, (PreC.blind (av := a.toList) a U g9 mk ⟨by simp, q1⟩).2, SBW.same (u := U) (U := U.calling g9 mk a) rfl (Vm.Alike.refl U.vm) q2⟩, fun U hU hW => ⟨rfl, ⟨by rw [hU], by rw [hU]; exact pC, va_K.moved hW.alike hK, dC9.weaken (fun _ _ _ _ => trivial), hCN.warm hW⟩, by rw [hU]; exact ((hSB.warm hW).kept (fun a h9 h10 => hS.2.1 a h9 h10)).narrow hFc⟩⟩ rfl rfl hl.1 rfl (lv_room (Nat.le_of_ble_eq_true rfl)) dL_law_12 ⟨Nat.le_of_ble_eq_true rfl, Nat.le_of_ble_eq_true rfl⟩) hS (fun q _ h => hFc q h) hFc (fun uM t H1 locs ht hvm hw hB hz1 hk1 hS => ?_)
  have hw : uM.1 0 = qM := hw
  obtain ⟨hP1, hD1⟩ := hB
  subst ht
  obtain ⟨hP8, hD8⟩ := mid_join hP hD hk1 hFc hP1 hD1
  refine W.widen (k := 116) (n := 4358) (by omega) (by omega) ?_
  obtain ⟨aM, bM⟩ := uM
  have hw : aM 0 = qM := hw
  subst hw
  rw [List.append_nil] at hP8 hD8
  generalize t.heap = H at hP8 hS ⊢
  refine lv_astore_n (lv' := [(2, .ref (aM 0)), (1, .ref (gB.1 0)), (0, .ref b)]) hx hb dL_law_15 rfl hl (by decide) rfl (fun ls hl => ?_)
  refine lv_iconst (v := 1) hx hb dL_law_16 (by decide) ?_
  refine va_newa (atype := .long) (a0 := (1, .inr (.inl (fun _ => 0)))) (ty := .long) hx hb (h5 _ mac_long) rfl hK hP8 hD8 hS hA (fun _ => rfl) (by decide) (by decide) (by decide) (Nat.le_of_ble_eq_true rfl) (Nat.le_of_ble_eq_true rfl) dL_law_17 (fun qo cA H hK2 hP7 hD7 hS => ?_)
  obtain rfl : cA = gB.2.2.2.2.1 := cid_eq (by intro C h; cases h) hK2 (i := 4) (j := 2) rfl rfl
  clear hK2
  rw [List.append_assoc] at hP7 hD7
  refine W.widen (k := 117) (n := 4359) (by omega) (by omega) ?_
  refine lv_astore_n (lv' := [(3, .ref qo), (2, .ref (aM 0)), (1, .ref (gB.1 0)), (0, .ref b)]) hx hb dL_law_19 rfl hl (by decide) rfl (fun ls hl => ?_)
  refine lv_iconst (v := 0) hx hb dL_law_20 (by decide) ?_
  refine lv_istore (lv' := [(4, .int 0), (3, .ref qo), (2, .ref (aM 0)), (1, .ref (gB.1 0)), (0, .ref b)]) hx hb dL_law_21 hl (by decide) rfl (fun ls hl => ?_)
  obtain ⟨X, hXe⟩ : ∃ X : KX SL, X = (p, l, e, room_1, s, m, #[Value.ref b], below, meth, c, (dC, dI), ttG gB, wL gB (aM, bM, gB.2.2) qo, (fun q : Nat => s.heap.size ≤ q), 7, lw_Z below #[Value.ref b] s, tW, 117, 4359) := ⟨_, rfl⟩
  have hKC : ∀ k : Nat, k ≤ 512 → KC (XN X (117 + 2 * k) (4359 + 16 * k)) l (dC, dI) (ttG gB) (wL gB (aM, bM, gB.2.2) qo) room_1 tW cL_law RL := by
    intro k hk
    subst hXe
    exact ⟨hx, hb, hml, hown, h5, hK, hA, hSB, rfl, rfl, rfl, rfl, rfl, rfl, show 117 + 2 * k ≤ 1143 by omega, show 4359 + 16 * k ≤ 12563 by omega⟩
  have hgo := law_loop (X := X) (cN := 117) (sN := 4359) (Ln := L) (xs := xs) (b := b) REL (by omega) (by omega) hL hKC (fun k => by subst hXe; rfl) (fun k => by subst hXe; exact ⟨hX, hbl, hbA⟩) (fun cn sn u lv h1 h2 => by subst hXe; exact fun H locs ls hP hD hS hl => va_forget (fun q hq => hS.2.2 q hq) (W.widen h1 h2 (lw_ret hx hb hr hlocks dL_law_1616))) st0 st1 st2 st3 st5 st6 st7 st8 st9 st10 st11 st12 st13 st14 st15 st16 st17 st18 st19 st20 st21 st22 st23 st24 st25 st26 st27 st28 st29 st30 st31 st32 st33 st34 st35 st36 st37 st38 st39 st40 st41 st42 st43 (lc_4 (b := b) (Ln := L) (xs := xs) hnt hKC (fun k => by subst hXe; rfl) (fun k => by subst hXe; exact ⟨hX, hbl, hbA⟩) (by subst hXe; exact hEX)) iniB σ2 (fun _ => 0) hrel
  subst hXe
  exact hgo H _ ls hP7 hD7 hS (lv_sub hl [4, 3, 2, 1, 0] rfl)
