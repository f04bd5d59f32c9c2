/-- one part more -/
theorem TX.part {u : Bool} {n np : Nat} {σB σM a b : St} (X : TX u n np σB (hf σM)) (W : ROW u 9 11 17 np σB σM a b) (hn : np < 6) (D : ∀ k, 9 ≤ k → k ≤ 11 → gA a (tx u) k np = gA b 0 (17 + k) (6 + np)) (r27 : ∃ v, 1 ≤ v ∧ v ≤ 99 ∧ gA b 0 27 (6 + np) = nI v) (r28 : ∃ v, 0 ≤ v ∧ v ≤ 99 ∧ gA b 0 28 (6 + np) = nI v) : TX u n (np + 1) (sI a (tx u) 8 (gI a (tx u) 8 + 1)) (hf (sI b 0 16 (gI b 0 16 + 1))) := by
  have t1 := tx_le u
  have t2 := lw_le u
  obtain ⟨g1, g2, g3, g4, g5, g6, g7, g8, g9, g10, g11, g12, g13, g14, g15, g16, g17, g18, g19, g20, g21⟩ := X
  obtain ⟨w1, w2, w3, w4, w5, w6, w7, w8, w9, w10, w11, w12⟩ := W
  have rg : ∀ k lo hi, 26 ≤ k → k ≤ 28 → rngN (gA (hf σM) 0 k) np lo hi → (∃ v, lo ≤ v ∧ v ≤ hi ∧ gA b 0 k (6 + np) = nI v) → rngN (gA (hf (sI b 0 16 (gI b 0 16 + 1))) 0 k) (np + 1) lo hi := by
    intro k lo hi k1 k2 r e j hj
    have h6 : hw k = 6 := by unfold hw; rw [if_neg (by omega), if_pos (by omega)]
    show ∃ v, lo ≤ v ∧ v ≤ hi ∧ gA b 0 k (hw k + j) = nI v
    rw [h6]
    by_cases q : j = np
    · rw [q]; exact e
    · rw [w11 k (6 + j) (by omega)]
      have := r j (by omega)
      rw [show gA (hf σM) 0 k j = gA σM 0 k (hw k + j) from rfl, h6] at this
      exact this
  have keep : ∀ k, (k < 26 ∨ 28 < k) → gA (hf (sI b 0 16 (gI b 0 16 + 1))) 0 k = gA (hf σM) 0 k := by
    intro k hk
    funext j
    show gA b 0 k (hw k + j) = gA σM 0 k (hw k + j)
    rw [w12 k (by omega)]
  have i16 : gI (sI b 0 16 (gI b 0 16 + 1)) 0 16 = nI (np + 1) := by
    rw [gIe, w10 16 (by omega)]
    have : gI σM 0 16 = nI np := g6
    rw [this, nI_1]
  refine ⟨g1, by omega, ?_, ?_, ?_, i16, ?_, fun k k1 k2 j hj => ?_, fun k k1 k2 j hj => ?_, fun k hk => ?_, fun w hw' => ?_, by rw [keep 21 (by omega)]; exact g12, by rw [keep 22 (by omega)]; exact g13, by rw [keep 23 (by omega)]; exact g14, by rw [keep 24 (by omega)]; exact g15, by rw [keep 25 (by omega)]; exact g16, rg 27 _ _ (by omega) (by omega) g17 r27, rg 28 _ _ (by omega) (by omega) g18 r28, by rw [keep 19 (by omega)]; exact g19, by rw [keep 19 (by omega)]; exact g20, by rw [keep 19 (by omega)]; exact g21⟩
  · rw [gIn (by omega), w3]; exact g3
  · show gI (sI b 0 16 (gI b 0 16 + 1)) 0 15 = nI n
    rw [gIn (by omega), w10 15 (by omega)]; exact g4
  · rw [gIe, w3, g5, nI_1]
  · show gI (sI a (tx u) 8 (gI a (tx u) 8 + 1)) (lw u) 4 = gI (sI b 0 16 (gI b 0 16 + 1)) 0 17
    rw [gIo (by omega), gIn (by omega), w4, w10 17 (by omega)]; exact g7
  · rw [gAI, w9 k (by omega), keep (18 + k) (by omega)]; exact g8 k k1 k2 j hj
  · rw [gAI]
    have h6 : hw (17 + k) = 6 := by unfold hw; rw [if_neg (by omega), if_pos (by omega)]
    show gA a (tx u) k j = gA b 0 (17 + k) (hw (17 + k) + j)
    rw [h6]
    by_cases q : j = np
    · rw [q]; exact D k k1 k2
    · rw [w8 k j q, w11 (17 + k) (6 + j) (by omega)]
      have := g9 k k1 k2 j (by omega)
      rw [show gA (hf σM) 0 (17 + k) j = gA σM 0 (17 + k) (hw (17 + k) + j) from rfl, h6] at this
      exact this
  · rw [gIn (by omega), w3, keep 19 (by omega)]; exact g10 k hk
  · exact lawR_cg (fun k i _ _ => by rw [gAI, w7]) (fun k _ _ => by rw [gAI, w7]) (fun k k1 k2 => by rw [keep k (by omega)]) (fun k i k1 k2 _ => by rw [keep k (by omega)]) (g11 w hw')
set_option maxHeartbeats 4000000 in
theorem part_sim {u : Bool} {c : Nat → Nat} {S n np p : Nat} {σB σM : St} (R : RD u c S n np σB σM) (K : TKp S p σB σM) (hk : gI σB 10 3 ≠ 21) : SIM (LO u c S p σB σM) (fX3_readPart σB) (fX10_partLine σM) := by
  obtain ⟨T, r3, X, r5, r6⟩ := R
  have t1 := tx_le u
  have t2 := lw_le u
  have n6 := X.p6
  have hB := X.pB
  have hM : gI σM 0 16 = nI np := X.pM
  unfold fX3_readPart fX10_partLine
  rw [rdS9, nwG26, rdN10, rdN11, refuse_eq, wrong_eq]
  simp only [lt_eq, jnx1_eq, jnx2_eq]
  rw [r3, hB, hM]
  by_cases c6 : np < 6
  · rw [if_pos (show nI np < (6 : Int32) from (ltN (a := np) (b := 6) (by omega) (by omega)).mpr c6), if_neg (show ¬ nI np = (6 : Int32) from fun z => absurd ((eqN (a := np) (b := 6) (by omega) (by omega)).mp z) (by omega))]
    refine (adv2 T K).bindV ?_
    rintro a0 b0 ⟨f1, f2, p0, -, q0, K0⟩
    have q0 := q0 hk
    have W0 := (ROW.rf u 9 11 17 np σB σM).tok f1 f2
    have T0 := T.rd W0.1 W0.2.1
    rw [W0.1.2.2.1 3 (by omega), r3, W0.2.2.2.2.2.2.2.2.2.1 16 (by omega), hM]
    have H0 : ∀ j, j < np → gA a0 (tx u) 9 j = gA b0 0 26 (6 + j) := fun j hj => by
      rw [W0.2.2.2.2.2.2.2.1 9 j (by omega), W0.2.2.2.2.2.2.2.2.2.2.1 26 (6 + j) (by omega)]
      exact X.pA 9 (by omega) (by omega) j hj
    refine (rdS_sim T0 K0 u 9 26 np c6 (by omega) H0).bindI ?_
    rintro r a1 r' b1 (⟨rfl, rfl, w, rfl, rfl⟩ | ⟨rfl, rfl, w, p1, q1, g1, g2, K1⟩)
    · rw [if_pos rfl, if_pos rfl]
      exact SIM.ret (LO.no W0.1 W0.2.1 K0 w)
    · rw [if_neg (by decide), if_neg (by decide)]
      have W1 := ((W0.w 9 w (by omega)).wM 9 w (by omega) (by omega)).tok g1 g2
      have e2B : gA a1 (tx u) 9 np = w := by
        rw [g1.2.2.1]
        simp only [sA]
        rw [gAe, upd_eq]
      have e2M : gA b1 0 (17 + 9) (6 + np) = w := by
        rw [g2.2.1]
        simp only [sA]
        rw [gAe, upd_eq]
      rw [W1.1.2.2.1 3 (by omega), r3]
      have x6 : ∀ x : St, (∀ k, (k < 7 ∨ 11 < k) → gI x 0 k = gI σM 0 k) → (6 : Int32) + gI x 0 16 = nI (6 + np) := fun x hx => by
        rw [hx 16 (by omega), hM]
        exact nI_add 6 np
      refine num_step (KM := fun z => bI (fX10_number z 0 99) fun r15 σ16 => if r15 = 0 then (some ((0 : Int32), σ16)) else (gd (ixI ((6 : Int32) + (gI σ16 0 16)) 12) (some ((1 : Int32), sI (sA σ16 0 28 (Int32.toNatClampNeg ((6 : Int32) + (gI σ16 0 16))) (gI σ16 0 11)) 0 16 ((gI (sA σ16 0 28 (Int32.toNatClampNeg ((6 : Int32) + (gI σ16 0 16))) (gI σ16 0 11)) 0 16) + (1 : Int32)))))) W1 T K1 10 1 99 8 c6 (by omega) (by omega) (by omega) (by omega) r3 (fun x => by rw [if_pos rfl]; exact gd_pos (by simp)) (fun x => if_pos rfl) (fun x hx => by rw [if_neg (by decide), x6 x hx, gdN (show 6 + np < 12 by omega) (by omega), clN (show 6 + np < 1000000 by omega)]) ?_
      intro a3 b3 v3 p3 W3 K3 q3 l3 m3 x3 y3 z3
      rw [if_neg (by decide), W3.1.2.2.1 3 (by omega), r3]
      refine num_step (KM := fun z => some ((1 : Int32), sI z 0 16 (gI z 0 16 + 1))) W3 T K3 11 0 99 8 c6 (by omega) (by omega) (by omega) (by omega) r3 (fun x => by rw [if_pos rfl]; exact gd_pos (by simp)) (fun x => if_pos rfl) (fun x hx => by rw [if_neg (by decide), x6 x hx, gdN (show 6 + np < 12 by omega) (by omega), clN (show 6 + np < 1000000 by omega)]) ?_
      intro a7 b7 v7 p7 W7 K7 q7 l7 m7 x7 y7 z7
      rw [if_neg (by decide), W7.1.2.2.1 3 (by omega), r3]
      have D2 : gA a7 (tx u) 9 np = gA b7 0 (17 + 9) (6 + np) := by
        rw [(z7 9 (by omega)).1, (z7 9 (by omega)).2, (z3 9 (by omega)).1, (z3 9 (by omega)).2]
        exact e2B.trans e2M.symm
      have B3 : gA a7 (tx u) 10 np = nI v3 ∧ gA b7 0 (17 + 10) (6 + np) = nI v3 := by
        rw [(z7 10 (by omega)).1, (z7 10 (by omega)).2]
        exact ⟨x3, y3⟩
      have XN := X.part W7 c6 (fun k k1 k2 => by
        obtain rfl | rfl | rfl : k = 9 ∨ k = 10 ∨ k = 11 := by omega
        · exact D2
        · exact B3.1.trans B3.2.symm
        · exact x7.trans y7.symm) ⟨v3, l3, m3, B3.2⟩ ⟨v7, l7, m7, y7⟩
      have fB : frRB u σB (sI a7 (tx u) 8 (gI a7 (tx u) 8 + 1)) := W7.1.tr (frRB.wt u a7 8 _)
      have fM : frRM σM (sI b7 0 16 (gI b7 0 16 + 1)) := W7.2.1.tr (frRM.wI b7 _ (by omega))
      obtain ⟨w1, w2, w3, w4, w5, w6, w7, w8, w9, w10, w11, w12⟩ := W7
      have LL : LO u c S p σB σM (1, sI a7 (tx u) 8 (gI a7 (tx u) 8 + 1)) (1, sI b7 0 16 (gI b7 0 16 + 1)) := by
        refine ⟨rfl, fB, fM, Or.inl ⟨rfl, ?_, ?_, ?_, ?_, n, np + 1, p7, ⟨T.rd fB fM, (fB.2.2.1 3 (by omega)).trans r3, XN, ?_, ?_⟩, by omega, K7.cg (fun k _ _ => gIo (by omega)) (fun k _ _ => gIn (by omega))⟩⟩
        · show gI (sI a7 (tx u) 8 (gI a7 (tx u) 8 + 1)) 9 3 = _
          rw [gIo (by omega), w5]
        · show gI (sI b7 0 16 (gI b7 0 16 + 1)) 0 4 = _
          rw [gIn (by omega), w10 4 (by omega)]
        · show gI (sI b7 0 16 (gI b7 0 16 + 1)) 0 5 = _
          rw [gIn (by omega), w10 5 (by omega)]
        · show gI (sI a7 (tx u) 8 (gI a7 (tx u) 8 + 1)) (tx u) 0 = _
          rw [gIn (by omega), w3]
        · obtain ⟨kn, m, s1, s2, s3, s4, s5, s6, s7⟩ := r5
          exact ⟨kn, m, s1, s2, by rw [gIo (by omega), w4]; exact s3, by rw [gIn (by omega), w10 17 (by omega)]; exact s4, by rw [gIo (by omega), w6]; exact s5, by rw [gIn (by omega), w10 40 (by omega)]; exact s6, fun w hw' => by rw [gAI, w7]; exact s7 w hw'⟩
        · obtain ⟨bb, s1, s2, s3⟩ := r6
          exact ⟨bb, s1, by rw [gIo (by omega), w5]; exact s2, fun k hk => by rw [gAI, w12 18 (by omega)]; exact s3 k hk⟩
      rw [gd_pos (by simp)]
      exact SIM.ret LL
  · rw [if_neg (show ¬ nI np < (6 : Int32) from fun z => c6 ((ltN (a := np) (b := 6) (by omega) (by omega)).mp z)), if_pos (show nI np = (6 : Int32) by rw [show np = 6 by omega]; rfl), bIs, bIs, gd00, gd00]
    exact SIM.ret (LO.no (frRB.rf u σB) (frRM.rf σM) K 2)
