def kM (lo hi : Int32) (row n : Nat) (K : St → Option (Int32 × St)) (z : St) : Option (Int32 × St) := bI (fX10_number z lo hi) fun r σ => if r = 0 then some (0, σ) else K (sA σ 0 row (6 + n) (gI σ 0 11))
set_option maxHeartbeats 4000000 in
theorem house_sim {u : Bool} {c : Nat → Nat} {S n np p : Nat} {σB σM : St} (R : RD u c S n np σB σM) (K : TKp S p σB σM) (hk : gI σB 10 3 ≠ 21) : SIM (LO u c S p σB σM) (fX3_readHouse σB) (fX10_houseLine σM) := by
  obtain ⟨T, r3, X, r5, r6⟩ := R
  have t1 := tx_le u
  have t2 := lw_le u
  have n6 := X.n6
  have hB := X.hB
  have hM : gI σM 0 15 = nI n := X.hM
  unfold fX3_readHouse fX10_houseLine
  rw [rdS2, nwG20, rdN3, rdN4, rdN5, rdN6, rdN7, refuse_eq, wrong_eq]
  simp only [lt_eq, jnx1_eq, jnx2_eq]
  rw [r3, hB, hM]
  by_cases c6 : n < 6
  · rw [if_pos (show nI n < (6 : Int32) from (ltN (a := n) (b := 6) (by omega) (by omega)).mpr c6), if_neg (show ¬ nI n = (6 : Int32) from fun z => absurd ((eqN (a := n) (b := 6) (by omega) (by omega)).mp z) (by omega))]
    refine (adv2 T K).bindV ?_
    rintro a0 b0 ⟨f1, f2, p0, -, q0, K0⟩
    have q0 := q0 hk
    have W0 := (ROW.rf u 2 7 18 n σB σM).tok f1 f2
    have T0 := T.rd W0.1 W0.2.1
    rw [W0.1.2.2.1 3 (by omega), r3, W0.2.2.2.2.2.2.2.2.2.1 15 (by omega), hM]
    have H0 : ∀ j, j < n → gA a0 (tx u) 2 j = gA b0 0 20 (6 + j) := fun j hj => by
      rw [W0.2.2.2.2.2.2.2.1 2 j (by omega), W0.2.2.2.2.2.2.2.2.2.2.1 20 (6 + j) (by omega)]
      exact X.hA 2 (by omega) (by omega) j hj
    refine (rdS_sim T0 K0 u 2 20 n c6 (by omega) H0).bindI ?_
    rintro r a1 r' b1 (⟨rfl, rfl, w, rfl, rfl⟩ | ⟨rfl, rfl, w, p1, q1, g1, g2, K1⟩)
    · rw [if_pos rfl, if_pos rfl]
      exact SIM.ret (LO.no W0.1 W0.2.1 K0 w)
    · rw [if_neg (by decide), if_neg (by decide)]
      have W1 := ((W0.w 2 w (by omega)).wM 2 w (by omega) (by omega)).tok g1 g2
      have e2B : gA a1 (tx u) 2 n = w := by
        rw [g1.2.2.1]
        simp only [sA]
        rw [gAe, upd_eq]
      have e2M : gA b1 0 (18 + 2) (6 + n) = w := by
        rw [g2.2.1]
        simp only [sA]
        rw [gAe, upd_eq]
      rw [W1.1.2.2.1 3 (by omega), r3, W1.2.2.2.2.2.2.2.2.2.1 15 (by omega), hM, show (6 : Int32) + nI n = nI (6 + n) from nI_add 6 n]
      simp only [gdN (show 6 + n < 12 by omega) (show 12 ≤ 1000000 by omega), clN (show 6 + n < 1000000 by omega)]
      refine num_step (KM := (kM 0 999 22 n (kM 1 99 23 n (kM 0 99 24 n (kM 0 9 25 n (fun z => some ((1 : Int32), sI z 0 15 (gI z 0 15 + 1)))))))) W1 T K1 3 0 999 1 c6 (by omega) (by omega) (by omega) (by omega) r3 (fun x => by rw [if_pos rfl]; exact gd_pos (by simp)) (fun x => if_pos rfl) (fun x _ => if_neg (by decide)) ?_
      intro a3 b3 v3 p3 W3 K3 q3 l3 m3 x3 y3 z3
      rw [if_neg (by decide), W3.1.2.2.1 3 (by omega), r3]
      refine num_step (KM := (kM 1 99 23 n (kM 0 99 24 n (kM 0 9 25 n (fun z => some ((1 : Int32), sI z 0 15 (gI z 0 15 + 1))))))) W3 T K3 4 0 999 1 c6 (by omega) (by omega) (by omega) (by omega) r3 (fun x => by rw [if_pos rfl]; exact gd_pos (by simp)) (fun x => if_pos rfl) (fun x _ => if_neg (by decide)) ?_
      intro a4 b4 v4 p4 W4 K4 q4 l4 m4 x4 y4 z4
      rw [if_neg (by decide), W4.1.2.2.1 3 (by omega), r3]
      refine num_step (KM := (kM 0 99 24 n (kM 0 9 25 n (fun z => some ((1 : Int32), sI z 0 15 (gI z 0 15 + 1)))))) W4 T K4 5 1 99 1 c6 (by omega) (by omega) (by omega) (by omega) r3 (fun x => by rw [if_pos rfl]; exact gd_pos (by simp)) (fun x => if_pos rfl) (fun x _ => if_neg (by decide)) ?_
      intro a5 b5 v5 p5 W5 K5 q5 l5 m5 x5 y5 z5
      rw [if_neg (by decide), W5.1.2.2.1 3 (by omega), r3]
      refine num_step (KM := (kM 0 9 25 n (fun z => some ((1 : Int32), sI z 0 15 (gI z 0 15 + 1))))) W5 T K5 6 0 99 1 c6 (by omega) (by omega) (by omega) (by omega) r3 (fun x => by rw [if_pos rfl]; exact gd_pos (by simp)) (fun x => if_pos rfl) (fun x _ => if_neg (by decide)) ?_
      intro a6 b6 v6 p6 W6 K6 q6 l6 m6 x6 y6 z6
      rw [if_neg (by decide), W6.1.2.2.1 3 (by omega), r3]
      refine num_step (KM := (fun z => some ((1 : Int32), sI z 0 15 (gI z 0 15 + 1)))) W6 T K6 7 0 9 1 c6 (by omega) (by omega) (by omega) (by omega) r3 (fun x => by rw [if_pos rfl]; exact gd_pos (by simp)) (fun x => if_pos rfl) (fun x _ => if_neg (by decide)) ?_
      intro a7 b7 v7 p7 W7 K7 q7 l7 m7 x7 y7 z7
      rw [if_neg (by decide), W7.1.2.2.1 3 (by omega), r3]
      have D2 : gA a7 (tx u) 2 n = gA b7 0 (18 + 2) (6 + n) := by
        rw [(z7 2 (by omega)).1, (z7 2 (by omega)).2, (z6 2 (by omega)).1, (z6 2 (by omega)).2, (z5 2 (by omega)).1, (z5 2 (by omega)).2, (z4 2 (by omega)).1, (z4 2 (by omega)).2, (z3 2 (by omega)).1, (z3 2 (by omega)).2]
        exact e2B.trans e2M.symm
      have B3 : gA a7 (tx u) 3 n = nI v3 ∧ gA b7 0 (18 + 3) (6 + n) = nI v3 := by
        rw [(z7 3 (by omega)).1, (z7 3 (by omega)).2, (z6 3 (by omega)).1, (z6 3 (by omega)).2, (z5 3 (by omega)).1, (z5 3 (by omega)).2, (z4 3 (by omega)).1, (z4 3 (by omega)).2]
        exact ⟨x3, y3⟩
      have B4 : gA a7 (tx u) 4 n = nI v4 ∧ gA b7 0 (18 + 4) (6 + n) = nI v4 := by
        rw [(z7 4 (by omega)).1, (z7 4 (by omega)).2, (z6 4 (by omega)).1, (z6 4 (by omega)).2, (z5 4 (by omega)).1, (z5 4 (by omega)).2]
        exact ⟨x4, y4⟩
      have B5 : gA a7 (tx u) 5 n = nI v5 ∧ gA b7 0 (18 + 5) (6 + n) = nI v5 := by
        rw [(z7 5 (by omega)).1, (z7 5 (by omega)).2, (z6 5 (by omega)).1, (z6 5 (by omega)).2]
        exact ⟨x5, y5⟩
      have B6 : gA a7 (tx u) 6 n = nI v6 ∧ gA b7 0 (18 + 6) (6 + n) = nI v6 := by
        rw [(z7 6 (by omega)).1, (z7 6 (by omega)).2]
        exact ⟨x6, y6⟩
      have XN := X.house W7 c6 (fun k k1 k2 => by
        obtain rfl | rfl | rfl | rfl | rfl | rfl : k = 2 ∨ k = 3 ∨ k = 4 ∨ k = 5 ∨ k = 6 ∨ k = 7 := by omega
        · exact D2
        · exact B3.1.trans B3.2.symm
        · exact B4.1.trans B4.2.symm
        · exact B5.1.trans B5.2.symm
        · exact B6.1.trans B6.2.symm
        · exact x7.trans y7.symm) ⟨v3, l3, m3, B3.2⟩ ⟨v4, l4, m4, B4.2⟩ ⟨v5, l5, m5, B5.2⟩ ⟨v6, l6, m6, B6.2⟩ ⟨v7, l7, m7, y7⟩
      have fB : frRB u σB (sI a7 (tx u) 1 (gI a7 (tx u) 1 + 1)) := W7.1.tr (frRB.wt u a7 1 _)
      have fM : frRM σM (sI b7 0 15 (gI b7 0 15 + 1)) := W7.2.1.tr (frRM.wI b7 _ (by omega))
      obtain ⟨w1, w2, w3, w4, w5, w6, w7, w8, w9, w10, w11, w12⟩ := W7
      have LL : LO u c S p σB σM (1, sI a7 (tx u) 1 (gI a7 (tx u) 1 + 1)) (1, sI b7 0 15 (gI b7 0 15 + 1)) := by
        refine ⟨rfl, fB, fM, Or.inl ⟨rfl, ?_, ?_, ?_, ?_, n + 1, np, p7, ⟨T.rd fB fM, (fB.2.2.1 3 (by omega)).trans r3, XN, ?_, ?_⟩, by omega, K7.cg (fun k _ _ => gIo (by omega)) (fun k _ _ => gIn (by omega))⟩⟩
        · show gI (sI a7 (tx u) 1 (gI a7 (tx u) 1 + 1)) 9 3 = _
          rw [gIo (by omega), w5]
        · show gI (sI b7 0 15 (gI b7 0 15 + 1)) 0 4 = _
          rw [gIn (by omega), w10 4 (by omega)]
        · show gI (sI b7 0 15 (gI b7 0 15 + 1)) 0 5 = _
          rw [gIn (by omega), w10 5 (by omega)]
        · show gI (sI a7 (tx u) 1 (gI a7 (tx u) 1 + 1)) (tx u) 0 = _
          rw [gIn (by omega), w3]
        · obtain ⟨kn, m, s1, s2, s3, s4, s5, s6, s7⟩ := r5
          exact ⟨kn, m, s1, s2, by rw [gIo (by omega), w4]; exact s3, by rw [gIn (by omega), w10 17 (by omega)]; exact s4, by rw [gIo (by omega), w6]; exact s5, by rw [gIn (by omega), w10 40 (by omega)]; exact s6, fun w hw' => by rw [gAI, w7]; exact s7 w hw'⟩
        · obtain ⟨bb, s1, s2, s3⟩ := r6
          exact ⟨bb, s1, by rw [gIo (by omega), w5]; exact s2, fun k hk => by rw [gAI, w12 18 (by omega)]; exact s3 k hk⟩
      rw [gd_pos (by simp)]
      exact SIM.ret LL
  · rw [if_neg (show ¬ nI n < (6 : Int32) from fun z => c6 ((ltN (a := n) (b := 6) (by omega) (by omega)).mp z)), if_pos (show nI n = (6 : Int32) by rw [show n = 6 by omega]; rfl), bIs, bIs, gd00, gd00]
    exact SIM.ret (LO.no (frRB.rf u σB) (frRM.rf σM) K 2)
