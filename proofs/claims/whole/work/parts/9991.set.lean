theorem bIV {β : Type} (x : Option St) (r : Int32) (K : Int32 → St → Option β) : bI (bV x fun s => some (r, s)) K = bV x fun s => K r s := by cases x <;> rfl
set_option maxHeartbeats 4000000 in
theorem set_sim {u : Bool} {c : Nat → Nat} {S n np p j : Nat} {σB σM : St} (hj : j < 3) (R : RD u c S n np σB σM) (K : TKp S p σB σM) (hk : gI σB 10 3 ≠ 21) : SIM (LO u c S p σB σM) (fX3_readSetting σB (nI (2 + j))) (fX10_onceLine σM (nI j) (nI (olo j)) (nI (ohi j))) := by
  obtain ⟨T, r3, X, r5, bb, r6, r7, r8⟩ := R
  have t1 := tx_le u
  have t2 := lw_le u
  obtain ⟨s1, s2, s3⟩ := sbit bb r6 j hj
  have hb := holds_bit bb (by omega) (2 + j) (by omega)
  unfold fX3_readSetting fX10_onceLine
  rw [refuse_eq, wrong_eq, r7, gdN hj (by omega), gdN hj (by omega), clN (show j < 1000000 by omega), r8 j hj]
  simp only [lt_eq, jnx1_eq]
  by_cases c1 : bb.testBit (2 + j) = true
  · rw [if_pos (hb.mpr c1), if_neg (show ¬ (if bb.testBit (2 + j) = true then (1 : Int32) else 0) = 0 by rw [if_pos c1]; decide), bIs, bIs, gd00, gd00]
    exact SIM.ret (LO.no (frRB.rf u σB) (frRM.rf σM) K 3)
  · rw [if_neg (fun z => c1 (hb.mp z)), if_pos (show (if bb.testBit (2 + j) = true then (1 : Int32) else 0) = 0 by rw [if_neg c1]), s2, nar1]
    have T1 : TC c S (sI σB 9 4 (nI (bb ||| 2 ^ (2 + j)))) (sA σM 0 18 j 1) := T.rd (frRB.w9 u σB 4 _) (frRM.wA σM _ (by omega))
    have K1 : TKp S p (sI σB 9 4 (nI (bb ||| 2 ^ (2 + j)))) (sA σM 0 18 j 1) := K.cg (fun k _ _ => gIo (by omega)) (fun k _ _ => rfl)
    refine (adv2 T1 K1).bindV ?_
    rintro a b ⟨f1, f2, p1, -, q1, K2⟩
    have q1 := q1 (by rw [gIo (by omega)]; exact hk)
    have fB := (frRB.w9 u σB 4 (nI (bb ||| 2 ^ (2 + j)))).tr (f1.up u)
    have fM := (frRM.wA σM (k := 18) (j := j) 1 (by omega)).tr f2.up
    have T2 := T.rd fB fM
    have most : fX3_mostOfSetting a (nI (2 + j)) = some (nI (ohi j)) := by
      obtain rfl | rfl | rfl : j = 0 ∨ j = 1 ∨ j = 2 := by omega
      all_goals rfl
    have hl : (if nI (2 + j) = (2 : Int32) then (1 : Int32) else 0) = nI (olo j) := by
      obtain rfl | rfl | rfl : j = 0 ∨ j = 1 ∨ j = 2 := by omega
      all_goals rfl
    have ob : olo j ≤ ohi j ∧ ohi j ≤ 99999 := by
      obtain rfl | rfl | rfl : j = 0 ∨ j = 1 ∨ j = 2 := by omega
      all_goals decide
    have key : SIM (LO u c S p σB σM) (bI (fX3_isNumber a (nI (olo j)) (nI (ohi j))) fun r10 σ11 => if r10 = 0 then (some ((0 : Int32), σ11)) else (bV (fX7_advance (sI σ11 (tx (gR σ11 3)) (12 + j) (gI σ11 10 5))) fun σ16 => some ((1 : Int32), σ16))) (bI (fX10_number b (nI (olo j)) (nI (ohi j))) fun r8 σ9 => if r8 = 0 then (some ((0 : Int32), σ9)) else (gd (ixI ((3 : Int32) + nI j) 6) (some ((1 : Int32), sA σ9 0 19 (Int32.toNatClampNeg ((3 : Int32) + nI j)) (gI σ9 0 11))))) := by
      rcases isNum_sim T2 K2 (olo j) (ohi j) ob.1 ob.2 with ⟨w, e1, e2⟩ | ⟨e0, v, v1, v2, v3, v4, e1, e2⟩
      · rw [e1, e2, bIs, bIs, if_pos rfl, if_pos rfl]
        exact SIM.ret (LO.no fB fM K2 w)
      · have gu : gR a 3 = u := (fB.2.2.1 3 (by omega)).trans r3
        rw [e1, e2, bIs, bIV, if_neg (by decide), gu, v3]
        have fB3 := fB.tr (frRB.wt u a (12 + j) (nI v))
        have fM3 := fM.tr (frRM.wI b (k := 11) (nI v) (by omega))
        have T3 := T.rd fB3 fM3
        have K3 : TKp S p1 (sI a (tx u) (12 + j) (nI v)) (sI b 0 11 (nI v)) := K2.cg (fun k _ _ => gIo (by omega)) (fun k _ _ => gIn (by omega))
        refine (adv2 T3 K3).bindV ?_
        rintro a' b' ⟨h1, h2, p2, q2, -, K4⟩
        have g11 : gI b' 0 11 = nI v := by rw [h2.1 11 (by omega), gIe]
        rw [if_neg (by decide), show (3 : Int32) + nI j = nI (3 + j) from nI_add 3 j, gdN (show 3 + j < 6 by omega) (by omega), clN (show 3 + j < 1000000 by omega), g11]
        have fB4 := fB3.tr (h1.up u)
        have fM4 := (fM3.tr h2.up).tr (frRM.wA b' (k := 19) (j := 3 + j) (nI v) (by have : hw 19 = 3 := rfl; omega))
        have XN : TX u n np a' (hf (sA b' 0 19 (3 + j) (nI v))) := by
          refine X.once hj ⟨v1, v2⟩ (fun k hk => ?_) ?_ ?_ ?_ ?_ (fun k k1 k2 => ?_) (fun k hk => ?_) (fun i hi => ?_) ?_
          · rw [h1.1 _ (by omega), gIn hk, f1.1 _ (by omega), gIo (by omega)]
          · rw [h1.1 _ (by omega), gIe]
          · rw [h1.1 _ (by omega), gIo (by omega), f1.1 _ (by omega), gIo (by omega)]
          · rw [h1.2.2.1, gAI, f1.2.2.1, gAI]
          · rw [h1.2.2.1, gAI, f1.2.2.1, gAI]
          · show gI b' 0 k = _
            rw [h2.1 k (by omega), gIn (by omega), f2.1 k (by omega)]
            rfl
          · simp only [sA]
            rw [gAn (by omega), h2.2.1, gAI, f2.2.1]
            simp only [sA]
            rw [gAn (by omega)]
          · simp only [sA]
            rw [gAe, upd_ne hi, h2.2.1, gAI, f2.2.1]
            simp only [sA]
            rw [gAn (by omega)]
          · simp only [sA]
            rw [gAe, upd_eq]
        refine SIM.ret ⟨rfl, fB4, fM4, Or.inl ⟨rfl, ?_, ?_, ?_, ?_, n, np, p2, ⟨T.rd fB4 fM4, (fB4.2.2.1 3 (by omega)).trans r3, XN, ?_, bb ||| 2 ^ (2 + j), s1, ?_, fun k hk => ?_⟩, by omega, K4.cg (fun _ _ _ => rfl) (fun _ _ _ => rfl)⟩⟩
        · show gI a' 9 3 = _
          rw [h1.1 _ (by omega), gIo (by omega), f1.1 _ (by omega), gIn (by omega)]
        · show gI b' 0 4 = _
          rw [h2.1 4 (by omega), gIn (by omega), f2.1 4 (by omega)]
          rfl
        · show gI b' 0 5 = _
          rw [h2.1 5 (by omega), gIn (by omega), f2.1 5 (by omega)]
          rfl
        · show gI a' (tx u) 0 = _
          rw [h1.1 _ (by omega), gIn (by omega), f1.1 _ (by omega), gIo (by omega)]
        · obtain ⟨kn, m, d1, d2, d3, d4, d5, d6, d7⟩ := r5
          refine ⟨kn, m, d1, d2, ?_, ?_, ?_, ?_, fun w hw' => ?_⟩
          · rw [h1.1 _ (by omega), gIo (by omega), f1.1 _ (by omega), gIo (by omega)]; exact d3
          · show gI b' 0 17 = _
            rw [h2.1 17 (by omega), gIn (by omega), f2.1 17 (by omega)]; exact d4
          · rw [h1.1 _ (by omega), gIo (by omega), f1.1 _ (by omega), gIo (by omega)]; exact d5
          · show gI b' 0 40 = _
            rw [h2.1 40 (by omega), gIn (by omega), f2.1 40 (by omega)]; exact d6
          · rw [h1.2.2.1, gAI, f1.2.2.1, gAI]; exact d7 w hw'
        · rw [h1.1 _ (by omega), gIo (by omega), f1.1 _ (by omega), gIe]
        · simp only [sA]
          rw [gAn (by omega), h2.2.1, gAI, f2.2.1]
          simp only [sA]
          rw [gAe, s3 k hk]
          by_cases q : k = j
          · subst q
            rw [upd_eq, if_pos (by simp)]
          · rw [upd_ne q, r8 k hk, show Nat.beq k j = false from (by cases e : Nat.beq k j with | true => exact absurd (Nat.eq_of_beq_eq_true e) q | false => rfl), Bool.or_false]
    rw [most]
    obtain rfl | rfl | rfl : j = 0 ∨ j = 1 ∨ j = 2 := by omega
    all_goals
      simp (decide := true) only [if_true, if_false, bS]
      exact key
