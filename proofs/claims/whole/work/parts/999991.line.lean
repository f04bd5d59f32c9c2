/-! A LINE, both sides -/
def lnT (x9 : Int32) (σ10 : St) : Option (Int32 × St) :=
  if x9 = 0 then (some ((0 : Int32), σ10)) else (Option.bind (fX10_isSign σ10 (59 : Int32)) fun r14 => if r14 = 0 then (bI (fX10_wrong σ10 (1 : Int32)) fun r19 σ20 => gd (r19 = 0 ∨ r19 = 1) (some (r19, σ20))) else (bV (fX10_token σ10) fun σ17 => some ((1 : Int32), σ17)))
def lnW (σ : St) : Option (Int32 × St) := bI (fX10_wrong σ (1 : Int32)) fun r3 σ4 => gd (r3 = 0 ∨ r3 = 1) (some (r3, σ4))
theorem lineRead_eq (σ : St) : fX10_lineRead σ = if (gI σ 0 8) = (1 : Int32) then (if (gI σ 0 9) ≤ (5 : Int32) then (if (gI σ 0 9) = (0 : Int32) then (bI (fX10_houseLine σ) lnT) else (if (gI σ 0 9) = (1 : Int32) then (bI (fX10_partLine σ) lnT) else (if (gI σ 0 9) = (2 : Int32) then (bI (fX10_onceLine σ (0 : Int32) (1 : Int32) (20 : Int32)) lnT) else (if (gI σ 0 9) = (3 : Int32) then (bI (fX10_onceLine σ (1 : Int32) (0 : Int32) (999 : Int32)) lnT) else (if (gI σ 0 9) = (4 : Int32) then (bI (fX10_onceLine σ (2 : Int32) (0 : Int32) (99999 : Int32)) lnT) else (lwK lnT σ)))))) else (lnW σ)) else (lnW σ) := rfl
def LE (u : Bool) (c : Nat → Nat) (S p : Nat) (σB σM : St) (z z' : Int32 × St) : Prop := z.1 = z'.1 ∧ frRB u σB z.2 ∧ frRM σM z'.2 ∧ ((z.1 = 1 ∧ gI z'.2 0 4 = gI σM 0 4 ∧ gI z'.2 0 5 = gI σM 0 5 ∧ gI z.2 (tx u) 0 = gI σB (tx u) 0 + 1 ∧ ∃ n' np' p', RD u c S n' np' z.2 z'.2 ∧ p < p' ∧ TKp S p' z.2 z'.2) ∨ (z.1 = 0 ∧ gI z.2 9 3 = gI z'.2 0 4 ∧ gI z.2 10 4 = gI z'.2 0 5))
def clE (X : Option (Int32 × St)) (K : St → Option (Int32 × St)) : Option (Int32 × St) :=
  bI X fun r18 σ19 => if r18 = 0 then some ((0 : Int32), σ19) else (bI (fX3_endLine σ19) fun r24 σ25 => if r24 = 0 then some ((0 : Int32), σ25) else K σ25)
theorem TX.w0 {u : Bool} {n np : Nat} {a b : St} (x : Int32) (X : TX u n np a b) : TX u n np (sI a (tx u) 0 x) b := by
  have t1 := tx_le u
  have t2 := lw_le u
  obtain ⟨g1, g2, g3, g4, g5, g6, g7, g8, g9, g10, g11, g12⟩ := X
  exact ⟨g1, g2, by rw [gIn (by omega)]; exact g3, g4, by rw [gIn (by omega)]; exact g5, g6, by rw [gIo (by omega)]; exact g7, g8, g9, fun k hk => by rw [gIn (by omega)]; exact g10 k hk, g11, g12⟩
theorem RD.w0 {u : Bool} {c : Nat → Nat} {S n np : Nat} {a b : St} (x : Int32) (R : RD u c S n np a b) : RD u c S n np (sI a (tx u) 0 x) b := by
  have t1 := tx_le u
  have t2 := lw_le u
  obtain ⟨T, r3, X, ⟨kn, m, s1, s2, s3, s4, s5, s6, s7⟩, bb, r6, r7, r8⟩ := R
  exact ⟨T.rd (frRB.wt u a 0 x) (frRM.rf b), r3, X.w0 x, ⟨kn, m, s1, s2, by rw [gIo (by omega)]; exact s3, s4, by rw [gIo (by omega)]; exact s5, s6, s7⟩, bb, r6, by rw [gIo (by omega)]; exact r7, r8⟩
theorem RD.tok {u : Bool} {c : Nat → Nat} {S n np : Nat} {a b a' b' : St} (R : RD u c S n np a b) (h1 : frT a a') (h2 : frU b b') : RD u c S n np a' b' := by
  have t1 := tx_le u
  have t2 := lw_le u
  obtain ⟨T, r3, X, ⟨kn, m, s1, s2, s3, s4, s5, s6, s7⟩, bb, r6, r7, r8⟩ := R
  refine ⟨T.rd (h1.up u) h2.up, by rw [h1.2.2.2]; exact r3, ?_, ⟨kn, m, s1, s2, by rw [h1.1 _ (by omega)]; exact s3, by rw [h2.1 17 (by omega)]; exact s4, by rw [h1.1 _ (by omega)]; exact s5, by rw [h2.1 40 (by omega)]; exact s6, by rw [h1.2.2.1]; exact s7⟩, bb, r6, by rw [h1.1 _ (by omega)]; exact r7, by rw [h2.2.1]; exact r8⟩
  refine X.cg (h1.1 _ (by omega)) (by rw [h1.1 _ (by omega)]) (by rw [h1.2.2.1]) (by rw [h1.2.2.1]) (fun k k1 k2 => ?_) (fun k k1 k2 => ?_)
  · obtain rfl | rfl | rfl : k = 12 ∨ k = 13 ∨ k = 14 := by omega
    · exact h2.1 15 (by omega)
    · exact h2.1 16 (by omega)
    · exact h2.1 17 (by omega)
  · funext i
    show gA b' 0 k (hw k + i) = gA b 0 k (hw k + i)
    rw [h2.2.1]
/-- the end of a line -/
theorem line_fin {u : Bool} {c : Nat → Nat} {S p : Nat} {σB σM : St} {q q' : Int32 × St} (L : LO u c S p σB σM q q') : ∃ z z', (∀ K, clE (some q) K = if z.1 = 0 then some ((0 : Int32), z.2) else K z.2) ∧ lnT q'.1 q'.2 = some z' ∧ LE u c S p σB σM z z' := by
  have t1 := tx_le u
  have t2 := lw_le u
  have z0 : (0 : Int32) = 0 := rfl
  have z1 : ¬ (1 : Int32) = 0 := by decide
  obtain ⟨r, x⟩ := q
  obtain ⟨r', y⟩ := q'
  obtain ⟨l1, l2, l3, l4⟩ := L
  have l1 : r = r' := l1
  have l2 : frRB u σB x := l2
  have l3 : frRM σM y := l3
  subst l1
  unfold clE lnT
  rcases l4 with ⟨k1, k2, k3, k4, k5, n', np', p', R, hp, K⟩ | ⟨k1, k2, k3⟩
  · have k1 : r = 1 := k1
    have k3 : gI y 0 4 = gI σM 0 4 := k3
    have k4 : gI y 0 5 = gI σM 0 5 := k4
    have k5 : gI x (tx u) 0 = gI σB (tx u) 0 := k5
    have R : RD u c S n' np' x y := R
    have K : TKp S p' x y := K
    subst k1
    obtain ⟨tk, ha, e1, c1, -⟩ := K.cls
    have s59 : fX10_isSign y (59 : Int32) = some (if tk = 23 then 1 else 0) := c1 59 23 (by unfold sgs; omega)
    show ∃ z z', (∀ K : St → Option (Int32 × St), (bI (some ((1 : Int32), x)) fun r18 σ19 => if r18 = 0 then some ((0 : Int32), σ19) else (bI (fX3_endLine σ19) fun r24 σ25 => if r24 = 0 then some ((0 : Int32), σ25) else K σ25)) = if z.1 = 0 then some ((0 : Int32), z.2) else K z.2) ∧ (if (1 : Int32) = 0 then (some ((0 : Int32), y)) else (Option.bind (fX10_isSign y (59 : Int32)) fun r14 => if r14 = 0 then (bI (fX10_wrong y (1 : Int32)) fun r19 σ20 => gd (r19 = 0 ∨ r19 = 1) (some (r19, σ20))) else (bV (fX10_token y) fun σ17 => some ((1 : Int32), σ17)))) = some z' ∧ LE u c S p σB σM z z'
    rw [if_neg z1, s59, bS]
    by_cases d : tk = 23
    · rw [if_pos d, if_neg z1]
      obtain ⟨a2, b2, eA, eB, h1, h2, p2, q1, -, K2⟩ := adv2 R.1 K
      have gu : gR a2 3 = u := by rw [h1.2.2.2]; exact R.2.1
      have eE : fX3_endLine x = some (1, sI a2 (tx u) 0 (gI a2 (tx u) 0 + 1)) := by
        unfold fX3_endLine
        rw [if_pos (show gI x 10 3 = (23 : Int32) by rw [e1, d]; rfl), eA, bVs, lt_eq, gu]
      rw [eB, bVs]
      refine ⟨(1, sI a2 (tx u) 0 (gI a2 (tx u) 0 + 1)), (1, b2), fun K' => ?_, rfl, rfl, l2.tr ((h1.up u).tr (frRB.wt u a2 0 _)), l3.tr h2.up, Or.inl ⟨rfl, ?_, ?_, ?_, n', np', p2, (R.tok h1 h2).w0 _, by omega, K2.cg (fun k _ _ => gIo (by omega)) (fun _ _ _ => rfl)⟩⟩
      · rw [bIs, if_neg z1, eE, bIs, if_neg z1]
      · show gI b2 0 4 = _
        rw [h2.1 4 (by omega), k3]
      · show gI b2 0 5 = _
        rw [h2.1 5 (by omega), k4]
      · show gI (sI a2 (tx u) 0 (gI a2 (tx u) 0 + 1)) (tx u) 0 = _
        rw [gIe, h1.1 _ (by omega), k5]
    · rw [if_neg d, if_pos z0, wrong_eq, bIs, gd00]
      have eE : fX3_endLine x = some (0, sI x 9 3 1) := by
        unfold fX3_endLine
        rw [if_neg (show ¬ gI x 10 3 = (23 : Int32) from fun z => d (by rw [e1] at z; exact (eqN (a := tk) (b := 23) (by omega) (by omega)).mp z)), refuse_eq, bIs, gd00]
      obtain ⟨m1, m2, m3, m4⟩ := LO.no (c := c) (p := p) l2 l3 K 1
      refine ⟨(0, sI x 9 3 1), (0, _), fun K' => ?_, rfl, rfl, m2, m3, ?_⟩
      · rw [bIs, if_neg z1, eE, bIs, if_pos z0]
      · rcases m4 with ⟨m4, -⟩ | m4
        · exact absurd (show (0 : Int32) = 1 from m4) (by decide)
        · exact Or.inr m4
  · have k1 : r = 0 := k1
    subst k1
    refine ⟨(0, x), (0, y), fun K' => ?_, ?_, rfl, l2, l3, Or.inr ⟨rfl, k2, k3⟩⟩
    · rw [bIs, if_pos z0, if_pos z0]
    · rw [if_pos z0]
theorem gdr {β : Type} {r : Int32} (h : r = 1 ∨ r = 0) (x : Option β) : gd (r = 0 ∨ r = 1) x = x := gd_pos (by rcases h with rfl | rfl <;> simp)
theorem LO.bit {u : Bool} {c : Nat → Nat} {S p : Nat} {σB σM : St} {q q' : Int32 × St} (L : LO u c S p σB σM q q') : q.1 = 1 ∨ q.1 = 0 := by
  obtain ⟨-, -, -, ⟨h, -⟩ | ⟨h, -⟩⟩ := L
  · exact Or.inl h
  · exact Or.inr h
theorem line_sim {u : Bool} {c : Nat → Nat} {S n np p : Nat} {σB σM : St} (R : RD u c S n np σB σM) (K : TKp S p σB σM) (hk : gI σB 10 3 ≠ 21) : ∃ z z', (∀ K, clE (fX3_readLine σB) K = if z.1 = 0 then some ((0 : Int32), z.2) else K z.2) ∧ fX10_lineRead σM = some z' ∧ LE u c S p σB σM z z' := by
  have z0 : (0 : Int32) = 0 := rfl
  obtain ⟨tk, ha, e1, c1, c2, c3, c4, c5, c6, c7, c8, c9, c10⟩ := K.cls
  have nn : ∀ j, j < 36 → tk ≠ j → ¬ nI tk = nI j := fun j hj h z => h ((eqN (by omega) (by omega)).mp z)
  have eC : fX3_readLine σB = if nI tk = (0 : Int32) then (bI (fX3_readHouse σB) fun r9 σ10 => gd (r9 = 0 ∨ r9 = 1) (some (r9, σ10))) else (if nI tk = (1 : Int32) then (bI (fX3_readPart σB) fun r14 σ15 => gd (r14 = 0 ∨ r14 = 1) (some (r14, σ15))) else (if nI tk = (2 : Int32) then (bI (fX3_readSetting σB (nI tk)) fun r4 σ5 => gd (r4 = 0 ∨ r4 = 1) (some (r4, σ5))) else (if nI tk = (3 : Int32) then (bI (fX3_readSetting σB (nI tk)) fun r4 σ5 => gd (r4 = 0 ∨ r4 = 1) (some (r4, σ5))) else (if nI tk = (4 : Int32) then (bI (fX3_readSetting σB (nI tk)) fun r4 σ5 => gd (r4 = 0 ∨ r4 = 1) (some (r4, σ5))) else (if nI tk = (5 : Int32) then (bI (fX3_readLaw σB) fun r22 σ23 => gd (r22 = 0 ∨ r22 = 1) (some (r22, σ23))) else (bI (fX3_refuse σB (1 : Int32)) fun r26 σ27 => gd (r26 = 0 ∨ r26 = 1) (some (r26, σ27)))))))) := by
    rw [← e1]
    rfl
  rw [eC, lineRead_eq]
  by_cases d5 : tk ≤ 5
  · have sw : swp tk = tk := by unfold swp; rw [if_neg (by omega), if_neg (by omega)]
    have k9 := c8 (by omega)
    rw [sw] at k9
    rw [if_pos (c7.mpr (by omega)), k9, if_pos (show nI tk ≤ (5 : Int32) from (leN (a := tk) (b := 5) (by omega) (by omega)).mpr d5)]
    have one : ∀ {X Y : Option (Int32 × St)}, SIM (LO u c S p σB σM) X Y → ∃ z z', (∀ K, clE (bI X fun r4 σ5 => gd (r4 = 0 ∨ r4 = 1) (some (r4, σ5))) K = if z.1 = 0 then some ((0 : Int32), z.2) else K z.2) ∧ bI Y lnT = some z' ∧ LE u c S p σB σM z z' := by
      rintro X Y ⟨⟨r, x⟩, ⟨r', y⟩, rfl, rfl, L⟩
      rw [bIs, bIs, gdr L.bit]
      exact line_fin L
    by_cases d0 : tk = 0
    · rw [if_pos (show nI tk = (0 : Int32) by rw [d0]; rfl), if_pos (show nI tk = (0 : Int32) by rw [d0]; rfl)]
      exact one (house_sim R K hk)
    · rw [if_neg (show ¬ nI tk = (0 : Int32) from nn 0 (by omega) d0), if_neg (show ¬ nI tk = (0 : Int32) from nn 0 (by omega) d0)]
      by_cases d1 : tk = 1
      · rw [if_pos (show nI tk = (1 : Int32) by rw [d1]; rfl), if_pos (show nI tk = (1 : Int32) by rw [d1]; rfl)]
        exact one (part_sim R K hk)
      · rw [if_neg (show ¬ nI tk = (1 : Int32) from nn 1 (by omega) d1), if_neg (show ¬ nI tk = (1 : Int32) from nn 1 (by omega) d1)]
        by_cases d2 : tk = 2
        · rw [if_pos (show nI tk = (2 : Int32) by rw [d2]; rfl), if_pos (show nI tk = (2 : Int32) by rw [d2]; rfl), d2]
          exact one (set_sim (j := 0) (by omega) R K hk)
        · rw [if_neg (show ¬ nI tk = (2 : Int32) from nn 2 (by omega) d2), if_neg (show ¬ nI tk = (2 : Int32) from nn 2 (by omega) d2)]
          by_cases d3 : tk = 3
          · rw [if_pos (show nI tk = (3 : Int32) by rw [d3]; rfl), if_pos (show nI tk = (3 : Int32) by rw [d3]; rfl), d3]
            exact one (set_sim (j := 1) (by omega) R K hk)
          · rw [if_neg (show ¬ nI tk = (3 : Int32) from nn 3 (by omega) d3), if_neg (show ¬ nI tk = (3 : Int32) from nn 3 (by omega) d3)]
            by_cases d4 : tk = 4
            · rw [if_pos (show nI tk = (4 : Int32) by rw [d4]; rfl), if_pos (show nI tk = (4 : Int32) by rw [d4]; rfl), d4]
              exact one (set_sim (j := 2) (by omega) R K hk)
            · rw [if_neg (show ¬ nI tk = (4 : Int32) from nn 4 (by omega) d4), if_neg (show ¬ nI tk = (4 : Int32) from nn 4 (by omega) d4), if_pos (show nI tk = (5 : Int32) by rw [show tk = 5 by omega]; rfl)]
              obtain ⟨⟨r, x⟩, q', eL, eM, L⟩ := law_sim (KK := lnT) R K hk (fun x => by unfold lnT; rw [if_pos z0])
              rw [eL, bIs, gdr L.bit, eM]
              exact line_fin L
  · have eM : (if (gI σM 0 8) = (1 : Int32) then (if (gI σM 0 9) ≤ (5 : Int32) then (0 : Nat) else 1) else 1) = 1 := by
      by_cases q : tk < 19
      · have hs := swp_lt tk q
        have hs6 : ¬ swp tk ≤ 5 := by
          unfold swp
          (repeat' split) <;> omega
        rw [if_pos (c7.mpr q), c8 q, if_neg (show ¬ nI (swp tk) ≤ (5 : Int32) from fun z => hs6 ((leN (a := swp tk) (b := 5) (by omega) (by omega)).mp z))]
      · rw [if_neg (fun z => q (c7.mp z))]
    have eJ : ∀ (E J : Option (Int32 × St)), (if (gI σM 0 8) = (1 : Int32) then (if (gI σM 0 9) ≤ (5 : Int32) then E else J) else J) = J := by
      intro E J
      by_cases q1 : (gI σM 0 8) = (1 : Int32)
      · rw [if_pos q1] at eM ⊢
        by_cases q2 : (gI σM 0 9) ≤ (5 : Int32)
        · rw [if_pos q2] at eM
          exact absurd eM (by decide)
        · rw [if_neg q2]
      · rw [if_neg q1]
    rw [eJ, if_neg (show ¬ nI tk = (0 : Int32) from nn 0 (by omega) (by omega)), if_neg (show ¬ nI tk = (1 : Int32) from nn 1 (by omega) (by omega)), if_neg (show ¬ nI tk = (2 : Int32) from nn 2 (by omega) (by omega)), if_neg (show ¬ nI tk = (3 : Int32) from nn 3 (by omega) (by omega)), if_neg (show ¬ nI tk = (4 : Int32) from nn 4 (by omega) (by omega)), if_neg (show ¬ nI tk = (5 : Int32) from nn 5 (by omega) (by omega)), refuse_eq, bIs, gd00]
    unfold lnW
    rw [wrong_eq, bIs, gd00]
    obtain ⟨m1, m2, m3, m4⟩ := LO.no (c := c) (p := p) (frRB.rf u σB) (frRM.rf σM) K 1
    refine ⟨(0, sI σB 9 3 1), (0, _), fun K' => ?_, rfl, rfl, m2, m3, ?_⟩
    · unfold clE
      rw [bIs, if_pos z0, if_pos z0]
    · rcases m4 with ⟨m4, -⟩ | m4
      · exact absurd (show (0 : Int32) = 1 from m4) (by decide)
      · exact Or.inr m4
