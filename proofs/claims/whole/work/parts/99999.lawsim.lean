theorem law_sim {u : Bool} {c : Nat → Nat} {S n np p : Nat} {σB σM : St} {KK : Int32 → St → Option (Int32 × St)} (R : RD u c S n np σB σM) (K : TKp S p σB σM) (hk : gI σB 10 3 ≠ 21) (hK : ∀ x, KK 0 x = some (0, x)) : ∃ q q', fX3_readLaw σB = some q ∧ lwK KK σM = KK q'.1 q'.2 ∧ LO u c S p σB σM q q' := by
  obtain ⟨T, r3, X, ⟨kn, m, s1, s2, s3, s4, s5, s6, s7⟩, bb, r6, r7, r8⟩ := R
  have t1 := tx_le u
  have t2 := lw_le u
  have z0 : (0 : Int32) = 0 := rfl
  have z1 : ¬ (1 : Int32) = 0 := by decide
  unfold fX3_readLaw lwK
  simp only [lt_eq, jnx1_eq, jnx2_eq]
  obtain ⟨a2, b2, eA, eB, h1, h2, p2, -, q2, K2⟩ := adv2 T K
  have q2 := q2 hk
  rw [eA, eB, bVs, bVs]
  have fB2 := h1.up u
  have fM2 := h2.up
  have T2 := T.rd fB2 fM2
  obtain ⟨tk, ha, e1, c1, c2, c3, c4, c5, c6, c7, c8, c9, c10⟩ := K2.cls
  rw [e1, show fX9_isWithin a2 (nI tk) (6 : Int32) (8 : Int32) = some (if 6 ≤ tk ∧ tk ≤ 8 then 1 else 0) from within_eq a2 tk 6 8 (by omega) (by omega) (by omega), bS]
  by_cases d : 6 ≤ tk ∧ tk ≤ 8
  · obtain ⟨w, rfl⟩ : ∃ w, tk = 6 + w := ⟨tk - 6, by omega⟩
    have hw' : w < 3 := by omega
    have sw : swp (6 + w) = 6 + w := by unfold swp; rw [if_neg (by omega), if_neg (by omega)]
    have k9 := c8 (by omega)
    rw [sw] at k9
    have x6 : nI (6 + w) - (6 : Int32) = nI w := by
      rw [show (6 : Int32) = nI 6 from rfl, pk_sub (by omega), show 6 + w - 6 = w by omega]
    have x52 : (3 : Int32) + nI (6 + w) - (6 : Int32) = nI (3 + w) := by
      rw [show (3 : Int32) + nI (6 + w) = nI (3 + (6 + w)) from nI_add 3 (6 + w), show (6 : Int32) = nI 6 from rfl, pk_sub (by omega), show 3 + (6 + w) - 6 = 3 + w by omega]
    rw [if_pos d, if_neg z1, if_pos (c7.mpr (by omega)), k9, if_neg (show ¬ nI (6 + w) < (6 : Int32) from fun z => absurd ((ltN (a := 6 + w) (b := 6) (by omega) (by omega)).mp z) (by omega)), if_pos (show nI (6 + w) ≤ (8 : Int32) from (leN (a := 6 + w) (b := 8) (by omega) (by omega)).mpr (by omega)), x6, x52, gdN (show 3 + w < 6 by omega) (by omega), clN (show 3 + w < 1000000 by omega)]
    have XL := X.2.2.2.2.2.2.2.2.2.2.1 w hw'
    obtain ⟨f0, u0, v1, v2, v3, v4, v5, v6⟩ := XL
    have v5' : gA σM 0 29 (3 + w) = if f0 < u0 then 1 else 0 := v5
    have gu : gR a2 3 = u := (fB2.2.2.1 3 (by omega)).trans r3
    rw [gu, told_eq a2 u w f0 u0 hw' (by omega) v2 (by rw [h1.2.2.1]; exact v3) (by rw [h1.2.2.1]; exact v4), bS, h2.2.1, v5']
    by_cases told : f0 < u0
    · rw [if_pos told, if_neg z1, if_neg z1, refuse_eq, bIs, gd00, wrong_eq, bIs, gd00]
      exact ⟨_, (0, _), rfl, (hK _).symm, LO.no fB2 fM2 K2 3⟩
    · rw [if_neg told, if_pos z0, if_pos z0, gdN (show 3 + w < 6 by omega) (by omega), nar1]
      -- the token behind the law's name
      have fM3 := fM2.tr (frRM.wA b2 (k := 29) (j := 3 + w) 1 (by have : hw 29 = 3 := rfl; omega))
      have T3 : TC c S a2 (sA b2 0 29 (3 + w) 1) := T.rd fB2 fM3
      have K3 : TKp S p2 a2 (sA b2 0 29 (3 + w) 1) := K2.cg (fun _ _ _ => rfl) (fun _ _ _ => rfl)
      obtain ⟨a4, b4, eA4, eB4, j1, j2, p4, q4, -, K4⟩ := adv2 T3 K3
      rw [eA4, eB4, bVs, bVs, gdN (show 3 + w < 6 by omega) (by omega), show gR a4 3 = u by rw [j1.2.2.2]; exact gu]
      have e17 : gI b4 0 17 = nI kn := by
        rw [j2.1 17 (by omega)]
        show gI b2 0 17 = _
        rw [h2.1 17 (by omega)]; exact s4
      rw [e17]
      have fB4 := fB2.tr (j1.up u)
      have fM4 := (fM3.tr j2.up).tr (frRM.wA b4 (k := 30) (j := 3 + w) (nI kn) (by have : hw 30 = 3 := rfl; omega))
      have T4 := T.rd fB4 fM4
      have K4' : TKp S p4 a4 (sA b4 0 30 (3 + w) (nI kn)) := K4.cg (fun _ _ _ => rfl) (fun _ _ _ => rfl)
      have f4 : gI a4 (lw u) 4 = nI kn := by rw [j1.1 _ (by omega), h1.1 _ (by omega)]; exact s3
      have f8 : gI a4 11 8 = nI m := by rw [j1.1 _ (by omega), h1.1 _ (by omega)]; exact s5
      have f40 : gI (sA b4 0 30 (3 + w) (nI kn)) 0 40 = nI m := by
        show gI b4 0 40 = _
        rw [j2.1 40 (by omega)]
        show gI b2 0 40 = _
        rw [h2.1 40 (by omega)]; exact s6
      obtain ⟨⟨rr, x⟩, ⟨rr', y⟩, eF, eG, FOo⟩ := form_sim T4 K4' hw' f4 e17 f8 f40 s1 s2
      rw [eF, eG, bIs, bIs, gdN (show 3 + w < 6 by omega) (by omega)]
      rcases FOo with ⟨o1, o2, kn', m', p5, a, hfk, hp5, ox, G, G8, G40⟩ | ⟨o1, o2, b', p5, oy, G1, G2, G3⟩
      · have o1 : rr = 0 := o1
        have o2 : rr' = 1 := o2
        have ox : x = sA (sA a (lw u) 2 w (nI kn)) (lw u) 3 w (nI kn') := ox
        have G : FS u S kn kn' m' p5 false [] [kn' - 1] 0 a4 (sA b4 0 30 (3 + w) (nI kn)) a y := G
        have G40 : gI y 0 40 = nI m' := G40
        subst o1
        subst o2
        subst ox
        obtain ⟨g1, g2, g3, g4, g5, g6, g9, g10, g11, g12, g13, g14, g15, g16, g17, g18, g19, g20, g21, g22, g25, g26⟩ := G
        rw [if_pos z0, gdb1, g6]
        have hkm : kn' ≤ m' := by omega
        have gB := g1
        obtain ⟨B1, B2, B3, B4, B5, B6⟩ := gB
        have gM := g2
        obtain ⟨M1, M2, M3, M4⟩ := gM
        have fB6 : frRB u σB (sA (sA a (lw u) 2 w (nI kn)) (lw u) 3 w (nI kn')) := fB4.tr (B1.tr ((frRB.al u a 2 _).tr (frRB.al u _ 3 _)))
        have fM6 : frRM σM (sA y 0 31 (3 + w) (nI kn')) := fM4.tr (M1.tr (frRM.wA y (k := 31) (j := 3 + w) (nI kn') (by have : hw 31 = 3 := rfl; omega)))
        have t3 : tx u ≠ lw u := by cases u <;> decide
        have A4 : gA a4 = gA σB := j1.2.2.1.trans h1.2.2.1
        have I4 : ∀ o, o ≠ 10 → gI a4 o = gI σB o := fun o ho => (j1.1 o ho).trans (h1.1 o ho)
        -- the reference's rows before the formula
        have R4 : ∀ k i, ¬ (k = 29 ∧ i = 3 + w) → ¬ (k = 30 ∧ i = 3 + w) → gA (sA b4 0 30 (3 + w) (nI kn)) 0 k i = gA σM 0 k i := by
          intro k i n1 n2
          have e0 : gA (sA b4 0 30 (3 + w) (nI kn)) 0 k i = gA b4 0 k i := by
            simp only [sA]
            by_cases q : k = 30
            · subst q
              rw [gAe, upd_ne (by omega)]
            · rw [gAn q]
          rw [e0, j2.2.1]
          have e2 : gA (sA b2 0 29 (3 + w) 1) 0 k i = gA b2 0 k i := by
            simp only [sA]
            by_cases q : k = 29
            · subst q
              rw [gAe, upd_ne (by omega)]
            · rw [gAn q]
          rw [e2, h2.2.1]
        have R29 : gA (sA b4 0 30 (3 + w) (nI kn)) 0 29 (3 + w) = 1 := by
          simp only [sA]
          rw [gAn (by omega), j2.2.1]
          simp only [sA]
          rw [gAe, upd_eq]
        have R30 : gA (sA b4 0 30 (3 + w) (nI kn)) 0 30 (3 + w) = nI kn := by
          simp only [sA]
          rw [gAe, upd_eq]
        have I4M : ∀ k, (k < 7 ∨ 10 < k) → gI (sA b4 0 30 (3 + w) (nI kn)) 0 k = gI σM 0 k := by
          intro k hk'
          show gI b4 0 k = _
          rw [j2.1 k hk']
          show gI b2 0 k = _
          rw [h2.1 k hk']
        have y31 : ∀ k, k ≠ 31 → gA (sA y 0 31 (3 + w) (nI kn')) 0 k = gA y 0 k := fun k hk' => by
          simp only [sA]
          rw [gAn hk']
        have XN : TX u n np (sA (sA a (lw u) 2 w (nI kn)) (lw u) 3 w (nI kn')) (hf (sA y 0 31 (3 + w) (nI kn'))) := by
          refine X.lawN hw' hfk (by omega) ?_ ?_ ?_ (fun k i k1 hi => ?_) (fun k k1 k2 i hi => ?_) ?_ ?_ ?_ ?_ ?_ (fun k k1 k2 => ?_) (fun k k1 k2 i hi => ?_) ?_ ?_ ?_ (fun k i k1 k2 hi => ?_) s7 ?_
          · show gI a (tx u) = _
            rw [B2]; exact I4 _ (by omega)
          · exact g5
          · funext k
            simp only [sA]
            rw [gAo t3, gAo t3, B3, A4]
          · simp only [sA]
            rw [gAn (by omega), gAn (by omega), B5 k i k1 hi, A4]
          · simp only [sA]
            obtain rfl | rfl : k = 2 ∨ k = 3 := by omega
            · rw [gAn (by omega), gAe, upd_ne hi, B6 2 (by omega), A4]
            · rw [gAe, upd_ne hi, gAn (by omega), B6 3 (by omega), A4]
          · simp only [sA]
            rw [gAn (by omega), gAe, upd_eq]
          · simp only [sA]
            rw [gAe, upd_eq]
          · show gI y 0 15 = _
            rw [M2 15 (by omega), I4M 15 (by omega)]
          · show gI y 0 16 = _
            rw [M2 16 (by omega), I4M 16 (by omega)]
          · exact g6
          · rw [y31 k (by omega), M3 k (by omega)]
            funext i
            exact R4 k i (by omega) (by omega)
          · by_cases q : k = 31
            · subst q
              simp only [sA]
              rw [gAe, upd_ne hi, M3 31 (by omega)]
              exact R4 31 i (by omega) (by omega)
            · rw [y31 k q, M3 k (by omega)]
              exact R4 k i (by omega) (by omega)
          · rw [y31 29 (by omega), M3 29 (by omega)]
            exact R29
          · rw [y31 30 (by omega), M3 30 (by omega)]
            exact R30
          · simp only [sA]
            rw [gAe, upd_eq]
          · rw [y31 k (by omega), M4 k i k1 k2 hi]
            exact R4 k i (by omega) (by omega)
          · obtain ⟨w1, w2, w3, hs, w4, w5, w6⟩ := g20
            refine ⟨hs, w4, w5, fun i i1 i2 => ?_⟩
            obtain ⟨y1, y2, y3⟩ := w6 i i1 i2
            refine ⟨y1, y2, stepOK_cg (fun k hk' => ?_) (fun k k1 k2 => ?_) y3⟩
            · simp only [sA]
              rw [gAn (by omega), gAn (by omega)]
            · show gA (sA y 0 31 (3 + w) (nI kn')) 0 k (hw k + i) = gA y 0 k (hw k + i)
              rw [y31 k (by omega)]
        refine ⟨_, (1, _), rfl, rfl, rfl, fB6, fM6, Or.inl ⟨rfl, ?_, ?_, ?_, ?_, n, np, p5, ⟨T.rd fB6 fM6, (fB6.2.2.1 3 (by omega)).trans r3, XN, ⟨kn', m', hkm, g10, g5, g6, G8, G40, fun w' hw2 => ?_⟩, bb, r6, ?_, fun k hk' => ?_⟩, by omega, g4.cg (fun _ _ _ => rfl) (fun _ _ _ => rfl)⟩⟩
        · show gI a 9 3 = _
          rw [B4, I4 9 (by omega)]
        · show gI y 0 4 = _
          rw [M2 4 (by omega), I4M 4 (by omega)]
        · show gI y 0 5 = _
          rw [M2 5 (by omega), I4M 5 (by omega)]
        · show gI a (tx u) 0 = _
          rw [B2, I4 _ (by omega)]
        · by_cases q : w' = w
          · subst q
            refine ⟨kn', by omega, ?_⟩
            simp only [sA]
            rw [gAe, upd_eq]
          · obtain ⟨x0, x1, x2⟩ := s7 w' hw2
            refine ⟨x0, by omega, ?_⟩
            simp only [sA]
            rw [gAe, upd_ne q, gAn (by omega), B6 3 (by omega), A4]
            exact x2
        · show gI a 9 4 = _
          rw [B4, I4 9 (by omega)]; exact r7
        · show gA (sA y 0 31 (3 + w) (nI kn')) 0 18 k = _
          rw [y31 18 (by omega), M3 18 (by omega), R4 18 k (by omega) (by omega)]
          exact r8 k hk'
      · have o1 : rr' = 0 := o1
        have o2 : rr = 1 ∨ rr = 2 := o2
        have oy : y = sI (sI b' 0 4 rr) 0 5 (gI b' 0 10) := oy
        have G1 : FB u kn a4 x := G1
        have G3 : TKp S p5 x b' := G3
        subst o1
        subst oy
        have nz : ¬ rr = 0 := by rcases o2 with rfl | rfl <;> decide
        rw [if_neg nz, refuse_eq, bIs, if_pos z0, gdb0]
        refine ⟨_, (0, _), rfl, rfl, ?_⟩
        obtain ⟨l1, l2, l3, l4⟩ := LO.no (c := c) (p := p) (fB4.tr G1.1) (fM4.tr G2.1) G3 rr
        refine ⟨rfl, l2, l3.tr (frRM.wA _ (k := 31) (j := 3 + w) _ (by have : hw 31 = 3 := rfl; omega)), ?_⟩
        rcases l4 with ⟨l4, -⟩ | ⟨l4, l5, l6⟩
        · exact absurd (show (0 : Int32) = 1 from l4) (by decide)
        · exact Or.inr ⟨rfl, l5, l6⟩
  · have nJ : (if (gI b2 0 8) = (1 : Int32) then (if (gI b2 0 9) < (6 : Int32) then (0 : Nat) else (if (gI b2 0 9) ≤ (8 : Int32) then 1 else 0)) else 0) = 0 := by
      by_cases q : tk < 19
      · have hs := swp_lt tk q
        have hs6 : ¬ (6 ≤ swp tk ∧ swp tk ≤ 8) := by
          unfold swp
          (repeat' split) <;> omega
        rw [if_pos (c7.mpr q), c8 q]
        by_cases g : swp tk < 6
        · rw [if_pos (show nI (swp tk) < (6 : Int32) from (ltN (a := swp tk) (b := 6) (by omega) (by omega)).mpr g)]
        · rw [if_neg (show ¬ nI (swp tk) < (6 : Int32) from fun z => g ((ltN (a := swp tk) (b := 6) (by omega) (by omega)).mp z)), if_neg (show ¬ nI (swp tk) ≤ (8 : Int32) from fun z => hs6 ⟨by omega, (leN (a := swp tk) (b := 8) (by omega) (by omega)).mp z⟩)]
      · rw [if_neg (fun z => q (c7.mp z))]
    have eJ : ∀ (E J : Option (Int32 × St)), (if (gI b2 0 8) = (1 : Int32) then (if (gI b2 0 9) < (6 : Int32) then J else (if (gI b2 0 9) ≤ (8 : Int32) then E else J)) else J) = J := by
      intro E J
      by_cases q1 : (gI b2 0 8) = (1 : Int32)
      · rw [if_pos q1] at nJ ⊢
        by_cases q2 : (gI b2 0 9) < (6 : Int32)
        · rw [if_pos q2]
        · rw [if_neg q2] at nJ ⊢
          by_cases q3 : (gI b2 0 9) ≤ (8 : Int32)
          · rw [if_pos q3] at nJ
            exact absurd nJ (by decide)
          · rw [if_neg q3]
      · rw [if_neg q1]
    rw [if_neg d, if_pos z0, eJ, refuse_eq, bIs, gd00, wrong_eq, bIs, gd00]
    exact ⟨_, (0, _), rfl, (hK _).symm, LO.no fB2 fM2 K2 1⟩
