theorem first_bit : ∀ m, m < 64 → ∀ p, p < 6 → (nI m &&& (((1 : Int32) <<< (nI p &&& 31)) ^^^ (-1 : Int32)) = nI (clr m p)) := end_bit
/-- the parts of now grow older: both sides -/
theorem age_sim {t : Bool} {np : Nat} {σB σM σM' : St} (hp : np ≤ 6) (P : PR np σB 5 σM 0) (h8 : gI σB (tx t) 8 = nI np) (hL : ∀ p, p < np → gA σB (tx t) 10 p = gA σM 0 27 p ∧ ∃ v, 1 ≤ v ∧ v ≤ 99 ∧ gA σM 0 27 p = nI v) (e52 : gA σM' 0 52 = pgOld σM 0 np) (e53 : gA σM' 0 53 = pgFst σM 0 np) : ∃ σB', fX4_ageParts σB 5 t = some σB' ∧ PR np σB' 5 σM' 0 ∧ (∀ o, o ≠ 5 → gI σB' o = gI σB o) ∧ (∀ o, o ≠ 5 → gA σB' o = gA σB o) ∧ (∀ k, k ≠ 7 → gI σB' 5 k = gI σB 5 k) ∧ (∀ k, k ≠ 5 → gA σB' 5 k = gA σB 5 k) ∧ gR σB' = gR σB := by
  have hp6 := pow6 hp
  have a1 := tx_le t
  obtain ⟨P1, ⟨m, P2, P3, P4⟩, P5⟩ := P
  unfold fX4_ageParts
  generalize hFU : FU = Z
  refine lpx2_wp (fun q => ∃ σB', q = some σB' ∧ PR np σB' 5 σM' 0 ∧ (∀ o, o ≠ 5 → gI σB' o = gI σB o) ∧ (∀ o, o ≠ 5 → gA σB' o = gA σB o) ∧ (∀ k, k ≠ 7 → gI σB' 5 k = gI σB 5 k) ∧ (∀ k, k ≠ 5 → gA σB' 5 k = gA σB 5 k) ∧ gR σB' = gR σB) (fun j x s => ∃ i m', i + j = np ∧ x = nI i ∧ (∀ o, o ≠ 5 → gI s o = gI σB o) ∧ (∀ o, o ≠ 5 → gA s o = gA σB o) ∧ (∀ k, k ≠ 7 → gI s 5 k = gI σB 5 k) ∧ (∀ k, k ≠ 5 → gA s 5 k = gA σB 5 k) ∧ gR s = gR σB ∧ m' ≤ m ∧ gI s 5 7 = nI m' ∧ (∀ p, p < np → gA s 5 5 p = if p < i then gA σM' 0 52 p else gA σB 5 5 p) ∧ (∀ p, p < np → m'.testBit p = if p < i then (m.testBit p && !decide (gA σM 0 27 p ≤ gA σM 0 52 p + 1)) else m.testBit p)) ?_ Z np 0 σB (by rw [← hFU]; exact FU_gt (by omega)) ⟨0, m, by omega, rfl, fun _ _ => rfl, fun _ _ => rfl, fun _ _ => rfl, fun _ _ => rfl, rfl, Nat.le_refl _, P3, fun p _ => by rw [if_neg (by omega)], fun p _ => by rw [if_neg (by omega)]⟩
  rintro j self x s ⟨i, m', hi, rfl, g1, g2, g3, g4, g5, g6, g7, g8, g9⟩ ih
  rw [g1 _ (by omega), h8]
  by_cases c : np ≤ i
  · rw [if_pos ((leN (by omega) (by omega)).mpr c)]
    refine ⟨s, rfl, ⟨fun p hpp => ?_, ⟨m', by omega, g7, fun p hpp => ?_⟩, fun p hpp => ?_⟩, g1, g2, g3, g4, g5⟩
    · rw [g8 p hpp, if_pos (by omega), show 6 * 0 + p = p by omega]
    · have hb := g9 p hpp
      rw [if_pos (show p < i by omega)] at hb
      rw [hb, show 6 * 0 + p = p by omega, e53]
      unfold pgFst
      have e := P4 p hpp
      rw [show 6 * 0 + p = p by omega] at e
      by_cases d : gA σM 0 27 p ≤ gA σM 0 52 p + 1
      · rw [if_pos ⟨by omega, by omega, by rw [show p - 6 * 0 = p by omega]; exact d⟩, decide_eq_true d]
        simp
      · rw [if_neg (fun z => d (by have := z.2.2; rw [show p - 6 * 0 = p by omega] at this; exact this)), decide_eq_false d, e]
        simp
    · rw [g8 p hpp, if_pos (by omega), e52]
      unfold pgOld
      rw [if_pos (by omega), show p - 6 * 0 = p by omega]
      by_cases d : gA σM 0 27 p ≤ gA σM 0 52 p + 1
      · rw [if_pos d]
        exact ⟨0, by omega, by omega, rfl⟩
      · rw [if_neg d]
        obtain ⟨v, -, v1, v2⟩ := P5 p hpp
        have e := P1 p hpp
        rw [show 6 * 0 + p = p by omega] at e
        obtain ⟨-, w, w0, w1, w2⟩ := hL p hpp
        rw [← e, v2, nI_1] at d ⊢
        rw [w2] at d
        have : ¬ w ≤ v + 1 := fun z => d ((leN (by omega) (by omega)).mpr z)
        exact ⟨v + 1, by omega, by omega, rfl⟩
  · have hpi : i < np := by omega
    rw [if_neg (fun z => c ((leN (by omega) (by omega)).mp z))]
    simp only [lt_eq, jnx1_eq, gdN (show i < 6 by omega) (show 6 ≤ 1000000 by omega), clN (show i < 1000000 by omega)]
    have o1 : gA s 5 5 i = gA σM 0 52 i := by
      have e := P1 i hpi
      rw [show 6 * 0 + i = i by omega] at e
      rw [g8 i hpi, if_neg (by omega)]; exact e
    have l1 : gA (sA s 5 5 i (gA s 5 5 i + 1)) (tx t) 10 i = gA σM 0 27 i := by
      rw [gAo (by omega), g2 _ (by omega)]
      exact (hL i hpi).1
    have o2 : gA (sA s 5 5 i (gA s 5 5 i + 1)) 5 5 i = gA σM 0 52 i + 1 := by rw [gAe, upd_eq, o1]
    have eo : gA σM' 0 52 i = if gA σM 0 27 i ≤ gA σM 0 52 i + 1 then 0 else gA σM 0 52 i + 1 := by
      rw [e52]
      unfold pgOld
      rw [if_pos (by omega), show i - 6 * 0 = i by omega]
    rw [l1, o2]
    by_cases d : gA σM 0 52 i + 1 < gA σM 0 27 i
    · have d' : ¬ gA σM 0 27 i ≤ gA σM 0 52 i + 1 := Int32.not_le.mpr d
      rw [if_pos d]
      refine ih (j - 1) _ _ (by omega) ⟨i + 1, m', by omega, nI_1 i, g1, fun o ho => ?_, g3, fun k hk => ?_, g5, g6, g7, fun p hpp => ?_, fun p hpp => ?_⟩
      · funext k
        rw [gAo ho, g2 o ho]
      · rw [gAn hk]; exact g4 k hk
      · rw [gAe, upd_at]
        by_cases e : p = i
        · subst e
          rw [if_pos rfl, if_pos (by omega), eo, if_neg d', o1]
        · rw [if_neg e, g8 p hpp]
          by_cases w : p < i
          · rw [if_pos w, if_pos (by omega)]
          · rw [if_neg w, if_neg (by omega)]
      · rw [g9 p hpp]
        by_cases e : p = i
        · subst e
          rw [if_neg (by omega), if_pos (by omega), decide_eq_false d']
          simp
        · by_cases w : p < i
          · rw [if_pos w, if_pos (by omega)]
          · rw [if_neg w, if_neg (by omega)]
    · have d' : gA σM 0 27 i ≤ gA σM 0 52 i + 1 := Int32.not_lt.mp d
      rw [if_neg d]
      have e7 : gI (sA (sA s 5 5 i (gA s 5 5 i + 1)) 5 5 i 0) 5 7 = nI m' := g7
      rw [e7, end_bit m' (by omega) i (by omega)]
      have hc := clr_bit m' (by omega) i (by omega)
      refine ih (j - 1) _ _ (by omega) ⟨i + 1, clr m' i, by omega, nI_1 i, fun o ho => ?_, fun o ho => ?_, fun k hk => ?_, fun k hk => ?_, g5, by omega, gIe _ _ _ _, fun p hpp => ?_, fun p hpp => ?_⟩
      · funext k
        rw [gIo ho]
        show gI s o k = _
        rw [g1 o ho]
      · funext k
        simp (disch := assumption) only [gAI, sA, gAo]
        rw [g2 o ho]
      · rw [gIn hk]; exact g3 k hk
      · simp (disch := assumption) only [gAI, sA, gAn]
        exact g4 k hk
      · simp only [gAI, sA, gAe, upd_at]
        by_cases e : p = i
        · subst e
          rw [if_pos rfl, if_pos (by omega), eo, if_pos d']
        · rw [if_neg e, if_neg e, g8 p hpp]
          by_cases w : p < i
          · rw [if_pos w, if_pos (by omega)]
          · rw [if_neg w, if_neg (by omega)]
      · rw [hc.2 p (by omega), g9 p hpp, beq_dec]
        by_cases e : p = i
        · subst e
          rw [if_neg (by omega), if_pos (by omega), decide_eq_true d']
          simp
        · rw [decide_eq_false e]
          by_cases w : p < i
          · rw [if_pos w, if_pos (by omega)]
            simp
          · rw [if_neg w, if_neg (by omega)]
            simp
theorem SR.yr {n BM Y y o b : Nat} {σB σM : St} (S : SR n BM Y σB o σM b) (h : gI σB o 8 = nI y) : SR n BM y σB o σM b := by
  obtain ⟨h1, h2, h3, h4, h5, h6, h7, h8⟩ := S
  exact ⟨h1, h2, h3, h4, h5, h6, ⟨y, Nat.le_refl _, h⟩, h8⟩
/-- what go carries along -/
def goI (t : Bool) (n np Y : Nat) (σB σM s s' : St) : Prop := CX t n np s s' ∧ SR n 9999 Y s 5 s' 0 ∧ PR np s 5 s' 0 ∧ NR s 5 s' ∧ gI s' 0 61 = 1 ∧ (∀ o, o ≠ 5 → o ≠ 14 → gI s o = gI σB o) ∧ (∀ o, o ≠ 5 → gA s o = gA σB o) ∧ (∀ k, k ≠ 2 → gR s k = gR σB k) ∧ (∀ k, k ≠ 45 → (k < 61 ∨ 66 < k) → gI s' 0 k = gI σM 0 k) ∧ (∀ k, (k < 46 ∨ 59 < k) → gA s' 0 k = gA σM 0 k) ∧ gJ s' 0 76 = gJ σM 0 76
set_option maxHeartbeats 1000000 in
theorem st11 : ST11 REL := by
  rintro σB σM a0 ⟨t, n, np, R⟩
  have hn6 := R.2.2.1.n6
  unfold fX9_go fX10_go
  simp only [lt_eq, jnx1_eq, isWithin_eq, isInM_eq, bS, ifi0, cl0]
  have R0 := R.th
  generalize sI σM 0 2 0 = σ1 at *
  obtain ⟨y, hy, hy2⟩ := R0.2.2.2.1.2.2.2.2.2.2.1
  have hy3 : gA σ1 0 59 0 = nI y := by rw [← hy2]; exact (R0.s5 8 (by unfold isS; omega)).symm
  by_cases c0 : (0 : Int32) ≤ a0 ∧ a0 ≤ 99
  · rw [if_pos c0, if_pos c0]
    obtain ⟨k, -, hk, rfl⟩ := in_nat 0 99 c0 (by omega) (by omega)
    rw [hy2, hy3, nI_add]
    by_cases c1 : nI (y + k) ≤ 9000
    · rw [if_pos c1, if_pos c1]
      have hyk : y + k ≤ 9000 := (leN (a := y + k) (b := 9000) (by omega) (by omega)).mp c1
      obtain ⟨σ2, f1, f2, f3, f4, f5, f6, f7⟩ := asItGoes_eq σB (gR σB 0)
      have eb : fX0_byNumbers σB (gR σB 0) = some (sI σ2 14 2 1) := by
        unfold fX0_byNumbers
        rw [f1, bVs, lt_eq]
      obtain ⟨σ8, p1, p2, p3, p4, p5⟩ := plainTried_eq σ1
      rw [eb, bVs, p1, bVs]
      have G0 : goI t n np y σB σ1 (sI σ2 14 2 1) (sI σ8 0 61 1) := by
        have a1 := tx_le t
        have a2 := lw_le t
        have hI : ∀ o, o ≠ 14 → gI (sI σ2 14 2 1) o = gI σB o := fun o ho => by
          funext k'
          rw [gIo ho, f5 o ho]
        have hA : gA (sI σ2 14 2 1) = gA σB := by rw [gAI, f6]
        have hMA : gA (sI σ8 0 61 1) = gA σ1 := by rw [gAI, p4]
        refine ⟨⟨R0.2.2.1.cg (hI _ (by omega)) (by rw [hI _ (by omega)]) (by rw [hA]) (by rw [hA]) (fun q q1 q2 => by rw [gIn (by omega)]; exact p3 q (by omega)) (fun q _ _ => by rw [hMA]), by show gR σ2 2 = t; rw [f2, R0.1], fun q q1 q2 => ?_, Or.inr (gIe _ _ _ _)⟩, ?_, ?_, ?_, gIe _ _ _ _, fun o _ h => hI o h, fun o _ => by rw [hA], fun k hk => f3 k hk, fun k k1 k2 => by rw [gIn (by omega)]; exact p3 k (by omega), fun k _ => by rw [hMA], by show gJ σ8 0 76 = _; rw [p5]⟩
        · by_cases e : q = 2
          · subst e
            rw [gIe, gIe]
          · rw [gIn e, gIn (by omega), f4 q q1 q2]
            exact (p2 (59 + q) (by omega) (by omega)).symm
        · exact (R0.2.2.2.1.cg ⟨fun k _ => by rw [hA], fun k _ _ => by rw [hI 5 (by omega)]⟩ (agM.wG hMA)).yr (by rw [hI 5 (by omega)]; exact hy2)
        · exact R0.2.2.2.2.1.cg (by rw [hA]) (by rw [hI 5 (by omega)]) (fun p _ => by rw [hMA]; exact ⟨rfl, rfl⟩)
        · obtain ⟨q, -, q1, q2⟩ := R0.2.2.2.2.2.1
          exact Or.inr ⟨q, by rw [hI 5 (by omega)]; exact q1, by show gJ σ8 0 60 = _; rw [p5]; exact q2⟩
      have QB0 : qB σB (sI σ2 14 2 1) := ⟨fun o _ _ o3 => by funext k'; rw [gIo o3, f5 o o3], fun o k _ _ _ _ => by show gA σ2 o k = _; rw [f6], fun k hk => f3 k hk⟩
      have QM0 : qM σ1 (sI σ8 0 61 1) := (qM.pt p3 p4 p5).tr (qM.sI _ _ _ (by omega))
      generalize sI σ2 14 2 1 = s0 at *
      generalize sI σ8 0 61 1 = s0' at *
      generalize hFU : FU = Z
      by_cases k0 : k = 0
      · subst k0
        refine simlp2_2 _ (fun j x s x' s' => x = 0 ∧ s = s0 ∧ x' = 0 ∧ s' = s0') ?_ Z Z 0 0 s0 0 s0' (by rw [← hFU]; exact FU_gt (by omega)) (by rw [← hFU]; exact FU_gt (by omega)) ⟨rfl, rfl, rfl, rfl⟩
        rintro j sF sG x s x' s' ⟨rfl, rfl, rfl, rfl⟩ ih
        rw [if_pos (show nI 0 ≤ (0 : Int32) by decide), if_pos (show nI 0 ≤ (0 : Int32) by decide), if_pos (show nI 0 ≤ (0 : Int32) by decide), if_pos (show nI 0 ≤ (0 : Int32) by decide)]
        have R9 : REL0 t n np s (sI (sI s' 0 61 0) 0 71 (gI (sI s' 0 61 0) 0 71)) := by
          refine (R0.q QB0 (QM0.tr (qM.sI s' 61 0 (by omega)))).q (qB.rf _) ⟨fun q _ _ _ => ?_, fun _ _ _ => rfl, fun _ _ _ _ _ => rfl, fun _ _ _ => rfl, rfl, rfl⟩
          by_cases e : q = 71
          · subst e
            rw [gIe]
          · rw [gIn e]
        exact SIM.ret ⟨R9.s5 8 (by unfold isS; omega), R9.r⟩
      · refine simlp2_2 _ (fun j x s x' s' => ∃ i, i + j = k ∧ x = nI i ∧ x' = nI i ∧ goI t n np (y + i) σB σ1 s s') ?_ Z Z k 0 s0 0 s0' (by rw [← hFU]; exact FU_gt (by omega)) (by rw [← hFU]; exact FU_gt (by omega)) ⟨0, by omega, rfl, rfl, G0⟩
        rintro j sF sG x s x' s' ⟨i, hi, rfl, rfl, C, S, P, N, h61, hI, hA, hRR, hM, hMA, hJ⟩ ih
        by_cases c : k ≤ i
        · rw [if_pos ((leN (by omega) (by omega)).mpr c), if_pos ((leN (by omega) (by omega)).mpr c)]
          have hik : i = k := by omega
          subst hik
          have S9 : SR n 9999 9000 s 5 s' 0 := S.mono (Nat.le_refl _) hyk
          have nk0 : ¬ nI i ≤ (0 : Int32) := fun z => by have := (leN (a := i) (b := 0) (by omega) (by omega)).mp z; omega
          unfold fX8_forget
          rw [if_neg nk0, if_neg nk0, lt_eq, bVs]
          have g12 : ∀ o, o ≠ 12 → gI (sI s 12 1 0) o = gI s o := fun o ho => by
            funext q
            exact gIo ho
          have gm : ∀ q, q ≠ 61 → q ≠ 71 → gI (sI (sI s' 0 61 0) 0 71 0) 0 q = gI s' 0 q := fun q q1 q2 => by rw [gIn q2, gIn q1]
          have S10 : SR n 9999 9000 (sI s 12 1 0) 5 (sI (sI s' 0 61 0) 0 71 0) 0 := S9.cg ⟨fun _ _ => rfl, fun q _ _ => by rw [g12 5 (by omega)]⟩ (agM.wG rfl)
          have R9 : REL0 t n np (sI s 12 1 0) (sI (sI s' 0 61 0) 0 71 0) := by
            refine R0.bld (fun o o5 _ _ o12 _ o14 => by rw [g12 o o12, hI o o5 o14]) (fun o o5 _ _ _ _ _ => hA o o5) hRR (fun q q1 q2 q3 q4 q5 q6 => by rw [gm q (by omega) q6, hM q q2 q3]) (fun q q1 _ _ _ => hMA q q1) hJ S10 (P.cg rfl (by rw [g12 5 (by omega)]) (fun _ _ => ⟨rfl, rfl⟩)) ?_ ⟨0, by omega, gIe _ _ _ _, gIe _ _ _ _, fun d hd => ?_⟩ (R0.2.2.2.2.2.2.2.2.2.2.1.cg (fun q _ => by show gA s 13 q = _; rw [hA 13 (by omega)]) (by rw [g12 13 (by omega), hI 13 (by omega) (by omega)]) (hMA 69 (by omega)) (by rw [gm 67 (by omega) (by omega), hM 67 (by omega) (by omega)]) (by rw [gm 68 (by omega) (by omega), hM 68 (by omega) (by omega)]))
            · obtain ⟨q, q1, q2⟩ := N.resolve_left (by rw [h61]; exact ne10)
              exact ⟨q, by omega, by rw [g12 5 (by omega)]; exact q1, q2⟩
            · have : d = 0 := by omega
              subst this
              exact ⟨S10, fun z => absurd z (by omega)⟩
          exact SIM.ret ⟨R9.s5 8 (by unfold isS; omega), R9.r⟩
        · rw [if_neg (fun z => c ((leN (by omega) (by omega)).mp z)), if_neg (fun z => c ((leN (by omega) (by omega)).mp z))]
          obtain ⟨q, σM1, e1, e2, y1, y2, y3, y4, y5, y6, y7, y8, y9⟩ := year_sim C S N ⟨by omega, by omega⟩ (by omega) ⟨by omega, by omega⟩ (b := 0) (by omega)
          have e2' : fX10_yearGoes s' 0 = some σM1 := e2
          have C1 := C.cg ⟨by omega, by omega⟩ y4 y5
          have hr0 : gR q.2 0 = t := by rw [y4.2.2.1, hRR 0 (by omega)]; exact R0.1
          obtain ⟨s2, g1, g2, g3, g4, g5, g6, g7⟩ := age_sim (t := t) (σB := q.2) (σM := s') (σM' := σM1) C.1.p6 (P.cg y4.2.2.2.2.1 y4.2.2.2.2.2 (fun _ _ => ⟨rfl, rfl⟩)) C1.1.pB (fun p hp => ⟨by have := C1.1.pA 10 (by omega) (by omega) p hp; rw [this]; show gA σM1 0 27 p = _; rw [y5.2.1 27 (by omega)], C.1.rg.2.2.2.2.2.1 p hp⟩) y8 y9
          rw [e1, e2', bIq, bVs, hr0, g1, bVs]
          have a1 := tx_le t
          have a2 := lw_le t
          have C2 : CX t n np s2 σM1 := ⟨C1.1.cg (g3 _ (by omega)) (by rw [g3 _ (by omega)]) (g4 _ (by omega)) (g4 _ (by omega)) (fun _ _ _ => rfl) (fun _ _ _ => rfl), by rw [g7]; exact C1.2.1, fun k k1 k2 => by rw [g3 14 (by omega)]; exact C1.2.2.1 k k1 k2, C1.2.2.2⟩
          refine ih (j - 1) _ _ _ _ (by omega) ⟨i + 1, by omega, nI_1 i, nI_1 i, C2, y1.cg ⟨fun q hq => g6 q (by omega), fun q q1 q2 => g5 q q1⟩ (agM.rf _ _ _), g2, ?_, by rw [y5.1 61 (by omega) (by omega)]; exact h61, fun o o5 o14 => by rw [g3 o o5, y4.1 o o5, hI o o5 o14], fun o o5 => by rw [g4 o o5, y4.2.1 o o5, hA o o5], fun q hq => by rw [g7, y4.2.2.1]; exact hRR q hq, fun q q1 q2 => by rw [y5.1 q q1 (by omega)]; exact hM q q1 q2, fun q hq => by rw [y5.2.1 q hq]; exact hMA q hq, by rw [y5.2.2.2.2 76 (by omega)]; exact hJ⟩
          unfold NR
          rw [g5 13 (by omega)]
          exact y6
    · rw [if_neg c1, if_neg c1]
      exact SIM.ret ⟨rfl, R0.r⟩
  · rw [if_neg c0, if_neg c0]
    exact SIM.ret ⟨rfl, R0.r⟩
