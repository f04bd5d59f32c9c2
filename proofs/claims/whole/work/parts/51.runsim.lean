def still0 (b : Nat) (σ σ' : St) : Prop := frM b σ σ' ∧ (∀ k, 46 ≤ k → k ≤ 51 → gA σ' 0 k = gA σ 0 k) ∧ (∀ k, 54 ≤ k → k ≤ 58 → gA σ' 0 k = gA σ 0 k) ∧ gJ σ' = gJ σ
theorem still1.z {b : Nat} {σ σ' : St} (h : still1 b σ σ') : still0 b σ σ' := ⟨h.1, h.2.1, h.2.2.1, h.2.2.2.1⟩
theorem still0.rf (b : Nat) (σ : St) : still0 b σ σ := ⟨frM.rf _ _, fun _ _ _ => rfl, fun _ _ _ => rfl, rfl⟩
theorem still0.tr {b : Nat} {a c d : St} (h : still0 b a c) (k : still0 b c d) : still0 b a d := ⟨h.1.tr k.1, fun x h1 h2 => (k.2.1 x h1 h2).trans (h.2.1 x h1 h2), fun x h1 h2 => (k.2.2.1 x h1 h2).trans (h.2.2.1 x h1 h2), k.2.2.2.trans h.2.2.2⟩
/-- related but for the year (which is free once it has fallen) -/
def SRw (n BM Y : Nat) (σB : St) (o : Nat) (σM : St) (b : Nat) : Prop := ∃ y, SR n BM Y σB o (sA σM 0 59 b y) b
theorem SR.w {n BM Y o b : Nat} {σB σM : St} (S : SR n BM Y σB o σM b) : SRw n BM Y σB o σM b := ⟨gA σM 0 59 b, S.cg (agB.rf _ _) (agM.wG (gA_sA_self _ _ _ _))⟩
theorem SRw.mono {n BM Y Y' o b : Nat} {σB σM : St} (S : SRw n BM Y σB o σM b) (h : Y ≤ Y') : SRw n BM Y' σB o σM b := by
  obtain ⟨y, S⟩ := S
  exact ⟨y, S.mono (Nat.le_refl _) h⟩
theorem SRw.still {n BM Y o b : Nat} {σB σM σM' : St} (S : SRw n BM Y σB o σM b) (h : still0 b σM σM') : SRw n BM Y σB o σM' b := by
  obtain ⟨y, S⟩ := S
  refine ⟨y, S.cg (agB.rf _ _) ⟨fun k j h1 h2 h3 h4 hj => ?_, fun k h1 h2 => ?_⟩⟩
  · simp only [sA, gA_sAr]
    rw [if_neg (by omega), if_neg (by omega), h.2.1 k h3 (by omega)]
  · simp only [sA, gA_sAr, true_and]
    by_cases e : k = 59
    · rw [if_pos e, if_pos e, upd_at, upd_at, if_pos rfl, if_pos rfl]
    · rw [if_neg e, if_neg e, h.2.2.1 k h1 (by omega)]
theorem SRw.sc {n BM Y o b : Nat} {σB σM : St} (S : SRw n BM Y σB o σM b) (k : Nat) (h : isS k) (h8 : k ≠ 8) : gI σB o k = gA σM 0 (sm k) b := by
  obtain ⟨y, S⟩ := S
  rw [S.2.2.1 k h]
  simp only [sA, gA_sAr, true_and]
  rw [if_neg (by rcases h with rfl | rfl | rfl | rfl | rfl | rfl <;> simp_all [sm])]
theorem SRw.bits {n BM Y o b : Nat} {σB σM : St} (S : SRw n BM Y σB o σM b) : ∃ m, m < 2 ^ n ∧ gI σB o 6 = nI m ∧ ∀ j, j < n → gA σM 0 49 (6 * b + j) = if m.testBit j then 1 else 0 := by
  obtain ⟨y, S⟩ := S
  obtain ⟨m, h1, h2, h3⟩ := S.2.1
  refine ⟨m, h1, h2, fun j hj => ?_⟩
  rw [← h3 j hj]
  simp only [sA, gA_sAr]
  rw [if_neg (by omega)]
theorem SRw.rest {n BM Y o b : Nat} {σB σM : St} (S : SRw n BM Y σB o σM b) : (∃ v, v ≤ BM ∧ gI σB o 9 = nI v) ∧ (gI σB o 10 = -1 ∨ ∃ j, j < n ∧ gI σB o 10 = nI j) ∧ (gI σB o 14 = 0 ∨ gI σB o 14 = 1) := by
  obtain ⟨y, S⟩ := S
  exact S.2.2.2.2.2.2.2
theorem still_run {b np : Nat} (hb : b < 2) (hp : np ≤ 6) : ∀ (k : Nat) (σ : St), gI σ 0 13 = nI np → ¬ gA σ 0 57 b = 0 → ∃ σ', itM b k σ = some σ' ∧ still0 b σ σ'
  | 0, σ, _, _ => ⟨σ, rfl, still0.rf _ _⟩
  | k + 1, σ, h1, h2 => by
    obtain ⟨σ1, e1, e2⟩ := yearM_fallen hb hp h1 h2
    obtain ⟨σ2, e3, e4⟩ := still_run hb hp k σ1 (by rw [e2.1.1 13 (by omega) (by omega)]; exact h1) (by rw [e2.2.2.1 57 (by omega) (by omega)]; exact h2)
    refine ⟨σ2, ?_, e2.z.tr e4⟩
    rw [itM, e1]
    exact e3
theorem NR.keep {σB σM σM' : St} {o : Nat} (h : NR σB o σM) (h1 : gJ σM' = gJ σM) (h2 : gI σM' 0 61 = gI σM 0 61) : NR σB o σM' := by
  unfold NR at *
  rw [h1, h2]
  exact h
/-- k years of both sides -/
theorem run_sim {t : Bool} {n np BM o b : Nat} (hBM : 9999 ≤ BM ∧ BM ≤ 20000) (ho : 5 ≤ o ∧ o ≤ 8) (hb : b < 2) : ∀ (k Y : Nat) (σB σM : St), CX t n np σB σM → SR n BM Y σB o σM b → NR σB o σM → Y + k ≤ 100000 →
    SIM (fun σB' σM' => SRw n BM (Y + k) σB' o σM' b ∧ frB o σB σB' ∧ frM b σM σM' ∧ NR σB' o σM' ∧ nodr σM σM') (itB o k σB) (itM b k σM)
  | 0, Y, σB, σM, C, S, N, hY => SIM.ret ⟨S.w, frB.rf _ _, frM.rf _ _, N, fun _ => rfl⟩
  | k + 1, Y, σB, σM, C, S, N, hY => by
    by_cases c : gI σB o 14 = 0
    · obtain ⟨q, σM1, e1, e2, y1, y2, y3, y4, y5, y6, y7, y8, y9⟩ := year_sim C S N hBM (by omega) ho hb
      rw [itB, if_pos c, itM, e1, e2, Option.bind_some, Option.bind_some]
      refine (run_sim hBM ho hb k (Y + 1) q.2 σM1 (C.cg ho y4 y5) y1 y6 (by omega)).mono ?_
      rintro a a' ⟨r1, r2, r3, r4, r5⟩
      exact ⟨r1.mono (by omega), y4.tr r2, y5.tr r3, r4, fun z => by rw [r5 (by rw [y5.1 61 (by omega) (by omega)]; exact z)]; exact y7 z⟩
    · have c' : ¬ gA σM 0 57 b = 0 := by
        have : gI σB o 14 = gA σM 0 57 b := S.2.2.1 14 (by unfold isS; omega)
        rw [← this]
        exact c
      obtain ⟨σM', e1, e2⟩ := still_run hb C.1.p6 (k + 1) σM C.1.pM c'
      rw [itB, if_neg c, e1]
      exact SIM.ret ⟨(S.w.still e2).mono (by omega), frB.rf _ _, e2.1, N.keep e2.2.2.2 (e2.1.1 61 (by omega) (by omega)), fun _ => by rw [e2.2.2.2]⟩
theorem dead_run {n np : Nat} (hn6 : n ≤ 6) (hp : np ≤ 6) : ∀ (k x y : Nat) (σ : St), gI σ 0 12 = nI n → gI σ 0 13 = nI np → gA σ 0 59 1 = nI y → y + k ≤ 200000 → (∀ j, j < n → gA σ 0 49 (6 * 1 + j) = 0) → gA σ 0 55 1 = -1 → gA σ 0 57 1 = 0 → ∃ σ', itF k x σ = some (-2, σ') ∧ still0 1 σ σ'
  | 0, x, y, σ, _, _, _, _, _, _, _ => ⟨σ, rfl, still0.rf _ _⟩
  | k + 1, x, y, σ, h1, h2, h3, h4, h5, h6, h7 => by
    obtain ⟨σ1, e1, e2⟩ := yearM_dead (b := 1) (by omega) hn6 hp h1 h2 h3 (by omega) h5 h6
    obtain ⟨σ2, e3, e4⟩ := dead_run hn6 hp k (x + 1) (y + 1) σ1 (by rw [e2.1.1 12 (by omega) (by omega)]; exact h1) (by rw [e2.1.1 13 (by omega) (by omega)]; exact h2) (by rw [e2.2.2.2.2.2, h3, nI_1]) (by omega) (fun j hj => by rw [e2.2.1 49 (by omega) (by omega)]; exact h5 j hj) (by rw [e2.2.2.1 55 (by omega) (by omega)]; exact h6) (by rw [e2.2.2.1 57 (by omega) (by omega)]; exact h7)
    refine ⟨σ2, ?_, e2.z.tr e4⟩
    have e1' : fX10_yearGoes σ 1 = some σ1 := e1
    rw [itF, if_pos h7, e1']
    exact e3
def flQ (n BM Y o : Nat) (σB σM : St) (q q' : Int32 × St) : Prop := q.1 = q'.1 ∧ frB o σB q.2 ∧ frM 1 σM q'.2 ∧ nodr σM q'.2 ∧ ((q.1 = -2 ∧ gI q.2 o 14 = 0) ∨ (∃ z, z < 20000 ∧ q.1 = nI z) ∧ SR n BM Y q.2 o q'.2 1 ∧ gI q.2 o 14 = 1)
theorem flQ.up {n BM Y Y' o : Nat} {σB σM σB' σM' : St} {q q' : Int32 × St} (h : flQ n BM Y o σB' σM' q q') (hY : Y ≤ Y') (f1 : frB o σB σB') (f2 : frM 1 σM σM') (f3 : nodr σM σM') : flQ n BM Y' o σB σM q q' := by
  obtain ⟨h1, h2, h3, h4, h5⟩ := h
  refine ⟨h1, f1.tr h2, f2.tr h3, fun z => by rw [h4 (by rw [f2.1 61 (by omega) (by omega)]; exact z)]; exact f3 z, ?_⟩
  rcases h5 with h5 | ⟨h5, h6, h7⟩
  · exact Or.inl h5
  · exact Or.inr ⟨h5, h6.mono (Nat.le_refl _) hY, h7⟩
/-- until it falls: both sides -/
theorem fall_sim {t : Bool} {n np BM o : Nat} (hBM : 9999 ≤ BM ∧ BM ≤ 20000) (ho : 5 ≤ o ∧ o ≤ 8) : ∀ (k x Y : Nat) (σB σM : St), CX t n np σB σM → SR n BM Y σB o σM 1 → NR σB o σM → Y + k + 1 ≤ 100000 → x + k < 10000 → (gI σB o 14 = 0 ∨ x = 0) →
    SIM (flQ n BM (Y + k + 1) o σB σM) (itY o k x σB) (itF (k + 1) x σM)
  | 0, x, Y, σB, σM, C, S, N, hY, hx, hc => by
    have e14 : gA σM 0 57 1 = gI σB o 14 := (S.2.2.1 14 (by unfold isS; omega)).symm
    rw [itY, itF, e14]
    by_cases c : gI σB o 14 = 0
    · obtain ⟨q, σM1, e1, e2, y1, y2, y3, y4, y5, y6, y7, y8, y9⟩ := year_sim C S N hBM (by omega) ho (b := 1) (by omega)
      have e2' : fX10_yearGoes σM 1 = some σM1 := e2
      rw [if_pos c, if_pos c, e2', Option.bind_some]
      exact SIM.ret ⟨rfl, frB.rf _ _, y5, y7, Or.inl ⟨rfl, c⟩⟩
    · rw [if_neg c, if_neg c]
      have hx0 := hc.resolve_left c
      subst hx0
      exact SIM.ret ⟨rfl, frB.rf _ _, frM.rf _ _, fun _ => rfl, Or.inr ⟨⟨0, by omega, rfl⟩, S.mono (Nat.le_refl _) (by omega), (S.2.2.2.2.2.2.2.2.2).resolve_left c⟩⟩
  | k + 1, x, Y, σB, σM, C, S, N, hY, hx, hc => by
    have e14 : gA σM 0 57 1 = gI σB o 14 := (S.2.2.1 14 (by unfold isS; omega)).symm
    by_cases c : gI σB o 14 = 0
    · by_cases c2 : gI σB o 6 = 0 ∧ gI σB o 10 = -1
      · obtain ⟨m, m1, m2, m3⟩ := S.2.1
        obtain ⟨y, hy1, hy2⟩ := S.2.2.2.2.2.2.1
        have hm0 : m = 0 := by
          have hp6 := pow6 C.1.n6
          have := m2.symm.trans c2.1
          exact (nI_eq (a := m) (b := 0) (by omega) (by omega)).mp this
        obtain ⟨σM', e1, e2⟩ := dead_run C.1.n6 C.1.p6 (k + 1 + 1) x y σM C.1.hM C.1.pM (by rw [← hy2]; exact (S.2.2.1 8 (by unfold isS; omega)).symm) (by omega) (fun j hj => by rw [m3 j hj, hm0]; simp) (by rw [← c2.2]; exact (S.2.2.1 10 (by unfold isS; omega)).symm) (by rw [e14]; exact c)
        rw [itY, if_pos c, if_pos c2, e1]
        exact SIM.ret ⟨rfl, frB.rf _ _, e2.1, fun _ => by rw [e2.2.2.2], Or.inl ⟨rfl, c⟩⟩
      · obtain ⟨q, σM1, e1, e2, y1, y2, y3, y4, y5, y6, y7, y8, y9⟩ := year_sim C S N hBM (by omega) ho (b := 1) (by omega)
        have e2' : fX10_yearGoes σM 1 = some σM1 := e2
        rw [itY, if_pos c, if_neg c2, itF, e14, if_pos c, e1, e2', Option.bind_some, Option.bind_some]
        by_cases c3 : gI q.2 o 14 = 0
        · rw [if_pos c3]
          refine (fall_sim hBM ho k (x + 1) (Y + 1) q.2 σM1 (C.cg ho y4 y5) y1 y6 (by omega) (by omega) (Or.inl c3)).mono ?_
          intro a a' h
          exact h.up (by omega) y4 y5 y7
        · rw [if_neg c3]
          have e15 : gA σM1 0 57 1 = gI q.2 o 14 := (y1.2.2.1 14 (by unfold isS; omega)).symm
          rw [itF, e15, if_neg c3]
          exact SIM.ret ⟨rfl, y4, y5, y7, Or.inr ⟨⟨x + 1, by omega, rfl⟩, y1.mono (Nat.le_refl _) (by omega), (y1.2.2.2.2.2.2.2.2.2).resolve_left c3⟩⟩
    · rw [itY, if_neg c, itF, e14, if_neg c]
      have hx0 := hc.resolve_left c
      subst hx0
      exact SIM.ret ⟨rfl, frB.rf _ _, frM.rf _ _, fun _ => rfl, Or.inr ⟨⟨0, by omega, rfl⟩, S.mono (Nat.le_refl _) (by omega), (S.2.2.2.2.2.2.2.2.2).resolve_left c⟩⟩
