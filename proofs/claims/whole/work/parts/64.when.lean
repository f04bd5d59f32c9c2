/-- two sales of the class beside one slot, one of them beside another slot -/
theorem SR.tr3 {n BM Y o o' b b' : Nat} {a c σ5 σ4 : St} (hn6 : n ≤ 6) (h1 : SR n BM Y a o σ5 b) (h2 : SR n BM Y c o' σ5 b) (h3 : SR n BM Y a o σ4 b') : SR n BM Y c o' σ4 b' := by
  have hp6 := pow6 hn6
  obtain ⟨a1, ⟨m, a2, a3, a4⟩, a5, -⟩ := h1
  obtain ⟨c1, ⟨mc, c2, c3, c4⟩, c5, c6⟩ := h2
  obtain ⟨d1, ⟨md, d2, d3, d4⟩, d5, -⟩ := h3
  have em : md = m := by
    rw [a3] at d3
    exact ((nI_eq (by omega) (by omega)).mp d3).symm
  subst em
  refine ⟨fun k hk j hj => ?_, ⟨mc, c2, c3, fun j hj => ?_⟩, fun k hk => ?_, c6⟩
  · rw [c1 k hk j hj, ← a1 k hk j hj, d1 k hk j hj]
  · rw [d4 j hj, ← a4 j hj, c4 j hj]
  · rw [c5 k hk, ← a5 k hk, d5 k hk]
theorem itM_back (b : Nat) : ∀ (k : Nat) (σ : St), itM b (k + 1) σ = (itM b k σ).bind (fun s => fX10_yearGoes s (nI b))
  | 0, σ => by
    rw [itM, itM, bS]
    cases fX10_yearGoes σ (nI b) with
    | none => rfl
    | some s => rfl
  | k + 1, σ => by
    rw [itM, itM]
    cases h : fX10_yearGoes σ (nI b) with
    | none => rfl
    | some s =>
      rw [bS, bS]
      exact itM_back b k s
/-- the class's ghost: k years of sale 7 -/
def gh : Nat → St → Option St
  | 0, σ => some σ
  | k + 1, σ => (gh k σ).bind (fun s => (fX0_passYear s 7).bind (fun q => some q.2))
theorem gh_sim {t : Bool} {n np : Nat} {G0 σ3 : St} (C : CX t n np G0 σ3) (S : SR n 9999 9000 G0 7 σ3 1) (h61 : gI σ3 0 61 = 0) : ∀ k, k ≤ 1000 → ∃ g σ4, gh k G0 = some g ∧ itM 1 k σ3 = some σ4 ∧ SR n 9999 (9000 + k) g 7 σ4 1 ∧ CX t n np g σ4 ∧ frM 1 σ3 σ4 ∧ gI σ4 0 61 = 0 ∧ nodr σ3 σ4
  | 0, _ => ⟨G0, σ3, rfl, rfl, S, C, frM.rf _ _, h61, fun _ => rfl⟩
  | k + 1, hk => by
    obtain ⟨g, σ4, e1, e2, e3, e4, e5, e6, e7⟩ := gh_sim C S h61 k (by omega)
    obtain ⟨q, σ5, f1, f2, y1, y2, y3, y4, y5, y6, y7, y8, y9⟩ := year_sim e4 e3 (Or.inl e6) ⟨by omega, by omega⟩ (by omega) ⟨by omega, by omega⟩ (b := 1) (by omega)
    refine ⟨q.2, σ5, ?_, ?_, y1, e4.cg ⟨by omega, by omega⟩ y4 y5, e5.tr y5, by rw [y5.1 61 (by omega) (by omega)]; exact e6, fun z => by rw [y7 e6, e7 z]⟩
    · rw [gh, e1, bS, f1, bS]
    · rw [itM_back, e2, bS, f2]
def wBr (G0 s : St) : Prop := (∀ o, o ≠ 6 → o ≠ 7 → gI s o = gI G0 o) ∧ (∀ o, o ≠ 6 → o ≠ 7 → gA s o = gA G0 o) ∧ gR s = gR G0
theorem CX.wB {t : Bool} {n np : Nat} {G0 s σM : St} (C : CX t n np G0 σM) (h : wBr G0 s) : CX t n np s σM := by
  have a1 := tx_le t
  have a2 := lw_le t
  exact ⟨C.1.cg (h.1 _ (by omega) (by omega)) (by rw [h.1 _ (by omega) (by omega)]) (h.2.1 _ (by omega) (by omega)) (h.2.1 _ (by omega) (by omega)) (fun _ _ _ => rfl) (fun _ _ _ => rfl), by rw [h.2.2]; exact C.2.1, fun k k1 k2 => by rw [h.1 14 (by omega) (by omega)]; exact C.2.2.1 k k1 k2, C.2.2.2⟩
theorem fa_simY {t : Bool} {n np k BM Y : Nat} {σB σM : St} (R : REL0 t n np σB σM) (C : CX t n np σB σM) (S : SR n BM Y σB 6 σM 1) (hY : Y ≤ 10000) (hBM : 9999 ≤ BM ∧ BM ≤ 20000) (h61 : gI σM 0 61 = 0) (hk : k < 1000) : ∃ r σB' σM', fX0_yearsToFall σB 6 (nI k) = some (r, σB') ∧ fX10_fallsBy σM (nI k) = some (r, σM') ∧ REL0 t n np σB' σM' ∧ ((r = -2 ∧ gI σB' 6 14 = 0) ∨ (∃ z, z < 20000 ∧ r = nI z) ∧ SR n BM 20000 σB' 6 σM' 1 ∧ gI σB' 6 14 = 1) ∧ frB 6 σB σB' ∧ frM 1 σM σM' := by
  rw [yearsToFall_it σB 6 k (by omega), fallsBy_it σM k (by omega)]
  obtain ⟨⟨r, σB'⟩, ⟨r', σM'⟩, e1, e2, r1, r2, r3, r4, r5⟩ := fall_sim (o := 6) hBM ⟨by omega, by omega⟩ k 0 Y σB σM C S (Or.inl h61) (by omega) (by omega) (Or.inr rfl)
  cases r1
  refine ⟨r, σB', σM', e1, e2, R.q (qB.fr (Or.inl rfl) r2) (qM.fr r3 (r4 h61)), ?_, r2, r3⟩
  rcases r5 with r5 | ⟨r5, r6, r7⟩
  · exact Or.inl r5
  · exact Or.inr ⟨r5, r6.mono (Nat.le_refl _) (by omega), r7⟩
def wQ : Int32 × St → Int32 × St → Prop := fun q q' => q.1 = q'.1 ∧ REL q.2 q'.2
/-- one round of when: what is tried -/
theorem whStep {t : Bool} {n np h k : Nat} {G0 : St} (hh : h < n) (hk : k ≤ 40) (s s' : St) (Rs : REL0 t n np s s') (hw : wBr G0 s) (hG7 : ∀ k j, k < 6 → j < 6 → gA G0 7 k j = gA G0 5 k j) (hG8 : ∀ k, 6 ≤ k → k ≤ 14 → gI G0 7 k = gI G0 5 k) (hG2 : gR G0 2 = t) (hGf : ∀ k, 2 ≤ k → k ≤ 6 → gI G0 14 k = 0) (hs : ∃ g σ5, gh k G0 = some g ∧ SR n 9999 (9000 + k) g 7 σ5 1 ∧ SR n 9999 (9000 + k) s 7 σ5 1) :
    ∃ σ26 σ23 σ25, fX4_become s 6 7 = some σ26 ∧ fX10_layTried s' = some σ23 ∧ fX10_goMany σ23 (nI k) = some σ25 ∧ REL0 t n np σ26 σ25 ∧ CX t n np σ26 σ25 ∧ SR n 9999 (9000 + k) σ26 6 σ25 1 ∧ gI σ25 0 61 = 0 ∧ wBr G0 σ26 ∧ (∀ σ31, frB 6 σ26 σ31 → ∀ s2', REL0 t n np σ31 s2' → ∃ q σ35, fX0_passYear σ31 7 = some (q, σ35) ∧ REL0 t n np σ35 s2' ∧ wBr G0 σ35 ∧ ∃ g σ5, gh (k + 1) G0 = some g ∧ SR n 9999 (9000 + (k + 1)) g 7 σ5 1 ∧ SR n 9999 (9000 + (k + 1)) σ35 7 σ5 1) := by
  have hn6 := Rs.2.2.1.n6
  obtain ⟨g, σ5, g1, g2, g3⟩ := hs
  obtain ⟨σ26, b1, b2, b3, b4, b5, b6, b7⟩ := become_eq s 6 7 (by omega) g3.2.2.2.2.2.2.2.2.2
  obtain ⟨σ23, l1, l2, l3, l4, l5, l6, l7⟩ := layTried_eq s'
  have QM3 : qM s' σ23 := ⟨fun k _ _ h => l3 k (by omega), fun k h _ => l5 k h, fun k j k1 k2 k3 => (l6 k j k1 k2 k3).1, fun k k1 k2 => (l7 k k1 k2).1, by rw [l4], by rw [l4]⟩
  have R3 := Rs.q (qB.rf _) QM3
  have C3 : CX t n np G0 σ23 := by
    have a1 := tx_le t
    have a2 := lw_le t
    exact ⟨R3.2.2.1.cg (hw.1 _ (by omega) (by omega)).symm (by rw [hw.1 _ (by omega) (by omega)]) (hw.2.1 _ (by omega) (by omega)).symm (hw.2.1 _ (by omega) (by omega)).symm (fun _ _ _ => rfl) (fun _ _ _ => rfl), hG2, fun k k1 k2 => by rw [hGf k k1 k2]; exact (l2 (59 + k) (by omega) (by omega)).symm, Or.inl (l2 61 (by omega) (by omega))⟩
  have S3 : SR n 9999 9000 G0 7 σ23 1 := lay_sim Rs.2.2.2.1 hn6 (fun k j hk hj => by rw [hG7 k j hk hj, hw.2.1 5 (by omega) (by omega)]) (fun k k1 k2 => by rw [hG8 k k1 k2, hw.1 5 (by omega) (by omega)]) l6 l7
  obtain ⟨g', σ25, e1, e2, e3, e4, e5, e6, e7⟩ := gh_sim C3 S3 (l2 61 (by omega) (by omega)) k (by omega)
  rw [g1] at e1
  cases e1
  have S4 : SR n 9999 (9000 + k) s 7 σ25 1 := SR.tr3 hn6 g2 g3 e3
  have S6 : SR n 9999 (9000 + k) σ26 6 σ25 1 := S4.cp (fun k j hk hj => b2 k j (by omega) (by omega)) (fun k hk => b3 k (by unfold isS at hk; omega) (by unfold isS at hk; omega)) (fun _ _ _ _ _ => rfl) (fun _ _ _ => rfl)
  have hw26 : wBr G0 σ26 := ⟨fun o o1 o2 => by rw [b4 o o1, hw.1 o o1 o2], fun o o1 o2 => by rw [b5 o o1, hw.2.1 o o1 o2], by rw [b6, hw.2.2]⟩
  have QB : qB s σ26 := ⟨fun o o1 _ _ => b4 o o1, fun o k o1 _ _ _ => by rw [b5 o o1], fun k _ => by rw [b6]⟩
  have R25 := R3.q QB (qM.fr e5 (e7 (l2 61 (by omega) (by omega))))
  have C25g : CX t n np G0 σ25 := C3.cg (b := 1) ⟨Nat.le_refl 5, by omega⟩ (frB.rf _ _) e5
  refine ⟨σ26, σ23, σ25, b1, l1, by rw [goMany_it _ k (by omega)]; exact e2, R25, C25g.wB hw26, S6, e6, hw26, ?_⟩
  intro σ31 fr s2' R31
  have hw31 : wBr G0 σ31 := ⟨fun o o1 o2 => by rw [fr.1 o o1, hw26.1 o o1 o2], fun o o1 o2 => by rw [fr.2.1 o o1, hw26.2.1 o o1 o2], by rw [fr.2.2.1, hw26.2.2]⟩
  have S31 : SR n 9999 (9000 + k) σ31 7 σ25 1 := S4.cg ⟨fun k _ => by rw [fr.2.1 7 (by omega), b5 7 (by omega)], fun k _ _ => by rw [fr.1 7 (by omega), b4 7 (by omega)]⟩ (agM.rf _ _ _)
  obtain ⟨q, σ5a, f1, f2, y1, y2, y3, y4, y5, y6, y7, y8, y9⟩ := year_sim (C25g.wB hw31) S31 (Or.inl e6) ⟨by omega, by omega⟩ (by omega) ⟨by omega, by omega⟩ (b := 1) (by omega)
  obtain ⟨q', σ5b, f1', f2', y1', -⟩ := year_sim e4 e3 (Or.inl e6) ⟨by omega, by omega⟩ (by omega) ⟨by omega, by omega⟩ (b := 1) (by omega)
  rw [f2] at f2'
  cases f2'
  refine ⟨q.1, q.2, f1, R31.q (qB.fr (Or.inr rfl) y4) (qM.rf _), ⟨fun o o1 o2 => by rw [y4.1 o o2, hw31.1 o o1 o2], fun o o1 o2 => by rw [y4.2.1 o o2, hw31.2.1 o o1 o2], by rw [y4.2.2.1, hw31.2.2]⟩, q'.2, σ5a, ?_, y1', y1⟩
  rw [gh, g1, bS, f1', bS]
