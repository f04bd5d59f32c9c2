/-! loops of which the class's goes on alone -/
theorem simE2_2 {A0 A1 B0 B1 α β : Type} {F : (A0 → A1 → Option α) → A0 → A1 → Option α} {G : (B0 → B1 → Option β) → B0 → B1 → Option β} (Q : α → β → Prop) (I : Nat → A0 → A1 → B0 → B1 → Prop) (E : Nat → A0 → A1 → β → Prop)
    (hE : ∀ (j : Nat) (sF : A0 → A1 → Option α) (a0 : A0) (a1 : A1) (y : β), E j a0 a1 y → (∀ (j' : Nat) (a0 : A0) (a1 : A1), j' < j → E j' a0 a1 y → SIM Q (sF a0 a1) (some y)) → SIM Q (F sF a0 a1) (some y))
    (h : ∀ (j : Nat) (sF : A0 → A1 → Option α) (sG : B0 → B1 → Option β) (a0 : A0) (a1 : A1) (b0 : B0) (b1 : B1), I j a0 a1 b0 b1 → (∀ (j' : Nat) (a0 : A0) (a1 : A1) (b0 : B0) (b1 : B1), j' < j → I j' a0 a1 b0 b1 → SIM Q (sF a0 a1) (sG b0 b1)) → (∀ (j' : Nat) (a0 : A0) (a1 : A1) (y : β), j' < j → E j' a0 a1 y → SIM Q (sF a0 a1) (some y)) → SIM Q (F sF a0 a1) (G sG b0 b1)) : ∀ (f f' j : Nat) (a0 : A0) (a1 : A1) (b0 : B0) (b1 : B1), j < f → j < f' → I j a0 a1 b0 b1 → SIM Q (lpx2 f F a0 a1) (lpx2 f' G b0 b1)
  | 0, _, _, _, _, _, _, hj, _, _ => absurd hj (Nat.not_lt_zero _)
  | _, 0, _, _, _, _, _, _, hj, _ => absurd hj (Nat.not_lt_zero _)
  | f + 1, f' + 1, j, a0, a1, b0, b1, hj, hj2, hi => h j (lpx2 f F) (lpx2 f' G) a0 a1 b0 b1 hi (fun j' a0' a1' b0' b1' hj' hi' => simE2_2 Q I E hE h f f' j' a0' a1' b0' b1' (by omega) (by omega) hi') (fun j' a0' a1' y hj' hy => lpx2_wp (fun q => SIM Q q (some y)) (fun j a0 a1 => E j a0 a1 y) (fun j self a0 a1 hi ih => hE j self a0 a1 y hi ih) f j' a0' a1' (by omega) hy)
theorem simE3_3 {A0 A1 A2 B0 B1 B2 α β : Type} {F : (A0 → A1 → A2 → Option α) → A0 → A1 → A2 → Option α} {G : (B0 → B1 → B2 → Option β) → B0 → B1 → B2 → Option β} (Q : α → β → Prop) (I : Nat → A0 → A1 → A2 → B0 → B1 → B2 → Prop) (E : Nat → A0 → A1 → A2 → β → Prop)
    (hE : ∀ (j : Nat) (sF : A0 → A1 → A2 → Option α) (a0 : A0) (a1 : A1) (a2 : A2) (y : β), E j a0 a1 a2 y → (∀ (j' : Nat) (a0 : A0) (a1 : A1) (a2 : A2), j' < j → E j' a0 a1 a2 y → SIM Q (sF a0 a1 a2) (some y)) → SIM Q (F sF a0 a1 a2) (some y))
    (h : ∀ (j : Nat) (sF : A0 → A1 → A2 → Option α) (sG : B0 → B1 → B2 → Option β) (a0 : A0) (a1 : A1) (a2 : A2) (b0 : B0) (b1 : B1) (b2 : B2), I j a0 a1 a2 b0 b1 b2 → (∀ (j' : Nat) (a0 : A0) (a1 : A1) (a2 : A2) (b0 : B0) (b1 : B1) (b2 : B2), j' < j → I j' a0 a1 a2 b0 b1 b2 → SIM Q (sF a0 a1 a2) (sG b0 b1 b2)) → (∀ (j' : Nat) (a0 : A0) (a1 : A1) (a2 : A2) (y : β), j' < j → E j' a0 a1 a2 y → SIM Q (sF a0 a1 a2) (some y)) → SIM Q (F sF a0 a1 a2) (G sG b0 b1 b2)) : ∀ (f f' j : Nat) (a0 : A0) (a1 : A1) (a2 : A2) (b0 : B0) (b1 : B1) (b2 : B2), j < f → j < f' → I j a0 a1 a2 b0 b1 b2 → SIM Q (lpx3 f F a0 a1 a2) (lpx3 f' G b0 b1 b2)
  | 0, _, _, _, _, _, _, _, _, hj, _, _ => absurd hj (Nat.not_lt_zero _)
  | _, 0, _, _, _, _, _, _, _, _, hj, _ => absurd hj (Nat.not_lt_zero _)
  | f + 1, f' + 1, j, a0, a1, a2, b0, b1, b2, hj, hj2, hi => h j (lpx3 f F) (lpx3 f' G) a0 a1 a2 b0 b1 b2 hi (fun j' a0' a1' a2' b0' b1' b2' hj' hi' => simE3_3 Q I E hE h f f' j' a0' a1' a2' b0' b1' b2' (by omega) (by omega) hi') (fun j' a0' a1' a2' y hj' hy => lpx3_wp (fun q => SIM Q q (some y)) (fun j a0 a1 a2 => E j a0 a1 a2 y) (fun j self a0 a1 a2 hi ih => hE j self a0 a1 a2 y hi ih) f j' a0' a1' a2' (by omega) hy)
theorem hasFallenTo_eq (σ : St) (o : Nat) (p0 : Int32) : fX4_hasFallenTo σ o p0 = some (if ¬ gI σ o 14 = 0 ∧ gI σ o 10 = p0 then 1 else 0) := by
  unfold fX4_hasFallenTo
  simp only [jnx1_eq, gdb0, gdb1]
  by_cases c : gI σ o 14 = 0
  · rw [if_pos c, if_neg (fun z => z.1 c)]
  · rw [if_neg c]
    by_cases c2 : gI σ o 10 = p0
    · rw [if_pos c2, if_pos ⟨c, c2⟩]
    · rw [if_neg c2, if_neg (fun z => c2 z.2)]
theorem six1 (h : Nat) : (6 : Int32) + nI h = nI (6 + h) := by rw [show (6 : Int32) = nI 6 from rfl, nI_add]
theorem qB.t6 {σ : St} (k h : Nat) (x : Int32) : qB σ (sA σ 6 k h x) := ⟨fun _ _ _ _ => rfl, fun o k' h1 _ _ _ => gAo h1, fun _ _ => rfl⟩
theorem qM.s1 {σ : St} (k h : Nat) (x : Int32) (hk : 46 ≤ k ∧ k ≤ 53) : qM σ (sA σ 0 k (6 + h) x) := by
  refine ⟨fun _ _ _ _ => rfl, fun k' h1 _ => gAn (by omega), fun k' j h1 h2 h3 => ?_, fun k' h1 h2 => ?_, rfl, rfl⟩
  · by_cases e : k' = k
    · subst e
      rw [gAe, upd_at, if_neg (by omega)]
    · rw [gAn e]
  · rw [gAn (by omega)]
/-- bound changed in the trial: both sides -/
theorem trialBound {t : Bool} {n np BM h v : Nat} {σB σM : St} (R : REL0 t n np σB σM) (C : CX t n np σB σM) (S : SR n BM 9000 σB 6 σM 1) (hh : h < n) (hv : v ≤ BM) : REL0 t n np (sA σB 6 0 h (nI v)) (sA σM 0 46 (6 + h) (nI v)) ∧ CX t n np (sA σB 6 0 h (nI v)) (sA σM 0 46 (6 + h) (nI v)) ∧ SR n BM 9000 (sA σB 6 0 h (nI v)) 6 (sA σM 0 46 (6 + h) (nI v)) 1 := by
  have hn6 := C.1.n6
  have S1 : SR n BM 9000 (sA σB 6 0 h (nI v)) 6 (sA σM 0 46 (6 * 1 + h) (nI v)) 1 := S.setA 0 h _ (by omega) ⟨fun _ => ⟨v, by omega, hv, rfl⟩, fun z => by omega, fun z => by omega⟩
  rw [show 6 * 1 + h = 6 + h by omega] at S1
  exact ⟨R.q (qB.t6 _ _ _) (qM.s1 _ _ _ (by omega)), C.cg (b := 1) ⟨by omega, by omega⟩ (frB.wA _ _ _ _ (by omega)) (frM.wA _ _ _ _ (Or.inl ⟨by omega, by omega, by omega, by omega⟩)), S1⟩
theorem tried_now {t : Bool} {n np : Nat} {s s' σB3 σM3 : St} (Rs : REL0 t n np s s') (e2 : fX10_layTried s' = some σM3) (e4 : SR n 9999 9000 σB3 6 σM3 1) : gI σB3 6 14 = gI s 5 14 ∧ gI σB3 6 10 = gI s 5 10 := by
  obtain ⟨w1, w2, -, -, -, -, -, w3⟩ := layTried_eq s'
  rw [e2] at w2
  cases w2
  constructor
  · have u1 : gI σB3 6 14 = gA σM3 0 57 1 := e4.2.2.1 14 (by unfold isS; omega)
    have u2 : gI s 5 14 = gA s' 0 57 0 := Rs.2.2.2.1.2.2.1 14 (by unfold isS; omega)
    rw [u1, (w3 57 (by omega) (by omega)).2, if_pos rfl, u2]
    exact narB (by rw [← u2]; exact Rs.2.2.2.1.2.2.2.2.2.2.2.2.2)
  · have u1 : gI σB3 6 10 = gA σM3 0 55 1 := e4.2.2.1 10 (by unfold isS; omega)
    have u2 : gI s 5 10 = gA s' 0 55 0 := Rs.2.2.2.1.2.2.1 10 (by unfold isS; omega)
    rw [u1, (w3 55 (by omega) (by omega)).2, if_neg (by omega), u2]
theorem hit_iff {n BM h : Nat} {r : Int32} {σB4 σM4 : St} (q4 : (r = -2 ∧ gI σB4 6 14 = 0) ∨ (∃ z, z < 20000 ∧ r = nI z) ∧ SR n BM 10000 σB4 6 σM4 1 ∧ gI σB4 6 14 = 1) : (¬ gI σB4 6 14 = 0 ∧ gI σB4 6 10 = nI h) ↔ (¬ r < 0 ∧ gA σM4 0 55 1 = nI h) := by
  rcases q4 with ⟨rfl, q7⟩ | ⟨⟨z, hz, rfl⟩, q7, q8⟩
  · exact ⟨fun z => absurd q7 z.1, fun z => absurd (show (-2 : Int32) < 0 by decide) z.1⟩
  · have a10 : gI σB4 6 10 = gA σM4 0 55 1 := q7.2.2.1 10 (by unfold isS; omega)
    rw [a10, q8]
    exact ⟨fun w => ⟨nI_neg (by omega), w.2⟩, fun w => ⟨ne10, w.2⟩⟩
set_option maxHeartbeats 1000000 in
/-- one round of letGo -/
theorem letStep {t : Bool} {n np h : Nat} (hh : h < n) (i : Nat) (s s' : St) (hi : i ≤ 300) (Rs : REL0 t n np s s') : ∃ σB3 r σB4 σM3 σM4, fX9_tryAsItGoes s = some σB3 ∧ fX10_layTried s' = some σM3 ∧ fX0_yearsToFall (sA σB3 6 0 h (gA σB3 6 0 h + nI i)) 6 120 = some (r, σB4) ∧ fX10_fallsBy (sA σM3 0 46 (6 + h) (gA σM3 0 46 (6 + h) + nI i)) 120 = some (r, σM4) ∧ REL0 t n np σB4 σM4 ∧ ((¬ gI σB4 6 14 = 0 ∧ gI σB4 6 10 = nI h) ↔ (¬ r < 0 ∧ gA σM4 0 55 1 = nI h)) ∧ gA σM4 0 57 0 = gA s' 0 57 0 ∧ (¬ gI s 5 14 = 0 → r = 0 ∧ gI σB4 6 10 = gI s 5 10 ∧ ¬ gI σB4 6 14 = 0) ∧ qB s σB4 := by
  obtain ⟨σB3, σM3, e1, e2, e3, e4, e5, e6, e7, e8⟩ := try_sim Rs
  have R3 := Rs.q e6 e7
  obtain ⟨v, -, v1, v2⟩ := e4.2.2.2.1 h hh
  have v3 : gA σM3 0 46 (6 + h) = nI v := by
    have := e4.1 0 (by omega) h hh
    rw [v2] at this
    exact this.symm
  obtain ⟨R4, C4, S4⟩ := trialBound (v := v + i) R3 e3 (e4.mono (BM' := 10299) (Y' := 9000) (by omega) (by omega)) hh (by omega)
  obtain ⟨r, σB4, σM4, q1, q2, q3, q4, q5, q6⟩ := fa_sim (k := 120) R4 C4 S4 ⟨by omega, by omega⟩ (e5 61 (by omega) (by omega)) (by omega)
  have q1' : fX0_yearsToFall (sA σB3 6 0 h (nI (v + i))) 6 120 = _ := q1
  have q2' : fX10_fallsBy (sA σM3 0 46 (6 + h) (nI (v + i))) 120 = _ := q2
  obtain ⟨b1, b2⟩ := tried_now Rs e2 e4
  refine ⟨σB3, r, σB4, σM3, σM4, e1, e2, ?_, ?_, q3, hit_iff q4, ?_, ?_, (e6.tr (qB.t6 0 h (nI (v + i)))).tr (qB.fr (Or.inl rfl) q5)⟩
  · rw [v2, nI_add, q1']
  · rw [v3, nI_add, q2']
  · rw [q6.2.2.2.1 57 0 (by omega) (by omega) (by omega)]
    show gA (sA σM3 0 46 (6 + h) (nI (v + i))) 0 57 0 = _
    rw [gAn (by omega), e7.2.2.2.1 57 (by omega) (by omega)]
  · intro hf
    have hb1 : ¬ gI (sA σB3 6 0 h (nI (v + i))) 6 14 = 0 := fun z => hf (by rw [← b1]; exact z)
    rw [yearsToFall_it _ 6 120 (by omega), itY, if_neg hb1] at q1
    cases q1
    exact ⟨rfl, b2, hb1⟩
set_option maxHeartbeats 1000000 in
theorem st14 : ST14 REL := by
  rintro σB σM a0 ⟨t, n, np, R⟩
  have hn6 := R.2.2.1.n6
  unfold fX9_letGo fX10_letGo
  simp only [lt_eq, jnx1_eq, cl0, cl1]
  rw [isInB_eq a0 hn6 (by rw [R.1]; exact R.2.2.1.hB) R.th.2.2.2.1, isOnNow_eq a0 hn6 R.th.2.2.1.hM R.th.2.2.2.1.bool0, bS, bS, ifi0, ifi0]
  by_cases c0 : (0 ≤ a0 ∧ a0 < nI n) ∧ gA (sI σM 0 2 0) 0 49 a0.toNatClampNeg = 1
  · rw [if_pos c0, if_pos c0]
    obtain ⟨h, hh, rfl⟩ := house_nat hn6 c0.1
    have R0 := R.th
    clear c0
    generalize sI σM 0 2 0 = σ1 at *
    generalize hFU : FU = Z
    simp only [six1, clN (show h < 1000000 by omega), clN (show 6 + h < 1000000 by omega), gdN (show h < 6 by omega) (show 6 ≤ 1000000 by omega), gdN (show 6 + h < 12 by omega) (show 12 ≤ 1000000 by omega)]
    refine simE2_2 _ (fun j x s x' s' => ∃ i, i + j = 301 ∧ x = nI i ∧ x' = nI i ∧ REL0 t n np s s') (fun j x s y => ∃ i, i + j = 301 ∧ x = nI i ∧ y.1 = -2 ∧ REL0 t n np s y.2 ∧ ¬ gI s 5 14 = 0 ∧ ¬ gI s 5 10 = nI h) ?_ ?_ Z Z 301 0 σB 0 σ1 (by rw [← hFU]; exact FU_gt (by omega)) (by rw [← hFU]; exact FU_gt (by omega)) ⟨0, by omega, rfl, rfl, R0⟩
    · rintro j sF x s y ⟨i, hi, rfl, hy, Rs, hf, hl⟩ ih
      by_cases c : 300 < i
      · rw [if_pos (show (300 : Int32) < nI i from (ltN (a := 300) (b := i) (by omega) (by omega)).mpr c)]
        exact SIM.ret ⟨hy.symm, Rs.r⟩
      · rw [if_neg (show ¬ (300 : Int32) < nI i from fun z => c ((ltN (a := 300) (b := i) (by omega) (by omega)).mp z))]
        obtain ⟨σB3, r, σB4, σM3, σM4, f1, f2, f3, f4, f5, f6, f7, f8, f9⟩ := letStep hh i s y.2 (by omega) Rs
        rw [f1, bVs, f3, bIs, hasFallenTo_eq, bS, ifi0, if_neg (show ¬ (¬ gI σB4 6 14 = 0 ∧ gI σB4 6 10 = nI h) from fun z => hl (by rw [← (f8 hf).2.1]; exact z.2))]
        exact ih (j - 1) _ _ (by omega) ⟨i + 1, by omega, nI_1 i, hy, Rs.q f9 (qM.rf _), by rw [f9.1 5 (by omega) (by omega) (by omega)]; exact hf, by rw [f9.1 5 (by omega) (by omega) (by omega)]; exact hl⟩
    · rintro j sF sG x s x' s' ⟨i, hi, rfl, rfl, Rs⟩ ih ihE
      by_cases c : 300 < i
      · rw [if_pos (show (300 : Int32) < nI i from (ltN (a := 300) (b := i) (by omega) (by omega)).mpr c), if_pos (show (300 : Int32) < nI i from (ltN (a := 300) (b := i) (by omega) (by omega)).mpr c)]
        exact SIM.ret ⟨rfl, Rs.r⟩
      · rw [if_neg (show ¬ (300 : Int32) < nI i from fun z => c ((ltN (a := 300) (b := i) (by omega) (by omega)).mp z)), if_neg (show ¬ (300 : Int32) < nI i from fun z => c ((ltN (a := 300) (b := i) (by omega) (by omega)).mp z))]
        obtain ⟨σB3, r, σB4, σM3, σM4, f1, f2, f3, f4, f5, f6, f7, f8, f9⟩ := letStep hh i s s' (by omega) Rs
        rw [f1, f2, bVs, bVs, f3, f4, bIs, bIs, hasFallenTo_eq, bS, ifi0]
        have goOn : ¬ (¬ gI σB4 6 14 = 0 ∧ gI σB4 6 10 = nI h) → SIM (fun q q' => q.1 = q'.1 ∧ REL q.2 q'.2) (sF (nI i + 1) σB4) (if gA σM4 0 57 0 = 0 then sG (nI i + 1) σM4 else some (-2, σM4)) := by
          intro hn
          by_cases c2 : gA σM4 0 57 0 = 0
          · rw [if_pos c2]
            exact ih (j - 1) _ _ _ _ (by omega) ⟨i + 1, by omega, nI_1 i, nI_1 i, f5⟩
          · rw [if_neg c2]
            have e14 : gI s 5 14 = gA s' 0 57 0 := Rs.2.2.2.1.2.2.1 14 (by unfold isS; omega)
            have hf : ¬ gI s 5 14 = 0 := by rw [e14, ← f7]; exact c2
            obtain ⟨k1, k2, k3⟩ := f8 hf
            exact ihE (j - 1) _ _ (-2, σM4) (by omega) ⟨i + 1, by omega, nI_1 i, rfl, f5, by rw [f9.1 5 (by omega) (by omega) (by omega)]; exact hf, fun z => hn ⟨k3, by rw [k2, ← z, f9.1 5 (by omega) (by omega) (by omega)]⟩⟩
        by_cases c2 : r < 0
        · have hn : ¬ (¬ gI σB4 6 14 = 0 ∧ gI σB4 6 10 = nI h) := fun z => (f6.mp z).1 c2
          rw [if_pos c2, if_neg hn]
          exact goOn hn
        · rw [if_neg c2]
          by_cases c3 : gA σM4 0 55 1 = nI h
          · rw [if_pos c3, if_pos (f6.mpr ⟨c2, c3⟩)]
            exact SIM.ret ⟨rfl, f5.r⟩
          · have hn : ¬ (¬ gI σB4 6 14 = 0 ∧ gI σB4 6 10 = nI h) := fun z => c3 (f6.mp z).2
            rw [if_neg c3, if_neg hn]
            exact goOn hn
  · rw [if_neg c0, if_neg c0]
    exact SIM.ret ⟨rfl, R.th.r⟩
