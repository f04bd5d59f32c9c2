/-- a law of both sides: told by the same knots, or by neither -/
def lawR (σB σM : St) (t : Bool) (w : Nat) : Prop := ∃ f u : Nat, f ≤ u ∧ u ≤ 64 ∧ gA σB (lw t) 2 w = nI f ∧ gA σB (lw t) 3 w = nI u ∧ gA σM 0 29 w = (if f < u then 1 else 0) ∧ (f < u → gA σM 0 30 w = nI f ∧ gA σM 0 31 w = nI u ∧ WFp σB σM t f u)
theorem lawBoth {σB σM : St} {t : Bool} {w o h : Nat} (ht : gR σB 2 = t) (hw : w < 3) (hh : h < 6) (hL : lawR σB σM t w) (hn : ∀ k, k < 7 → gL σM 0 43 k = (nmB σB o h k).toInt64) :
    ∃ (Lv : Option Int64) (rB : Int64) (σB' : St), fX0_valueOf σB (nI w) o (nI h) = some (rB, σB') ∧ onlyStk σB σB' ∧ (∀ z, Lv = some z → rB = z ∧ inL z) ∧ (Lv = none → rB = -9223372036854775808) ∧ (gA σM 0 29 w = 0 → Lv = none) ∧ (gA σM 0 29 w = 0 ∨ gA σM 0 29 w = 1) ∧ (¬ gA σM 0 29 w = 0 → ∃ v σM', fX10_lawOf σM (nI w) = some (v, σM') ∧ onlyLaw σM σM' ∧ (∀ z, Lv = some z → v = z ∧ gI σM' 0 45 = 0) ∧ (Lv = none → gI σM' 0 45 = 1)) := by
  obtain ⟨f, u, h1, h2, h3, h4, h5, h6⟩ := hL
  by_cases hfu : f < u
  · rw [if_pos hfu] at h5
    obtain ⟨k1, k2, k3⟩ := h6 hfu
    obtain ⟨r, σ', e1, e2, e3, e4⟩ := blaw (o := o) (h := h) ht hw h3 h4 hfu h2 k3 (fun k hk => ⟨_, nameOf_eq σB o h k hh hk, (hn k hk).symm⟩)
    obtain ⟨v, σ2, g1, g2, g3, g4, g5⟩ := mlaw hw hfu h2 k1 k2 k3 (fun k hk => by rw [hn k hk]; exact inL_32 _)
    refine ⟨lawV σM f u, r, σ', e1, e2, e3, e4, fun z => ?_, Or.inr h5, fun _ => ⟨v, σ2, g1, g2, fun z hz => ⟨(g4 z hz).1, (g4 z hz).2.2⟩, g5⟩⟩
    rw [h5] at z
    exact absurd z (by decide)
  · rw [if_neg hfu] at h5
    have : f = u := by omega
    subst this
    exact ⟨none, _, _, blaw0 ht hw h3 h4 h2, onlyStk.rf σB, fun z hz => (by cases hz), fun _ => rfl, fun _ => rfl, Or.inl h5, fun z => absurd h5 z⟩
/-- a law's number held between 0 and most; without one what there is -/
def clampV (Lv : Option Int64) (without : Int32) (most : Int64) : Int32 := match Lv with
  | none => without
  | some z => if z < 0 then 0 else if most < z then most.toInt32 else z.toInt32
theorem notMin {z : Int64} (h : inL z) : ¬ z = -9223372036854775808 := fun e => min_notL (e ▸ h)
theorem onlyLaw.err {a b : St} (h : onlyLaw a b) : gA b = gA a := h.2.1
theorem boundLaw_eq {σM : St} {w : Nat} (hw : w < 3) {Lv : Option Int64} (h0 : gA σM 0 29 w = 0 → Lv = none) (h1 : ¬ gA σM 0 29 w = 0 → ∃ v σM', fX10_lawOf σM (nI w) = some (v, σM') ∧ onlyLaw σM σM' ∧ (∀ z, Lv = some z → v = z ∧ gI σM' 0 45 = 0) ∧ (Lv = none → gI σM' 0 45 = 1)) (wo : Int32) (m : Nat) (hm : m < 100000) :
    ∃ σM', fX10_boundLaw σM (nI w) wo (nI m) = some (clampV Lv wo (nI m).toInt64, σM') ∧ onlyLaw σM σM' := by
  unfold fX10_boundLaw
  rw [gd_pos (ixN (by omega) (by omega)), clN (by omega)]
  by_cases h : gA σM 0 29 w = 0
  · rw [if_pos h, h0 h]
    exact ⟨_, rfl, onlyLaw.rf _⟩
  · rw [if_neg h]
    obtain ⟨v, σ', e, e2, e3, e4⟩ := h1 h
    rw [e]
    simp only [bL, Option.bind_some, jnx1_eq, lc_ge, lc_le]
    cases Lv with
    | none =>
      rw [e4 rfl, if_neg (by decide)]
      exact ⟨_, rfl, e2⟩
    | some z =>
      obtain ⟨rfl, ez⟩ := e3 z rfl
      rw [ez, if_pos rfl]
      refine ⟨σ', ?_, e2⟩
      unfold clampV
      by_cases c1 : (0 : Int64) ≤ v
      · rw [if_pos c1]
        simp only [if_neg (Int64.not_lt.mpr c1)]
        by_cases c2 : v ≤ (nI m).toInt64
        · rw [if_pos c2, if_neg (Int64.not_lt.mpr c2)]
        · rw [if_neg c2, if_pos (Int64.not_le.mp c2), Int32.toInt32_toInt64]
      · rw [if_neg c1]
        simp only [if_pos (Int64.not_le.mp c1)]
