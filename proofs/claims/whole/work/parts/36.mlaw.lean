/-- the knots from f on, n of them -/
def ev (σM : St) (f : Nat) : Nat → Option (Nat → Int64)
  | 0 => some (fun _ => 0)
  | n + 1 => match ev σM f n with
    | none => none
    | some V => match stV σM (f + n) V with
      | none => none
      | some v => some (vp_updL V (f + n) v)
def lawV (σM : St) (f u : Nat) : Option Int64 := (ev σM f (u - f)).map (fun V => V (u - 1))
theorem stV_congr {σB σ : St} {t : Bool} {i f : Nat} {s s' : List Nat} (hi : i < 64) (hst : stepOK σB σ t i s s') (hs : ∀ j ∈ s, f ≤ j ∧ j < i) {V V' : Nat → Int64} (h : ∀ j, f ≤ j → j < i → V j = V' j) : stV σ i V = stV σ i V' := by
  rcases hst with ⟨h1, -, -, -⟩ | ⟨h1, k, hk, h2, -, -⟩ | ⟨h1, -, x, r, rfl, h3, -⟩ | ⟨c, hc1, hc2, h1, -, x, y, r, rfl, h3, h4, -⟩
  · rw [stV, stV, if_pos h1, if_pos h1]
  · rw [stV, stV, if_neg (show ¬ gA σ 0 32 i = 0 from (by rw [h1]; decide)), if_neg (show ¬ gA σ 0 32 i = 0 from (by rw [h1]; decide)), if_pos h1, if_pos h1]
  · have hx := hs x (by simp)
    rw [stV, stV, if_neg (show ¬ gA σ 0 32 i = 0 from (by rw [h1]; decide)), if_neg (show ¬ gA σ 0 32 i = 0 from (by rw [h1]; decide)), if_neg (show ¬ gA σ 0 32 i = 1 from (by rw [h1]; decide)), if_neg (show ¬ gA σ 0 32 i = 1 from (by rw [h1]; decide)), if_pos h1, h3, clN (by omega), h x hx.1 hx.2]
  · have hx := hs x (by simp)
    have hy := hs y (by simp)
    have n0 : ∀ d : Nat, d < 3 → ¬ gA σ 0 32 i = nI d := fun d hd z => by
      rw [h1, eqN (by omega) (by omega)] at z
      omega
    rw [stV, stV, if_neg (show ¬ gA σ 0 32 i = 0 from n0 0 (by omega)), if_neg (show ¬ gA σ 0 32 i = 0 from n0 0 (by omega)), if_neg (show ¬ gA σ 0 32 i = 1 from n0 1 (by omega)), if_neg (show ¬ gA σ 0 32 i = 1 from n0 1 (by omega)), if_neg (show ¬ gA σ 0 32 i = 2 from n0 2 (by omega)), h3, h4, clN (by omega), clN (by omega), h x hx.1 hx.2, h y hy.1 hy.2]
theorem stV_only {σ σ' : St} (h : onlyLaw σ σ') (i : Nat) (V : Nat → Int64) : stV σ' i V = stV σ i V := by
  unfold stV
  rw [h.2.1, h.2.2.1 43 (by omega)]
theorem stepOK_only {σB σ σ' : St} {t : Bool} {i : Nat} {s s' : List Nat} (h : onlyLaw σ σ') (k : stepOK σB σ t i s s') : stepOK σB σ' t i s s' := by
  unfold stepOK at *
  rw [h.2.1]
  exact k
/-- the reference works a law out -/
theorem mlaw {σB σ : St} {t : Bool} {w f u : Nat} (hw : w < 3) (hfu : f < u) (hu : u ≤ 64) (h30 : gA σ 0 30 w = nI f) (h31 : gA σ 0 31 w = nI u) (hwf : WFp σB σ t f u) (hN : ∀ k, k < 7 → inL (gL σ 0 43 k)) :
    ∃ v σ', fX10_lawOf σ (nI w) = some (v, σ') ∧ onlyLaw σ σ' ∧ (gI σ' 0 45 = 0 ∨ gI σ' 0 45 = 1) ∧ (∀ z, lawV σ f u = some z → v = z ∧ inL z ∧ gI σ' 0 45 = 0) ∧ (lawV σ f u = none → gI σ' 0 45 = 1) := by
  obtain ⟨hs, -, -, hst⟩ := hwf
  have gw : ∀ {β : Type} (z : Option β), gd (ixI (nI w) 6) z = z := fun z => gd_pos (ixN (by omega) (by omega))
  unfold fX10_lawOf
  generalize hFU : FU = N
  simp only [lt_eq, gA_sI]
  rw [gw, clN (by omega), h30]
  refine lpx2_wp (fun o => ∃ v σ', o = some (v, σ') ∧ onlyLaw σ σ' ∧ (gI σ' 0 45 = 0 ∨ gI σ' 0 45 = 1) ∧ (∀ z, lawV σ f u = some z → v = z ∧ inL z ∧ gI σ' 0 45 = 0) ∧ (lawV σ f u = none → gI σ' 0 45 = 1)) (fun j x σ5 => ∃ n, n + j = u - f ∧ x = nI (f + n) ∧ onlyLaw σ σ5 ∧ (gI σ5 0 45 = 0 ∨ gI σ5 0 45 = 1) ∧ (∀ i, f ≤ i → i < f + n → inL (gL σ5 0 44 i)) ∧ (∀ V, ev σ f n = some V → gI σ5 0 45 = 0 ∧ ∀ i, f ≤ i → i < f + n → gL σ5 0 44 i = V i) ∧ (ev σ f n = none → gI σ5 0 45 = 1)) ?_ N (u - f) (nI f) (sI σ 0 45 0) (by rw [← hFU]; exact FU_gt (by omega)) ⟨0, by omega, rfl, (only45.s σ 0).law, Or.inl (g45 σ 0), fun i h1 h2 => by omega, fun V hV => ⟨g45 σ 0, fun i h1 h2 => by omega⟩, fun h => by cases h⟩
  rintro j self x σ5 ⟨n, hn, rfl, hO, hE, hI, hV, hV0⟩ ih
  rw [gw, hO.2.1, h31]
  by_cases hx : u ≤ f + n
  · have hnu : f + n = u := by omega
    have hnn : n = u - f := by omega
    rw [if_pos ((leN (by omega) (by omega)).mpr hx)]
    simp only [jnx1_eq]
    have e1 : nI u - 1 = nI (u - 1) := by
      rw [show (1 : Int32) = nI 1 from rfl, pk_sub (by omega)]
    rw [e1, gw, gd_pos (ixN (by omega) (by omega)), clN (by omega)]
    by_cases h0 : gI σ5 0 45 = 0
    · rw [if_pos h0]
      refine ⟨_, _, rfl, hO, hE, fun z hz => ?_, fun hz => ?_⟩
      · unfold lawV at hz
        rw [← hnn] at hz
        cases hev : ev σ f n with
        | none => rw [hev] at hz; cases hz
        | some V =>
          rw [hev] at hz
          cases hz
          have := (hV V hev).2 (u - 1) (by omega) (by omega)
          exact ⟨this, by show inL (V (u - 1)); rw [← this]; exact hI (u - 1) (by omega) (by omega), h0⟩
      · unfold lawV at hz
        rw [← hnn] at hz
        cases hev : ev σ f n with
        | none => exact hV0 hev
        | some V => rw [hev] at hz; cases hz
    · rw [if_neg h0]
      have h1 := hE.resolve_left h0
      refine ⟨_, _, rfl, hO, hE, fun z hz => ?_, fun _ => h1⟩
      unfold lawV at hz
      rw [← hnn] at hz
      cases hev : ev σ f n with
      | none => rw [hev] at hz; cases hz
      | some V => exact absurd (hV V hev).1 h0
  · rw [if_neg (fun z => hx ((leN (by omega) (by omega)).mp z))]
    obtain ⟨s1, s2, s3⟩ := hst (f + n) (by omega) (by omega)
    obtain ⟨⟨v, σ6⟩, e, r1, r2, r3, r4⟩ := mstep (f := f) (by omega) (stepOK_only hO s3) s1 hI (fun k hk => by rw [hO.2.2.1 43 (by omega)]; exact hN k hk) hE
    rw [e]
    simp only [bL, Option.bind_some]
    rw [gd_pos (ixN (by omega) (by omega)), clN (by omega)]
    have hO6 : onlyLaw σ σ6 := hO.tr r1.law
    have eI : gI (sL σ6 0 44 (f + n) v) = gI σ6 := rfl
    have eL : ∀ i, gL (sL σ6 0 44 (f + n) v) 0 44 i = if i = f + n then v else gL σ5 0 44 i := fun i => by
      simp only [sL, gL_sLr, and_self, if_true, vp_updL]
      rw [r1.2.2.1]
    refine ih (j - 1) _ _ (by omega) ⟨n + 1, by omega, by rw [nI_1]; rfl, hO6.tr (onlyLaw.put σ6 _ _), ?_, fun i h1 h2 => ?_, fun V hev => ?_, fun hev => ?_⟩
    · rw [eI]
      rcases hE with h | h
      · cases hsv : stV σ5 (f + n) (gL σ5 0 44) with
        | none => exact Or.inr ((r4 h).2 hsv)
        | some z => exact Or.inl ((r4 h).1 z hsv).2
      · exact Or.inr (r3 h)
    · rw [eL]
      split
      · exact r2
      · exact hI i h1 (by omega)
    · unfold ev at hev
      cases he : ev σ f n with
      | none => rw [he] at hev; cases hev
      | some V0 =>
        rw [he] at hev
        have ⟨h0, hag⟩ := hV V0 he
        have ec : stV σ5 (f + n) (gL σ5 0 44) = stV σ (f + n) V0 := by
          rw [stV_only hO, stV_congr (by omega) s3 s1 hag]
        cases hsv : stV σ (f + n) V0 with
        | none => simp only [hsv] at hev; cases hev
        | some z =>
          simp only [hsv] at hev
          cases hev
          have hz := (r4 h0).1 z (ec.trans hsv)
          refine ⟨hz.2, fun i h1 h2 => ?_⟩
          rw [eL]
          simp only [vp_updL]
          split
          · exact hz.1
          · exact hag i h1 (by omega)
    · rw [eI]
      unfold ev at hev
      cases he : ev σ f n with
      | none => exact r3 (hV0 he)
      | some V0 =>
        rw [he] at hev
        have ⟨h0, hag⟩ := hV V0 he
        have ec : stV σ5 (f + n) (gL σ5 0 44) = stV σ (f + n) V0 := by
          rw [stV_only hO, stV_congr (by omega) s3 s1 hag]
        cases hsv : stV σ (f + n) V0 with
        | none => exact (r4 h0).2 (ec.trans hsv)
        | some z => simp only [hsv] at hev; cases hev
