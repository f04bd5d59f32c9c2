/-- a row of the class as it is noted -/
def rowN (σ : St) (f : Nat → Int32) (p h : Nat) : Prop := f p = nI h ∧ f (p + 1) = gA σ 5 0 h ∧ f (p + 2) = gA σ 5 2 h ∧ f (p + 3) = gA σ 5 3 h ∧ f (p + 4) = gA σ 5 4 h ∧ f (p + 5) = gI σ 5 6 ∧ f (p + 6) = gI σ 5 9 ∧ f (p + 7) = gI σ 5 10 ∧ f (p + 8) = gI σ 5 11
set_option maxHeartbeats 4000000 in
theorem note0_eq (σ : St) (s h : Nat) (hs : s < 20) (hh : h < 6) (h1 : gI σ 12 1 = nI s) : ∃ σ', fX8_note σ 5 (nI h) = some σ' ∧ gI σ' 12 1 = nI (s + 1) ∧ (∀ o, o ≠ 12 → gI σ' o = gI σ o) ∧ (∀ o, o ≠ 12 → gA σ' o = gA σ o) ∧ gR σ' = gR σ ∧ (∀ q, q < 9 * s → gA σ' 12 0 q = gA σ 12 0 q) ∧ rowN σ (gA σ' 12 0) (9 * s) h := by
  unfold fX8_note
  have e9 : nI s * 9 = nI (9 * s) := by rw [show (9 : Int32) = nI 9 from rfl, pk_mul, Nat.mul_comm]
  simp only [jnx1_eq]
  rw [h1, if_pos (show nI s < (20 : Int32) from (ltN (a := s) (b := 20) (by omega) (by omega)).mpr hs)]
  simp only [lt_eq, h1, e9, nI_1, pl (p := 9 * s) (k := 2) (x := 2) rfl, pl (p := 9 * s) (k := 3) (x := 3) rfl, pl (p := 9 * s) (k := 4) (x := 4) rfl, pl (p := 9 * s) (k := 5) (x := 5) rfl, pl (p := 9 * s) (k := 6) (x := 6) rfl, pl (p := 9 * s) (k := 7) (x := 7) rfl, pl (p := 9 * s) (k := 8) (x := 8) rfl, gdN (show h < 6 by omega) (show 6 ≤ 1000000 by omega), clN (show h < 1000000 by omega), gdN (show 9 * s < 180 by omega) (show 180 ≤ 1000000 by omega), gdN (show 9 * s + 1 < 180 by omega) (show 180 ≤ 1000000 by omega), gdN (show 9 * s + 2 < 180 by omega) (show 180 ≤ 1000000 by omega), gdN (show 9 * s + 3 < 180 by omega) (show 180 ≤ 1000000 by omega), gdN (show 9 * s + 4 < 180 by omega) (show 180 ≤ 1000000 by omega), gdN (show 9 * s + 5 < 180 by omega) (show 180 ≤ 1000000 by omega), gdN (show 9 * s + 6 < 180 by omega) (show 180 ≤ 1000000 by omega), gdN (show 9 * s + 7 < 180 by omega) (show 180 ≤ 1000000 by omega), gdN (show 9 * s + 8 < 180 by omega) (show 180 ≤ 1000000 by omega), clN (show 9 * s < 1000000 by omega), clN (show 9 * s + 1 < 1000000 by omega), clN (show 9 * s + 2 < 1000000 by omega), clN (show 9 * s + 3 < 1000000 by omega), clN (show 9 * s + 4 < 1000000 by omega), clN (show 9 * s + 5 < 1000000 by omega), clN (show 9 * s + 6 < 1000000 by omega), clN (show 9 * s + 7 < 1000000 by omega), clN (show 9 * s + 8 < 1000000 by omega), gIA]
  refine ⟨_, rfl, gIe _ _ _ _, fun o ho => ?_, fun o ho => ?_, rfl, fun q hq => ?_, ?_, ?_, ?_, ?_, ?_, ?_, ?_, ?_, ?_⟩
  · funext k
    rw [gIo ho]
    simp only [gIA]
  · funext k
    simp (disch := assumption) only [gAI, sA, gAo]
  · simp (disch := omega) only [gAI, sA, gAe, upd_ne]
  all_goals simp (disch := omega) only [gAI, sA, gAe, gAo, upd_ne, upd_eq]
/-- the shift when there are twenty -/
theorem note_eq (σ : St) (s h : Nat) (hs : s ≤ 20) (hh : h < 6) (h1 : gI σ 12 1 = nI s) : ∃ σ' s', (s' = if s < 20 then s else 19) ∧ fX8_note σ 5 (nI h) = some σ' ∧ gI σ' 12 1 = nI (s' + 1) ∧ (∀ o, o ≠ 12 → gI σ' o = gI σ o) ∧ (∀ o, o ≠ 12 → gA σ' o = gA σ o) ∧ gR σ' = gR σ ∧ (∀ q, q < 9 * s' → gA σ' 12 0 q = gA σ 12 0 (q + 9 * (s - s'))) ∧ rowN σ (gA σ' 12 0) (9 * s') h := by
  by_cases c : s < 20
  · obtain ⟨σ', e1, e2, e3, e4, e5, e6, e7⟩ := note0_eq σ s h c hh h1
    exact ⟨σ', s, by rw [if_pos c], e1, e2, e3, e4, e5, fun q hq => by rw [e6 q hq, show q + 9 * (s - s) = q by omega], e7⟩
  · have hs20 : s = 20 := by omega
    subst hs20
    have e : fX8_note σ 5 (nI h) = fX8_note (sI (sAr σ 12 0 (va_cpy (gA σ 12 0) (gA σ 12 0) 9 0 171)) 12 1 19) 5 (nI h) := by
      unfold fX8_note
      simp only [jnx1_eq]
      rw [if_neg (show ¬ gI σ 12 1 < (20 : Int32) by rw [h1]; decide), if_pos (show gI (sI (sAr σ 12 0 (va_cpy (gA σ 12 0) (gA σ 12 0) 9 0 171)) 12 1 19) 12 1 < (20 : Int32) by rw [gIe]; decide), cl_lit 9 9 rfl (by omega), cl0, cl_lit 171 171 rfl (by omega)]
      refine Eq.trans (lt_eq _ _) ?_
      exact lt_eq _ _
    obtain ⟨σ', e1, e2, e3, e4, e5, e6, e7⟩ := note0_eq (sI (sAr σ 12 0 (va_cpy (gA σ 12 0) (gA σ 12 0) 9 0 171)) 12 1 19) 19 h (by omega) hh (gIe _ _ _ _)
    have hg : gI (sI (sAr σ 12 0 (va_cpy (gA σ 12 0) (gA σ 12 0) 9 0 171)) 12 1 19) 5 = gI σ 5 := by
      funext k
      rw [gIo (by omega)]
      rfl
    have ha : gA (sI (sAr σ 12 0 (va_cpy (gA σ 12 0) (gA σ 12 0) 9 0 171)) 12 1 19) 5 = gA σ 5 := by
      funext k
      rw [gAI, gAo (by omega)]
    refine ⟨σ', 19, rfl, by rw [e]; exact e1, e2, fun o ho => ?_, fun o ho => ?_, e5, fun q hq => ?_, ?_⟩
    · rw [e3 o ho]
      funext k
      rw [gIo ho]
      rfl
    · rw [e4 o ho]
      funext k
      rw [gAI, gAo ho]
    · rw [e6 q hq, gAI, gAe, pk_cpy_in (by omega) (by omega), show 9 + (q - 0) = q + 9 * (20 - 19) by omega]
    · unfold rowN at *
      rw [hg, ha] at e7
      exact e7
theorem shift_eq (σ : St) : ∃ σ', lpx2 FU (fun self9 (x7 : Int32) (σ8 : St) => if (627 : Int32) ≤ x7 then (some σ8) else (gd (ixI (x7 + (33 : Int32)) 660) (gd (ixI x7 660) (lt (sA σ8 0 72 (Int32.toNatClampNeg x7) (gA σ8 0 72 (Int32.toNatClampNeg (x7 + (33 : Int32))))) fun σ15 => lt (x7 + (1 : Int32)) fun x16 => self9 x16 σ15)))) (0 : Int32) σ = some σ' ∧ gI σ' = gI σ ∧ gJ σ' = gJ σ ∧ (∀ k, k ≠ 72 → gA σ' 0 k = gA σ 0 k) ∧ (∀ q, q < 627 → gA σ' 0 72 q = gA σ 0 72 (q + 33)) := by
  generalize hFU : FU = Z
  refine lpx2_wp (fun q => ∃ σ', q = some σ' ∧ gI σ' = gI σ ∧ gJ σ' = gJ σ ∧ (∀ k, k ≠ 72 → gA σ' 0 k = gA σ 0 k) ∧ (∀ q, q < 627 → gA σ' 0 72 q = gA σ 0 72 (q + 33))) (fun j x s => ∃ i, i + j = 627 ∧ x = nI i ∧ gI s = gI σ ∧ gJ s = gJ σ ∧ (∀ k, k ≠ 72 → gA s 0 k = gA σ 0 k) ∧ (∀ q, q < i → gA s 0 72 q = gA σ 0 72 (q + 33)) ∧ (∀ q, i ≤ q → gA s 0 72 q = gA σ 0 72 q)) ?_ Z 627 0 σ (by rw [← hFU]; exact FU_gt (by omega)) ⟨0, by omega, rfl, rfl, rfl, fun _ _ => rfl, fun q hq => by omega, fun _ _ => rfl⟩
  rintro j self x s ⟨i, hi, rfl, e1, e2, e3, e4, e5⟩ ih
  by_cases c : 627 ≤ i
  · rw [if_pos (show (627 : Int32) ≤ nI i from (leN (a := 627) (b := i) (by omega) (by omega)).mpr c)]
    exact ⟨s, rfl, e1, e2, e3, fun q hq => e4 q (by omega)⟩
  · rw [if_neg (show ¬ (627 : Int32) ≤ nI i from fun z => c ((leN (a := 627) (b := i) (by omega) (by omega)).mp z)), pl (p := i) (k := 33) (x := 33) rfl, gdN (show i + 33 < 660 by omega) (by omega), gdN (show i < 660 by omega) (by omega), clN (by omega), clN (by omega)]
    simp only [lt_eq]
    refine ih (j - 1) _ _ (by omega) ⟨i + 1, by omega, nI_1 i, e1, e2, fun k hk => ?_, fun q hq => ?_, fun q hq => ?_⟩
    · rw [gAn hk]; exact e3 k hk
    · rw [gAe, upd_at]
      split
      · rename_i e
        rw [e, e5 (i + 33) (by omega)]
      · exact e4 q (by omega)
    · rw [gAe, upd_ne (by omega)]; exact e5 q (by omega)
theorem rem0_eq (σ : St) (s : Nat) (hs : s < 20) (h1 : gI σ 0 71 = nI s) : ∃ σ', (bV (fX10_put_a10_72 σ ((33 : Int32) * (gI σ 0 71))) fun σ4 => lt (sI σ4 0 71 ((gI σ4 0 71) + (1 : Int32))) fun σ5 => some σ5) = some σ' ∧ gI σ' 0 71 = nI (s + 1) ∧ (∀ k, k ≠ 71 → gI σ' 0 k = gI σ 0 k) ∧ gJ σ' = gJ σ ∧ (∀ k, k ≠ 72 → gA σ' 0 k = gA σ 0 k) ∧ (∀ q, q < 33 * s → gA σ' 0 72 q = gA σ 0 72 q) ∧ rowP σ (gA σ' 0 72) (33 * s) := by
  have e33 : (33 : Int32) * nI s = nI (33 * s) := by rw [show (33 : Int32) = nI 33 from rfl, pk_mul]
  obtain ⟨σ', e1, e2, e3, e4, e5, e6⟩ := put72_eq σ (33 * s) (by omega)
  rw [h1, e33, e1, bVs, lt_eq, e2, h1, nI_1]
  exact ⟨_, rfl, gIe _ _ _ _, fun k hk => by rw [gIn hk, e2], e3, e4, fun q hq => e5 q (Or.inl hq), e6⟩
theorem remember_eq (σ : St) (s : Nat) (hs : s ≤ 20) (h1 : gI σ 0 71 = nI s) : ∃ σ' s', (s' = if s < 20 then s else 19) ∧ fX10_remember σ = some σ' ∧ gI σ' 0 71 = nI (s' + 1) ∧ (∀ k, k ≠ 71 → gI σ' 0 k = gI σ 0 k) ∧ gJ σ' = gJ σ ∧ (∀ k, k ≠ 72 → gA σ' 0 k = gA σ 0 k) ∧ (∀ q, q < 33 * s' → gA σ' 0 72 q = gA σ 0 72 (q + 33 * (s - s'))) ∧ rowP σ (gA σ' 0 72) (33 * s') := by
  unfold fX10_remember
  by_cases c : s < 20
  · obtain ⟨σ', e1, e2, e3, e4, e5, e6, e7⟩ := rem0_eq σ s c h1
    refine ⟨σ', s, by rw [if_pos c], ?_, e2, e3, e4, e5, fun q hq => by rw [e6 q hq, show q + 33 * (s - s) = q by omega], e7⟩
    simp only [jnx1_eq]
    rw [h1, if_neg (show ¬ nI s = 20 from fun z => by have := (eqN (a := s) (b := 20) (by omega) (by omega)).mp z; omega), ← e1, h1]
  · have hs20 : s = 20 := by omega
    subst hs20
    obtain ⟨σ8, f1, f2, f3, f4, f5⟩ := shift_eq σ
    obtain ⟨σ', e1, e2, e3, e4, e5, e6, e7⟩ := rem0_eq (sI σ8 0 71 19) 19 (by omega) (gIe _ _ _ _)
    refine ⟨σ', 19, rfl, ?_, e2, fun k hk => ?_, ?_, fun k hk => ?_, fun q hq => ?_, ?_⟩
    · simp only [jnx1_eq]
      rw [h1, if_pos (show nI 20 = 20 from rfl)]
      have key : ∀ Z, Z = FU → lpx2 Z (fun self9 (x7 : Int32) (σ8 : St) => if (627 : Int32) ≤ x7 then (lt (sI σ8 0 71 ((gI σ8 0 71) - (1 : Int32))) fun σ12 => bV (fX10_put_a10_72 σ12 ((33 : Int32) * (gI σ12 0 71))) fun σ4 => lt (sI σ4 0 71 ((gI σ4 0 71) + (1 : Int32))) fun σ5 => some σ5) else (gd (ixI (x7 + (33 : Int32)) 660) (gd (ixI x7 660) (lt (sA σ8 0 72 (Int32.toNatClampNeg x7) (gA σ8 0 72 (Int32.toNatClampNeg (x7 + (33 : Int32))))) fun σ15 => lt (x7 + (1 : Int32)) fun x16 => self9 x16 σ15)))) (0 : Int32) σ = (lpx2 Z (fun self9 (x7 : Int32) (σ8 : St) => if (627 : Int32) ≤ x7 then (some σ8) else (gd (ixI (x7 + (33 : Int32)) 660) (gd (ixI x7 660) (lt (sA σ8 0 72 (Int32.toNatClampNeg x7) (gA σ8 0 72 (Int32.toNatClampNeg (x7 + (33 : Int32))))) fun σ15 => lt (x7 + (1 : Int32)) fun x16 => self9 x16 σ15)))) (0 : Int32) σ).bind (fun σ8 => lt (sI σ8 0 71 ((gI σ8 0 71) - (1 : Int32))) fun σ12 => bV (fX10_put_a10_72 σ12 ((33 : Int32) * (gI σ12 0 71))) fun σ4 => lt (sI σ4 0 71 ((gI σ4 0 71) + (1 : Int32))) fun σ5 => some σ5) := by
        intro Z _
        have gen : ∀ (n : Nat) (x : Int32) (s : St), lpx2 n (fun self9 (x7 : Int32) (σ8 : St) => if (627 : Int32) ≤ x7 then (lt (sI σ8 0 71 ((gI σ8 0 71) - (1 : Int32))) fun σ12 => bV (fX10_put_a10_72 σ12 ((33 : Int32) * (gI σ12 0 71))) fun σ4 => lt (sI σ4 0 71 ((gI σ4 0 71) + (1 : Int32))) fun σ5 => some σ5) else (gd (ixI (x7 + (33 : Int32)) 660) (gd (ixI x7 660) (lt (sA σ8 0 72 (Int32.toNatClampNeg x7) (gA σ8 0 72 (Int32.toNatClampNeg (x7 + (33 : Int32))))) fun σ15 => lt (x7 + (1 : Int32)) fun x16 => self9 x16 σ15)))) x s = (lpx2 n (fun self9 (x7 : Int32) (σ8 : St) => if (627 : Int32) ≤ x7 then (some σ8) else (gd (ixI (x7 + (33 : Int32)) 660) (gd (ixI x7 660) (lt (sA σ8 0 72 (Int32.toNatClampNeg x7) (gA σ8 0 72 (Int32.toNatClampNeg (x7 + (33 : Int32))))) fun σ15 => lt (x7 + (1 : Int32)) fun x16 => self9 x16 σ15)))) x s).bind (fun σ8 => lt (sI σ8 0 71 ((gI σ8 0 71) - (1 : Int32))) fun σ12 => bV (fX10_put_a10_72 σ12 ((33 : Int32) * (gI σ12 0 71))) fun σ4 => lt (sI σ4 0 71 ((gI σ4 0 71) + (1 : Int32))) fun σ5 => some σ5) := by
          intro n
          induction n with
          | zero => intro x s; rfl
          | succ n ih =>
            intro x s
            show (if (627 : Int32) ≤ x then _ else _) = Option.bind (if (627 : Int32) ≤ x then _ else _) _
            by_cases c : (627 : Int32) ≤ x
            · rw [if_pos c, if_pos c, bS]
            · rw [if_neg c, if_neg c]
              by_cases d1 : ixI (x + 33) 660
              · rw [gd_pos d1, gd_pos d1]
                by_cases d2 : ixI x 660
                · rw [gd_pos d2, gd_pos d2]
                  simp only [lt_eq]
                  exact ih _ _
                · unfold gd
                  rw [if_neg d2, if_neg d2]
                  rfl
              · unfold gd
                rw [if_neg d1, if_neg d1]
                rfl
        exact gen Z 0 σ
      rw [key FU rfl, f1, bS, lt_eq, f2, h1, show nI 20 - 1 = (19 : Int32) by decide]
      exact e1
    · rw [e3 k hk, gIn hk, f2]
    · rw [e4]; exact f3
    · rw [e5 k hk]; exact f4 k hk
    · rw [e6 q hq]
      show gA σ8 0 72 q = _
      rw [f5 q (by omega)]
    · unfold rowP at *
      simp only [gAI] at e7
      rw [f4 46 (by omega), f4 48 (by omega), f4 49 (by omega), f4 50 (by omega), f4 51 (by omega), f4 54 (by omega), f4 55 (by omega), f4 56 (by omega)] at e7
      exact e7
