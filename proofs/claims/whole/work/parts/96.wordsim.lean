theorem s5 : (((5 : Int32) &&& 31).toBitVec.smod 32).toNat = 5 := by decide
theorem packM {c : Nat → Nat} {S : Nat} {σB σM : St} (T : TC c S σB σM) (p n : Nat) (he : p + n ≤ S) (h : lts c p n) : fX10_packed σM (nI p) (nI (p + n)) = some (nI (pV (dg c p n))) := by
  obtain ⟨t1, t2, t3, t4, t5⟩ := T
  have hd := fun u => dg_lt h u
  unfold fX10_packed
  simp only [lt_eq, jnx1_eq]
  generalize hFU : FU = Z
  obtain ⟨hv, hv0, hvs⟩ : ∃ hv : Nat → Nat, hv 0 = 0 ∧ ∀ t, hv (t + 1) = hv t * 32 + dg c p n t := ⟨fun t => Nat.rec 0 (fun u a => a * 32 + dg c p n u) t, rfl, fun t => rfl⟩
  have e1 : hv 1 = hv 0 * 32 + dg c p n 0 := hvs 0
  have e2 : hv 2 = hv 1 * 32 + dg c p n 1 := hvs 1
  have e3 : hv 3 = hv 2 * 32 + dg c p n 2 := hvs 2
  have e4 : hv 4 = hv 3 * 32 + dg c p n 3 := hvs 3
  have e5 : hv 5 = hv 4 * 32 + dg c p n 4 := hvs 4
  have e6 : hv 6 = hv 5 * 32 + dg c p n 5 := hvs 5
  have hv6 : hv 6 = pV (dg c p n) := by
    unfold pV
    omega
  have hvb : ∀ t, t < 6 → hv t < 2 ^ 25 := fun t ht => by
    have d0 := hd 0
    have d1 := hd 1
    have d2 := hd 2
    have d3 := hd 3
    have d4 := hd 4
    obtain rfl | rfl | rfl | rfl | rfl | rfl : t = 0 ∨ t = 1 ∨ t = 2 ∨ t = 3 ∨ t = 4 ∨ t = 5 := by omega
    all_goals omega
  refine lpx2_wp (fun q => q = some (nI (pV (dg c p n)))) (fun j x y => ∃ t, t + j = 6 ∧ x = nI (hv t) ∧ y = nI (p + t)) ?_ Z 6 0 (nI p) (by rw [← hFU]; exact FU_gt (by omega)) ⟨0, by omega, by rw [hv0]; rfl, rfl⟩
  rintro j self x y ⟨t, ht, rfl, rfl⟩ ih
  rw [show nI p + (6 : Int32) = nI (p + 6) from nI_add p 6]
  by_cases d : t = 6
  · subst d
    rw [if_pos ((leN (by omega) (by omega)).mpr (by omega)), hv6]
  · rw [if_neg (fun z => absurd ((leN (by omega) (by omega)).mp z) (by omega))]
    have step : (nI (hv t) <<< ((5 : Int32) &&& 31)) ||| nI (dg c p n t) = nI (hv (t + 1)) := by
      have b1 := hvb t (by omega)
      have b2 := hd t
      rw [pk_shlN _ 5 s5 (by omega), show hv t * 2 ^ 5 = 2 ^ 5 * hv t by omega, or_add (by omega) (by omega), hvs]
      congr 1
      omega
    by_cases e : t < n
    · rw [if_neg (fun z => absurd ((leN (by omega) (by omega)).mp z) (by omega)), gdN (show p + t < 700 by omega) (by omega), clN (show p + t < 1000000 by omega), (t4 (p + t) (by omega)).2.1]
      have hl := h t e
      have v : nI (c (p + t)) - (96 : Int32) = nI (dg c p n t) := by
        unfold dg
        rw [if_pos e]
        exact pk_sub (show 96 ≤ c (p + t) by omega)
      rw [v, step]
      exact ih (j - 1) _ _ (by omega) ⟨t + 1, by omega, rfl, nI_1 (p + t)⟩
    · rw [if_pos ((leN (by omega) (by omega)).mpr (by omega))]
      have v : (0 : Int32) = nI (dg c p n t) := by
        unfold dg
        rw [if_neg e]
        rfl
      rw [v, step]
      exact ih (j - 1) _ _ (by omega) ⟨t + 1, by omega, rfl, nI_1 (p + t)⟩
theorem placeW (σ : St) (V : Nat) (hV : V < 1073741824) : ∃ r, fX9_placeOf_w σ (nI V) 19 = some r ∧ ((∃ j, j < 19 ∧ V = pV (wdg (swp j)) ∧ r = nI j) ∨ ((∀ j, j < 19 → V ≠ pV (wdg (swp j))) ∧ r = -1)) := by
  unfold fX9_placeOf_w
  simp only [lt_eq, jnx1_eq]
  generalize hFU : FU = Z
  refine lpx1_wp (fun q => ∃ r, q = some r ∧ ((∃ j, j < 19 ∧ V = pV (wdg (swp j)) ∧ r = nI j) ∨ ((∀ j, j < 19 → V ≠ pV (wdg (swp j))) ∧ r = -1))) (fun j x => ∃ k, k + j = 19 ∧ x = nI k ∧ ∀ j', j' < k → V ≠ pV (wdg (swp j'))) ?_ Z 19 0 (by rw [← hFU]; exact FU_gt (by omega)) ⟨0, by omega, rfl, fun j h => by omega⟩
  rintro j self x ⟨k, hk, rfl, hno⟩ ih
  by_cases d : k = 19
  · subst d
    rw [if_pos (show (19 : Int32) ≤ nI 19 from (leN (a := 19) (b := 19) (by omega) (by omega)).mpr (by omega))]
    exact ⟨-1, rfl, Or.inr ⟨hno, rfl⟩⟩
  · have e : ¬ (19 : Int32) ≤ nI k := fun z => absurd ((leN (a := 19) (b := k) (by omega) (by omega)).mp z) (by omega)
    rw [if_neg e, if_neg e, gdN (show k < 19 by omega) (by omega), clN (show k < 1000000 by omega), wordsV_at k (by omega)]
    have hb : pV (wdg (swp k)) < 2 ^ 31 := by
      have h0 := wdg_lt (swp k) (swp_lt k (by omega)).1
      have a0 := h0 0 (by omega)
      have a1 := h0 1 (by omega)
      have a2 := h0 2 (by omega)
      have a3 := h0 3 (by omega)
      have a4 := h0 4 (by omega)
      have a5 := h0 5 (by omega)
      unfold pV
      omega
    by_cases q : pV (wdg (swp k)) = V
    · rw [if_pos (by rw [q])]
      exact ⟨nI k, rfl, Or.inl ⟨k, by omega, q.symm, rfl⟩⟩
    · rw [if_neg (fun z => q ((nI_eq hb (by omega)).mp z))]
      refine ih (j - 1) _ (by omega) ⟨k + 1, by omega, nI_1 k, fun j' hj' => ?_⟩
      by_cases s : j' = k
      · rw [s]; exact fun z => q z.symm
      · exact hno j' (by omega)
