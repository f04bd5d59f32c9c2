def dg (c : Nat → Nat) (p n t : Nat) : Nat := if t < n then c (p + t) - 96 else 0
def pV (d : Nat → Nat) : Nat := d 0 * 33554432 + d 1 * 1048576 + d 2 * 32768 + d 3 * 1024 + d 4 * 32 + d 5
def wdg (k t : Nat) : Nat := if t < wlen k then wc (woff k + t) - 96 else 0
theorem wordsV_at : ∀ j, j < 19 → wordsV.getD j 0 = nI (pV (wdg (swp j))) := by decide +kernel
theorem wpk_inj : ∀ k, k < 19 → ∀ k', k' < 19 → pV (wdg k) = pV (wdg k') → k = k' := by decide +kernel
theorem swp_lt : ∀ j, j < 19 → swp j < 19 ∧ swp (swp j) = j := by decide +kernel
theorem wdg_lt : ∀ k, k < 19 → ∀ t, t < 6 → wdg k t < 32 := by decide +kernel
/-- letters from p on -/
def lts (c : Nat → Nat) (p n : Nat) : Prop := ∀ u, u < n → 97 ≤ c (p + u) ∧ c (p + u) ≤ 122
theorem dg_lt {c : Nat → Nat} {p n : Nat} (h : lts c p n) (t : Nat) : dg c p n t < 27 := by
  unfold dg
  by_cases d : t < n
  · rw [if_pos d]
    have := h t d
    omega
  · rw [if_neg d]
    omega
theorem pV_lt {d : Nat → Nat} (h : ∀ t, d t < 27) : pV d < 1073741824 := by
  have h0 := h 0
  have h1 := h 1
  have h2 := h 2
  have h3 := h 3
  have h4 := h 4
  have h5 := h 5
  unfold pV
  omega
theorem wmat_iff {c : Nat → Nat} {p n k : Nat} (h : lts c p n) (hn : n ≤ 6) (hk : k < 19) : wmat c p n k ↔ pV (dg c p n) = pV (wdg k) := by
  obtain ⟨w1, w2, w3, w4, w5⟩ := wtab k hk
  have w6 := wtab2 k hk
  constructor
  · rintro ⟨a, b⟩
    have e : ∀ t, dg c p n t = wdg k t := fun t => by
      unfold dg wdg
      rw [a]
      by_cases d : t < n
      · rw [if_pos d, if_pos d, b t (by omega)]
      · rw [if_neg d, if_neg d]
    unfold pV
    rw [e, e, e, e, e, e]
  · intro e
    have a0 := dg_lt h 0
    have a1 := dg_lt h 1
    have a2 := dg_lt h 2
    have a3 := dg_lt h 3
    have a4 := dg_lt h 4
    have a5 := dg_lt h 5
    have b0 := wdg_lt k hk 0 (by omega)
    have b1 := wdg_lt k hk 1 (by omega)
    have b2 := wdg_lt k hk 2 (by omega)
    have b3 := wdg_lt k hk 3 (by omega)
    have b4 := wdg_lt k hk 4 (by omega)
    have b5 := wdg_lt k hk 5 (by omega)
    unfold pV at e
    have e0 : dg c p n 0 = wdg k 0 := by omega
    have e1 : dg c p n 1 = wdg k 1 := by omega
    have e2 : dg c p n 2 = wdg k 2 := by omega
    have e3 : dg c p n 3 = wdg k 3 := by omega
    have e4 : dg c p n 4 = wdg k 4 := by omega
    have e5 : dg c p n 5 = wdg k 5 := by omega
    have ee : ∀ t, t < 6 → dg c p n t = wdg k t := fun t ht => by
      obtain rfl | rfl | rfl | rfl | rfl | rfl : t = 0 ∨ t = 1 ∨ t = 2 ∨ t = 3 ∨ t = 4 ∨ t = 5 := by omega
      all_goals assumption
    have hl : wlen k = n := by
      by_cases lt1 : n < wlen k
      · have q := ee n (by omega)
        unfold dg wdg at q
        rw [if_neg (by omega), if_pos lt1] at q
        have := w6 n lt1
        omega
      · by_cases lt2 : wlen k < n
        · have q := ee (wlen k) (by omega)
          unfold dg wdg at q
          rw [if_pos lt2, if_neg (by omega)] at q
          have := h (wlen k) lt2
          omega
        · omega
    refine ⟨hl, fun u hu => ?_⟩
    have q := ee u (by omega)
    unfold dg wdg at q
    rw [if_pos (by omega), if_pos hu] at q
    have := h u (by omega)
    have := w6 u hu
    omega
theorem nI_or {a b : Nat} (ha : a < 2 ^ 32) (hb : b < 2 ^ 32) : nI a ||| nI b = nI (a ||| b) := by
  apply Int32.toBitVec_inj.mp
  apply BitVec.eq_of_toNat_eq
  rw [Int32.toBitVec_or, BitVec.toNat_or, pk_tn ha, pk_tn hb, pk_tn (Nat.or_lt_two_pow ha hb)]
theorem or_add {a b i : Nat} (hb : b < 2 ^ i) (h : 2 ^ i * a + b < 2 ^ 32) : nI (2 ^ i * a) ||| nI b = nI (2 ^ i * a + b) := by
  rw [nI_or (by omega) (by omega), ← Nat.two_pow_add_eq_or_of_lt hb]
theorem x96 {x : Nat} (h : 97 ≤ x) : nI x - (97 : Int32) + 1 = nI (x - 96) := by
  rw [show (97 : Int32) = nI 97 from rfl, pk_sub h, nI_1]
  congr 1
  omega
theorem shl5 : ∀ t, t < 6 → ((((25 : Int32) - ((5 : Int32) * nI t)) &&& 31).toBitVec.smod 32).toNat = 25 - 5 * t := by decide +kernel
theorem dg_s {c : Nat → Nat} {p t : Nat} (u : Nat) (h : u < t) : dg c p (t + 1) u = dg c p t u := by
  unfold dg
  rw [if_pos h, if_pos (by omega)]
theorem dg_e {c : Nat → Nat} {p t : Nat} : dg c p (t + 1) t = c (p + t) - 96 := by
  unfold dg
  rw [if_pos (by omega)]
theorem dg_z {c : Nat → Nat} {p t : Nat} (u : Nat) (h : t ≤ u) : dg c p t u = 0 := by
  unfold dg
  rw [if_neg (by omega)]
theorem packB {c : Nat → Nat} {p t : Nat} (ht : t < 6) (h : lts c p (t + 1)) : nI (pV (dg c p t)) ||| ((nI (c (p + t)) - (97 : Int32) + 1) <<< (((25 : Int32) - ((5 : Int32) * nI t)) &&& 31)) = nI (pV (dg c p (t + 1))) := by
  have hl := h t (by omega)
  have hb : c (p + t) - 96 < 27 := by omega
  rw [x96 hl.1]
  have h6 := fun u => dg_lt h u
  have hq : ∀ u, dg c p t u < 27 := fun u => dg_lt (fun v hv => h v (by omega)) u
  have e : pV (dg c p (t + 1)) = pV (dg c p t) + (c (p + t) - 96) * 2 ^ (25 - 5 * t) := by
    unfold pV
    obtain rfl | rfl | rfl | rfl | rfl | rfl : t = 0 ∨ t = 1 ∨ t = 2 ∨ t = 3 ∨ t = 4 ∨ t = 5 := by omega
    · rw [dg_e, dg_z 1 (by omega), dg_z 2 (by omega), dg_z 3 (by omega), dg_z 4 (by omega), dg_z 5 (by omega), dg_z 0 (by omega), dg_z 1 (by omega), dg_z 2 (by omega), dg_z 3 (by omega), dg_z 4 (by omega), dg_z 5 (by omega)]
      omega
    · rw [dg_e, dg_s 0 (by omega), dg_z 2 (by omega), dg_z 3 (by omega), dg_z 4 (by omega), dg_z 5 (by omega), dg_z 1 (by omega), dg_z 2 (by omega), dg_z 3 (by omega), dg_z 4 (by omega), dg_z 5 (by omega)]
      omega
    · rw [dg_e, dg_s 0 (by omega), dg_s 1 (by omega), dg_z 3 (by omega), dg_z 4 (by omega), dg_z 5 (by omega), dg_z 2 (by omega), dg_z 3 (by omega), dg_z 4 (by omega), dg_z 5 (by omega)]
      omega
    · rw [dg_e, dg_s 0 (by omega), dg_s 1 (by omega), dg_s 2 (by omega), dg_z 4 (by omega), dg_z 5 (by omega), dg_z 3 (by omega), dg_z 4 (by omega), dg_z 5 (by omega)]
      omega
    · rw [dg_e, dg_s 0 (by omega), dg_s 1 (by omega), dg_s 2 (by omega), dg_s 3 (by omega), dg_z 5 (by omega), dg_z 4 (by omega), dg_z 5 (by omega)]
      omega
    · rw [dg_e, dg_s 0 (by omega), dg_s 1 (by omega), dg_s 2 (by omega), dg_s 3 (by omega), dg_s 4 (by omega), dg_z 5 (by omega)]
      omega
  have dv : ∃ a, pV (dg c p t) = 2 ^ (30 - 5 * t) * a := by
    unfold pV
    obtain rfl | rfl | rfl | rfl | rfl | rfl : t = 0 ∨ t = 1 ∨ t = 2 ∨ t = 3 ∨ t = 4 ∨ t = 5 := by omega
    · exact ⟨0, by rw [dg_z 0 (by omega), dg_z 1 (by omega), dg_z 2 (by omega), dg_z 3 (by omega), dg_z 4 (by omega), dg_z 5 (by omega)]⟩
    · exact ⟨dg c p 1 0, by rw [dg_z 1 (by omega), dg_z 2 (by omega), dg_z 3 (by omega), dg_z 4 (by omega), dg_z 5 (by omega)]; omega⟩
    · exact ⟨dg c p 2 0 * 32 + dg c p 2 1, by rw [dg_z 2 (by omega), dg_z 3 (by omega), dg_z 4 (by omega), dg_z 5 (by omega)]; omega⟩
    · exact ⟨dg c p 3 0 * 1024 + dg c p 3 1 * 32 + dg c p 3 2, by rw [dg_z 3 (by omega), dg_z 4 (by omega), dg_z 5 (by omega)]; omega⟩
    · exact ⟨dg c p 4 0 * 32768 + dg c p 4 1 * 1024 + dg c p 4 2 * 32 + dg c p 4 3, by rw [dg_z 4 (by omega), dg_z 5 (by omega)]; omega⟩
    · exact ⟨dg c p 5 0 * 1048576 + dg c p 5 1 * 32768 + dg c p 5 2 * 1024 + dg c p 5 3 * 32 + dg c p 5 4, by rw [dg_z 5 (by omega)]; omega⟩
  have bd : (c (p + t) - 96) * 2 ^ (25 - 5 * t) < 2 ^ (30 - 5 * t) := by
    obtain rfl | rfl | rfl | rfl | rfl | rfl : t = 0 ∨ t = 1 ∨ t = 2 ∨ t = 3 ∨ t = 4 ∨ t = 5 := by omega
    all_goals omega
  have tot := pV_lt h6
  obtain ⟨a, ha⟩ := dv
  rw [e] at tot ⊢
  rw [pk_shlN _ _ (shl5 t ht) (by omega), ha, or_add bd (by omega)]
