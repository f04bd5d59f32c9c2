/-! WORDS -/
def wcs : List Nat := [104, 111, 117, 115, 101, 32, 112, 97, 114, 116, 32, 99, 97, 108, 108, 115, 32, 111, 112, 101, 110, 32, 115, 101, 101, 100, 32, 108, 97, 119, 32, 100, 101, 97, 116, 104, 32, 119, 105, 108, 108, 32, 114, 97, 105, 115, 101, 32, 97, 110, 100, 32, 111, 114, 32, 110, 111, 116, 32, 98, 105, 100, 32, 98, 111, 117, 110, 100, 32, 119, 111, 114, 116, 104, 32, 97, 103, 101, 32, 104, 101, 105, 114, 115, 32, 99, 97, 108, 108, 101, 100, 32, 121, 101, 97, 114, 32]
def wc (i : Nat) : Nat := wcs.getD i 0
def woff (k : Nat) : Nat := [0, 6, 11, 17, 22, 27, 31, 37, 42, 48, 52, 55, 59, 63, 69, 75, 79, 85, 92, 97].getD k 0
def wlen (k : Nat) : Nat := [5, 4, 5, 4, 4, 3, 5, 4, 5, 3, 2, 3, 3, 5, 5, 3, 5, 6, 4].getD k 0
theorem wordsU_at : ∀ i, i < 97 → wordsU i = nI (wc i) := by decide +kernel
theorem wc_lt : ∀ i, i < 97 → wc i < 256 := by decide +kernel
theorem wtab : ∀ k, k < 19 → woff (k + 1) = woff k + wlen k + 1 ∧ woff k + wlen k < 97 ∧ wlen k ≤ 6 ∧ 1 ≤ wlen k ∧ wc (woff k + wlen k) = 32 := by decide +kernel
theorem wtab2 : ∀ k, k < 19 → ∀ t, t < wlen k → 97 ≤ wc (woff k + t) ∧ wc (woff k + t) ≤ 122 := by decide +kernel
def wmat (c : Nat → Nat) (p n k : Nat) : Prop := wlen k = n ∧ ∀ u, u < wlen k → wc (woff k + u) = c (p + u)
def wres (c : Nat → Nat) (p n : Nat) (r : Int32) : Prop := (∃ k, k < 19 ∧ wmat c p n k ∧ r = nI k) ∨ ((∀ k, k < 19 → ¬ wmat c p n k) ∧ r = -1)
set_option maxHeartbeats 1000000 in
theorem wordAt_eq {c : Nat → Nat} {S : Nat} {σB σM : St} (T : TC c S σB σM) (p e : Nat) (hp : p ≤ e) (he : e ≤ S) : ∃ r, fX10_wordAt σM (nI p) (nI e) = some r ∧ wres c p (e - p) r := by
  obtain ⟨t1, t2, t3, t4, t5⟩ := T
  unfold fX10_wordAt
  simp only [lt_eq, jnx1_eq, t5]
  generalize hFU : FU = Z
  have Zb : ∀ m, m < 1000000 → m < Z := fun m hm => by rw [← hFU]; exact FU_gt hm
  refine lpx2_wp (fun q => ∃ r, q = some r ∧ wres c p (e - p) r) (fun j x y => ∃ k, k + j = 19 ∧ x = nI k ∧ y = nI (woff k) ∧ ∀ k', k' < k → ¬ wmat c p (e - p) k') ?_ Z 19 0 0 (Zb _ (by omega)) ⟨0, by omega, rfl, rfl, fun k' h => by omega⟩
  rintro j self x y ⟨k, hk, rfl, rfl, hno⟩ ih
  by_cases c19 : k = 19
  · subst c19
    rw [if_pos (show (97 : Int32) ≤ nI (woff 19) from (leN (a := 97) (b := woff 19) (by omega) (by decide)).mpr (by decide))]
    exact ⟨-1, rfl, Or.inr ⟨fun k' h => hno k' h, rfl⟩⟩
  · obtain ⟨w1, w2, w3, w4, w5⟩ := wtab k (by omega)
    have w6 := wtab2 k (by omega)
    rw [if_neg (show ¬ (97 : Int32) ≤ nI (woff k) from fun z => absurd ((leN (a := 97) (b := woff k) (by omega) (by omega)).mp z) (by omega))]
    refine lpx1_wp (fun q => ∃ r, q = some r ∧ wres c p (e - p) r) (fun j x => ∃ t, t + j = wlen k ∧ x = nI t) ?_ Z (wlen k) 0 (Zb _ (by omega)) ⟨0, by omega, rfl⟩
    rintro j2 self2 x2 ⟨t, ht, rfl⟩ ih2
    simp only [nI_add, gdN (show woff k + t < 97 by omega) (show 97 ≤ 1000000 by omega), clN (show woff k + t < 1000000 by omega), wordsU_at (woff k + t) (by omega)]
    by_cases d : t = wlen k
    · subst d
      rw [w5, if_pos (show nI 32 = (32 : Int32) from rfl)]
      -- the comparison
      have cmp : ∀ f : Int32, f = (if wlen k = e - p then 1 else 0) → ∃ r, lpx2 Z (fun self15 (x13 : Int32) (x14 : Int32) => if nI (wlen k) ≤ x14 then (if x13 = 0 then self (nI k + 1) (nI (woff k) + (nI (wlen k) + 1)) else some (nI k)) else (if x13 = 0 then (if x13 = 0 then self (nI k + 1) (nI (woff k) + (nI (wlen k) + 1)) else some (nI k)) else (gd (ixI (nI (woff k) + x14) 97) (gd (ixI (nI p + x14) 700) (if (wordsU (Int32.toNatClampNeg (nI (woff k) + x14))) = (gA σM 0 0 (Int32.toNatClampNeg (nI p + x14))) then (self15 1 (x14 + 1)) else (self15 0 (x14 + 1))))))) f 0 = some r ∧ wres c p (e - p) r := by
        intro f hf
        have nxt : ¬ wmat c p (e - p) k → ∃ r, self (nI k + 1) (nI (woff k) + (nI (wlen k) + 1)) = some r ∧ wres c p (e - p) r := by
          intro hm
          refine ih (j - 1) _ _ (by omega) ⟨k + 1, by omega, nI_1 k, ?_, fun k' hk' => ?_⟩
          · rw [nI_1, nI_add, w1]
            rfl
          · by_cases q : k' = k
            · rw [q]; exact hm
            · exact hno k' (by omega)
        refine lpx2_wp (fun q => ∃ r, q = some r ∧ wres c p (e - p) r) (fun j x y => ∃ t, t + j = wlen k ∧ y = nI t ∧ ((x = 1 ∧ wlen k = e - p ∧ ∀ u, u < t → wc (woff k + u) = c (p + u)) ∨ (x = 0 ∧ ¬ wmat c p (e - p) k))) ?_ Z (wlen k) f 0 (Zb _ (by omega)) ⟨0, by omega, rfl, ?_⟩
        · rintro j3 self3 x3 y3 ⟨t, ht, rfl, hx⟩ ih3
          by_cases g : wlen k ≤ t
          · rw [if_pos ((leN (by omega) (by omega)).mpr g)]
            rcases hx with ⟨rfl, hx1, hx2⟩ | ⟨rfl, hx1⟩
            · rw [if_neg (by decide)]
              exact ⟨nI k, rfl, Or.inl ⟨k, by omega, ⟨hx1, fun u hu => hx2 u (by omega)⟩, rfl⟩⟩
            · rw [if_pos rfl]
              exact nxt hx1
          · rw [if_neg (fun z => g ((leN (by omega) (by omega)).mp z))]
            rcases hx with ⟨rfl, hx1, hx2⟩ | ⟨rfl, hx1⟩
            · rw [if_neg (by decide), nI_add, nI_add, gdN (show woff k + t < 97 by omega) (by omega), gdN (show p + t < 700 by omega) (by omega), clN (show woff k + t < 1000000 by omega), clN (show p + t < 1000000 by omega), wordsU_at (woff k + t) (by omega), (t4 (p + t) (by omega)).2.1]
              have hb := (t4 (p + t) (by omega)).1
              have ha := wc_lt (woff k + t) (by omega)
              by_cases s : wc (woff k + t) = c (p + t)
              · rw [if_pos (by rw [s])]
                refine ih3 (j3 - 1) _ _ (by omega) ⟨t + 1, by omega, nI_1 t, Or.inl ⟨rfl, hx1, fun u hu => ?_⟩⟩
                by_cases q : u = t
                · rw [q]; exact s
                · exact hx2 u (by omega)
              · rw [if_neg (fun z => s ((eqN (by omega) (by omega)).mp z))]
                refine ih3 (j3 - 1) _ _ (by omega) ⟨t + 1, by omega, nI_1 t, Or.inr ⟨rfl, fun z => s (z.2 t (by omega))⟩⟩
            · rw [if_pos rfl, if_pos rfl]
              exact nxt hx1
        · by_cases q : wlen k = e - p
          · rw [if_pos q] at hf
            exact Or.inl ⟨hf, q, fun u hu => by omega⟩
          · rw [if_neg q] at hf
            exact Or.inr ⟨hf, fun z => q z.1⟩
      have sb : nI e - nI p = nI (e - p) := pk_sub hp
      rw [sb]
      by_cases q : wlen k = e - p
      · rw [if_pos (by rw [q])]
        exact cmp 1 (by rw [if_pos q])
      · rw [if_neg (fun z => q ((eqN (by omega) (by omega)).mp z))]
        exact cmp 0 (by rw [if_neg q])
    · have hh := w6 t (by omega)
      rw [if_neg (show ¬ nI (wc (woff k + t)) = (32 : Int32) from fun z => absurd ((eqN (a := wc (woff k + t)) (b := 32) (by omega) (by omega)).mp z) (by omega))]
      exact ih2 (j2 - 1) _ (by omega) ⟨t + 1, by omega, nI_1 t⟩
