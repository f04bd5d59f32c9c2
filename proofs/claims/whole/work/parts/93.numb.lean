theorem num10 {v x : Nat} (hx : 48 ≤ x) : ((10 : Int32) * nI v + nI x) - (48 : Int32) = nI (10 * v + (x - 48)) := by
  have h1 : (10 : Int32) * nI v = nI (10 * v) := (Int32.ofNat_mul 10 v).symm
  rw [h1, nI_add, show 10 * v + x = (10 * v + (x - 48)) + 48 by omega, ← nI_add]
  exact Int32.add_sub_cancel _ _
theorem min6 {m : Nat} (hm : m < 100000000) : iMin (1000000 : Int32) (nI m) = nI (if m < 1000000 then m else 1000000) := by
  unfold iMin
  have e : (nI m < (1000000 : Int32)) ↔ m < 1000000 := nI_ltI (a := m) (b := 1000000) (by omega) (by omega)
  by_cases c : m < 1000000
  · rw [if_pos (e.mpr c), if_pos c]
  · rw [if_neg (fun z => c (e.mp z)), if_neg c]
    rfl
set_option maxHeartbeats 1000000 in
theorem numb_sim {c : Nat → Nat} {S : Nat} {σB σM : St} (T : TC c S σB σM) (i : Nat) (hi : i < S) (hd : 48 ≤ c i ∧ c i ≤ 57) (hB2 : gI σB 10 2 = nI i) (hB5 : gI σB 10 5 = 0) (hM7 : gI σM 0 7 = nI i) : SIM (fun σB' σM' => GO S i σB σM σB' σM') (fX7_readNumber σB) (lpx1 FU (fun self40 (σ39 : St) => Option.bind (fX10_isDigit σ39 (gI σ39 0 7)) fun r43 => if r43 = 0 then (some σ39) else (if (gI σ39 0 9) ≤ (99999 : Int32) then (gd (ixI (gI σ39 0 7) 700) (self40 (sI (sI σ39 0 9 ((((10 : Int32) * (gI σ39 0 9)) + (gA σ39 0 0 (Int32.toNatClampNeg (gI σ39 0 7)))) - (48 : Int32))) 0 7 ((gI (sI σ39 0 9 ((((10 : Int32) * (gI σ39 0 9)) + (gA σ39 0 0 (Int32.toNatClampNeg (gI σ39 0 7)))) - (48 : Int32))) 0 7) + (1 : Int32))))) else (self40 (sI (sI σ39 0 9 (gI σ39 0 9)) 0 7 ((gI (sI σ39 0 9 (gI σ39 0 9)) 0 7) + (1 : Int32)))))) (sI (sI σM 0 8 3) 0 9 0)) := by
  have hS := T.1
  unfold fX7_readNumber
  simp only [lt_eq, jnx1_eq]
  generalize hFU : FU = Z
  refine simlp1_1 _ (fun j a b => ∃ q v w, q + j = S ∧ i ≤ q ∧ frT σB a ∧ frU σM b ∧ gI a 10 4 = gI σB 10 4 ∧ gI b 0 10 = gI σM 0 10 ∧ gI a 10 2 = nI q ∧ gI b 0 7 = nI q ∧ gI a 10 3 = 20 ∧ gI b 0 8 = 3 ∧ gI a 10 5 = nI v ∧ gI b 0 9 = nI w ∧ v ≤ 1000000 ∧ w ≤ 1000000 ∧ (v = w ∨ (99999 < v ∧ 99999 < w))) ?_ Z Z (S - i) _ _ (by rw [← hFU]; exact FU_gt (by omega)) (by rw [← hFU]; exact FU_gt (by omega)) ⟨i, 0, 0, by omega, by omega, frT.s _ _ (by omega), (frU.s _ _ (by omega)).tr (frU.s _ _ (by omega)), by rw [gIn (by omega)], by rw [gIn (by omega), gIn (by omega)], by rw [gIn (by omega)]; exact hB2, by rw [gIn (by omega), gIn (by omega)]; exact hM7, by rw [gIe], by rw [gIn (by omega), gIe], by rw [gIn (by omega)]; exact hB5, by rw [gIe]; rfl, by omega, by omega, Or.inl rfl⟩
  rintro j sF sG a b ⟨q, v, w, h1, h2, h3, h4, h5, h6, h7, h8, h9, h10, h11, h12, h13, h14, h15⟩ ih
  have T' : TC c S a b := T.cg h3 h4
  have fin : q ≠ i → GO S i σB σM a b := fun hq => by
    refine ⟨h3, h4, h5, h6, q, by omega, by omega, h7, h8, ?_⟩
    unfold KR
    exact Or.inr (Or.inr (Or.inr (Or.inl ⟨h9, h10, v, w, h13, h14, h11, h12, h15⟩)))
  rw [h8, digM T' q (by omega), bS, T'.2.1, h7]
  by_cases d : q < S
  · have t4 := T'.2.2.2.1 q (by omega)
    rw [if_neg (fun z => absurd ((leN (by omega) (by omega)).mp z) (by omega)), gdN (show q < 700 by omega) (by omega), clN (show q < 1000000 by omega), t4.2.2, digB a (c q) t4.1, bS]
    by_cases e : 48 ≤ c q ∧ c q ≤ 57
    · have e1 : ¬ ((if 48 ≤ c q ∧ c q ≤ 57 then (1 : Int32) else 0) = 0) := by rw [if_pos e]; decide
      have e2 : ¬ ((if q < S ∧ 48 ≤ c q ∧ c q ≤ 57 then (1 : Int32) else 0) = 0) := by rw [if_pos ⟨d, e⟩]; decide
      rw [if_neg e1, if_neg e2, gdN (show q < 700 by omega) (by omega), byt_sm _ (by omega), h11, num10 (by omega), min6 (by omega)]
      have B : ∀ y : Int32, frT σB (sI (sI a 10 5 y) 10 2 (gI (sI a 10 5 y) 10 2 + 1)) ∧ gI (sI (sI a 10 5 y) 10 2 (gI (sI a 10 5 y) 10 2 + 1)) 10 4 = gI σB 10 4 ∧ gI (sI (sI a 10 5 y) 10 2 (gI (sI a 10 5 y) 10 2 + 1)) 10 2 = nI (q + 1) ∧ gI (sI (sI a 10 5 y) 10 2 (gI (sI a 10 5 y) 10 2 + 1)) 10 3 = 20 ∧ gI (sI (sI a 10 5 y) 10 2 (gI (sI a 10 5 y) 10 2 + 1)) 10 5 = y := fun y => ⟨h3.tr ((frT.s _ _ (by omega)).tr (frT.s _ _ (by omega))), by rw [gIn (by omega), gIn (by omega), h5], by rw [gIe, gIn (by omega), h7, nI_1], by rw [gIn (by omega), gIn (by omega), h9], by rw [gIn (by omega), gIe]⟩
      have M : ∀ y : Int32, frU σM (sI (sI b 0 9 y) 0 7 (gI (sI b 0 9 y) 0 7 + 1)) ∧ gI (sI (sI b 0 9 y) 0 7 (gI (sI b 0 9 y) 0 7 + 1)) 0 10 = gI σM 0 10 ∧ gI (sI (sI b 0 9 y) 0 7 (gI (sI b 0 9 y) 0 7 + 1)) 0 7 = nI (q + 1) ∧ gI (sI (sI b 0 9 y) 0 7 (gI (sI b 0 9 y) 0 7 + 1)) 0 8 = 3 ∧ gI (sI (sI b 0 9 y) 0 7 (gI (sI b 0 9 y) 0 7 + 1)) 0 9 = y := fun y => ⟨h4.tr ((frU.s _ _ (by omega)).tr (frU.s _ _ (by omega))), by rw [gIn (by omega), gIn (by omega), h6], by rw [gIe, gIn (by omega), h8, nI_1], by rw [gIn (by omega), gIn (by omega), h10], by rw [gIn (by omega), gIe]⟩
      rw [h12]
      have ew : (nI w ≤ (99999 : Int32)) ↔ w ≤ 99999 := nI_leI (a := w) (b := 99999) (by omega) (by omega)
      by_cases g : w ≤ 99999
      · rw [if_pos (ew.mpr g), gdN (show q < 700 by omega) (by omega), t4.2.1, num10 (by omega)]
        obtain ⟨B1, B2, B3, B4, B5⟩ := B (nI (if 10 * v + (c q - 48) < 1000000 then 10 * v + (c q - 48) else 1000000))
        obtain ⟨M1, M2, M3, M4, M5⟩ := M (nI (10 * w + (c q - 48)))
        have hvw : v = w := by omega
        subst hvw
        refine ih (j - 1) _ _ (by omega) ⟨q + 1, 10 * v + (c q - 48), 10 * v + (c q - 48), by omega, by omega, B1, M1, B2, M2, B3, M3, B4, M4, ?_, M5, by omega, by omega, Or.inl rfl⟩
        rw [B5, if_pos (by omega)]
      · rw [if_neg (fun z => g (ew.mp z))]
        obtain ⟨B1, B2, B3, B4, B5⟩ := B (nI (if 10 * v + (c q - 48) < 1000000 then 10 * v + (c q - 48) else 1000000))
        obtain ⟨M1, M2, M3, M4, M5⟩ := M (nI w)
        have hv : 99999 < v := by omega
        refine ih (j - 1) _ _ (by omega) ⟨q + 1, if 10 * v + (c q - 48) < 1000000 then 10 * v + (c q - 48) else 1000000, w, by omega, by omega, B1, M1, B2, M2, B3, M3, B4, M4, B5, M5, ?_, by omega, Or.inr ⟨?_, by omega⟩⟩
        · by_cases k : 10 * v + (c q - 48) < 1000000
          · rw [if_pos k]; omega
          · rw [if_neg k]; omega
        · by_cases k : 10 * v + (c q - 48) < 1000000
          · rw [if_pos k]; omega
          · rw [if_neg k]; omega
    · have e1 : (if 48 ≤ c q ∧ c q ≤ 57 then (1 : Int32) else 0) = 0 := by rw [if_neg e]
      have e2 : (if q < S ∧ 48 ≤ c q ∧ c q ≤ 57 then (1 : Int32) else 0) = 0 := by rw [if_neg (fun z => e z.2)]
      rw [if_pos e1, if_pos e2]
      exact SIM.ret (fin (fun z => by subst z; exact e hd))
  · have e2 : (if q < S ∧ 48 ≤ c q ∧ c q ≤ 57 then (1 : Int32) else 0) = 0 := by rw [if_neg (fun z => d z.1)]
    rw [if_pos ((leN (by omega) (by omega)).mpr (by omega)), if_pos e2]
    exact SIM.ret (fin (by omega))
