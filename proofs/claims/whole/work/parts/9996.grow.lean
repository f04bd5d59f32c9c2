theorem addK_eq (a : St) (u : Bool) (kn : Nat) (hk : kn < 64) (h : gI a (lw u) 4 = nI kn) (x y : Int32) : fX2_add a u x y = some (sI (sA (sA a (lw u) 0 kn x) (lw u) 1 kn y) (lw u) 4 (nI (kn + 1))) := by
  have g1 : gI (sA a (lw u) 0 kn x) (lw u) 4 = nI kn := h
  have g2 : gI (sA (sA a (lw u) 0 kn x) (lw u) 1 kn y) (lw u) 4 = nI kn := h
  unfold fX2_add
  simp only [lt_eq, jnx1_eq]
  rw [h, if_neg (show ¬ (64 : Int32) ≤ nI kn from fun z => absurd ((leN (a := 64) (b := kn) (by omega) (by omega)).mp z) (by omega)), gdN hk (by omega), clN (show kn < 1000000 by omega), g1, gdN hk (by omega), clN (show kn < 1000000 by omega), g2, nI_1]
theorem drop_eq (b : St) (h : Nat) (hh : h < 96) (e : gI b 0 38 = nI (h + 1)) : fX10_dropHeld b = some (gA b 0 36 h, sI b 0 38 (nI h)) := by
  unfold fX10_dropHeld
  rw [lt_eq, e, nI_pred, gIe, gdN hh (by omega), clN (show h < 1000000 by omega), gAI]
theorem grown_eq (b : St) (kn h : Nat) (hk : kn < 64) (hh : h < 96) (e : gI b 0 17 = nI kn) (e2 : gI b 0 38 = nI h) (x y z : Int32) : fX10_grown b x y z = some (sI (sI (sA (sA (sA (sA b 0 32 (64 + kn) x) 0 33 (64 + kn) y) 0 34 (64 + kn) z) 0 36 h (nI kn)) 0 38 (nI (h + 1))) 0 17 (nI (kn + 1))) := by
  unfold fX10_grown
  simp only [lt_eq]
  have i1 : ∀ (k j : Nat) (σ : St) (x : Int32), gI (sA σ 0 k j x) = gI σ := fun _ _ _ _ => rfl
  have q : (64 : Int32) + nI kn = nI (64 + kn) := nI_add 64 kn
  simp only [i1, e, e2, q, gdN (show 64 + kn < 128 by omega) (show 128 ≤ 1000000 by omega), gdN (show h < 96 by omega) (show 96 ≤ 1000000 by omega), clN (show 64 + kn < 1000000 by omega), clN (show h < 1000000 by omega), nI_1]
  rw [gIn (show (17 : Nat) ≠ 38 by omega)]
  simp only [i1, e, nI_1]
