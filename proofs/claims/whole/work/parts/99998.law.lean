theorem lawR_cgB {σB σM σB' σM' : St} {t : Bool} {w B : Nat} (hb : ∃ x, x ≤ B ∧ gA σB (lw t) 3 w = nI x) (hB64 : B ≤ 64) (hB : ∀ k i, k < 2 → i < B → gA σB' (lw t) k i = gA σB (lw t) k i) (hB2 : ∀ k, 2 ≤ k → k ≤ 3 → gA σB' (lw t) k w = gA σB (lw t) k w) (hM2 : ∀ k, 29 ≤ k → k ≤ 31 → gA σM' 0 k w = gA σM 0 k w) (hM : ∀ k i, 32 ≤ k → k ≤ 34 → i < B → gA σM' 0 k i = gA σM 0 k i) (h : lawR σB σM t w) : lawR σB' σM' t w := by
  obtain ⟨f, u, h1, h2, h3, h4, h5, h6⟩ := h
  obtain ⟨x, x1, x2⟩ := hb
  have hu : u = x := (eqN (by omega) (by omega)).mp (h4.symm.trans x2)
  refine ⟨f, u, h1, h2, ?_, ?_, ?_, fun hfu => ?_⟩
  · rw [hB2 2 (by omega) (by omega)]; exact h3
  · rw [hB2 3 (by omega) (by omega)]; exact h4
  · rw [hM2 29 (by omega) (by omega)]; exact h5
  · obtain ⟨k1, k2, hs, e1, e2, e3⟩ := h6 hfu
    refine ⟨?_, ?_, hs, e1, e2, fun i h1 h2 => ?_⟩
    · rw [hM2 30 (by omega) (by omega)]; exact k1
    · rw [hM2 31 (by omega) (by omega)]; exact k2
    · obtain ⟨r1, r2, r3⟩ := e3 i h1 h2
      exact ⟨r1, r2, stepOK_cg (fun k hk => hB k i hk (by omega)) (fun k hk hk2 => hM k i hk hk2 (by omega)) r3⟩
theorem hwA {k : Nat} (h1 : 20 ≤ k) (h2 : k ≤ 28) : hw k = 6 := by unfold hw; rw [if_neg (by omega), if_pos (by omega)]
theorem hwL {k : Nat} (h1 : 29 ≤ k) (h2 : k ≤ 31) : hw k = 3 := by unfold hw; rw [if_neg (by omega), if_neg (by omega), if_pos (by omega)]
theorem hwK {k : Nat} (h1 : 32 ≤ k) : hw k = 64 := by unfold hw; rw [if_neg (by omega), if_neg (by omega), if_neg (by omega)]
/-- a law told -/
theorem TX.lawN {u : Bool} {n np f kn w : Nat} {σB σM a b : St} (X : TX u n np σB (hf σM)) (hw' : w < 3) (hfk : f < kn) (hkn : kn ≤ 64) (hI : gI a (tx u) = gI σB (tx u)) (h4 : gI a (lw u) 4 = nI kn) (hA : gA a (tx u) = gA σB (tx u)) (hL : ∀ k i, k < 2 → i < f → gA a (lw u) k i = gA σB (lw u) k i) (hL2 : ∀ k, 2 ≤ k → k ≤ 3 → ∀ i, i ≠ w → gA a (lw u) k i = gA σB (lw u) k i) (l2 : gA a (lw u) 2 w = nI f) (l3 : gA a (lw u) 3 w = nI kn)
    (m15 : gI b 0 15 = gI σM 0 15) (m16 : gI b 0 16 = gI σM 0 16) (m17 : gI b 0 17 = nI kn) (mA : ∀ k, 19 ≤ k → k ≤ 28 → gA b 0 k = gA σM 0 k) (mL : ∀ k, 29 ≤ k → k ≤ 31 → ∀ i, i ≠ 3 + w → gA b 0 k i = gA σM 0 k i) (e29 : gA b 0 29 (3 + w) = 1) (e30 : gA b 0 30 (3 + w) = nI f) (e31 : gA b 0 31 (3 + w) = nI kn) (mK : ∀ k i, 32 ≤ k → k ≤ 34 → i < 64 + f → gA b 0 k i = gA σM 0 k i) (hup : ∀ w', w' < 3 → ∃ x, x ≤ f ∧ gA σB (lw u) 3 w' = nI x) (W : WFp a (hf b) u f kn) : TX u n np a (hf b) := by
  obtain ⟨g1, g2, g3, g4, g5, g6, g7, g8, g9, g10, g11, g12, g13, g14, g15, g16, g17, g18, g19, g20, g21⟩ := X
  have keep : ∀ k, 19 ≤ k → k ≤ 28 → gA (hf b) 0 k = gA (hf σM) 0 k := by
    intro k h1 h2
    funext i
    show gA b 0 k (hw k + i) = gA σM 0 k (hw k + i)
    rw [mA k h1 h2]
  refine ⟨g1, g2, by rw [hI]; exact g3, m15.trans g4, by rw [hI]; exact g5, m16.trans g6, h4.trans m17.symm, fun k k1 k2 i hi => ?_, fun k k1 k2 i hi => ?_, fun k hk => ?_, fun w' hw2 => ?_, by rw [keep 21 (by omega) (by omega)]; exact g12, by rw [keep 22 (by omega) (by omega)]; exact g13, by rw [keep 23 (by omega) (by omega)]; exact g14, by rw [keep 24 (by omega) (by omega)]; exact g15, by rw [keep 25 (by omega) (by omega)]; exact g16, by rw [keep 27 (by omega) (by omega)]; exact g17, by rw [keep 28 (by omega) (by omega)]; exact g18, by rw [keep 19 (by omega) (by omega)]; exact g19, by rw [keep 19 (by omega) (by omega)]; exact g20, by rw [keep 19 (by omega) (by omega)]; exact g21⟩
  · rw [hA, keep (18 + k) (by omega) (by omega)]; exact g8 k k1 k2 i hi
  · rw [hA, keep (17 + k) (by omega) (by omega)]; exact g9 k k1 k2 i hi
  · rw [hI, keep 19 (by omega) (by omega)]; exact g10 k hk
  · by_cases q : w' = w
    · subst q
      refine ⟨f, kn, by omega, hkn, l2, l3, ?_, fun _ => ⟨?_, ?_, W⟩⟩
      · rw [if_pos hfk]; exact e29
      · exact e30
      · exact e31
    · refine lawR_cgB (B := f) (hup w' hw2) (by omega) hL (fun k k1 k2 => hL2 k k1 k2 w' q) (fun k k1 k2 => ?_) (fun k i k1 k2 hi => ?_) (g11 w' hw2)
      · show gA b 0 k (hw k + w') = gA σM 0 k (hw k + w')
        rw [hwL k1 k2]
        exact mL k k1 k2 _ (by omega)
      · show gA b 0 k (hw k + i) = gA σM 0 k (hw k + i)
        rw [hwK k1]
        exact mK k _ k1 k2 (by omega)
/-- the reference's reading of a law -/
def lwK (K : Int32 → St → Option (Int32 × St)) (σ : St) : Option (Int32 × St) :=
  bV (fX10_token σ) fun σ43 => jnx1 (fun (u9 : Unit) => bI (fX10_wrong σ43 (1 : Int32)) fun r46 σ47 => gd (r46 = 0 ∨ r46 = 1) (some (r46, σ47))) fun J44 => if (gI σ43 0 8) = (1 : Int32) then (if (gI σ43 0 9) < (6 : Int32) then (J44 ()) else (if (gI σ43 0 9) ≤ (8 : Int32) then (lt (((3 : Int32) + (gI σ43 0 9)) - (6 : Int32)) fun x52 => gd (ixI x52 6) (if (gA σ43 0 29 (Int32.toNatClampNeg x52)) = 0 then (gd (ixI x52 6) (lt (sA σ43 0 29 (Int32.toNatClampNeg x52) (vp_nar .boolean (1 : Int32))) fun σ56 => bV (fX10_token σ56) fun σ58 => gd (ixI x52 6) (lt (sA σ58 0 30 (Int32.toNatClampNeg x52) (gI σ58 0 17)) fun σ60 => bI (fX10_sumRead σ60) fun r62 σ63 => gd (ixI x52 6) (lt (sA σ63 0 31 (Int32.toNatClampNeg x52) (gI σ63 0 17)) fun σ65 => K r62 σ65)))) else (bI (fX10_wrong σ43 (3 : Int32)) fun r67 σ68 => gd (r67 = 0 ∨ r67 = 1) (some (r67, σ68))))) else (J44 ()))) else (J44 ())
theorem told_eq (σ : St) (u : Bool) (w x y : Nat) (hw' : w < 3) (hx : x ≤ 64) (hy : y ≤ 64) (e2 : gA σ (lw u) 2 w = nI x) (e3 : gA σ (lw u) 3 w = nI y) : fX2_isTold σ u (nI w) = some (if x < y then 1 else 0) := by
  unfold fX2_isTold
  simp only [jnx1_eq]
  rw [gdN hw' (by omega), gdN hw' (by omega), clN (show w < 1000000 by omega), e2, e3]
  by_cases c : x < y
  · rw [if_neg (fun z => absurd ((leN (by omega) (by omega)).mp z) (by omega)), if_pos c]
    exact gd11 _
  · rw [if_pos ((leN (by omega) (by omega)).mpr (by omega)), if_neg c]
    exact gd00 _
