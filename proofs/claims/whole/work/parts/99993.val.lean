/-- a value, both sides -/
theorem val_sim {u : Bool} {S f p m op tk : Nat} {ws : List Nat} {σB σM a b : St} (F : FX u S f p true ws m op σB σM a b) (htk : tk < 36) (etk : gI a 10 3 = nI tk) (hv : tk = 20 ∨ (12 ≤ tk ∧ tk ≤ 18)) (h40 : fX10_isSign b (40 : Int32) = some 0) (hky : fX10_isKey b (11 : Int32) = some 0)
    (hcl : (tk = 20 ∧ fX10_nameMet b = some (-1) ∧ gI b 0 8 = 3 ∧ ∃ v w, v ≤ 1000000 ∧ w ≤ 1000000 ∧ gI a 10 5 = nI v ∧ gI b 0 9 = nI w ∧ (v = w ∨ (99999 < v ∧ 99999 < w))) ∨ (12 ≤ tk ∧ tk ≤ 18 ∧ fX10_nameMet b = some (nI (tk - 12)))) : STEP u S f p σB σM (fX1_takeOperand a) (fX10_leafRead b) := by
  have t2 := lw_le u
  obtain ⟨⟨kn, hl, F⟩, hSW, ⟨cb, hcb, ecb, hCB, hCBr⟩, hfl, f7, f8, f23, f24⟩ := F
  have F0 := F
  obtain ⟨f1, f2, f3, f4, f5, f6, f9, f10, f11, f12, f13, f14, f15, f16, f17, f18, f19, f20, f21, f22, f25, f26⟩ := F0
  have hkn := f20.1
  have hlen := f20.2.2.1
  have tok : gI (sI a 11 8 (nI (m + 1))) 10 5 = gI a 10 5 := gIo (by omega)
  have eB : fX1_takeOperand a = bI (fX1_takeValue a (nI tk)) fun r4 σ5 => some (r4, σ5) := by
    unfold fX1_takeOperand
    simp only [lt_eq, jnx1_eq]
    rw [etk]
    by_cases c : tk = 20
    · rw [if_pos (show nI tk = (20 : Int32) by rw [c]; rfl)]
    · rw [if_neg (show ¬ nI tk = (20 : Int32) from fun z => c ((eqN (a := tk) (b := 20) (by omega) (by omega)).mp z)), w1218 a tk htk, bS, if_pos (show 12 ≤ tk ∧ tk ≤ 18 by omega), if_neg (show ¬ (1 : Int32) = 0 by decide)]
  rw [eB]
  unfold fX1_takeValue
  simp only [jnx1_eq]
  rw [meet_eq a m f10 f7, bIs]
  -- the reference, as far as counting
  have bad : STEP u S f p σB σM (some ((2 : Int32), sI a 11 8 (nI (m + 1)))) (some ((0 : Int32), sI (sI b 0 4 2) 0 5 (gI b 0 10))) := Or.inl ⟨2, _, b, rfl, rfl, Or.inr rfl, f1.tr (FB.w11 u f a 8 _), f2, f4.cg (fun k _ _ => gIo (by omega)) (fun _ _ _ => rfl)⟩
  have good : ∀ kx kv : Int32, m ≠ 64 → ((kx = 0 ∧ nI tk = 20 ∧ gI a 10 5 = kv) ∨ (kx = 1 ∧ ∃ k, k < 7 ∧ kv = nI k ∧ nI tk = nI (12 + k))) → STEP u S f p σB σM (bI (bV (fX2_add (sI a 11 8 (nI (m + 1))) (gR (sI a 11 8 (nI (m + 1))) 4) (nI tk) (gI (sI a 11 8 (nI (m + 1))) 10 5)) fun σ8 => lt (sI σ8 11 6 (0 : Int32)) fun σ9 => some ((0 : Int32), σ9)) fun r4 σ5 => some (r4, σ5)) (bV (fX10_grown (sI b 0 40 (nI (m + 1))) kx kv (0 : Int32)) fun σ20 => bV (fX10_token (sI σ20 0 41 (0 : Int32))) fun σ23 => some ((1 : Int32), σ23)) := by
    intro kx kv hm hs
    rw [show gR (sI a 11 8 (nI (m + 1))) 4 = u from f3, addK_eq _ u kn (by omega) (by rw [gIo (by omega)]; exact f5), bVs, lt_eq, bIs, grown_eq _ kn hl.length (by omega) (by omega) (by rw [gIn (by omega)]; exact f6) (by rw [gIn (by omega)]; exact f18), bVs, tok]
    have V := F.val (x := nI tk) (y := gI a 10 5) (kx := kx) (kv := kv) (by omega) hs
    refine Or.inr ⟨_, _, false, ws, m + 1, op, rfl, rfl, ?_, ⟨_, _, V⟩, hSW, ⟨cb, hcb, ?_, hCB, hCBr⟩, fun z => (by cases z), ?_, ?_, ?_, ?_⟩
    · rw [gIo (by omega), gIo (by omega)]
      show gI (sI a 11 8 (nI (m + 1))) 10 3 ≠ 21
      rw [gIo (by omega), etk]
      exact fun z => absurd ((eqN (a := tk) (b := 21) (by omega) (by omega)).mp z) (by omega)
    · rw [gIn (by omega), gIo (by omega)]
      show gI (sI a 11 8 (nI (m + 1))) 11 5 = _
      rw [gIn (by omega)]; exact ecb
    · rw [gIn (by omega), gIo (by omega)]
      show gI (sI a 11 8 (nI (m + 1))) 11 8 = _
      rw [gIe]
    · rw [gIn (by omega), gIn (by omega), gIn (by omega)]
      show gI (sI b 0 40 (nI (m + 1))) 0 40 = _
      rw [gIe]
    · rw [gIn (by omega), gIo (by omega), gIn (show (42 : Nat) ≠ 41 by omega), gIn (show (42 : Nat) ≠ 17 by omega), gIn (show (42 : Nat) ≠ 38 by omega)]
      show gI (sI a 11 8 (nI (m + 1))) 11 7 = gI (sI b 0 40 (nI (m + 1))) 0 42
      rw [gIn (by omega), gIn (by omega)]; exact f23
    · rw [gIn (by omega), gIo (by omega)]
      show gI (sI a 11 8 (nI (m + 1))) 11 7 = 0 ∨ gI (sI a 11 8 (nI (m + 1))) 11 7 = 1
      rw [gIn (by omega)]; exact f24
  unfold fX10_leafRead
  simp only [lt_eq, jnx1_eq]
  rw [h40, bS, if_pos (show (0 : Int32) = 0 from rfl), hky, bS, if_pos (show (0 : Int32) = 0 from rfl)]
  rcases hcl with ⟨c20, hn, h3, v, w, v1, v2, v3, v4, v5⟩ | ⟨c1, c2, hn⟩
  · rw [hn, bS, if_neg (show ¬ (0 : Int32) ≤ -1 by decide), if_pos h3, if_neg (show ¬ (0 : Int32) ≤ -1 by decide), v4, tok, v3]
    have k20 : nI tk = (20 : Int32) := by rw [c20]; rfl
    by_cases cv : w ≤ 9999
    · have evw : v = w := by omega
      subst evw
      rw [if_pos (show nI v ≤ (9999 : Int32) from (leN (a := v) (b := 9999) (by omega) (by omega)).mpr cv), if_pos (show nI v ≤ (9999 : Int32) from (leN (a := v) (b := 9999) (by omega) (by omega)).mpr cv), count_eq b m f10 f8]
      by_cases c : m = 64
      · rw [if_pos c, if_pos c, if_pos (show (0 : Int32) = 0 from rfl), bIs, bIs, if_pos (show (0 : Int32) = 0 from rfl)]
        exact bad
      · rw [if_neg c, if_neg c, if_neg (show ¬ (1 : Int32) = 0 by decide), bIs, if_neg (show ¬ (1 : Int32) = 0 by decide), if_pos (show (-1 : Int32) < 0 by decide), if_pos (show (-1 : Int32) < 0 by decide), gIn (show (9 : Nat) ≠ 40 by omega), v4]
        have G := good 0 (nI v) c (Or.inl ⟨rfl, k20, v3⟩)
        rw [tok, v3] at G
        exact G
    · have hv' : ¬ v ≤ 9999 := by omega
      have nv : ¬ nI v ≤ (9999 : Int32) := fun z => by
        have : nI v ≤ nI 9999 := z
        rw [nI_leI (by omega) (by omega)] at this
        omega
      have nw : ¬ nI w ≤ (9999 : Int32) := fun z => by
        have : nI w ≤ nI 9999 := z
        rw [nI_leI (by omega) (by omega)] at this
        omega
      rw [if_neg nw, if_neg nv, if_pos k20, wrong_eq, bIs, gd00, ite_self, bIs]
      exact bad
  · have nn : ¬ nI (tk - 12) < 0 := nI_pos (by omega)
    have n0 : (0 : Int32) ≤ nI (tk - 12) := (leN (a := 0) (b := tk - 12) (by omega) (by omega)).mpr (by omega)
    rw [hn, bS, if_pos n0, if_pos n0, count_eq b m f10 f8]
    have n20 : ¬ nI tk = (20 : Int32) := fun z => absurd ((eqN (a := tk) (b := 20) (by omega) (by omega)).mp z) (by omega)
    by_cases c : m = 64
    · rw [if_pos c, if_pos c, if_pos (show (0 : Int32) = 0 from rfl), bIs, bIs, if_pos (show (0 : Int32) = 0 from rfl)]
      exact bad
    · rw [if_neg c, if_neg c, if_neg (show ¬ (1 : Int32) = 0 by decide), bIs, if_neg (show ¬ (1 : Int32) = 0 by decide), if_neg nn, if_neg nn, if_neg n20, ite_self]
      exact good 1 (nI (tk - 12)) c (Or.inr ⟨rfl, tk - 12, by omega, rfl, by rw [show 12 + (tk - 12) = tk by omega]⟩)
/-- an operand, both sides -/
theorem leaf_sim {u : Bool} {S f p m op : Nat} {ws : List Nat} {σB σM a b : St} (F : FX u S f p true ws m op σB σM a b) : STEP u S f p σB σM (fX1_takeOperand a) (fX10_leafRead b) := by
  have t2 := lw_le u
  have F1 := F
  obtain ⟨⟨kn, hl, F2⟩, hSW, -, hfl, f7, f8, f23, f24⟩ := F1
  obtain ⟨f1, f2, f3, f4, f5, f6, f9, f10, f11, f12, f13, f14, f15, f16, f17, f18, f19, f20, f21, f22, f25, f26⟩ := F2
  obtain ⟨tk, ha, e1, c1, c2, c3, c4, c5, c6, c7, c8, c9, c10⟩ := f4.cls
  have s40 : fX10_isSign b (40 : Int32) = some (if tk = 24 then 1 else 0) := c1 40 24 (by unfold sgs; omega)
  have k11 : fX10_isKey b (11 : Int32) = some (if tk = 11 then 1 else 0) := c2 11 (by omega)
  by_cases d24 : tk = 24
  · rw [if_pos d24] at s40
    exact open_sim F (by rw [e1, d24]; rfl) s40
  · rw [if_neg d24] at s40
    by_cases d11 : tk = 11
    · rw [if_pos d11] at k11
      rw [if_neg (by omega)] at c10
      exact not_sim F (by rw [e1, d11]; rfl) s40 k11 c10 (fun z => absurd (c5.mp z) (by omega))
    · rw [if_neg d11] at k11
      by_cases d20 : tk = 20
      · rw [if_neg (by omega)] at c10
        exact val_sim F ha e1 (Or.inl d20) s40 k11 (Or.inl ⟨d20, c10, c5.mpr d20, c6 d20⟩)
      · by_cases d12 : 12 ≤ tk ∧ tk ≤ 18
        · rw [if_pos d12] at c10
          exact val_sim F ha e1 (Or.inr d12) s40 k11 (Or.inr ⟨d12.1, d12.2, c10⟩)
        · rw [if_neg d12] at c10
          have n : ∀ j, j < 36 → tk ≠ j → ¬ nI tk = nI j := fun j hj h z => h ((eqN (by omega) (by omega)).mp z)
          have eB : fX1_takeOperand a = some (1, a) := by
            unfold fX1_takeOperand
            simp only [lt_eq, jnx1_eq]
            rw [e1, if_neg (show ¬ nI tk = (20 : Int32) from n 20 (by omega) d20), w1218 a tk ha, bS, if_neg d12, if_pos (show (0 : Int32) = 0 from rfl), if_neg (show ¬ nI tk = (24 : Int32) from n 24 (by omega) d24), if_neg (show ¬ nI tk = (11 : Int32) from n 11 (by omega) d11)]
          have eM : fX10_leafRead b = some (0, sI (sI b 0 4 1) 0 5 (gI b 0 10)) := by
            unfold fX10_leafRead
            simp only [lt_eq, jnx1_eq]
            rw [s40, bS, if_pos (show (0 : Int32) = 0 from rfl), k11, bS, if_pos (show (0 : Int32) = 0 from rfl), c10, bS, if_neg (show ¬ (0 : Int32) ≤ -1 by decide), if_neg (fun z => d20 (c5.mp z)), wrong_eq, bIs, gd00]
          rw [eB, eM]
          exact Or.inl ⟨1, a, b, rfl, rfl, Or.inl rfl, f1, f2, f4⟩
