theorem KN.cg {u : Bool} {f kn : Nat} {σB σM σB' σM' : St} {hl : List Nat} (h : KN u f kn σB σM hl) (hB : ∀ k i, k < 2 → i < kn → gA σB' (lw u) k i = gA σB (lw u) k i) (hM : ∀ k i, 32 ≤ k → k ≤ 34 → i < kn → gA σM' 0 k (64 + i) = gA σM 0 k (64 + i)) : KN u f kn σB' σM' hl := by
  obtain ⟨h1, h2, h3, g, g1, g2, g3⟩ := h
  refine ⟨h1, h2, h3, g, g1, g2, fun i i1 i2 => ?_⟩
  obtain ⟨q1, q2, q3⟩ := g3 i i1 i2
  refine ⟨q1, q2, stepOK_cg (fun k hk => hB k i hk i2) (fun k k1 k2 => ?_) q3⟩
  have h64 : hw k = 64 := by unfold hw; rw [if_neg (by omega), if_neg (by omega), if_neg (by omega)]
  show gA σM' 0 k (hw k + i) = gA σM 0 k (hw k + i)
  rw [h64]
  exact hM k i k1 k2 i2
/-- signs that wait have changed, no knot has -/
theorem FS.wait {u : Bool} {S f kn m p op m' op' : Nat} {due due' : Bool} {ws ws' hl : List Nat} {σB σM a b a' b' : St} (F : FS u S f kn m p due ws hl op σB σM a b) (g1 : FB u f a a') (g2 : FM f b b') (hB : ∀ o, o ≠ 11 → gI a' o = gI a o) (hBA : ∀ o, o ≠ 11 → gA a' o = gA a o) (hR : gR a' = gR a) (hM : ∀ k, k < 37 ∨ k = 38 → gI b' 0 k = gI b 0 k) (hMA : ∀ k, k ≠ 35 → gA b' 0 k = gA b 0 k)
    (c3 : kn + nsig ws' ≤ m') (c4 : m' ≤ 64) (c5 : gI a' 11 3 = nI ws'.length) (c6 : gI b' 0 37 = nI ws'.length) (c7 : WT (gA a' 11 2) (gA b' 0 35) ws') (c8 : gI a' 11 4 = nI op') (c9 : gI b' 0 39 = nI op') (c10 : op' = nbra ws') (c11 : op' ≤ 8) (c12 : gI a' 11 6 = (if due' then 1 else 0)) (c13 : gI b' 0 41 = (if due' then 1 else 0)) (c16 : hl.length = nbin ws' + (if due' then 0 else 1)) (c17 : due' = false → due = false) : FS u S f kn m' p due' ws' hl op' σB σM a' b' := by
  have t2 := lw_le u
  obtain ⟨f1, f2, f3, f4, f5, f6, f9, f10, f11, f12, f13, f14, f15, f16, f17, f18, f19, f20, f21, f22, f25, f26⟩ := F
  exact ⟨f1.tr g1, f2.tr g2, by rw [hR]; exact f3, f4.cg (fun k _ _ => by rw [hB 10 (by omega)]) (fun k _ _ => hM k (by omega)), by rw [hB _ (by omega)]; exact f5, (hM 17 (by omega)).trans f6, c3, c4, c5, c6, c7, c8, c9, c10, c11, (hM 38 (by omega)).trans f18, by rw [hMA 36 (by omega)]; exact f19, f20.cg (fun k i _ _ => by rw [hBA _ (by omega)]) (fun k i _ _ _ => by rw [hMA k (by omega)]), c12, c13, c16, fun z => f26 (c17 z)⟩
/-- a value has been read -/
theorem FS.val {u : Bool} {S f kn m p op : Nat} {ws hl : List Nat} {σB σM a b : St} {x y kx kv : Int32} (F : FS u S f kn m p true ws hl op σB σM a b) (hm : m < 64) (hs : (kx = 0 ∧ x = 20 ∧ y = kv) ∨ (kx = 1 ∧ ∃ k, k < 7 ∧ kv = nI k ∧ x = nI (12 + k))) :
    FS u S f (kn + 1) (m + 1) p false ws (kn :: hl) op σB σM (sI (sI (sA (sA (sI a 11 8 (nI (m + 1))) (lw u) 0 kn x) (lw u) 1 kn y) (lw u) 4 (nI (kn + 1))) 11 6 0) (sI (sI (sI (sA (sA (sA (sA (sI b 0 40 (nI (m + 1))) 0 32 (64 + kn) kx) 0 33 (64 + kn) kv) 0 34 (64 + kn) 0) 0 36 hl.length (nI kn)) 0 38 (nI (hl.length + 1))) 0 17 (nI (kn + 1))) 0 41 0) := by
  have t1 := tx_le u
  have t2 := lw_le u
  obtain ⟨f1, f2, f3, f4, f5, f6, f9, f10, f11, f12, f13, f14, f15, f16, f17, f18, f19, f20, f21, f22, f25, f26⟩ := F
  have hfk : f ≤ kn := f20.1
  have hmem := f20.2.1
  have hlen := f20.2.2.1
  refine ⟨?_, ?_, f3, ?_, ?_, ?_, by omega, by omega, ?_, ?_, ?_, ?_, ?_, f16, f17, ?_, ?_, ?_, ?_, ?_, ?_, fun _ => ⟨hl, by omega, by simp⟩⟩
  · exact f1.tr ((FB.w11 u f a 8 _).tr ((FB.al u f _ (k := 0) x (by omega) hfk).tr ((FB.al u f _ (k := 1) y (by omega) hfk).tr ((FB.wl u f _ 4 _).tr (FB.w11 u f _ 6 _)))))
  · exact f2.tr ((FM.wI f b (k := 40) _ (by omega)).tr ((FM.wA f _ (k := 32) kx (by omega)).tr ((FM.wA f _ (k := 33) kv (by omega)).tr ((FM.wA f _ (k := 34) 0 (by omega)).tr ((FM.wA f _ (k := 36) (nI kn) (by omega)).tr ((FM.wI f _ (k := 38) _ (by omega)).tr ((FM.wI f _ (k := 17) _ (by omega)).tr (FM.wI f _ (k := 41) _ (by omega)))))))))
  · refine f4.cg (fun j j1 j2 => ?_) (fun j j1 j2 => ?_)
    · rw [gIo (by omega), gIo (by omega)]
      show gI (sI a 11 8 (nI (m + 1))) 10 j = _
      rw [gIo (by omega)]
    · rw [gIn (by omega), gIn (by omega), gIn (by omega)]
      show gI (sI b 0 40 (nI (m + 1))) 0 j = _
      rw [gIn (by omega)]
  · rw [gIo (by omega), gIe]
  · rw [gIn (by omega), gIe]
  · rw [gIn (by omega), gIo (by omega)]
    show gI (sI a 11 8 (nI (m + 1))) 11 3 = _
    rw [gIn (by omega)]; exact f11
  · rw [gIn (by omega), gIn (by omega), gIn (by omega)]
    show gI (sI b 0 40 (nI (m + 1))) 0 37 = _
    rw [gIn (by omega)]; exact f12
  · refine f13.cg (fun i hi => ⟨?_, ?_⟩)
    · rw [gAI, gAI]
      simp only [sA]
      rw [gAo (by omega), gAo (by omega), gAI]
    · rw [gAI, gAI, gAI]
      simp only [sA]
      rw [gAn (by omega), gAn (by omega), gAn (by omega), gAn (by omega), gAI]
  · rw [gIn (by omega), gIo (by omega)]
    show gI (sI a 11 8 (nI (m + 1))) 11 4 = _
    rw [gIn (by omega)]; exact f14
  · rw [gIn (by omega), gIn (by omega), gIn (by omega)]
    show gI (sI b 0 40 (nI (m + 1))) 0 39 = _
    rw [gIn (by omega)]; exact f15
  · rw [gIn (by omega), gIn (by omega), gIe]
    simp
  · refine ⟨?_, ?_⟩
    · rw [gAI, gAI, gAI]
      simp only [sA]
      rw [gAe, upd_eq]
    · refine f19.cg (fun i hi => ?_)
      rw [gAI, gAI, gAI]
      simp only [sA]
      rw [gAe, upd_ne (by omega), gAn (by omega), gAn (by omega), gAn (by omega), gAI]
  · refine f20.add (fun j i j1 i1 => ?_) (fun j i j1 j2 i1 => ?_) ?_ (fun j hj => ?_) ?_
    · rw [gAI, gAI]
      simp only [sA]
      obtain rfl | rfl : j = 0 ∨ j = 1 := by omega
      · rw [gAn (by omega), gAe, upd_ne (by omega), gAI]
      · rw [gAe, upd_ne (by omega), gAn (by omega), gAI]
    · rw [gAI, gAI, gAI]
      simp only [sA]
      obtain rfl | rfl | rfl : j = 32 ∨ j = 33 ∨ j = 34 := by omega
      · rw [gAn (by omega), gAn (by omega), gAn (by omega), gAe, upd_ne (by omega), gAI]
      · rw [gAn (by omega), gAn (by omega), gAe, upd_ne (by omega), gAn (by omega), gAI]
      · rw [gAn (by omega), gAe, upd_ne (by omega), gAn (by omega), gAn (by omega), gAI]
    · have c0 : gA (sI (sI (sA (sA (sI a 11 8 (nI (m + 1))) (lw u) 0 kn x) (lw u) 1 kn y) (lw u) 4 (nI (kn + 1))) 11 6 0) (lw u) 0 kn = x := by
        rw [gAI, gAI]
        simp only [sA]
        rw [gAn (by omega), gAe, upd_eq]
      have c1 : gA (sI (sI (sA (sA (sI a 11 8 (nI (m + 1))) (lw u) 0 kn x) (lw u) 1 kn y) (lw u) 4 (nI (kn + 1))) 11 6 0) (lw u) 1 kn = y := by
        rw [gAI, gAI]
        simp only [sA]
        rw [gAe, upd_eq]
      have m32 : gA (hf (sI (sI (sI (sA (sA (sA (sA (sI b 0 40 (nI (m + 1))) 0 32 (64 + kn) kx) 0 33 (64 + kn) kv) 0 34 (64 + kn) 0) 0 36 hl.length (nI kn)) 0 38 (nI (hl.length + 1))) 0 17 (nI (kn + 1))) 0 41 0)) 0 32 kn = kx := by
        show gA (sI (sI (sI (sA (sA (sA (sA (sI b 0 40 (nI (m + 1))) 0 32 (64 + kn) kx) 0 33 (64 + kn) kv) 0 34 (64 + kn) 0) 0 36 hl.length (nI kn)) 0 38 (nI (hl.length + 1))) 0 17 (nI (kn + 1))) 0 41 0) 0 32 (64 + kn) = _
        rw [gAI, gAI, gAI]
        simp only [sA]
        rw [gAn (by omega), gAn (by omega), gAn (by omega), gAe, upd_eq]
      have m33 : gA (hf (sI (sI (sI (sA (sA (sA (sA (sI b 0 40 (nI (m + 1))) 0 32 (64 + kn) kx) 0 33 (64 + kn) kv) 0 34 (64 + kn) 0) 0 36 hl.length (nI kn)) 0 38 (nI (hl.length + 1))) 0 17 (nI (kn + 1))) 0 41 0)) 0 33 kn = kv := by
        show gA (sI (sI (sI (sA (sA (sA (sA (sI b 0 40 (nI (m + 1))) 0 32 (64 + kn) kx) 0 33 (64 + kn) kv) 0 34 (64 + kn) 0) 0 36 hl.length (nI kn)) 0 38 (nI (hl.length + 1))) 0 17 (nI (kn + 1))) 0 41 0) 0 33 (64 + kn) = _
        rw [gAI, gAI, gAI]
        simp only [sA]
        rw [gAn (by omega), gAn (by omega), gAe, upd_eq]
      unfold stepOK
      rw [c0, c1, m32, m33]
      rcases hs with ⟨s1, s2, s3⟩ | ⟨s1, k, s2, s3, s4⟩
      · exact Or.inl ⟨s1, s2, s3, rfl⟩
      · exact Or.inr (Or.inl ⟨s1, k, s2, s3, s4, rfl⟩)
    · rcases List.mem_cons.mp hj with rfl | hj
      · omega
      · have := hmem j hj
        omega
    · simp
      omega
  · rw [gIe]; rfl
  · rw [gIe]; rfl
  · simp at f25 ⊢
    exact f25
def FX (u : Bool) (S f p : Nat) (due : Bool) (ws : List Nat) (m op : Nat) (σB σM a b : St) : Prop := (∃ kn hl, FS u S f kn m p due ws hl op σB σM a b) ∧ SW ws ∧ (∃ cb, cb < 512 ∧ gI a 11 5 = nI cb ∧ CB cb ws) ∧ (due = true → gI a 11 7 = 1 → ∀ j ∈ grp ws, rk j ≤ 3) ∧ gI a 11 8 = nI m ∧ gI b 0 40 = nI m ∧ gI a 11 7 = gI b 0 42 ∧ (gI a 11 7 = 0 ∨ gI a 11 7 = 1)
theorem meet_eq (a : St) (m : Nat) (hm : m ≤ 64) (h : gI a 11 8 = nI m) : fX1_meetKnot a = some (if m = 64 then 0 else 1, sI a 11 8 (nI (m + 1))) := by
  unfold fX1_meetKnot
  simp only [lt_eq, jnx1_eq]
  rw [h, nI_1, gIe]
  by_cases c : m = 64
  · rw [if_pos (show (64 : Int32) < nI (m + 1) from (ltN (a := 64) (b := m + 1) (by omega) (by omega)).mpr (by omega)), if_pos c]
    exact gd00 _
  · rw [if_neg (show ¬ (64 : Int32) < nI (m + 1) from fun z => absurd ((ltN (a := 64) (b := m + 1) (by omega) (by omega)).mp z) (by omega)), if_neg c]
    exact gd11 _
theorem count_eq (b : St) (m : Nat) (hm : m ≤ 64) (h : gI b 0 40 = nI m) : fX10_isCounted b = if m = 64 then some (0, sI (sI b 0 4 2) 0 5 (gI b 0 10)) else some (1, sI b 0 40 (nI (m + 1))) := by
  unfold fX10_isCounted
  simp only [lt_eq, wrong_eq, bIs]
  rw [h, nI_1]
  by_cases c : m = 64
  · rw [if_pos (show nI m = (64 : Int32) by rw [c]; rfl), if_pos c]
    exact gd00 _
  · rw [if_neg (show ¬ nI m = (64 : Int32) from fun z => c ((eqN (a := m) (b := 64) (by omega) (by omega)).mp z)), if_neg c]
theorem putOff_eq (a : St) (n : Nat) (hn : n < 72) (h : gI a 11 3 = nI n) (x : Int32) : fX1_putOff a x = some (sI (sA a 11 2 n x) 11 3 (nI (n + 1))) := by
  have g : gI (sA a 11 2 n x) 11 3 = nI n := h
  unfold fX1_putOff
  simp only [lt_eq, jnx1_eq]
  rw [h, if_neg (show ¬ (72 : Int32) ≤ nI n from fun z => absurd ((leN (a := 72) (b := n) (by omega) (by omega)).mp z) (by omega)), gdN hn (by omega), clN (show n < 1000000 by omega), g, nI_1]
theorem waits_eq (b : St) (n : Nat) (hn : n < 96) (h : gI b 0 37 = nI n) (x : Int32) : fX10_waitsFor b x = some (sI (sA b 0 35 n x) 0 37 (nI (n + 1))) := by
  have g : gI (sA b 0 35 n x) 0 37 = nI n := h
  unfold fX10_waitsFor
  simp only [lt_eq]
  rw [h, gdN hn (by omega), clN (show n < 1000000 by omega), g, nI_1]
/-- one token of a formula, both sides: refused, or taken -/
def STEP (u : Bool) (S f p : Nat) (σB σM : St) (X Y : Option (Int32 × St)) : Prop :=
  (∃ w a' b', X = some (w, a') ∧ Y = some (0, sI (sI b' 0 4 w) 0 5 (gI b' 0 10)) ∧ (w = 1 ∨ w = 2) ∧ FB u f σB a' ∧ FM f σM b' ∧ TKp S p a' b') ∨
  (∃ a1 b1 due ws m op, X = some (0, a1) ∧ (Y = bV (fX10_token b1) fun σ => some ((1 : Int32), σ)) ∧ gI a1 10 3 ≠ 21 ∧ FX u S f p due ws m op σB σM a1 b1)
