theorem iMax0 (k : Nat) (h : k < 1000000) : iMax (0 : Int32) (nI k) = nI k := by
  unfold iMax
  by_cases c : (0 : Int32) < nI k
  · rw [if_pos c]
  · rw [if_neg c]
    have : k = 0 := by
      by_cases d : k = 0
      · exact d
      · exact absurd ((ltN (a := 0) (b := k) (by omega) h).mpr (by omega)) c
    rw [this]
    rfl
/-- a bracket closed -/
theorem close_sim {u : Bool} {S f p m op : Nat} {ws : List Nat} {σB σM a b : St} (F : FX u S f p false ws m op σB σM a b) (h25 : gI a 10 3 = 25) (h41 : fX10_isSign b (41 : Int32) = some 1) (hJ : sgJ b = sgB b 0) : STEP u S f p σB σM (fX1_takeClosing a) (fX10_signs b) := by
  have t2 := lw_le u
  obtain ⟨⟨kn, hl, F⟩, hSW, ⟨cb, hcb, ecb, hCB, hCBr⟩, hfl, f7, f8, f23, f24⟩ := F
  have F0 := F
  obtain ⟨f1, f2, f3, f4, f5, f6, f9, f10, f11, f12, f13, f14, f15, f16, f17, f18, f19, f20, f21, f22, f25, f26⟩ := F0
  rw [signs_eq, h41, bS, if_neg (show ¬ (1 : Int32) = 0 by decide)]
  unfold fX1_takeClosing
  simp only [lt_eq]
  rw [f14, f15]
  by_cases c : op = 0
  · rw [if_pos (show nI op = 0 by rw [c]; rfl), if_pos (show nI op ≤ 0 by rw [c]; decide), hJ]
    unfold sgB
    rw [if_pos (show (0 : Int32) = 0 from rfl), wrong_eq, bIs, gd00]
    exact Or.inl ⟨1, a, b, rfl, rfl, Or.inl rfl, f1, f2, f4⟩
  · rw [if_neg (show ¬ nI op = 0 from fun z => c ((eqN (a := op) (b := 0) (by omega) (by omega)).mp z)), if_neg (show ¬ nI op ≤ 0 from fun z => c (by have := (leN (a := op) (b := 0) (by omega) (by omega)).mp z; omega))]
    unfold sgCl
    simp only [lt_eq]
    obtain ⟨a', b', eA, eB, ⟨kn', hl', hkn, F'⟩, bk⟩ := bind_sim F 1 1 (by omega) (by omega) (by omega) (fun _ _ => Iff.rfl)
    rw [show fX1_releaseDownTo a (1 : Int32) = some a' from eA, show fX10_bind b (1 : Int32) = some b' from eB, bVs, bVs]
    obtain ⟨r, er⟩ := (rel1 f13).1 (by omega)
    have hCB' := hCBr.rel (L := 1)
    have hSW' := hSW.rel (L := 1)
    rw [er] at F' hCB' hSW'
    have F1 := F'
    obtain ⟨g1, g2, g3, g4, g5, g6, g9, g10, g11, g12, g13, g14, g15, g16, g17, g18, g19, g20, g21, g22, g25, g26⟩ := F1
    have hW := g13.len
    have hll : (0 :: r).length = r.length + 1 := rfl
    rw [nbra0] at g16
    have hns : nsig (0 :: r) = nsig r := by
      show 0 + nsig r = _
      omega
    have hnb : nbin (0 :: r) = nbin r := by
      show 0 + nbin r = _
      omega
    rw [nbra0, hns] at hW
    rw [g11, g12, hll, nI_pred, iMax0 _ (by omega)]
    rw [show gI (sI a' 11 3 (nI r.length)) 11 4 = nI ((op - 1) + 1) by rw [gIn (by omega), g14]; congr 1; omega, show gI (sI b' 0 37 (nI r.length)) 0 39 = nI ((op - 1) + 1) by rw [gIn (by omega), g15]; congr 1; omega, nI_pred]
    refine Or.inr ⟨_, _, false, r, m, op - 1, rfl, rfl, ?_, ⟨kn', hl', F'.wait (due' := false) (ws' := r) (m' := m) (op' := op - 1) ?_ ?_ ?_ ?_ ?_ ?_ ?_ (by omega) g10 ?_ ?_ ?_ ?_ ?_ (by omega) (by omega) ?_ ?_ ?_ (fun z => z)⟩, hSW'.2, ⟨cb, hcb, ?_, hCB'.1 rfl, hCB'.2⟩, fun z => (by cases z), ?_, ?_, ?_, ?_⟩
    · rw [gIo (by omega), gIo (by omega)]
      intro z
      obtain ⟨i1, -, -, -, -, -, -, x1, -⟩ := g4
      obtain ⟨i2, -, -, -, -, -, -, x2, -⟩ := f4
      obtain ⟨y, y0, y1, -, -, -, -, -, -, -, -, y2⟩ := x1.cls
      obtain ⟨y', -, y1', -, -, -, -, -, -, -, -, y2'⟩ := x2.cls
      rw [bk.2 8 (by omega)] at y2
      have hy : y = 21 := by
        rw [y1] at z
        exact (eqN (a := y) (b := 21) (by omega) (by omega)).mp z
      have := y2'.mp (y2.mpr hy)
      rw [this] at y1'
      exact absurd (y1'.symm.trans h25) (by decide)
    · exact (FB.w11 u f a' 3 _).tr (FB.w11 u f _ 4 _)
    · exact (FM.wI f b' (k := 37) _ (by omega)).tr (FM.wI f _ (k := 39) _ (by omega))
    · intro o ho
      funext k'
      rw [gIo ho, gIo ho]
    · intro o ho
      rfl
    · rfl
    · intro k' hk'
      rw [gIn (by omega), gIn (by omega)]
    · intro k' hk'
      rfl
    · rw [gIn (by omega), gIe]
    · rw [gIn (by omega), gIe]
    · exact g13.2.2.2
    · rw [gIe]
    · rw [gIe]
    · rw [gIn (by omega), gIn (by omega)]; exact g21
    · rw [gIn (by omega), gIn (by omega)]; exact g22
    · rw [← hnb]; exact g25
    · rw [gIn (by omega), gIn (by omega)]
      exact (bk.1 5 (by omega)).trans ecb
    · rw [gIn (by omega), gIn (by omega)]
      exact (bk.1 8 (by omega)).trans f7
    · rw [gIn (by omega), gIn (by omega)]
      exact (bk.2 40 (by omega)).trans f8
    · rw [gIn (by omega), gIn (show (7 : Nat) ≠ 3 by omega), gIn (show (42 : Nat) ≠ 39 by omega), gIn (show (42 : Nat) ≠ 37 by omega), bk.1 7 (by omega), bk.2 42 (by omega)]
      exact f23
    · rw [gIn (show (7 : Nat) ≠ 4 by omega), gIn (show (7 : Nat) ≠ 3 by omega), bk.1 7 (by omega)]
      exact f24
/-- no operand is due: both sides -/
theorem oper_sim {u : Bool} {S f p m op : Nat} {ws : List Nat} {σB σM a b : St} (F : FX u S f p false ws m op σB σM a b) : (gI a 10 3 = 25 → STEP u S f p σB σM (fX1_takeClosing a) (fX10_signs b)) ∧ (¬ gI a 10 3 = 25 → STEP u S f p σB σM (fX1_takeSign a) (fX10_signs b)) := by
  have t2 := lw_le u
  have F1 := F
  obtain ⟨⟨kn, hl, F2⟩, hSW, -, hfl, f7, f8, f23, f24⟩ := F1
  obtain ⟨f1, f2, f3, f4, f5, f6, f9, f10, f11, f12, f13, f14, f15, f16, f17, f18, f19, f20, f21, f22, f25, f26⟩ := F2
  obtain ⟨tk, ha, e1, c1, c2, c3, c4, c5, c6, c7, c8, c9, c10⟩ := f4.cls
  have s41 : fX10_isSign b (41 : Int32) = some (if tk = 25 then 1 else 0) := c1 41 25 (by unfold sgs; omega)
  have hJ := sgJ_eq c1 c2 c3 c4
  have n25 : gI a 10 3 = 25 ↔ tk = 25 := by rw [e1]; exact eqN (a := tk) (b := 25) (by omega) (by omega)
  constructor
  · intro h
    have ht := n25.mp h
    rw [if_pos ht] at s41
    rw [ht] at hJ
    exact close_sim F h s41 hJ
  · intro h
    have ht : tk ≠ 25 := fun z => h (n25.mpr z)
    rw [if_neg ht] at s41
    rw [signs_eq, s41, bS, if_pos (show (0 : Int32) = 0 from rfl), hJ]
    rcases sk_cw tk ha with h0 | ⟨h1, h2, h3⟩
    · rw [h0]
      have eM : sgB b (nI 0) = some (0, sI (sI b 0 4 1) 0 5 (gI b 0 10)) := by
        unfold sgB
        rw [if_pos (show nI 0 = (0 : Int32) from rfl), wrong_eq, bIs, gd00]
      have hw26 : ¬ (26 ≤ tk ∧ tk ≤ 31) := by
        intro z
        unfold sk at h0
        rw [if_neg (by omega), if_neg (by omega), if_pos z] at h0
        omega
      have eB : fX1_takeSign a = some (1, a) := by
        rw [takeS_eq, e1, show fX9_isWithin a (nI tk) (26 : Int32) (31 : Int32) = some (if 26 ≤ tk ∧ tk ≤ 31 then 1 else 0) from within_eq a tk 26 31 (by omega) (by omega) (by omega), bS, if_neg hw26, if_pos (show (0 : Int32) = 0 from rfl)]
        unfold tsK
        rw [rB_eq a tk ha, bS]
        by_cases d : tk = 11
        · have : rB tk = 3 := by unfold rB; rw [if_pos h0, if_pos d]
          rw [this, if_neg (show ¬ nI 3 = (0 : Int32) by decide), if_pos (show nI tk = (11 : Int32) by rw [d]; rfl)]
        · have : rB tk = 0 := by unfold rB; rw [if_pos h0, if_neg d]
          rw [this, if_pos (show nI 0 = (0 : Int32) from rfl)]
      rw [eB, eM]
      exact Or.inl ⟨1, a, b, rfl, rfl, Or.inl rfl, f1, f2, f4⟩
    · exact sign_sim2 F (by omega) h1 (by rw [h3]; exact e1)
