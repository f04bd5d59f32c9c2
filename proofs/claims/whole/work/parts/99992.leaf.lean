theorem w1218 (a : St) (tk : Nat) (h : tk < 36) : fX9_isWithin a (nI tk) (12 : Int32) (18 : Int32) = some (if 12 ≤ tk ∧ tk ≤ 18 then 1 else 0) := within_eq a tk 12 18 (by omega) (by omega) (by omega)
/-- a bracket opened -/
theorem open_sim {u : Bool} {S f p m op : Nat} {ws : List Nat} {σB σM a b : St} (F : FX u S f p true ws m op σB σM a b) (h24 : gI a 10 3 = 24) (h40 : fX10_isSign b (40 : Int32) = some 1) : STEP u S f p σB σM (fX1_takeOperand a) (fX10_leafRead b) := by
  have t2 := lw_le u
  obtain ⟨⟨kn, hl, F⟩, hSW, ⟨cb, hcb, ecb, hCB, hCBr⟩, hfl, f7, f8, f23, f24⟩ := F
  have F0 := F
  obtain ⟨f1, f2, f3, f4, f5, f6, f9, f10, f11, f12, f13, f14, f15, f16, f17, f18, f19, f20, f21, f22, f25, f26⟩ := F0
  have hW := f13.len
  have e24 : gI a 10 3 = nI 24 := h24
  unfold fX1_takeOperand fX10_leafRead
  simp only [lt_eq, jnx1_eq]
  rw [h40, bS, if_neg (show ¬ (1 : Int32) = 0 by decide), e24, if_neg (show ¬ nI 24 = (20 : Int32) by decide), w1218 a 24 (by omega), bS, if_pos (show (if 12 ≤ 24 ∧ 24 ≤ 18 then (1 : Int32) else 0) = 0 by decide), if_pos (show nI 24 = (24 : Int32) from rfl)]
  unfold fX1_takeOpening
  simp only [lt_eq]
  rw [f14, f15]
  by_cases c : op < 8
  · have ws0 : (0 :: ws).length = ws.length + 1 := rfl
    have l72 : ws.length < 72 := by omega
    rw [if_pos (show nI op < (8 : Int32) from (ltN (a := op) (b := 8) (by omega) (by omega)).mpr c), if_neg (show ¬ nI op = (8 : Int32) from fun z => absurd ((eqN (a := op) (b := 8) (by omega) (by omega)).mp z) (by omega)), nI_1, gIe, gIn (show (5 : Nat) ≠ 4 by omega), ecb, (cbit cb hcb (op + 1) (by omega)).2.1]
    obtain ⟨k1, k2, k3⟩ := clrb hcb (show op + 1 < 9 by omega)
    generalize cb &&& (511 ^^^ 2 ^ (op + 1)) = cb' at k1 k2 k3 ⊢
    rw [putOff_eq _ ws.length l72 (by rw [gIn (by omega), gIn (by omega), gIn (by omega)]; exact f11), bVs, bIs, waits_eq _ ws.length (by omega) (by rw [gIn (by omega)]; exact f12), bVs]
    refine Or.inr ⟨_, _, true, 0 :: ws, m, op + 1, rfl, rfl, ?_, ⟨kn, hl, F.wait (due' := true) (ws' := 0 :: ws) (m' := m) (op' := op + 1) ?_ ?_ ?_ ?_ rfl ?_ ?_ ?_ f10 ?_ ?_ ?_ ?_ ?_ ?_ (by omega) ?_ ?_ ?_ (fun z => by cases z)⟩, ⟨fun z => absurd rfl z, hSW⟩, ⟨cb', k1, ?_, ?_, ?_⟩, fun _ _ j hj => by rw [grp0] at hj; simp at hj, ?_, ?_, ?_, ?_⟩
    · rw [gIo (by omega)]
      show gI (sI (sI (sI a 11 4 (nI (op + 1))) 11 5 (nI cb')) 11 7 1) 10 3 ≠ 21
      rw [gIo (by omega), gIo (by omega), gIo (by omega), e24]
      decide
    · exact (FB.w11 u f a 4 _).tr ((FB.w11 u f _ 5 _).tr ((FB.w11 u f _ 7 _).tr ((FB.a11 u f _ 2 _).tr (FB.w11 u f _ 3 _))))
    · exact (FM.wI f b (k := 39) _ (by omega)).tr ((FM.wA f _ (k := 35) 0 (by omega)).tr ((FM.wI f _ (k := 37) _ (by omega)).tr (FM.wI f _ (k := 42) _ (by omega))))
    · intro o ho
      funext k
      rw [gIo ho]
      show gI (sI (sI (sI a 11 4 (nI (op + 1))) 11 5 (nI cb')) 11 7 1) o k = _
      rw [gIo ho, gIo ho, gIo ho]
    · intro o ho
      funext k
      rw [gAI]
      simp only [sA]
      rw [gAo ho]
      rfl
    · intro k hk
      rw [gIn (by omega), gIn (by omega)]
      show gI (sI b 0 39 (nI (op + 1))) 0 k = _
      rw [gIn (by omega)]
    · intro k hk
      rw [gAI, gAI]
      simp only [sA]
      rw [gAn hk]
      rfl
    · have : nsig (0 :: ws) = nsig ws := by
        show 0 + nsig ws = _
        omega
      omega
    · rw [gIe, ws0]
    · rw [gIn (by omega), gIe, ws0]
    · refine ⟨?_, ?_, Or.inl rfl, f13.cg (fun i hi => ⟨?_, ?_⟩)⟩
      · rw [gAI]
        simp only [sA]
        rw [gAe, upd_eq]
        rfl
      · rw [gAI, gAI]
        simp only [sA]
        rw [gAe, upd_eq]
        rfl
      · rw [gAI]
        simp only [sA]
        rw [gAe, upd_ne (by omega)]
        rfl
      · rw [gAI, gAI]
        simp only [sA]
        rw [gAe, upd_ne (by omega)]
        rfl
    · rw [gIn (by omega)]
      show gI (sI (sI (sI a 11 4 (nI (op + 1))) 11 5 (nI cb')) 11 7 1) 11 4 = _
      rw [gIn (by omega), gIn (by omega), gIe]
    · rw [gIn (by omega), gIn (by omega)]
      show gI (sI b 0 39 (nI (op + 1))) 0 39 = _
      rw [gIe]
    · rw [nbra0]; omega
    · rw [gIn (by omega)]
      show gI (sI (sI (sI a 11 4 (nI (op + 1))) 11 5 (nI cb')) 11 7 1) 11 6 = _
      rw [gIn (by omega), gIn (by omega), gIn (by omega)]; exact f21
    · rw [gIn (by omega), gIn (by omega)]
      show gI (sI b 0 39 (nI (op + 1))) 0 41 = _
      rw [gIn (by omega)]; exact f22
    · have : nbin (0 :: ws) = nbin ws := by
        show 0 + nbin ws = _
        omega
      rw [this]; exact f25
    · rw [gIn (by omega)]
      show gI (sI (sI (sI a 11 4 (nI (op + 1))) 11 5 (nI cb')) 11 7 1) 11 5 = _
      rw [gIn (by omega), gIe]
    · rw [nbra0, ← f16, k2]
      rfl
    · exact ⟨fun _ => by rw [← hCB, ← f16]; exact k3 op (by omega) (by omega), hCBr.bit (fun d hd => k3 d (by omega) (by omega))⟩
    · rw [gIn (by omega)]
      show gI (sI (sI (sI a 11 4 (nI (op + 1))) 11 5 (nI cb')) 11 7 1) 11 8 = _
      rw [gIn (by omega), gIn (by omega), gIn (by omega)]; exact f7
    · rw [gIn (by omega), gIn (by omega)]
      show gI (sI b 0 39 (nI (op + 1))) 0 40 = _
      rw [gIn (by omega)]; exact f8
    · rw [gIe, gIn (by omega)]
      show gI (sI (sI (sI a 11 4 (nI (op + 1))) 11 5 (nI cb')) 11 7 1) 11 7 = _
      rw [gIe]
    · rw [gIn (by omega)]
      show gI (sI (sI (sI a 11 4 (nI (op + 1))) 11 5 (nI cb')) 11 7 1) 11 7 = 0 ∨ gI (sI (sI (sI a 11 4 (nI (op + 1))) 11 5 (nI cb')) 11 7 1) 11 7 = 1
      rw [gIe]
      exact Or.inr rfl
  · rw [if_neg (show ¬ nI op < (8 : Int32) from fun z => c ((ltN (a := op) (b := 8) (by omega) (by omega)).mp z)), if_pos (show nI op = (8 : Int32) by rw [show op = 8 by omega]; rfl), bIs, wrong_eq, bIs, gd00]
    exact Or.inl ⟨2, a, b, rfl, rfl, Or.inr rfl, f1, f2, f4⟩
/-- 'not' -/
theorem not_sim {u : Bool} {S f p m op : Nat} {ws : List Nat} {σB σM a b : St} (F : FX u S f p true ws m op σB σM a b) (h11 : gI a 10 3 = 11) (h40 : fX10_isSign b (40 : Int32) = some 0) (hky : fX10_isKey b (11 : Int32) = some 1) (hnm : fX10_nameMet b = some (-1)) (h3 : ¬ gI b 0 8 = 3) : STEP u S f p σB σM (fX1_takeOperand a) (fX10_leafRead b) := by
  have t2 := lw_le u
  obtain ⟨⟨kn, hl, F⟩, hSW, ⟨cb, hcb, ecb, hCB, hCBr⟩, hfl, f7, f8, f23, f24⟩ := F
  have F0 := F
  obtain ⟨f1, f2, f3, f4, f5, f6, f9, f10, f11, f12, f13, f14, f15, f16, f17, f18, f19, f20, f21, f22, f25, f26⟩ := F0
  have hW := f13.len
  have e11 : gI a 10 3 = nI 11 := h11
  unfold fX1_takeOperand fX10_leafRead
  simp only [lt_eq, jnx1_eq]
  rw [h40, bS, if_pos (show (0 : Int32) = 0 from rfl), hky, bS, if_neg (show ¬ (1 : Int32) = 0 by decide), e11, if_neg (show ¬ nI 11 = (20 : Int32) by decide), w1218 a 11 (by omega), bS, if_pos (show (if 12 ≤ 11 ∧ 11 ≤ 18 then (1 : Int32) else 0) = 0 by decide), if_neg (show ¬ nI 11 = (24 : Int32) by decide), if_pos (show nI 11 = (11 : Int32) from rfl), ← f23]
  by_cases c7 : gI a 11 7 = 0
  · rw [if_pos c7, if_pos c7, hnm, bS, if_neg (show ¬ (0 : Int32) ≤ -1 by decide), if_neg h3, wrong_eq, bIs, gd00]
    exact Or.inl ⟨1, a, b, rfl, rfl, Or.inl rfl, f1, f2, f4⟩
  · have c71 : gI a 11 7 = 1 := by rcases f24 with z | z; exact absurd z c7; exact z
    rw [if_neg c7, if_neg c7, meet_eq a m f10 f7, count_eq b m f10 f8, bIs]
    by_cases c : m = 64
    · rw [if_pos c, if_pos c, if_pos (show (0 : Int32) = 0 from rfl), bIs, if_pos (show (0 : Int32) = 0 from rfl)]
      exact Or.inl ⟨2, _, b, rfl, rfl, Or.inr rfl, f1.tr (FB.w11 u f a 8 _), f2, f4.cg (fun k _ _ => gIo (by omega)) (fun _ _ _ => rfl)⟩
    · have ws0 : (2 :: ws).length = ws.length + 1 := rfl
      have hns : nsig (2 :: ws) = 1 + nsig ws := rfl
      rw [if_neg c, if_neg c, if_neg (show ¬ (1 : Int32) = 0 by decide), bIs, if_neg (show ¬ (1 : Int32) = 0 by decide), putOff_eq _ ws.length (by omega) (by rw [gIn (by omega)]; exact f11), bVs, waits_eq _ ws.length (by omega) (by rw [gIn (by omega)]; exact f12), bVs]
      refine Or.inr ⟨_, _, true, 2 :: ws, m + 1, op, rfl, rfl, ?_, ⟨kn, hl, F.wait (due' := true) (ws' := 2 :: ws) (m' := m + 1) (op' := op) ?_ ?_ ?_ ?_ rfl ?_ ?_ ?_ (by omega) ?_ ?_ ?_ ?_ ?_ ?_ f17 ?_ ?_ ?_ (fun z => by cases z)⟩, ⟨fun _ j hj => ⟨hfl rfl c71 j hj, fun _ => rfl⟩, hSW⟩, ⟨cb, hcb, ?_, ?_, fun z => absurd z (by omega), hCBr⟩, fun _ _ j hj => ?_, ?_, ?_, ?_, ?_⟩
      · rw [gIo (by omega)]
        show gI (sI a 11 8 (nI (m + 1))) 10 3 ≠ 21
        rw [gIo (by omega), e11]
        decide
      · exact (FB.w11 u f a 8 _).tr ((FB.a11 u f _ 2 _).tr (FB.w11 u f _ 3 _))
      · exact (FM.wI f b (k := 40) _ (by omega)).tr ((FM.wA f _ (k := 35) 2 (by omega)).tr (FM.wI f _ (k := 37) _ (by omega)))
      · intro o ho
        funext k
        rw [gIo ho]
        show gI (sI a 11 8 (nI (m + 1))) o k = _
        rw [gIo ho]
      · intro o ho
        funext k
        rw [gAI]
        simp only [sA]
        rw [gAo ho]
        rfl
      · intro k hk
        rw [gIn (by omega)]
        show gI (sI b 0 40 (nI (m + 1))) 0 k = _
        rw [gIn (by omega)]
      · intro k hk
        rw [gAI]
        simp only [sA]
        rw [gAn hk]
        rfl
      · omega
      · rw [gIe, ws0]
      · rw [gIe, ws0]
      · refine ⟨?_, ?_, Or.inr ⟨by omega, by omega⟩, f13.cg (fun i hi => ⟨?_, ?_⟩)⟩
        · rw [gAI]
          simp only [sA]
          rw [gAe, upd_eq]
          rfl
        · rw [gAI]
          simp only [sA]
          rw [gAe, upd_eq]
          rfl
        · rw [gAI]
          simp only [sA]
          rw [gAe, upd_ne (by omega)]
          rfl
        · rw [gAI]
          simp only [sA]
          rw [gAe, upd_ne (by omega)]
          rfl
      · rw [gIn (by omega)]
        show gI (sI a 11 8 (nI (m + 1))) 11 4 = _
        rw [gIn (by omega)]; exact f14
      · rw [gIn (by omega)]
        show gI (sI b 0 40 (nI (m + 1))) 0 39 = _
        rw [gIn (by omega)]; exact f15
      · rw [nbrak ws (by omega)]; exact f16
      · rw [gIn (by omega)]
        show gI (sI a 11 8 (nI (m + 1))) 11 6 = _
        rw [gIn (by omega)]; exact f21
      · rw [gIn (by omega)]
        show gI (sI b 0 40 (nI (m + 1))) 0 41 = _
        rw [gIn (by omega)]; exact f22
      · have : nbin (2 :: ws) = nbin ws := by
          show 0 + nbin ws = _
          omega
        rw [this]; exact f25
      · rw [gIn (by omega)]
        show gI (sI a 11 8 (nI (m + 1))) 11 5 = _
        rw [gIn (by omega)]; exact ecb
      · rw [nbrak ws (by omega), grpk ws (by omega)]
        exact hCB
      · rw [grpk ws (by omega)] at hj
        rcases List.mem_cons.mp hj with rfl | hj
        · exact Nat.le_refl 3
        · exact hfl rfl c71 j hj
      · rw [gIn (by omega)]
        show gI (sI a 11 8 (nI (m + 1))) 11 8 = _
        rw [gIe]
      · rw [gIn (by omega)]
        show gI (sI b 0 40 (nI (m + 1))) 0 40 = _
        rw [gIe]
      · rw [gIn (by omega), gIn (show (42 : Nat) ≠ 37 by omega)]
        show gI (sI a 11 8 (nI (m + 1))) 11 7 = gI (sI b 0 40 (nI (m + 1))) 0 42
        rw [gIn (by omega), gIn (by omega)]; exact f23
      · rw [gIn (by omega)]
        show gI (sI a 11 8 (nI (m + 1))) 11 7 = 0 ∨ gI (sI a 11 8 (nI (m + 1))) 11 7 = 1
        rw [gIn (by omega)]; exact f24
