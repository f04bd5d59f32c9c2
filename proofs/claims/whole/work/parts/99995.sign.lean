def LL1 (k : Nat) : Nat := if rk k = 4 then 5 else rk k
theorem sgB_eq (b : St) (k : Nat) (hk : k < 15) (h3 : 3 ≤ k) : sgB b (nI k) = bV (fX10_bind b (nI (LL1 k))) fun σ14 => sgC (nI k) σ14 := by
  have hr := rk_le6 k
  unfold sgB LL1
  simp only [jnx1_eq]
  rw [if_neg (show ¬ nI k = 0 from fun z => absurd ((eqN (a := k) (b := 0) (by omega) (by omega)).mp z) (by omega)), rkM b k hk, bS]
  by_cases c : rk k = 4
  · rw [if_pos (show nI (rk k) = (4 : Int32) by rw [c]; rfl), if_pos c]; rfl
  · rw [if_neg (show ¬ nI (rk k) = (4 : Int32) from fun z => c ((eqN (a := rk k) (b := 4) (by omega) (by omega)).mp z)), bS, if_neg c]
/-- the sign on top, after binding, is no comparison -/
theorem FS.top {u : Bool} {S f kn m p op : Nat} {due : Bool} {ws hl : List Nat} {σB σM a b : St} (F : FS u S f kn m p due ws hl op σB σM a b) (h : ∀ k r, ws = k :: r → rk k ≠ 4) : gI b 0 37 = 0 ∨ ∃ n k', n < 96 ∧ gI b 0 37 = nI (n + 1) ∧ gA b 0 35 n = nI k' ∧ k' < 15 ∧ rk k' ≠ 4 := by
  obtain ⟨f1, f2, f3, f4, f5, f6, f9, f10, f11, f12, f13, f14, f15, f16, f17, f18, f19, f20, f21, f22, f25, f26⟩ := F
  cases ws with
  | nil => exact Or.inl f12
  | cons k r =>
    have hW := f13.len
    have hl : (k :: r).length = r.length + 1 := rfl
    refine Or.inr ⟨r.length, k, by omega, f12, f13.2.1, ?_, h k r rfl⟩
    have := f13.2.2.1
    unfold okW at this
    omega
/-- a sign taken, both sides, once the class has noted it -/
theorem tail_sim {u : Bool} {S f p m op kn k cb' : Nat} {ws hl : List Nat} {σB σM a3 b : St} (F : FS u S f kn m p false ws hl op σB σM a3 b) (hk : k < 15) (h3 : 3 ≤ k) (hSW : SW ws) (h4 : rk k = 4 → ¬ has4 (grp ws) = true) (hm : m < 64) (e8 : gI a3 11 8 = nI (m + 1)) (e40 : gI b 0 40 = nI m) (e7 : gI a3 11 7 = if k ≤ 4 then 1 else 0) (e5 : gI a3 11 5 = nI cb') (hcb : cb' < 512) (hb1 : cb'.testBit op = has4 (grp (k :: rel (LL1 k) ws))) (hb2 : CBr cb' ws) (et : gI a3 10 3 ≠ 21) : STEP u S f p σB σM (tsM a3 (nI (cw k))) (bV (fX10_bind b (nI (LL1 k))) fun σ14 => sgC (nI k) σ14) := by
  have t2 := lw_le u
  have hr := rk_le6 k
  obtain ⟨q1, q2, q3, q4, q5, q6, q7, q8, q9⟩ := cw_26 k hk h3
  have hL1 : 1 ≤ LL1 k ∧ LL1 k ≤ 6 := by unfold LL1; split <;> omega
  have he : ∀ j ∈ grp ws, rk k ≤ rk j ↔ LL1 k ≤ rk j := by
    intro j hj
    unfold LL1
    by_cases c : rk k = 4
    · rw [if_pos c]
      have : rk j ≠ 4 := fun z => h4 c ((has4_iff _).mpr ⟨j, hj, z⟩)
      omega
    · rw [if_neg c]
  have hlow : ∀ j ∈ grp (rel (LL1 k) ws), rk j < rk k := by
    intro j hj
    have g1 := grp_rel hSW j hj
    have g2 := grp_sub hL1.1 j hj
    by_cases c : rk k = 4
    · have : rk j ≠ 4 := fun z => h4 c ((has4_iff _).mpr ⟨j, g2, z⟩)
      unfold LL1 at g1
      rw [if_pos c] at g1
      omega
    · unfold LL1 at g1
      rw [if_neg c] at g1
      exact g1
  have hcw := cw_lt k hk
  have tb := F.2.2.2.1
  unfold tsM
  simp only [lt_eq]
  rw [rkB a3 k (by omega) hk, bS]
  obtain ⟨a', b', eA, eB, ⟨kn', hl', hkn, F'⟩, bk⟩ := bind_sim F (rk k) (LL1 k) hL1.1 hL1.2 (by omega) he
  rw [eA, eB, bVs, bVs]
  have F0 := F'
  obtain ⟨f1, f2, f3, f4, f5, f6, f9, f10, f11, f12, f13, f14, f15, f16, f17, f18, f19, f20, f21, f22, f25, f26⟩ := F0
  have hW := f13.len
  have htop : rk k = 4 → gI b' 0 37 = 0 ∨ ∃ n k', n < 96 ∧ gI b' 0 37 = nI (n + 1) ∧ gA b' 0 35 n = nI k' ∧ k' < 15 ∧ rk k' ≠ 4 := by
    intro c
    refine F'.top (fun k' r e z => ?_)
    have : LL1 k = 5 := by unfold LL1; rw [if_pos c]
    rw [this] at e
    exact h4 c ((top4 hSW).mpr ⟨k', r, e, z⟩)
  have l72 : (rel (LL1 k) ws).length < 72 := by omega
  have e40' : gI b' 0 40 = nI m := (bk.2 40 (by omega)).trans e40
  rw [putOff_eq a' _ l72 f11, bVs, sgC_pass b' hk htop, count_eq b' m f10 e40', if_neg (by omega), bIs, if_neg (show ¬ (1 : Int32) = 0 by decide), waits_eq _ (rel (LL1 k) ws).length (by omega) (by rw [gIn (by omega)]; exact f12), bVs]
  have ws0 : (k :: rel (LL1 k) ws).length = (rel (LL1 k) ws).length + 1 := rfl
  have hns : nsig (k :: rel (LL1 k) ws) = 1 + nsig (rel (LL1 k) ws) := by
    show (if 2 ≤ k then 1 else 0) + nsig _ = _
    rw [if_pos (by omega)]
  have hnb : nbin (k :: rel (LL1 k) ws) = 1 + nbin (rel (LL1 k) ws) := by
    show (if 3 ≤ k then 1 else 0) + nbin _ = _
    rw [if_pos (by omega)]
  have e7' : gI a' 11 7 = if k ≤ 4 then 1 else 0 := (bk.1 7 (by omega)).trans e7
  refine Or.inr ⟨_, _, true, k :: rel (LL1 k) ws, m + 1, op, rfl, rfl, ?_, ⟨kn', hl', F'.wait (due' := true) (ws' := k :: rel (LL1 k) ws) (m' := m + 1) (op' := op) ?_ ?_ ?_ ?_ ?_ ?_ ?_ (by omega) (by omega) ?_ ?_ ?_ ?_ ?_ ?_ f17 ?_ ?_ ?_ (fun z => by cases z)⟩, ⟨fun _ j hj => ⟨by have := hlow j hj; omega, fun z => absurd z (by have := hlow j hj; omega)⟩, hSW.rel⟩, ⟨cb', hcb, ?_, ?_, fun z => absurd z (by omega), hb2.rel⟩, fun _ hz j hj => ?_, ?_, ?_, ?_, ?_⟩
  · rw [gIo (by omega), gIo (by omega)]
    show gI a' 10 3 ≠ 21
    obtain ⟨i1, -, -, -, -, -, -, x1, -⟩ := f4
    obtain ⟨i2, -, -, -, -, -, -, x2, -⟩ := tb
    intro z
    have k0 := x1.cls
    have k0' := x2.cls
    obtain ⟨y, y0, y1, -, -, -, -, -, -, -, -, y2⟩ := k0
    obtain ⟨y', -, y1', -, -, -, -, -, -, -, -, y2'⟩ := k0'
    rw [bk.2 8 (by omega)] at y2
    have hy : y = 21 := by
      rw [y1] at z
      exact (eqN (a := y) (b := 21) (by omega) (by omega)).mp z
    have := y2'.mp (y2.mpr hy)
    exact et (by rw [y1', this]; rfl)
  · exact (FB.a11 u f a' 2 _).tr ((FB.w11 u f _ 3 _).tr (FB.w11 u f _ 6 _))
  · exact (FM.wI f b' (k := 40) _ (by omega)).tr ((FM.wA f _ (k := 35) (nI k) (by omega)).tr ((FM.wI f _ (k := 37) _ (by omega)).tr ((FM.wI f _ (k := 41) _ (by omega)).tr (FM.wI f _ (k := 42) _ (by omega)))))
  · intro o ho
    funext k'
    rw [gIo ho, gIo ho]
    rfl
  · intro o ho
    funext k'
    rw [gAI, gAI]
    simp only [sA]
    rw [gAo ho]
  · rfl
  · intro k' hk'
    rw [gIn (by omega), gIn (by omega), gIn (by omega)]
    show gI (sI b' 0 40 (nI (m + 1))) 0 k' = _
    rw [gIn (by omega)]
  · intro k' hk'
    rw [gAI, gAI, gAI]
    simp only [sA]
    rw [gAn hk']
    rfl
  · rw [gIn (by omega), gIe, ws0]
  · rw [gIn (by omega), gIn (by omega), gIe, ws0]
  · refine ⟨?_, ?_, Or.inr ⟨by omega, by omega⟩, f13.cg (fun i hi => ⟨?_, ?_⟩)⟩
    · rw [gAI, gAI]
      simp only [sA]
      rw [gAe, upd_eq]
    · rw [gAI, gAI, gAI]
      simp only [sA]
      rw [gAe, upd_eq]
    · rw [gAI, gAI]
      simp only [sA]
      rw [gAe, upd_ne (by omega)]
    · rw [gAI, gAI, gAI]
      simp only [sA]
      rw [gAe, upd_ne (by omega)]
      rfl
  · rw [gIn (by omega), gIn (by omega)]
    exact f14
  · rw [gIn (by omega), gIn (by omega), gIn (by omega)]
    show gI (sI b' 0 40 (nI (m + 1))) 0 39 = _
    rw [gIn (by omega)]; exact f15
  · rw [nbrak _ (by omega)]; exact f16
  · rw [gIe]; rfl
  · rw [gIn (by omega), gIe]; rfl
  · rw [hnb]
    simp at f25 ⊢
    omega
  · rw [gIn (by omega), gIn (by omega)]
    exact (bk.1 5 (by omega)).trans e5
  · rw [nbrak _ (by omega), ← f16]
    exact hb1
  · rw [gIn (by omega), gIn (by omega)] at hz
    have hz2 : gI a' 11 7 = 1 := hz
    rw [e7'] at hz2
    have hk4 : k ≤ 4 := by
      by_cases c : k ≤ 4
      · exact c
      · rw [if_neg c] at hz2
        exact absurd hz2 (by decide)
    rw [grpk _ (by omega)] at hj
    rcases List.mem_cons.mp hj with rfl | hj
    · have := q8.mpr hk4
      omega
    · have := hlow j hj
      have := q8.mpr hk4
      omega
  · rw [gIn (by omega), gIn (by omega)]
    exact (bk.1 8 (by omega)).trans e8
  · rw [gIn (by omega), gIn (by omega), gIn (by omega)]
    show gI (sI b' 0 40 (nI (m + 1))) 0 40 = _
    rw [gIe]
  · rw [gIn (show (7 : Nat) ≠ 6 by omega), gIn (show (7 : Nat) ≠ 3 by omega), gIe]
    show gI a' 11 7 = _
    rw [e7']
    by_cases c : k ≤ 4
    · have := q8.mpr c
      rw [if_pos c, if_neg (by omega)]
    · have : ¬ rk k < 3 := fun z => c (q8.mp z)
      rw [if_neg c, if_pos (by omega)]
  · rw [gIn (show (7 : Nat) ≠ 6 by omega), gIn (show (7 : Nat) ≠ 3 by omega)]
    show gI a' 11 7 = 0 ∨ gI a' 11 7 = 1
    rw [e7']
    by_cases c : k ≤ 4
    · rw [if_pos c]; exact Or.inr rfl
    · rw [if_neg c]; exact Or.inl rfl
theorem w2631 (a : St) (k : Nat) (hk : k < 15) (h3 : 3 ≤ k) : fX9_isWithin a (nI (cw k)) (26 : Int32) (31 : Int32) = some (if rk k = 4 then 1 else 0) := by
  have e := within_eq a (cw k) 26 31 (by have := cw_lt k hk; omega) (by omega) (by omega)
  have q := (cw_26 k hk h3).1
  refine Eq.trans e ?_
  by_cases c : rk k = 4
  · rw [if_pos c, if_pos (q.mpr c)]
  · rw [if_neg c, if_neg (fun z => c (q.mp z))]
theorem sign_sim2 {u : Bool} {S f p m op k : Nat} {ws : List Nat} {σB σM a b : St} (F : FX u S f p false ws m op σB σM a b) (hk : k < 15) (h3 : 3 ≤ k) (etk : gI a 10 3 = nI (cw k)) : STEP u S f p σB σM (fX1_takeSign a) (sgB b (nI k)) := by
  have t2 := lw_le u
  obtain ⟨⟨kn, hl, F⟩, hSW, ⟨cb, hcb, ecb, hCB, hCBr⟩, hfl, f7, f8, f23, f24⟩ := F
  have F0 := F
  obtain ⟨f1, f2, f3, f4, f5, f6, f9, f10, f11, f12, f13, f14, f15, f16, f17, f18, f19, f20, f21, f22, f25, f26⟩ := F0
  have hr := rk_le6 k
  have hcw := cw_lt k hk
  obtain ⟨q1, q2, q3, q4, q5, q6, q7, q8, q9⟩ := cw_26 k hk h3
  have z1 : ¬ (1 : Int32) = 0 := by decide
  have z0 : (0 : Int32) = 0 := rfl
  have hL1 : 1 ≤ LL1 k ∧ LL1 k ≤ 6 := by unfold LL1; split <;> omega
  have nr : ¬ nI (rk k) = (0 : Int32) := fun z => absurd ((eqN (a := rk k) (b := 0) (by omega) (by omega)).mp z) (by omega)
  have n11 : ¬ nI (cw k) = (11 : Int32) := fun z => q4 ((eqN (a := cw k) (b := 11) (by omega) (by omega)).mp z)
  have hbit : (((gI a 11 5) >>> ((gI a 11 4) &&& 31)) &&& (1 : Int32)) = (1 : Int32) ↔ has4 (grp ws) = true := by
    rw [ecb, f14, (cbit cb hcb op (by omega)).2.2, ← hCB, f16]
  have et : gI a 10 3 ≠ 21 := by
    rw [etk]
    exact fun z => q5 ((eqN (a := cw k) (b := 21) (by omega) (by omega)).mp z)
  rw [takeS_eq, sgB_eq b k hk h3, etk, w2631 a k hk h3, bS]
  by_cases bad : rk k = 4 ∧ has4 (grp ws) = true
  · rw [if_pos bad.1, if_neg z1, if_pos (hbit.mpr bad.2)]
    unfold tsK
    rw [rkB a k (by omega) hk, bS, if_neg nr, if_neg n11, if_neg z1]
    have e5 : LL1 k = 5 := by unfold LL1; rw [if_pos bad.1]
    rw [e5]
    obtain ⟨a', b', -, eB, ⟨kn', hl', hkn, F'⟩, bk⟩ := bind_sim F 5 5 (by omega) (by omega) (by omega) (fun _ _ => Iff.rfl)
    rw [eB, bVs]
    obtain ⟨k', r, er, h4⟩ := (top4 hSW).mp bad.2
    obtain ⟨g1, g2, g3, g4, g5, g6, g9, g10, g11, g12, g13, g14, g15, g16, g17, g18, g19, g20, g21, g22, g25, g26⟩ := F'
    rw [er] at g9 g12 g13
    have hW := g13.len
    have hll : (k' :: r).length = r.length + 1 := rfl
    have hbr : nbra (k' :: r) = op := by rw [← er]; exact g16.symm
    have ok' : k' < 15 := by
      have := g13.2.2.1
      unfold okW at this
      omega
    have M : sgC (nI k) b' = some (0, sI (sI b' 0 4 1) 0 5 (gI b' 0 10)) := by
      unfold sgC
      simp only [jnx1_eq]
      rw [rkM b' k hk, bS, if_pos (show nI (rk k) = (4 : Int32) by rw [bad.1]; rfl), g12, hll, if_neg (show ¬ nI (r.length + 1) ≤ (0 : Int32) from fun z => absurd ((leN (a := r.length + 1) (b := 0) (by omega) (by omega)).mp z) (by omega)), nI_pred, gdN (show r.length < 96 by omega) (by omega), clN (show r.length < 1000000 by omega), g13.2.1, rkM b' k' ok', bS, if_pos (show nI (rk k') = (4 : Int32) by rw [h4]; rfl), wrong_eq, bIs, gd00]
    rw [M]
    exact Or.inl ⟨1, a, b', rfl, rfl, Or.inl rfl, f1, g2, f4.cg (fun _ _ _ => rfl) (fun j j1 j2 => bk.2 j (by omega))⟩
  · have h4 : rk k = 4 → ¬ has4 (grp ws) = true := fun c z => bad ⟨c, z⟩
    have eK : (if (if rk k = 4 then (1 : Int32) else 0) = 0 then tsK a (nI (cw k)) (if rk k = 4 then (1 : Int32) else 0) 0 else (if (((gI a 11 5) >>> ((gI a 11 4) &&& 31)) &&& (1 : Int32)) = (1 : Int32) then tsK a (nI (cw k)) (if rk k = 4 then (1 : Int32) else 0) 1 else tsK a (nI (cw k)) (if rk k = 4 then (1 : Int32) else 0) 0)) = tsK a (nI (cw k)) (if rk k = 4 then (1 : Int32) else 0) 0 := by
      by_cases c : rk k = 4
      · rw [if_pos c, if_neg z1, if_neg (fun z => h4 c (hbit.mp z))]
      · rw [if_neg c, if_pos z0]
    rw [eK]
    unfold tsK
    rw [rkB a k (by omega) hk, bS, if_neg nr, if_neg n11, if_pos z0, meet_eq a m f10 f7, bIs]
    by_cases cm : m = 64
    · rw [if_pos cm, if_pos z0]
      have he : ∀ j ∈ grp ws, rk k ≤ rk j ↔ LL1 k ≤ rk j := by
        intro j hj
        unfold LL1
        by_cases c : rk k = 4
        · rw [if_pos c]
          have : rk j ≠ 4 := fun z => h4 c ((has4_iff _).mpr ⟨j, hj, z⟩)
          omega
        · rw [if_neg c]
      obtain ⟨a', b', -, eB, ⟨kn', hl', hkn, F'⟩, bk⟩ := bind_sim F (rk k) (LL1 k) hL1.1 hL1.2 (by omega) he
      have htop : rk k = 4 → gI b' 0 37 = 0 ∨ ∃ n k', n < 96 ∧ gI b' 0 37 = nI (n + 1) ∧ gA b' 0 35 n = nI k' ∧ k' < 15 ∧ rk k' ≠ 4 := by
        intro c
        refine F'.top (fun k' r e z => ?_)
        have : LL1 k = 5 := by unfold LL1; rw [if_pos c]
        rw [this] at e
        exact h4 c ((top4 hSW).mpr ⟨k', r, e, z⟩)
      rw [eB, bVs, sgC_pass b' hk htop, count_eq b' m f10 ((bk.2 40 (by omega)).trans f8), if_pos cm, bIs, if_pos z0]
      exact Or.inl ⟨2, _, b', rfl, rfl, Or.inr rfl, f1.tr (FB.w11 u f a 8 _), F'.2.1, f4.cg (fun j _ _ => gIo (by omega)) (fun j j1 j2 => bk.2 j (by omega))⟩
    · rw [if_neg cm, if_neg z1]
      have hm : m < 64 := by omega
      -- the waiting ranks below this sign
      have hlow : ∀ j ∈ grp (rel (LL1 k) ws), rk j < rk k := by
        intro j hj
        have g1 := grp_rel hSW j hj
        have g2 := grp_sub hL1.1 j hj
        by_cases c : rk k = 4
        · have : rk j ≠ 4 := fun z => h4 c ((has4_iff _).mpr ⟨j, g2, z⟩)
          unfold LL1 at g1
          rw [if_pos c] at g1
          omega
        · unfold LL1 at g1
          rw [if_neg c] at g1
          exact g1
      have e4 : ∀ (x : Int32), gI (sI (sI a 11 8 (nI (m + 1))) 11 7 x) 11 4 = nI op := fun x => by rw [gIn (by omega), gIn (by omega)]; exact f14
      have e5 : ∀ (x : Int32), gI (sI (sI a 11 8 (nI (m + 1))) 11 7 x) 11 5 = nI cb := fun x => by rw [gIn (by omega), gIn (by omega)]; exact ecb
      have F7 : ∀ (x : Int32), FS u S f kn m p false ws hl op σB σM (sI (sI a 11 8 (nI (m + 1))) 11 7 x) b := fun x => (F.c11 8 (by omega) _).c11 7 (by omega) x
      have et7 : ∀ (x : Int32), gI (sI (sI a 11 8 (nI (m + 1))) 11 7 x) 10 3 ≠ 21 := fun x => by rw [gIo (by omega), gIo (by omega)]; exact et
      by_cases k4 : k ≤ 4
      · -- and, or
        have L1 : tsL (sI a 11 8 (nI (m + 1))) (nI (cw k)) (if rk k = 4 then (1 : Int32) else 0) 1 = tsM (sI (sI (sI a 11 8 (nI (m + 1))) 11 7 1) 11 5 (nI (cb &&& (511 ^^^ 2 ^ op)))) (nI (cw k)) := by
          unfold tsL
          simp only [lt_eq]
          rw [gdb1, gIe, if_neg z1, e5, e4, (cbit cb hcb op (by omega)).2.1]
        have pick : (if nI (cw k) = (10 : Int32) then (tsL (sI a 11 8 (nI (m + 1))) (nI (cw k)) (if rk k = 4 then (1 : Int32) else 0) 1) else (if nI (cw k) = (9 : Int32) then (tsL (sI a 11 8 (nI (m + 1))) (nI (cw k)) (if rk k = 4 then (1 : Int32) else 0) 1) else (tsL (sI a 11 8 (nI (m + 1))) (nI (cw k)) (if rk k = 4 then (1 : Int32) else 0) 0))) = tsL (sI a 11 8 (nI (m + 1))) (nI (cw k)) (if rk k = 4 then (1 : Int32) else 0) 1 := by
          by_cases c : k = 3
          · rw [if_pos (show nI (cw k) = (10 : Int32) by rw [q2.mpr c]; rfl)]
          · rw [if_neg (show ¬ nI (cw k) = (10 : Int32) from fun z => c (q2.mp ((eqN (a := cw k) (b := 10) (by omega) (by omega)).mp z))), if_pos (show nI (cw k) = (9 : Int32) by rw [q3.mpr (by omega)]; rfl)]
        rw [pick, L1]
        obtain ⟨k1, k2, k3⟩ := clrb hcb (show op < 9 by omega)
        refine tail_sim ((F7 1).c11 5 (by omega) _) hk h3 hSW h4 hm ?_ f8 ?_ (gIe ..) k1 ?_ ?_ ?_
        · rw [gIn (by omega), gIn (by omega), gIe]
        · rw [gIn (by omega), gIe, if_pos k4]
        · rw [k2]
          symm
          rw [Bool.eq_false_iff]
          intro z
          obtain ⟨j, hj, hj4⟩ := (has4_iff _).mp z
          rw [grpk _ (by omega)] at hj
          have hk2 := q8.mpr k4
          rcases List.mem_cons.mp hj with rfl | hj
          · omega
          · have := hlow j hj
            omega
        · exact hCBr.bit (fun d hd => k3 d (by omega) (by omega))
        · rw [gIo (by omega)]; exact et7 1
      · have pick : (if nI (cw k) = (10 : Int32) then (tsL (sI a 11 8 (nI (m + 1))) (nI (cw k)) (if rk k = 4 then (1 : Int32) else 0) 1) else (if nI (cw k) = (9 : Int32) then (tsL (sI a 11 8 (nI (m + 1))) (nI (cw k)) (if rk k = 4 then (1 : Int32) else 0) 1) else (tsL (sI a 11 8 (nI (m + 1))) (nI (cw k)) (if rk k = 4 then (1 : Int32) else 0) 0))) = tsL (sI a 11 8 (nI (m + 1))) (nI (cw k)) (if rk k = 4 then (1 : Int32) else 0) 0 := by
          rw [if_neg (show ¬ nI (cw k) = (10 : Int32) from fun z => absurd (q2.mp ((eqN (a := cw k) (b := 10) (by omega) (by omega)).mp z)) (by omega)), if_neg (show ¬ nI (cw k) = (9 : Int32) from fun z => absurd (q3.mp ((eqN (a := cw k) (b := 9) (by omega) (by omega)).mp z)) (by omega))]
        rw [pick]
        by_cases c : rk k = 4
        · have L1 : tsL (sI a 11 8 (nI (m + 1))) (nI (cw k)) (if rk k = 4 then (1 : Int32) else 0) 0 = tsM (sI (sI (sI a 11 8 (nI (m + 1))) 11 7 0) 11 5 (nI (cb ||| 2 ^ op))) (nI (cw k)) := by
            unfold tsL
            simp only [lt_eq]
            rw [gdb0, gIe, if_pos z0, if_pos c, if_neg z1, e5, e4, (cbit cb hcb op (by omega)).1]
          rw [L1]
          obtain ⟨k1, k2, k3⟩ := setb hcb (show op < 9 by omega)
          refine tail_sim ((F7 0).c11 5 (by omega) _) hk h3 hSW h4 hm ?_ f8 ?_ (gIe ..) k1 ?_ ?_ ?_
          · rw [gIn (by omega), gIn (by omega), gIe]
          · rw [gIn (by omega), gIe, if_neg k4]
          · rw [k2]
            symm
            exact (has4_iff _).mpr ⟨k, by rw [grpk _ (by omega)]; exact List.mem_cons_self, c⟩
          · exact hCBr.bit (fun d hd => k3 d (by omega))
          · rw [gIo (by omega)]; exact et7 0
        · have L1 : tsL (sI a 11 8 (nI (m + 1))) (nI (cw k)) (if rk k = 4 then (1 : Int32) else 0) 0 = tsM (sI (sI a 11 8 (nI (m + 1))) 11 7 0) (nI (cw k)) := by
            unfold tsL
            simp only [lt_eq]
            rw [gdb0, gIe, if_pos z0, if_neg c, if_pos z0]
          rw [L1]
          have hk5 : 5 ≤ rk k := by
            have : ¬ rk k < 3 := fun z => k4 (q8.mp z)
            omega
          refine tail_sim (F7 0) hk h3 hSW h4 hm ?_ f8 ?_ (e5 0) hcb ?_ hCBr (et7 0)
          · rw [gIn (by omega), gIe]
          · rw [gIe, if_neg k4]
          · rw [f16, hCB, Bool.eq_iff_iff, has4_iff, has4_iff]
            have eL : LL1 k = rk k := by unfold LL1; rw [if_neg c]
            constructor
            · rintro ⟨j, hj, hj4⟩
              exact ⟨j, by rw [grpk _ (by omega)]; exact List.mem_cons_of_mem _ (grp_stay hL1.1 j hj (by omega)), hj4⟩
            · rintro ⟨j, hj, hj4⟩
              rw [grpk _ (by omega)] at hj
              rcases List.mem_cons.mp hj with rfl | hj
              · exact absurd hj4 c
              · exact ⟨j, grp_sub hL1.1 j hj, hj4⟩
