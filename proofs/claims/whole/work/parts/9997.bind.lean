/-- what FS says of the states after a knot -/
theorem FS.knot {u : Bool} {S f kn m p k op : Nat} {r hl hr : List Nat} {σB σM a b b2 : St} {x z : Int32} (F : FS u S f kn m p false (k :: r) hl op σB σM a b) (hk : 2 ≤ k) (hb : FM f b b2) (hI : ∀ j, j ≠ 37 → j ≠ 38 → gI b2 0 j = gI b 0 j) (h37 : gI b2 0 37 = nI r.length) (hA : gA b2 = gA b)
    (hc : (k = 2 ∧ ∃ x', hl = x' :: hr ∧ x = nI x') ∨ (3 ≤ k ∧ ∃ x' y', hl = y' :: x' :: hr ∧ x = nI x' ∧ z = nI y')) :
    FS u S f (kn + 1) m p false r (kn :: hr) op σB σM (sI (sA (sA (sI a 11 3 (nI r.length)) (lw u) 0 kn (nI (cw k))) (lw u) 1 kn 0) (lw u) 4 (nI (kn + 1))) (sI (sI (sA (sA (sA (sA b2 0 32 (64 + kn) (nI k)) 0 33 (64 + kn) x) 0 34 (64 + kn) z) 0 36 hr.length (nI kn)) 0 38 (nI (hr.length + 1))) 0 17 (nI (kn + 1))) := by
  have t1 := tx_le u
  have t2 := lw_le u
  obtain ⟨f1, f2, f3, f4, f5, f6, f9, f10, f11, f12, f13, f14, f15, f16, f17, f18, f19, f20, f21, f22, f25, f26⟩ := F
  obtain ⟨w1, w2, w3, w4⟩ := f13
  have hk14 : k ≤ 14 := by unfold okW at w3; omega
  have hns : nsig (k :: r) = 1 + nsig r := by
    show (if 2 ≤ k then 1 else 0) + nsig r = _
    rw [if_pos hk]
  have hnb : nbra (k :: r) = nbra r := by
    show (if k = 0 then 1 else 0) + nbra r = _
    rw [if_neg (by omega)]; omega
  have hfk : f ≤ kn := f20.1
  have hmem := f20.2.1
  have hlen := f20.2.2.1
  have hh : (kn :: hr).length = nbin r + 1 ∧ (∀ j ∈ hr, j ∈ hl) ∧ hr.length + 1 ≤ hl.length := by
    rcases hc with ⟨c1, x', c2, -⟩ | ⟨c1, x', y', c2, -⟩
    · have : nbin (k :: r) = nbin r := by
        show (if 3 ≤ k then 1 else 0) + nbin r = _
        rw [if_neg (by omega)]; omega
      rw [c2, this] at f25
      refine ⟨?_, fun j hj => by rw [c2]; exact List.mem_cons_of_mem _ hj, by rw [c2]; simp⟩
      simpa using f25
    · have : nbin (k :: r) = 1 + nbin r := by
        show (if 3 ≤ k then 1 else 0) + nbin r = _
        rw [if_pos c1]
      rw [c2, this] at f25
      refine ⟨?_, fun j hj => by rw [c2]; exact List.mem_cons_of_mem _ (List.mem_cons_of_mem _ hj), by rw [c2]; simp⟩
      simp at f25 ⊢
      omega
  refine ⟨?_, ?_, f3, ?_, ?_, ?_, by omega, f10, ?_, ?_, ?_, ?_, ?_, by omega, f17, ?_, ?_, ?_, ?_, ?_, ?_, fun _ => ⟨hr, by omega, by simp⟩⟩
  · exact f1.tr ((FB.w11 u f a 3 _).tr ((FB.al u f _ (k := 0) (nI (cw k)) (by omega) hfk).tr ((FB.al u f _ (k := 1) 0 (by omega) hfk).tr (FB.wl u f _ 4 _))))
  · exact f2.tr (hb.tr ((FM.wA f b2 (k := 32) (nI k) (by omega)).tr ((FM.wA f _ (k := 33) x (by omega)).tr ((FM.wA f _ (k := 34) z (by omega)).tr ((FM.wA f _ (k := 36) (nI kn) (by omega)).tr ((FM.wI f _ (k := 38) _ (by omega)).tr (FM.wI f _ (k := 17) _ (by omega))))))))
  · refine f4.cg (fun j j1 j2 => ?_) (fun j j1 j2 => ?_)
    · rw [gIo (by omega)]
      show gI (sI a 11 3 (nI r.length)) 10 j = _
      rw [gIo (by omega)]
    · rw [gIn (by omega), gIn (by omega)]
      exact hI j (by omega) (by omega)
  · rw [gIe]
  · rw [gIe]
  · rw [gIo (by omega)]
    show gI (sI a 11 3 (nI r.length)) 11 3 = _
    rw [gIe]
  · rw [gIn (by omega), gIn (by omega)]
    exact h37
  · refine w4.cg (fun i hi => ⟨?_, ?_⟩)
    · rw [gAI]
      simp only [sA]
      rw [gAo (by omega), gAo (by omega), gAI]
    · rw [gAI, gAI]
      simp only [sA]
      rw [gAn (by omega), gAn (by omega), gAn (by omega), gAn (by omega), hA]
  · rw [gIo (by omega)]
    show gI (sI a 11 3 (nI r.length)) 11 4 = _
    rw [gIn (by omega)]; exact f14
  · rw [gIn (by omega), gIn (by omega)]
    exact (hI 39 (by omega) (by omega)).trans f15
  · rw [gIn (by omega), gIe]
    simp
  · refine ⟨?_, ?_⟩
    · rw [gAI, gAI]
      simp only [sA]
      rw [gAe, upd_eq]
    · have hr2 : HL (gA b 0 36) hr := by
        rcases hc with ⟨c1, x', c2, -⟩ | ⟨c1, x', y', c2, -⟩
        · rw [c2] at f19; exact f19.2
        · rw [c2] at f19; exact f19.2.2
      refine hr2.cg (fun i hi => ?_)
      rw [gAI, gAI]
      simp only [sA]
      rw [gAe, upd_ne (by omega), gAn (by omega), gAn (by omega), gAn (by omega), hA]
  · refine f20.add (fun j i j1 i1 => ?_) (fun j i j1 j2 i1 => ?_) ?_ (fun j hj => ?_) ?_
    · rw [gAI]
      simp only [sA]
      obtain rfl | rfl : j = 0 ∨ j = 1 := by omega
      · rw [gAn (by omega), gAe, upd_ne (by omega), gAI]
      · rw [gAe, upd_ne (by omega), gAn (by omega), gAI]
    · rw [gAI, gAI]
      simp only [sA]
      obtain rfl | rfl | rfl : j = 32 ∨ j = 33 ∨ j = 34 := by omega
      · rw [gAn (by omega), gAn (by omega), gAn (by omega), gAe, upd_ne (by omega), hA]
      · rw [gAn (by omega), gAn (by omega), gAe, upd_ne (by omega), gAn (by omega), hA]
      · rw [gAn (by omega), gAe, upd_ne (by omega), gAn (by omega), gAn (by omega), hA]
    · have c0 : gA (sI (sA (sA (sI a 11 3 (nI r.length)) (lw u) 0 kn (nI (cw k))) (lw u) 1 kn 0) (lw u) 4 (nI (kn + 1))) (lw u) 0 kn = nI (cw k) := by
        rw [gAI]
        simp only [sA]
        rw [gAn (by omega), gAe, upd_eq]
      have m32 : gA (hf (sI (sI (sA (sA (sA (sA b2 0 32 (64 + kn) (nI k)) 0 33 (64 + kn) x) 0 34 (64 + kn) z) 0 36 hr.length (nI kn)) 0 38 (nI (hr.length + 1))) 0 17 (nI (kn + 1)))) 0 32 kn = nI k := by
        show gA (sI (sI (sA (sA (sA (sA b2 0 32 (64 + kn) (nI k)) 0 33 (64 + kn) x) 0 34 (64 + kn) z) 0 36 hr.length (nI kn)) 0 38 (nI (hr.length + 1))) 0 17 (nI (kn + 1))) 0 32 (64 + kn) = _
        rw [gAI, gAI]
        simp only [sA]
        rw [gAn (by omega), gAn (by omega), gAn (by omega), gAe, upd_eq]
      have m33 : gA (hf (sI (sI (sA (sA (sA (sA b2 0 32 (64 + kn) (nI k)) 0 33 (64 + kn) x) 0 34 (64 + kn) z) 0 36 hr.length (nI kn)) 0 38 (nI (hr.length + 1))) 0 17 (nI (kn + 1)))) 0 33 kn = x := by
        show gA (sI (sI (sA (sA (sA (sA b2 0 32 (64 + kn) (nI k)) 0 33 (64 + kn) x) 0 34 (64 + kn) z) 0 36 hr.length (nI kn)) 0 38 (nI (hr.length + 1))) 0 17 (nI (kn + 1))) 0 33 (64 + kn) = _
        rw [gAI, gAI]
        simp only [sA]
        rw [gAn (by omega), gAn (by omega), gAe, upd_eq]
      have m34 : gA (hf (sI (sI (sA (sA (sA (sA b2 0 32 (64 + kn) (nI k)) 0 33 (64 + kn) x) 0 34 (64 + kn) z) 0 36 hr.length (nI kn)) 0 38 (nI (hr.length + 1))) 0 17 (nI (kn + 1)))) 0 34 kn = z := by
        show gA (sI (sI (sA (sA (sA (sA b2 0 32 (64 + kn) (nI k)) 0 33 (64 + kn) x) 0 34 (64 + kn) z) 0 36 hr.length (nI kn)) 0 38 (nI (hr.length + 1))) 0 17 (nI (kn + 1))) 0 34 (64 + kn) = _
        rw [gAI, gAI]
        simp only [sA]
        rw [gAn (by omega), gAe, upd_eq]
      unfold stepOK
      rw [c0, m32, m33, m34]
      rcases hc with ⟨c1, x', c2, c3⟩ | ⟨c1, x', y', c2, c3, c4⟩
      · subst c1
        exact Or.inr (Or.inr (Or.inl ⟨rfl, rfl, x', hr, c2, c3, rfl⟩))
      · exact Or.inr (Or.inr (Or.inr ⟨k, c1, hk14, rfl, cw_kB k (by omega) c1, x', y', hr, c2, c3, c4, rfl⟩))
    · rcases List.mem_cons.mp hj with rfl | hj
      · omega
      · have := hmem j (hh.2.1 j hj)
        omega
    · simp
      omega
  · rw [gIo (by omega)]
    show gI (sI a 11 3 (nI r.length)) 11 6 = _
    rw [gIn (by omega)]; exact f21
  · rw [gIn (by omega), gIn (by omega)]
    exact (hI 41 (by omega) (by omega)).trans f22
  · rw [hh.1]; rfl
/-- what binding keeps -/
def BK (a b a' b' : St) : Prop := (∀ k, 4 ≤ k → gI a' 11 k = gI a 11 k) ∧ (∀ k, (k < 17 ∨ 39 ≤ k) → gI b' 0 k = gI b 0 k)
theorem bind_sim {u : Bool} {S f kn m p op : Nat} {ws hl : List Nat} {σB σM a b : St} (F : FS u S f kn m p false ws hl op σB σM a b) (L L1 : Nat) (h1 : 1 ≤ L1) (h6 : L1 ≤ 6) (hL : L ≤ 6) (he : ∀ k ∈ grp ws, L ≤ rk k ↔ L1 ≤ rk k) :
    SIM (fun a' b' => (∃ kn' hl', kn ≤ kn' ∧ FS u S f kn' m p false (rel L1 ws) hl' op σB σM a' b') ∧ BK a b a' b') (fX1_releaseDownTo a (nI L)) (fX10_bind b (nI L1)) := by
  have t2 := lw_le u
  have hfuel : ws.length < FU := by
    obtain ⟨f1, f2, f3, f4, f5, f6, f9, f10, f11, f12, f13, f14, f15, f16, f17, f18, f19, f20, f21, f22, f25, f26⟩ := F
    have e := f13.len
    exact FU_gt (by omega)
  unfold fX1_releaseDownTo fX10_bind
  simp only [lt_eq, jnx1_eq, jnx2_eq]
  generalize hFU : FU = Z
  rw [hFU] at hfuel
  refine simlp1_1 _ (fun j x y => ∃ kn' ws' hl', j = ws'.length ∧ kn ≤ kn' ∧ FS u S f kn' m p false ws' hl' op σB σM x y ∧ rel L1 ws' = rel L1 ws ∧ (∀ k ∈ grp ws', L ≤ rk k ↔ L1 ≤ rk k) ∧ BK a b x y) ?_ Z Z ws.length a b hfuel hfuel ⟨kn, ws, hl, rfl, Nat.le_refl _, F, rfl, he, fun _ _ => rfl, fun _ _ => rfl⟩
  rintro j sF sG x y ⟨kn', ws', hl', rfl, hkn, F', hrel, he', hbk⟩ self
  have F'' := F'
  obtain ⟨f1, f2, f3, f4, f5, f6, f9, f10, f11, f12, f13, f14, f15, f16, f17, f18, f19, f20, f21, f22, f25, f26⟩ := F''
  cases ws' with
  | nil =>
    have z : (nI (List.length ([] : List Nat)) : Int32) ≤ 0 := by decide
    rw [f11, f12, if_pos z, if_pos z]
    refine SIM.ret ⟨⟨kn', hl', hkn, ?_⟩, hbk⟩
    rw [← hrel]
    exact F'
  | cons k r =>
    have hlen : (k :: r).length = r.length + 1 := rfl
    have hW := f13.len
    obtain ⟨w1, w2, w3, w4⟩ := f13
    have hle : r.length < 72 := by omega
    have z : ¬ (nI (r.length + 1) : Int32) ≤ 0 := fun z => absurd ((leN (a := r.length + 1) (b := 0) (by omega) (by omega)).mp z) (by omega)
    rw [f11, f12, hlen, if_neg z, if_neg z, nI_pred, gdN hle (by omega), gdN (show r.length < 96 by omega) (by omega), clN (show r.length < 1000000 by omega), w1, w2]
    have hk15 : k < 15 := by unfold okW at w3; omega
    rw [rkM _ k hk15, bS]
    by_cases k0 : k = 0
    · rw [if_pos (show nI (cw k) = (24 : Int32) by rw [k0]; rfl), if_pos (show nI (rk k) < nI L1 from (ltN (show rk k < 1000000 by rw [k0]; decide) (by omega)).mpr (by rw [k0]; exact h1))]
      refine SIM.ret ⟨⟨kn', hl', hkn, ?_⟩, hbk⟩
      rw [← hrel]
      have : rel L1 (k :: r) = k :: r := by
        show (if L1 ≤ rk k then rel L1 r else k :: r) = _
        rw [if_neg (by rw [k0]; show ¬ L1 ≤ 0; omega)]
      rw [this]
      exact F'
    · have k2 : 2 ≤ k := by unfold okW at w3; omega
      have c24 : ¬ nI (cw k) = (24 : Int32) := fun z => by
        have := cw_lt k hk15
        exact k0 ((cw_24 k hk15 (by omega)).mp ((eqN (a := cw k) (b := 24) (by omega) (by omega)).mp z))
      have hrk : rk k ≤ 6 := by unfold rk; (repeat' split) <;> omega
      have hg : L ≤ rk k ↔ L1 ≤ rk k := he' k (by show k ∈ (if k = 0 then [] else k :: grp r); rw [if_neg k0]; exact List.mem_cons_self)
      rw [if_neg c24, gdN hle (by omega), rkB _ k k2 hk15, bS]
      by_cases cL : L1 ≤ rk k
      · rw [if_neg (show ¬ nI (rk k) < nI L from fun z => absurd ((ltN (by omega) (by omega)).mp z) (by have := hg.mpr cL; omega)), if_neg (show ¬ nI (rk k) < nI L1 from fun z => absurd ((ltN (by omega) (by omega)).mp z) (by omega))]
        have hkn64 : kn' < 64 := by
          have : nsig (k :: r) = 1 + nsig r := by
            show (if 2 ≤ k then 1 else 0) + nsig r = _
            rw [if_pos k2]
          omega
        have hl96 : hl'.length < 96 := by
          have := f20.2.2.1
          omega
        have hrl : rel L1 (k :: r) = rel L1 r := by
          show (if L1 ≤ rk k then rel L1 r else k :: r) = _
          rw [if_pos cL]
        have hgr : ∀ k ∈ grp r, L ≤ rk k ↔ L1 ≤ rk k := fun q hq => he' q (by show q ∈ (if k = 0 then [] else k :: grp r); rw [if_neg k0]; exact List.mem_cons_of_mem _ hq)
        rw [gIe, gdN hle (by omega), clN (show r.length < 1000000 by omega), gAI, w1, show gR (sI x 11 3 (nI r.length)) 4 = u from f3, addK_eq _ u kn' hkn64 (by rw [gIo (by omega)]; exact f5), bVs, gIe, gdN (show r.length < 96 by omega) (by omega), clN (show r.length < 1000000 by omega), gAI, w2]
        by_cases kk2 : k = 2
        · have hb1 : nbin (k :: r) = nbin r := by
            show (if 3 ≤ k then 1 else 0) + nbin r = _
            rw [if_neg (by omega)]; omega
          obtain ⟨xh, hr, ehl⟩ : ∃ xh hr, hl' = xh :: hr := by
            cases hl' with
            | nil => simp at f25
            | cons q hr => exact ⟨q, hr, rfl⟩
          have eh : hl'.length = hr.length + 1 := by rw [ehl]; rfl
          have f19' := f19
          rw [ehl] at f19'
          rw [if_pos (show nI k = (2 : Int32) by rw [kk2]; rfl), drop_eq (sI y 0 37 (nI r.length)) hr.length (by omega) (by rw [gIn (by omega), f18, eh]), bIs, grown_eq _ kn' hr.length hkn64 (by omega) (by rw [gIn (by omega), gIn (by omega)]; exact f6) (by rw [gIe]), bVs, gAI, f19'.1]
          refine self r.length _ _ (by omega) ⟨kn' + 1, r, kn' :: hr, rfl, by omega, F'.knot k2 ((FM.wI f y (k := 37) _ (by omega)).tr (FM.wI f _ (k := 38) _ (by omega))) (fun j j1 j2 => by rw [gIn j2, gIn j1]) (by rw [gIn (by omega), gIe]) rfl (Or.inl ⟨kk2, xh, ehl, rfl⟩), by rw [← hrl]; exact hrel, hgr, ?_, ?_⟩
          · intro j hj
            rw [gIo (by omega)]
            show gI (sI x 11 3 (nI r.length)) 11 j = _
            rw [gIn (by omega)]
            exact hbk.1 j hj
          · intro j hj
            rw [gIn (by omega), gIn (by omega)]
            show gI (sI (sI y 0 37 (nI r.length)) 0 38 (nI hr.length)) 0 j = _
            rw [gIn (by omega), gIn (by omega)]
            exact hbk.2 j hj
        · have hb1 : nbin (k :: r) = 1 + nbin r := by
            show (if 3 ≤ k then 1 else 0) + nbin r = _
            rw [if_pos (by omega)]
          obtain ⟨yh, xh, hr, ehl⟩ : ∃ yh xh hr, hl' = yh :: xh :: hr := by
            cases hl' with
            | nil => simp at f25
            | cons q hr =>
              cases hr with
              | nil => simp at f25; omega
              | cons q2 hr => exact ⟨q, q2, hr, rfl⟩
          have eh : hl'.length = hr.length + 1 + 1 := by rw [ehl]; rfl
          have f19' := f19
          rw [ehl] at f19'
          obtain ⟨g1, g2, g3⟩ := f19'
          have hl2 : (xh :: hr).length = hr.length + 1 := rfl
          rw [hl2] at g1
          rw [if_neg (show ¬ nI k = (2 : Int32) from fun z => kk2 ((eqN (a := k) (b := 2) (by omega) (by omega)).mp z)), drop_eq (sI y 0 37 (nI r.length)) (hr.length + 1) (by omega) (by rw [gIn (by omega), f18, eh]), bIs, drop_eq _ hr.length (by omega) (by rw [gIe]), bIs, grown_eq _ kn' hr.length hkn64 (by omega) (by rw [gIn (by omega), gIn (by omega), gIn (by omega)]; exact f6) (by rw [gIe]), bVs, gAI, gAI, g1, g2]
          refine self r.length _ _ (by omega) ⟨kn' + 1, r, kn' :: hr, rfl, by omega, F'.knot k2 ((FM.wI f y (k := 37) _ (by omega)).tr ((FM.wI f _ (k := 38) _ (by omega)).tr (FM.wI f _ (k := 38) _ (by omega)))) (fun j j1 j2 => by rw [gIn j2, gIn j2, gIn j1]) (by rw [gIn (by omega), gIn (by omega), gIe]) rfl (Or.inr ⟨by omega, xh, yh, ehl, rfl, rfl⟩), by rw [← hrl]; exact hrel, hgr, ?_, ?_⟩
          · intro j hj
            rw [gIo (by omega)]
            show gI (sI x 11 3 (nI r.length)) 11 j = _
            rw [gIn (by omega)]
            exact hbk.1 j hj
          · intro j hj
            rw [gIn (by omega), gIn (by omega)]
            show gI (sI (sI (sI y 0 37 (nI r.length)) 0 38 (nI (hr.length + 1))) 0 38 (nI hr.length)) 0 j = _
            rw [gIn (by omega), gIn (by omega), gIn (by omega)]
            exact hbk.2 j hj
      · rw [if_pos (show nI (rk k) < nI L from (ltN (by omega) (by omega)).mpr (by have := fun q => cL (hg.mp q); omega)), if_pos (show nI (rk k) < nI L1 from (ltN (by omega) (by omega)).mpr (by omega))]
        refine SIM.ret ⟨⟨kn', hl', hkn, ?_⟩, hbk⟩
        rw [← hrel]
        have : rel L1 (k :: r) = k :: r := by
          show (if L1 ≤ rk k then rel L1 r else k :: r) = _
          rw [if_neg cL]
        rw [this]
        exact F'
