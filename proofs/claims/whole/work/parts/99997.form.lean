theorem FX.tok {u : Bool} {S f p p' m op : Nat} {due : Bool} {ws : List Nat} {σB σM a b a' b' : St} (F : FX u S f p due ws m op σB σM a b) (h1 : frT a a') (h2 : frU b b') (K : TKp S p' a' b') : FX u S f p' due ws m op σB σM a' b' := by
  have t2 := lw_le u
  obtain ⟨⟨kn, hl, F⟩, hSW, ⟨cb, hcb, ecb, hCB⟩, hfl, f7, f8, f23, f24⟩ := F
  obtain ⟨f1, f2, f3, f4, f5, f6, f9, f10, f11, f12, f13, f14, f15, f16, f17, f18, f19, f20, f21, f22, f25, f26⟩ := F
  have e11 : gI a' 11 = gI a 11 := h1.1 11 (by omega)
  refine ⟨⟨kn, hl, f1.tr (FB.tok h1), f2.tr (FM.tok h2), by rw [h1.2.2.2]; exact f3, K, by rw [h1.1 _ (by omega)]; exact f5, by rw [h2.1 17 (by omega)]; exact f6, f9, f10, by rw [e11]; exact f11, by rw [h2.1 37 (by omega)]; exact f12, by rw [h1.2.2.1, h2.2.1]; exact f13, by rw [e11]; exact f14, by rw [h2.1 39 (by omega)]; exact f15, f16, f17, by rw [h2.1 38 (by omega)]; exact f18, by rw [h2.2.1]; exact f19, f20.cg (fun k i _ _ => by rw [h1.2.2.1]) (fun k i _ _ _ => by rw [h2.2.1]), by rw [e11]; exact f21, by rw [h2.1 41 (by omega)]; exact f22, f25, f26⟩, hSW, ⟨cb, hcb, by rw [e11]; exact ecb, hCB⟩, by rw [e11]; exact hfl, by rw [e11]; exact f7, by rw [h2.1 40 (by omega)]; exact f8, by rw [e11, h2.1 42 (by omega)]; exact f23, by rw [e11]; exact f24⟩
theorem isEnd_eq (x : St) (due : Bool) (op tk : Nat) (e6 : gI x 11 6 = if due then 1 else 0) (e4 : gI x 11 4 = nI op) (hop : op ≤ 8) (e3 : gI x 10 3 = nI tk) (htk : tk < 36) : fX1_isEnd x = some (if due = false ∧ op = 0 ∧ tk = 23 then 1 else 0) := by
  unfold fX1_isEnd
  simp only [jnx1_eq]
  rw [e6, e4, e3]
  cases due with
  | true =>
    rw [if_neg (show ¬ (if true = true then (1 : Int32) else 0) = 0 by decide), if_neg (by rintro ⟨z, -⟩; cases z)]
    exact gd00 _
  | false =>
    rw [if_pos (show (if false = true then (1 : Int32) else 0) = 0 by decide)]
    by_cases c : op = 0
    · rw [if_pos (show nI op = 0 by rw [c]; rfl)]
      by_cases d : tk = 23
      · rw [if_pos (show nI tk = (23 : Int32) by rw [d]; rfl), if_pos ⟨rfl, c, d⟩]
        exact gd11 _
      · rw [if_neg (show ¬ nI tk = (23 : Int32) from fun z => d ((eqN (a := tk) (b := 23) (by omega) (by omega)).mp z)), if_neg (fun z => d z.2.2)]
        exact gd00 _
    · rw [if_neg (show ¬ nI op = 0 from fun z => c ((eqN (a := op) (b := 0) (by omega) (by omega)).mp z)), if_neg (fun z => c z.2.1)]
      exact gd00 _
theorem grp_ok {fB fM : Nat → Int32} : ∀ {ws : List Nat}, WT fB fM ws → ∀ k ∈ grp ws, 1 ≤ rk k
  | [], _, k, hk => absurd (show k ∈ ([] : List Nat) from hk) (by simp)
  | k :: r, h, j, hj => by
    by_cases k0 : k = 0
    · subst k0
      rw [grp0] at hj
      simp at hj
    · rw [grpk r k0] at hj
      rcases List.mem_cons.mp hj with rfl | hj
      · exact rk_pos h.2.2.1 k0
      · exact grp_ok h.2.2.2 j hj
/-- two loops in step, the first of which may need a round more to end -/
theorem simlp3_1x {A0 A1 A2 B0 α β : Type} {F : (A0 → A1 → A2 → Option α) → A0 → A1 → A2 → Option α} {G : (B0 → Option β) → B0 → Option β} (Q : α → β → Prop) (I : Nat → A0 → A1 → A2 → B0 → Prop) (X : A0 → A1 → A2 → Prop) (res : A0 → A1 → A2 → α) (hx : ∀ (sF : A0 → A1 → A2 → Option α) (a0 : A0) (a1 : A1) (a2 : A2), X a0 a1 a2 → F sF a0 a1 a2 = some (res a0 a1 a2)) (h : ∀ (j : Nat) (sF : A0 → A1 → A2 → Option α) (sG : B0 → Option β) (a0 : A0) (a1 : A1) (a2 : A2) (b0 : B0), I j a0 a1 a2 b0 → (∀ (j' : Nat) (a0 : A0) (a1 : A1) (a2 : A2) (b0 : B0), j' < j → I j' a0 a1 a2 b0 → SIM Q (sF a0 a1 a2) (sG b0)) → (∀ (a0 : A0) (a1 : A1) (a2 : A2), X a0 a1 a2 → sF a0 a1 a2 = some (res a0 a1 a2)) → SIM Q (F sF a0 a1 a2) (G sG b0)) : ∀ (f f' j : Nat) (a0 : A0) (a1 : A1) (a2 : A2) (b0 : B0), j + 1 < f → j < f' → I j a0 a1 a2 b0 → SIM Q (lpx3 f F a0 a1 a2) (lpx1 f' G b0)
  | 0, _, _, _, _, _, _, hj, _, _ => absurd hj (Nat.not_lt_zero _)
  | 1, _, _, _, _, _, _, hj, _, _ => absurd hj (by omega)
  | _, 0, _, _, _, _, _, _, hj, _ => absurd hj (Nat.not_lt_zero _)
  | f + 2, f' + 1, j, a0, a1, a2, b0, hj, hj2, hi => h j (lpx3 (f + 1) F) (lpx1 f' G) a0 a1 a2 b0 hi (fun j' a0' a1' a2' b0' hj' hi' => simlp3_1x Q I X res hx h (f + 1) f' j' a0' a1' a2' b0' (by omega) (by omega) hi') (fun x0 x1 x2 hX => hx (lpx3 f F) x0 x1 x2 hX)
/-- the end of a formula, both sides -/
def FO (u : Bool) (S f p w : Nat) (σB σM : St) (q q' : Int32 × St) : Prop :=
  (q.1 = 0 ∧ q'.1 = 1 ∧ ∃ kn m p' a, f < kn ∧ p ≤ p' ∧ q.2 = sA (sA a (lw u) 2 w (nI f)) (lw u) 3 w (nI kn) ∧ FS u S f kn m p' false [] [kn - 1] 0 σB σM a q'.2 ∧ gI a 11 8 = nI m ∧ gI q'.2 0 40 = nI m) ∨
  (q'.1 = 0 ∧ (q.1 = 1 ∨ q.1 = 2) ∧ ∃ b' p', q'.2 = sI (sI b' 0 4 q.1) 0 5 (gI b' 0 10) ∧ FB u f σB q.2 ∧ FM f σM b' ∧ TKp S p' q.2 b')
theorem step_go {c : Nat → Nat} {u : Bool} {S f p p' w cnt : Nat} {σB σM : St} {X Y : Option (Int32 × St)} {sF : Int32 → Int32 → St → Option (Int32 × St)} {sG : St → Option (Int32 × St)} (T : TC c S σB σM) (h : STEP u S f p' σB σM X Y) (hpp : p ≤ p') (hself : ∀ due ws m op x y p'', p' < p'' → FX u S f p'' due ws m op σB σM x y → SIM (FO u S f p w σB σM) (sF 0 (nI (cnt + 1)) x) (sG y)) (hX : ∀ z x9 σ, z ≠ 0 → sF z x9 σ = some (z, σ)) : SIM (FO u S f p w σB σM) (bI X fun r σ => if r = 0 then bV (fX7_advance σ) fun σ36 => sF r (nI cnt + (1 : Int32)) σ36 else sF r (nI cnt + (1 : Int32)) σ) (bI Y fun r σ => if r = 0 then some ((0 : Int32), σ) else sG σ) := by
  rcases h with ⟨z, a', b', rfl, rfl, hz, g1, g2, g3⟩ | ⟨a1, b1, due, ws, m, op, rfl, rfl, ht, F⟩
  · have hz0 : z ≠ 0 := by rcases hz with rfl | rfl <;> decide
    rw [bIs, bIs, if_neg hz0, if_pos (show (0 : Int32) = 0 from rfl), hX z _ _ hz0]
    exact SIM.ret (Or.inr ⟨rfl, hz, b', p', rfl, g1, g2, g3⟩)
  · rw [bIs, if_pos (show (0 : Int32) = 0 from rfl)]
    have F0 := F
    obtain ⟨⟨kn, hl, F1⟩, -⟩ := F0
    have T1 := T.rd F1.1.1 F1.2.1.1
    obtain ⟨a2, b2, eA, eB, h1, h2, p'', q1, q2, K2⟩ := adv2 T1 F1.2.2.2.1
    rw [eA, eB, bVs, bVs, bIs, if_neg (show ¬ (1 : Int32) = 0 by decide), nI_1]
    exact hself due ws m op a2 b2 p'' (q2 ht) (F.tok h1 h2 K2)
theorem FB.sR4 (u : Bool) (f : Nat) (σ : St) (v : Bool) : FB u f σ (sR σ 4 v) := ⟨⟨fun _ _ _ _ _ _ => rfl, fun _ _ _ _ => rfl, fun k hk => by rw [gR_sR, if_neg (by omega)], rfl⟩, rfl, rfl, rfl, fun _ _ _ _ => rfl, fun _ _ => rfl⟩
/-- a formula, both sides -/
theorem form_sim {c : Nat → Nat} {u : Bool} {S f p m w : Nat} {σB σM : St} (T : TC c S σB σM) (K : TKp S p σB σM) (hw : w < 3) (e4 : gI σB (lw u) 4 = nI f) (e17 : gI σM 0 17 = nI f) (e8 : gI σB 11 8 = nI m) (e40 : gI σM 0 40 = nI m) (hfm : f ≤ m) (hm : m ≤ 64) : SIM (FO u S f p w σB σM) (fX1_readFormula σB u (nI w)) (fX10_sumRead σM) := by
  have t2 := lw_le u
  have hS : S ≤ 700 := T.1
  have F0 : FX u S f p true [] m 0 σB σM (sI (sI (sI (sI (sI (sR σB 4 u) 11 3 0) 11 4 0) 11 5 0) 11 6 1) 11 7 1) (sI (sI (sI (sI (sI σM 0 37 0) 0 38 0) 0 39 0) 0 41 1) 0 42 1) := by
    refine ⟨⟨f, [], ?_, ?_, ?_, ?_, ?_, ?_, hfm, hm, ?_, ?_, trivial, ?_, ?_, rfl, by omega, ?_, trivial, KN.zero u f _ _, ?_, ?_, rfl, fun z => by cases z⟩, trivial, ⟨0, by omega, ?_, rfl, trivial⟩, fun _ _ j hj => absurd (show j ∈ ([] : List Nat) from hj) (by simp), ?_, ?_, ?_, ?_⟩
    · exact (FB.sR4 u f σB u).tr ((FB.w11 u f _ 3 _).tr ((FB.w11 u f _ 4 _).tr ((FB.w11 u f _ 5 _).tr ((FB.w11 u f _ 6 _).tr (FB.w11 u f _ 7 _)))))
    · exact (FM.wI f σM (k := 37) _ (by omega)).tr ((FM.wI f _ (k := 38) _ (by omega)).tr ((FM.wI f _ (k := 39) _ (by omega)).tr ((FM.wI f _ (k := 41) _ (by omega)).tr (FM.wI f _ (k := 42) _ (by omega)))))
    · show gR (sR σB 4 u) 4 = u
      rw [gR_sR, if_pos rfl]
    · refine K.cg (fun k k1 k2 => ?_) (fun k k1 k2 => ?_)
      · rw [gIo (by omega), gIo (by omega), gIo (by omega), gIo (by omega), gIo (by omega)]
        rfl
      · rw [gIn (by omega), gIn (by omega), gIn (by omega), gIn (by omega), gIn (by omega)]
    · rw [gIo (by omega), gIo (by omega), gIo (by omega), gIo (by omega), gIo (by omega)]
      exact e4
    · rw [gIn (by omega), gIn (by omega), gIn (by omega), gIn (by omega), gIn (by omega)]
      exact e17
    · rw [gIn (by omega), gIn (by omega), gIn (by omega), gIn (by omega), gIe]
      rfl
    · rw [gIn (by omega), gIn (by omega), gIn (by omega), gIn (by omega), gIe]
      rfl
    · rw [gIn (by omega), gIn (by omega), gIn (by omega), gIe]
      rfl
    · rw [gIn (by omega), gIn (by omega), gIe]
      rfl
    · rw [gIn (by omega), gIn (by omega), gIn (by omega), gIe]
      rfl
    · rw [gIn (by omega), gIe]
      rfl
    · rw [gIn (by omega), gIe]
      rfl
    · rw [gIn (by omega), gIn (by omega), gIe]
      rfl
    · rw [gIn (by omega), gIn (by omega), gIn (by omega), gIn (by omega), gIn (by omega)]
      exact e8
    · rw [gIn (by omega), gIn (by omega), gIn (by omega), gIn (by omega), gIn (by omega)]
      exact e40
    · rw [gIe, gIe]
    · rw [gIe]
      exact Or.inr rfl
  have eA4 : gI (sI (sI (sI (sI (sI (sR σB 4 u) 11 3 0) 11 4 0) 11 5 0) 11 6 1) 11 7 1) (lw (gR (sI (sI (sI (sI (sI (sR σB 4 u) 11 3 0) 11 4 0) 11 5 0) 11 6 1) 11 7 1) 4)) 4 = nI f := by
    have g : gR (sI (sI (sI (sI (sI (sR σB 4 u) 11 3 0) 11 4 0) 11 5 0) 11 6 1) 11 7 1) 4 = u := by
      show gR (sR σB 4 u) 4 = u
      rw [gR_sR, if_pos rfl]
    rw [g, gIo (by omega), gIo (by omega), gIo (by omega), gIo (by omega), gIo (by omega)]
    exact e4
  unfold fX1_readFormula fX10_sumRead
  simp only [lt_eq, jnx1_eq, jnx2_eq]
  generalize sI (sI (sI (sI (sI (sR σB 4 u) 11 3 0) 11 4 0) 11 5 0) 11 6 1) 11 7 1 = A0 at F0 eA4 ⊢
  generalize sI (sI (sI (sI (sI σM 0 37 0) 0 38 0) 0 39 0) 0 41 1) 0 42 1 = B0 at F0 ⊢
  rw [eA4]
  have pS : ∀ p' (x y : St), TKp S p' x y → p' ≤ 700 := fun p' x y h => by
    obtain ⟨i', h1, h2, -⟩ := h
    omega
  generalize hFU : FU = Z
  refine simlp3_1x _ (fun j x8 x9 x y => ∃ cnt p' due ws m' op, j = 701 - p' ∧ p' ≤ 700 ∧ cnt ≤ p' ∧ p ≤ p' ∧ x8 = 0 ∧ x9 = nI cnt ∧ FX u S f p' due ws m' op σB σM x y) (fun x8 _ _ => x8 ≠ 0) (fun x8 _ σ => (x8, σ)) ?_ ?_ Z Z (701 - p) 0 0 A0 B0 (by rw [← hFU]; exact FU_gt (by omega)) (by rw [← hFU]; exact FU_gt (by omega)) ⟨0, p, true, [], m, 0, rfl, pS p _ _ K, by omega, by omega, rfl, rfl, F0⟩
  · intro sF x8 x9 σ hx
    by_cases d : (700 : Int32) < x9
    · rw [if_pos d, if_neg hx]
    · rw [if_neg d, if_neg hx, if_neg hx]
  · rintro j sF sG x8 x9 x y ⟨cnt, p', due, ws, m', op, rfl, hp, hc, hpp, rfl, rfl, F⟩ self hX
    have F1 := F
    obtain ⟨⟨kn, hl, F2⟩, hSW, -, hfl, f7, f8, f23, f24⟩ := F1
    have F3 := F2
    obtain ⟨f1, f2, f3, f4, f5, f6, f9, f10, f11, f12, f13, f14, f15, f16, f17, f18, f19, f20, f21, f22, f25, f26⟩ := F3
    obtain ⟨tk, ha, e1, c1, -⟩ := f4.cls
    have s59 : fX10_isSign y (59 : Int32) = some (if tk = 23 then 1 else 0) := c1 59 23 (by unfold sgs; omega)
    have z0 : (0 : Int32) = 0 := rfl
    have hself : ∀ due ws m op x y p'', p' < p'' → FX u S f p'' due ws m op σB σM x y → SIM (FO u S f p w σB σM) (sF 0 (nI (cnt + 1)) x) (sG y) := by
      intro due2 ws2 m2 op2 x2 y2 p'' hlt G
      have hp2 : p'' ≤ 700 := by
        obtain ⟨⟨kn2, hl2, G2⟩, -⟩ := G
        exact pS p'' _ _ G2.2.2.2.1
      exact self (701 - p'') 0 (nI (cnt + 1)) x2 y2 (by omega) ⟨cnt + 1, p'', due2, ws2, m2, op2, rfl, hp2, by omega, by omega, rfl, rfl, G⟩
    rw [if_neg (show ¬ (700 : Int32) < nI cnt from fun z => absurd ((ltN (a := 700) (b := cnt) (by omega) (by omega)).mp z) (by omega)), if_pos z0, isEnd_eq x due op tk f21 f14 f17 e1 ha, bS, s59, bS]
    by_cases E : due = false ∧ op = 0 ∧ tk = 23
    · obtain ⟨rfl, rfl, rfl⟩ := E
      rw [if_pos (show (false = false ∧ (0 : Nat) = 0 ∧ (23 : Nat) = 23) from ⟨rfl, rfl, rfl⟩), if_neg (show ¬ (1 : Int32) = 0 by decide), if_pos z0, if_pos (show (23 : Nat) = 23 from rfl), if_neg (show ¬ (1 : Int32) = 0 by decide), if_pos (show gI y 0 41 = 0 from f22), if_pos (show gI y 0 39 ≤ 0 by rw [f15]; decide)]
      obtain ⟨a', b', eA, eB, ⟨kn', hl', hkn, F'⟩, bk⟩ := bind_sim F2 0 1 (by omega) (by omega) (by omega) (fun k hk => ⟨fun _ => grp_ok f13 k hk, fun _ => by omega⟩)
      rw [show fX1_releaseDownTo x (0 : Int32) = some a' from eA, show fX10_bind y (1 : Int32) = some b' from eB, bVs, bVs]
      rw [(rel1 f13).2 f16.symm] at F'
      have G := F'
      obtain ⟨g1, g2, g3, g4, g5, g6, g9, g10, g11, g12, g13, g14, g15, g16, g17, g18, g19, g20, g21, g22, g25, g26⟩ := F'
      obtain ⟨r, hk0, hr⟩ := g26 rfl
      have hr0 : r = [] := by
        rw [hr] at g25
        cases r with
        | nil => rfl
        | cons q r => simp [nbin] at g25
      subst hr0
      subst hr
      have hfk : f < kn' := by
        have := g20.2.1 (kn' - 1) (by simp)
        omega
      have g3' : gR (sA a' (lw u) 2 w (nI f)) 4 = u := g3
      have g5' : gI (sA a' (lw u) 2 w (nI f)) (lw u) 4 = nI kn' := g5
      rw [gdN hw (by omega), clN (show w < 1000000 by omega), g3, g3', gdN hw (by omega), g5']
      exact SIM.ret (Or.inl ⟨rfl, rfl, kn', m', p', a', hfk, hpp, rfl, G, (bk.1 8 (by omega)).trans f7, (bk.2 40 (by omega)).trans f8⟩)
    · have key : ∀ (E' J : Option (Int32 × St)), (if (if tk = 23 then (1 : Int32) else 0) = 0 then J else if gI y 0 41 = 0 then (if gI y 0 39 ≤ 0 then E' else J) else J) = J := by
        intro E' J
        by_cases d : tk = 23
        · rw [if_pos d, if_neg (show ¬ (1 : Int32) = 0 by decide)]
          by_cases d2 : gI y 0 41 = 0
          · rw [if_pos d2, if_neg]
            intro z
            rw [f15] at z
            have z2 := (leN (a := op) (b := 0) (by omega) (by omega)).mp z
            refine E ⟨?_, by omega, d⟩
            rw [f22] at d2
            cases due with
            | true => exact absurd d2 (by decide)
            | false => rfl
          · rw [if_neg d2]
        · rw [if_neg d, if_pos z0]
      rw [if_neg E, if_pos z0, key]
      cases due with
      | true =>
        rw [if_neg (show ¬ gI x 11 6 = 0 by rw [f21]; decide), if_neg (show ¬ gI y 0 41 = 0 by rw [f22]; decide)]
        exact step_go T (leaf_sim F) hpp hself (fun z x9 σ hz => hX z x9 σ hz)
      | false =>
        rw [if_pos (show gI x 11 6 = 0 from f21), if_pos (show gI y 0 41 = 0 from f22)]
        obtain ⟨o1, o2⟩ := oper_sim F
        by_cases d : gI x 10 3 = 25
        · rw [if_pos d]
          exact step_go T (o1 d) hpp hself (fun z x9 σ hz => hX z x9 σ hz)
        · rw [if_neg d]
          exact step_go T (o2 d) hpp hself (fun z x9 σ hz => hX z x9 σ hz)
