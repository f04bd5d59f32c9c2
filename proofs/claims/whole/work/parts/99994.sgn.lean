/-! SIGNS: the reference's function, cut up -/
def sgC (x6 : Int32) (σ14 : St) : Option (Int32 × St) :=
  Option.bind (fX10_rank σ14 x6) fun r16 => jnx1 (fun (u9 : Unit) => bI (fX10_isCounted σ14) fun r19 σ20 => if r19 = 0 then (some ((0 : Int32), σ20)) else (bV (fX10_waitsFor σ20 x6) fun σ23 => lt (sI σ23 0 41 (1 : Int32)) fun σ24 => Option.bind (fX10_rank σ24 x6) fun r26 => jnx1 (fun (x27 : Int32) => gd (x27 = 0 ∨ x27 = 1) (lt (sI σ24 0 42 x27) fun σ30 => bV (fX10_token σ30) fun σ32 => some ((1 : Int32), σ32))) fun J28 => if (3 : Int32) ≤ r26 then (J28 (0 : Int32)) else (J28 (1 : Int32)))) fun J17 => if r16 = (4 : Int32) then (if (gI σ14 0 37) ≤ 0 then (J17 ()) else (gd (ixI ((gI σ14 0 37) - (1 : Int32)) 96) (Option.bind (fX10_rank σ14 (gA σ14 0 35 (Int32.toNatClampNeg ((gI σ14 0 37) - (1 : Int32))))) fun r38 => if r38 = (4 : Int32) then (bI (fX10_wrong σ14 (1 : Int32)) fun r41 σ42 => gd (r41 = 0 ∨ r41 = 1) (some (r41, σ42))) else (J17 ())))) else (J17 ())
def sgB (σ : St) (x6 : Int32) : Option (Int32 × St) :=
  if x6 = 0 then (bI (fX10_wrong σ (1 : Int32)) fun r48 σ49 => gd (r48 = 0 ∨ r48 = 1) (some (r48, σ49))) else (Option.bind (fX10_rank σ x6) fun r10 => jnx1 (fun (x11 : Int32) => bV (fX10_bind σ x11) fun σ14 => sgC x6 σ14) fun J12 => if r10 = (4 : Int32) then (J12 (5 : Int32)) else (Option.bind (fX10_rank σ x6) fun r46 => J12 r46))
def sgJ (σ : St) : Option (Int32 × St) :=
  Option.bind (fX10_isKey σ (9 : Int32)) fun r5 => if r5 = 0 then (Option.bind (fX10_isKey σ (10 : Int32)) fun r53 => if r53 = 0 then (if (gI σ 0 8) = (5 : Int32) then (sgB σ ((5 : Int32) + (gI σ 0 9))) else (Option.bind (fX10_isSign σ (43 : Int32)) fun r57 => if r57 = 0 then (Option.bind (fX10_isSign σ (45 : Int32)) fun r60 => if r60 = 0 then (Option.bind (fX10_isSign σ (42 : Int32)) fun r63 => if r63 = 0 then (Option.bind (fX10_isSign σ (47 : Int32)) fun r66 => if r66 = 0 then (sgB σ (0 : Int32)) else (sgB σ (14 : Int32))) else (sgB σ (13 : Int32))) else (sgB σ (12 : Int32))) else (sgB σ (11 : Int32)))) else (sgB σ (4 : Int32))) else (sgB σ (3 : Int32))
def sgCl (σ : St) : Option (Int32 × St) :=
  bV (fX10_bind σ (1 : Int32)) fun σ71 => lt (sI σ71 0 37 ((gI σ71 0 37) - (1 : Int32))) fun σ72 => lt (sI σ72 0 39 ((gI σ72 0 39) - (1 : Int32))) fun σ73 => bV (fX10_token σ73) fun σ75 => some ((1 : Int32), σ75)
theorem signs_eq (σ : St) : fX10_signs σ = Option.bind (fX10_isSign σ (41 : Int32)) fun r2 => if r2 = 0 then sgJ σ else (if (gI σ 0 39) ≤ 0 then sgJ σ else sgCl σ) := rfl
def sk (tk : Nat) : Nat := if tk = 10 then 3 else if tk = 9 then 4 else if 26 ≤ tk ∧ tk ≤ 31 then tk - 21 else if tk = 32 then 11 else if tk = 33 then 12 else if tk = 34 then 13 else if tk = 35 then 14 else 0
theorem sk_cw : ∀ tk, tk < 36 → sk tk = 0 ∨ (3 ≤ sk tk ∧ sk tk ≤ 14 ∧ cw (sk tk) = tk) := by decide +kernel
theorem sgJ_eq {σ : St} {tk : Nat} (c1 : ∀ s sa, sgs s sa → fX10_isSign σ (nI s) = some (if tk = sa then 1 else 0)) (c2 : ∀ j, j < 19 → fX10_isKey σ (nI (swp j)) = some (if tk = j then 1 else 0)) (c3 : gI σ 0 8 = 5 ↔ 26 ≤ tk ∧ tk ≤ 31) (c4 : 26 ≤ tk → tk ≤ 31 → gI σ 0 9 = nI (tk - 26)) : sgJ σ = sgB σ (nI (sk tk)) := by
  have k9 : fX10_isKey σ (9 : Int32) = some (if tk = 10 then 1 else 0) := c2 10 (by omega)
  have k10 : fX10_isKey σ (10 : Int32) = some (if tk = 9 then 1 else 0) := c2 9 (by omega)
  have s43 : fX10_isSign σ (43 : Int32) = some (if tk = 32 then 1 else 0) := c1 43 32 (by unfold sgs; omega)
  have s45 : fX10_isSign σ (45 : Int32) = some (if tk = 33 then 1 else 0) := c1 45 33 (by unfold sgs; omega)
  have s42 : fX10_isSign σ (42 : Int32) = some (if tk = 34 then 1 else 0) := c1 42 34 (by unfold sgs; omega)
  have s47 : fX10_isSign σ (47 : Int32) = some (if tk = 35 then 1 else 0) := c1 47 35 (by unfold sgs; omega)
  have z1 : ¬ (1 : Int32) = 0 := by decide
  have z0 : (0 : Int32) = 0 := rfl
  unfold sgJ sk
  rw [k9, bS]
  by_cases d10 : tk = 10
  · rw [if_pos d10, if_neg z1, if_pos d10]; rfl
  · rw [if_neg d10, if_pos z0, if_neg d10, k10, bS]
    by_cases d9 : tk = 9
    · rw [if_pos d9, if_neg z1, if_pos d9]; rfl
    · rw [if_neg d9, if_pos z0, if_neg d9]
      by_cases d26 : 26 ≤ tk ∧ tk ≤ 31
      · rw [if_pos (c3.mpr d26), if_pos d26, c4 d26.1 d26.2, show (5 : Int32) + nI (tk - 26) = nI (5 + (tk - 26)) from nI_add 5 (tk - 26), show 5 + (tk - 26) = tk - 21 by omega]
      · rw [if_neg (fun z => d26 (c3.mp z)), if_neg d26, s43, bS]
        by_cases d32 : tk = 32
        · rw [if_pos d32, if_neg z1, if_pos d32]; rfl
        · rw [if_neg d32, if_pos z0, if_neg d32, s45, bS]
          by_cases d33 : tk = 33
          · rw [if_pos d33, if_neg z1, if_pos d33]; rfl
          · rw [if_neg d33, if_pos z0, if_neg d33, s42, bS]
            by_cases d34 : tk = 34
            · rw [if_pos d34, if_neg z1, if_pos d34]; rfl
            · rw [if_neg d34, if_pos z0, if_neg d34, s47, bS]
              by_cases d35 : tk = 35
              · rw [if_pos d35, if_neg z1, if_pos d35]; rfl
              · rw [if_neg d35, if_pos z0, if_neg d35]; rfl
/-! and the class's -/
def tsM (σ20 : St) (x1 : Int32) : Option (Int32 × St) :=
  Option.bind (fX1_rankOf σ20 x1) fun r23 => bV (fX1_releaseDownTo σ20 r23) fun σ25 => bV (fX1_putOff σ25 x1) fun σ27 => lt (sI σ27 11 6 (1 : Int32)) fun σ28 => some ((0 : Int32), σ28)
def tsL (σ14 : St) (x1 r3 x16 : Int32) : Option (Int32 × St) :=
  gd (x16 = 0 ∨ x16 = 1) (lt (sI σ14 11 7 x16) fun σ19 => if (gI σ19 11 7) = 0 then (if r3 = 0 then (tsM σ19 x1) else (lt (sI σ19 11 5 ((gI σ19 11 5) ||| ((1 : Int32) <<< ((gI σ19 11 4) &&& 31)))) fun σ31 => tsM σ31 x1)) else (lt (sI σ19 11 5 ((gI σ19 11 5) &&& (((1 : Int32) <<< ((gI σ19 11 4) &&& 31)) ^^^ (-1 : Int32)))) fun σ32 => tsM σ32 x1))
def tsK (σ : St) (x1 r3 x4 : Int32) : Option (Int32 × St) :=
  Option.bind (fX1_rankOf σ x1) fun r7 => if r7 = 0 then (some ((1 : Int32), σ)) else (if x1 = (11 : Int32) then (some ((1 : Int32), σ)) else (if x4 = 0 then (bI (fX1_meetKnot σ) fun r13 σ14 => if r13 = 0 then (some ((2 : Int32), σ14)) else (if x1 = (10 : Int32) then (tsL σ14 x1 r3 1) else (if x1 = (9 : Int32) then (tsL σ14 x1 r3 1) else (tsL σ14 x1 r3 0)))) else (some ((1 : Int32), σ))))
theorem takeS_eq (σ : St) : fX1_takeSign σ = Option.bind (fX9_isWithin σ (gI σ 10 3) (26 : Int32) (31 : Int32)) fun r3 => if r3 = 0 then tsK σ (gI σ 10 3) r3 0 else (if (((gI σ 11 5) >>> ((gI σ 11 4) &&& 31)) &&& (1 : Int32)) = (1 : Int32) then tsK σ (gI σ 10 3) r3 1 else tsK σ (gI σ 10 3) r3 0) := rfl
def rB (tk : Nat) : Nat := if sk tk = 0 then (if tk = 11 then 3 else 0) else rk (sk tk)
theorem rB_eq (σ : St) : ∀ tk, tk < 36 → fX1_rankOf σ (nI tk) = some (nI (rB tk))
  | 0, _ => rfl
  | 1, _ => rfl
  | 2, _ => rfl
  | 3, _ => rfl
  | 4, _ => rfl
  | 5, _ => rfl
  | 6, _ => rfl
  | 7, _ => rfl
  | 8, _ => rfl
  | 9, _ => rfl
  | 10, _ => rfl
  | 11, _ => rfl
  | 12, _ => rfl
  | 13, _ => rfl
  | 14, _ => rfl
  | 15, _ => rfl
  | 16, _ => rfl
  | 17, _ => rfl
  | 18, _ => rfl
  | 19, _ => rfl
  | 20, _ => rfl
  | 21, _ => rfl
  | 22, _ => rfl
  | 23, _ => rfl
  | 24, _ => rfl
  | 25, _ => rfl
  | 26, _ => rfl
  | 27, _ => rfl
  | 28, _ => rfl
  | 29, _ => rfl
  | 30, _ => rfl
  | 31, _ => rfl
  | 32, _ => rfl
  | 33, _ => rfl
  | 34, _ => rfl
  | 35, _ => rfl
  | (n + 36), h => absurd h (by omega)
theorem cw_26a : ∀ k, k < 15 → 3 ≤ k → ((26 ≤ cw k ∧ cw k ≤ 31) ↔ rk k = 4) ∧ (cw k = 10 ↔ k = 3) ∧ (cw k = 9 ↔ k = 4) ∧ cw k ≠ 11 := by decide +kernel
theorem cw_26b : ∀ k, k < 15 → 3 ≤ k → cw k ≠ 21 ∧ cw k ≠ 25 ∧ 1 ≤ rk k ∧ (rk k < 3 ↔ k ≤ 4) ∧ rk k ≠ 3 := by decide +kernel
theorem cw_26 (k : Nat) (h : k < 15) (h3 : 3 ≤ k) : ((26 ≤ cw k ∧ cw k ≤ 31) ↔ rk k = 4) ∧ (cw k = 10 ↔ k = 3) ∧ (cw k = 9 ↔ k = 4) ∧ cw k ≠ 11 ∧ cw k ≠ 21 ∧ cw k ≠ 25 ∧ 1 ≤ rk k ∧ (rk k < 3 ↔ k ≤ 4) ∧ rk k ≠ 3 := ⟨(cw_26a k h h3).1, (cw_26a k h h3).2.1, (cw_26a k h h3).2.2.1, (cw_26a k h h3).2.2.2, cw_26b k h h3⟩
theorem FS.c11 {u : Bool} {S f kn m p op : Nat} {due : Bool} {ws hl : List Nat} {σB σM a b : St} (F : FS u S f kn m p due ws hl op σB σM a b) (k : Nat) (hk : k = 5 ∨ k = 7 ∨ k = 8) (x : Int32) : FS u S f kn m p due ws hl op σB σM (sI a 11 k x) b := by
  have F0 := F
  obtain ⟨f1, f2, f3, f4, f5, f6, f9, f10, f11, f12, f13, f14, f15, f16, f17, f18, f19, f20, f21, f22, f25, f26⟩ := F0
  exact F.wait (FB.w11 u f a k x) (FM.rf f b) (fun o ho => funext fun k' => gIo ho) (fun _ _ => rfl) rfl (fun _ _ => rfl) (fun _ _ => rfl) f9 f10 (by rw [gIn (by omega)]; exact f11) f12 f13 (by rw [gIn (by omega)]; exact f14) f15 f16 f17 (by rw [gIn (by omega)]; exact f21) f22 f25 (fun z => z)
theorem sgC_pass {k : Nat} (b : St) (hk : k < 15) (h : rk k = 4 → gI b 0 37 = 0 ∨ ∃ n k', n < 96 ∧ gI b 0 37 = nI (n + 1) ∧ gA b 0 35 n = nI k' ∧ k' < 15 ∧ rk k' ≠ 4) : sgC (nI k) b = bI (fX10_isCounted b) fun r19 σ20 => if r19 = 0 then (some ((0 : Int32), σ20)) else (bV (fX10_waitsFor σ20 (nI k)) fun σ23 => bV (fX10_token (sI (sI σ23 0 41 (1 : Int32)) 0 42 (if 3 ≤ rk k then 0 else 1))) fun σ32 => some ((1 : Int32), σ32)) := by
  have hr := rk_le6 k
  have tl : ∀ σ24 : St, (Option.bind (fX10_rank σ24 (nI k)) fun r26 => if (3 : Int32) ≤ r26 then (gd ((0 : Int32) = 0 ∨ (0 : Int32) = 1) (bV (fX10_token (sI σ24 0 42 (0 : Int32))) fun σ32 => some ((1 : Int32), σ32))) else (gd ((1 : Int32) = 0 ∨ (1 : Int32) = 1) (bV (fX10_token (sI σ24 0 42 (1 : Int32))) fun σ32 => some ((1 : Int32), σ32)))) = (bV (fX10_token (sI σ24 0 42 (if 3 ≤ rk k then 0 else 1))) fun σ32 => some ((1 : Int32), σ32)) := by
    intro σ24
    rw [rkM σ24 k hk, bS, gd00, gd11]
    by_cases c : 3 ≤ rk k
    · rw [if_pos (show (3 : Int32) ≤ nI (rk k) from (leN (a := 3) (b := rk k) (by omega) (by omega)).mpr c), if_pos c]
    · rw [if_neg (show ¬ (3 : Int32) ≤ nI (rk k) from fun z => c ((leN (a := 3) (b := rk k) (by omega) (by omega)).mp z)), if_neg c]
  have body : (bI (fX10_isCounted b) fun r19 σ20 => if r19 = 0 then (some ((0 : Int32), σ20)) else (bV (fX10_waitsFor σ20 (nI k)) fun σ23 => Option.bind (fX10_rank (sI σ23 0 41 (1 : Int32)) (nI k)) fun r26 => if (3 : Int32) ≤ r26 then (gd ((0 : Int32) = 0 ∨ (0 : Int32) = 1) (bV (fX10_token (sI (sI σ23 0 41 (1 : Int32)) 0 42 (0 : Int32))) fun σ32 => some ((1 : Int32), σ32))) else (gd ((1 : Int32) = 0 ∨ (1 : Int32) = 1) (bV (fX10_token (sI (sI σ23 0 41 (1 : Int32)) 0 42 (1 : Int32))) fun σ32 => some ((1 : Int32), σ32))))) = bI (fX10_isCounted b) fun r19 σ20 => if r19 = 0 then (some ((0 : Int32), σ20)) else (bV (fX10_waitsFor σ20 (nI k)) fun σ23 => bV (fX10_token (sI (sI σ23 0 41 (1 : Int32)) 0 42 (if 3 ≤ rk k then 0 else 1))) fun σ32 => some ((1 : Int32), σ32)) := by
    congr 1
    funext r19 σ20
    by_cases z : r19 = 0
    · rw [if_pos z, if_pos z]
    · rw [if_neg z, if_neg z]
      congr 1
      funext σ23
      exact tl _
  refine Eq.trans ?_ body
  show (Option.bind (fX10_rank b (nI k)) fun r16 => if r16 = (4 : Int32) then (if (gI b 0 37) ≤ 0 then _ else (gd (ixI ((gI b 0 37) - (1 : Int32)) 96) (Option.bind (fX10_rank b (gA b 0 35 (Int32.toNatClampNeg ((gI b 0 37) - (1 : Int32))))) fun r38 => if r38 = (4 : Int32) then (bI (fX10_wrong b (1 : Int32)) fun r41 σ42 => gd (r41 = 0 ∨ r41 = 1) (some (r41, σ42))) else _))) else _) = _
  rw [rkM b k hk, bS]
  by_cases c4 : rk k = 4
  · rw [if_pos (show nI (rk k) = (4 : Int32) by rw [c4]; rfl)]
    rcases h c4 with h0 | ⟨n, k', h1, h2, h3, h4, h5⟩
    · rw [if_pos (show gI b 0 37 ≤ 0 by rw [h0]; decide)]
      rfl
    · rw [h2, if_neg (show ¬ nI (n + 1) ≤ (0 : Int32) from fun z => absurd ((leN (a := n + 1) (b := 0) (by omega) (by omega)).mp z) (by omega)), nI_pred, gdN h1 (by omega), clN (show n < 1000000 by omega), h3, rkM b k' h4, bS, if_neg (show ¬ nI (rk k') = (4 : Int32) from fun z => h5 ((eqN (a := rk k') (b := 4) (by have := rk_le6 k'; omega) (by omega)).mp z))]
      rfl
  · rw [if_neg (show ¬ nI (rk k) = (4 : Int32) from fun z => c4 ((eqN (a := rk k) (b := 4) (by omega) (by omega)).mp z))]
    rfl
