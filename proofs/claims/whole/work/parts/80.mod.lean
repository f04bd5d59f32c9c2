def agW (σ σ' : St) : Prop := (∀ k j, k < 5 → j < 6 → gA σ' 5 k j = gA σ 5 k j) ∧ (∀ k, (k = 6 ∨ isS k) → gI σ' 5 k = gI σ 5 k)
theorem agW.rf (σ : St) : agW σ σ := ⟨fun _ _ _ _ => rfl, fun _ _ => rfl⟩
theorem agW.tr {a b c : St} (h : agW a b) (k : agW b c) : agW a c := ⟨fun x j h1 h2 => (k.1 x j h1 h2).trans (h.1 x j h1 h2), fun x h1 => (k.2 x h1).trans (h.2 x h1)⟩
theorem agB.w {σ σ' : St} (h : agB 5 σ σ') : agW σ σ' := ⟨fun k j hk _ => by rw [h.1 k hk], fun k hk => h.2 k (by unfold isS at hk; omega) (by unfold isS at hk; omega)⟩
theorem SR.cw {n BM Y : Nat} {σB σM σB' σM' : St} (h : SR n BM Y σB 5 σM 0) (hn : n ≤ 6) (hB : agW σB σB') (hM : agM n 0 σM σM') : SR n BM Y σB' 5 σM' 0 := h.cp (fun k j hk hj => hB.1 k j hk (by omega)) hB.2 (fun k j k1 k2 hj => hM.1 k j (by omega) (by omega) (by omega) (by omega) hj) (fun k k1 k2 => hM.2 k k1 k2)
theorem tbw_ag {a b : St} {r r' : Nat} (h : agW a b) (hr : ∀ q, q ≤ 8 → gA b 12 0 (9 * r' + q) = gA a 12 0 (9 * r + q)) : agW (tbw a r) (tbw b r') := by
  obtain ⟨h1, h2⟩ := h
  have r0 := hr 0 (by omega)
  rw [Nat.add_zero, Nat.add_zero] at r0
  refine ⟨fun k j hk hj => ?_, fun k hk => ?_⟩
  · rw [tbw_gA, tbw_gA, r0, hr 1 (by omega), hr 2 (by omega), hr 3 (by omega), hr 4 (by omega)]
    have u : ∀ (k : Nat) (x : Int32) (i : Nat), k < 5 → upd (gA b 5 k) i x j = upd (gA a 5 k) i x j := fun k x i hk => by
      rw [upd_at, upd_at, h1 k j hk hj]
    by_cases e0 : k = 0
    · rw [if_pos e0, if_pos e0]; exact u 0 _ _ (by omega)
    · rw [if_neg e0, if_neg e0]
      by_cases e2 : k = 2
      · rw [if_pos e2, if_pos e2]; exact u 2 _ _ (by omega)
      · rw [if_neg e2, if_neg e2]
        by_cases e3 : k = 3
        · rw [if_pos e3, if_pos e3]; exact u 3 _ _ (by omega)
        · rw [if_neg e3, if_neg e3]
          by_cases e4 : k = 4
          · rw [if_pos e4, if_pos e4]; exact u 4 _ _ (by omega)
          · rw [if_neg e4, if_neg e4]; exact h1 k j hk hj
  · rw [tbw_gI, tbw_gI, hr 5 (by omega), hr 6 (by omega), hr 7 (by omega), hr 8 (by omega), h2 k hk]
theorem tbs_rows (σ : St) (s : Nat) : ∀ d, gA (tbs σ s d) 12 = gA σ 12
  | 0 => rfl
  | d + 1 => by rw [tbs, tbw_rows, tbs_rows σ s d]
theorem upd_self (f : Nat → Int32) (k : Nat) : upd f k (f k) = f := by
  funext j
  rw [upd_at]
  split
  · rename_i e
    rw [e]
  · rfl
theorem rowM_at (σ : St) (r k j : Nat) : gA (rowM σ r) 0 k j = if k = 46 then gA σ 0 72 (33 * r + j) else if k = 48 then gA σ 0 72 (33 * r + 6 + j) else if k = 49 then gA σ 0 72 (33 * r + 12 + j) else if k = 50 then gA σ 0 72 (33 * r + 18 + j) else if k = 51 then gA σ 0 72 (33 * r + 24 + j) else if k = 54 then gA σ 0 72 (33 * r + 30) else if k = 55 then gA σ 0 72 (33 * r + 31) else if k = 56 then gA σ 0 72 (33 * r + 32) else gA σ 0 k j := rfl
/-- two rows of the reference alike -/
theorem rowM_ag {n : Nat} {a b : St} {r r' : Nat} (hn : n ≤ 6) (h72 : ∀ x, x < 33 → gA b 0 72 (33 * r' + x) = gA a 0 72 (33 * r + x)) (h : ∀ k, k = 47 → ∀ j, j < n → gA b 0 k j = gA a 0 k j) (h2 : ∀ k, 57 ≤ k → k ≤ 59 → gA b 0 k 0 = gA a 0 k 0) : agM n 0 (rowM a r) (rowM b r') := by
  refine ⟨fun k j k1 k2 k3 k4 hj => ?_, fun k k1 k2 => ?_⟩
  · rw [show 6 * 0 + j = j by omega]
    obtain rfl | rfl | rfl | rfl | rfl | rfl : k = 46 ∨ k = 47 ∨ k = 48 ∨ k = 49 ∨ k = 50 ∨ k = 51 := by omega
    · exact h72 j (by omega)
    · exact h 47 rfl j hj
    · show gA b 0 72 (33 * r' + 6 + j) = gA a 0 72 (33 * r + 6 + j)
      rw [Nat.add_assoc, Nat.add_assoc]
      exact h72 (6 + j) (by omega)
    · show gA b 0 72 (33 * r' + 12 + j) = gA a 0 72 (33 * r + 12 + j)
      rw [Nat.add_assoc, Nat.add_assoc]
      exact h72 (12 + j) (by omega)
    · show gA b 0 72 (33 * r' + 18 + j) = gA a 0 72 (33 * r + 18 + j)
      rw [Nat.add_assoc, Nat.add_assoc]
      exact h72 (18 + j) (by omega)
    · show gA b 0 72 (33 * r' + 24 + j) = gA a 0 72 (33 * r + 24 + j)
      rw [Nat.add_assoc, Nat.add_assoc]
      exact h72 (24 + j) (by omega)
  · obtain rfl | rfl | rfl | rfl | rfl | rfl : k = 54 ∨ k = 55 ∨ k = 56 ∨ k = 57 ∨ k = 58 ∨ k = 59 := by omega
    · exact h72 30 (by omega)
    · exact h72 31 (by omega)
    · exact h72 32 (by omega)
    · exact h2 57 (by omega) (by omega)
    · exact h2 58 (by omega) (by omega)
    · exact h2 59 (by omega) (by omega)
/-- the row that was just put is the slot itself -/
theorem rowM_now {n r : Nat} {a b : St} (hn : n ≤ 6) (hP : rowP a (gA b 0 72) (33 * r)) (hb : ∀ j, j < n → gA a 0 49 j = 0 ∨ gA a 0 49 j = 1) (h : ∀ k, k ≠ 72 → gA b 0 k = gA a 0 k) : agM n 0 a (rowM b r) := by
  obtain ⟨p1, p2, p3, p4⟩ := hP
  refine ⟨fun k j k1 k2 k3 k4 hj => ?_, fun k k1 k2 => ?_⟩
  · obtain ⟨q1, q2, q3, q4, q5⟩ := p1 j (by omega)
    rw [rowM_at, show 6 * 0 + j = j by omega]
    obtain rfl | rfl | rfl | rfl | rfl | rfl : k = 46 ∨ k = 47 ∨ k = 48 ∨ k = 49 ∨ k = 50 ∨ k = 51 := by omega
    · exact q1
    · show gA b 0 47 j = _
      rw [h 47 (by omega)]
    · exact q2
    · refine Eq.trans q3 ?_
      rcases hb j hj with e | e <;> rw [e] <;> rfl
    · exact q4
    · exact q5
  · rw [rowM_at]
    obtain rfl | rfl | rfl | hk : k = 54 ∨ k = 55 ∨ k = 56 ∨ 57 ≤ k := by omega
    · exact p2
    · exact p3
    · exact p4
    · rw [if_neg (by omega), if_neg (by omega), if_neg (by omega), if_neg (by omega), if_neg (by omega), if_neg (by omega), if_neg (by omega), if_neg (by omega), h k (by omega)]
set_option maxHeartbeats 1000000 in
/-- noted on both sides -/
theorem noted_sim {t : Bool} {n np h : Nat} {σB σM : St} (R : REL0 t n np σB σM) (hh : h < n) : ∃ σB1 σM1 S, fX8_note σB 5 (nI h) = some σB1 ∧ fX10_remember σM = some σM1 ∧ REL0 t n np σB1 σM1 ∧ 1 ≤ S ∧ S ≤ 20 ∧ gI σB1 12 1 = nI S ∧ gA σB1 12 0 (9 * (S - 1)) = nI h ∧ (∀ o, o ≠ 12 → gI σB1 o = gI σB o) ∧ (∀ o, o ≠ 12 → gA σB1 o = gA σB o) ∧ gR σB1 = gR σB ∧ (∀ k, k ≠ 71 → gI σM1 0 k = gI σM 0 k) ∧ (∀ k, k ≠ 72 → gA σM1 0 k = gA σM 0 k) ∧ gJ σM1 = gJ σM := by
  have hn6 := R.2.2.1.n6
  obtain ⟨s, u1, u2, u3, u4⟩ := R.2.2.2.2.2.2.2.2.2.1
  obtain ⟨σB1, s', hs', b1, b2, b3, b4, b5, b6, b7⟩ := note_eq σB s h u1 (by omega) u2
  obtain ⟨σM1, s'', hs'', m1, m2, m3, m4, m5, m6, m7⟩ := remember_eq σM s u1 u3
  rw [← hs'] at hs''
  subst hs''
  have hss : s'' ≤ s ∧ s - s'' ≤ 1 ∧ s'' ≤ 19 := by
    rw [hs']
    split <;> omega
  obtain ⟨r0, r1, r2, r3, r4, r5, r6, r7, r8⟩ := b7
  have AB : agB 5 σB σB1 := ⟨fun k _ => by rw [b4 5 (by omega)], fun k _ _ => by rw [b3 5 (by omega)]⟩
  have AM : agM n 0 σM σM1 := ⟨fun k j _ _ k1 k2 _ => by rw [m5 k (by omega)], fun k k1 k2 => by rw [m5 k (by omega)]⟩
  have S1 : SR n 9999 9000 σB1 5 σM1 0 := R.2.2.2.1.cg AB AM
  -- the class, undone once, is as it was
  have W0 : agW σB (tbw σB1 s'') := by
    have c0 : (gA σB1 12 0 (9 * s'')).toNatClampNeg = h := by rw [r0, clN (by omega)]
    refine ⟨fun k j hk hj => ?_, fun k hk => ?_⟩
    · rw [tbw_gA, c0, r1, r2, r3, r4, b4 5 (by omega)]
      obtain rfl | rfl | rfl | rfl | rfl : k = 0 ∨ k = 1 ∨ k = 2 ∨ k = 3 ∨ k = 4 := by omega
      · show upd (gA σB 5 0) h (gA σB 5 0 h) j = _
        rw [upd_self]
      · rfl
      · show upd (gA σB 5 2) h (gA σB 5 2 h) j = _
        rw [upd_self]
      · show upd (gA σB 5 3) h (gA σB 5 3 h) j = _
        rw [upd_self]
      · show upd (gA σB 5 4) h (gA σB 5 4 h) j = _
        rw [upd_self]
    · rw [tbw_gI, r5, r6, r7, r8, b3 5 (by omega)]
      rcases hk with rfl | rfl | rfl | rfl | rfl | rfl | rfl <;> rfl
  have WE : ∀ e, e ≤ s'' → agW (tbs σB s e) (tbs σB1 (s'' + 1) (e + 1)) := by
    intro e
    induction e with
    | zero =>
      intro _
      exact W0
    | succ e ih =>
      intro he
      show agW (tbw (tbs σB s e) (s - (e + 1))) (tbw (tbs σB1 (s'' + 1) (e + 1)) (s'' + 1 - (e + 1 + 1)))
      refine tbw_ag (ih (by omega)) (fun q hq => ?_)
      rw [tbs_rows, tbs_rows, b6 _ (by omega)]
      congr 1
      omega
  have VE : ∀ e, e ≤ s'' → agM n 0 (vuM σM s e) (vuM σM1 (s'' + 1) (e + 1)) := by
    intro e he
    unfold vuM
    rw [if_neg (show ¬ e + 1 = 0 by omega)]
    by_cases e0 : e = 0
    · subst e0
      rw [if_pos rfl, show s'' + 1 - (0 + 1) = s'' by omega]
      exact rowM_now hn6 m7 R.2.2.2.1.bool0 m5
    · rw [if_neg e0]
      refine rowM_ag hn6 (fun x hx => ?_) (fun k hk j hj => by rw [m5 k (by omega)]) (fun k k1 k2 => by rw [m5 k (by omega)])
      rw [m6 _ (by omega)]
      congr 1
      omega
  have U1 : UNR n σB1 σM1 := by
    refine ⟨s'' + 1, by omega, b2, m2, fun d hd => ?_⟩
    cases d with
    | zero => exact ⟨S1, fun z => absurd z (by omega)⟩
    | succ e =>
      have he' : e ≤ s'' := by omega
      have ei0 : s'' + 1 - (0 + 1) = s'' := by omega
      have ei1 : 0 < e → 9 * (s'' + 1 - (e + 1)) < 9 * s'' := by omega
      have ei2 : 9 * (s'' + 1 - (e + 1)) + 9 * (s - s'') = 9 * (s - e) := by omega
      obtain ⟨q1, q2⟩ := u4 e (by omega)
      refine ⟨q1.cw hn6 (WE e he') (VE e he'), fun _ => ?_⟩
      by_cases e0 : e = 0
      · subst e0
        exact ⟨h, hh, by rw [ei0]; exact r0⟩
      · obtain ⟨h', hh', e'⟩ := q2 (Nat.pos_of_ne_zero e0)
        refine ⟨h', hh', ?_⟩
        rw [← e', b6 _ (ei1 (Nat.pos_of_ne_zero e0)), ei2]
  refine ⟨σB1, σM1, s'' + 1, b1, m1, ?_, by omega, by omega, b2, by rw [show s'' + 1 - 1 = s'' by omega]; exact r0, b3, b4, b5, m3, m5, m4⟩
  refine R.bld (fun o _ _ _ h _ _ => b3 o h) (fun o _ _ _ h _ _ => b4 o h) (fun k _ => by rw [b5]) (fun k _ _ _ _ _ h => m3 k h) (fun k _ _ _ h => m5 k h) (by rw [m4]) S1 (R.2.2.2.2.1.cg (by rw [b4 5 (by omega)]) (by rw [b3 5 (by omega)]) (fun p hp => by rw [m5 52 (by omega), m5 53 (by omega)]; exact ⟨rfl, rfl⟩)) ?_ U1 (R.2.2.2.2.2.2.2.2.2.2.1.cg (fun k _ => by rw [b4 13 (by omega)]) (b3 13 (by omega)) (m5 69 (by omega)) (m3 67 (by omega)) (m3 68 (by omega)))
  obtain ⟨k, d1, d2, d3⟩ := R.2.2.2.2.2.1
  exact ⟨k, d1, by rw [b3 5 (by omega)]; exact d2, by rw [m4]; exact d3⟩
/-- then one house and the bidding change -/
theorem REL0.mod {t : Bool} {n np h S : Nat} {σB σM σB2 σM2 : St} (R : REL0 t n np σB σM) (hh : h < n) (hS : 1 ≤ S ∧ S ≤ 20) (hS2 : gI σB 12 1 = nI S) (htop : gA σB 12 0 (9 * (S - 1)) = nI h) (S2 : SR n 9999 9000 σB2 5 σM2 0) (fB : frB 5 σB σB2) (fM : frM 0 σM σM2) (fP : frP σM σM2) (h13 : gI σB2 5 13 = gI σB 5 13) (hJ : gJ σM2 = gJ σM) (k1 : ∀ k j, k < 5 → j ≠ h → gA σB2 5 k j = gA σB 5 k j) (k2 : gA σB2 5 1 = gA σB 5 1) (k3 : ∀ k, k = 8 ∨ k = 12 ∨ k = 14 → gI σB2 5 k = gI σB 5 k) : REL0 t n np σB2 σM2 := by
  have hn6 := R.2.2.1.n6
  obtain ⟨s, u1, u2, u3, u4⟩ := R.2.2.2.2.2.2.2.2.2.1
  have es : s = S := (nI_eq (by omega) (by omega)).mp (u2.symm.trans hS2)
  subst es
  have rows : gA σB2 12 = gA σB 12 := fB.2.1 12 (by omega)
  have c0 : (gA σB 12 0 (9 * (s - 1))).toNatClampNeg = h := by rw [htop, clN (by omega)]
  have W1 : agW (tbw σB (s - 1)) (tbw σB2 (s - 1)) := by
    refine ⟨fun k j hk hj => ?_, fun k hk => ?_⟩
    · rw [tbw_gA, tbw_gA, rows, c0]
      have u : ∀ (k : Nat) (x : Int32), k < 5 → upd (gA σB2 5 k) h x j = upd (gA σB 5 k) h x j := fun k x hk => by
        rw [upd_at, upd_at]
        split
        · rfl
        · rename_i e
          exact k1 k j hk e
      obtain rfl | rfl | rfl | rfl | rfl : k = 0 ∨ k = 1 ∨ k = 2 ∨ k = 3 ∨ k = 4 := by omega
      · exact u 0 _ (by omega)
      · show gA σB2 5 1 j = gA σB 5 1 j
        rw [k2]
      · exact u 2 _ (by omega)
      · exact u 3 _ (by omega)
      · exact u 4 _ (by omega)
    · rw [tbw_gI, tbw_gI, rows]
      rcases hk with rfl | rfl | rfl | rfl | rfl | rfl | rfl
      · rfl
      · exact k3 8 (Or.inl rfl)
      · rfl
      · rfl
      · rfl
      · exact k3 12 (Or.inr (Or.inl rfl))
      · exact k3 14 (Or.inr (Or.inr rfl))
  have WE : ∀ e, agW (tbs σB s (e + 1)) (tbs σB2 s (e + 1)) := by
    intro e
    induction e with
    | zero => exact W1
    | succ e ih =>
      show agW (tbw (tbs σB s (e + 1)) (s - (e + 1 + 1))) (tbw (tbs σB2 s (e + 1)) (s - (e + 1 + 1)))
      exact tbw_ag ih (fun q hq => by rw [tbs_rows, tbs_rows, rows])
  have h72 : gA σM2 0 72 = gA σM 0 72 := fM.2.1 72 (by omega)
  have U2 : UNR n σB2 σM2 := by
    refine ⟨s, u1, by rw [fB.1 12 (by omega)]; exact u2, by rw [fM.1 71 (by omega) (by omega)]; exact u3, fun d hd => ?_⟩
    cases d with
    | zero => exact ⟨S2, fun z => absurd z (by omega)⟩
    | succ e =>
      obtain ⟨q1, q2⟩ := u4 (e + 1) hd
      refine ⟨q1.cw hn6 (WE e) ?_, fun z => ?_⟩
      · unfold vuM
        rw [if_neg (by omega), if_neg (by omega)]
        refine rowM_ag hn6 (fun x hx => by rw [h72]) (fun k hk j hj => ?_) (fun k k4 k5 => ?_)
        · subst hk
          have a1 : gA σB2 5 1 j = gA σM2 0 47 (6 * 0 + j) := S2.1 1 (by omega) j hj
          have a2 : gA σB 5 1 j = gA σM 0 47 (6 * 0 + j) := R.2.2.2.1.1 1 (by omega) j hj
          rw [show 6 * 0 + j = j by omega] at a1 a2
          rw [← a1, ← a2, k2]
        · obtain rfl | rfl | rfl : k = 57 ∨ k = 58 ∨ k = 59 := by omega
          · have a1 : gI σB2 5 14 = gA σM2 0 57 0 := S2.2.2.1 14 (by unfold isS; omega)
            have a2 : gI σB 5 14 = gA σM 0 57 0 := R.s5 14 (by unfold isS; omega)
            rw [← a1, ← a2, k3 14 (by omega)]
          · have a1 : gI σB2 5 12 = gA σM2 0 58 0 := S2.2.2.1 12 (by unfold isS; omega)
            have a2 : gI σB 5 12 = gA σM 0 58 0 := R.s5 12 (by unfold isS; omega)
            rw [← a1, ← a2, k3 12 (by omega)]
          · have a1 : gI σB2 5 8 = gA σM2 0 59 0 := S2.2.2.1 8 (by unfold isS; omega)
            have a2 : gI σB 5 8 = gA σM 0 59 0 := R.s5 8 (by unfold isS; omega)
            rw [← a1, ← a2, k3 8 (by omega)]
      · rw [rows]
        exact q2 z
  refine R.bld (fun o o5 _ _ _ _ _ => fB.1 o o5) (fun o o5 _ _ _ _ _ => fB.2.1 o o5) (fun k _ => by rw [fB.2.2.1]) (fun k k0 k4 k5 _ _ _ => fM.1 k k4 (by omega)) (fun k k4 _ _ _ => fM.2.1 k k4) (by rw [hJ]) S2 (R.2.2.2.2.1.cg fB.2.2.2.2.1 fB.2.2.2.2.2 (fun p hp => by rw [fP.1, fP.2]; exact ⟨rfl, rfl⟩)) ?_ U2 (R.2.2.2.2.2.2.2.2.2.2.1.cg (fun k _ => by rw [fB.2.1 13 (by omega)]) (fB.1 13 (by omega)) (fM.2.1 69 (by omega)) (fM.1 67 (by omega) (by omega)) (fM.1 68 (by omega) (by omega)))
  obtain ⟨k, d1, d2, d3⟩ := R.2.2.2.2.2.1
  exact ⟨k, d1, by rw [h13]; exact d2, by rw [hJ]; exact d3⟩
