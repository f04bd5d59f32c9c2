set_option maxHeartbeats 2000000 in
theorem word_sim {c : Nat → Nat} {S : Nat} {σB σM : St} (T : TC c S σB σM) (p : Nat) (hp : p < S) (hd : 97 ≤ c p ∧ c p ≤ 122) (hB2 : gI σB 10 2 = nI p) (hB5 : gI σB 10 5 = 0) (hM7 : gI σM 0 7 = nI p) (hM10 : gI σM 0 10 = nI p) : SIM (fun σB' σM' => GO S p σB σM σB' σM') (fX7_readWord σB) (lpx1 FU (fun self13 (σ11 : St) => Option.bind (fX10_isSmall σ11 (gI σ11 0 7)) fun r16 => if r16 = 0 then (Option.bind (fX10_wordAt σ11 (gI σ11 0 10) (gI σ11 0 7)) fun r19 => lt (sI σ11 0 9 r19) fun σ20 => jnx1 (fun (x21 : Int32) => lt (sI σ20 0 8 x21) fun σ23 => if (gI σ23 0 8) = (2 : Int32) then (Option.bind (fX10_packed σ23 (gI σ23 0 10) (gI σ23 0 7)) fun r26 => lt (sI σ23 0 9 r26) fun σ27 => some σ27) else (some σ23)) fun J22 => if (gI σ20 0 9) < 0 then (if ((gI σ20 0 7) - (gI σ20 0 10)) ≤ (6 : Int32) then (J22 (2 : Int32)) else (J22 (6 : Int32))) else (J22 (1 : Int32))) else (lt (sI σ11 0 7 ((gI σ11 0 7) + (1 : Int32))) fun σ30 => self13 σ30)) σM) := by
  have hS := T.1
  unfold fX7_readWord
  simp only [lt_eq, jnx1_eq]
  generalize hFU : FU = Z
  refine simlp2_1 _ (fun j x a b => ∃ t, p + t + j = S ∧ x = nI t ∧ lts c p t ∧ frT σB a ∧ frU σM b ∧ gI a 10 4 = gI σB 10 4 ∧ gI b 0 10 = nI p ∧ gI a 10 2 = nI (p + t) ∧ gI b 0 7 = nI (p + t) ∧ gI a 10 5 = nI (pV (dg c p t))) ?_ Z Z (S - p) 0 σB σM (by rw [← hFU]; exact FU_gt (by omega)) (by rw [← hFU]; exact FU_gt (by omega)) ⟨0, by omega, rfl, fun u hu => by omega, frT.rf _, frU.rf _, rfl, hM10, hB2, hM7, by rw [hB5]; unfold pV; rw [dg_z 0 (by omega), dg_z 1 (by omega), dg_z 2 (by omega), dg_z 3 (by omega), dg_z 4 (by omega), dg_z 5 (by omega)]; rfl⟩
  rintro j sF sG x a b ⟨t, h1, rfl, hl, h3, h4, h5, h6, h7, h8, h9⟩ ih
  have T' : TC c S a b := T.cg h3 h4
  have pb := pV_lt (fun u => dg_lt hl u)
  -- the end of the word
  have fin : 1 ≤ t → SIM (fun σB' σM' => GO S p σB σM σB' σM') (if nI t ≤ (6 : Int32) then (Option.bind (fX9_placeOf_w a (gI a 10 5) (19 : Int32)) fun r18 => if r18 = (-1 : Int32) then (if nI t ≤ (6 : Int32) then some (sI a 10 3 19) else some (sI a 10 3 22)) else some (sI a 10 3 r18)) else (if (-1 : Int32) = (-1 : Int32) then (if nI t ≤ (6 : Int32) then some (sI a 10 3 19) else some (sI a 10 3 22)) else some (sI a 10 3 (-1)))) (Option.bind (fX10_wordAt b (gI b 0 10) (nI (p + t))) fun r19 => if gI (sI b 0 9 r19) 0 9 < 0 then (if ((gI (sI b 0 9 r19) 0 7) - (gI (sI b 0 9 r19) 0 10)) ≤ (6 : Int32) then (if gI (sI (sI b 0 9 r19) 0 8 2) 0 8 = 2 then (Option.bind (fX10_packed (sI (sI b 0 9 r19) 0 8 2) (gI (sI (sI b 0 9 r19) 0 8 2) 0 10) (gI (sI (sI b 0 9 r19) 0 8 2) 0 7)) fun r26 => some (sI (sI (sI b 0 9 r19) 0 8 2) 0 9 r26)) else some (sI (sI b 0 9 r19) 0 8 2)) else (if gI (sI (sI b 0 9 r19) 0 8 6) 0 8 = 2 then (Option.bind (fX10_packed (sI (sI b 0 9 r19) 0 8 6) (gI (sI (sI b 0 9 r19) 0 8 6) 0 10) (gI (sI (sI b 0 9 r19) 0 8 6) 0 7)) fun r26 => some (sI (sI (sI b 0 9 r19) 0 8 6) 0 9 r26)) else some (sI (sI b 0 9 r19) 0 8 6))) else (if gI (sI (sI b 0 9 r19) 0 8 1) 0 8 = 2 then (Option.bind (fX10_packed (sI (sI b 0 9 r19) 0 8 1) (gI (sI (sI b 0 9 r19) 0 8 1) 0 10) (gI (sI (sI b 0 9 r19) 0 8 1) 0 7)) fun r26 => some (sI (sI (sI b 0 9 r19) 0 8 1) 0 9 r26)) else some (sI (sI b 0 9 r19) 0 8 1))) := by
    intro ht
    have B : ∀ k : Int32, frT σB (sI a 10 3 k) ∧ gI (sI a 10 3 k) 10 4 = gI σB 10 4 ∧ gI (sI a 10 3 k) 10 2 = nI (p + t) ∧ gI (sI a 10 3 k) 10 3 = k ∧ gI (sI a 10 3 k) 10 5 = nI (pV (dg c p t)) := fun k => ⟨h3.tr (frT.s _ _ (by omega)), by rw [gIn (by omega), h5], by rw [gIn (by omega), h7], by rw [gIe], by rw [gIn (by omega), h9]⟩
    have M : ∀ r k : Int32, frU σM (sI (sI b 0 9 r) 0 8 k) ∧ gI (sI (sI b 0 9 r) 0 8 k) 0 10 = nI p ∧ gI (sI (sI b 0 9 r) 0 8 k) 0 7 = nI (p + t) ∧ gI (sI (sI b 0 9 r) 0 8 k) 0 8 = k ∧ gI (sI (sI b 0 9 r) 0 8 k) 0 9 = r := fun r k => ⟨h4.tr ((frU.s _ _ (by omega)).tr (frU.s _ _ (by omega))), by rw [gIn (by omega), gIn (by omega), h6], by rw [gIn (by omega), gIn (by omega), h8], by rw [gIe], by rw [gIn (by omega), gIe]⟩
    obtain ⟨r, w1, w2⟩ := wordAt_eq T' p (p + t) (by omega) (by omega)
    rw [show p + t - p = t by omega] at w2
    rw [h6, w1, bS, gIe, gIn (by omega), gIn (by omega), h8, h6, pk_sub (show p ≤ p + t by omega), show p + t - p = t by omega]
    have e6 : (nI t ≤ (6 : Int32)) ↔ t ≤ 6 := leN (a := t) (b := 6) (by omega) (by omega)
    rcases w2 with ⟨k, hk, hm, rfl⟩ | ⟨hno, rfl⟩
    · have wl := (wtab k hk).2.2.1
      have t6 : t ≤ 6 := by rw [← hm.1]; exact wl
      rw [if_pos (e6.mpr t6), if_neg (show ¬ nI k < 0 from nI_pos (by omega))]
      have hV := (wmat_iff hl t6 hk).mp hm
      obtain ⟨r, p1, p2⟩ := placeW a (pV (dg c p t)) pb
      rw [h9, p1, bS]
      rcases p2 with ⟨j', hj', hq, rfl⟩ | ⟨hq, -⟩
      · have : swp j' = k := wpk_inj _ (swp_lt j' hj').1 k hk (by rw [← hq, hV])
        have hj : j' = swp k := by rw [← this, (swp_lt j' hj').2]
        have ne : ¬ nI j' = (-1 : Int32) := fun z => by
          have := congrArg Int32.toInt z
          rw [nI_toInt (by omega)] at this
          have e : (-1 : Int32).toInt = -1 := by decide
          omega
        rw [if_neg ne]
        obtain ⟨B1, B2, B3, B4, B5⟩ := B (nI j')
        obtain ⟨M1, M2, M3, M4, M5⟩ := M (nI k) 1
        rw [if_neg (show ¬ gI (sI (sI b 0 9 (nI k)) 0 8 1) 0 8 = 2 by rw [M4]; decide)]
        refine SIM.ret ⟨B1, M1, B2, by rw [M2, hM10], p + t, by omega, by omega, B3, M3, ?_⟩
        rw [B4, M4, M5]
        exact Or.inr (Or.inl ⟨k, hk, by rw [hj], rfl, rfl⟩)
      · have q := hq (swp k) (swp_lt k hk).1
        rw [(swp_lt k hk).2] at q
        exact absurd hV q
    · rw [if_pos (show (-1 : Int32) < 0 by decide)]
      by_cases t6 : t ≤ 6
      · rw [if_pos (e6.mpr t6), if_pos (e6.mpr t6)]
        obtain ⟨r, p1, p2⟩ := placeW a (pV (dg c p t)) pb
        rw [h9, p1, bS]
        rcases p2 with ⟨j', hj', hq, rfl⟩ | ⟨hq, rfl⟩
        · exact absurd ((wmat_iff hl t6 (swp_lt j' hj').1).mpr hq) (hno _ (swp_lt j' hj').1)
        · obtain ⟨B1, B2, B3, B4, B5⟩ := B 19
          obtain ⟨M1, M2, M3, M4, M5⟩ := M (-1) 2
          have TT : TC c S a (sI (sI b 0 9 (-1)) 0 8 2) := T'.cg (frT.rf a) ((frU.s _ _ (by omega)).tr (frU.s _ _ (by omega)))
          rw [if_pos rfl, if_pos (e6.mpr t6), if_pos M4, M2, M3, packM TT p t (by omega) hl, bS]
          refine SIM.ret ⟨B1, M1.tr (frU.s _ _ (by omega)), B2, by rw [gIn (by omega), M2, hM10], p + t, by omega, by omega, B3, by rw [gIn (by omega), M3], ?_⟩
          rw [B4, B5, gIn (show (8 : Nat) ≠ 9 by omega), M4, gIe]
          exact Or.inr (Or.inr (Or.inl ⟨rfl, rfl, rfl⟩))
      · have n6 : ¬ nI t ≤ (6 : Int32) := fun z => t6 (e6.mp z)
        rw [if_neg n6, if_neg n6, if_pos rfl, if_neg n6]
        obtain ⟨B1, B2, B3, B4, B5⟩ := B 22
        obtain ⟨M1, M2, M3, M4, M5⟩ := M (-1) 6
        rw [if_neg (show ¬ gI (sI (sI b 0 9 (-1)) 0 8 6) 0 8 = 2 by rw [M4]; decide)]
        refine SIM.ret ⟨B1, M1, B2, by rw [M2, hM10], p + t, by omega, by omega, B3, M3, ?_⟩
        rw [B4, M4, M5]
        exact Or.inr (Or.inr (Or.inr (Or.inr (Or.inl ⟨rfl, Or.inl rfl⟩))))
  rw [h8, letM T' (p + t) (by omega), bS, T'.2.1, h7]
  by_cases d : p + t < S
  · have t4 := T'.2.2.2.1 (p + t) (by omega)
    rw [if_neg (fun z => absurd ((leN (by omega) (by omega)).mp z) (by omega)), gdN (show p + t < 700 by omega) (by omega), clN (show p + t < 1000000 by omega), t4.2.2, letB a (c (p + t)) t4.1, bS]
    by_cases e : 97 ≤ c (p + t) ∧ c (p + t) ≤ 122
    · have e1 : ¬ ((if 97 ≤ c (p + t) ∧ c (p + t) ≤ 122 then (1 : Int32) else 0) = 0) := by rw [if_pos e]; decide
      have e2 : ¬ ((if p + t < S ∧ 97 ≤ c (p + t) ∧ c (p + t) ≤ 122 then (1 : Int32) else 0) = 0) := by rw [if_pos ⟨d, e⟩]; decide
      have hl' : lts c p (t + 1) := fun u hu => by
        by_cases q : u = t
        · rw [q]; exact e
        · exact hl u (by omega)
      rw [if_neg e1, if_neg e2, gdN (show p + t < 700 by omega) (by omega), byt_sm _ (by omega), h9]
      have nxt : ∀ a' : St, frT σB a' → gI a' 10 4 = gI σB 10 4 → gI a' 10 2 = nI (p + t) → gI a' 10 5 = nI (pV (dg c p (t + 1))) → SIM (fun σB' σM' => GO S p σB σM σB' σM') (sF (nI t + 1) (sI a' 10 2 (gI a' 10 2 + 1))) (sG (sI b 0 7 (nI (p + t) + 1))) := by
        intro a' q1 q2 q3 q4
        refine ih (j - 1) _ _ _ (by omega) ⟨t + 1, by omega, nI_1 t, hl', q1.tr (frT.s _ _ (by omega)), h4.tr (frU.s _ _ (by omega)), by rw [gIn (by omega), q2], by rw [gIn (by omega), h6], by rw [gIe, q3, nI_1]; rfl, by rw [gIe, nI_1]; rfl, by rw [gIn (by omega), q4]⟩
      by_cases g : 6 ≤ t
      · rw [if_pos (show (6 : Int32) ≤ nI t from (leN (a := 6) (b := t) (by omega) (by omega)).mpr g)]
        have nx := nxt a h3 h5 h7
        rw [h7] at nx
        refine nx ?_
        rw [h9]
        unfold pV
        rw [dg_s 0 (by omega), dg_s 1 (by omega), dg_s 2 (by omega), dg_s 3 (by omega), dg_s 4 (by omega), dg_s 5 (by omega)]
      · rw [if_neg (show ¬ (6 : Int32) ≤ nI t from fun z => g ((leN (a := 6) (b := t) (by omega) (by omega)).mp z)), packB (by omega) hl']
        exact nxt _ (h3.tr (frT.s _ _ (by omega))) (by rw [gIn (by omega), h5]) (by rw [gIn (by omega), h7]) (by rw [gIe])
    · have e1 : (if 97 ≤ c (p + t) ∧ c (p + t) ≤ 122 then (1 : Int32) else 0) = 0 := by rw [if_neg e]
      have e2 : (if p + t < S ∧ 97 ≤ c (p + t) ∧ c (p + t) ≤ 122 then (1 : Int32) else 0) = 0 := by rw [if_neg (fun z => e z.2)]
      rw [if_pos e1, if_pos e2]
      refine fin ?_
      by_cases q : t = 0
      · subst q
        exact absurd hd e
      · omega
  · have e2 : (if p + t < S ∧ 97 ≤ c (p + t) ∧ c (p + t) ≤ 122 then (1 : Int32) else 0) = 0 := by rw [if_neg (fun z => d z.1)]
    rw [if_pos ((leN (by omega) (by omega)).mpr (by omega)), if_pos e2]
    exact fin (by omega)
