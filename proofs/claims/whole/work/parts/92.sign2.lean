/-- a token read from i on, its place being told already -/
def GO (S i : Nat) (σB σM σB' σM' : St) : Prop := frT σB σB' ∧ frU σM σM' ∧ gI σB' 10 4 = gI σB 10 4 ∧ gI σM' 0 10 = gI σM 0 10 ∧ ∃ i', i < i' ∧ i' ≤ S ∧ gI σB' 10 2 = nI i' ∧ gI σM' 0 7 = nI i' ∧ KR (gI σB' 10 3) (gI σB' 10 5) (gI σM' 0 8) (gI σM' 0 9)
set_option maxHeartbeats 2000000 in
theorem sign_sim {c : Nat → Nat} {S : Nat} {σB σM : St} (T : TC c S σB σM) (i : Nat) (hi : i < S) (hB2 : gI σB 10 2 = nI i) (hM7 : gI σM 0 7 = nI i) : SIM (fun σB' σM' => GO S i σB σM σB' σM') (fX7_readSign σB (bytN (c i))) (fX10_signToken σM) := by
  have hS := T.1
  have hci := (T.2.2.2.1 i (by omega)).1
  have hMi := (T.2.2.2.1 i (by omega)).2.1
  unfold fX7_readSign fX10_signToken
  rw [kos σB (c i) hci, bS, hM7, gdN (show i < 700 by omega) (by omega), clN (show i < 1000000 by omega), hMi]
  simp only [lt_eq, jnx1_eq]
  have b2 : gI (sI (sI σB 10 3 (nI (ks (c i)))) 10 2 (gI (sI σB 10 3 (nI (ks (c i)))) 10 2 + 1)) 10 2 = nI (i + 1) := by
    rw [gIe, gIn (by omega), hB2, nI_1]
  have b3 : gI (sI (sI σB 10 3 (nI (ks (c i)))) 10 2 (gI (sI σB 10 3 (nI (ks (c i)))) 10 2 + 1)) 10 3 = nI (ks (c i)) := by
    rw [gIn (by omega), gIe]
  have b4 : gI (sI (sI σB 10 3 (nI (ks (c i)))) 10 2 (gI (sI σB 10 3 (nI (ks (c i)))) 10 2 + 1)) 10 4 = gI σB 10 4 := by
    rw [gIn (by omega), gIn (by omega)]
  have b5 : frT σB (sI (sI σB 10 3 (nI (ks (c i)))) 10 2 (gI (sI σB 10 3 (nI (ks (c i)))) 10 2 + 1)) := (frT.s σB _ (by omega)).tr (frT.s _ _ (by omega))
  generalize sI (sI σB 10 3 (nI (ks (c i)))) 10 2 (gI (sI σB 10 3 (nI (ks (c i)))) 10 2 + 1) = sB at *
  have m7 : gI (sI (sI σM 0 9 (nI (c i))) 0 7 (gI (sI σM 0 9 (nI (c i))) 0 7 + 1)) 0 7 = nI (i + 1) := by
    rw [gIe, gIn (by omega), hM7, nI_1]
  have m9 : gI (sI (sI σM 0 9 (nI (c i))) 0 7 (gI (sI σM 0 9 (nI (c i))) 0 7 + 1)) 0 9 = nI (c i) := by
    rw [gIn (by omega), gIe]
  have m10 : gI (sI (sI σM 0 9 (nI (c i))) 0 7 (gI (sI σM 0 9 (nI (c i))) 0 7 + 1)) 0 10 = gI σM 0 10 := by
    rw [gIn (by omega), gIn (by omega)]
  have m5 : frU σM (sI (sI σM 0 9 (nI (c i))) 0 7 (gI (sI σM 0 9 (nI (c i))) 0 7 + 1)) := (frU.s σM _ (by omega)).tr (frU.s _ _ (by omega))
  generalize sI (sI σM 0 9 (nI (c i))) 0 7 (gI (sI σM 0 9 (nI (c i))) 0 7 + 1) = sM at *
  have T' : TC c S sB sM := T.cg b5 m5
  have n61 : fX7_isNext sB 61 = some (if i + 1 < S ∧ c (i + 1) = 61 then 1 else 0) := isNext_eq T' (i + 1) (by omega) b2 61 (by omega)
  have n62 : fX7_isNext sB 62 = some (if i + 1 < S ∧ c (i + 1) = 62 then 1 else 0) := isNext_eq T' (i + 1) (by omega) b2 62 (by omega)
  have n6 : gI sM 0 6 = nI S := T'.2.2.1
  simp only [n61, n62, bS, b3, m9, m7, n6, ite0]
  have e : ∀ k, k < 128 → (nI (c i) = nI k ↔ c i = k) := fun k hk => eqN (by omega) (by omega)
  have e60 : (nI (c i) = (60 : Int32)) ↔ c i = 60 := e 60 (by omega)
  have e61 : (nI (c i) = (61 : Int32)) ↔ c i = 61 := e 61 (by omega)
  have e62 : (nI (c i) = (62 : Int32)) ↔ c i = 62 := e 62 (by omega)
  -- ends of the class
  have fB : ∀ r : Int32, gI (sI (sI sB 10 3 r) 10 2 (gI (sI sB 10 3 r) 10 2 + 1)) 10 2 = nI (i + 2) ∧ gI (sI (sI sB 10 3 r) 10 2 (gI (sI sB 10 3 r) 10 2 + 1)) 10 3 = r ∧ gI (sI (sI sB 10 3 r) 10 2 (gI (sI sB 10 3 r) 10 2 + 1)) 10 4 = gI σB 10 4 ∧ frT σB (sI (sI sB 10 3 r) 10 2 (gI (sI sB 10 3 r) 10 2 + 1)) := fun r => ⟨by rw [gIe, gIn (by omega), b2, nI_1], by rw [gIn (by omega), gIe], by rw [gIn (by omega), gIn (by omega), b4], b5.tr ((frT.s sB _ (by omega)).tr (frT.s _ _ (by omega)))⟩
  have fM1 : ∀ w : Int32, gI (sI (sI sM 0 8 5) 0 9 w) 0 7 = nI (i + 1) ∧ gI (sI (sI sM 0 8 5) 0 9 w) 0 8 = 5 ∧ gI (sI (sI sM 0 8 5) 0 9 w) 0 9 = w ∧ gI (sI (sI sM 0 8 5) 0 9 w) 0 10 = gI σM 0 10 ∧ frU σM (sI (sI sM 0 8 5) 0 9 w) := fun w => ⟨by rw [gIn (by omega), gIn (by omega), m7], by rw [gIn (by omega), gIe], by rw [gIe], by rw [gIn (by omega), gIn (by omega), m10], m5.tr ((frU.s sM _ (by omega)).tr (frU.s _ _ (by omega)))⟩
  have fM2 : ∀ w : Int32, gI (sI (sI (sI sM 0 7 (nI (i + 1) + 1)) 0 8 5) 0 9 w) 0 7 = nI (i + 2) ∧ gI (sI (sI (sI sM 0 7 (nI (i + 1) + 1)) 0 8 5) 0 9 w) 0 8 = 5 ∧ gI (sI (sI (sI sM 0 7 (nI (i + 1) + 1)) 0 8 5) 0 9 w) 0 9 = w ∧ gI (sI (sI (sI sM 0 7 (nI (i + 1) + 1)) 0 8 5) 0 9 w) 0 10 = gI σM 0 10 ∧ frU σM (sI (sI (sI sM 0 7 (nI (i + 1) + 1)) 0 8 5) 0 9 w) := fun w => ⟨by rw [gIn (by omega), gIn (by omega), gIe, nI_1], by rw [gIn (by omega), gIe], by rw [gIe], by rw [gIn (by omega), gIn (by omega), gIn (by omega), m10], m5.tr (((frU.s sM _ (by omega)).tr (frU.s _ _ (by omega))).tr (frU.s _ _ (by omega)))⟩
  have fM3 : ∀ w : Int32, gI (sI sM 0 8 w) 0 7 = nI (i + 1) ∧ gI (sI sM 0 8 w) 0 8 = w ∧ gI (sI sM 0 8 w) 0 9 = nI (c i) ∧ gI (sI sM 0 8 w) 0 10 = gI σM 0 10 ∧ frU σM (sI sM 0 8 w) := fun w => ⟨by rw [gIn (by omega), m7], by rw [gIe], by rw [gIn (by omega), m9], by rw [gIn (by omega), m10], m5.tr (frU.s sM _ (by omega))⟩
  have G1 : ∀ w : Int32, KR (gI sB 10 3) (gI sB 10 5) 5 w → GO S i σB σM sB (sI (sI sM 0 8 5) 0 9 w) := fun w hk => by
    obtain ⟨a1, a2, a3, a4, a5⟩ := fM1 w
    exact ⟨b5, a5, b4, a4, i + 1, by omega, by omega, b2, a1, by rw [a2, a3]; exact hk⟩
  have G2 : i + 1 < S → ∀ r w : Int32, KR r (gI (sI (sI sB 10 3 r) 10 2 (gI (sI sB 10 3 r) 10 2 + 1)) 10 5) 5 w → GO S i σB σM (sI (sI sB 10 3 r) 10 2 (gI (sI sB 10 3 r) 10 2 + 1)) (sI (sI (sI sM 0 7 (nI (i + 1) + 1)) 0 8 5) 0 9 w) := fun hi2 r w hk => by
    obtain ⟨a1, a2, a3, a4, a5⟩ := fM2 w
    obtain ⟨d1, d2, d3, d4⟩ := fB r
    exact ⟨d4, a5, d3, a4, i + 2, by omega, by omega, d1, a1, by rw [a2, a3, d2]; exact hk⟩
  have G3 : ∀ w : Int32, KR (gI sB 10 3) (gI sB 10 5) w (nI (c i)) → GO S i σB σM sB (sI sM 0 8 w) := fun w hk => by
    obtain ⟨a1, a2, a3, a4, a5⟩ := fM3 w
    exact ⟨b5, a5, b4, a4, i + 1, by omega, by omega, b2, a1, by rw [a2, a3]; exact hk⟩
  have q1 : gI (sI sM 0 8 5) 0 9 = nI (c i) := by rw [gIn (by omega), m9]
  have q2 : gI (sI (sI sM 0 7 (nI (i + 1) + 1)) 0 8 5) 0 9 = nI (c i) := by rw [gIn (by omega), gIn (by omega), m9]
  have hle : (nI S ≤ nI (i + 1)) = (S ≤ i + 1) := propext (leN (by omega) (by omega))
  have hlt : i + 1 < S → gA sM 0 0 (i + 1) = nI (c (i + 1)) := fun h => (T'.2.2.2.1 (i + 1) (by omega)).2.1
  have y61 : i + 1 < S → ((nI (c (i + 1)) = (61 : Int32)) = (c (i + 1) = 61)) := fun h => propext (eqN (b := 61) (by have := (T'.2.2.2.1 (i + 1) (by omega)).1; omega) (by omega))
  have y62 : i + 1 < S → ((nI (c (i + 1)) = (62 : Int32)) = (c (i + 1) = 62)) := fun h => propext (eqN (b := 62) (by have := (T'.2.2.2.1 (i + 1) (by omega)).1; omega) (by omega))
  by_cases x60 : c i = 60
  · have k1 : nI (ks (c i)) = 26 := by rw [x60]; rfl
    have k2 : nI (c i) = 60 := by rw [x60]; rfl
    rw [k1] at b3
    rw [k1, k2]
    by_cases hS1 : i + 1 < S
    · have w1 : (S ≤ i + 1) = False := eq_false (by omega)
      by_cases c61 : c (i + 1) = 61
      · simp (decide := true) only [hle, w1, if_false, gdN (show i + 1 < 700 by omega) (show 700 ≤ 1000000 by omega), clN (show i + 1 < 1000000 by omega), hlt hS1, y61 hS1, y62 hS1, c61, hS1, q1, q2, k2, if_true, and_self, not_true]
        exact SIM.ret (G2 hS1 27 1 (by unfold KR; exact Or.inr (Or.inr (Or.inr (Or.inr (Or.inr (Or.inr ⟨1, by omega, rfl, rfl, rfl⟩)))))))
      · by_cases c62 : c (i + 1) = 62
        · simp (decide := true) only [hle, w1, if_false, gdN (show i + 1 < 700 by omega) (show 700 ≤ 1000000 by omega), clN (show i + 1 < 1000000 by omega), hlt hS1, y61 hS1, y62 hS1, c62, hS1, q1, q2, k2, if_true, and_self, not_true, and_false, not_false]
          exact SIM.ret (G2 hS1 29 3 (by unfold KR; exact Or.inr (Or.inr (Or.inr (Or.inr (Or.inr (Or.inr ⟨3, by omega, rfl, rfl, rfl⟩)))))))
        · simp (decide := true) only [hle, w1, if_false, gdN (show i + 1 < 700 by omega) (show 700 ≤ 1000000 by omega), clN (show i + 1 < 1000000 by omega), hlt hS1, y61 hS1, y62 hS1, c61, c62, hS1, q1, q2, k2, if_true, and_self, not_true, and_false, not_false]
          exact SIM.ret (G1 0 (by unfold KR; exact Or.inr (Or.inr (Or.inr (Or.inr (Or.inr (Or.inr ⟨0, by omega, b3, rfl, rfl⟩)))))))
    · have w1 : (S ≤ i + 1) = True := eq_true (by omega)
      simp (decide := true) only [hle, w1, if_false, hS1, q1, q2, k2, if_true, and_self, not_true, and_false, false_and, not_false]
      exact SIM.ret (G1 0 (by unfold KR; exact Or.inr (Or.inr (Or.inr (Or.inr (Or.inr (Or.inr ⟨0, by omega, b3, rfl, rfl⟩)))))))
  · by_cases x62 : c i = 62
    · have k1 : nI (ks (c i)) = 31 := by rw [x62]; rfl
      have k2 : nI (c i) = 62 := by rw [x62]; rfl
      rw [k1] at b3
      rw [k1, k2]
      by_cases hS1 : i + 1 < S
      · have w1 : (S ≤ i + 1) = False := eq_false (by omega)
        by_cases c61 : c (i + 1) = 61
        · simp (decide := true) only [hle, w1, if_false, gdN (show i + 1 < 700 by omega) (show 700 ≤ 1000000 by omega), clN (show i + 1 < 1000000 by omega), hlt hS1, y61 hS1, y62 hS1, c61, hS1, q1, q2, k2, if_true, and_self, not_true]
          exact SIM.ret (G2 hS1 30 4 (by unfold KR; exact Or.inr (Or.inr (Or.inr (Or.inr (Or.inr (Or.inr ⟨4, by omega, rfl, rfl, rfl⟩)))))))
        · simp (decide := true) only [hle, w1, if_false, gdN (show i + 1 < 700 by omega) (show 700 ≤ 1000000 by omega), clN (show i + 1 < 1000000 by omega), hlt hS1, y61 hS1, y62 hS1, c61, hS1, q1, q2, k2, if_true, and_self, not_true, and_false, not_false]
          exact SIM.ret (G1 5 (by unfold KR; exact Or.inr (Or.inr (Or.inr (Or.inr (Or.inr (Or.inr ⟨5, by omega, b3, rfl, rfl⟩)))))))
      · have w1 : (S ≤ i + 1) = True := eq_true (by omega)
        simp (decide := true) only [hle, w1, if_false, hS1, q1, q2, k2, if_true, and_self, not_true, and_false, false_and, not_false]
        exact SIM.ret (G1 5 (by unfold KR; exact Or.inr (Or.inr (Or.inr (Or.inr (Or.inr (Or.inr ⟨5, by omega, b3, rfl, rfl⟩)))))))
    · by_cases x61 : c i = 61
      · have k1 : nI (ks (c i)) = 28 := by rw [x61]; rfl
        have k2 : nI (c i) = 61 := by rw [x61]; rfl
        rw [k1] at b3
        rw [k1, k2]
        by_cases hS1 : i + 1 < S
        · have w1 : (S ≤ i + 1) = False := eq_false (by omega)
          simp (decide := true) only [hle, w1, if_false, gdN (show i + 1 < 700 by omega) (show 700 ≤ 1000000 by omega), q1, q2, k2, if_true, ite_self]
          exact SIM.ret (G1 2 (by unfold KR; exact Or.inr (Or.inr (Or.inr (Or.inr (Or.inr (Or.inr ⟨2, by omega, b3, rfl, rfl⟩)))))))
        · have w1 : (S ≤ i + 1) = True := eq_true (by omega)
          simp (decide := true) only [hle, w1, if_false, q1, q2, k2, if_true, ite_self]
          exact SIM.ret (G1 2 (by unfold KR; exact Or.inr (Or.inr (Or.inr (Or.inr (Or.inr (Or.inr ⟨2, by omega, b3, rfl, rfl⟩)))))))
      · have f60 := eq_false (fun z => x60 (e60.mp z))
        have f61 := eq_false (fun z => x61 (e61.mp z))
        have f62 := eq_false (fun z => x62 (e62.mp z))
        have k26 : (nI (ks (c i)) = (26 : Int32)) = False := eq_false (fun z => by
          have z' : nI (ks (c i)) = nI 26 := z
          have hb : ks (c i) < 1000 := by unfold ks; repeat' split
                                          all_goals omega
          have := (eqN (by omega) (by omega)).mp z'
          unfold ks at this
          revert this
          repeat' split
          all_goals omega)
        have k31 : (nI (ks (c i)) = (31 : Int32)) = False := eq_false (fun z => by
          have z' : nI (ks (c i)) = nI 31 := z
          have hb : ks (c i) < 1000 := by unfold ks; repeat' split
                                          all_goals omega
          have := (eqN (by omega) (by omega)).mp z'
          unfold ks at this
          revert this
          repeat' split
          all_goals omega)
        simp only [f60, f61, f62, k26, k31, if_false]
        have kk : ∀ (j : Nat) (kind : Nat), c i = j → ks j = kind → gI sB 10 3 = nI kind := fun j kd h1 h2 => by rw [b3, h1, h2]
        have tl : ∀ j : Nat, c i = j → (j = 59 ∨ j = 40 ∨ j = 41 ∨ j = 43 ∨ j = 45 ∨ j = 42 ∨ j = 47 ∨ j = 37) → KR (gI sB 10 3) (gI sB 10 5) 4 (nI (c i)) := by
          intro j hj h
          unfold KR
          rcases h with rfl | rfl | rfl | rfl | rfl | rfl | rfl | rfl
          · exact Or.inr (Or.inr (Or.inr (Or.inr (Or.inr (Or.inl ⟨rfl, Or.inl ⟨kk _ 23 hj rfl, by rw [hj]; rfl⟩⟩)))))
          · exact Or.inr (Or.inr (Or.inr (Or.inr (Or.inr (Or.inl ⟨rfl, Or.inr (Or.inl ⟨kk _ 24 hj rfl, by rw [hj]; rfl⟩)⟩)))))
          · exact Or.inr (Or.inr (Or.inr (Or.inr (Or.inr (Or.inl ⟨rfl, Or.inr (Or.inr (Or.inl ⟨kk _ 25 hj rfl, by rw [hj]; rfl⟩))⟩)))))
          · exact Or.inr (Or.inr (Or.inr (Or.inr (Or.inr (Or.inl ⟨rfl, Or.inr (Or.inr (Or.inr (Or.inl ⟨kk _ 32 hj rfl, by rw [hj]; rfl⟩)))⟩)))))
          · exact Or.inr (Or.inr (Or.inr (Or.inr (Or.inr (Or.inl ⟨rfl, Or.inr (Or.inr (Or.inr (Or.inr (Or.inl ⟨kk _ 33 hj rfl, by rw [hj]; rfl⟩))))⟩)))))
          · exact Or.inr (Or.inr (Or.inr (Or.inr (Or.inr (Or.inl ⟨rfl, Or.inr (Or.inr (Or.inr (Or.inr (Or.inr (Or.inl ⟨kk _ 34 hj rfl, by rw [hj]; rfl⟩)))))⟩)))))
          · exact Or.inr (Or.inr (Or.inr (Or.inr (Or.inr (Or.inl ⟨rfl, Or.inr (Or.inr (Or.inr (Or.inr (Or.inr (Or.inr ⟨kk _ 35 hj rfl, by rw [hj]; rfl⟩)))))⟩)))))
          · exact Or.inr (Or.inr (Or.inr (Or.inr (Or.inl ⟨kk _ 22 hj rfl, Or.inr ⟨rfl, by rw [hj]; rfl⟩⟩))))
        by_cases a : c i = 59 ∨ c i = 40 ∨ c i = 41 ∨ c i = 43 ∨ c i = 45 ∨ c i = 42 ∨ c i = 47 ∨ c i = 37
        · have hk := tl (c i) rfl a
          have e' : ∀ k, k < 128 → c i = k → nI (c i) = nI k := fun k _ h => by rw [h]
          have G := SIM.ret (Q := fun σB' σM' => GO S i σB σM σB' σM') (G3 4 hk)
          rcases a with a | a | a | a | a | a | a | a
          all_goals
            have z := congrArg nI a
            rw [z]
            simp (decide := true) only [if_true, if_false]
            exact G
        · have nn : ∀ k, k < 128 → c i ≠ k → (nI (c i) = nI k) = False := fun k hk h => eq_false (fun z => h ((e k hk).mp z))
          have z59 : (nI (c i) = (59 : Int32)) = False := nn 59 (by omega) (by omega)
          have z40 : (nI (c i) = (40 : Int32)) = False := nn 40 (by omega) (by omega)
          have z41 : (nI (c i) = (41 : Int32)) = False := nn 41 (by omega) (by omega)
          have z43 : (nI (c i) = (43 : Int32)) = False := nn 43 (by omega) (by omega)
          have z45 : (nI (c i) = (45 : Int32)) = False := nn 45 (by omega) (by omega)
          have z42 : (nI (c i) = (42 : Int32)) = False := nn 42 (by omega) (by omega)
          have z47 : (nI (c i) = (47 : Int32)) = False := nn 47 (by omega) (by omega)
          have z37 : (nI (c i) = (37 : Int32)) = False := nn 37 (by omega) (by omega)
          simp (decide := true) only [z59, z40, z41, z43, z45, z42, z47, z37, if_false, if_true]
          refine SIM.ret (G3 6 ?_)
          unfold KR
          refine Or.inr (Or.inr (Or.inr (Or.inr (Or.inl ⟨?_, Or.inl rfl⟩))))
          rw [b3]
          have : ks (c i) = 22 := by
            unfold ks
            rw [if_neg (by omega), if_neg (by omega), if_neg (by omega), if_neg (by omega), if_neg (by omega), if_neg (by omega), if_neg (by omega), if_neg x60, if_neg x61, if_neg x62]
          rw [this]
          rfl
