theorem beq_dec (a b : Nat) : Nat.beq a b = decide (a = b) := by
  cases hb : Nat.beq a b with
  | true => rw [Nat.eq_of_beq_eq_true hb]; simp
  | false => simp [Nat.ne_of_beq_eq_false hb]
theorem gI_sI (σ : St) (o k : Nat) (v : Int32) (o' k' : Nat) : gI (sI σ o k v) o' k' = if o' = o ∧ k' = k then v else gI σ o' k' := by
  unfold gI sI
  simp only [beq_dec]
  by_cases h1 : o' = o <;> by_cases h2 : k' = k <;> simp [h1, h2]
theorem gI_sAr (σ : St) (o k : Nat) (v : Nat → Int32) (o' k' : Nat) : gI (sAr σ o k v) o' k' = gI σ o' k' := rfl
theorem gI_sLr (σ : St) (o k : Nat) (v : Nat → Int64) (o' k' : Nat) : gI (sLr σ o k v) o' k' = gI σ o' k' := rfl
theorem gI_sJ (σ : St) (o k : Nat) (v : Int64) (o' k' : Nat) : gI (sJ σ o k v) o' k' = gI σ o' k' := rfl
theorem gI_sR (σ : St) (k : Nat) (v : Bool) (o' k' : Nat) : gI (sR σ k v) o' k' = gI σ o' k' := rfl
theorem gA_sI (σ : St) (o k : Nat) (v : Int32) (o' k' : Nat) : gA (sI σ o k v) o' k' = gA σ o' k' := rfl
theorem gA_sAr (σ : St) (o k : Nat) (v : Nat → Int32) (o' k' : Nat) : gA (sAr σ o k v) o' k' = if o' = o ∧ k' = k then v else gA σ o' k' := by
  unfold gA sAr
  simp only [beq_dec]
  by_cases h1 : o' = o <;> by_cases h2 : k' = k <;> simp [h1, h2]
theorem gA_sLr (σ : St) (o k : Nat) (v : Nat → Int64) (o' k' : Nat) : gA (sLr σ o k v) o' k' = gA σ o' k' := rfl
theorem gA_sJ (σ : St) (o k : Nat) (v : Int64) (o' k' : Nat) : gA (sJ σ o k v) o' k' = gA σ o' k' := rfl
theorem gA_sR (σ : St) (k : Nat) (v : Bool) (o' k' : Nat) : gA (sR σ k v) o' k' = gA σ o' k' := rfl
theorem gL_sI (σ : St) (o k : Nat) (v : Int32) (o' k' : Nat) : gL (sI σ o k v) o' k' = gL σ o' k' := rfl
theorem gL_sAr (σ : St) (o k : Nat) (v : Nat → Int32) (o' k' : Nat) : gL (sAr σ o k v) o' k' = gL σ o' k' := rfl
theorem gL_sLr (σ : St) (o k : Nat) (v : Nat → Int64) (o' k' : Nat) : gL (sLr σ o k v) o' k' = if o' = o ∧ k' = k then v else gL σ o' k' := by
  unfold gL sLr
  simp only [beq_dec]
  by_cases h1 : o' = o <;> by_cases h2 : k' = k <;> simp [h1, h2]
theorem gL_sJ (σ : St) (o k : Nat) (v : Int64) (o' k' : Nat) : gL (sJ σ o k v) o' k' = gL σ o' k' := rfl
theorem gL_sR (σ : St) (k : Nat) (v : Bool) (o' k' : Nat) : gL (sR σ k v) o' k' = gL σ o' k' := rfl
theorem gJ_sI (σ : St) (o k : Nat) (v : Int32) (o' k' : Nat) : gJ (sI σ o k v) o' k' = gJ σ o' k' := rfl
theorem gJ_sAr (σ : St) (o k : Nat) (v : Nat → Int32) (o' k' : Nat) : gJ (sAr σ o k v) o' k' = gJ σ o' k' := rfl
theorem gJ_sLr (σ : St) (o k : Nat) (v : Nat → Int64) (o' k' : Nat) : gJ (sLr σ o k v) o' k' = gJ σ o' k' := rfl
theorem gJ_sJ (σ : St) (o k : Nat) (v : Int64) (o' k' : Nat) : gJ (sJ σ o k v) o' k' = if o' = o ∧ k' = k then v else gJ σ o' k' := by
  unfold gJ sJ
  simp only [beq_dec]
  by_cases h1 : o' = o <;> by_cases h2 : k' = k <;> simp [h1, h2]
theorem gJ_sR (σ : St) (k : Nat) (v : Bool) (o' k' : Nat) : gJ (sR σ k v) o' k' = gJ σ o' k' := rfl
theorem gR_sI (σ : St) (o k : Nat) (v : Int32) (k' : Nat) : gR (sI σ o k v) k' = gR σ k' := rfl
theorem gR_sAr (σ : St) (o k : Nat) (v : Nat → Int32) (k' : Nat) : gR (sAr σ o k v) k' = gR σ k' := rfl
theorem gR_sLr (σ : St) (o k : Nat) (v : Nat → Int64) (k' : Nat) : gR (sLr σ o k v) k' = gR σ k' := rfl
theorem gR_sJ (σ : St) (o k : Nat) (v : Int64) (k' : Nat) : gR (sJ σ o k v) k' = gR σ k' := rfl
theorem gR_sR (σ : St) (k : Nat) (v : Bool) (k' : Nat) : gR (sR σ k v) k' = if k' = k then v else gR σ k' := by
  unfold gR sR
  simp only [beq_dec]
  by_cases h2 : k' = k <;> simp [h2]
theorem upd_at (f : Nat → Int32) (k : Nat) (x : Int32) (j : Nat) : upd f k x j = if j = k then x else f j := rfl
theorem updL_at (f : Nat → Int64) (k : Nat) (x : Int64) (j : Nat) : vp_updL f k x j = if j = k then x else f j := rfl
/-- two computations come to related ends -/
def SIM {α β : Type} (Q : α → β → Prop) (a : Option α) (b : Option β) : Prop := ∃ x y, a = some x ∧ b = some y ∧ Q x y
theorem SIM.ret {α β : Type} {Q : α → β → Prop} {x : α} {y : β} (h : Q x y) : SIM Q (some x) (some y) := ⟨x, y, rfl, rfl, h⟩
theorem SIM.bind {α β α' β' : Type} {Q : α → β → Prop} {Q' : α' → β' → Prop} {a : Option α'} {b : Option β'} {K : α' → Option α} {K' : β' → Option β} (h : SIM Q' a b) (k : ∀ x y, Q' x y → SIM Q (K x) (K' y)) : SIM Q (a.bind K) (b.bind K') := by
  obtain ⟨x, y, rfl, rfl, h⟩ := h
  exact k x y h
theorem SIM.bindL {α β α' : Type} {Q : α → β → Prop} {a : Option α'} {b : Option β} {K : α' → Option α} {x : α'} (h : a = some x) (k : SIM Q (K x) b) : SIM Q (a.bind K) b := by
  subst h
  exact k
theorem SIM.bindR {α β β' : Type} {Q : α → β → Prop} {a : Option α} {b : Option β'} {K : β' → Option β} {y : β'} (h : b = some y) (k : SIM Q a (K y)) : SIM Q a (b.bind K) := by
  subst h
  exact k
theorem SIM.mono {α β : Type} {Q Q' : α → β → Prop} {a : Option α} {b : Option β} (h : SIM Q a b) (k : ∀ x y, Q x y → Q' x y) : SIM Q' a b := by
  obtain ⟨x, y, h1, h2, h3⟩ := h
  exact ⟨x, y, h1, h2, k x y h3⟩
theorem SIM.ite {α β : Type} {Q : α → β → Prop} {c d : Prop} [Decidable c] [Decidable d] {a a' : Option α} {b b' : Option β} (e : c ↔ d) (h : c → d → SIM Q a b) (h' : ¬ c → ¬ d → SIM Q a' b') : SIM Q (if c then a else a') (if d then b else b') := by
  by_cases hc : c
  · rw [if_pos hc, if_pos (e.mp hc)]; exact h hc (e.mp hc)
  · rw [if_neg hc, if_neg (fun z => hc (e.mpr z))]; exact h' hc (fun z => hc (e.mpr z))
theorem gd_pos {β : Type} {c : Prop} [Decidable c] {x : Option β} (h : c) : gd c x = x := if_pos h
theorem FU_gt {n : Nat} (h : n < 1000000) : n < FU := h
theorem lpx1_wp {A0 β : Type} {F : (A0 → Option β) → A0 → Option β} (T : Option β → Prop) (I : Nat → A0 → Prop) (h : ∀ (j : Nat) (self : A0 → Option β) (a0 : A0), I j a0 → (∀ (j' : Nat) (a0 : A0), j' < j → I j' a0 → T (self a0)) → T (F self a0)) : ∀ (fuel j : Nat) (a0 : A0), j < fuel → I j a0 → T (lpx1 fuel F a0)
  | 0, _, _, hj, _ => absurd hj (Nat.not_lt_zero _)
  | n + 1, j, a0, hj, hi => h j (lpx1 n F) a0 hi (fun j' a0' hj' hi' => lpx1_wp T I h n j' a0' (by omega) hi')
theorem lpx2_wp {A0 A1 β : Type} {F : (A0 → A1 → Option β) → A0 → A1 → Option β} (T : Option β → Prop) (I : Nat → A0 → A1 → Prop) (h : ∀ (j : Nat) (self : A0 → A1 → Option β) (a0 : A0) (a1 : A1), I j a0 a1 → (∀ (j' : Nat) (a0 : A0) (a1 : A1), j' < j → I j' a0 a1 → T (self a0 a1)) → T (F self a0 a1)) : ∀ (fuel j : Nat) (a0 : A0) (a1 : A1), j < fuel → I j a0 a1 → T (lpx2 fuel F a0 a1)
  | 0, _, _, _, hj, _ => absurd hj (Nat.not_lt_zero _)
  | n + 1, j, a0, a1, hj, hi => h j (lpx2 n F) a0 a1 hi (fun j' a0' a1' hj' hi' => lpx2_wp T I h n j' a0' a1' (by omega) hi')
theorem lpx3_wp {A0 A1 A2 β : Type} {F : (A0 → A1 → A2 → Option β) → A0 → A1 → A2 → Option β} (T : Option β → Prop) (I : Nat → A0 → A1 → A2 → Prop) (h : ∀ (j : Nat) (self : A0 → A1 → A2 → Option β) (a0 : A0) (a1 : A1) (a2 : A2), I j a0 a1 a2 → (∀ (j' : Nat) (a0 : A0) (a1 : A1) (a2 : A2), j' < j → I j' a0 a1 a2 → T (self a0 a1 a2)) → T (F self a0 a1 a2)) : ∀ (fuel j : Nat) (a0 : A0) (a1 : A1) (a2 : A2), j < fuel → I j a0 a1 a2 → T (lpx3 fuel F a0 a1 a2)
  | 0, _, _, _, _, hj, _ => absurd hj (Nat.not_lt_zero _)
  | n + 1, j, a0, a1, a2, hj, hi => h j (lpx3 n F) a0 a1 a2 hi (fun j' a0' a1' a2' hj' hi' => lpx3_wp T I h n j' a0' a1' a2' (by omega) hi')
theorem lpx4_wp {A0 A1 A2 A3 β : Type} {F : (A0 → A1 → A2 → A3 → Option β) → A0 → A1 → A2 → A3 → Option β} (T : Option β → Prop) (I : Nat → A0 → A1 → A2 → A3 → Prop) (h : ∀ (j : Nat) (self : A0 → A1 → A2 → A3 → Option β) (a0 : A0) (a1 : A1) (a2 : A2) (a3 : A3), I j a0 a1 a2 a3 → (∀ (j' : Nat) (a0 : A0) (a1 : A1) (a2 : A2) (a3 : A3), j' < j → I j' a0 a1 a2 a3 → T (self a0 a1 a2 a3)) → T (F self a0 a1 a2 a3)) : ∀ (fuel j : Nat) (a0 : A0) (a1 : A1) (a2 : A2) (a3 : A3), j < fuel → I j a0 a1 a2 a3 → T (lpx4 fuel F a0 a1 a2 a3)
  | 0, _, _, _, _, _, hj, _ => absurd hj (Nat.not_lt_zero _)
  | n + 1, j, a0, a1, a2, a3, hj, hi => h j (lpx4 n F) a0 a1 a2 a3 hi (fun j' a0' a1' a2' a3' hj' hi' => lpx4_wp T I h n j' a0' a1' a2' a3' (by omega) hi')
theorem lpx5_wp {A0 A1 A2 A3 A4 β : Type} {F : (A0 → A1 → A2 → A3 → A4 → Option β) → A0 → A1 → A2 → A3 → A4 → Option β} (T : Option β → Prop) (I : Nat → A0 → A1 → A2 → A3 → A4 → Prop) (h : ∀ (j : Nat) (self : A0 → A1 → A2 → A3 → A4 → Option β) (a0 : A0) (a1 : A1) (a2 : A2) (a3 : A3) (a4 : A4), I j a0 a1 a2 a3 a4 → (∀ (j' : Nat) (a0 : A0) (a1 : A1) (a2 : A2) (a3 : A3) (a4 : A4), j' < j → I j' a0 a1 a2 a3 a4 → T (self a0 a1 a2 a3 a4)) → T (F self a0 a1 a2 a3 a4)) : ∀ (fuel j : Nat) (a0 : A0) (a1 : A1) (a2 : A2) (a3 : A3) (a4 : A4), j < fuel → I j a0 a1 a2 a3 a4 → T (lpx5 fuel F a0 a1 a2 a3 a4)
  | 0, _, _, _, _, _, _, hj, _ => absurd hj (Nat.not_lt_zero _)
  | n + 1, j, a0, a1, a2, a3, a4, hj, hi => h j (lpx5 n F) a0 a1 a2 a3 a4 hi (fun j' a0' a1' a2' a3' a4' hj' hi' => lpx5_wp T I h n j' a0' a1' a2' a3' a4' (by omega) hi')
theorem lpx6_wp {A0 A1 A2 A3 A4 A5 β : Type} {F : (A0 → A1 → A2 → A3 → A4 → A5 → Option β) → A0 → A1 → A2 → A3 → A4 → A5 → Option β} (T : Option β → Prop) (I : Nat → A0 → A1 → A2 → A3 → A4 → A5 → Prop) (h : ∀ (j : Nat) (self : A0 → A1 → A2 → A3 → A4 → A5 → Option β) (a0 : A0) (a1 : A1) (a2 : A2) (a3 : A3) (a4 : A4) (a5 : A5), I j a0 a1 a2 a3 a4 a5 → (∀ (j' : Nat) (a0 : A0) (a1 : A1) (a2 : A2) (a3 : A3) (a4 : A4) (a5 : A5), j' < j → I j' a0 a1 a2 a3 a4 a5 → T (self a0 a1 a2 a3 a4 a5)) → T (F self a0 a1 a2 a3 a4 a5)) : ∀ (fuel j : Nat) (a0 : A0) (a1 : A1) (a2 : A2) (a3 : A3) (a4 : A4) (a5 : A5), j < fuel → I j a0 a1 a2 a3 a4 a5 → T (lpx6 fuel F a0 a1 a2 a3 a4 a5)
  | 0, _, _, _, _, _, _, _, hj, _ => absurd hj (Nat.not_lt_zero _)
  | n + 1, j, a0, a1, a2, a3, a4, a5, hj, hi => h j (lpx6 n F) a0 a1 a2 a3 a4 a5 hi (fun j' a0' a1' a2' a3' a4' a5' hj' hi' => lpx6_wp T I h n j' a0' a1' a2' a3' a4' a5' (by omega) hi')
theorem simlp1_1 {A0 B0 α β : Type} {F : (A0 → Option α) → A0 → Option α} {G : (B0 → Option β) → B0 → Option β} (Q : α → β → Prop) (I : Nat → A0 → B0 → Prop) (h : ∀ (j : Nat) (sF : A0 → Option α) (sG : B0 → Option β) (a0 : A0) (b0 : B0), I j a0 b0 → (∀ (j' : Nat) (a0 : A0) (b0 : B0), j' < j → I j' a0 b0 → SIM Q (sF a0) (sG b0)) → SIM Q (F sF a0) (G sG b0)) : ∀ (f f' j : Nat) (a0 : A0) (b0 : B0), j < f → j < f' → I j a0 b0 → SIM Q (lpx1 f F a0) (lpx1 f' G b0)
  | 0, _, _, _, _, hj, _, _ => absurd hj (Nat.not_lt_zero _)
  | _, 0, _, _, _, _, hj, _ => absurd hj (Nat.not_lt_zero _)
  | f + 1, f' + 1, j, a0, b0, hj, hj2, hi => h j (lpx1 f F) (lpx1 f' G) a0 b0 hi (fun j' a0' b0' hj' hi' => simlp1_1 Q I h f f' j' a0' b0' (by omega) (by omega) hi')
theorem simlp1_2 {A0 B0 B1 α β : Type} {F : (A0 → Option α) → A0 → Option α} {G : (B0 → B1 → Option β) → B0 → B1 → Option β} (Q : α → β → Prop) (I : Nat → A0 → B0 → B1 → Prop) (h : ∀ (j : Nat) (sF : A0 → Option α) (sG : B0 → B1 → Option β) (a0 : A0) (b0 : B0) (b1 : B1), I j a0 b0 b1 → (∀ (j' : Nat) (a0 : A0) (b0 : B0) (b1 : B1), j' < j → I j' a0 b0 b1 → SIM Q (sF a0) (sG b0 b1)) → SIM Q (F sF a0) (G sG b0 b1)) : ∀ (f f' j : Nat) (a0 : A0) (b0 : B0) (b1 : B1), j < f → j < f' → I j a0 b0 b1 → SIM Q (lpx1 f F a0) (lpx2 f' G b0 b1)
  | 0, _, _, _, _, _, hj, _, _ => absurd hj (Nat.not_lt_zero _)
  | _, 0, _, _, _, _, _, hj, _ => absurd hj (Nat.not_lt_zero _)
  | f + 1, f' + 1, j, a0, b0, b1, hj, hj2, hi => h j (lpx1 f F) (lpx2 f' G) a0 b0 b1 hi (fun j' a0' b0' b1' hj' hi' => simlp1_2 Q I h f f' j' a0' b0' b1' (by omega) (by omega) hi')
theorem simlp1_3 {A0 B0 B1 B2 α β : Type} {F : (A0 → Option α) → A0 → Option α} {G : (B0 → B1 → B2 → Option β) → B0 → B1 → B2 → Option β} (Q : α → β → Prop) (I : Nat → A0 → B0 → B1 → B2 → Prop) (h : ∀ (j : Nat) (sF : A0 → Option α) (sG : B0 → B1 → B2 → Option β) (a0 : A0) (b0 : B0) (b1 : B1) (b2 : B2), I j a0 b0 b1 b2 → (∀ (j' : Nat) (a0 : A0) (b0 : B0) (b1 : B1) (b2 : B2), j' < j → I j' a0 b0 b1 b2 → SIM Q (sF a0) (sG b0 b1 b2)) → SIM Q (F sF a0) (G sG b0 b1 b2)) : ∀ (f f' j : Nat) (a0 : A0) (b0 : B0) (b1 : B1) (b2 : B2), j < f → j < f' → I j a0 b0 b1 b2 → SIM Q (lpx1 f F a0) (lpx3 f' G b0 b1 b2)
  | 0, _, _, _, _, _, _, hj, _, _ => absurd hj (Nat.not_lt_zero _)
  | _, 0, _, _, _, _, _, _, hj, _ => absurd hj (Nat.not_lt_zero _)
  | f + 1, f' + 1, j, a0, b0, b1, b2, hj, hj2, hi => h j (lpx1 f F) (lpx3 f' G) a0 b0 b1 b2 hi (fun j' a0' b0' b1' b2' hj' hi' => simlp1_3 Q I h f f' j' a0' b0' b1' b2' (by omega) (by omega) hi')
theorem simlp1_4 {A0 B0 B1 B2 B3 α β : Type} {F : (A0 → Option α) → A0 → Option α} {G : (B0 → B1 → B2 → B3 → Option β) → B0 → B1 → B2 → B3 → Option β} (Q : α → β → Prop) (I : Nat → A0 → B0 → B1 → B2 → B3 → Prop) (h : ∀ (j : Nat) (sF : A0 → Option α) (sG : B0 → B1 → B2 → B3 → Option β) (a0 : A0) (b0 : B0) (b1 : B1) (b2 : B2) (b3 : B3), I j a0 b0 b1 b2 b3 → (∀ (j' : Nat) (a0 : A0) (b0 : B0) (b1 : B1) (b2 : B2) (b3 : B3), j' < j → I j' a0 b0 b1 b2 b3 → SIM Q (sF a0) (sG b0 b1 b2 b3)) → SIM Q (F sF a0) (G sG b0 b1 b2 b3)) : ∀ (f f' j : Nat) (a0 : A0) (b0 : B0) (b1 : B1) (b2 : B2) (b3 : B3), j < f → j < f' → I j a0 b0 b1 b2 b3 → SIM Q (lpx1 f F a0) (lpx4 f' G b0 b1 b2 b3)
  | 0, _, _, _, _, _, _, _, hj, _, _ => absurd hj (Nat.not_lt_zero _)
  | _, 0, _, _, _, _, _, _, _, hj, _ => absurd hj (Nat.not_lt_zero _)
  | f + 1, f' + 1, j, a0, b0, b1, b2, b3, hj, hj2, hi => h j (lpx1 f F) (lpx4 f' G) a0 b0 b1 b2 b3 hi (fun j' a0' b0' b1' b2' b3' hj' hi' => simlp1_4 Q I h f f' j' a0' b0' b1' b2' b3' (by omega) (by omega) hi')
theorem simlp2_1 {A0 A1 B0 α β : Type} {F : (A0 → A1 → Option α) → A0 → A1 → Option α} {G : (B0 → Option β) → B0 → Option β} (Q : α → β → Prop) (I : Nat → A0 → A1 → B0 → Prop) (h : ∀ (j : Nat) (sF : A0 → A1 → Option α) (sG : B0 → Option β) (a0 : A0) (a1 : A1) (b0 : B0), I j a0 a1 b0 → (∀ (j' : Nat) (a0 : A0) (a1 : A1) (b0 : B0), j' < j → I j' a0 a1 b0 → SIM Q (sF a0 a1) (sG b0)) → SIM Q (F sF a0 a1) (G sG b0)) : ∀ (f f' j : Nat) (a0 : A0) (a1 : A1) (b0 : B0), j < f → j < f' → I j a0 a1 b0 → SIM Q (lpx2 f F a0 a1) (lpx1 f' G b0)
  | 0, _, _, _, _, _, hj, _, _ => absurd hj (Nat.not_lt_zero _)
  | _, 0, _, _, _, _, _, hj, _ => absurd hj (Nat.not_lt_zero _)
  | f + 1, f' + 1, j, a0, a1, b0, hj, hj2, hi => h j (lpx2 f F) (lpx1 f' G) a0 a1 b0 hi (fun j' a0' a1' b0' hj' hi' => simlp2_1 Q I h f f' j' a0' a1' b0' (by omega) (by omega) hi')
theorem simlp2_2 {A0 A1 B0 B1 α β : Type} {F : (A0 → A1 → Option α) → A0 → A1 → Option α} {G : (B0 → B1 → Option β) → B0 → B1 → Option β} (Q : α → β → Prop) (I : Nat → A0 → A1 → B0 → B1 → Prop) (h : ∀ (j : Nat) (sF : A0 → A1 → Option α) (sG : B0 → B1 → Option β) (a0 : A0) (a1 : A1) (b0 : B0) (b1 : B1), I j a0 a1 b0 b1 → (∀ (j' : Nat) (a0 : A0) (a1 : A1) (b0 : B0) (b1 : B1), j' < j → I j' a0 a1 b0 b1 → SIM Q (sF a0 a1) (sG b0 b1)) → SIM Q (F sF a0 a1) (G sG b0 b1)) : ∀ (f f' j : Nat) (a0 : A0) (a1 : A1) (b0 : B0) (b1 : B1), j < f → j < f' → I j a0 a1 b0 b1 → SIM Q (lpx2 f F a0 a1) (lpx2 f' G b0 b1)
  | 0, _, _, _, _, _, _, hj, _, _ => absurd hj (Nat.not_lt_zero _)
  | _, 0, _, _, _, _, _, _, hj, _ => absurd hj (Nat.not_lt_zero _)
  | f + 1, f' + 1, j, a0, a1, b0, b1, hj, hj2, hi => h j (lpx2 f F) (lpx2 f' G) a0 a1 b0 b1 hi (fun j' a0' a1' b0' b1' hj' hi' => simlp2_2 Q I h f f' j' a0' a1' b0' b1' (by omega) (by omega) hi')
theorem simlp2_3 {A0 A1 B0 B1 B2 α β : Type} {F : (A0 → A1 → Option α) → A0 → A1 → Option α} {G : (B0 → B1 → B2 → Option β) → B0 → B1 → B2 → Option β} (Q : α → β → Prop) (I : Nat → A0 → A1 → B0 → B1 → B2 → Prop) (h : ∀ (j : Nat) (sF : A0 → A1 → Option α) (sG : B0 → B1 → B2 → Option β) (a0 : A0) (a1 : A1) (b0 : B0) (b1 : B1) (b2 : B2), I j a0 a1 b0 b1 b2 → (∀ (j' : Nat) (a0 : A0) (a1 : A1) (b0 : B0) (b1 : B1) (b2 : B2), j' < j → I j' a0 a1 b0 b1 b2 → SIM Q (sF a0 a1) (sG b0 b1 b2)) → SIM Q (F sF a0 a1) (G sG b0 b1 b2)) : ∀ (f f' j : Nat) (a0 : A0) (a1 : A1) (b0 : B0) (b1 : B1) (b2 : B2), j < f → j < f' → I j a0 a1 b0 b1 b2 → SIM Q (lpx2 f F a0 a1) (lpx3 f' G b0 b1 b2)
  | 0, _, _, _, _, _, _, _, hj, _, _ => absurd hj (Nat.not_lt_zero _)
  | _, 0, _, _, _, _, _, _, _, hj, _ => absurd hj (Nat.not_lt_zero _)
  | f + 1, f' + 1, j, a0, a1, b0, b1, b2, hj, hj2, hi => h j (lpx2 f F) (lpx3 f' G) a0 a1 b0 b1 b2 hi (fun j' a0' a1' b0' b1' b2' hj' hi' => simlp2_3 Q I h f f' j' a0' a1' b0' b1' b2' (by omega) (by omega) hi')
theorem simlp2_4 {A0 A1 B0 B1 B2 B3 α β : Type} {F : (A0 → A1 → Option α) → A0 → A1 → Option α} {G : (B0 → B1 → B2 → B3 → Option β) → B0 → B1 → B2 → B3 → Option β} (Q : α → β → Prop) (I : Nat → A0 → A1 → B0 → B1 → B2 → B3 → Prop) (h : ∀ (j : Nat) (sF : A0 → A1 → Option α) (sG : B0 → B1 → B2 → B3 → Option β) (a0 : A0) (a1 : A1) (b0 : B0) (b1 : B1) (b2 : B2) (b3 : B3), I j a0 a1 b0 b1 b2 b3 → (∀ (j' : Nat) (a0 : A0) (a1 : A1) (b0 : B0) (b1 : B1) (b2 : B2) (b3 : B3), j' < j → I j' a0 a1 b0 b1 b2 b3 → SIM Q (sF a0 a1) (sG b0 b1 b2 b3)) → SIM Q (F sF a0 a1) (G sG b0 b1 b2 b3)) : ∀ (f f' j : Nat) (a0 : A0) (a1 : A1) (b0 : B0) (b1 : B1) (b2 : B2) (b3 : B3), j < f → j < f' → I j a0 a1 b0 b1 b2 b3 → SIM Q (lpx2 f F a0 a1) (lpx4 f' G b0 b1 b2 b3)
  | 0, _, _, _, _, _, _, _, _, hj, _, _ => absurd hj (Nat.not_lt_zero _)
  | _, 0, _, _, _, _, _, _, _, _, hj, _ => absurd hj (Nat.not_lt_zero _)
  | f + 1, f' + 1, j, a0, a1, b0, b1, b2, b3, hj, hj2, hi => h j (lpx2 f F) (lpx4 f' G) a0 a1 b0 b1 b2 b3 hi (fun j' a0' a1' b0' b1' b2' b3' hj' hi' => simlp2_4 Q I h f f' j' a0' a1' b0' b1' b2' b3' (by omega) (by omega) hi')
theorem simlp3_1 {A0 A1 A2 B0 α β : Type} {F : (A0 → A1 → A2 → Option α) → A0 → A1 → A2 → Option α} {G : (B0 → Option β) → B0 → Option β} (Q : α → β → Prop) (I : Nat → A0 → A1 → A2 → B0 → Prop) (h : ∀ (j : Nat) (sF : A0 → A1 → A2 → Option α) (sG : B0 → Option β) (a0 : A0) (a1 : A1) (a2 : A2) (b0 : B0), I j a0 a1 a2 b0 → (∀ (j' : Nat) (a0 : A0) (a1 : A1) (a2 : A2) (b0 : B0), j' < j → I j' a0 a1 a2 b0 → SIM Q (sF a0 a1 a2) (sG b0)) → SIM Q (F sF a0 a1 a2) (G sG b0)) : ∀ (f f' j : Nat) (a0 : A0) (a1 : A1) (a2 : A2) (b0 : B0), j < f → j < f' → I j a0 a1 a2 b0 → SIM Q (lpx3 f F a0 a1 a2) (lpx1 f' G b0)
  | 0, _, _, _, _, _, _, hj, _, _ => absurd hj (Nat.not_lt_zero _)
  | _, 0, _, _, _, _, _, _, hj, _ => absurd hj (Nat.not_lt_zero _)
  | f + 1, f' + 1, j, a0, a1, a2, b0, hj, hj2, hi => h j (lpx3 f F) (lpx1 f' G) a0 a1 a2 b0 hi (fun j' a0' a1' a2' b0' hj' hi' => simlp3_1 Q I h f f' j' a0' a1' a2' b0' (by omega) (by omega) hi')
theorem simlp3_2 {A0 A1 A2 B0 B1 α β : Type} {F : (A0 → A1 → A2 → Option α) → A0 → A1 → A2 → Option α} {G : (B0 → B1 → Option β) → B0 → B1 → Option β} (Q : α → β → Prop) (I : Nat → A0 → A1 → A2 → B0 → B1 → Prop) (h : ∀ (j : Nat) (sF : A0 → A1 → A2 → Option α) (sG : B0 → B1 → Option β) (a0 : A0) (a1 : A1) (a2 : A2) (b0 : B0) (b1 : B1), I j a0 a1 a2 b0 b1 → (∀ (j' : Nat) (a0 : A0) (a1 : A1) (a2 : A2) (b0 : B0) (b1 : B1), j' < j → I j' a0 a1 a2 b0 b1 → SIM Q (sF a0 a1 a2) (sG b0 b1)) → SIM Q (F sF a0 a1 a2) (G sG b0 b1)) : ∀ (f f' j : Nat) (a0 : A0) (a1 : A1) (a2 : A2) (b0 : B0) (b1 : B1), j < f → j < f' → I j a0 a1 a2 b0 b1 → SIM Q (lpx3 f F a0 a1 a2) (lpx2 f' G b0 b1)
  | 0, _, _, _, _, _, _, _, hj, _, _ => absurd hj (Nat.not_lt_zero _)
  | _, 0, _, _, _, _, _, _, _, hj, _ => absurd hj (Nat.not_lt_zero _)
  | f + 1, f' + 1, j, a0, a1, a2, b0, b1, hj, hj2, hi => h j (lpx3 f F) (lpx2 f' G) a0 a1 a2 b0 b1 hi (fun j' a0' a1' a2' b0' b1' hj' hi' => simlp3_2 Q I h f f' j' a0' a1' a2' b0' b1' (by omega) (by omega) hi')
theorem simlp3_3 {A0 A1 A2 B0 B1 B2 α β : Type} {F : (A0 → A1 → A2 → Option α) → A0 → A1 → A2 → Option α} {G : (B0 → B1 → B2 → Option β) → B0 → B1 → B2 → Option β} (Q : α → β → Prop) (I : Nat → A0 → A1 → A2 → B0 → B1 → B2 → Prop) (h : ∀ (j : Nat) (sF : A0 → A1 → A2 → Option α) (sG : B0 → B1 → B2 → Option β) (a0 : A0) (a1 : A1) (a2 : A2) (b0 : B0) (b1 : B1) (b2 : B2), I j a0 a1 a2 b0 b1 b2 → (∀ (j' : Nat) (a0 : A0) (a1 : A1) (a2 : A2) (b0 : B0) (b1 : B1) (b2 : B2), j' < j → I j' a0 a1 a2 b0 b1 b2 → SIM Q (sF a0 a1 a2) (sG b0 b1 b2)) → SIM Q (F sF a0 a1 a2) (G sG b0 b1 b2)) : ∀ (f f' j : Nat) (a0 : A0) (a1 : A1) (a2 : A2) (b0 : B0) (b1 : B1) (b2 : B2), j < f → j < f' → I j a0 a1 a2 b0 b1 b2 → SIM Q (lpx3 f F a0 a1 a2) (lpx3 f' G b0 b1 b2)
  | 0, _, _, _, _, _, _, _, _, hj, _, _ => absurd hj (Nat.not_lt_zero _)
  | _, 0, _, _, _, _, _, _, _, _, hj, _ => absurd hj (Nat.not_lt_zero _)
  | f + 1, f' + 1, j, a0, a1, a2, b0, b1, b2, hj, hj2, hi => h j (lpx3 f F) (lpx3 f' G) a0 a1 a2 b0 b1 b2 hi (fun j' a0' a1' a2' b0' b1' b2' hj' hi' => simlp3_3 Q I h f f' j' a0' a1' a2' b0' b1' b2' (by omega) (by omega) hi')
theorem simlp3_4 {A0 A1 A2 B0 B1 B2 B3 α β : Type} {F : (A0 → A1 → A2 → Option α) → A0 → A1 → A2 → Option α} {G : (B0 → B1 → B2 → B3 → Option β) → B0 → B1 → B2 → B3 → Option β} (Q : α → β → Prop) (I : Nat → A0 → A1 → A2 → B0 → B1 → B2 → B3 → Prop) (h : ∀ (j : Nat) (sF : A0 → A1 → A2 → Option α) (sG : B0 → B1 → B2 → B3 → Option β) (a0 : A0) (a1 : A1) (a2 : A2) (b0 : B0) (b1 : B1) (b2 : B2) (b3 : B3), I j a0 a1 a2 b0 b1 b2 b3 → (∀ (j' : Nat) (a0 : A0) (a1 : A1) (a2 : A2) (b0 : B0) (b1 : B1) (b2 : B2) (b3 : B3), j' < j → I j' a0 a1 a2 b0 b1 b2 b3 → SIM Q (sF a0 a1 a2) (sG b0 b1 b2 b3)) → SIM Q (F sF a0 a1 a2) (G sG b0 b1 b2 b3)) : ∀ (f f' j : Nat) (a0 : A0) (a1 : A1) (a2 : A2) (b0 : B0) (b1 : B1) (b2 : B2) (b3 : B3), j < f → j < f' → I j a0 a1 a2 b0 b1 b2 b3 → SIM Q (lpx3 f F a0 a1 a2) (lpx4 f' G b0 b1 b2 b3)
  | 0, _, _, _, _, _, _, _, _, _, hj, _, _ => absurd hj (Nat.not_lt_zero _)
  | _, 0, _, _, _, _, _, _, _, _, _, hj, _ => absurd hj (Nat.not_lt_zero _)
  | f + 1, f' + 1, j, a0, a1, a2, b0, b1, b2, b3, hj, hj2, hi => h j (lpx3 f F) (lpx4 f' G) a0 a1 a2 b0 b1 b2 b3 hi (fun j' a0' a1' a2' b0' b1' b2' b3' hj' hi' => simlp3_4 Q I h f f' j' a0' a1' a2' b0' b1' b2' b3' (by omega) (by omega) hi')
theorem simlp4_1 {A0 A1 A2 A3 B0 α β : Type} {F : (A0 → A1 → A2 → A3 → Option α) → A0 → A1 → A2 → A3 → Option α} {G : (B0 → Option β) → B0 → Option β} (Q : α → β → Prop) (I : Nat → A0 → A1 → A2 → A3 → B0 → Prop) (h : ∀ (j : Nat) (sF : A0 → A1 → A2 → A3 → Option α) (sG : B0 → Option β) (a0 : A0) (a1 : A1) (a2 : A2) (a3 : A3) (b0 : B0), I j a0 a1 a2 a3 b0 → (∀ (j' : Nat) (a0 : A0) (a1 : A1) (a2 : A2) (a3 : A3) (b0 : B0), j' < j → I j' a0 a1 a2 a3 b0 → SIM Q (sF a0 a1 a2 a3) (sG b0)) → SIM Q (F sF a0 a1 a2 a3) (G sG b0)) : ∀ (f f' j : Nat) (a0 : A0) (a1 : A1) (a2 : A2) (a3 : A3) (b0 : B0), j < f → j < f' → I j a0 a1 a2 a3 b0 → SIM Q (lpx4 f F a0 a1 a2 a3) (lpx1 f' G b0)
  | 0, _, _, _, _, _, _, _, hj, _, _ => absurd hj (Nat.not_lt_zero _)
  | _, 0, _, _, _, _, _, _, _, hj, _ => absurd hj (Nat.not_lt_zero _)
  | f + 1, f' + 1, j, a0, a1, a2, a3, b0, hj, hj2, hi => h j (lpx4 f F) (lpx1 f' G) a0 a1 a2 a3 b0 hi (fun j' a0' a1' a2' a3' b0' hj' hi' => simlp4_1 Q I h f f' j' a0' a1' a2' a3' b0' (by omega) (by omega) hi')
theorem simlp4_2 {A0 A1 A2 A3 B0 B1 α β : Type} {F : (A0 → A1 → A2 → A3 → Option α) → A0 → A1 → A2 → A3 → Option α} {G : (B0 → B1 → Option β) → B0 → B1 → Option β} (Q : α → β → Prop) (I : Nat → A0 → A1 → A2 → A3 → B0 → B1 → Prop) (h : ∀ (j : Nat) (sF : A0 → A1 → A2 → A3 → Option α) (sG : B0 → B1 → Option β) (a0 : A0) (a1 : A1) (a2 : A2) (a3 : A3) (b0 : B0) (b1 : B1), I j a0 a1 a2 a3 b0 b1 → (∀ (j' : Nat) (a0 : A0) (a1 : A1) (a2 : A2) (a3 : A3) (b0 : B0) (b1 : B1), j' < j → I j' a0 a1 a2 a3 b0 b1 → SIM Q (sF a0 a1 a2 a3) (sG b0 b1)) → SIM Q (F sF a0 a1 a2 a3) (G sG b0 b1)) : ∀ (f f' j : Nat) (a0 : A0) (a1 : A1) (a2 : A2) (a3 : A3) (b0 : B0) (b1 : B1), j < f → j < f' → I j a0 a1 a2 a3 b0 b1 → SIM Q (lpx4 f F a0 a1 a2 a3) (lpx2 f' G b0 b1)
  | 0, _, _, _, _, _, _, _, _, hj, _, _ => absurd hj (Nat.not_lt_zero _)
  | _, 0, _, _, _, _, _, _, _, _, hj, _ => absurd hj (Nat.not_lt_zero _)
  | f + 1, f' + 1, j, a0, a1, a2, a3, b0, b1, hj, hj2, hi => h j (lpx4 f F) (lpx2 f' G) a0 a1 a2 a3 b0 b1 hi (fun j' a0' a1' a2' a3' b0' b1' hj' hi' => simlp4_2 Q I h f f' j' a0' a1' a2' a3' b0' b1' (by omega) (by omega) hi')
theorem simlp4_3 {A0 A1 A2 A3 B0 B1 B2 α β : Type} {F : (A0 → A1 → A2 → A3 → Option α) → A0 → A1 → A2 → A3 → Option α} {G : (B0 → B1 → B2 → Option β) → B0 → B1 → B2 → Option β} (Q : α → β → Prop) (I : Nat → A0 → A1 → A2 → A3 → B0 → B1 → B2 → Prop) (h : ∀ (j : Nat) (sF : A0 → A1 → A2 → A3 → Option α) (sG : B0 → B1 → B2 → Option β) (a0 : A0) (a1 : A1) (a2 : A2) (a3 : A3) (b0 : B0) (b1 : B1) (b2 : B2), I j a0 a1 a2 a3 b0 b1 b2 → (∀ (j' : Nat) (a0 : A0) (a1 : A1) (a2 : A2) (a3 : A3) (b0 : B0) (b1 : B1) (b2 : B2), j' < j → I j' a0 a1 a2 a3 b0 b1 b2 → SIM Q (sF a0 a1 a2 a3) (sG b0 b1 b2)) → SIM Q (F sF a0 a1 a2 a3) (G sG b0 b1 b2)) : ∀ (f f' j : Nat) (a0 : A0) (a1 : A1) (a2 : A2) (a3 : A3) (b0 : B0) (b1 : B1) (b2 : B2), j < f → j < f' → I j a0 a1 a2 a3 b0 b1 b2 → SIM Q (lpx4 f F a0 a1 a2 a3) (lpx3 f' G b0 b1 b2)
  | 0, _, _, _, _, _, _, _, _, _, hj, _, _ => absurd hj (Nat.not_lt_zero _)
  | _, 0, _, _, _, _, _, _, _, _, _, hj, _ => absurd hj (Nat.not_lt_zero _)
  | f + 1, f' + 1, j, a0, a1, a2, a3, b0, b1, b2, hj, hj2, hi => h j (lpx4 f F) (lpx3 f' G) a0 a1 a2 a3 b0 b1 b2 hi (fun j' a0' a1' a2' a3' b0' b1' b2' hj' hi' => simlp4_3 Q I h f f' j' a0' a1' a2' a3' b0' b1' b2' (by omega) (by omega) hi')
theorem simlp4_4 {A0 A1 A2 A3 B0 B1 B2 B3 α β : Type} {F : (A0 → A1 → A2 → A3 → Option α) → A0 → A1 → A2 → A3 → Option α} {G : (B0 → B1 → B2 → B3 → Option β) → B0 → B1 → B2 → B3 → Option β} (Q : α → β → Prop) (I : Nat → A0 → A1 → A2 → A3 → B0 → B1 → B2 → B3 → Prop) (h : ∀ (j : Nat) (sF : A0 → A1 → A2 → A3 → Option α) (sG : B0 → B1 → B2 → B3 → Option β) (a0 : A0) (a1 : A1) (a2 : A2) (a3 : A3) (b0 : B0) (b1 : B1) (b2 : B2) (b3 : B3), I j a0 a1 a2 a3 b0 b1 b2 b3 → (∀ (j' : Nat) (a0 : A0) (a1 : A1) (a2 : A2) (a3 : A3) (b0 : B0) (b1 : B1) (b2 : B2) (b3 : B3), j' < j → I j' a0 a1 a2 a3 b0 b1 b2 b3 → SIM Q (sF a0 a1 a2 a3) (sG b0 b1 b2 b3)) → SIM Q (F sF a0 a1 a2 a3) (G sG b0 b1 b2 b3)) : ∀ (f f' j : Nat) (a0 : A0) (a1 : A1) (a2 : A2) (a3 : A3) (b0 : B0) (b1 : B1) (b2 : B2) (b3 : B3), j < f → j < f' → I j a0 a1 a2 a3 b0 b1 b2 b3 → SIM Q (lpx4 f F a0 a1 a2 a3) (lpx4 f' G b0 b1 b2 b3)
  | 0, _, _, _, _, _, _, _, _, _, _, hj, _, _ => absurd hj (Nat.not_lt_zero _)
  | _, 0, _, _, _, _, _, _, _, _, _, _, hj, _ => absurd hj (Nat.not_lt_zero _)
  | f + 1, f' + 1, j, a0, a1, a2, a3, b0, b1, b2, b3, hj, hj2, hi => h j (lpx4 f F) (lpx4 f' G) a0 a1 a2 a3 b0 b1 b2 b3 hi (fun j' a0' a1' a2' a3' b0' b1' b2' b3' hj' hi' => simlp4_4 Q I h f f' j' a0' a1' a2' a3' b0' b1' b2' b3' (by omega) (by omega) hi')
