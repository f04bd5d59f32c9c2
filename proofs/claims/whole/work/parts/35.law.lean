/-! A LAW's KNOTS: the class's row (laws object of text t) beside the reference's -/
def stepOK (σB σM : St) (t : Bool) (i : Nat) (s s' : List Nat) : Prop :=
  (gA σM 0 32 i = 0 ∧ gA σB (lw t) 0 i = 20 ∧ gA σB (lw t) 1 i = gA σM 0 33 i ∧ s' = i :: s) ∨
  (gA σM 0 32 i = 1 ∧ ∃ k, k < 7 ∧ gA σM 0 33 i = nI k ∧ gA σB (lw t) 0 i = nI (12 + k) ∧ s' = i :: s) ∨
  (gA σM 0 32 i = 2 ∧ gA σB (lw t) 0 i = 11 ∧ ∃ x r, s = x :: r ∧ gA σM 0 33 i = nI x ∧ s' = i :: r) ∨
  (∃ c, 3 ≤ c ∧ c ≤ 14 ∧ gA σM 0 32 i = nI c ∧ gA σB (lw t) 0 i = kB c ∧ ∃ x y r, s = y :: x :: r ∧ gA σM 0 33 i = nI x ∧ gA σM 0 34 i = nI y ∧ s' = i :: r)
def WFp (σB σM : St) (t : Bool) (f u : Nat) : Prop := ∃ hs : Nat → List Nat, hs f = [] ∧ hs u = [u - 1] ∧ ∀ i, f ≤ i → i < u → (∀ j ∈ hs i, f ≤ j ∧ j < i) ∧ (hs i).length ≤ i - f ∧ stepOK σB σM t i (hs i) (hs (i + 1))
theorem inL_32 (x : Int32) : inL x.toInt64 := by
  have := i32rng x
  unfold inL
  rw [Int32.toInt_toInt64]
  omega
theorem mval_leaf0 {σ : St} {i : Nat} (hi : i < 64) (hc : gA σ 0 32 i = 0) : fX10_valueOf σ (nI i) = some ((gA σ 0 33 i).toInt64, σ) := by
  have g1 : ∀ {β : Type} (z : Option β), gd (ixI (nI i) 128) z = z := fun z => gd_pos (ixN (by omega) (by omega))
  simp (decide := true) only [fX10_valueOf, clN (show i < 1000000 by omega), g1, hc, if_true]
theorem mval_leaf1 {σ : St} {i k : Nat} (hi : i < 64) (hc : gA σ 0 32 i = 1) (hx : gA σ 0 33 i = nI k) (hk : k < 7) : fX10_valueOf σ (nI i) = some (gL σ 0 43 k, σ) := by
  have g1 : ∀ {β : Type} (z : Option β), gd (ixI (nI i) 128) z = z := fun z => gd_pos (ixN (by omega) (by omega))
  have g2 : ∀ {β : Type} (z : Option β), gd (ixI (nI k) 7) z = z := fun z => gd_pos (ixN (by omega) (by omega))
  simp (decide := true) only [fX10_valueOf, clN (show i < 1000000 by omega), clN (show k < 1000000 by omega), g1, g2, hc, hx, if_true, if_false]
/-- what a knot is worth, by those ahead of it -/
def stV (σM : St) (i : Nat) (V : Nat → Int64) : Option Int64 :=
  if gA σM 0 32 i = 0 then some (gA σM 0 33 i).toInt64
  else if gA σM 0 32 i = 1 then some (gL σM 0 43 (gA σM 0 33 i).toNatClampNeg)
  else opV (gA σM 0 32 i).toNatClampNeg (V (gA σM 0 33 i).toNatClampNeg) (V (if gA σM 0 32 i = 2 then (gA σM 0 33 i).toNatClampNeg else (gA σM 0 34 i).toNatClampNeg))
/-- what lawOf leaves alone -/
def onlyLaw (σ σ' : St) : Prop := (∀ k, k ≠ 45 → gI σ' 0 k = gI σ 0 k) ∧ gA σ' = gA σ ∧ (∀ k, k ≠ 44 → gL σ' 0 k = gL σ 0 k) ∧ gJ σ' = gJ σ
theorem onlyLaw.rf (σ : St) : onlyLaw σ σ := ⟨fun _ _ => rfl, rfl, fun _ _ => rfl, rfl⟩
theorem only45.law {σ σ' : St} (h : only45 σ σ') : onlyLaw σ σ' := ⟨h.1, h.2.1, fun k _ => by rw [h.2.2.1], h.2.2.2⟩
theorem onlyLaw.tr {a b c : St} (h : onlyLaw a b) (h2 : onlyLaw b c) : onlyLaw a c := ⟨fun k hk => (h2.1 k hk).trans (h.1 k hk), h2.2.1.trans h.2.1, fun k hk => (h2.2.2.1 k hk).trans (h.2.2.1 k hk), h2.2.2.2.trans h.2.2.2⟩
theorem onlyLaw.put (σ : St) (i : Nat) (v : Int64) : onlyLaw σ (sL σ 0 44 i v) := ⟨fun _ _ => rfl, rfl, fun k hk => by simp only [sL, gL_sLr]; rw [if_neg (fun z => hk z.2)], rfl⟩
theorem mstep {σB σ : St} {t : Bool} {i f : Nat} {s s' : List Nat} (hi : i < 64) (hst : stepOK σB σ t i s s') (hs : ∀ j ∈ s, f ≤ j ∧ j < i) (hV : ∀ j, f ≤ j → j < i → inL (gL σ 0 44 j)) (hN : ∀ k, k < 7 → inL (gL σ 0 43 k)) (hE : gI σ 0 45 = 0 ∨ gI σ 0 45 = 1) :
    ∃ q, fX10_valueOf σ (nI i) = some q ∧ only45 σ q.2 ∧ inL q.1 ∧ (gI σ 0 45 = 1 → gI q.2 0 45 = 1) ∧ (gI σ 0 45 = 0 → (∀ v, stV σ i (gL σ 0 44) = some v → q.1 = v ∧ gI q.2 0 45 = 0) ∧ (stV σ i (gL σ 0 44) = none → gI q.2 0 45 = 1)) := by
  rcases hst with ⟨h1, -, -, -⟩ | ⟨h1, k, hk, h2, -, -⟩ | ⟨h1, -, x, r, rfl, h3, -⟩ | ⟨c, hc1, hc2, h1, -, x, y, r, rfl, h3, h4, -⟩
  · refine ⟨_, mval_leaf0 hi h1, only45.rf σ, inL_32 _, fun h => h, fun h0 => ⟨fun v hv => ?_, fun hv => ?_⟩⟩
    · rw [stV, if_pos h1] at hv
      cases hv
      exact ⟨rfl, h0⟩
    · rw [stV, if_pos h1] at hv
      cases hv
  · refine ⟨_, mval_leaf1 hi h1 h2 hk, only45.rf σ, hN k hk, fun h => h, fun h0 => ⟨fun v hv => ?_, fun hv => ?_⟩⟩
    · rw [stV, if_neg (by rw [h1]; decide), if_pos h1, h2, clN (by omega)] at hv
      cases hv
      exact ⟨rfl, h0⟩
    · rw [stV, if_neg (by rw [h1]; decide), if_pos h1] at hv
      cases hv
  · have hx := hs x (by simp)
    obtain ⟨q, e, r1, r2, r3, r4⟩ := mval_op σ i 2 x x hi (by omega) h1 h3 (by omega) (fun h => absurd rfl h) (by omega) hE (hV x hx.1 hx.2) (hV x hx.1 hx.2)
    refine ⟨q, e, r1, r2, r3, fun h0 => ?_⟩
    have es : stV σ i (gL σ 0 44) = opV 2 (gL σ 0 44 x) (gL σ 0 44 x) := by
      rw [stV, if_neg (by rw [h1]; decide), if_neg (by rw [h1]; decide), if_pos h1, h1, h3, clN (by omega)]
      rfl
    rw [es]
    exact r4 h0
  · have hx := hs x (by simp)
    have hy := hs y (by simp)
    obtain ⟨q, e, r1, r2, r3, r4⟩ := mval_op σ i c x y hi (by omega) h1 h3 (by omega) (fun _ => h4) (by omega) hE (hV x hx.1 hx.2) (hV y hy.1 hy.2)
    refine ⟨q, e, r1, r2, r3, fun h0 => ?_⟩
    have n0 : ∀ d : Nat, d < 3 → ¬ gA σ 0 32 i = nI d := fun d hd z => by
      rw [h1, eqN (by omega) (by omega)] at z
      omega
    have es : stV σ i (gL σ 0 44) = opV c (gL σ 0 44 x) (gL σ 0 44 y) := by
      rw [stV, if_neg (show ¬ gA σ 0 32 i = 0 from n0 0 (by omega)), if_neg (show ¬ gA σ 0 32 i = 1 from n0 1 (by omega)), if_neg (show ¬ gA σ 0 32 i = 2 from n0 2 (by omega)), h1, h3, h4, clN (by omega), clN (by omega), clN (by omega)]
    rw [es]
    exact r4 h0
theorem lt_eq {α β : Type} (v : α) (K : α → Option β) : lt v K = K v := Eq.trans rfl rfl
theorem jnx1_eq {A0 β : Type} (J : A0 → Option β) (K : (A0 → Option β) → Option β) : jnx1 J K = K J := Eq.trans rfl rfl
theorem jnx2_eq {A0 A1 β : Type} (J : A0 → A1 → Option β) (K : (A0 → A1 → Option β) → Option β) : jnx2 J K = K J := Eq.trans rfl rfl
theorem jnx3_eq {A0 A1 A2 β : Type} (J : A0 → A1 → A2 → Option β) (K : (A0 → A1 → A2 → Option β) → Option β) : jnx3 J K = K J := Eq.trans rfl rfl
