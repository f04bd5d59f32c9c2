/-- the token at place p -/
def TKp (S p : Nat) (σB σM : St) : Prop := ∃ i', p ≤ i' ∧ i' ≤ S ∧ gI σB 10 2 = nI i' ∧ gI σM 0 7 = nI i' ∧ gI σB 10 4 = nI p ∧ gI σM 0 10 = nI p ∧ KR (gI σB 10 3) (gI σB 10 5) (gI σM 0 8) (gI σM 0 9) ∧ (gI σB 10 3 = 21 ∨ p < i')
theorem TKp.cg {S p : Nat} {a b a' b' : St} (h : TKp S p a b) (hB : ∀ k, 2 ≤ k → k ≤ 5 → gI a' 10 k = gI a 10 k) (hM : ∀ k, 7 ≤ k → k ≤ 10 → gI b' 0 k = gI b 0 k) : TKp S p a' b' := by
  unfold TKp at *
  rw [hB 2 (by omega) (by omega), hB 3 (by omega) (by omega), hB 4 (by omega) (by omega), hB 5 (by omega) (by omega), hM 7 (by omega) (by omega), hM 8 (by omega) (by omega), hM 9 (by omega) (by omega), hM 10 (by omega) (by omega)]
  exact h
theorem adv2 {c : Nat → Nat} {S p : Nat} {a b : St} (T : TC c S a b) (h : TKp S p a b) : SIM (fun a' b' => frT a a' ∧ frU b b' ∧ ∃ p', p ≤ p' ∧ (gI a 10 3 ≠ 21 → p < p') ∧ TKp S p' a' b') (fX7_advance a) (fX10_token b) := by
  obtain ⟨i', h1, h2, h3, h4, h5, h6, h7, h8⟩ := h
  refine (adv_sim T i' h2 h3 h4).mono ?_
  rintro x y ⟨f1, f2, p', j', q1, q2, q3, q4, q5, q6, q7, q8, q9⟩
  refine ⟨f1, f2, p', by omega, fun hk => ?_, j', q2, q3, q4, q5, q6, q7, q8, q9⟩
  rcases h8 with h8 | h8
  · exact absurd h8 hk
  · omega
theorem SIM.bindV {α β : Type} {Q : α → β → Prop} {P : St → St → Prop} {a b : Option St} {K : St → Option α} {L : St → Option β} (h : SIM P a b) (k : ∀ x y, P x y → SIM Q (K x) (L y)) : SIM Q (bV a K) (bV b L) := by
  obtain ⟨x, y, rfl, rfl, hp⟩ := h
  rw [bVs, bVs]
  exact k x y hp
def rdN (kk : Nat) (σ : St) (p0 : Bool) (p1 : Int32) (p2 : Int32) (p3 : Int32) : Option (Int32 × St) :=
  bI (fX3_isNumber σ p2 p3) fun r2 σ3 => if r2 = 0 then (some ((0 : Int32), σ3)) else (jnx1 (fun (σ5 : St) => bV (fX7_advance σ5) fun σ8 => some ((1 : Int32), σ8)) fun J6 => if (6 : Int32) ≤ p1 then (J6 σ3) else (gd (ixI p1 6) (lt (sA σ3 (tx p0) kk (Int32.toNatClampNeg p1) (gI σ3 10 5)) fun σ11 => J6 σ11)))
theorem rdN3 : fX3_readNumber_a6_3 = rdN 3 := rfl
theorem rdN4 : fX3_readNumber_a6_4 = rdN 4 := rfl
theorem rdN5 : fX3_readNumber_a6_5 = rdN 5 := rfl
theorem rdN6 : fX3_readNumber_a6_6 = rdN 6 := rfl
theorem rdN7 : fX3_readNumber_a6_7 = rdN 7 := rfl
theorem rdN10 : fX3_readNumber_a6_10 = rdN 10 := rfl
theorem rdN11 : fX3_readNumber_a6_11 = rdN 11 := rfl
theorem refuse_eq (σ : St) (w : Int32) : fX3_refuse σ w = some (0, sI σ 9 3 w) := rfl
theorem wrong_eq (σ : St) (w : Int32) : fX10_wrong σ w = some (0, sI (sI σ 0 4 w) 0 5 (gI σ 0 10)) := by
  unfold fX10_wrong
  rw [lt_eq, lt_eq, gIn (by omega)]
theorem within_eq (σ : St) (x lo hi : Nat) (hx : x < 2 ^ 31) (hl : lo < 2 ^ 31) (hh : hi < 2 ^ 31) : fX9_isWithin σ (nI x) (nI lo) (nI hi) = some (if lo ≤ x ∧ x ≤ hi then 1 else 0) := by
  unfold fX9_isWithin
  simp only [jnx1_eq]
  by_cases a : x < lo
  · rw [if_pos ((nI_ltI hx hl).mpr a), if_neg (by omega)]
    exact gdb0
  · rw [if_neg (fun z => a ((nI_ltI hx hl).mp z))]
    by_cases b : hi < x
    · rw [if_pos ((nI_ltI hh hx).mpr b), if_neg (by omega)]
      exact gdb0
    · rw [if_neg (fun z => b ((nI_ltI hh hx).mp z)), if_pos (by omega)]
      exact gdb1
theorem isIn_eq (σ : St) (x lo hi : Nat) (hx : x < 2 ^ 31) (hl : lo < 2 ^ 31) (hh : hi < 2 ^ 31) : fX10_isIn σ (nI x) (nI lo) (nI hi) = some (if lo ≤ x ∧ x ≤ hi then 1 else 0) := by
  unfold fX10_isIn
  simp only [jnx1_eq]
  by_cases a : x < lo
  · rw [if_pos ((nI_ltI hx hl).mpr a), if_neg (by omega)]
    exact gdb0
  · rw [if_neg (fun z => a ((nI_ltI hx hl).mp z))]
    by_cases b : hi < x
    · rw [if_pos ((nI_ltI hh hx).mpr b), if_neg (by omega)]
      exact gdb0
    · rw [if_neg (fun z => b ((nI_ltI hh hx).mp z)), if_pos (by omega)]
      exact gdb1
/-- refused on both sides -/
def NO (σB σM : St) (q q' : Int32 × St) : Prop := q.1 = 0 ∧ q'.1 = 0 ∧ ∃ w, q.2 = sI σB 9 3 w ∧ q'.2 = sI (sI σM 0 4 w) 0 5 (gI σM 0 10)
/-- is it a number: both sides -/
theorem isNum_sim {c : Nat → Nat} {S p : Nat} {σB σM : St} (T : TC c S σB σM) (h : TKp S p σB σM) (lo hi : Nat) (hlo : lo ≤ hi) (hhi : hi ≤ 99999) : (∃ w, fX3_isNumber σB (nI lo) (nI hi) = some (0, sI σB 9 3 w) ∧ fX10_number σM (nI lo) (nI hi) = some (0, sI (sI σM 0 4 w) 0 5 (gI σM 0 10))) ∨ (gI σB 10 3 = 20 ∧ ∃ v, lo ≤ v ∧ v ≤ hi ∧ gI σB 10 5 = nI v ∧ gI σM 0 9 = nI v ∧ fX3_isNumber σB (nI lo) (nI hi) = some (1, σB) ∧ fX10_number σM (nI lo) (nI hi) = (bV (fX10_token (sI σM 0 11 (nI v))) fun σ7 => some ((1 : Int32), σ7))) := by
  obtain ⟨i', h1, h2, h3, h4, h5, h6, h7, h8⟩ := h
  obtain ⟨a, b, ha, hb, e1, e2, hk⟩ := h7.nat
  unfold fX3_isNumber fX10_number
  rw [refuse_eq, refuse_eq, wrong_eq, wrong_eq, e1, e2]
  have k20 : (nI a = (20 : Int32)) ↔ a = 20 := eqN (b := 20) (by omega) (by omega)
  have k3 : (nI b = (3 : Int32)) ↔ b = 3 := eqN (b := 3) (by omega) (by omega)
  simp only [bIs, jnx1_eq, jnx2_eq, lt_eq]
  by_cases c20 : a = 20
  · have b3 : b = 3 := by omega
    obtain ⟨v, w, v1, v2, v3, v4, v5⟩ : ∃ v w, v ≤ 1000000 ∧ w ≤ 1000000 ∧ gI σB 10 5 = nI v ∧ gI σM 0 9 = nI w ∧ (v = w ∨ (99999 < v ∧ 99999 < w)) := by
      rcases hk with h | h | h | ⟨-, -, h⟩ | h | h | h
      · omega
      · omega
      · omega
      · exact h
      · omega
      · obtain ⟨-, s, -, -, h⟩ := h
        omega
      · omega
    rw [if_pos (k20.mpr c20), if_pos (k3.mpr b3), v3, v4, within_eq _ _ _ _ (by omega) (by omega) (by omega), isIn_eq _ _ _ _ (by omega) (by omega) (by omega), bS, bS]
    by_cases r : lo ≤ v ∧ v ≤ hi
    · have hvw : v = w := by omega
      subst hvw
      have n1 : ¬ ((if lo ≤ v ∧ v ≤ hi then (1 : Int32) else 0) = 0) := by rw [if_pos r]; decide
      rw [if_neg n1, if_neg n1]
      exact Or.inr ⟨by rw [c20]; rfl, v, r.1, r.2, rfl, rfl, gdb1, rfl⟩
    · have n1 : (if lo ≤ v ∧ v ≤ hi then (1 : Int32) else 0) = 0 := by rw [if_neg r]
      have n2 : (if lo ≤ w ∧ w ≤ hi then (1 : Int32) else 0) = 0 := by rw [if_neg (by omega)]
      rw [if_pos n1, if_pos n2]
      exact Or.inl ⟨2, by rw [if_pos trivial]; exact gdb0, gdb0⟩
  · have b3 : b ≠ 3 := by
      intro z
      rcases hk with h | h | h | h | h | h | h
      all_goals omega
    rw [if_neg (fun z => c20 (k20.mp z)), if_neg (fun z => b3 (k3.mp z))]
    exact Or.inl ⟨1, gdb0, gdb0⟩
