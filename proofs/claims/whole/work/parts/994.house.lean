/-- what has been read so far, both sides -/
def RD (u : Bool) (c : Nat → Nat) (S n np : Nat) (σB σM : St) : Prop := TC c S σB σM ∧ gR σB 3 = u ∧ TX u n np σB (hf σM) ∧ (∃ kn m, kn ≤ m ∧ m ≤ 64 ∧ gI σB (lw u) 4 = nI kn ∧ gI σM 0 17 = nI kn ∧ gI σB 11 8 = nI m ∧ gI σM 0 40 = nI m ∧ ∀ w, w < 3 → ∃ x, x ≤ kn ∧ gA σB (lw u) 3 w = nI x) ∧ (∃ b, b < 32 ∧ gI σB 9 4 = nI b ∧ ∀ k, k < 3 → gA σM 0 18 k = if b.testBit (2 + k) then 1 else 0)
/-- a line, or a part of one, both sides -/
def LO (u : Bool) (c : Nat → Nat) (S p : Nat) (σB σM : St) (q q' : Int32 × St) : Prop := q.1 = q'.1 ∧ frRB u σB q.2 ∧ frRM σM q'.2 ∧ ((q.1 = 1 ∧ gI q.2 9 3 = gI σB 9 3 ∧ gI q'.2 0 4 = gI σM 0 4 ∧ gI q'.2 0 5 = gI σM 0 5 ∧ gI q.2 (tx u) 0 = gI σB (tx u) 0 ∧ ∃ n' np' p', RD u c S n' np' q.2 q'.2 ∧ p < p' ∧ TKp S p' q.2 q'.2) ∨ (q.1 = 0 ∧ gI q.2 9 3 = gI q'.2 0 4 ∧ gI q.2 10 4 = gI q'.2 0 5))
theorem LO.no {u : Bool} {c : Nat → Nat} {S p p2 : Nat} {σB σM a b : St} (hB : frRB u σB a) (hM : frRM σM b) (K : TKp S p2 a b) (w : Int32) : LO u c S p σB σM (0, sI a 9 3 w) (0, sI (sI b 0 4 w) 0 5 (gI b 0 10)) := by
  obtain ⟨i', h1, h2, h3, h4, h5, h6, h7, h8⟩ := K
  refine ⟨rfl, hB.tr (frRB.w9 u a 3 w), hM.tr ((frRM.wI b w (by omega)).tr (frRM.wI _ _ (by omega))), Or.inr ⟨rfl, ?_, ?_⟩⟩
  · show gI (sI a 9 3 w) 9 3 = gI (sI (sI b 0 4 w) 0 5 (gI b 0 10)) 0 4
    rw [gIe, gIn (by omega), gIe]
  · show gI (sI a 9 3 w) 10 4 = gI (sI (sI b 0 4 w) 0 5 (gI b 0 10)) 0 5
    rw [gIo (by omega), gIe, h5, h6]
theorem LO.noT {u : Bool} {c : Nat → Nat} {S p : Nat} {σB σM : St} {x : St} {q' : Int32 × St} (h : LO u c S p σB σM (0, x) q') (k : Nat) (y : Int32) : LO u c S p σB σM (0, sI x (tx u) k y) q' := by
  have t1 := tx_le u
  obtain ⟨h1, h2, h3, h4⟩ := h
  refine ⟨h1, h2.tr (frRB.wt u x k y), h3, ?_⟩
  rcases h4 with ⟨h4, -⟩ | ⟨h4, h5, h6⟩
  · exact absurd (show (0 : Int32) = 1 from h4) (by decide)
  · exact Or.inr ⟨rfl, by rw [← h5]; exact gIo (by omega), by rw [← h6]; exact gIo (by omega)⟩
theorem SIM.bindI {α β : Type} {Q : α → β → Prop} {P : Int32 × St → Int32 × St → Prop} {a b : Option (Int32 × St)} {K : Int32 → St → Option α} {L : Int32 → St → Option β} (h : SIM P a b) (k : ∀ r x r' y, P (r, x) (r', y) → SIM Q (K r x) (L r' y)) : SIM Q (bI a K) (bI b L) := by
  obtain ⟨⟨r, x⟩, ⟨r', y⟩, rfl, rfl, hp⟩ := h
  rw [bIs, bIs]
  exact k r x r' y hp
