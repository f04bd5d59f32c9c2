/-- what a formula may change, class -/
def FB (u : Bool) (f : Nat) (σ a : St) : Prop := frRB u σ a ∧ gI a (tx u) = gI σ (tx u) ∧ gA a (tx u) = gA σ (tx u) ∧ gI a 9 = gI σ 9 ∧ (∀ k i, k < 2 → i < f → gA a (lw u) k i = gA σ (lw u) k i) ∧ (∀ k, 2 ≤ k → gA a (lw u) k = gA σ (lw u) k)
/-- and the reference -/
def FM (f : Nat) (σ b : St) : Prop := frRM σ b ∧ (∀ k, (k = 4 ∨ k = 5 ∨ k = 15 ∨ k = 16) → gI b 0 k = gI σ 0 k) ∧ (∀ k, (k < 32 ∨ 36 < k) → gA b 0 k = gA σ 0 k) ∧ (∀ k i, 32 ≤ k → k ≤ 34 → i < 64 + f → gA b 0 k i = gA σ 0 k i)
theorem FB.rf (u : Bool) (f : Nat) (σ : St) : FB u f σ σ := ⟨frRB.rf u σ, rfl, rfl, rfl, fun _ _ _ _ => rfl, fun _ _ => rfl⟩
theorem FM.rf (f : Nat) (σ : St) : FM f σ σ := ⟨frRM.rf σ, fun _ _ => rfl, fun _ _ => rfl, fun _ _ _ _ _ => rfl⟩
theorem FB.tr {u : Bool} {f : Nat} {a b c : St} (h : FB u f a b) (h' : FB u f b c) : FB u f a c := ⟨h.1.tr h'.1, h'.2.1.trans h.2.1, h'.2.2.1.trans h.2.2.1, h'.2.2.2.1.trans h.2.2.2.1, fun k i q1 q2 => (h'.2.2.2.2.1 k i q1 q2).trans (h.2.2.2.2.1 k i q1 q2), fun k hk => (h'.2.2.2.2.2 k hk).trans (h.2.2.2.2.2 k hk)⟩
theorem FM.tr {f : Nat} {a b c : St} (h : FM f a b) (h' : FM f b c) : FM f a c := ⟨h.1.tr h'.1, fun k hk => (h'.2.1 k hk).trans (h.2.1 k hk), fun k hk => (h'.2.2.1 k hk).trans (h.2.2.1 k hk), fun k i q1 q2 q3 => (h'.2.2.2 k i q1 q2 q3).trans (h.2.2.2 k i q1 q2 q3)⟩
theorem FB.w11 (u : Bool) (f : Nat) (σ : St) (k : Nat) (x : Int32) : FB u f σ (sI σ 11 k x) := by
  have t1 := tx_le u
  have t2 := lw_le u
  exact ⟨frRB.w11 u σ k x, funext fun k' => gIo (by omega), rfl, funext fun k' => gIo (by omega), fun _ _ _ _ => rfl, fun _ _ => rfl⟩
theorem FB.a11 (u : Bool) (f : Nat) (σ : St) (k : Nat) (g : Nat → Int32) : FB u f σ (sAr σ 11 k g) := by
  have t1 := tx_le u
  have t2 := lw_le u
  exact ⟨frRB.a11 u σ k g, rfl, funext fun k' => gAo (by omega), rfl, fun _ _ _ _ => by rw [gAo (by omega)], fun _ _ => gAo (by omega)⟩
theorem FB.wl (u : Bool) (f : Nat) (σ : St) (k : Nat) (x : Int32) : FB u f σ (sI σ (lw u) k x) := by
  have t1 := tx_le u
  have t2 := lw_le u
  exact ⟨frRB.wl u σ k x, funext fun k' => gIo (by omega), rfl, funext fun k' => gIo (by omega), fun _ _ _ _ => rfl, fun _ _ => rfl⟩
theorem FB.al (u : Bool) (f : Nat) (σ : St) {k j : Nat} (x : Int32) (hk : k < 2) (hj : f ≤ j) : FB u f σ (sAr σ (lw u) k (upd (gA σ (lw u) k) j x)) := by
  have t1 := tx_le u
  have t2 := lw_le u
  have e : tx u ≠ lw u := by cases u <;> decide
  refine ⟨frRB.al u σ k _, rfl, funext fun k' => gAo e, rfl, fun k' i q1 q2 => ?_, fun k' q => gAn (by omega)⟩
  by_cases q : k' = k
  · subst q
    rw [gAe, upd_ne (by omega)]
  · rw [gAn q]
theorem FB.tok {u : Bool} {f : Nat} {a b : St} (h : frT a b) : FB u f a b := by
  have t1 := tx_le u
  have t2 := lw_le u
  exact ⟨h.up u, h.1 _ (by omega), by rw [h.2.2.1], h.1 _ (by omega), fun _ _ _ _ => by rw [h.2.2.1], fun _ _ => by rw [h.2.2.1]⟩
theorem FM.wI (f : Nat) (σ : St) {k : Nat} (x : Int32) (h : (7 ≤ k ∧ k ≤ 11) ∨ k = 17 ∨ (37 ≤ k ∧ k ≤ 42)) : FM f σ (sI σ 0 k x) := ⟨frRM.wI σ x (by omega), fun k' hk => gIn (by omega), fun _ _ => rfl, fun _ _ _ _ _ => rfl⟩
theorem FM.wA (f : Nat) (σ : St) {k j : Nat} (x : Int32) (h : k = 35 ∨ k = 36 ∨ (32 ≤ k ∧ k ≤ 34 ∧ 64 + f ≤ j)) : FM f σ (sAr σ 0 k (upd (gA σ 0 k) j x)) := by
  refine ⟨frRM.wA σ x ?_, fun _ _ => rfl, fun k' hk => gAn (by omega), fun k' i q1 q2 q3 => ?_⟩
  · by_cases e : 32 ≤ k ∧ k ≤ 34
    · have h64 : hw k = 64 := by unfold hw; rw [if_neg (by omega), if_neg (by omega), if_neg (by omega)]
      omega
    · omega
  · by_cases q : k' = k
    · subst q
      rw [gAe, upd_ne (by omega)]
    · rw [gAn q]
theorem FM.tok {f : Nat} {a b : St} (h : frU a b) : FM f a b := ⟨h.up, fun k hk => h.1 k (by omega), fun _ _ => by rw [h.2.1], fun _ _ _ _ _ => by rw [h.2.1]⟩
/-- the two sides within a formula -/
def FS (u : Bool) (S f kn m p : Nat) (due : Bool) (ws hl : List Nat) (op : Nat) (σB σM a b : St) : Prop :=
  FB u f σB a ∧ FM f σM b ∧ gR a 4 = u ∧ TKp S p a b ∧ gI a (lw u) 4 = nI kn ∧ gI b 0 17 = nI kn ∧ kn + nsig ws ≤ m ∧ m ≤ 64 ∧ gI a 11 3 = nI ws.length ∧ gI b 0 37 = nI ws.length ∧ WT (gA a 11 2) (gA b 0 35) ws ∧ gI a 11 4 = nI op ∧ gI b 0 39 = nI op ∧ op = nbra ws ∧ op ≤ 8 ∧ gI b 0 38 = nI hl.length ∧ HL (gA b 0 36) hl ∧ KN u f kn a b hl ∧ gI a 11 6 = (if due then 1 else 0) ∧ gI b 0 41 = (if due then 1 else 0) ∧ hl.length = nbin ws + (if due then 0 else 1) ∧ (due = false → ∃ r, 0 < kn ∧ hl = (kn - 1) :: r)
