theorem gd00 {β : Type} (x : Option β) : gd ((0 : Int32) = 0 ∨ (0 : Int32) = 1) x = x := gd_pos (Or.inl rfl)
theorem gd11 {β : Type} (x : Option β) : gd ((1 : Int32) = 0 ∨ (1 : Int32) = 1) x = x := gd_pos (Or.inr rfl)
/-- a number of a line, both sides -/
theorem num_step {c : Nat → Nat} {S p pp : Nat} {u : Bool} {A B d n : Nat} {σB σM a b : St} (W : ROW u A B d n σB σM a b) (T : TC c S σB σM) (K : TKp S p a b) (k lo hi f : Nat) (hn : n < 6) (hk : A ≤ k ∧ k ≤ B) (hd : 20 ≤ d + A ∧ d + B ≤ 28) (hlo : lo ≤ hi) (hhi : hi ≤ 99999) (r3 : gR σB 3 = u) {KB : Int32 → St → Option (Int32 × St)} {KM : St → Option (Int32 × St)} {KM' : Int32 → St → Option (Int32 × St)}
    (hno : ∀ x, KB 0 x = some (0, sI x (tx (gR x 3)) f ((gI x (tx (gR x 3)) f) + 1))) (hno' : ∀ x, KM' 0 x = some (0, x)) (hyes' : ∀ x, (∀ k, (k < 7 ∨ 11 < k) → gI x 0 k = gI σM 0 k) → KM' 1 x = KM (sA x 0 (d + k) (6 + n) (gI x 0 11)))
    (hyes : ∀ a' b' v p', ROW u A B d n σB σM a' b' → TKp S p' a' b' → p < p' → lo ≤ v → v ≤ hi → gA a' (tx u) k n = nI v → gA b' 0 (d + k) (6 + n) = nI v → (∀ k', k' ≠ k → gA a' (tx u) k' n = gA a (tx u) k' n ∧ gA b' 0 (d + k') (6 + n) = gA b 0 (d + k') (6 + n)) → SIM (LO u c S pp σB σM) (KB 1 a') (KM b')) :
    SIM (LO u c S pp σB σM) (bI (rdN k a u (nI n) (nI lo) (nI hi)) KB) (bI (fX10_number b (nI lo) (nI hi)) KM') := by
  have Ta := T.rd W.1 W.2.1
  refine (rdN_sim Ta K u k n lo hi hn hlo hhi).bindI ?_
  rintro r x r' y (⟨rfl, rfl, w, rfl, rfl⟩ | ⟨rfl, rfl, v, p', v1, v2, q1, g1, g2, K1⟩)
  · rw [hno, hno']
    have g : gR (sI a 9 3 w) 3 = u := (W.1.2.2.1 3 (by omega)).trans r3
    rw [g]
    exact SIM.ret ((LO.no W.1 W.2.1 K w).noT f _)
  · have W2 := ((W.w k (nI v) hk).w11 (nI v)).tok g1 g2
    obtain ⟨R1, R2, R3, R4, R5, R6⟩ := W.num T k v hk hd g1 g2 K1
    rw [hyes' y (fun k hk => W2.2.2.2.2.2.2.2.2.2.1 k hk)]
    exact hyes _ _ v p' R1 R3 q1 v1 v2 R4 R5 R6
