/-- what valueOf of the reference does to the state: the mark of an ERROR alone -/
def only45 (σ σ' : St) : Prop := (∀ k, k ≠ 45 → gI σ' 0 k = gI σ 0 k) ∧ gA σ' = gA σ ∧ gL σ' = gL σ ∧ gJ σ' = gJ σ
theorem only45.rf (σ : St) : only45 σ σ := ⟨fun _ _ => rfl, rfl, rfl, rfl⟩
theorem only45.s (σ : St) (w : Int32) : only45 σ (sI σ 0 45 w) := ⟨fun k h => by rw [gI_sI, if_neg (fun z => h z.2)], rfl, rfl, rfl⟩
def mvR (c : Nat) (a b : Int64) (σ : St) (q : Int64 × St) : Prop := only45 σ q.2 ∧ inL q.1 ∧ (gI σ 0 45 = 1 → gI q.2 0 45 = 1) ∧ (gI σ 0 45 = 0 → (∀ v, opV c a b = some v → q.1 = v ∧ gI q.2 0 45 = 0) ∧ (opV c a b = none → gI q.2 0 45 = 1))
theorem mvR.pure {c : Nat} {a b v : Int64} {σ : St} (h : opV c a b = some v) (hv : inL v) : mvR c a b σ (v, σ) := ⟨only45.rf σ, hv, fun h => h, fun h0 => ⟨fun w hw => by rw [h] at hw; cases hw; exact ⟨rfl, h0⟩, fun hw => by rw [h] at hw; cases hw⟩⟩
