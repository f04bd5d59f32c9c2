/-! THE SALE of both sides: the class's object o beside the reference's slot b -/
def clr (m h : Nat) : Nat := if m.testBit h then m - 2 ^ h else m
theorem holds_bit : ∀ m, m < 64 → ∀ h, h < 6 → (((nI m >>> (nI h &&& 31)) &&& (1 : Int32) = 1) ↔ m.testBit h = true) := by decide +kernel
theorem end_bit : ∀ m, m < 64 → ∀ h, h < 6 → (nI m &&& (((1 : Int32) <<< (nI h &&& 31)) ^^^ (-1 : Int32)) = nI (clr m h)) := by decide +kernel
theorem clr_bit : ∀ m, m < 64 → ∀ h, h < 6 → (clr m h ≤ m ∧ ∀ j, j < 6 → (clr m h).testBit j = (m.testBit j && !Nat.beq j h)) := by decide +kernel
theorem pow6 {n : Nat} (h : n ≤ 6) : 2 ^ n ≤ 64 := Nat.pow_le_pow_right (by omega) h
theorem n0 : (0 : Int32) = nI 0 := rfl
theorem n1 : (1 : Int32) = nI 1 := rfl
theorem gdN {β : Type} {k N : Nat} {x : Option β} (h : k < N) (hN : N ≤ 1000000) : gd (ixI (nI k) N) x = x := gd_pos (ixN h hN)
theorem gd01 {β : Type} {x : Option β} {c : Prop} [Decidable c] : gd ((if c then (1 : Int32) else 0) = 0 ∨ (if c then (1 : Int32) else 0) = 1) x = x := gd_pos ite01
theorem gdb0 {β : Type} {x : Option β} {p : Prop} [Decidable (True ∨ p)] : gd (True ∨ p) x = x := gd_pos (Or.inl trivial)
theorem gdb1 {β : Type} {x : Option β} {p : Prop} [Decidable (p ∨ True)] : gd (p ∨ True) x = x := gd_pos (Or.inr trivial)
theorem gdc0 {β : Type} {x : Option β} : gd ((0 : Int32) = 0 ∨ (0 : Int32) = 1) x = x := gd_pos (Or.inl rfl)
theorem gdc1 {β : Type} {x : Option β} : gd ((1 : Int32) = 0 ∨ (1 : Int32) = 1) x = x := gd_pos (Or.inr rfl)
theorem bS {α β : Type} (a : α) (f : α → Option β) : Option.bind (some a) f = f a := Eq.trans rfl rfl
theorem bIs {β : Type} (r : Int32) (σ : St) (K : Int32 → St → Option β) : bI (some (r, σ)) K = K r σ := Eq.trans rfl rfl
theorem bLs {β : Type} (r : Int64) (σ : St) (K : Int64 → St → Option β) : bL (some (r, σ)) K = K r σ := Eq.trans rfl rfl
theorem bVs {β : Type} (σ : St) (K : St → Option β) : bV (some σ) K = K σ := Eq.trans rfl rfl
theorem bIq {β : Type} (q : Int32 × St) (K : Int32 → St → Option β) : bI (some q) K = K q.1 q.2 := Eq.trans rfl rfl
theorem ifi0 {β : Type} {c : Prop} [Decidable c] (a b : β) : (if (if c then (1 : Int32) else 0) = 0 then a else b) = if c then b else a := by
  by_cases h : c
  · rw [if_pos h, if_pos h, if_neg (by decide)]
  · rw [if_neg h, if_neg h, if_pos rfl]
theorem gAe (σ : St) (o k : Nat) (f : Nat → Int32) : gA (sAr σ o k f) o k = f := by rw [gA_sAr, if_pos ⟨rfl, rfl⟩]
theorem gAn {σ : St} {o k o' k' : Nat} {f : Nat → Int32} (h : k' ≠ k) : gA (sAr σ o k f) o' k' = gA σ o' k' := by rw [gA_sAr, if_neg (fun z => h z.2)]
theorem gAo {σ : St} {o k o' k' : Nat} {f : Nat → Int32} (h : o' ≠ o) : gA (sAr σ o k f) o' k' = gA σ o' k' := by rw [gA_sAr, if_neg (fun z => h z.1)]
theorem gIe (σ : St) (o k : Nat) (x : Int32) : gI (sI σ o k x) o k = x := by rw [gI_sI, if_pos ⟨rfl, rfl⟩]
theorem gIn {σ : St} {o k o' k' : Nat} {x : Int32} (h : k' ≠ k) : gI (sI σ o k x) o' k' = gI σ o' k' := by rw [gI_sI, if_neg (fun z => h z.2)]
theorem gIo {σ : St} {o k o' k' : Nat} {x : Int32} (h : o' ≠ o) : gI (sI σ o k x) o' k' = gI σ o' k' := by rw [gI_sI, if_neg (fun z => h z.1)]
theorem gAI (σ : St) (o k : Nat) (x : Int32) : gA (sI σ o k x) = gA σ := Eq.trans rfl rfl
theorem gIA (σ : St) (o k : Nat) (f : Nat → Int32) : gI (sAr σ o k f) = gI σ := Eq.trans rfl rfl
theorem gJA (σ : St) (o k : Nat) (f : Nat → Int32) : gJ (sAr σ o k f) = gJ σ := Eq.trans rfl rfl
theorem gRA (σ : St) (o k : Nat) (f : Nat → Int32) : gR (sAr σ o k f) = gR σ := Eq.trans rfl rfl
theorem gJI (σ : St) (o k : Nat) (x : Int32) : gJ (sI σ o k x) = gJ σ := Eq.trans rfl rfl
theorem gRI (σ : St) (o k : Nat) (x : Int32) : gR (sI σ o k x) = gR σ := Eq.trans rfl rfl
theorem gIJ (σ : St) (o k : Nat) (x : Int64) : gI (sJ σ o k x) = gI σ := Eq.trans rfl rfl
theorem gAJ (σ : St) (o k : Nat) (x : Int64) : gA (sJ σ o k x) = gA σ := Eq.trans rfl rfl
theorem gIR (σ : St) (k : Nat) (x : Bool) : gI (sR σ k x) = gI σ := Eq.trans rfl rfl
theorem gAR (σ : St) (k : Nat) (x : Bool) : gA (sR σ k x) = gA σ := Eq.trans rfl rfl
theorem gJR (σ : St) (k : Nat) (x : Bool) : gJ (sR σ k x) = gJ σ := Eq.trans rfl rfl
theorem holds_eq {σ : St} {o m h : Nat} (hm : gI σ o 6 = nI m) (h64 : m < 64) (hh : h < 6) : fX4_holds σ o (nI h) = some (if m.testBit h then 1 else 0) := by
  unfold fX4_holds
  simp only [jnx1_eq, hm, gdb0, gdb1]
  have := holds_bit m h64 h hh
  by_cases c : m.testBit h = true
  · rw [if_pos (this.mpr c), if_pos c]
  · rw [if_neg (fun z => c (this.mp z)), if_neg c]
theorem end_eq {σ : St} {o m h : Nat} (hm : gI σ o 6 = nI m) (h64 : m < 64) (hh : h < 6) : fX4_end σ o (nI h) = some (sI σ o 6 (nI (clr m h))) := by
  unfold fX4_end
  rw [lt_eq, hm, end_bit m h64 h hh]
def fm (k : Nat) : Nat := if k < 3 then 46 + k else 47 + k
def sm (k : Nat) : Nat := if k = 8 then 59 else if k = 9 then 54 else if k = 10 then 55 else if k = 11 then 56 else if k = 12 then 58 else 57
def isS (k : Nat) : Prop := k = 8 ∨ k = 9 ∨ k = 10 ∨ k = 11 ∨ k = 12 ∨ k = 14
theorem fm_inj {k k' : Nat} (h : k < 5) (h' : k' < 5) : fm k' = fm k ↔ k' = k := by
  unfold fm
  split <;> split <;> omega
theorem fm_le (k : Nat) (h : k < 5) : 46 ≤ fm k ∧ fm k ≤ 51 ∧ fm k ≠ 49 := by
  unfold fm
  split <;> omega
theorem sm_le (k : Nat) : 54 ≤ sm k ∧ sm k ≤ 59 := by
  unfold sm
  repeat' split
  all_goals omega
theorem sm_inj {k k' : Nat} (h : isS k) (h' : isS k') : sm k' = sm k ↔ k' = k := by
  rcases h with rfl | rfl | rfl | rfl | rfl | rfl <;> rcases h' with rfl | rfl | rfl | rfl | rfl | rfl <;> decide
def rngN (f : Nat → Int32) (n lo hi : Nat) : Prop := ∀ j, j < n → ∃ v, lo ≤ v ∧ v ≤ hi ∧ f j = nI v
def SR (n BM Y : Nat) (σB : St) (o : Nat) (σM : St) (b : Nat) : Prop :=
  (∀ k, k < 5 → ∀ j, j < n → gA σB o k j = gA σM 0 (fm k) (6 * b + j)) ∧
  (∃ m, m < 2 ^ n ∧ gI σB o 6 = nI m ∧ ∀ j, j < n → gA σM 0 49 (6 * b + j) = if m.testBit j then 1 else 0) ∧
  (∀ k, isS k → gI σB o k = gA σM 0 (sm k) b) ∧
  rngN (gA σB o 0) n 0 BM ∧ rngN (gA σB o 1) n 0 99 ∧ rngN (gA σB o 2) n 0 9 ∧
  (∃ y, y ≤ Y ∧ gI σB o 8 = nI y) ∧ (∃ v, v ≤ BM ∧ gI σB o 9 = nI v) ∧ (gI σB o 10 = -1 ∨ ∃ j, j < n ∧ gI σB o 10 = nI j) ∧ (gI σB o 14 = 0 ∨ gI σB o 14 = 1)
def agB (o : Nat) (σ σ' : St) : Prop := (∀ k, k < 5 → gA σ' o k = gA σ o k) ∧ (∀ k, k ≠ 7 → k ≠ 13 → gI σ' o k = gI σ o k)
def agM (n b : Nat) (σ σ' : St) : Prop := (∀ k j, k ≠ 52 → k ≠ 53 → 46 ≤ k → k ≤ 53 → j < n → gA σ' 0 k (6 * b + j) = gA σ 0 k (6 * b + j)) ∧ (∀ k, 54 ≤ k → k ≤ 59 → gA σ' 0 k b = gA σ 0 k b)
theorem agB.rf (o : Nat) (σ : St) : agB o σ σ := ⟨fun _ _ => rfl, fun _ _ _ => rfl⟩
theorem agM.rf (n b : Nat) (σ : St) : agM n b σ σ := ⟨fun _ _ _ _ _ _ _ => rfl, fun _ _ _ => rfl⟩
theorem SR.cg {n BM Y o b : Nat} {σB σM σB' σM' : St} (h : SR n BM Y σB o σM b) (hB : agB o σB σB') (hM : agM n b σM σM') : SR n BM Y σB' o σM' b := by
  obtain ⟨h1, ⟨m, h2, h3, h4⟩, h5, h6, h7, h8, h9, h10, h11, h12⟩ := h
  obtain ⟨B1, B2⟩ := hB
  obtain ⟨M1, M2⟩ := hM
  refine ⟨fun k hk j hj => ?_, ⟨m, h2, ?_, fun j hj => ?_⟩, fun k hk => ?_, ?_, ?_, ?_, ?_, ?_, ?_, ?_⟩
  · have := fm_le k hk
    rw [B1 k hk, M1 (fm k) j (by omega) (by omega) (by omega) (by omega) hj]
    exact h1 k hk j hj
  · rw [B2 6 (by omega) (by omega)]; exact h3
  · rw [M1 49 j (by omega) (by omega) (by omega) (by omega) hj]; exact h4 j hj
  · have := sm_le k
    rw [B2 k (by unfold isS at hk; omega) (by unfold isS at hk; omega), M2 (sm k) this.1 this.2]
    exact h5 k hk
  · rw [B1 0 (by omega)]; exact h6
  · rw [B1 1 (by omega)]; exact h7
  · rw [B1 2 (by omega)]; exact h8
  · rw [B2 8 (by omega) (by omega)]; exact h9
  · rw [B2 9 (by omega) (by omega)]; exact h10
  · rw [B2 10 (by omega) (by omega)]; exact h11
  · rw [B2 14 (by omega) (by omega)]; exact h12
theorem SR.mono {n BM Y BM' Y' o b : Nat} {σB σM : St} (h : SR n BM Y σB o σM b) (h1 : BM ≤ BM') (h2 : Y ≤ Y') : SR n BM' Y' σB o σM b := by
  obtain ⟨g1, g2, g3, g4, g5, g6, ⟨y, g7, g8⟩, ⟨v, g9, g10⟩, g11⟩ := h
  refine ⟨g1, g2, g3, fun j hj => ?_, g5, g6, ⟨y, by omega, g8⟩, ⟨v, by omega, g10⟩, g11⟩
  obtain ⟨v, e1, e2, e3⟩ := g4 j hj
  exact ⟨v, e1, by omega, e3⟩
theorem rngN.upd {f : Nat → Int32} {n lo hi h : Nat} {x : Int32} (H : rngN f n lo hi) (hx : ∃ v, lo ≤ v ∧ v ≤ hi ∧ x = nI v) : rngN (upd f h x) n lo hi := by
  intro j hj
  rw [upd_at]
  split
  · exact hx
  · exact H j hj
theorem SR.setA {n BM Y o b : Nat} {σB σM : St} (S : SR n BM Y σB o σM b) (k h : Nat) (x : Int32) (hk : k < 5) (hr : (k = 0 → ∃ v, 0 ≤ v ∧ v ≤ BM ∧ x = nI v) ∧ (k = 1 → ∃ v, 0 ≤ v ∧ v ≤ 99 ∧ x = nI v) ∧ (k = 2 → ∃ v, 0 ≤ v ∧ v ≤ 9 ∧ x = nI v)) : SR n BM Y (sA σB o k h x) o (sA σM 0 (fm k) (6 * b + h) x) b := by
  obtain ⟨h1, ⟨m, h2, h3, h4⟩, h5, h6, h7, h8, h9⟩ := S
  have hf := fm_le k hk
  refine ⟨fun k' hk' j hj => ?_, ⟨m, h2, h3, fun j hj => ?_⟩, fun k' hk' => ?_, ?_, ?_, ?_, h9⟩
  · simp only [sA, gA_sAr, true_and, fm_inj hk hk']
    by_cases e : k' = k
    · subst e
      simp only [if_true, upd_at]
      by_cases e2 : j = h
      · subst e2
        simp
      · rw [if_neg e2, if_neg (by omega)]
        exact h1 k' hk j hj
    · rw [if_neg e, if_neg e]
      exact h1 k' hk' j hj
  · simp only [sA, gA_sAr, true_and]
    rw [if_neg (by omega)]
    exact h4 j hj
  · have := sm_le k'
    simp only [sA, gA_sAr, gI_sAr, true_and]
    rw [if_neg (by omega)]
    exact h5 k' hk'
  · simp only [sA, gA_sAr, true_and]
    split
    · rename_i e
      rw [← e]
      exact h6.upd (hr.1 e.symm)
    · exact h6
  · simp only [sA, gA_sAr, true_and]
    split
    · rename_i e
      rw [← e]
      exact h7.upd (hr.2.1 e.symm)
    · exact h7
  · simp only [sA, gA_sAr, true_and]
    split
    · rename_i e
      rw [← e]
      exact h8.upd (hr.2.2 e.symm)
    · exact h8
theorem SR.setI {n BM Y Y' o b : Nat} {σB σM : St} (S : SR n BM Y σB o σM b) (k : Nat) (x : Int32) (hk : isS k) (hY : Y ≤ Y') (hr : (k = 8 → ∃ y, y ≤ Y' ∧ x = nI y) ∧ (k = 9 → ∃ v, v ≤ BM ∧ x = nI v) ∧ (k = 10 → x = -1 ∨ ∃ j, j < n ∧ x = nI j) ∧ (k = 14 → x = 0 ∨ x = 1)) : SR n BM Y' (sI σB o k x) o (sA σM 0 (sm k) b x) b := by
  obtain ⟨h1, ⟨m, h2, h3, h4⟩, h5, h6, h7, h8, ⟨y, h9, h10⟩, h11, h12, h13⟩ := S
  have hs := sm_le k
  have hk6 : 6 ≠ k := fun z => by
    have h0 := hk
    unfold isS at h0
    omega
  refine ⟨fun k' hk' j hj => ?_, ⟨m, h2, ?_, fun j hj => ?_⟩, fun k' hk' => ?_, h6, h7, h8, ?_, ?_, ?_, ?_⟩
  · have := fm_le k' hk'
    simp only [sA, gA_sAr, gA_sI, true_and]
    rw [if_neg (by omega)]
    exact h1 k' hk' j hj
  · simp only [gI_sI, true_and]
    rw [if_neg hk6]
    exact h3
  · simp only [sA, gA_sAr, true_and]
    rw [if_neg (by omega)]
    exact h4 j hj
  · simp only [sA, gA_sAr, gI_sI, true_and, sm_inj hk hk']
    by_cases e : k' = k
    · subst e
      simp [upd_at]
    · rw [if_neg e, if_neg e]
      exact h5 k' hk'
  · simp only [gI_sI, true_and]
    split
    · exact hr.1 (by omega)
    · exact ⟨y, by omega, h10⟩
  · simp only [gI_sI, true_and]
    split
    · exact hr.2.1 (by omega)
    · exact h11
  · simp only [gI_sI, true_and]
    split
    · exact hr.2.2.1 (by omega)
    · exact h12
  · simp only [gI_sI, true_and]
    split
    · exact hr.2.2.2 (by omega)
    · exact h13
theorem SR.fin {n BM Y o b m h : Nat} {σB σM : St} (hn : n ≤ 6) (S : SR n BM Y σB o σM b) (hm : gI σB o 6 = nI m) (hm2 : m < 2 ^ n) (hh : h < n) : SR n BM Y (sI σB o 6 (nI (clr m h))) o (sA σM 0 49 (6 * b + h) 0) b := by
  obtain ⟨h1, ⟨m', h2, h3, h4⟩, h5, h6, h7, h8, h9, h11, h12, h13⟩ := S
  have hp := pow6 hn
  have : m' = m := by
    rw [hm] at h3
    exact ((nI_eq (by omega) (by omega)).mp h3).symm
  subst this
  have hc := clr_bit m' (by omega) h (by omega)
  refine ⟨fun k' hk' j hj => ?_, ⟨clr m' h, by omega, ?_, fun j hj => ?_⟩, fun k' hk' => ?_, h6, h7, h8, ?_, ?_, ?_, ?_⟩
  · have := fm_le k' hk'
    simp only [sA, gA_sAr, gA_sI, true_and]
    rw [if_neg (by omega)]
    exact h1 k' hk' j hj
  · simp only [gI_sI, true_and, if_true]
  · simp only [sA, gA_sAr, true_and, if_true, upd_at]
    rw [hc.2 j (by omega), beq_dec]
    by_cases e : j = h
    · subst e
      simp
    · rw [if_neg (by omega), h4 j hj]
      simp [e]
  · have := sm_le k'
    simp only [sA, gA_sAr, gI_sI, true_and]
    rw [if_neg (by unfold isS at hk'; omega), if_neg (by omega)]
    exact h5 k' hk'
  · simp only [gI_sI, true_and]
    exact h9
  · simp only [gI_sI, true_and]
    exact h11
  · simp only [gI_sI, true_and]
    exact h12
  · simp only [gI_sI, true_and]
    exact h13
