theorem sA_sA (σ : St) (o k i : Nat) (v w : Int32) : sA (sA σ o k i v) o k i w = sA σ o k i w := by
  unfold sA
  rw [sAr_sAr]
  congr 1
  funext j
  simp only [upd_at, gA_sAr, and_self, if_true]
  split <;> rfl
theorem gA_sA_self (σ : St) (o k i : Nat) : gA (sA σ o k i (gA σ o k i)) = gA σ := by
  funext o' k' j
  simp only [sA, gA_sAr]
  split
  · rename_i e
    rw [upd_at, e.1, e.2]
    split
    · rename_i e2
      rw [e2]
    · rfl
  · rfl
theorem names_eq {t : Bool} {n np BM Y o b h : Nat} {σB σM : St} (C : CX t n np σB σM) (S : SR n BM Y σB o σM b) (hh : h < n) : ∀ k, k < 7 → nmB σB o h k = nmM σM b h k := by
  intro k hk
  obtain ⟨h1, -, h5, -⟩ := S
  unfold nmB nmM
  rw [C.2.1]
  obtain rfl | rfl | rfl | rfl | rfl | rfl | rfl : k = 0 ∨ k = 1 ∨ k = 2 ∨ k = 3 ∨ k = 4 ∨ k = 5 ∨ k = 6 := by omega
  · exact h5 9 (by unfold isS; omega)
  · exact h1 0 (by omega) h hh
  · exact C.1.hA 4 (by omega) (by omega) h hh
  · exact h1 1 (by omega) h hh
  · exact h1 2 (by omega) h hh
  · exact h5 11 (by unfold isS; omega)
  · exact h5 8 (by unfold isS; omega)
theorem frB.num {o : Nat} (σ : St) (x : Int32) : frB o σ (sI σ o 13 x) := frB.wI σ 13 x (by omega)
theorem frM.num {b : Nat} (σ : St) (x : Int64) : frM b σ (sJ σ 0 60 x) := ⟨fun _ _ _ => rfl, fun _ _ => rfl, fun _ _ _ _ _ => rfl, fun _ _ _ _ _ => rfl, fun k hk => by
  simp only [gJ_sJ]
  rw [if_neg (fun z => hk z.2)]⟩
theorem agB.num {o : Nat} (σ : St) (x : Int32) : agB o σ (sI σ o 13 x) := ⟨fun _ _ => rfl, fun k _ h2 => by
  simp only [gI_sI]
  rw [if_neg (fun z => h2 z.2)]⟩
theorem agB.tr {o : Nat} {a b c : St} (h : agB o a b) (k : agB o b c) : agB o a c := ⟨fun x h1 => (k.1 x h1).trans (h.1 x h1), fun x h1 h2 => (k.2 x h1 h2).trans (h.2 x h1 h2)⟩
theorem ne10 : ¬ (1 : Int32) = 0 := by decide
/-- does a head die: the class, by d -/
theorem isDyingB0 {σ : St} {o : Nat} {d : Int32} (h : gI σ 14 2 = 0) : fX0_isDying σ o d = some (if d < 50 then 0 else 1, σ) := by
  unfold fX0_isDying
  rw [if_pos h]
  simp only [jnx1_eq, gdb0, gdb1]
  by_cases c : d < 50
  · rw [if_pos c, if_pos c]
  · rw [if_neg c, if_neg c]
theorem isDyingB1 {σ : St} {o : Nat} {d : Int32} (h : gI σ 14 2 = 1) (hd : d = 0 ∨ d = 100) : fX0_isDying σ o d = some (if d = 100 then 1 else 0, σ) := by
  unfold fX0_isDying
  rw [if_neg (by rw [h]; decide)]
  simp only [jnx1_eq, gdb0, gdb1]
  by_cases c0 : d = 0
  · rw [if_pos c0]
    by_cases c1 : d = 100
    · rw [if_pos c1, if_pos c1]
    · rw [if_neg c1, if_neg c1]
  · have c1 := hd.resolve_left c0
    rw [if_neg c0, if_pos c1, if_pos c1, if_pos c1]
theorem isDyingB2 {σ : St} {o k : Nat} {d : Int32} (h : gI σ 14 2 = 1) (hd : ¬ (d = 0 ∨ d = 100)) (hk : gI σ o 13 = nI k) : fX0_isDying σ o d = some (if d ≤ nI (rnd k / 65536 % 100) then 0 else 1, sI σ o 13 (nI (rnd k))) := by
  unfold fX0_isDying
  rw [if_neg (by rw [h]; decide)]
  simp only [jnx1_eq, gdb0, gdb1, nextNumber_eq σ o k hk, bIs, rem100]
  rw [if_neg (fun z => hd (Or.inl z)), if_neg (fun z => hd (Or.inr z))]
  by_cases c : d ≤ nI (rnd k / 65536 % 100)
  · rw [if_pos c, if_pos c]
  · rw [if_neg c, if_neg c]
set_option maxHeartbeats 1000000 in
theorem dying_sim {t : Bool} {n np BM Y o b h : Nat} {σB σM : St} (C : CX t n np σB σM) (S : SR n BM Y σB o σM b) (N : NR σB o σM) (ho : 5 ≤ o ∧ o ≤ 8) (hb : b < 2) (hh : h < n) :
    ∃ r σB' σM', (if gI σB 14 3 = 0 then bI (fX0_deathOf σB o (nI h)) (fun d σ8 => fX0_isDying σ8 o d) else some (0, σB)) = some (r, σB') ∧ fX10_isDying σM (nI b) (nI h) = some (r, σM') ∧ (r = 0 ∨ r = 1) ∧ agB o σB σB' ∧ gA σM' = gA σM ∧ frB o σB σB' ∧ frM b σM σM' ∧ NR σB' o σM' ∧ nodr σM σM' ∧ gI σM' 0 66 = gI σM 0 66 := by
  have hn6 := C.1.n6
  have e3 : gI σB 14 3 = gI σM 0 62 := C.2.2.1 3 (by omega) (by omega)
  have e2 : gI σB 14 2 = gI σM 0 61 := C.2.2.1 2 (by omega) (by omega)
  by_cases c0 : gI σM 0 62 = 0
  · obtain ⟨d, σB1, σM1, f1, f2, f3, f4⟩ := deathOf_sim (o := o) (h := h) C.2.1 hb (by omega) (C.1.law 0 (by omega)) (names_eq C S hh)
    rw [if_pos (by rw [e3]; exact c0), f1]
    simp only [bIs]
    have g61 : gI σM1 0 61 = gI σM 0 61 := f4.1 61 (by omega)
    have g66 : gI σM1 0 66 = gI σM 0 66 := f4.1 66 (by omega)
    have eM : fX10_isDying σM (nI b) (nI h) = (if d = 0 ∨ d = 100 then some (if d = 100 then 1 else 0, σM1) else if gI σM1 0 61 = 0 then some (if d < 50 then 0 else 1, σM1) else bI (fX10_number1 σM1 100) fun r19 σ20 => some (if d ≤ r19 then 0 else 1, σ20)) := by
      unfold fX10_isDying
      rw [if_pos c0, f2]
      simp only [bIs, jnx1_eq, jnx2_eq, gdb0, gdb1]
      by_cases k0 : d = 0
      · rw [if_pos k0, if_pos (show d = 0 ∨ d = 100 from Or.inl k0)]
        by_cases k1 : d = 100
        · rw [if_pos k1, if_pos k1]
        · rw [if_neg k1, if_neg k1]
      · rw [if_neg k0]
        by_cases k1 : d = 100
        · rw [if_pos k1, if_pos (show d = 0 ∨ d = 100 from Or.inr k1), if_pos k1, if_pos k1]
        · rw [if_neg k1, if_neg (show ¬ (d = 0 ∨ d = 100) from fun z => z.elim k0 k1)]
          by_cases k2 : gI σM1 0 61 = 0
          · rw [if_pos k2, if_pos k2]
            by_cases k3 : d < 50
            · rw [if_pos k3, if_pos k3]
            · rw [if_neg k3, if_neg k3]
          · rw [if_neg k2, if_neg k2]
            congr 1
            funext q σ20
            by_cases k3 : d ≤ q
            · rw [if_pos k3, if_pos k3]
            · rw [if_neg k3, if_neg k3]
    have NR1 : NR σB1 o σM1 := by
      unfold NR
      rw [g61, f3.1, f4.2.2.2]
      exact N
    have nd1 : nodr σM σM1 := fun _ => by rw [f4.2.2.2]
    have e14 : gI σB1 14 2 = gI σM 0 61 := by rw [f3.1]; exact e2
    by_cases cd : gI σM 0 61 = 0
    · refine ⟨if d < 50 then 0 else 1, σB1, σM1, isDyingB0 (by rw [e14]; exact cd), ?_, by split <;> simp, agB.stk f3, f4.2.1, frB.stk f3, frM.ln f4, NR1, nd1, g66⟩
      rw [eM]
      by_cases k : d = 0 ∨ d = 100
      · rw [if_pos k]
        rcases k with k | k
        · subst k
          rw [if_neg (by decide), if_pos (by decide)]
        · subst k
          rw [if_pos rfl, if_neg (by decide)]
      · rw [if_neg k, if_pos (by rw [g61]; exact cd)]
    · have c1 : gI σM 0 61 = 1 := C.2.2.2.resolve_left cd
      by_cases k : d = 0 ∨ d = 100
      · refine ⟨if d = 100 then 1 else 0, σB1, σM1, isDyingB1 (by rw [e14]; exact c1) k, ?_, by split <;> simp, agB.stk f3, f4.2.1, frB.stk f3, frM.ln f4, NR1, nd1, g66⟩
        rw [eM, if_pos k]
      · obtain ⟨q, q1, q2⟩ := NR1.resolve_left (by rw [g61]; exact cd)
        refine ⟨if d ≤ nI (rnd q / 65536 % 100) then 0 else 1, _, _, isDyingB2 (by rw [e14]; exact c1) k q1, ?_, by split <;> simp, (agB.stk f3).tr (agB.num _ _), ?_, (frB.stk f3).tr (frB.num _ _), (frM.ln f4).tr (frM.num (σ := σM1) (lN (rnd q))), ?_, fun z => absurd z cd, g66⟩
        · rw [eM, if_neg k, if_neg (by rw [g61]; exact cd), number1_eq σM1 q q2, bIs]
        · exact f4.2.1
        · refine Or.inr ⟨rnd q, ?_, ?_⟩
          · simp only [gI_sI, and_self, if_true]
          · simp only [gJ_sJ, and_self, if_true]
  · refine ⟨0, σB, σM, by rw [if_neg (by rw [e3]; exact c0)], ?_, Or.inl rfl, agB.rf _ _, rfl, frB.rf _ _, frM.rf _ _, N, fun _ => rfl, rfl⟩
    unfold fX10_isDying
    rw [if_neg c0]
