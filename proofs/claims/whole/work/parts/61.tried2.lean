theorem gdT {β : Type} {x : Option β} [Decidable True] : gd True x = x := gd_pos trivial
set_option maxHeartbeats 2000000 in
theorem triedM_w {σ : St} {w : Nat} {a0 a1 a2 : Int32} {H : Prop} [Decidable H] (hw : w ≤ 4) (ha : a0 = nI w) (hh : fX10_isHouse (sI σ 0 2 0) a1 = some (if H then 1 else 0)) : fX10_tried σ a0 a1 a2 = if ((0 : Int32) ≤ a2 ∧ a2 ≤ 99) ∧ (if w = 2 then H else a1 = 0) then (bV (fX10_layTried (sI σ 0 2 0)) fun σ11 => trM a0 a2 (sI (sI (sI (sI σ11 0 62 (if a0 = 0 then 1 else 0)) 0 63 (if a0 = 1 then 1 else 0)) 0 65 (if a0 = 2 then (1 : Int32) <<< (a1 &&& 31) else 0)) 0 64 (if a0 = 3 then 1 else 0))) else some (-1, sI σ 0 2 0) := by
  unfold fX10_tried
  rw [lt_eq, isInM_eq, isInM_eq, hh]
  obtain rfl | rfl | rfl | rfl | rfl : w = 0 ∨ w = 1 ∨ w = 2 ∨ w = 3 ∨ w = 4 := by omega
  · have h0 : a0 = 0 := ha
    subst h0
    simp (decide := true) only [bS, jnx1_eq, ifi0, gdb0, gdb1, gdT, if_true, if_false, lt_eq]
    by_cases c : (0 : Int32) ≤ a2 ∧ a2 ≤ 99
    · by_cases c1 : a1 = 0
      · rw [if_pos c, if_pos c1, if_pos ⟨c, c1⟩]
        unfold trM
        simp (decide := true) only [jnx1_eq, if_true, if_false, lt_eq]
      · rw [if_pos c, if_neg c1, if_neg (fun z => c1 z.2)]
    · rw [if_neg c, if_neg (fun z => c z.1)]
  · have h0 : a0 = 1 := ha
    subst h0
    simp (decide := true) only [bS, jnx1_eq, ifi0, gdb0, gdb1, gdT, if_true, if_false, lt_eq]
    by_cases c : (0 : Int32) ≤ a2 ∧ a2 ≤ 99
    · by_cases c1 : a1 = 0
      · rw [if_pos c, if_pos c1, if_pos ⟨c, c1⟩]
        unfold trM
        simp (decide := true) only [jnx1_eq, if_true, if_false, lt_eq]
      · rw [if_pos c, if_neg c1, if_neg (fun z => c1 z.2)]
    · rw [if_neg c, if_neg (fun z => c z.1)]
  · have h0 : a0 = 2 := ha
    subst h0
    simp (decide := true) only [bS, jnx1_eq, ifi0, gdb0, gdb1, gdT, if_true, if_false, lt_eq]
    by_cases c : (0 : Int32) ≤ a2 ∧ a2 ≤ 99
    · by_cases c1 : H
      · rw [if_pos c, if_pos c1, if_pos ⟨c, c1⟩]
        unfold trM
        simp (decide := true) only [jnx1_eq, if_true, if_false, lt_eq]
      · rw [if_pos c, if_neg c1, if_neg (fun z => c1 z.2)]
    · rw [if_neg c, if_neg (fun z => c z.1)]
  · have h0 : a0 = 3 := ha
    subst h0
    simp (decide := true) only [bS, jnx1_eq, ifi0, gdb0, gdb1, gdT, if_true, if_false, lt_eq]
    by_cases c : (0 : Int32) ≤ a2 ∧ a2 ≤ 99
    · by_cases c1 : a1 = 0
      · rw [if_pos c, if_pos c1, if_pos ⟨c, c1⟩]
        unfold trM
        simp (decide := true) only [jnx1_eq, if_true, if_false, lt_eq]
      · rw [if_pos c, if_neg c1, if_neg (fun z => c1 z.2)]
    · rw [if_neg c, if_neg (fun z => c z.1)]
  · have h0 : a0 = 4 := ha
    subst h0
    simp (decide := true) only [bS, jnx1_eq, ifi0, gdb0, gdb1, gdT, if_true, if_false, lt_eq]
    by_cases c : (0 : Int32) ≤ a2 ∧ a2 ≤ 99
    · by_cases c1 : a1 = 0
      · rw [if_pos c, if_pos c1, if_pos ⟨c, c1⟩]
        unfold trM
        simp (decide := true) only [jnx1_eq, if_true, if_false, lt_eq]
      · rw [if_pos c, if_neg c1, if_neg (fun z => c1 z.2)]
    · rw [if_neg c, if_neg (fun z => c z.1)]
set_option maxHeartbeats 2000000 in
theorem triedB_w {σ : St} {w : Nat} {a0 a1 a2 : Int32} {H : Prop} [Decidable H] (hw : w ≤ 4) (ha : a0 = nI w) (hh : fX9_isHouse σ a1 = some (if H then 1 else 0)) : fX9_tried σ a0 a1 a2 = if ((0 : Int32) ≤ a2 ∧ a2 ≤ 99) ∧ (if w = 2 then H else a1 = 0) then (bV (fX9_tryAsItGoes σ) fun σ12 => if a0 = 0 then (bV (fX0_passYears (sI σ12 14 3 1) 6 a2) fun σ16 => some (gI σ16 6 9, σ16)) else if a0 = 1 then (bV (fX0_passYears (sI σ12 14 4 1) 6 a2) fun σ16 => some (gI σ16 6 9, σ16)) else if a0 = 2 then (bV (fX0_passYears (sI σ12 14 6 ((1 : Int32) <<< (a1 &&& 31))) 6 a2) fun σ16 => some (gI σ16 6 9, σ16)) else if a0 = 3 then (bV (fX0_passYears (sI σ12 14 5 1) 6 a2) fun σ16 => some (gI σ16 6 9, σ16)) else (bV (fX4_setAllBounds σ12 6 (999 : Int32)) fun σ26 => bV (fX0_passYears σ26 6 a2) fun σ16 => some (gI σ16 6 9, σ16))) else some (-1, σ) := by
  unfold fX9_tried
  simp only [isWithin_eq, hh]
  obtain rfl | rfl | rfl | rfl | rfl : w = 0 ∨ w = 1 ∨ w = 2 ∨ w = 3 ∨ w = 4 := by omega
  · have h0 : a0 = 0 := ha
    subst h0
    simp (decide := true) only [bS, jnx1_eq, ifi0, gdb0, gdb1, gdT, if_true, if_false, lt_eq]
    by_cases c : (0 : Int32) ≤ a2 ∧ a2 ≤ 99
    · by_cases c1 : a1 = 0
      · rw [if_pos c1, if_pos c, if_pos ⟨c, c1⟩]
      · rw [if_neg c1, if_neg (fun z => c1 z.2)]
    · by_cases c1 : a1 = 0
      · rw [if_pos c1, if_neg c, if_neg (fun z => c z.1)]
      · rw [if_neg c1, if_neg (fun z => c z.1)]
  · have h0 : a0 = 1 := ha
    subst h0
    simp (decide := true) only [bS, jnx1_eq, ifi0, gdb0, gdb1, gdT, if_true, if_false, lt_eq]
    by_cases c : (0 : Int32) ≤ a2 ∧ a2 ≤ 99
    · by_cases c1 : a1 = 0
      · rw [if_pos c1, if_pos c, if_pos ⟨c, c1⟩]
      · rw [if_neg c1, if_neg (fun z => c1 z.2)]
    · by_cases c1 : a1 = 0
      · rw [if_pos c1, if_neg c, if_neg (fun z => c z.1)]
      · rw [if_neg c1, if_neg (fun z => c z.1)]
  · have h0 : a0 = 2 := ha
    subst h0
    simp (decide := true) only [bS, jnx1_eq, ifi0, gdb0, gdb1, gdT, if_true, if_false, lt_eq]
    by_cases c : (0 : Int32) ≤ a2 ∧ a2 ≤ 99
    · by_cases c1 : H
      · rw [if_pos c1, if_pos c, if_pos ⟨c, c1⟩]
      · rw [if_neg c1, if_neg (fun z => c1 z.2)]
    · by_cases c1 : H
      · rw [if_pos c1, if_neg c, if_neg (fun z => c z.1)]
      · rw [if_neg c1, if_neg (fun z => c z.1)]
  · have h0 : a0 = 3 := ha
    subst h0
    simp (decide := true) only [bS, jnx1_eq, ifi0, gdb0, gdb1, gdT, if_true, if_false, lt_eq]
    by_cases c : (0 : Int32) ≤ a2 ∧ a2 ≤ 99
    · by_cases c1 : a1 = 0
      · rw [if_pos c1, if_pos c, if_pos ⟨c, c1⟩]
      · rw [if_neg c1, if_neg (fun z => c1 z.2)]
    · by_cases c1 : a1 = 0
      · rw [if_pos c1, if_neg c, if_neg (fun z => c z.1)]
      · rw [if_neg c1, if_neg (fun z => c z.1)]
  · have h0 : a0 = 4 := ha
    subst h0
    simp (decide := true) only [bS, jnx1_eq, ifi0, gdb0, gdb1, gdT, if_true, if_false, lt_eq]
    by_cases c : (0 : Int32) ≤ a2 ∧ a2 ≤ 99
    · by_cases c1 : a1 = 0
      · rw [if_pos c1, if_pos c, if_pos ⟨c, c1⟩]
      · rw [if_neg c1, if_neg (fun z => c1 z.2)]
    · by_cases c1 : a1 = 0
      · rw [if_pos c1, if_neg c, if_neg (fun z => c z.1)]
      · rw [if_neg c1, if_neg (fun z => c z.1)]
theorem triedB_no {σ : St} {a0 a1 a2 : Int32} {H : Prop} [Decidable H] (c0 : ¬ ((0 : Int32) ≤ a0 ∧ a0 ≤ 4)) (hh : fX9_isHouse σ a1 = some (if H then 1 else 0)) : fX9_tried σ a0 a1 a2 = some (-1, σ) := by
  have c2 : ¬ a0 = 2 := fun z => c0 (by rw [z]; decide)
  unfold fX9_tried
  simp only [isWithin_eq, bS, jnx1_eq, ifi0, if_neg c0, if_neg c2]
  split <;> rfl
theorem st39 : ST39 REL := by
  rintro σB σM a0 a1 a2 ⟨t, n, np, R⟩
  have hn6 := R.2.2.1.n6
  by_cases c0 : (0 : Int32) ≤ a0 ∧ a0 ≤ 4
  · obtain ⟨w, -, hw, ha⟩ := in_nat 0 4 c0 (by omega) (by omega)
    rw [triedM_w hw ha (isHouseM_eq a1 R.th.2.2.1.hM), triedB_w hw ha (isHouseB_eq a1 hn6 (agr R))]
    by_cases c : ((0 : Int32) ≤ a2 ∧ a2 ≤ 99) ∧ (if w = 2 then (0 ≤ a1 ∧ a1 < nI n) else a1 = 0)
    · rw [if_pos c, if_pos c]
      obtain ⟨k, -, hk, rfl⟩ := in_nat 0 99 c.1 (by omega) (by omega)
      exact triedCore R.th hk hw ha
    · rw [if_neg c, if_neg c]
      exact SIM.ret ⟨rfl, R.th.r⟩
  · have e2 : fX10_tried σM a0 a1 a2 = some (-1, sI σM 0 2 0) := by
      unfold fX10_tried
      rw [lt_eq, isInM_eq, bS, if_neg c0]
      simp only [jnx1_eq, if_true]
    rw [triedB_no c0 (isHouseB_eq a1 hn6 (agr R)), e2]
    exact SIM.ret ⟨rfl, R.th.r⟩
