theorem TC.rd {c : Nat → Nat} {S : Nat} {u : Bool} {σB σM σB' σM' : St} (T : TC c S σB σM) (hB : frRB u σB σB') (hM : frRM σM σM') : TC c S σB' σM' := by
  obtain ⟨h1, h2, h3, h4, h5⟩ := T
  have t1 := tx_le u
  have t2 := lw_le u
  exact ⟨h1, by rw [hB.2.2.2]; exact h2, by rw [hM.1 6 (by omega)]; exact h3, fun i hi => by rw [hM.2.1 0 (by omega), hB.2.1 0 (by omega) (by omega) (by omega)]; exact h4 i hi, by rw [hM.2.1 3 (by omega)]; exact h5⟩
theorem rdN_sim {c : Nat → Nat} {S p : Nat} {σB σM : St} (T : TC c S σB σM) (h : TKp S p σB σM) (u : Bool) (kk hh lo hi : Nat) (hh6 : hh < 6) (hlo : lo ≤ hi) (hhi : hi ≤ 99999) : SIM (fun q q' => NO σB σM q q' ∨ (q.1 = 1 ∧ q'.1 = 1 ∧ ∃ v p', lo ≤ v ∧ v ≤ hi ∧ p < p' ∧ frT (sA σB (tx u) kk hh (nI v)) q.2 ∧ frU (sI σM 0 11 (nI v)) q'.2 ∧ TKp S p' q.2 q'.2)) (rdN kk σB u (nI hh) (nI lo) (nI hi)) (fX10_number σM (nI lo) (nI hi)) := by
  have t1 := tx_le u
  unfold rdN
  rcases isNum_sim T h lo hi hlo hhi with ⟨w, e1, e2⟩ | ⟨e0, v, v1, v2, v3, v4, e1, e2⟩
  · rw [e1, e2, bIs, if_pos rfl]
    exact SIM.ret (Or.inl ⟨rfl, rfl, w, rfl, rfl⟩)
  · rw [e1, e2, bIs, if_neg (by decide)]
    simp only [jnx1_eq, lt_eq]
    rw [if_neg (show ¬ (6 : Int32) ≤ nI hh from fun z => absurd ((leN (a := 6) (b := hh) (by omega) (by omega)).mp z) (by omega)), gdN hh6 (by omega), clN (show hh < 1000000 by omega), v3]
    have T2 : TC c S (sA σB (tx u) kk hh (nI v)) (sI σM 0 11 (nI v)) := T.rd (frRB.at u σB kk _) (frRM.wI σM _ (by omega))
    have K2 : TKp S p (sA σB (tx u) kk hh (nI v)) (sI σM 0 11 (nI v)) := h.cg (fun k _ _ => rfl) (fun k _ _ => gIn (by omega))
    refine (adv2 T2 K2).bindV ?_
    rintro x y ⟨f1, f2, p', q1, q2, q3⟩
    refine SIM.ret (Or.inr ⟨rfl, rfl, v, p', v1, v2, q2 ?_, f1, f2, q3⟩)
    show gI σB 10 3 ≠ 21
    rw [e0]
    decide
def plG (kk : Nat) (σ : St) (p0 : Int32) (p1 : Bool) (p2 : Int32) : Option (Int32) :=
  lpx1 FU (fun self2 (x1 : Int32) => jnx1 (fun (u9 : Unit) => some (-1 : Int32)) fun J4 => if p2 ≤ x1 then (J4 ()) else (if (6 : Int32) ≤ x1 then (J4 ()) else (gd (ixI x1 6) (if (gA σ (tx p1) kk (Int32.toNatClampNeg x1)) = p0 then (some x1) else (lt (x1 + (1 : Int32)) fun x9 => self2 x9))))) (0 : Int32)
def rdS (kk : Nat) (σ : St) (p0 : Bool) (p1 : Int32) : Option (Int32 × St) :=
  if (gI σ 10 3) = (19 : Int32) then (Option.bind (plG kk σ (gI σ 10 5) p0 p1) fun r3 => if r3 = (-1 : Int32) then (jnx1 (fun (σ5 : St) => bV (fX7_advance σ5) fun σ8 => some ((1 : Int32), σ8)) fun J6 => if (6 : Int32) ≤ p1 then (J6 σ) else (gd (ixI p1 6) (lt (sA σ (tx p0) kk (Int32.toNatClampNeg p1) (gI σ 10 5)) fun σ11 => J6 σ11))) else (bI (fX3_refuse σ (3 : Int32)) fun r13 σ14 => gd (r13 = 0 ∨ r13 = 1) (some (r13, σ14)))) else (bI (fX3_refuse σ (1 : Int32)) fun r17 σ18 => gd (r17 = 0 ∨ r17 = 1) (some (r17, σ18)))
theorem rdS2 : fX3_readName_a6_2 = rdS 2 := rfl
theorem rdS9 : fX3_readName_a6_9 = rdS 9 := rfl
def fnG (mm : Nat) (σ : St) (p1 : Int32) (p2 : Int32) (p3 : Int32) : Option (Int32) :=
  lpx1 FU (fun self2 (x1 : Int32) => if p2 ≤ x1 then (some (-1 : Int32)) else (gd (ixI (p1 + x1) 12) (if (gA σ 0 mm (Int32.toNatClampNeg (p1 + x1))) = p3 then (some x1) else (lt (x1 + (1 : Int32)) fun x7 => self2 x7)))) (0 : Int32)
def nwG (mm : Nat) (σ : St) (p1 : Int32) (p2 : Int32) : Option (Int32 × St) :=
  if (gI σ 0 8) = (2 : Int32) then (Option.bind (fnG mm σ p1 p2 (gI σ 0 9)) fun r3 => if r3 < 0 then (gd (ixI (p1 + p2) 12) (lt (sA σ 0 mm (Int32.toNatClampNeg (p1 + p2)) (gI σ 0 9)) fun σ6 => bV (fX10_token σ6) fun σ8 => some ((1 : Int32), σ8))) else (bI (fX10_wrong σ (3 : Int32)) fun r10 σ11 => gd (r10 = 0 ∨ r10 = 1) (some (r10, σ11)))) else (bI (fX10_wrong σ (1 : Int32)) fun r14 σ15 => gd (r14 = 0 ∨ r14 = 1) (some (r14, σ15)))
theorem nwG20 : fX10_newName_a10_20 = nwG 20 := rfl
theorem nwG26 : fX10_newName_a10_26 = nwG 26 := rfl
/-- a search on both sides -/
theorem find_both {u : Bool} {kk mm n : Nat} {σB σM : St} (x : Int32) (hn : n ≤ 6) (hA : ∀ j, j < n → gA σB (tx u) kk j = gA σM 0 mm (6 + j)) : (plG kk σB x u (nI n) = some (-1) ∧ fnG mm σM 6 (nI n) x = some (-1)) ∨ ∃ j, j < n ∧ plG kk σB x u (nI n) = some (nI j) ∧ fnG mm σM 6 (nI n) x = some (nI j) := by
  have key : SIM (fun r r' => r = r' ∧ (r = -1 ∨ ∃ j, j < n ∧ r = nI j)) (plG kk σB x u (nI n)) (fnG mm σM 6 (nI n) x) := by
    unfold plG fnG
    simp only [jnx1_eq, lt_eq]
    generalize hFU : FU = Z
    refine simlp1_1 _ (fun j a b => ∃ t, t + j = n ∧ a = nI t ∧ b = nI t) ?_ Z Z n 0 0 (by rw [← hFU]; exact FU_gt (by omega)) (by rw [← hFU]; exact FU_gt (by omega)) ⟨0, by omega, rfl, rfl⟩
    rintro j sF sG a b ⟨t, ht, rfl, rfl⟩ ih
    by_cases d : n ≤ t
    · have q : nI n ≤ nI t := (leN (by omega) (by omega)).mpr d
      rw [if_pos q, if_pos q]
      exact SIM.ret ⟨rfl, Or.inl rfl⟩
    · have q : ¬ nI n ≤ nI t := fun z => d ((leN (by omega) (by omega)).mp z)
      rw [if_neg q, if_neg q, if_neg (show ¬ (6 : Int32) ≤ nI t from fun z => absurd ((leN (a := 6) (b := t) (by omega) (by omega)).mp z) (by omega)), gdN (show t < 6 by omega) (by omega), show (6 : Int32) + nI t = nI (6 + t) from nI_add 6 t, gdN (show 6 + t < 12 by omega) (by omega), clN (show t < 1000000 by omega), clN (show 6 + t < 1000000 by omega), hA t (by omega)]
      by_cases e : gA σM 0 mm (6 + t) = x
      · rw [if_pos e, if_pos e]
        exact SIM.ret ⟨rfl, Or.inr ⟨t, by omega, rfl⟩⟩
      · rw [if_neg e, if_neg e]
        exact ih (j - 1) _ _ (by omega) ⟨t + 1, by omega, nI_1 t, nI_1 t⟩
  obtain ⟨r, r', h1, h2, rfl, h3⟩ := key
  rcases h3 with rfl | ⟨j, hj, rfl⟩
  · exact Or.inl ⟨h1, h2⟩
  · exact Or.inr ⟨j, hj, h1, h2⟩
theorem rdS_sim {c : Nat → Nat} {S p : Nat} {σB σM : St} (T : TC c S σB σM) (h : TKp S p σB σM) (u : Bool) (kk mm n : Nat) (hn : n < 6) (hmm : 20 ≤ mm ∧ mm ≤ 28) (hA : ∀ j, j < n → gA σB (tx u) kk j = gA σM 0 mm (6 + j)) : SIM (fun q q' => NO σB σM q q' ∨ (q.1 = 1 ∧ q'.1 = 1 ∧ ∃ w p', p < p' ∧ frT (sA σB (tx u) kk n w) q.2 ∧ frU (sA σM 0 mm (6 + n) w) q'.2 ∧ TKp S p' q.2 q'.2)) (rdS kk σB u (nI n)) (nwG mm σM 6 (nI n)) := by
  have t1 := tx_le u
  obtain ⟨a, b, ha, hb, e1, e2, hk⟩ := (show KR (gI σB 10 3) (gI σB 10 5) (gI σM 0 8) (gI σM 0 9) by obtain ⟨i', h1, h2, h3, h4, h5, h6, h7, h8⟩ := h; exact h7).nat
  unfold rdS nwG
  rw [refuse_eq, refuse_eq, wrong_eq, wrong_eq, e1, e2]
  have k19 : (nI a = (19 : Int32)) ↔ a = 19 := eqN (b := 19) (by omega) (by omega)
  have k2 : (nI b = (2 : Int32)) ↔ b = 2 := eqN (b := 2) (by omega) (by omega)
  simp only [bIs, jnx1_eq, lt_eq]
  by_cases c19 : a = 19
  · have b2 : b = 2 ∧ gI σB 10 5 = gI σM 0 9 := by
      rcases hk with h | h | h | h | h | h | h
      · omega
      · omega
      · exact ⟨h.2.1, h.2.2⟩
      · omega
      · omega
      · obtain ⟨-, s, -, -, h⟩ := h
        omega
      · omega
    rw [if_pos (k19.mpr c19), if_pos (k2.mpr b2.1), b2.2]
    rcases find_both (u := u) (gI σM 0 9) (show n ≤ 6 by omega) hA with ⟨f1, f2⟩ | ⟨j, hj, f1, f2⟩
    · rw [f1, f2, bS, bS, if_pos rfl, if_pos (show (-1 : Int32) < 0 by decide), if_neg (show ¬ (6 : Int32) ≤ nI n from fun z => absurd ((leN (a := 6) (b := n) (by omega) (by omega)).mp z) (by omega)), gdN hn (by omega), clN (show n < 1000000 by omega), show (6 : Int32) + nI n = nI (6 + n) from nI_add 6 n, gdN (show 6 + n < 12 by omega) (by omega), clN (show 6 + n < 1000000 by omega)]
      have w6 : hw mm ≤ 6 + n := by unfold hw; rw [if_neg (by omega), if_pos (by omega)]; omega
      have T2 : TC c S (sA σB (tx u) kk n (gI σM 0 9)) (sA σM 0 mm (6 + n) (gI σM 0 9)) := T.rd (frRB.at u σB kk _) (frRM.wA σM _ (by omega))
      have K2 : TKp S p (sA σB (tx u) kk n (gI σM 0 9)) (sA σM 0 mm (6 + n) (gI σM 0 9)) := h.cg (fun k _ _ => rfl) (fun k _ _ => rfl)
      refine (adv2 T2 K2).bindV ?_
      rintro x y ⟨f1, f2, p', q1, q2, q3⟩
      refine SIM.ret (Or.inr ⟨rfl, rfl, _, p', q2 ?_, f1, f2, q3⟩)
      show gI σB 10 3 ≠ 21
      rw [e1, c19]
      decide
    · have ne : ¬ nI j = (-1 : Int32) := fun z => by
        have := congrArg Int32.toInt z
        rw [nI_toInt (by omega)] at this
        have e : (-1 : Int32).toInt = -1 := by decide
        omega
      rw [f1, f2, bS, bS, if_neg ne, if_neg (show ¬ nI j < 0 from nI_pos (by omega)), gdb0, gdb0]
      exact SIM.ret (Or.inl ⟨rfl, rfl, 3, rfl, rfl⟩)
  · have b2 : b ≠ 2 := by
      intro z
      rcases hk with h | h | h | h | h | h | h
      all_goals omega
    rw [if_neg (fun z => c19 (k19.mp z)), if_neg (fun z => b2 (k2.mp z)), gdb0, gdb0]
    exact SIM.ret (Or.inl ⟨rfl, rfl, 1, rfl, rfl⟩)
