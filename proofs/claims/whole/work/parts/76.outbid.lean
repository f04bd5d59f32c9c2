theorem obM_loop {t : Bool} {n np : Nat} {σB σM : St} {β : Type} (A B : Option β) (T : Option β → Prop) {m s v : Nat} (R : REL0 t n np σB σM) (hm : m < 64) (hs : s < 64) (x18 : Int32) (hx : x18 = 0 ∨ x18 = 1) (h1 : x18 = 1 → obOK σM n m s v → T B) (h2 : ¬ (x18 = 1 ∧ obOK σM n m s v) → T A) : T (lpx2 FU (fun self22 (x20 : Int32) (x21 : Int32) => if nI n ≤ x21 then (if x20 = 0 then A else B) else (if x20 = 0 then self22 0 (x21 + 1) else (Option.bind (fX10_isOf σM (nI m &&& (nI s ^^^ (-1 : Int32))) x21) fun r32 => if r32 = 0 then self22 1 (x21 + 1) else (gd (ixI x21 12) (if nI v ≤ (gA σM 0 46 (Int32.toNatClampNeg x21)) then self22 0 (x21 + 1) else self22 1 (x21 + 1)))))) x18 (0 : Int32)) := by
  have hn6 := R.2.2.1.n6
  obtain ⟨a1, a2⟩ := andn m hm s hs
  generalize hFU : FU = Z
  refine lpx2_wp T (fun j x y => ∃ i, i + j = n ∧ y = nI i ∧ ((x = 0 ∧ ¬ (x18 = 1 ∧ obOK σM n m s v)) ∨ (x = 1 ∧ x18 = 1 ∧ ∀ h, h < i → m.testBit h = true → s.testBit h = false → gA σM 0 46 h < nI v))) ?_ Z n x18 0 (by rw [← hFU]; exact FU_gt (by omega)) ⟨0, by omega, rfl, ?_⟩
  · rintro j self x y ⟨i, hi, rfl, hI⟩ ih
    by_cases c : n ≤ i
    · rw [if_pos ((leN (by omega) (by omega)).mpr c)]
      rcases hI with ⟨rfl, h3⟩ | ⟨rfl, h3, h4⟩
      · rw [if_pos rfl]
        exact h2 h3
      · rw [if_neg ne10]
        exact h1 h3 (fun h hh => h4 h (by omega))
    · rw [if_neg (fun z => c ((leN (by omega) (by omega)).mp z))]
      rcases hI with ⟨rfl, h3⟩ | ⟨rfl, h3, h4⟩
      · rw [if_pos rfl]
        exact ih (j - 1) _ _ (by omega) ⟨i + 1, by omega, nI_1 i, Or.inl ⟨rfl, h3⟩⟩
      · rw [if_neg ne10, a1, isOf_eq, bS, bit01 _ a2 i (by omega), gdN (show i < 12 by omega) (by omega), clN (by omega), Nat.testBit_and, Nat.testBit_xor, b63 i (by omega)]
        have nxt : (m.testBit i = true → s.testBit i = false → gA σM 0 46 i < nI v) → T (self 1 (nI i + 1)) := fun hx => ih (j - 1) _ _ (by omega) ⟨i + 1, by omega, nI_1 i, Or.inr ⟨rfl, h3, fun h hh q1 q2 => by
          by_cases e : h = i
          · subst e; exact hx q1 q2
          · exact h4 h (by omega) q1 q2⟩⟩
        cases hmb : m.testBit i
        · simp only [Bool.false_and, Bool.false_eq_true, if_false, if_neg (show ¬ (0 : Int32) = 1 by decide), if_true]
          exact nxt (fun z => by rw [hmb] at z; exact absurd z (by decide))
        · cases hsb : s.testBit i
          · simp only [Bool.true_and, Bool.true_xor, Bool.not_false, if_true, if_neg ne10]
            by_cases d : gA σM 0 46 i < nI v
            · rw [if_neg (Int32.not_le.mpr d)]
              exact nxt (fun _ _ => d)
            · rw [if_pos (Int32.not_lt.mp d)]
              exact ih (j - 1) _ _ (by omega) ⟨i + 1, by omega, nI_1 i, Or.inl ⟨rfl, fun z => d (z.2 i (by omega) hmb hsb)⟩⟩
          · simp only [Bool.true_and, Bool.true_xor, Bool.not_true, Bool.false_eq_true, if_false, if_neg (show ¬ (0 : Int32) = 1 by decide), if_true]
            exact nxt (fun _ z => by rw [hsb] at z; exact absurd z (by decide))
  · rcases hx with rfl | rfl
    · exact Or.inl ⟨rfl, fun z => absurd z.1 (by decide)⟩
    · exact Or.inr ⟨rfl, rfl, fun h hh => by omega⟩
set_option maxHeartbeats 2000000 in
theorem st15 : ST15 REL := by
  rintro σB σM ⟨t, n, np, R⟩
  have R0 := R.th
  have hn6 := R.2.2.1.n6
  have hp6 := pow6 hn6
  unfold fX9_outbid fX10_outbid
  rw [lt_eq]
  generalize sI σM 0 2 0 = σ1 at *
  obtain ⟨m, m1, m2, m3, m4⟩ := R0.bits
  rw [onNow_eq hn6 m1 R0.2.2.1.hM m4, bS, m3, R0.2.2.1.hM, shl_n n (by omega), cl0]
  have inner := fun (β : Type) (A B : Option β) (T : Option β → Prop) (s v : Nat) => obM_loop (σB := σB) (σM := σ1) (np := np) (t := t) (n := n) A B T (m := m) (s := s) (v := v) R0 m2
  simp only [jnx1_eq, lt_eq] at inner ⊢
  generalize hFU : FU = Z at inner ⊢
  refine simE2_2 _ (fun j x y x' y' => ∃ i, i + j = 64 ∧ 1 ≤ i ∧ i ≤ 2 ^ n ∧ y = nI i ∧ y' = nI i ∧ x = x' ∧ (x = -2 ∨ ∃ q, q < 64 ∧ x = nI q)) (fun j x y z => ∃ i, i + j = 64 ∧ 2 ^ n ≤ i ∧ y = nI i ∧ x = z.1 ∧ REL σB z.2) ?_ ?_ Z Z 63 (-2) 1 (-2) 1 (by rw [← hFU]; exact FU_gt (by omega)) (by rw [← hFU]; exact FU_gt (by omega)) ⟨1, by omega, by omega, Nat.one_le_two_pow, rfl, rfl, rfl, Or.inl rfl⟩
  · rintro j sF x y z ⟨i, hi, hi2, rfl, rfl, Rs⟩ ih
    by_cases c : 64 ≤ i
    · rw [if_pos (show (64 : Int32) ≤ nI i from (leN (a := 64) (b := i) (by omega) (by omega)).mpr c)]
      exact SIM.ret ⟨rfl, Rs⟩
    · rw [if_neg (show ¬ (64 : Int32) ≤ nI i from fun z => c ((leN (a := 64) (b := i) (by omega) (by omega)).mp z)), if_neg (fun w => by have := sub_le i (by omega) m m2 w; omega)]
      exact ih (j - 1) _ _ (by omega) ⟨i + 1, by omega, by omega, nI_1 i, rfl, Rs⟩
  · rintro j sF sG x y x' y' ⟨i, hi, hi1, hi2, rfl, rfl, rfl, hx⟩ ih ihE
    by_cases c2 : 2 ^ n ≤ i
    · rw [if_pos ((leN (a := 2 ^ n) (b := i) (by omega) (by omega)).mpr c2)]
      by_cases c : 64 ≤ i
      · rw [if_pos (show (64 : Int32) ≤ nI i from (leN (a := 64) (b := i) (by omega) (by omega)).mpr c)]
        exact SIM.ret ⟨rfl, R0.r⟩
      · rw [if_neg (show ¬ (64 : Int32) ≤ nI i from fun z => c ((leN (a := 64) (b := i) (by omega) (by omega)).mp z)), if_neg (fun w => by have := sub_le i (by omega) m m2 w; omega)]
        exact ihE (j - 1) _ _ (x, σ1) (by omega) ⟨i + 1, by omega, by omega, nI_1 i, rfl, R0.r⟩
    · rw [if_neg (fun z => c2 ((leN (a := 2 ^ n) (b := i) (by omega) (by omega)).mp z)), if_neg (show ¬ (64 : Int32) ≤ nI i from fun z => by have := (leN (a := 64) (b := i) (by omega) (by omega)).mp z; omega)]
      have skip : SIM (fun (q : Int32) (q' : Int32 × St) => q = q'.1 ∧ REL σB q'.2) (sF x (nI i + 1)) (sG x (nI i + 1)) := ih (j - 1) _ _ _ _ (by omega) ⟨i + 1, by omega, by omega, by omega, nI_1 i, nI_1 i, rfl, hx⟩
      have take : SIM (fun (q : Int32) (q' : Int32 × St) => q = q'.1 ∧ REL σB q'.2) (sF (nI i) (nI i + 1)) (sG (nI i) (nI i + 1)) := ih (j - 1) _ _ _ _ (by omega) ⟨i + 1, by omega, by omega, by omega, nI_1 i, nI_1 i, rfl, Or.inr ⟨i, by omega, rfl⟩⟩
      by_cases c3 : nI i &&& (nI m ^^^ (-1 : Int32)) = 0
      · rw [if_pos c3, if_pos c3, isFewer_eq σB (by omega) hx, bS, ifi0]
        obtain ⟨v, v1, v2, v3⟩ := sum_sim R0 (show i < 64 by omega)
        obtain ⟨l, l0, l1, l2, l3⟩ := least_sim R0 (show i < 64 by omega) (by omega) (by omega)
        obtain ⟨o1, o2⟩ := obB R0 m3 m2 (show i < 64 by omega) v2 l2
        rw [v3, l3]
        simp only [bS]
        have both : ∀ x18 : Int32, x18 = (if nI v < gA σ1 0 54 0 + nI l then 0 else 1) → SIM (fun (q : Int32) (q' : Int32 × St) => q = q'.1 ∧ REL σB q'.2) (Option.bind (fX9_outbidsOthers σB (nI i)) fun r14 => if r14 = 0 then sF x (nI i + 1) else sF (nI i) (nI i + 1)) (lpx2 Z (fun self22 (x20 : Int32) (x21 : Int32) => if nI n ≤ x21 then (if x20 = 0 then sG x (nI i + 1) else sG (nI i) (nI i + 1)) else (if x20 = 0 then self22 0 (x21 + 1) else (Option.bind (fX10_isOf σ1 (nI m &&& (nI i ^^^ (-1 : Int32))) x21) fun r32 => if r32 = 0 then self22 1 (x21 + 1) else (gd (ixI x21 12) (if nI v ≤ (gA σ1 0 46 (Int32.toNatClampNeg x21)) then self22 0 (x21 + 1) else self22 1 (x21 + 1)))))) x18 (0 : Int32)) := by
          intro x18 hx18
          refine inner _ (sG x (nI i + 1)) (sG (nI i) (nI i + 1)) (fun q => SIM (fun (q : Int32) (q' : Int32 × St) => q = q'.1 ∧ REL σB q'.2) (Option.bind (fX9_outbidsOthers σB (nI i)) fun r14 => if r14 = 0 then sF x (nI i + 1) else sF (nI i) (nI i + 1)) q) i v (by omega) x18 (by rw [hx18]; split <;> simp) (fun e ok => ?_) (fun e => ?_)
          · rw [o1 ok, bS]
            rw [e] at hx18
            rw [← hx18, if_neg ne10]
            exact take
          · by_cases ok : obOK σ1 n m i v
            · rw [o1 ok, bS, ← hx18]
              have : x18 = 0 := by
                rw [hx18]
                by_cases d : nI v < gA σ1 0 54 0 + nI l
                · rw [if_pos d]
                · rw [if_neg d] at hx18
                  exact absurd ⟨hx18, ok⟩ e
              rw [this, if_pos rfl]
              exact skip
            · rw [o2 ok, bS, if_pos rfl]
              exact skip
        have bothM : SIM (fun (q : Int32) (q' : Int32 × St) => q = q'.1 ∧ REL σB q'.2) (Option.bind (fX9_outbidsOthers σB (nI i)) fun r14 => if r14 = 0 then sF x (nI i + 1) else sF (nI i) (nI i + 1)) (if nI v < gA σ1 0 54 0 + nI l then (lpx2 Z (fun self22 (x20 : Int32) (x21 : Int32) => if nI n ≤ x21 then (if x20 = 0 then sG x (nI i + 1) else sG (nI i) (nI i + 1)) else (if x20 = 0 then self22 0 (x21 + 1) else (Option.bind (fX10_isOf σ1 (nI m &&& (nI i ^^^ (-1 : Int32))) x21) fun r32 => if r32 = 0 then self22 1 (x21 + 1) else (gd (ixI x21 12) (if nI v ≤ (gA σ1 0 46 (Int32.toNatClampNeg x21)) then self22 0 (x21 + 1) else self22 1 (x21 + 1)))))) 0 (0 : Int32)) else (lpx2 Z (fun self22 (x20 : Int32) (x21 : Int32) => if nI n ≤ x21 then (if x20 = 0 then sG x (nI i + 1) else sG (nI i) (nI i + 1)) else (if x20 = 0 then self22 0 (x21 + 1) else (Option.bind (fX10_isOf σ1 (nI m &&& (nI i ^^^ (-1 : Int32))) x21) fun r32 => if r32 = 0 then self22 1 (x21 + 1) else (gd (ixI x21 12) (if nI v ≤ (gA σ1 0 46 (Int32.toNatClampNeg x21)) then self22 0 (x21 + 1) else self22 1 (x21 + 1)))))) 1 (0 : Int32))) := by
          by_cases d : nI v < gA σ1 0 54 0 + nI l
          · rw [if_pos d]
            exact both 0 (by rw [if_pos d])
          · rw [if_neg d]
            exact both 1 (by rw [if_neg d])
        rcases hx with rfl | ⟨q, hq, rfl⟩
        · rw [if_pos (Or.inl (by decide)), if_pos (show (-2 : Int32) < 0 by decide)]
          exact bothM
        · rw [if_neg (nI_neg (j := q) (by omega)), manyOf_eq σ1 (show i < 64 by omega), manyOf_eq σ1 hq, bS, bS, clN (by omega)]
          by_cases c5 : nI (cntB i 6) < nI (cntB q 6)
          · rw [if_pos (Or.inr c5), if_pos c5]
            exact bothM
          · rw [if_neg (show ¬ (nI q < 0 ∨ nI (cntB i 6) < nI (cntB q 6)) from fun z => z.elim (nI_neg (j := q) (by omega)) c5), if_neg c5]
            exact skip
      · rw [if_neg c3, if_neg c3]
        exact skip
