/-! RANKS THAT WAIT: they don't rise downwards within a bracket -/
def SW : List Nat → Prop
  | [] => True
  | k :: r => (k ≠ 0 → ∀ j ∈ grp r, rk j ≤ rk k ∧ (rk j = rk k → rk k = 3)) ∧ SW r
def has4 (g : List Nat) : Bool := g.any (fun k => Nat.beq (rk k) 4)
theorem has4_iff (g : List Nat) : has4 g = true ↔ ∃ k ∈ g, rk k = 4 := by
  unfold has4
  rw [List.any_eq_true]
  constructor
  · rintro ⟨k, h1, h2⟩
    exact ⟨k, h1, Nat.eq_of_beq_eq_true h2⟩
  · rintro ⟨k, h1, h2⟩
    exact ⟨k, h1, by rw [h2]; rfl⟩
def CBr (cb : Nat) : List Nat → Prop
  | [] => True
  | k :: r => (k = 0 → cb.testBit (nbra r) = has4 (grp r)) ∧ CBr cb r
def CB (cb : Nat) (ws : List Nat) : Prop := cb.testBit (nbra ws) = has4 (grp ws) ∧ CBr cb ws
theorem grp0 (r : List Nat) : grp (0 :: r) = [] := rfl
theorem grpk {k : Nat} (r : List Nat) (h : k ≠ 0) : grp (k :: r) = k :: grp r := by
  show (if k = 0 then [] else k :: grp r) = _
  rw [if_neg h]
theorem nbrak {k : Nat} (r : List Nat) (h : k ≠ 0) : nbra (k :: r) = nbra r := by
  show (if k = 0 then 1 else 0) + nbra r = _
  rw [if_neg h]; omega
theorem nbra0 (r : List Nat) : nbra (0 :: r) = nbra r + 1 := by
  show 1 + nbra r = _
  omega
theorem relp {L k : Nat} (r : List Nat) (h : L ≤ rk k) : rel L (k :: r) = rel L r := by
  show (if L ≤ rk k then rel L r else k :: r) = _
  rw [if_pos h]
theorem reln {L k : Nat} (r : List Nat) (h : ¬ L ≤ rk k) : rel L (k :: r) = k :: r := by
  show (if L ≤ rk k then rel L r else k :: r) = _
  rw [if_neg h]
theorem rk_ne {L k : Nat} (h1 : 1 ≤ L) (h : L ≤ rk k) : k ≠ 0 := by
  rintro rfl
  have : rk 0 = 0 := rfl
  omega
theorem nbra_rel {L : Nat} (h1 : 1 ≤ L) : ∀ ws, nbra (rel L ws) = nbra ws
  | [] => rfl
  | k :: r => by
    by_cases c : L ≤ rk k
    · rw [relp r c, nbra_rel h1 r, nbrak r (rk_ne h1 c)]
    · rw [reln r c]
theorem SW.rel {L : Nat} : ∀ {ws : List Nat}, SW ws → SW (rel L ws)
  | [], _ => trivial
  | k :: r, h => by
    by_cases c : L ≤ rk k
    · rw [relp r c]; exact SW.rel h.2
    · rw [reln r c]; exact h
theorem CBr.rel {L cb : Nat} : ∀ {ws : List Nat}, CBr cb ws → CBr cb (rel L ws)
  | [], _ => trivial
  | k :: r, h => by
    by_cases c : L ≤ rk k
    · rw [relp r c]; exact CBr.rel h.2
    · rw [reln r c]; exact h
theorem grp_rel {L : Nat} : ∀ {ws : List Nat}, SW ws → ∀ j ∈ grp (rel L ws), rk j < L
  | [], _, j, hj => absurd (show j ∈ ([] : List Nat) from hj) (by simp)
  | k :: r, h, j, hj => by
    by_cases c : L ≤ rk k
    · rw [relp r c] at hj; exact grp_rel h.2 j hj
    · rw [reln r c] at hj
      by_cases k0 : k = 0
      · subst k0
        rw [grp0] at hj
        simp at hj
      · rw [grpk r k0] at hj
        rcases List.mem_cons.mp hj with rfl | hj
        · omega
        · have := (h.1 k0 j hj).1
          omega
theorem grp_sub {L : Nat} (h1 : 1 ≤ L) : ∀ {ws : List Nat}, ∀ j ∈ grp (rel L ws), j ∈ grp ws
  | [], j, hj => hj
  | k :: r, j, hj => by
    by_cases c : L ≤ rk k
    · rw [relp r c] at hj
      rw [grpk r (rk_ne h1 c)]
      exact List.mem_cons_of_mem _ (grp_sub h1 j hj)
    · rw [reln r c] at hj
      exact hj
theorem grp_stay {L : Nat} (h1 : 1 ≤ L) : ∀ {ws : List Nat}, ∀ j ∈ grp ws, rk j < L → j ∈ grp (rel L ws)
  | [], j, hj, _ => hj
  | k :: r, j, hj, hl => by
    by_cases c : L ≤ rk k
    · rw [relp r c]
      rw [grpk r (rk_ne h1 c)] at hj
      rcases List.mem_cons.mp hj with rfl | hj
      · omega
      · exact grp_stay h1 j hj hl
    · rw [reln r c]
      exact hj
/-- a comparison waits: it is on top once what binds more is gone -/
theorem top4 {ws : List Nat} (h : SW ws) : has4 (grp ws) = true ↔ ∃ k r, rel 5 ws = k :: r ∧ rk k = 4 := by
  rw [has4_iff]
  constructor
  · rintro ⟨j, hj, h4⟩
    have h2 := grp_stay (L := 5) (by omega) j hj (by omega)
    have h3 := grp_rel (L := 5) h
    have h5 := h.rel (L := 5)
    cases e : rel 5 ws with
    | nil => rw [e] at h2; simp [grp] at h2
    | cons k r =>
      rw [e] at h2 h3 h5
      by_cases k0 : k = 0
      · subst k0
        rw [grp0] at h2
        simp at h2
      · refine ⟨k, r, rfl, ?_⟩
        have := h3 k (by rw [grpk r k0]; exact List.mem_cons_self)
        rw [grpk r k0] at h2
        rcases List.mem_cons.mp h2 with rfl | h2
        · exact h4
        · have := (h5.1 k0 j h2).1
          omega
  · rintro ⟨k, r, e, h4⟩
    refine ⟨k, grp_sub (L := 5) (by omega) k ?_, h4⟩
    rw [e, grpk r (by rintro rfl; have : rk 0 = 0 := rfl; omega)]
    exact List.mem_cons_self
theorem CBr.bit {cb cb' : Nat} : ∀ {ws : List Nat}, CBr cb ws → (∀ d, d < nbra ws → cb'.testBit d = cb.testBit d) → CBr cb' ws
  | [], _, _ => trivial
  | k :: r, h, e => by
    by_cases k0 : k = 0
    · subst k0
      rw [nbra0] at e
      exact ⟨fun _ => (e (nbra r) (by omega)).trans (h.1 rfl), CBr.bit h.2 (fun d hd => e d (by omega))⟩
    · rw [nbrak r k0] at e
      exact ⟨fun z => absurd z k0, CBr.bit h.2 e⟩
theorem rk_pos {k : Nat} (h : okW k) (h0 : k ≠ 0) : 1 ≤ rk k := by
  unfold okW at h
  unfold rk
  (repeat' split) <;> omega
theorem rk_le6 (k : Nat) : rk k ≤ 6 := by
  unfold rk
  (repeat' split) <;> omega
theorem rel1 {fB fM : Nat → Int32} : ∀ {ws : List Nat}, WT fB fM ws → (0 < nbra ws → ∃ r, rel 1 ws = 0 :: r) ∧ (nbra ws = 0 → rel 1 ws = [])
  | [], _ => ⟨fun h => absurd h (by unfold nbra; omega), fun _ => rfl⟩
  | k :: r, h => by
    by_cases k0 : k = 0
    · subst k0
      rw [nbra0]
      exact ⟨fun _ => ⟨r, rfl⟩, fun z => absurd z (by omega)⟩
    · rw [nbrak r k0, relp r (rk_pos h.2.2.1 k0)]
      exact rel1 h.2.2.2
theorem cbit : ∀ b, b < 512 → ∀ j, j < 9 → nI b ||| ((1 : Int32) <<< (nI j &&& 31)) = nI (b ||| 2 ^ j) ∧ nI b &&& (((1 : Int32) <<< (nI j &&& 31)) ^^^ (-1 : Int32)) = nI (b &&& (511 ^^^ 2 ^ j)) ∧ (((nI b >>> (nI j &&& 31)) &&& (1 : Int32)) = (1 : Int32) ↔ b.testBit j = true) := by decide +kernel
theorem t511 : ∀ i, i < 9 → Nat.testBit 511 i = true := by decide +kernel
theorem setb {b j : Nat} (hb : b < 512) (hj : j < 9) : (b ||| 2 ^ j) < 512 ∧ (b ||| 2 ^ j).testBit j = true ∧ ∀ i, i ≠ j → (b ||| 2 ^ j).testBit i = b.testBit i := by
  refine ⟨Nat.or_lt_two_pow (n := 9) hb (Nat.lt_of_lt_of_le (Nat.pow_lt_pow_right (by omega) hj) (by decide)), ?_, fun i hi => ?_⟩
  · rw [Nat.testBit_or, Nat.testBit_two_pow_self, Bool.or_true]
  · rw [Nat.testBit_or, Nat.testBit_two_pow, decide_eq_false (by omega), Bool.or_false]
theorem clrb {b j : Nat} (hb : b < 512) (hj : j < 9) : (b &&& (511 ^^^ 2 ^ j)) < 512 ∧ (b &&& (511 ^^^ 2 ^ j)).testBit j = false ∧ ∀ i, i < 9 → i ≠ j → (b &&& (511 ^^^ 2 ^ j)).testBit i = b.testBit i := by
  refine ⟨Nat.lt_of_le_of_lt Nat.and_le_left hb, ?_, fun i h9 hi => ?_⟩
  · rw [Nat.testBit_and, Nat.testBit_xor, t511 j hj, Nat.testBit_two_pow_self]
    simp
  · rw [Nat.testBit_and, Nat.testBit_xor, t511 i h9, Nat.testBit_two_pow, decide_eq_false (by omega)]
    simp
