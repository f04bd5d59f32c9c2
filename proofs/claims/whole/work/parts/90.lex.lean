/-! SIGNS of the tape -/
theorem byt_lt97 : ∀ x, x < 256 → (bytN x < (97 : Int32) ↔ (x < 97 ∨ 128 ≤ x)) := by decide +kernel
theorem byt_gt122 : ∀ x, x < 256 → ((122 : Int32) < bytN x ↔ (122 < x ∧ x < 128)) := by decide +kernel
theorem byt_lt48 : ∀ x, x < 256 → (bytN x < (48 : Int32) ↔ (x < 48 ∨ 128 ≤ x)) := by decide +kernel
theorem byt_gt57 : ∀ x, x < 256 → ((57 : Int32) < bytN x ↔ (57 < x ∧ x < 128)) := by decide +kernel
theorem byt_eq : ∀ x, x < 256 → ∀ k, k < 128 → (bytN x = nI k ↔ x = k) := by decide +kernel
theorem byt_sm : ∀ x, x < 128 → bytN x = nI x := by decide +kernel
theorem letB (σ : St) (x : Nat) (hx : x < 256) : fX7_isLetter σ (bytN x) = some (if 97 ≤ x ∧ x ≤ 122 then 1 else 0) := by
  unfold fX7_isLetter
  simp only [jnx1_eq]
  by_cases c : 97 ≤ x ∧ x ≤ 122
  · rw [if_pos c, if_neg (fun z => by have := (byt_lt97 x hx).mp z; omega), if_neg (fun z => by have := (byt_gt122 x hx).mp z; omega)]
    exact gdb1
  · rw [if_neg c]
    by_cases d : bytN x < 97
    · rw [if_pos d]
      exact gdb0
    · rw [if_neg d]
      have d' := (not_congr (byt_lt97 x hx)).mp d
      rw [if_pos ((byt_gt122 x hx).mpr (by omega))]
      exact gdb0
theorem digB (σ : St) (x : Nat) (hx : x < 256) : fX7_isDigit σ (bytN x) = some (if 48 ≤ x ∧ x ≤ 57 then 1 else 0) := by
  unfold fX7_isDigit
  simp only [jnx1_eq]
  by_cases c : 48 ≤ x ∧ x ≤ 57
  · rw [if_pos c, if_neg (fun z => by have := (byt_lt48 x hx).mp z; omega), if_neg (fun z => by have := (byt_gt57 x hx).mp z; omega)]
    exact gdb1
  · rw [if_neg c]
    by_cases d : bytN x < 48
    · rw [if_pos d]
      exact gdb0
    · rw [if_neg d]
      have d' := (not_congr (byt_lt48 x hx)).mp d
      rw [if_pos ((byt_gt57 x hx).mpr (by omega))]
      exact gdb0
/-- the tape of both sides, up to S -/
def TC (c : Nat → Nat) (S : Nat) (σB σM : St) : Prop := S ≤ 700 ∧ gI σB 10 1 = nI S ∧ gI σM 0 6 = nI S ∧ (∀ i, i < 700 → c i < 256 ∧ gA σM 0 0 i = nI (c i) ∧ gA σB 0 0 i = bytN (c i)) ∧ gA σM 0 3 = wordsU
theorem letM {c : Nat → Nat} {S : Nat} {σB σM : St} (T : TC c S σB σM) (i : Nat) (hi : i ≤ S) : fX10_isSmall σM (nI i) = some (if i < S ∧ 97 ≤ c i ∧ c i ≤ 122 then 1 else 0) := by
  obtain ⟨h1, h2, h3, h4, h5⟩ := T
  unfold fX10_isSmall
  simp only [jnx1_eq, h3]
  by_cases d : i < S
  · rw [if_neg (fun z => absurd ((leN (by omega) (by omega)).mp z) (by omega)), gdN (show i < 700 by omega) (by omega), gdN (show i < 700 by omega) (by omega), clN (show i < 1000000 by omega), (h4 i (by omega)).2.1]
    have hc := (h4 i (by omega)).1
    have e1 : (nI (c i) < (97 : Int32)) ↔ c i < 97 := ltN (a := c i) (b := 97) (by omega) (by omega)
    have e2 : ((122 : Int32) < nI (c i)) ↔ 122 < c i := ltN (a := 122) (b := c i) (by omega) (by omega)
    by_cases a : c i < 97
    · rw [if_pos (e1.mpr a), if_neg (by omega)]
      exact gdb0
    · rw [if_neg (fun z => a (e1.mp z))]
      by_cases b : 122 < c i
      · rw [if_pos (e2.mpr b), if_neg (by omega)]
        exact gdb0
      · rw [if_neg (fun z => b (e2.mp z)), if_pos (by omega)]
        exact gdb1
  · rw [if_pos ((leN (by omega) (by omega)).mpr (by omega)), if_neg (by omega)]
    exact gdb0
theorem digM {c : Nat → Nat} {S : Nat} {σB σM : St} (T : TC c S σB σM) (i : Nat) (hi : i ≤ S) : fX10_isDigit σM (nI i) = some (if i < S ∧ 48 ≤ c i ∧ c i ≤ 57 then 1 else 0) := by
  obtain ⟨h1, h2, h3, h4, h5⟩ := T
  unfold fX10_isDigit
  simp only [jnx1_eq, h3]
  by_cases d : i < S
  · rw [if_neg (fun z => absurd ((leN (by omega) (by omega)).mp z) (by omega)), gdN (show i < 700 by omega) (by omega), gdN (show i < 700 by omega) (by omega), clN (show i < 1000000 by omega), (h4 i (by omega)).2.1]
    have hc := (h4 i (by omega)).1
    have e1 : (nI (c i) < (48 : Int32)) ↔ c i < 48 := ltN (a := c i) (b := 48) (by omega) (by omega)
    have e2 : ((57 : Int32) < nI (c i)) ↔ 57 < c i := ltN (a := 57) (b := c i) (by omega) (by omega)
    by_cases a : c i < 48
    · rw [if_pos (e1.mpr a), if_neg (by omega)]
      exact gdb0
    · rw [if_neg (fun z => a (e1.mp z))]
      by_cases b : 57 < c i
      · rw [if_pos (e2.mpr b), if_neg (by omega)]
        exact gdb0
      · rw [if_neg (fun z => b (e2.mp z)), if_pos (by omega)]
        exact gdb1
  · rw [if_pos ((leN (by omega) (by omega)).mpr (by omega)), if_neg (by omega)]
    exact gdb0
def swp (j : Nat) : Nat := if j = 9 then 10 else if j = 10 then 9 else j
/-- a token of both sides -/
def KR (kB vB kM wM : Int32) : Prop :=
  (kB = 21 ∧ kM = 0) ∨ (∃ j, j < 19 ∧ kB = nI (swp j) ∧ kM = 1 ∧ wM = nI j) ∨ (kB = 19 ∧ kM = 2 ∧ vB = wM) ∨
  (kB = 20 ∧ kM = 3 ∧ ∃ v w, v ≤ 1000000 ∧ w ≤ 1000000 ∧ vB = nI v ∧ wM = nI w ∧ (v = w ∨ (99999 < v ∧ 99999 < w))) ∨
  (kB = 22 ∧ (kM = 6 ∨ (kM = 4 ∧ wM = 37))) ∨
  (kM = 4 ∧ ((kB = 23 ∧ wM = 59) ∨ (kB = 24 ∧ wM = 40) ∨ (kB = 25 ∧ wM = 41) ∨ (kB = 32 ∧ wM = 43) ∨ (kB = 33 ∧ wM = 45) ∨ (kB = 34 ∧ wM = 42) ∨ (kB = 35 ∧ wM = 47))) ∨
  (∃ j, j < 6 ∧ kB = nI (26 + j) ∧ kM = 5 ∧ wM = nI j)
def frT (σ σ' : St) : Prop := (∀ o, o ≠ 10 → gI σ' o = gI σ o) ∧ (∀ k, (k < 2 ∨ 5 < k) → gI σ' 10 k = gI σ 10 k) ∧ gA σ' = gA σ ∧ gR σ' = gR σ
def frU (σ σ' : St) : Prop := (∀ k, (k < 7 ∨ 10 < k) → gI σ' 0 k = gI σ 0 k) ∧ gA σ' = gA σ ∧ gJ σ' = gJ σ
theorem frT.rf (σ : St) : frT σ σ := ⟨fun _ _ => rfl, fun _ _ => rfl, rfl, rfl⟩
theorem frU.rf (σ : St) : frU σ σ := ⟨fun _ _ => rfl, rfl, rfl⟩
theorem frT.tr {a b c : St} (h : frT a b) (h' : frT b c) : frT a c := ⟨fun o ho => (h'.1 o ho).trans (h.1 o ho), fun k hk => (h'.2.1 k hk).trans (h.2.1 k hk), h'.2.2.1.trans h.2.2.1, h'.2.2.2.trans h.2.2.2⟩
theorem frU.tr {a b c : St} (h : frU a b) (h' : frU b c) : frU a c := ⟨fun k hk => (h'.1 k hk).trans (h.1 k hk), h'.2.1.trans h.2.1, h'.2.2.trans h.2.2⟩
theorem frT.s (σ : St) {k : Nat} (x : Int32) (h : 2 ≤ k ∧ k ≤ 5) : frT σ (sI σ 10 k x) := ⟨fun o ho => funext fun k' => gIo ho, fun k' hk => gIn (by omega), rfl, rfl⟩
theorem frU.s (σ : St) {k : Nat} (x : Int32) (h : 7 ≤ k ∧ k ≤ 10) : frU σ (sI σ 0 k x) := ⟨fun k' hk => gIn (by omega), rfl, rfl⟩
theorem TC.cg {c : Nat → Nat} {S : Nat} {σB σM σB' σM' : St} (T : TC c S σB σM) (hB : frT σB σB') (hM : frU σM σM') : TC c S σB' σM' := by
  obtain ⟨h1, h2, h3, h4, h5⟩ := T
  refine ⟨h1, by rw [hB.2.1 1 (by omega)]; exact h2, by rw [hM.1 6 (by omega)]; exact h3, fun i hi => by rw [hM.2.1, hB.2.2.1]; exact h4 i hi, by rw [hM.2.1]; exact h5⟩
/-- what reading a token gives -/
def TK (S i : Nat) (σB σM : St) : Prop := ∃ p i', i ≤ p ∧ p ≤ i' ∧ i' ≤ S ∧ gI σB 10 2 = nI i' ∧ gI σM 0 7 = nI i' ∧ gI σB 10 4 = nI p ∧ gI σM 0 10 = nI p ∧ KR (gI σB 10 3) (gI σB 10 5) (gI σM 0 8) (gI σM 0 9) ∧ (gI σB 10 3 = 21 ∨ p < i')
