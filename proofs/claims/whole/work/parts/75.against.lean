set_option maxHeartbeats 1000000 in
theorem st16 : ST16 REL := by
  rintro σB σM a0 a1 a2 ⟨t, n, np, R⟩
  have R0 := R.th
  have hn6 := R.2.2.1.n6
  unfold fX9_against fX10_against
  simp only [lt_eq, jnx1_eq, isWithin_eq, isInM_eq, bS, ifi0, cl0]
  generalize sI σM 0 2 0 = σ1 at *
  obtain ⟨tw1, tw2⟩ := two_sim a0 a1 hn6 (agr R0) R0.2.2.1.hM R0.2.2.2.1
  rw [tw1]
  rcases tw2 with ⟨a, c, ha, hc, rfl, rfl, hne, -, -, tw⟩ | tw
  · rw [tw, bS, bS, if_neg ne10, if_neg ne10]
    by_cases c2 : (0 : Int32) ≤ a2 ∧ a2 ≤ 1
    · rw [if_pos c2, if_pos c2]
      obtain ⟨w, -, hw, rfl⟩ := in_nat 0 1 c2 (by omega) (by omega)
      obtain ⟨b, b1, b2⟩ := R0.2.2.2.1.2.2.2.2.2.2.2.1
      have b3 : gA σ1 0 54 0 = nI b := by rw [← b2]; exact (R0.s5 9 (by unfold isS; omega)).symm
      rw [b2, b3, R0.1]
      have fin : ∀ (u : Nat) (tu : Nat) (wt : Int32), tu < 2 → (wt = if tu = 0 then nI c else nI a) → SIM (fun (q : Int32) (q' : Int32 × St) => q = q'.1 ∧ REL σB q'.2) (if nI w = 1 then some (nI u) else if wt = nI a then some (0 : Int32) else some 1) (if nI w = 0 then some ((1 : Int32) - nI tu, σ1) else some (nI u, σ1)) := by
        intro u tu wt htu hwt
        have hca : ¬ nI c = nI a := fun z => hne ((eqN (a := c) (b := a) (by omega) (by omega)).mp z).symm
        obtain rfl | rfl : w = 0 ∨ w = 1 := by omega
        · rw [if_neg (show ¬ nI 0 = 1 by decide), if_pos (show nI 0 = 0 from rfl)]
          obtain rfl | rfl : tu = 0 ∨ tu = 1 := by omega
          · rw [hwt, if_pos rfl, if_neg hca]
            exact SIM.ret ⟨(by decide : (1 : Int32) = 1 - nI 0), R0.r⟩
          · rw [hwt, if_neg (show ¬ (1 : Nat) = 0 by omega), if_pos rfl]
            exact SIM.ret ⟨(by decide : (0 : Int32) = 1 - nI 1), R0.r⟩
        · rw [if_pos (show nI 1 = 1 from rfl), if_neg (show ¬ nI 1 = 0 by decide)]
          exact SIM.ret ⟨rfl, R0.r⟩
      generalize hFU : FU = Z
      refine simlp4_2 _ (fun j x p q y x' tu => ∃ u i k, x = nI u ∧ x' = nI u ∧ u ≤ 9999 ∧ u + j = 10000 ∧ y = nI i ∧ i ≤ u ∧ k < 2 ∧ tu = nI k ∧ p = (if k = 0 then nI a else nI c) ∧ q = (if k = 0 then nI c else nI a)) ?_ Z Z (10000 - b) (nI b) (nI a) (nI c) 0 (nI b) 0 (by rw [← hFU]; exact FU_gt (by omega)) (by rw [← hFU]; exact FU_gt (by omega)) ⟨b, 0, 0, rfl, rfl, b1, by omega, rfl, by omega, by omega, rfl, rfl, rfl⟩
      rintro j sF sG x p q y x' tu ⟨u, i, k, rfl, rfl, hu, huj, rfl, hiu, hk, rfl, hp, hq⟩ ih
      rw [if_neg (show ¬ (20000 : Int32) ≤ nI i from fun z => by have := (leN (a := 20000) (b := i) (by omega) (by omega)).mp z; omega)]
      obtain ⟨h, hh, eh⟩ : ∃ h, h < n ∧ (if k = 0 then nI a else nI c) = nI h := by
        by_cases e : k = 0
        · exact ⟨a, ha, by rw [if_pos e]⟩
        · exact ⟨c, hc, by rw [if_neg e]⟩
      have eh2 : (if nI k = 0 then nI a else nI c) = nI h := by
        rw [← eh]
        by_cases e : k = 0
        · rw [if_pos e, if_pos (show nI k = 0 by rw [e]; rfl)]
        · rw [if_neg e, if_neg (show ¬ nI k = 0 from fun z => e ((eqN (a := k) (b := 0) (by omega) (by omega)).mp z))]
      have pull : ∀ {β : Type} (K : Int32 → Option β) (c : Prop) [Decidable c] (x y : Int32), (if c then K x else K y) = K (if c then x else y) := fun K c _ x y => by split <;> rfl
      rw [pull (fun x14 => gd (ixI x14 12) (gd (ixI x14 12) (if gA σ1 0 46 (Int32.toNatClampNeg x14) < nI u + gA σ1 0 23 (Int32.toNatClampNeg x14) then (if nI w = 0 then some ((1 : Int32) - nI k, σ1) else some (nI u, σ1)) else gd (ixI x14 12) (if nI u + gA σ1 0 23 (Int32.toNatClampNeg x14) < gA σ1 0 22 (Int32.toNatClampNeg x14) then sG (nI u + gA σ1 0 23 (Int32.toNatClampNeg x14)) ((1 : Int32) - nI k) else (if nI w = 0 then some ((1 : Int32) - nI k, σ1) else some (nI u, σ1)))))), eh2, hp, eh]
      obtain ⟨st, st0, st1, st2⟩ := R0.2.2.1.stp h hh
      obtain ⟨v, -, v1, v2⟩ := R0.2.2.2.1.2.2.2.1 h hh
      have e5 : gA σB (tx t) 5 h = gA σ1 0 23 h := R0.2.2.1.hA 5 (by omega) (by omega) h hh
      have e4 : gA σB (tx t) 4 h = gA σ1 0 22 h := R0.2.2.1.hA 4 (by omega) (by omega) h hh
      have e0 : gA σB 5 0 h = gA σ1 0 46 h := R0.a5 0 h (by omega) hh
      simp only [gdN (show h < 6 by omega) (show 6 ≤ 1000000 by omega), gdN (show h < 12 by omega) (show 12 ≤ 1000000 by omega), clN (show h < 1000000 by omega), e5, e4, e0, st2, nI_add]
      by_cases d1 : gA σ1 0 46 h < nI (u + st)
      · rw [if_pos d1, if_pos d1]
        exact fin u k q hk hq
      · rw [if_neg d1, if_neg d1]
        by_cases d2 : nI (u + st) < gA σ1 0 22 h
        · rw [if_pos d2, if_pos d2]
          have hle : u + st ≤ 9999 := by
            rw [← e0, v2] at d1
            have : ¬ v < u + st := fun z => d1 ((ltN (by omega) (by omega)).mpr z)
            omega
          refine ih (10000 - (u + st)) _ _ _ _ _ _ (by omega) ⟨u + st, i + 1, 1 - k, rfl, rfl, hle, by omega, nI_1 i, by omega, by omega, ?_, ?_, ?_⟩
          · rw [show (1 : Int32) = nI 1 from rfl, pk_sub (by omega)]
          · rw [hq]
            by_cases e : k = 0
            · rw [if_pos e, if_neg (by omega)]
            · rw [if_neg e, if_pos (by omega)]
          · rw [← eh]
            by_cases e : k = 0
            · rw [if_pos e, if_neg (by omega)]
            · rw [if_neg e, if_pos (by omega)]
        · rw [if_neg d2, if_neg d2]
          exact fin u k q hk hq
    · rw [if_neg c2, if_neg c2]
      exact SIM.ret ⟨rfl, R0.r⟩
  · rw [tw, bS, bS, if_pos rfl, if_pos rfl]
    exact SIM.ret ⟨rfl, R0.r⟩
/-! OUTBID -/
theorem andn : ∀ m, m < 64 → ∀ s, s < 64 → (nI m &&& (nI s ^^^ (-1 : Int32)) = nI (m &&& (63 ^^^ s)) ∧ (m &&& (63 ^^^ s)) < 64) := by decide +kernel
theorem b63 : ∀ h, h < 6 → (63 : Nat).testBit h = true := by decide
/-- who outbids all others -/
def obOK (σM : St) (n m s v : Nat) : Prop := ∀ h, h < n → m.testBit h = true → s.testBit h = false → gA σM 0 46 h < nI v
theorem obB {t : Bool} {n np : Nat} {σB σM : St} {m s v l : Nat} (R : REL0 t n np σB σM) (hm : gI σB 5 6 = nI m) (hm6 : m < 64) (hs : s < 64) (h1 : fX9_sumOfBounds σB (nI s) = some (nI v)) (h2 : fX9_leastStep σB (nI s) = some (nI l)) : (obOK σM n m s v → fX9_outbidsOthers σB (nI s) = some (if nI v < gA σM 0 54 0 + nI l then 0 else 1)) ∧ (¬ obOK σM n m s v → fX9_outbidsOthers σB (nI s) = some 0) := by
  have hn6 := R.2.2.1.n6
  have s9 : gI σB 5 9 = gA σM 0 54 0 := R.s5 9 (by unfold isS; omega)
  unfold fX9_outbidsOthers
  rw [h1, bS, agr R, h2, s9, bS]
  simp only [jnx1_eq, gdb0, gdb1]
  have step : ∀ (T : Option Int32 → Prop) (start : Prop), ((∀ h, h < n → m.testBit h = true → s.testBit h = false → gA σM 0 46 h < nI v) → T (if nI v < gA σM 0 54 0 + nI l then some 0 else some 1)) → (¬ obOK σM n m s v → T (some 0)) → T (lpx1 FU (fun self4 (x3 : Int32) => if nI n ≤ x3 then (if nI v < gA σM 0 54 0 + nI l then some (0 : Int32) else some 1) else Option.bind (fX4_holds σB 5 x3) fun r14 => if r14 = 0 then (if (0 : Int32) = 0 then lt (x3 + 1) fun x18 => self4 x18 else gd (ixI x3 6) (if gA σB 5 0 (Int32.toNatClampNeg x3) < nI v then lt (x3 + 1) fun x18 => self4 x18 else some 0)) else if (nI s >>> (x3 &&& 31)) &&& 1 = 0 then (if (1 : Int32) = 0 then lt (x3 + 1) fun x18 => self4 x18 else gd (ixI x3 6) (if gA σB 5 0 (Int32.toNatClampNeg x3) < nI v then lt (x3 + 1) fun x18 => self4 x18 else some 0)) else (if (0 : Int32) = 0 then lt (x3 + 1) fun x18 => self4 x18 else gd (ixI x3 6) (if gA σB 5 0 (Int32.toNatClampNeg x3) < nI v then lt (x3 + 1) fun x18 => self4 x18 else some 0))) 0) := by
    intro T _ hT1 hT2
    generalize hFU : FU = Z
    refine lpx1_wp T (fun j x => ∃ i, i + j = n ∧ x = nI i ∧ ∀ h, h < i → m.testBit h = true → s.testBit h = false → gA σM 0 46 h < nI v) ?_ Z n 0 (by rw [← hFU]; exact FU_gt (by omega)) ⟨0, by omega, rfl, fun h hh => by omega⟩
    rintro j self x ⟨i, hi, rfl, hI⟩ ih
    by_cases c : n ≤ i
    · rw [if_pos ((leN (by omega) (by omega)).mpr c)]
      exact hT1 (fun h hh => hI h (by omega))
    · have e0 : gA σB 5 0 i = gA σM 0 46 i := R.a5 0 i (by omega) (by omega)
      rw [if_neg (fun z => c ((leN (by omega) (by omega)).mp z)), holds_eq hm hm6 (by omega), bS, ifi0, bit01 s hs i (by omega), gdN (show i < 6 by omega) (by omega), clN (by omega), e0]
      simp only [lt_eq, if_true, if_neg ne10, ifi0]
      have nxt : (m.testBit i = true → s.testBit i = false → gA σM 0 46 i < nI v) → T (self (nI i + 1)) := fun hx => ih (j - 1) _ (by omega) ⟨i + 1, by omega, nI_1 i, fun h hh q1 q2 => by
        by_cases e : h = i
        · subst e; exact hx q1 q2
        · exact hI h (by omega) q1 q2⟩
      cases hmb : m.testBit i
      · rw [if_neg (by simp)]
        exact nxt (fun z => by rw [hmb] at z; exact absurd z (by decide))
      · rw [if_pos rfl]
        cases hsb : s.testBit i
        · rw [if_neg (by simp)]
          by_cases d : gA σM 0 46 i < nI v
          · rw [if_pos d]
            exact nxt (fun _ _ => d)
          · rw [if_neg d]
            exact hT2 (fun z => d (z i (by omega) hmb hsb))
        · rw [if_pos rfl]
          exact nxt (fun _ z => by rw [hsb] at z; exact absurd z (by decide))
  constructor
  · intro ok
    refine step (fun q => q = some (if nI v < gA σM 0 54 0 + nI l then 0 else 1)) True (fun _ => ?_) (fun z => absurd ok z)
    split <;> rfl
  · intro nok
    exact step (fun q => q = some 0) True (fun z => absurd z nok) (fun _ => rfl)
