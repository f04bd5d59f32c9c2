/-! MOST: round and round -/
def moF (self9 : Int32 → Int32 → Int32 → St → Option (Int32 × St)) (x5 : Int32) (x6 : Int32) (x7 : Int32) (σ8 : St) : Option (Int32 × St) := if (gI σ8 0 12) ≤ x6 then (some (x5, σ8)) else (Option.bind (fX10_isOn σ8 (1 : Int32) x7) fun r13 => jnx1 (fun (x14 : Int32) => jnx1 (fun (σ16 : St) => jnx1 (fun (x18 : Int32) => lt (x5 + x18) fun x20 => jnx1 (fun (x21 : Int32) => gd (¬ (gI σ16 0 12) = 0) (lt ((x7 + (1 : Int32)) - (x7 + (1 : Int32)) / (gI σ16 0 12) * (gI σ16 0 12)) fun x24 => self9 x20 x21 x24 σ16)) fun J22 => if x14 = 0 then (J22 (x6 + (1 : Int32))) else (J22 (0 : Int32))) fun J19 => if x14 = 0 then (J19 (0 : Int32)) else (J19 (1 : Int32))) fun J17 => if x14 = 0 then (J17 σ8) else (bV (fX10_raises σ8 (1 : Int32) x7) fun σ29 => J17 σ29)) fun J15 => jnx1 (fun (u9 : Unit) => J15 (0 : Int32)) fun J30 => if r13 = 0 then (J30 ()) else (Option.bind (fX10_mayRaise σ8 (1 : Int32) x7) fun r33 => if r33 = 0 then (J30 ()) else (J15 (1 : Int32))))
theorem most_unf (σ : St) : fX10_most σ = (lt (sI σ 0 2 (0 : Int32)) fun σ1 => if (gA σ1 0 57 (Int32.toNatClampNeg (0 : Int32))) = 0 then (bV (fX10_layTried σ1) fun σ4 => lpx4 FU moF (0 : Int32) (0 : Int32) (0 : Int32) σ4) else (some ((0 : Int32), σ1))) := rfl
def stB (h : Nat) (p : Nat × St) : Option (Nat × St) := (fX0_mayNod p.2 6 (nI h)).bind fun r => if r = 0 then some p else (fX0_raise p.2 6 (nI h)).bind fun s => some (p.1 + 1, s)
def flat (n : Nat) : Nat → Nat → Nat × St → Option (Nat × St)
  | 0, _, p => some p
  | m + 1, h, p => (stB h p).bind (flat n m ((h + 1) % n))
def QA (n : Nat) (σ : St) : Prop := ∀ h, h < n → fX0_mayNod σ 6 (nI h) = some 0
theorem flat_q {n : Nat} {σ : St} (hn : 0 < n) (Q : QA n σ) : ∀ (m h c : Nat), h < n → flat n m h (c, σ) = some (c, σ)
  | 0, _, _, _ => rfl
  | m + 1, h, c, hh => by
    rw [flat, stB, Q h hh, bS, if_pos rfl, bS]
    exact flat_q hn Q m _ c (Nat.mod_lt _ hn)
theorem flat_add {n : Nat} : ∀ (a b h : Nat) (p : Nat × St), h < n → flat n (a + b) h p = (flat n a h p).bind (flat n b ((h + a) % n))
  | 0, b, h, p, hh => by
    rw [Nat.zero_add, flat, bS, Nat.add_zero, Nat.mod_eq_of_lt hh]
  | a + 1, b, h, p, hh => by
    rw [show a + 1 + b = (a + b) + 1 by omega, flat, flat]
    cases hs : stB h p with
    | none => rfl
    | some q =>
      rw [bS, bS, flat_add a b _ q (Nat.mod_lt _ (by omega))]
      congr 2
      rw [Nat.mod_add_mod]
      congr 1
      omega
theorem flat_c {n : Nat} : ∀ (m h c k : Nat) (σ : St), flat n m h (c + k, σ) = (flat n m h (c, σ)).bind (fun q => some (q.1 + k, q.2))
  | 0, _, _, _, _ => rfl
  | m + 1, h, c, k, σ => by
    rw [flat, flat, stB, stB]
    cases hs : fX0_mayNod σ 6 (nI h) with
    | none => rfl
    | some r =>
      simp only [bS]
      by_cases e : r = 0
      · rw [if_pos e, if_pos e, bS, bS]
        exact flat_c m _ c k σ
      · rw [if_neg e, if_neg e]
        cases hr : fX0_raise σ 6 (nI h) with
        | none => rfl
        | some s =>
          rw [bS, bS, bS, bS, show c + k + 1 = c + 1 + k by omega]
          exact flat_c m _ (c + 1) k s
theorem flat_mono {n : Nat} : ∀ (m h c c' : Nat) (σ σ' : St), flat n m h (c, σ) = some (c', σ') → c ≤ c' ∧ (c' = c → σ' = σ ∧ ∀ d, d < m → ∃ r, fX0_mayNod σ 6 (nI (if d = 0 then h else (h + d) % n)) = some r ∧ r = 0)
  | 0, h, c, c', σ, σ', e => by
    cases e
    exact ⟨Nat.le_refl _, fun _ => ⟨rfl, fun d hd => absurd hd (by omega)⟩⟩
  | m + 1, h, c, c', σ, σ', e => by
    rw [flat, stB] at e
    cases hs : fX0_mayNod σ 6 (nI h) with
    | none => rw [hs] at e; cases e
    | some r =>
      rw [hs, bS] at e
      by_cases er : r = 0
      · rw [if_pos er, bS] at e
        obtain ⟨h1, h2⟩ := flat_mono m _ c c' σ σ' e
        refine ⟨h1, fun ec => ?_⟩
        obtain ⟨h3, h4⟩ := h2 ec
        refine ⟨h3, fun d hd => ?_⟩
        cases d with
        | zero => exact ⟨r, by rw [if_pos rfl]; exact hs, er⟩
        | succ d =>
          obtain ⟨r', h5, h6⟩ := h4 d (by omega)
          refine ⟨r', ?_, h6⟩
          rw [if_neg (by omega)]
          by_cases ed : d = 0
          · subst ed
            rw [if_pos rfl] at h5
            exact h5
          · rw [if_neg ed, Nat.mod_add_mod] at h5
            rw [show h + (d + 1) = h + 1 + d by omega]
            exact h5
      · rw [if_neg er] at e
        cases hr : fX0_raise σ 6 (nI h) with
        | none => rw [hr] at e; cases e
        | some s =>
          rw [hr, bS, bS] at e
          obtain ⟨h1, h2⟩ := flat_mono m _ (c + 1) c' s σ' e
          exact ⟨by omega, fun ec => by omega⟩
theorem flat_QA {n c : Nat} {σ σ' : St} (h : flat n n 0 (c, σ) = some (c, σ')) : σ' = σ ∧ QA n σ := by
  obtain ⟨h1, h2⟩ := flat_mono n 0 c c σ σ' h
  obtain ⟨h3, h4⟩ := h2 rfl
  refine ⟨h3, fun q hq => ?_⟩
  obtain ⟨r, h5, h6⟩ := h4 q hq
  subst h6
  rw [← h5]
  by_cases e : q = 0
  · subst e
    rw [if_pos rfl]
  · rw [if_neg e, Nat.zero_add, Nat.mod_eq_of_lt hq]
theorem raiseB_fr {σ σ' : St} {o h : Nat} (hh : h < 6) (e : fX0_raise σ o (nI h) = some σ') : frB o σ σ' := by
  unfold fX0_raise at e
  simp only [stepB_eq σ h hh, bS, lt_eq, gdN hh (show 6 ≤ 1000000 by omega), clN (show h < 1000000 by omega)] at e
  cases e
  exact ((((frB.wI _ _ _ (by omega)).tr (frB.wI _ _ _ (by omega))).tr (frB.wI _ _ _ (by omega))).tr (frB.wA _ _ _ _ (by omega))).tr (frB.wA _ _ _ _ (by omega))
theorem raiseB_14 {σ σ' : St} {o h : Nat} (hh : h < 6) (e : fX0_raise σ o (nI h) = some σ') : gI σ' o 14 = gI σ o 14 := by
  unfold fX0_raise at e
  simp only [stepB_eq σ h hh, bS, lt_eq, gdN hh (show 6 ≤ 1000000 by omega), clN (show h < 1000000 by omega)] at e
  cases e
  simp (disch := omega) only [gIA, gIn]
/-- a row of the class -/
theorem row_eq {n : Nat} (hn : n ≤ 6) {σ : St} (hT : gI σ (tx (gR σ 0)) 1 = nI n) : fX9_raisesInRow σ = (flat n n 0 (0, σ)).bind (fun q => some (nI q.1, q.2)) := by
  unfold fX9_raisesInRow
  generalize hFU : FU = Z
  refine lpx3_wp (fun q => q = (flat n n 0 (0, σ)).bind (fun q => some (nI q.1, q.2))) (fun j x y s => ∃ i c, i + j = n ∧ y = nI i ∧ x = nI c ∧ gI s (tx (gR s 0)) 1 = nI n ∧ (flat n j (i % n) (c, s)).bind (fun q => some (nI q.1, q.2)) = (flat n n 0 (0, σ)).bind (fun q => some (nI q.1, q.2))) ?_ Z n 0 0 σ (by rw [← hFU]; exact FU_gt (by omega)) ⟨0, 0, by omega, rfl, rfl, hT, by rw [Nat.zero_mod]⟩
  rintro j self x y s ⟨i, c, hi, rfl, rfl, hTs, hs⟩ ih
  rw [hTs]
  by_cases ci : n ≤ i
  · rw [if_pos ((leN (by omega) (by omega)).mpr ci), ← hs]
    have : j = 0 := by omega
    subst this
    rfl
  · rw [if_neg (fun z => ci ((leN (by omega) (by omega)).mp z))]
    obtain ⟨j', rfl⟩ : ∃ j', j = j' + 1 := ⟨j - 1, by omega⟩
    rw [Nat.mod_eq_of_lt (show i < n by omega), flat, stB] at hs
    simp only [jnx2_eq, lt_eq]
    cases hm : fX0_mayNod s 6 (nI i) with
    | none => rw [hm] at hs; rw [← hs]; rfl
    | some r =>
      rw [hm, bS] at hs
      rw [bS]
      by_cases er : r = 0
      · rw [if_pos er, bS] at hs
        rw [if_pos er]
        exact ih j' _ _ _ (by omega) ⟨i + 1, c, by omega, nI_1 i, rfl, hTs, hs⟩
      · rw [if_neg er] at hs ⊢
        cases hr : fX0_raise s 6 (nI i) with
        | none => rw [hr] at hs; rw [← hs]; rfl
        | some s' =>
          rw [hr, bS, bS] at hs
          rw [bVs]
          have fr := raiseB_fr (by omega) hr
          refine ih j' _ _ _ (by omega) ⟨i + 1, c + 1, by omega, nI_1 i, nI_1 c, ?_, hs⟩
          have a1 := tx_le (gR s 0)
          rw [fr.2.2.1, fr.1 _ (by omega)]
          exact hTs
theorem modA {n h d : Nat} (hh : h < n) (hd1 : 1 ≤ d) (hd : d ≤ n) : ((h + 1) % n + n - d) % n = (h + n - (d - 1)) % n := by
  by_cases e : h + 1 = n
  · rw [e, Nat.mod_self, Nat.zero_add, show h + n - (d - 1) = (n - d) + n by omega, Nat.add_mod_right]
  · rw [Nat.mod_eq_of_lt (show h + 1 < n by omega)]
    congr 1
    omega
set_option maxHeartbeats 2000000 in
theorem mostM {t : Bool} {n np : Nat} (hn0 : 0 < n) : ∀ (μ f c q h u : Nat) (σB σM : St), μ < f → REL0 t n np σB σM → CX t n np σB σM → SR n 9999 9000 σB 6 σM 1 → gI σB 6 14 = 0 → h < n → q ≤ n → (∀ d, 1 ≤ d → d ≤ q → fX0_mayNod σB 6 (nI ((h + n - d) % n)) = some 0) → gI σB 6 9 = nI u → u ≤ 9999 → (9999 - u) * 7 + (n - q) ≤ μ →
    ∃ m r σB' σM', lpx4 f moF (nI c) (nI q) (nI h) σM = some (nI (c + r), σM') ∧ flat n m h (0, σB) = some (r, σB') ∧ QA n σB' ∧ REL0 t n np σB' σM' ∧ (∃ u', gI σB' 6 9 = nI u' ∧ u + r ≤ u' ∧ u' ≤ 9999) ∧ m ≤ μ := by
  intro μ
  induction μ using Nat.strongRecOn with
  | ind μ IH =>
    intro f c q h u σB σM hf R C S hfl hh hq hQ hu hu9 hμ
    have hn6 := C.1.n6
    have hp6 := pow6 hn6
    obtain ⟨f', rfl⟩ : ∃ f', f = f' + 1 := ⟨f - 1, by omega⟩
    show ∃ m r σB' σM', moF (lpx4 f' moF) (nI c) (nI q) (nI h) σM = some (nI (c + r), σM') ∧ _
    unfold moF
    rw [C.1.hM]
    by_cases cq : n ≤ q
    · rw [if_pos ((leN (by omega) (by omega)).mpr cq)]
      refine ⟨0, 0, σB, σM, rfl, rfl, fun h0 hh0 => ?_, R, ⟨u, hu, by omega, hu9⟩, by omega⟩
      by_cases e : h0 < h
      · have := hQ (h - h0) (by omega) (by omega)
        rw [show h + n - (h - h0) = h0 + n by omega, Nat.add_mod_right, Nat.mod_eq_of_lt hh0] at this
        exact this
      · have := hQ (h + n - h0) (by omega) (by omega)
        rw [show h + n - (h + n - h0) = h0 by omega, Nat.mod_eq_of_lt hh0] at this
        exact this
    · rw [if_neg (fun z => cq ((leN (by omega) (by omega)).mp z))]
      obtain ⟨m, m1, m2, m3⟩ := S.2.1
      have o1 := isOn_eq (b := 1) C.1.hM hn6 (by omega) hh (m3 h hh)
      have o2 : fX10_isOn σM 1 (nI h) = _ := o1
      obtain ⟨cc, hdec, k1, k2, k3⟩ := may_sim C S (b := 1) (by omega) hh
      have k1' : fX10_mayRaise σM 1 (nI h) = some (if cc then 1 else 0) := k1
      have e14 : gI σB 6 14 = gA σM 0 57 1 := S.2.2.1 14 (by unfold isS; omega)
      have hz : ¬ nI n = 0 := fun z => by have := (eqN (a := n) (b := 0) (by omega) (by omega)).mp z; omega
      simp only [jnx1_eq, lt_eq, o2, k1', bS, ifi0, C.1.hM, gd_pos hz, nI_1, pk_rem (show h + 1 < 2 ^ 31 by omega) (show 0 < n by omega) (show n < 2 ^ 31 by omega), if_true, if_neg ne10]
      have hmd : (h + 1) % n < n := Nat.mod_lt _ hn0
      -- quiet
      have quiet : fX0_mayNod σB 6 (nI h) = some 0 → ∃ m r σB' σM', lpx4 f' moF (nI c + 0) (nI (q + 1)) (nI ((h + 1) % n)) σM = some (nI (c + r), σM') ∧ flat n m h (0, σB) = some (r, σB') ∧ QA n σB' ∧ REL0 t n np σB' σM' ∧ (∃ u', gI σB' 6 9 = nI u' ∧ u + r ≤ u' ∧ u' ≤ 9999) ∧ m ≤ μ := by
        intro hm
        rw [show nI c + 0 = nI c from by rw [show (0 : Int32) = nI 0 from rfl, nI_add, Nat.add_zero]]
        obtain ⟨m', r, σB', σM', g1, g2, g3, g4, g5, g8⟩ := IH (μ - 1) (by omega) f' c (q + 1) ((h + 1) % n) u σB σM (by omega) R C S hfl hmd (by omega) (fun d d1 d2 => by
          rw [modA hh d1 (by omega)]
          by_cases e : d = 1
          · subst e
            rw [show h + n - (1 - 1) = h + n by omega, Nat.add_mod_right, Nat.mod_eq_of_lt hh]
            exact hm
          · exact hQ (d - 1) (by omega) (by omega)) hu hu9 (by omega)
        refine ⟨m' + 1, r, σB', σM', g1, ?_, g3, g4, g5, by omega⟩
        rw [flat, stB, hm, bS, if_pos rfl, bS]
        exact g2
      have m3h := m3 h hh
      by_cases hc : gA σM 0 57 1 = 0 ∧ gA σM 0 49 (6 * 1 + h) = 1 ∧ cc
      · rw [if_pos hc] at k2
        have hb : m.testBit h = true := by
          rw [hc.2.1] at m3h
          cases hb : m.testBit h
          · rw [hb] at m3h
            exact absurd m3h (by decide)
          · rfl
        rw [if_pos hb, if_pos hc.2.2]
        obtain ⟨σB1, σM1, r1, r2, r3, r4, r5, r6, r7, r8, r9, u0, v, u1, u2, u3, u4⟩ := raise_sim C S (by omega) ⟨by omega, by omega⟩ (b := 1) (by omega) hh (k3 hc.2.2)
        have r2' : fX10_raises σM 1 (nI h) = some σM1 := r2
        rw [r2', bVs]
        have C1 := C.cg ⟨by omega, by omega⟩ r4 r5
        have eu : u0 = u := (nI_eq (by omega) (by omega)).mp (u1.symm.trans hu)
        subst eu
        have R1 := R.q (qB.fr (Or.inl rfl) r4) (qM.fr r5 (by rw [r8]))
        have hz1 : ¬ gI σM1 0 12 = 0 := by rw [C1.1.hM]; exact hz
        rw [C1.1.hM, gd_pos hz, pk_rem (show h + 1 < 2 ^ 31 by omega) (show 0 < n by omega) (show n < 2 ^ 31 by omega)]
        obtain ⟨m', r, σB', σM', g1, g2, g3, g4, ⟨u', g5, g6, g7⟩, g8⟩ := IH ((9999 - v) * 7 + n) (by omega) f' (c + 1) 0 ((h + 1) % n) v σB1 σM1 (by omega) R1 C1 r3 (by rw [raiseB_14 (by omega) r1]; exact hfl) hmd (by omega) (fun d d1 d2 => by omega) u2 u4 (by omega)
        refine ⟨m' + 1, r + 1, σB', σM', ?_, ?_, g3, g4, ⟨u', g5, by omega, g7⟩, by omega⟩
        · rw [show c + (r + 1) = c + 1 + r by omega, ← g1]
          rfl
        · rw [flat, stB, k2, bS, if_neg ne10, r1, bS, bS]
          have := flat_c (n := n) m' ((h + 1) % n) 0 1 σB1
          rw [g2, bS] at this
          exact this
      · rw [if_neg hc] at k2
        by_cases hb : m.testBit h = true
        · rw [if_pos hb]
          have hcc : ¬ cc := fun z => hc ⟨by rw [← e14]; exact hfl, by rw [m3h, if_pos hb], z⟩
          rw [if_neg hcc]
          exact quiet k2
        · rw [if_neg hb]
          exact quiet k2
theorem flat_fr {n : Nat} (hn : n ≤ 6) (hn0 : 0 < n) : ∀ (m h c c' : Nat) (σ σ' : St), h < n → flat n m h (c, σ) = some (c', σ') → frB 6 σ σ'
  | 0, h, c, c', σ, σ', _, e => by
    cases e
    exact frB.rf _ _
  | m + 1, h, c, c', σ, σ', hh, e => by
    rw [flat, stB] at e
    cases hs : fX0_mayNod σ 6 (nI h) with
    | none => rw [hs] at e; cases e
    | some r =>
      rw [hs, bS] at e
      by_cases er : r = 0
      · rw [if_pos er, bS] at e
        exact flat_fr hn hn0 m _ c c' σ σ' (Nat.mod_lt _ hn0) e
      · rw [if_neg er] at e
        cases hr : fX0_raise σ 6 (nI h) with
        | none => rw [hr] at e; cases e
        | some s =>
          rw [hr, bS, bS] at e
          exact (raiseB_fr (by omega) hr).tr (flat_fr hn hn0 m _ (c + 1) c' s σ' (Nat.mod_lt _ hn0) e)
def mrF (self6 : Int32 → Int32 → St → Option (Int32 × St)) (x3 : Int32) (x4 : Int32) (σ5 : St) : Option (Int32 × St) := if (20000 : Int32) ≤ x4 then some (x3, σ5) else bI (fX9_raisesInRow σ5) fun r12 σ13 => if r12 = 0 then some (x3, σ13) else self6 (x3 + r12) (x4 + 1) σ13
theorem mrF_eq (self6 : Int32 → Int32 → St → Option (Int32 × St)) (x3 x4 : Int32) (σ5 : St) : mrF self6 x3 x4 σ5 = if (20000 : Int32) ≤ x4 then some (x3, σ5) else bI (fX9_raisesInRow σ5) fun r12 σ13 => if r12 = 0 then some (x3, σ13) else self6 (x3 + r12) (x4 + 1) σ13 := rfl
theorem mostB_unf (σ : St) : fX9_most σ = bV (fX9_tryAsItGoes σ) fun σ2 => lpx3 FU mrF 0 0 σ2 := by
  unfold fX9_most
  generalize FU = Z
  simp only [jnx1_eq, lt_eq]
  rfl
theorem row_T {s s' : St} {n : Nat} (fr : frB 6 s s') (hT : gI s (tx (gR s 0)) 1 = nI n) : gI s' (tx (gR s' 0)) 1 = nI n := by
  have a1 := tx_le (gR s 0)
  rw [fr.2.2.1, fr.1 _ (by omega)]
  exact hT
theorem rows_run {n : Nat} (hn0 : 0 < n) (hn : n ≤ 6) : ∀ (m f x i r : Nat) (s s' : St), m < f → gI s (tx (gR s 0)) 1 = nI n → flat n m 0 (0, s) = some (r, s') → QA n s' → i + r < 15000 → lpx3 (f + 2) mrF (nI x) (nI i) s = some (nI (x + r), s') := by
  have i2 : ∀ i, i < 15000 → ¬ (20000 : Int32) ≤ nI i := fun i hi z => by have := (leN (a := 20000) (b := i) (by omega) (by omega)).mp z; omega
  have last : ∀ (f x i : Nat) (s : St), i < 15000 → gI s (tx (gR s 0)) 1 = nI n → QA n s → lpx3 (f + 1) mrF (nI x) (nI i) s = some (nI x, s) := by
    intro f x i s hi hT hQ
    show mrF (lpx3 f mrF) (nI x) (nI i) s = _
    rw [mrF_eq, if_neg (i2 i hi), row_eq hn hT, flat_q hn0 hQ n 0 0 hn0, bS, bIs, if_pos (show nI 0 = 0 from rfl)]
  intro m
  induction m using Nat.strongRecOn with
  | ind m IH =>
    intro f x i r s s' hmf hT hfl hQ hi
    show mrF (lpx3 (f + 1) mrF) (nI x) (nI i) s = _
    rw [mrF_eq, if_neg (i2 i (by omega)), row_eq hn hT]
    by_cases hmn : m ≤ n
    · have e1 : flat n n 0 (0, s) = some (r, s') := by
        have := flat_add (n := n) m (n - m) 0 (0, s) hn0
        rw [show m + (n - m) = n by omega, hfl, bS, flat_q hn0 hQ _ _ _ (Nat.mod_lt _ hn0)] at this
        exact this
      rw [e1, bS, bIs]
      by_cases er : r = 0
      · subst er
        rw [if_pos (show nI 0 = 0 from rfl)]
        rfl
      · rw [if_neg (show ¬ nI r = 0 from fun z => er ((nI_eq (a := r) (b := 0) (by omega) (by omega)).mp z)), nI_add, nI_1]
        exact last f (x + r) (i + 1) s' (by omega) (row_T (flat_fr hn hn0 _ _ _ _ _ _ hn0 e1) hT) hQ
    · have e1 := flat_add (n := n) n (m - n) 0 (0, s) hn0
      rw [show n + (m - n) = m by omega, hfl] at e1
      cases hrow : flat n n 0 (0, s) with
      | none => rw [hrow] at e1; cases e1
      | some q =>
        obtain ⟨r1, s1⟩ := q
        rw [hrow, bS, Nat.zero_add, Nat.mod_self] at e1
        rw [bS, bIs]
        by_cases er : r1 = 0
        · subst er
          obtain ⟨es, hQ1⟩ := flat_QA hrow
          subst es
          rw [flat_q hn0 hQ1 _ _ _ hn0] at e1
          injection e1 with e1
          injection e1 with e2 e3
          subst e2 e3
          rw [if_pos (show nI 0 = 0 from rfl)]
          rfl
        · have e2 := flat_c (n := n) (m - n) 0 0 r1 s1
          rw [Nat.zero_add] at e2
          rw [e2] at e1
          cases hrest : flat n (m - n) 0 (0, s1) with
          | none => rw [hrest] at e1; cases e1
          | some q2 =>
            obtain ⟨r2, s2⟩ := q2
            rw [hrest, bS] at e1
            injection e1 with e1
            injection e1 with e3 e4
            subst e4
            have e3' : r = r2 + r1 := e3
            rw [if_neg (show ¬ nI r1 = 0 from fun z => er ((nI_eq (a := r1) (b := 0) (by omega) (by omega)).mp z)), nI_add, nI_1]
            obtain ⟨f', rfl⟩ : ∃ f', f = f' + 1 := ⟨f - 1, by omega⟩
            have h9 := IH (m - n) (by omega) f' (x + r1) (i + 1) r2 s1 s' (by omega) (row_T (flat_fr hn hn0 _ _ _ _ _ _ hn0 hrow) hT) hrest hQ (by omega)
            rw [show x + r1 + r2 = x + r by omega] at h9
            exact h9
