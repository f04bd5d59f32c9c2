theorem b255 (x : Int32) : ∃ c, c < 256 ∧ x &&& 255 = nI c ∧ x.toInt8.toInt32 = bytN c := by
  refine ⟨x.toBitVec.toNat % 256, Nat.mod_lt _ (by omega), ?_, ?_⟩
  · apply Int32.toBitVec_inj.mp
    apply BitVec.eq_of_toNat_eq
    rw [Int32.toBitVec_and, BitVec.toNat_and]
    show x.toBitVec.toNat &&& (2 ^ 8 - 1) = _
    rw [Nat.and_two_pow_sub_one_eq_mod]
    show _ = (Int32.ofNat (x.toBitVec.toNat % 256)).toBitVec.toNat
    rw [Int32.toBitVec_ofNat', BitVec.toNat_ofNat]
    have : x.toBitVec.toNat % 256 < 256 := Nat.mod_lt _ (by omega)
    omega
  · apply Int32.toInt_inj.mp
    rw [Int8.toInt_toInt32, Int32.toInt_toInt8]
    have h0 : x.toInt = (x.toBitVec.toNat : Int).bmod (2 ^ 32) := BitVec.toInt_eq_toNat_bmod _
    rw [h0, Int.bmod_bmod_of_dvd (by decide)]
    generalize x.toBitVec.toNat = b
    have hb : b % 256 < 256 := Nat.mod_lt _ (by omega)
    unfold bytN
    by_cases c : b % 256 < 128
    · rw [if_pos c, nI_toInt (by omega), Int.bmod_def]
      omega
    · rw [if_neg c, Int32.toInt_sub, nI_toInt (by omega), show (256 : Int32).toInt = 256 from by decide, Int.bmod_def, Int.bmod_def]
      have h1 : (((b % 256 : Nat) : Int) - 256) % ((2 ^ 32 : Nat) : Int) = ((b % 256 : Nat) : Int) - 256 + 4294967296 := by omega
      rw [h1]
      omega
def bB (w : Int32) (q : Nat) : Int32 := vp_nar .byte (Int8.toInt32 (Int32.toInt8 (w >>> (nI (24 - 8 * q) &&& 31))))
def mB (w : Int32) (q : Nat) : Int32 := (w >>> (nI (24 - 8 * q) &&& 31)) &&& 255
theorem bm (w : Int32) (q : Nat) : ∃ c, c < 256 ∧ mB w q = nI c ∧ bB w q = bytN c := by
  obtain ⟨c, h1, h2, h3⟩ := b255 (w >>> (nI (24 - 8 * q) &&& 31))
  refine ⟨c, h1, h2, ?_⟩
  unfold bB
  rw [pk_vb]
  exact h3

def wd (p0 p1 p2 p3 p4 : Int32) (q : Nat) : Int32 := if q < 4 then p0 else if q < 8 then p1 else if q < 12 then p2 else if q < 16 then p3 else p4
/-- what changes at feeding, class -/
def frF (σ σ' : St) : Prop := (∀ o, o ≠ 0 → gI σ' o = gI σ o) ∧ (∀ k, k ≠ 1 → gI σ' 0 k = gI σ 0 k) ∧ (∀ o, o ≠ 0 → gA σ' o = gA σ o) ∧ gR σ' = gR σ
theorem frF.tr {σ σ' σ'' : St} (h : frF σ σ') (h' : frF σ' σ'') : frF σ σ'' := ⟨fun o ho => (h'.1 o ho).trans (h.1 o ho), fun k hk => (h'.2.1 k hk).trans (h.2.1 k hk), fun o ho => (h'.2.2.1 o ho).trans (h.2.2.1 o ho), h'.2.2.2.trans h.2.2.2⟩
theorem sub8 {q : Nat} (h : q < 4) : nI (24 - 8 * q) + (-8 : Int32) = if q = 3 then (-8 : Int32) else nI (24 - 8 * (q + 1)) := by
  obtain rfl | rfl | rfl | rfl : q = 0 ∨ q = 1 ∨ q = 2 ∨ q = 3 := by omega
  all_goals decide
theorem put4_eq (σ : St) (w : Int32) (L : Nat) (hL : L + 4 ≤ 700) (h : gI σ 0 1 = nI L) : ∃ σ', fX9_putFourBytes σ w = some σ' ∧ frF σ σ' ∧ gI σ' 0 1 = nI (L + 4) ∧ ∀ i, gA σ' 0 0 i = if L ≤ i ∧ i < L + 4 then bB w (i - L) else gA σ 0 0 i := by
  unfold fX9_putFourBytes
  generalize hFU : FU = Z
  refine lpx2_wp (fun r => ∃ σ', r = some σ' ∧ frF σ σ' ∧ gI σ' 0 1 = nI (L + 4) ∧ ∀ i, gA σ' 0 0 i = if L ≤ i ∧ i < L + 4 then bB w (i - L) else gA σ 0 0 i) (fun j x s => ∃ q, q + j = 4 ∧ x = (if q = 4 then (-8 : Int32) else nI (24 - 8 * q)) ∧ frF σ s ∧ gI s 0 1 = nI (L + q) ∧ ∀ i, gA s 0 0 i = if L ≤ i ∧ i < L + q then bB w (i - L) else gA σ 0 0 i) ?_ Z 4 24 σ (by rw [← hFU]; exact FU_gt (by omega)) ⟨0, by omega, by rw [if_neg (by omega)]; rfl, ⟨fun _ _ => rfl, fun _ _ => rfl, fun _ _ => rfl, rfl⟩, h, fun i => by rw [if_neg (by omega)]⟩
  rintro j self x s ⟨q, hq, hx, e1, e2, e3⟩ ih
  by_cases c : q = 4
  · subst c
    rw [if_pos rfl] at hx
    subst hx
    rw [if_pos (by decide)]
    exact ⟨s, rfl, e1, e2, e3⟩
  · rw [if_neg c] at hx
    subst hx
    rw [if_neg (show ¬ nI (24 - 8 * q) < 0 from nI_pos (by omega))]
    simp only [lt_eq, jnx1_eq, e2]
    rw [if_neg (show ¬ (700 : Int32) ≤ nI (L + q) from fun z => absurd ((leN (a := 700) (b := L + q) (by omega) (by omega)).mp z) (by omega)), gdN (show L + q < 700 by omega) (by omega), clN (show L + q < 1000000 by omega), sub8 (by omega)]
    refine ih (j - 1) _ _ (by omega) ⟨q + 1, by omega, ?_, e1.tr ⟨fun o ho => ?_, fun k hk => ?_, fun o ho => ?_, rfl⟩, ?_, fun i => ?_⟩
    · by_cases d : q = 3
      · rw [if_pos d, if_pos (by omega)]
      · rw [if_neg d, if_neg (by omega)]
    · funext k
      rw [gIo ho]
      rfl
    · rw [gIn hk]
      rfl
    · funext k
      rw [gAI]
      simp only [sA]
      rw [gAo ho]
    · rw [gIe]
      show gI s 0 1 + 1 = _
      rw [e2, nI_1]
      rfl
    · rw [gAI]
      simp only [sA]
      rw [gAe]
      by_cases d : i = L + q
      · rw [d, upd_eq, if_pos (by omega)]
        rw [show L + q - L = q by omega]
        rfl
      · rw [upd_ne d, e3]
        by_cases d2 : L ≤ i ∧ i < L + q
        · rw [if_pos d2, if_pos (by omega)]
        · rw [if_neg d2, if_neg (by omega)]

theorem fourth {k : Nat} (h : k < 20) : (24 : Int32) - ((8 : Int32) * (nI k - nI k / (4 : Int32) * (4 : Int32))) = nI (24 - 8 * (k % 4)) := by
  have : ∀ k, k < 20 → (24 : Int32) - ((8 : Int32) * (nI k - nI k / (4 : Int32) * (4 : Int32))) = nI (24 - 8 * (k % 4)) := by decide
  exact this k h
theorem feedM_eq (σ : St) (p0 p1 p2 p3 p4 : Int32) (L : Nat) (hL : L + 20 ≤ 700) (h : gI σ 0 1 = nI L) : ∃ σ', (lpx2 FU (fun self5 (x3 : Int32) (σ4 : St) => if (20 : Int32) ≤ x3 then (lt (sI σ4 0 1 ((gI σ4 0 1) + (20 : Int32))) fun σ8 => some ((gI σ8 0 1), σ8)) else (jnx1 (fun (x9 : Int32) => gd (ixI ((gI σ4 0 1) + x3) 700) (lt (sA σ4 0 0 (Int32.toNatClampNeg ((gI σ4 0 1) + x3)) ((x9 >>> (((24 : Int32) - ((8 : Int32) * (x3 - x3 / (4 : Int32) * (4 : Int32)))) &&& 31)) &&& (255 : Int32))) fun σ12 => lt (x3 + (1 : Int32)) fun x13 => self5 x13 σ12)) fun J10 => if (4 : Int32) ≤ x3 then (if (8 : Int32) ≤ x3 then (if (12 : Int32) ≤ x3 then (if (16 : Int32) ≤ x3 then (J10 p4) else (J10 p3)) else (J10 p2)) else (J10 p1)) else (J10 p0))) (0 : Int32) σ) = some (nI (L + 20), σ') ∧ (∀ k, k ≠ 1 → gI σ' 0 k = gI σ 0 k) ∧ gI σ' 0 1 = nI (L + 20) ∧ (∀ k, k ≠ 0 → gA σ' 0 k = gA σ 0 k) ∧ gJ σ' = gJ σ ∧ ∀ i, gA σ' 0 0 i = if L ≤ i ∧ i < L + 20 then mB (wd p0 p1 p2 p3 p4 (i - L)) ((i - L) % 4) else gA σ 0 0 i := by
  generalize hFU : FU = Z
  refine lpx2_wp (fun r => ∃ σ', r = some (nI (L + 20), σ') ∧ (∀ k, k ≠ 1 → gI σ' 0 k = gI σ 0 k) ∧ gI σ' 0 1 = nI (L + 20) ∧ (∀ k, k ≠ 0 → gA σ' 0 k = gA σ 0 k) ∧ gJ σ' = gJ σ ∧ ∀ i, gA σ' 0 0 i = if L ≤ i ∧ i < L + 20 then mB (wd p0 p1 p2 p3 p4 (i - L)) ((i - L) % 4) else gA σ 0 0 i) (fun j x s => ∃ q, q + j = 20 ∧ x = nI q ∧ gI s = gI σ ∧ (∀ k, k ≠ 0 → gA s 0 k = gA σ 0 k) ∧ gJ s = gJ σ ∧ ∀ i, gA s 0 0 i = if L ≤ i ∧ i < L + q then mB (wd p0 p1 p2 p3 p4 (i - L)) ((i - L) % 4) else gA σ 0 0 i) ?_ Z 20 0 σ (by rw [← hFU]; exact FU_gt (by omega)) ⟨0, by omega, rfl, rfl, fun _ _ => rfl, rfl, fun i => by rw [if_neg (by omega)]⟩
  rintro j self x s ⟨q, hq, rfl, e1, e2, e3, e4⟩ ih
  by_cases c : 20 ≤ q
  · rw [if_pos (show (20 : Int32) ≤ nI q from (leN (a := 20) (b := q) (by omega) (by omega)).mpr c)]
    have : q = 20 := by omega
    subst this
    simp only [lt_eq, e1, h]
    refine ⟨_, Prod.ext_iff.mpr ⟨?_, rfl⟩ |> congrArg some, fun k hk => ?_, ?_, fun k hk => ?_, ?_, fun i => ?_⟩
    · show gI (sI s 0 1 (nI L + 20)) 0 1 = nI (L + 20)
      rw [gIe]
      exact nI_add L 20
    · rw [gIn hk, e1]
    · rw [gIe]
      exact nI_add L 20
    · rw [gAI]
      exact e2 k hk
    · exact e3
    · rw [gAI]
      exact e4 i
  · rw [if_neg (show ¬ (20 : Int32) ≤ nI q from fun z => c ((leN (a := 20) (b := q) (by omega) (by omega)).mp z))]
    simp only [lt_eq, jnx1_eq, e1, h, nI_add, gdN (show L + q < 700 by omega) (show 700 ≤ 1000000 by omega), clN (show L + q < 1000000 by omega), fourth (show q < 20 by omega)]
    have nxt : ∀ w : Int32, w = wd p0 p1 p2 p3 p4 q → ∃ σ', self (nI q + 1) (sA s 0 0 (L + q) ((w >>> (nI (24 - 8 * (q % 4)) &&& 31)) &&& 255)) = some (nI (L + 20), σ') ∧ (∀ k, k ≠ 1 → gI σ' 0 k = gI σ 0 k) ∧ gI σ' 0 1 = nI (L + 20) ∧ (∀ k, k ≠ 0 → gA σ' 0 k = gA σ 0 k) ∧ gJ σ' = gJ σ ∧ ∀ i, gA σ' 0 0 i = if L ≤ i ∧ i < L + 20 then mB (wd p0 p1 p2 p3 p4 (i - L)) ((i - L) % 4) else gA σ 0 0 i := by
      intro w hw
      refine ih (j - 1) _ _ (by omega) ⟨q + 1, by omega, nI_1 q, e1, fun k hk => ?_, e3, fun i => ?_⟩
      · simp only [sA]
        rw [gAn hk]
        exact e2 k hk
      · simp only [sA]
        rw [gAe]
        by_cases d : i = L + q
        · rw [d, upd_eq, if_pos (by omega)]
          rw [show L + q - L = q by omega, ← hw]
          rfl
        · rw [upd_ne d, e4]
          by_cases d2 : L ≤ i ∧ i < L + q
          · rw [if_pos d2, if_pos (by omega)]
          · rw [if_neg d2, if_neg (by omega)]
    have w4 : ((4 : Int32) ≤ nI q) ↔ 4 ≤ q := leN (a := 4) (b := q) (by omega) (by omega)
    have w8 : ((8 : Int32) ≤ nI q) ↔ 8 ≤ q := leN (a := 8) (b := q) (by omega) (by omega)
    have w12 : ((12 : Int32) ≤ nI q) ↔ 12 ≤ q := leN (a := 12) (b := q) (by omega) (by omega)
    have w16 : ((16 : Int32) ≤ nI q) ↔ 16 ≤ q := leN (a := 16) (b := q) (by omega) (by omega)
    by_cases d1 : 4 ≤ q
    · rw [if_pos (w4.mpr d1)]
      by_cases d2 : 8 ≤ q
      · rw [if_pos (w8.mpr d2)]
        by_cases d3 : 12 ≤ q
        · rw [if_pos (w12.mpr d3)]
          by_cases d4 : 16 ≤ q
          · rw [if_pos (w16.mpr d4)]
            exact nxt p4 (by unfold wd; rw [if_neg (by omega), if_neg (by omega), if_neg (by omega), if_neg (by omega)])
          · rw [if_neg (fun z => d4 (w16.mp z))]
            exact nxt p3 (by unfold wd; rw [if_neg (by omega), if_neg (by omega), if_neg (by omega), if_pos (by omega)])
        · rw [if_neg (fun z => d3 (w12.mp z))]
          exact nxt p2 (by unfold wd; rw [if_neg (by omega), if_neg (by omega), if_pos (by omega)])
      · rw [if_neg (fun z => d2 (w8.mp z))]
        exact nxt p1 (by unfold wd; rw [if_neg (by omega), if_pos (by omega)])
    · rw [if_neg (fun z => d1 (w4.mp z))]
      exact nxt p0 (by unfold wd; rw [if_pos (by omega)])
/-- only the tape has changed -/
theorem REL0.tape {t : Bool} {n np : Nat} {σB σM σB' σM' : St} (R : REL0 t n np σB σM) (F : frF σB σB') (hM : ∀ k, k ≠ 1 → gI σM' 0 k = gI σM 0 k) (hMA : ∀ k, k ≠ 0 → gA σM' 0 k = gA σM 0 k) (hJ : gJ σM' = gJ σM) (T : TPR σB' σM') : REL0 t n np σB' σM' := by
  obtain ⟨h1, h2, h3, h4, h5, ⟨q, h6, h7, h8⟩, -, ⟨b1, b2⟩, ⟨c1, c2⟩, h9, h10, h11⟩ := R
  obtain ⟨hI, hI0, hA, hR⟩ := F
  have t1 := tx_le t
  have t2 := lw_le t
  have AB : agB 5 σB σB' := ⟨fun k _ => by rw [hA 5 (by omega)], fun k _ _ => by rw [hI 5 (by omega)]⟩
  have AM : agM n 0 σM σM' := ⟨fun k j _ _ k1 k2 _ => by rw [hMA k (by omega)], fun k k1 k2 => by rw [hMA k (by omega)]⟩
  refine ⟨by rw [hR]; exact h1, by rw [hR]; exact h2, h3.cg (hI _ (by omega)) (by rw [hI _ (by omega)]) (hA _ (by omega)) (hA _ (by omega)) (fun k k1 k2 => hM k (by omega)) (fun k k1 k2 => hMA k (by omega)), h4.cg AB AM, h5.cg (by rw [hA 5 (by omega)]) (by rw [hI 5 (by omega)]) (fun p hp => by rw [hMA 52 (by omega), hMA 53 (by omega)]; exact ⟨rfl, rfl⟩), ⟨q, h6, by rw [hI 5 (by omega)]; exact h7, by rw [hJ]; exact h8⟩, T, ⟨by rw [hI0 5 (by omega), hM 4 (by omega)]; exact b1, by rw [hI0 6 (by omega), hM 5 (by omega)]; exact b2⟩, ⟨by rw [hI0 11 (by omega), hM 73 (by omega)]; exact c1, ?_⟩, h9.cg ⟨AB, hA 12 (by omega)⟩ (by rw [hI 12 (by omega)]) AM (hMA 72 (by omega)) (hM 71 (by omega)), h10.cg (fun k _ => by rw [hA 13 (by omega)]) (hI 13 (by omega)) (hMA 69 (by omega)) (hM 67 (by omega)) (hM 68 (by omega)), by rw [hMA 3 (by omega)]; exact h11⟩
  rw [hI0 11 (by omega)]
  rcases c2 with c2 | ⟨c2, c3, c4, c5⟩
  · exact Or.inl c2
  · have eI : gA (imM σM') = gA (imM σM) := by
      unfold imM
      rw [hMA 74 (by omega), hMA 75 (by omega)]
      rfl
    have g8 := hI 8 (by omega)
    have a8 := hA 8 (by omega)
    refine Or.inr ⟨c2, c3.cg ⟨fun k _ => by rw [a8], fun k _ _ => by rw [g8]⟩ (agM.wG eI), c4.cg (by rw [a8]) (by rw [g8]) (fun p hp => by rw [eI]; exact ⟨rfl, rfl⟩), ?_⟩
    obtain ⟨k, d1, d2, d3⟩ := c5
    exact ⟨k, d1, by rw [g8]; exact d2, by rw [hJ]; exact d3⟩
theorem st0 : ST0 REL := by
  rintro σB σM p0 p1 p2 p3 p4 ⟨t, n, np, R⟩
  unfold fX9_feed fX10_feed
  rw [lt_eq]
  have R0 := R.th
  generalize sI σM 0 2 0 = σ1 at *
  obtain ⟨L, a1, a2, a3, a4⟩ := R0.2.2.2.2.2.2.1
  rw [a2, a3, show nI L + (20 : Int32) = nI (L + 20) from nI_add L 20]
  by_cases c : L + 20 ≤ 700
  · have c' : nI (L + 20) ≤ (700 : Int32) := (leN (a := L + 20) (b := 700) (by omega) (by omega)).mpr c
    rw [if_pos c', if_pos c']
    obtain ⟨s1, m1, f1, l1, g1⟩ := put4_eq σB p0 L (by omega) a2
    obtain ⟨s2, m2, f2, l2, g2⟩ := put4_eq s1 p1 (L + 4) (by omega) l1
    obtain ⟨s3, m3, f3, l3, g3⟩ := put4_eq s2 p2 (L + 4 + 4) (by omega) l2
    obtain ⟨s4, m4, f4, l4, g4⟩ := put4_eq s3 p3 (L + 4 + 4 + 4) (by omega) l3
    obtain ⟨s5, m5, f5, l5, g5⟩ := put4_eq s4 p4 (L + 4 + 4 + 4 + 4) (by omega) l4
    obtain ⟨s', n1, n2, n3, n4, n5, n6⟩ := feedM_eq σ1 p0 p1 p2 p3 p4 L c a3
    rw [m1, bVs, m2, bVs, m3, bVs, m4, bVs, m5, bVs, n1, l5]
    have T : TPR s5 s' := by
      refine ⟨L + 20, c, l5, n3, fun i hi => ?_⟩
      rw [n6, g5, g4, g3, g2, g1]
      by_cases d : L ≤ i ∧ i < L + 20
      · rw [if_pos d]
        obtain ⟨e, e1, e2, e3⟩ := bm (wd p0 p1 p2 p3 p4 (i - L)) ((i - L) % 4)
        refine ⟨e, e1, e2, ?_⟩
        rw [← e3]
        unfold wd
        by_cases d5 : L + 16 ≤ i
        · rw [if_pos (by omega), if_neg (by omega), if_neg (by omega), if_neg (by omega), if_neg (by omega), show i - (L + 4 + 4 + 4 + 4) = (i - L) % 4 by omega]
        · rw [if_neg (by omega)]
          by_cases d4 : L + 12 ≤ i
          · rw [if_pos (by omega), if_neg (by omega), if_neg (by omega), if_neg (by omega), if_pos (by omega), show i - (L + 4 + 4 + 4) = (i - L) % 4 by omega]
          · rw [if_neg (by omega)]
            by_cases d3 : L + 8 ≤ i
            · rw [if_pos (by omega), if_neg (by omega), if_neg (by omega), if_pos (by omega), show i - (L + 4 + 4) = (i - L) % 4 by omega]
            · rw [if_neg (by omega)]
              by_cases d2 : L + 4 ≤ i
              · rw [if_pos (by omega), if_neg (by omega), if_pos (by omega), show i - (L + 4) = (i - L) % 4 by omega]
              · rw [if_neg (by omega), if_pos (by omega), if_pos (by omega), show i - L = (i - L) % 4 by omega]
                congr 1
                omega
      · rw [if_neg d, if_neg (by omega), if_neg (by omega), if_neg (by omega), if_neg (by omega), if_neg (by omega)]
        exact a4 i hi
    exact SIM.ret ⟨rfl, (R0.tape ((((f1.tr f2).tr f3).tr f4).tr f5) n2 n4 n5 T).r⟩
  · have c' : ¬ nI (L + 20) ≤ (700 : Int32) := fun z => c ((leN (a := L + 20) (b := 700) (by omega) (by omega)).mp z)
    rw [if_neg c', if_neg c']
    exact SIM.ret ⟨rfl, R0.r⟩
