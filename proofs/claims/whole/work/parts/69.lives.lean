/-! LIVES: the fraction in least terms -/
theorem euc {a b : Nat} (hb : 0 < b) (hba : b ≤ a) {j : Nat} (h : a * b < 2 ^ (j + 1)) : b * (a % b) < 2 ^ j := by
  have h1 := Nat.mod_lt a hb
  have h2 := Nat.div_add_mod a b
  have h3 : 1 ≤ a / b := (Nat.one_le_div_iff hb).mpr hba
  have h4 : b * 1 ≤ b * (a / b) := Nat.mul_le_mul_left b h3
  have h5 : 2 * (a % b) ≤ a := by omega
  have h6 : b * (2 * (a % b)) ≤ b * a := Nat.mul_le_mul_left b h5
  rw [Nat.pow_succ] at h
  have h7 : b * (2 * (a % b)) = 2 * (b * (a % b)) := by rw [Nat.mul_left_comm]
  rw [Nat.mul_comm b a] at h6
  omega
theorem gcd_step (a b : Nat) : Nat.gcd b (a % b) = Nat.gcd a b := by
  rw [Nat.gcd_comm a b, Nat.gcd_rec b a, Nat.gcd_comm]
theorem lN0 {b : Nat} (h : b < 2 ^ 63) : lN b = 0 ↔ b = 0 := pk_lEQ (a := b) (b := 0) h (by omega)
/-- the class's divisor -/
theorem comB_eq (σ : St) {u w : Nat} (huw : u ≤ w) (hw : 0 < w) (hw2 : w ≤ 1000000000000) : fX9_commonDivisor σ (lN u) (lN w) = some (lN (Nat.gcd u w)) := by
  unfold fX9_commonDivisor
  generalize hFU : FU = Z
  refine lpx3_wp (fun q => q = some (lN (Nat.gcd u w))) (fun j x y z => ∃ a b i, i + j = 200 ∧ x = lN a ∧ y = lN b ∧ z = nI i ∧ a ≤ 1000000000000 ∧ b ≤ 1000000000000 ∧ Nat.gcd a b = Nat.gcd u w ∧ ((i = 0 ∧ a = u ∧ b = w) ∨ (1 ≤ i ∧ b ≤ a ∧ 0 < a ∧ a * b < 2 ^ (81 - i)))) ?_ Z 200 _ _ 0 (by rw [← hFU]; exact FU_gt (by omega)) ⟨u, w, 0, by omega, rfl, rfl, rfl, by omega, by omega, rfl, Or.inl ⟨rfl, rfl, rfl⟩⟩
  rintro j self x y z ⟨a, b, i, hi, rfl, rfl, rfl, ha, hb, hg, hc⟩ ih
  simp only [jnx1_eq, lt_eq, lc_eq]
  have stop : b = 0 → some (lN a) = some (lN (Nat.gcd u w)) := fun e => by
    subst e
    rw [← hg, Nat.gcd_zero_right]
  have h200 : ¬ (200 : Int32) ≤ nI i ∨ b = 0 := by
    by_cases e : 200 ≤ i
    · right
      rcases hc with ⟨e1, -⟩ | ⟨e1, e2, e3, e4⟩
      · omega
      · rw [show 81 - i = 0 by omega, Nat.pow_zero] at e4
        rcases Nat.mul_eq_zero.mp (show a * b = 0 by omega) with e5 | e5 <;> omega
    · exact Or.inl (fun z => e ((leN (a := 200) (b := i) (by omega) (by omega)).mp z))
  by_cases c : (200 : Int32) ≤ nI i
  · rw [if_pos c]
    exact stop (h200.resolve_left (fun z => z c))
  · rw [if_neg c]
    by_cases c2 : lN b = 0
    · rw [if_pos c2]
      exact stop ((lN0 (by omega)).mp c2)
    · have hb0 : 0 < b := Nat.pos_of_ne_zero (fun e => c2 ((lN0 (by omega)).mpr e))
      have hi200 : i < 200 := by
        rcases h200 with e | e
        · have : ¬ 200 ≤ i := fun z => e ((leN (a := 200) (b := i) (by omega) (by omega)).mpr z)
          omega
        · omega
      rw [if_neg c2, gd_pos c2, pk_lRem (by omega) hb0 (by omega)]
      have hm := Nat.mod_lt a hb0
      refine ih (j - 1) _ _ _ (by omega) ⟨b, a % b, i + 1, by omega, rfl, rfl, nI_1 i, hb, by omega, by rw [gcd_step]; exact hg, Or.inr ⟨by omega, by omega, hb0, ?_⟩⟩
      rcases hc with ⟨rfl, rfl, rfl⟩ | ⟨e1, e2, e3, e4⟩
      · show b * (a % b) < 2 ^ 80
        have q1 : a % b ≤ 1000000000000 := by omega
        calc b * (a % b) ≤ 1000000000000 * 1000000000000 := Nat.mul_le_mul hb q1
          _ < 2 ^ 80 := by decide
      · have hp : 1 ≤ a * b := Nat.mul_pos e3 hb0
        have hi80 : 81 - i ≠ 0 := fun e => by
          rw [e, Nat.pow_zero] at e4
          omega
        have := euc hb0 e2 (j := 81 - (i + 1)) (by rw [show 81 - (i + 1) + 1 = 81 - i by omega]; exact e4)
        exact this
/-- the reference's loop -/
theorem comM_eq {σ : St} {p2 : Int32} {u w : Nat} (huw : u ≤ w) (hw : 0 < w) (hw2 : w ≤ 1000000000000) : lpx2 FU (fun self23 (x21 : Int64) (x22 : Int64) => if (lg_cmp x22 (0 : Int64)) = 0 then (jnx1 (fun (x26 : Int64) => some (x26, σ)) fun J27 => if p2 = 0 then (gd (¬ x21 = 0) (J27 (lN u / x21))) else (gd (¬ x21 = 0) (J27 (lN w / x21)))) else (gd (¬ x22 = 0) (lt (x21 - x21 / x22 * x22) fun x32 => self23 x22 x32))) (lN w) (lN u) = some (if p2 = 0 then lN u / lN (Nat.gcd u w) else lN w / lN (Nat.gcd u w), σ) := by
  generalize hFU : FU = Z
  refine lpx2_wp (fun q => q = some (if p2 = 0 then lN u / lN (Nat.gcd u w) else lN w / lN (Nat.gcd u w), σ)) (fun j x y => ∃ a b, x = lN a ∧ y = lN b ∧ a ≤ 1000000000000 ∧ b ≤ a ∧ 0 < a ∧ Nat.gcd a b = Nat.gcd u w ∧ a * b < 2 ^ j) ?_ Z 80 _ _ (by rw [← hFU]; exact FU_gt (by omega)) ⟨w, u, rfl, rfl, hw2, huw, hw, Nat.gcd_comm w u, ?_⟩
  · rintro j self x y ⟨a, b, rfl, rfl, ha, hba, ha0, hg, hp⟩ ih
    simp only [jnx1_eq, lt_eq, lc_eq]
    by_cases c2 : lN b = 0
    · have e : b = 0 := (lN0 (by omega)).mp c2
      subst e
      rw [Nat.gcd_zero_right] at hg
      have hne : ¬ lN a = 0 := fun z => by have := (lN0 (by omega)).mp z; omega
      rw [if_pos c2, gd_pos hne, gd_pos hne, hg]
      split <;> rfl
    · have hb0 : 0 < b := Nat.pos_of_ne_zero (fun e => c2 ((lN0 (by omega)).mpr e))
      rw [if_neg c2, gd_pos c2, pk_lRem (by omega) hb0 (by omega)]
      have hm := Nat.mod_lt a hb0
      have hp1 : 1 ≤ a * b := Nat.mul_pos ha0 hb0
      have hj : j ≠ 0 := fun e => by
        rw [e, Nat.pow_zero] at hp
        omega
      refine ih (j - 1) _ _ (by omega) ⟨b, a % b, rfl, rfl, by omega, by omega, hb0, by rw [gcd_step]; exact hg, ?_⟩
      exact euc hb0 hba (by rw [show j - 1 + 1 = j by omega]; exact hp)
  · calc w * u ≤ 1000000000000 * 1000000000000 := Nat.mul_le_mul hw2 (by omega)
      _ < 2 ^ 80 := by decide
theorem death_rng {σ σ' : St} {o h a : Nat} {d : Int32} (hh : h < 6) (ha : gA σ o 1 h = nI a) (ha2 : a ≤ 99) (hs : onlyStk σ σ') (h1 : fX0_deathOf σ o (nI h) = some (d, σ')) : ∃ v, v ≤ 100 ∧ d = nI v := by
  unfold fX0_deathOf at h1
  cases hv : fX0_valueOf σ 0 o (nI h) with
  | none => rw [hv] at h1; cases h1
  | some q =>
    obtain ⟨r, σ3⟩ := q
    rw [hv, bLs] at h1
    by_cases c : lg_cmp r (-9223372036854775808) = 0
    · rw [if_pos c, gdN hh (by omega), clN (by omega)] at h1
      injection h1 with h1
      injection h1 with h1 h2
      subst h2
      rw [hs.2.1, ha] at h1
      rw [← h1]
      unfold iMax
      by_cases c2 : a ≤ 40
      · refine ⟨0, by omega, ?_⟩
        rw [if_neg]
        · rfl
        · rw [i32lt, show (40 : Int32) = nI 40 from rfl, pk_sub_toInt (by omega) (by omega)]
          have : (0 : Int32).toInt = 0 := rfl
          omega
      · refine ⟨a - 40, by omega, ?_⟩
        rw [show (40 : Int32) = nI 40 from rfl, pk_sub (by omega), if_pos]
        exact (ltN (a := 0) (b := a - 40) (by omega) (by omega)).mpr (by omega)
    · rw [if_neg c] at h1
      injection h1 with h1
      injection h1 with h1 h2
      rw [← h1]
      unfold lMax lMin
      have e0 : (0 : Int64).toInt = 0 := rfl
      have e100 : (100 : Int64).toInt = 100 := rfl
      by_cases d1 : r < 100
      · rw [if_pos d1]
        by_cases d2 : r < 0
        · rw [if_pos d2]
          exact ⟨0, by omega, rfl⟩
        · rw [if_neg d2]
          rw [i64lt] at d1 d2
          obtain ⟨k, hk⟩ : ∃ k : Nat, r.toInt = k := ⟨r.toInt.toNat, by omega⟩
          have : r = lN k := by
            rw [i64eq, lN_toInt (by omega)]
            exact hk
          exact ⟨k, by omega, by rw [this, lN_i]⟩
      · rw [if_neg d1, if_neg (by decide)]
        exact ⟨100, by omega, rfl⟩
set_option maxHeartbeats 2000000 in
theorem st21 : ST21 REL := by
  rintro σB σM a0 a1 a2 ⟨t, n, np, R⟩
  have hn6 := R.2.2.1.n6
  unfold fX9_lives fX10_lives
  simp only [lt_eq, jnx1_eq, isWithin_eq, isInM_eq, bS, ifi0]
  rw [isInB_eq a0 hn6 (agr R) R.th.2.2.2.1, isOnNow_eq a0 hn6 R.th.2.2.1.hM R.th.2.2.2.1.bool0, bS, bS, ifi0, ifi0]
  by_cases c0 : (0 ≤ a0 ∧ a0 < nI n) ∧ gA (sI σM 0 2 0) 0 49 a0.toNatClampNeg = 1
  · rw [if_pos c0, if_pos c0]
    by_cases c1 : (0 : Int32) ≤ a1 ∧ a1 ≤ 6
    · rw [if_pos c1, if_pos c1]
      by_cases c2 : (0 : Int32) ≤ a2 ∧ a2 ≤ 1
      · rw [if_pos c2, if_pos c2]
        obtain ⟨h, hh, rfl⟩ := house_nat hn6 c0.1
        obtain ⟨y, -, hy, rfl⟩ := in_nat 0 6 c1 (by omega) (by omega)
        have R0 := R.th
        clear c0 c1
        generalize sI σM 0 2 0 = σ1 at *
        obtain ⟨σB1, σM1, e1, e2, e3, e4, e5, e6, e7, e8⟩ := try_sim R0
        rw [e1, e2, bVs, bVs]
        have R1 := R0.q e6 e7
        simp only [six1, clN (show 6 + h < 1000000 by omega), gdN (show 6 + h < 12 by omega) (show 12 ≤ 1000000 by omega)]
        have comM := fun (u w : Nat) (σ : St) => comM_eq (σ := σ) (p2 := a2) (u := u) (w := w)
        simp only [jnx1_eq, lt_eq] at comM
        generalize hFU : FU = Z at comM
        have hp : ∀ i, i ≤ 6 → 100 ^ i ≤ 1000000000000 := by decide
        refine simlp4_4 _ (fun j x p v s x' p' v' s' => ∃ i u, i + j = y ∧ v = nI i ∧ v' = nI i ∧ x = lN u ∧ x' = lN u ∧ p = lN (100 ^ i) ∧ p' = lN (100 ^ i) ∧ u ≤ 100 ^ i ∧ REL0 t n np s s' ∧ CX t n np s s' ∧ SR n 9999 9000 s 6 s' 1) ?_ Z Z y 1 1 0 σB1 1 1 0 σM1 (by rw [← hFU]; exact FU_gt (by omega)) (by rw [← hFU]; exact FU_gt (by omega)) ⟨0, 1, by omega, rfl, rfl, rfl, rfl, rfl, rfl, by decide, R1, e3, e4⟩
        rintro j sF sG x p v s x' p' v' s' ⟨i, u, hi, rfl, rfl, rfl, rfl, rfl, rfl, hu, Rs, C, S⟩ ih
        have hpi := hp i (by omega)
        have hpp : 0 < 100 ^ i := Nat.pow_pos (by omega)
        by_cases c : y ≤ i
        · rw [if_pos ((leN (by omega) (by omega)).mpr c), if_pos ((leN (by omega) (by omega)).mpr c), comB_eq s hu hpp hpi, bS, comM u (100 ^ i) s' hu hpp hpi]
          have hg1 : 0 < Nat.gcd u (100 ^ i) := Nat.gcd_pos_of_pos_right u hpp
          have hg2 : Nat.gcd u (100 ^ i) ≤ 100 ^ i := Nat.le_of_dvd hpp (Nat.gcd_dvd_right u (100 ^ i))
          have hmax : lMax 1 (lN (Nat.gcd u (100 ^ i))) = lN (Nat.gcd u (100 ^ i)) := by
            unfold lMax
            rw [if_neg (fun z => by have := (pk_lLT (a := Nat.gcd u (100 ^ i)) (b := 1) (by omega) (by omega)).mp z; omega)]
          have hne : ¬ lN (Nat.gcd u (100 ^ i)) = 0 := fun z => by have := (lN0 (by omega)).mp z; omega
          rw [hmax, gd_pos hne, gd_pos hne]
          by_cases p0 : a2 = 0
          · rw [if_pos p0, if_pos p0]
            exact SIM.ret ⟨rfl, Rs.r⟩
          · rw [if_neg p0, if_neg p0]
            exact SIM.ret ⟨rfl, Rs.r⟩
        · rw [if_neg (fun z => c ((leN (by omega) (by omega)).mp z)), if_neg (fun z => c ((leN (by omega) (by omega)).mp z))]
          obtain ⟨a, -, a1, a2'⟩ := S.2.2.2.2.1 h hh
          have a3 : gA s' 0 47 (6 + h) = nI a := by
            have := S.1 1 (by omega) h hh
            rw [a2'] at this
            exact this.symm
          obtain ⟨w1, w2⟩ := grow_eq a1
          have eg : fX4_growOlder s 6 (nI h) = some (sA s 6 1 h (nI (if 99 ≤ a then 99 else a + 1))) := by
            unfold fX4_growOlder
            simp only [lt_eq, gdN (show h < 6 by omega) (show 6 ≤ 1000000 by omega), clN (show h < 1000000 by omega), a2', w1]
          rw [eg, bVs, a3]
          have pull : ∀ {β : Type} (K : Int32 → Option β) (c : Prop) [Decidable c] (x y : Int32), (if c then K x else K y) = K (if c then x else y) := fun K c _ x y => by split <;> rfl
          rw [pull (fun x34 => bI (fX10_deathOf (sA s' 0 47 (6 + h) x34) 1 (nI h)) fun r39 σ40 => sG (lN u * ((100 : Int32) - r39).toInt64) (lN (100 ^ i) * 100) (nI i + 1) σ40), w2]
          have hN : (if 99 ≤ a then 99 else a + 1) ≤ 99 := by split <;> omega
          generalize (if 99 ≤ a then 99 else a + 1) = N at hN
          have S2 : SR n 9999 9000 (sA s 6 1 h (nI N)) 6 (sA s' 0 47 (6 * 1 + h) (nI N)) 1 := S.setA 1 h _ (by omega) ⟨fun z => by omega, fun _ => ⟨N, by omega, hN, rfl⟩, fun z => by omega⟩
          rw [show 6 * 1 + h = 6 + h by omega] at S2
          have fB2 : frB 6 s (sA s 6 1 h (nI N)) := frB.wA _ _ _ _ (by omega)
          have fM2 : frM 1 s' (sA s' 0 47 (6 + h) (nI N)) := frM.wA _ _ _ _ (Or.inl ⟨by omega, by omega, by omega, by omega⟩)
          have C2 := C.cg ⟨by omega, by omega⟩ fB2 fM2
          have R2 := Rs.q (qB.fr (Or.inl rfl) fB2) (qM.fr fM2 rfl)
          have hage : gA (sA s 6 1 h (nI N)) 6 1 h = nI N := by rw [gAe, upd_at, if_pos rfl]
          generalize sA s 6 1 h (nI N) = s2 at *
          generalize sA s' 0 47 (6 + h) (nI N) = s2' at *
          obtain ⟨d, s3, s3', f1, f2, f3, f4⟩ := deathOf_sim (o := 6) (b := 1) (h := h) C2.2.1 (by omega) (by omega) (C2.1.law 0 (by omega)) (names_eq C2 S2 hh)
          have f2' : fX10_deathOf s2' 1 (nI h) = some (d, s3') := f2
          obtain ⟨v, hv, rfl⟩ := death_rng (by omega) hage hN f3 f1
          rw [f1, f2', bIs, bIs]
          have ed : ((100 : Int32) - nI v).toInt64 = lN (100 - v) := by rw [show (100 : Int32) = nI 100 from rfl, pk_sub (by omega), nI_l (by omega)]
          rw [ed, lN_mul, show (100 : Int64) = lN 100 from rfl, lN_mul]
          refine ih (j - 1) _ _ _ _ _ _ _ _ (by omega) ⟨i + 1, u * (100 - v), by omega, nI_1 i, nI_1 i, rfl, rfl, by rw [Nat.pow_succ], by rw [Nat.pow_succ], ?_, R2.q (qB.stk f3) (qM.ln f4), C2.cg (o := 6) (b := 1) ⟨by omega, by omega⟩ (frB.stk f3) (frM.ln f4), S2.cg (agB.stk f3) (agM.wG f4.2.1)⟩
          rw [Nat.pow_succ]
          exact Nat.mul_le_mul hu (by omega)
      · rw [if_neg c2, if_neg c2]
        exact SIM.ret ⟨rfl, R.th.r⟩
    · rw [if_neg c1, if_neg c1]
      exact SIM.ret ⟨rfl, R.th.r⟩
  · rw [if_neg c0, if_neg c0]
    exact SIM.ret ⟨rfl, R.th.r⟩
