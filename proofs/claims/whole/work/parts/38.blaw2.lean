def bopE (σ5 : St) (kd : Int32) (m l1 : Nat) (self : Int32 → Int32 → St → Option (Int64 × St)) (x4 : Int32) : Option (Int64 × St) := Option.bind (fX0_join σ5 kd (gL σ5 14 0 m) (gL σ5 14 0 l1)) fun r40 => if 0 < lg_cmp r40 1000000000000 then some (-9223372036854775808, σ5) else if 0 ≤ lg_cmp r40 (-1000000000000) then self (nI m + 1) x4 (sL σ5 14 0 m r40) else some (-9223372036854775808, σ5)
theorem bop_some {σ5 : St} {c m l1 : Nat} {self : Int32 → Int32 → St → Option (Int64 × St)} {x4 : Int32} {v : Int64} (hc : 2 ≤ c ∧ c ≤ 14) (ha : inL (gL σ5 14 0 m)) (hb : inL (gL σ5 14 0 l1)) (h : opV c (gL σ5 14 0 m) (gL σ5 14 0 l1) = some v) : inL v ∧ bopE σ5 (kB c) m l1 self x4 = self (nI m + 1) x4 (sL σ5 14 0 m v) := by
  obtain ⟨r, e, r1, -⟩ := join_eq σ5 c hc _ _ ha hb
  obtain ⟨rfl, hv⟩ := r1 v h
  refine ⟨hv, ?_⟩
  have hl := (limI r).mpr hv
  unfold bopE
  rw [e, Option.bind_some, if_neg (fun z => hl.1 ((lc_gt _ _).mp z)), if_pos ((lc_ge _ _).mpr hl.2)]
theorem bop_none {σ5 : St} {c m l1 : Nat} {self : Int32 → Int32 → St → Option (Int64 × St)} {x4 : Int32} (hc : 2 ≤ c ∧ c ≤ 14) (ha : inL (gL σ5 14 0 m)) (hb : inL (gL σ5 14 0 l1)) (h : opV c (gL σ5 14 0 m) (gL σ5 14 0 l1) = none) : bopE σ5 (kB c) m l1 self x4 = some (-9223372036854775808, σ5) := by
  obtain ⟨r, e, -, r2⟩ := join_eq σ5 c hc _ _ ha hb
  have hn := fun z => r2 h ((limI r).mp z)
  unfold bopE
  rw [e, Option.bind_some]
  by_cases h1 : (1000000000000 : Int64) < r
  · rw [if_pos ((lc_gt _ _).mpr h1)]
  · rw [if_neg (fun z => h1 ((lc_gt _ _).mp z)), if_neg (fun z => hn ⟨h1, (lc_ge _ _).mp z⟩)]
set_option maxHeartbeats 4000000 in
/-- the class works a law out -/
theorem blaw {σB σM : St} {t : Bool} {w f u o h : Nat} (ht : gR σB 2 = t) (hw : w < 3) (h2 : gA σB (lw t) 2 w = nI f) (h3 : gA σB (lw t) 3 w = nI u) (hfu : f < u) (hu : u ≤ 64) (hwf : WFp σB σM t f u) (hnm : ∀ k, k < 7 → ∃ z, fX0_nameOf σB (nI (12 + k)) o (nI h) = some z ∧ z.toInt64 = gL σM 0 43 k) :
    ∃ r σ', fX0_valueOf σB (nI w) o (nI h) = some (r, σ') ∧ onlyStk σB σ' ∧ (∀ z, lawV σM f u = some z → r = z ∧ inL z) ∧ (lawV σM f u = none → r = -9223372036854775808) := by
  obtain ⟨hs, hs0, hsu, hst⟩ := hwf
  have gw : ∀ {β : Type} (z : Option β), gd (ixI (nI w) 3) z = z := fun z => gd_pos (ixN (by omega) (by omega))
  unfold fX0_valueOf
  generalize hFU : FU = N
  simp only [lt_eq]
  rw [gw, clN (by omega), ht, h2]
  refine lpx3_wp (fun q => ∃ r σ', q = some (r, σ') ∧ onlyStk σB σ' ∧ (∀ z, lawV σM f u = some z → r = z ∧ inL z) ∧ (lawV σM f u = none → r = -9223372036854775808)) (fun j x3 x4 σ5 => ∃ n V, n + j = u - f ∧ x4 = nI (f + n) ∧ x3 = nI (hs (f + n)).length ∧ onlyStk σB σ5 ∧ ev σM f n = some V ∧ stkR σ5 V (hs (f + n)) ∧ ∀ i, f ≤ i → i < f + n → inL (V i)) ?_ N (u - f) 0 (nI f) σB (by rw [← hFU]; exact FU_gt (by omega)) ⟨0, fun _ => 0, by omega, rfl, by rw [Nat.add_zero, hs0]; rfl, onlyStk.rf σB, rfl, by rw [Nat.add_zero, hs0]; intro j x hj; simp at hj, fun i h1 h2 => by omega⟩
  rintro j self x3 x4 σ5 ⟨n, V, hn, rfl, rfl, hO, hev, hR, hI⟩ ih
  rw [gw, hO.2.1, h3]
  by_cases hx : u ≤ f + n
  · have hnu : f + n = u := by omega
    have hnn : n = u - f := by omega
    rw [if_pos ((leN (by omega) (by omega)).mpr hx)]
    simp only [jnx1_eq]
    have e1 : hs (f + n) = [u - 1] := by rw [hnu]; exact hsu
    rw [e1] at hR ⊢
    rw [if_pos (show nI [u - 1].length = 1 from rfl)]
    have e2 := hR 0 (u - 1) rfl
    refine ⟨_, _, rfl, hO, fun z hz => ?_, fun hz => ?_⟩
    · unfold lawV at hz
      rw [← hnn, hev] at hz
      cases hz
      exact ⟨e2, hI (u - 1) (by omega) (by omega)⟩
    · unfold lawV at hz
      rw [← hnn, hev] at hz
      cases hz
  · rw [if_neg (fun z => hx ((leN (by omega) (by omega)).mp z)), gd_pos (ixN (k := f + n) (by omega) (by omega)), clN (show f + n < 1000000 by omega)]
    obtain ⟨s1, s2, s3⟩ := hst (f + n) (by omega) (by omega)
    rw [clN (show (hs (f + n)).length < 1000000 by omega)]
    have hne : ∀ x ∈ hs (f + n), x ≠ f + n := fun x hx => by have := s1 x hx; omega
    have evS : ∀ v, stV σM (f + n) V = some v → ev σM f (n + 1) = some (vp_updL V (f + n) v) := fun v hv => by
      rw [ev, hev]
      simp only [hv]
    have evN : stV σM (f + n) V = none → lawV σM f u = none := fun hv => by
      have h1 : ev σM f (n + 1) = none := by
        rw [ev, hev]
        simp only [hv]
      have h2 := ev_none (u - f - (n + 1)) (n + 1) h1
      rw [show n + 1 + (u - f - (n + 1)) = u - f by omega] at h2
      unfold lawV
      rw [h2]
      rfl
    have inS : ∀ v, inL v → ∀ i, f ≤ i → i < f + (n + 1) → inL (vp_updL V (f + n) v i) := fun v hv i h1 h2 => by
      simp only [vp_updL]
      split
      · exact hv
      · exact hI i h1 (by omega)
    simp only [jnx1_eq, jnx2_eq]
    have l64 : nI (hs (f + n)).length < 64 := (ltN (a := (hs (f + n)).length) (b := 64) (by omega) (by omega)).mpr (by omega)
    rcases s3 with ⟨k1, k2, k3, k4⟩ | ⟨k1, k, hk, k2, k3, k4⟩ | ⟨k1, k2, x, r, k3, k4, k5⟩ | ⟨c, hc1, hc2, k1, k2, x, y, r, k3, k4, k5, k6⟩
    · rw [k2, if_pos rfl, if_pos l64, if_pos rfl, gd_pos (ixN (k := f + n) (by omega) (by omega)), gd_pos (ixN (k := (hs (f + n)).length) (by omega) (by omega)), k3]
      have hsv : stV σM (f + n) V = some (gA σM 0 33 (f + n)).toInt64 := by rw [stV, if_pos k1]
      refine ih (j - 1) _ _ _ (by omega) ⟨n + 1, _, by omega, by rw [nI_1]; rfl, ?_, hO.put _ _, evS _ hsv, ?_, inS _ (inL_32 _)⟩
      · rw [show f + (n + 1) = f + n + 1 from rfl, k4, nI_1]
        rfl
      · rw [show f + (n + 1) = f + n + 1 from rfl, k4]
        exact stkR.push (m := 0) hR rfl hne
    · obtain ⟨z, hz1, hz2⟩ := hnm k hk
      have n20 : ¬ nI (12 + k) = 20 := fun e => by
        rw [show (20 : Int32) = nI 20 from rfl, eqN (by omega) (by omega)] at e
        omega
      have nin : (12 : Int32) ≤ nI (12 + k) ∧ nI (12 + k) ≤ 18 := ⟨(leN (a := 12) (by omega) (by omega)).mpr (by omega), (leN (b := 18) (by omega) (by omega)).mpr (by omega)⟩
      rw [k3, if_neg n20, isWithin_eq, if_pos nin, Option.bind_some, if_neg (show ¬ (1 : Int32) = 0 by decide), if_pos l64, if_neg n20, nameOf_only hO, hz1, Option.bind_some, gd_pos (ixN (k := (hs (f + n)).length) (by omega) (by omega)), hz2]
      have hsv : stV σM (f + n) V = some (gL σM 0 43 k) := by
        rw [stV, if_neg (show ¬ gA σM 0 32 (f + n) = 0 from (by rw [k1]; decide)), if_pos k1, k2, clN (by omega)]
      refine ih (j - 1) _ _ _ (by omega) ⟨n + 1, _, by omega, by rw [nI_1]; rfl, ?_, hO.put _ _, evS _ hsv, ?_, inS _ (hz2 ▸ inL_32 z)⟩
      · rw [show f + (n + 1) = f + n + 1 from rfl, k4, nI_1]
        rfl
      · rw [show f + (n + 1) = f + n + 1 from rfl, k4]
        exact stkR.push (m := 0) hR rfl hne
    · have hlen : (hs (f + n)).length = r.length + 1 := by rw [k3]; rfl
      have hs9 := k5
      have hdr : r = (hs (f + n)).drop 1 := by rw [k3]; rfl
      have hxx := s1 x (by rw [k3]; simp)
      have eB : gL σ5 14 0 ((hs (f + n)).length - 1) = V x := hR 0 x (by rw [k3]; rfl)
      have eA : gL σ5 14 0 r.length = V x := by rw [← eB, hlen]; rfl
      have hA : inL (V x) := hI x hxx.1 hxx.2
      have hB := hA
      have hsv : stV σM (f + n) V = opV 2 (V x) (V x) := by
        rw [stV, if_neg (show ¬ gA σM 0 32 (f + n) = 0 from (by rw [k1]; decide)), if_neg (show ¬ gA σM 0 32 (f + n) = 1 from (by rw [k1]; decide)), if_pos k1, k1, k4, clN (by omega)]
        rfl
      have e1 : nI (hs (f + n)).length - 1 = nI ((hs (f + n)).length - 1) := by
        rw [show (1 : Int32) = nI 1 from rfl, pk_sub (by omega)]
      rw [k2, if_neg (show ¬ (11 : Int32) = 20 by decide), isWithin_eq, if_neg (show ¬ ((12 : Int32) ≤ 11 ∧ (11 : Int32) ≤ 18) by decide), Option.bind_some, if_pos rfl, if_pos rfl, e1, if_pos (nI_pos' (by omega))]
      rw [show (hs (f + n)).length - 1 = r.length by omega] at eB ⊢
      have gm : ∀ {β : Type} (z : Option β), gd (ixI (nI r.length) 64) z = z := fun z => gd_pos (ixN (by omega) (by omega))
      have gl : ∀ {β : Type} (z : Option β), gd (ixI (nI r.length) 64) z = z := fun z => gd_pos (ixN (by omega) (by omega))
      simp only [gm, gl, clN (show r.length < 1000000 by omega), clN (show r.length < 1000000 by omega)]
      change ∃ r9 σ9, bopE σ5 (kB 2) r.length r.length self (nI (f + n) + 1) = some (r9, σ9) ∧ _
      cases hop : opV 2 (gL σ5 14 0 r.length) (gL σ5 14 0 r.length) with
      | none =>
        rw [bop_none ⟨by omega, by omega⟩ (by rw [eA]; exact hA) (by rw [eB]; exact hB) hop]
        have hl := evN (by rw [hsv]; simpa only [eA, eB] using hop)
        exact ⟨_, _, rfl, hO, fun z hz => (by rw [hl] at hz; cases hz), fun _ => rfl⟩
      | some v =>
        obtain ⟨hv, eb⟩ := bop_some (self := self) (x4 := nI (f + n) + 1) ⟨by omega, by omega⟩ (by rw [eA]; exact hA) (by rw [eB]; exact hB) hop
        rw [eb]
        refine ih (j - 1) _ _ _ (by omega) ⟨n + 1, _, by omega, by rw [nI_1]; rfl, ?_, hO.put _ _, evS v (by rw [hsv]; simpa only [eA, eB] using hop), ?_, inS _ hv⟩
        · rw [show f + (n + 1) = f + n + 1 from rfl, hs9, nI_1]
          rfl
        · rw [show f + (n + 1) = f + n + 1 from rfl, hs9]
          exact stkR.push (m := 1) hR hdr hne
    · have hlen : (hs (f + n)).length = r.length + 2 := by rw [k3]; rfl
      have hs9 := k6
      have hdr : r = (hs (f + n)).drop 2 := by rw [k3]; rfl
      have hxx := s1 x (by rw [k3]; simp)
      have hyy := s1 y (by rw [k3]; simp)
      have eB : gL σ5 14 0 ((hs (f + n)).length - 1) = V y := hR 0 y (by rw [k3]; rfl)
      have eA : gL σ5 14 0 r.length = V x := by
        have := hR 1 x (by rw [k3]; rfl)
        rw [hlen] at this
        exact this
      have hA : inL (V x) := hI x hxx.1 hxx.2
      have hB : inL (V y) := hI y hyy.1 hyy.2
      have n0 : ∀ d : Nat, d < 3 → ¬ gA σM 0 32 (f + n) = nI d := fun d hd z => by
        rw [k1, eqN (by omega) (by omega)] at z
        omega
      have hsv : stV σM (f + n) V = opV c (V x) (V y) := by
        rw [stV, if_neg (show ¬ gA σM 0 32 (f + n) = 0 from n0 0 (by omega)), if_neg (show ¬ gA σM 0 32 (f + n) = 1 from n0 1 (by omega)), if_neg (show ¬ gA σM 0 32 (f + n) = 2 from n0 2 (by omega)), k1, k4, k5, clN (by omega), clN (by omega), clN (by omega)]
      have e1 : nI (hs (f + n)).length - 1 = nI ((hs (f + n)).length - 1) := by
        rw [show (1 : Int32) = nI 1 from rfl, pk_sub (by omega)]
      have e2 : nI (hs (f + n)).length - 2 = nI r.length := by
        rw [show (2 : Int32) = nI 2 from rfl, pk_sub (by omega), hlen]
        rfl
      rw [k2, if_neg (kB_name c (by omega) hc2).1, isWithin_eq, if_neg (kB_name c (by omega) hc2).2, Option.bind_some, if_pos rfl, if_neg (kB_not c hc1 hc2), e2, e1, if_pos (nI_pos' (by omega))]
      have gm : ∀ {β : Type} (z : Option β), gd (ixI (nI r.length) 64) z = z := fun z => gd_pos (ixN (by omega) (by omega))
      have gl : ∀ {β : Type} (z : Option β), gd (ixI (nI ((hs (f + n)).length - 1)) 64) z = z := fun z => gd_pos (ixN (by omega) (by omega))
      simp only [gm, gl, clN (show r.length < 1000000 by omega), clN (show (hs (f + n)).length - 1 < 1000000 by omega)]
      change ∃ r9 σ9, bopE σ5 (kB c) r.length ((hs (f + n)).length - 1) self (nI (f + n) + 1) = some (r9, σ9) ∧ _
      cases hop : opV c (gL σ5 14 0 r.length) (gL σ5 14 0 ((hs (f + n)).length - 1)) with
      | none =>
        rw [bop_none ⟨by omega, by omega⟩ (by rw [eA]; exact hA) (by rw [eB]; exact hB) hop]
        have hl := evN (by rw [hsv]; simpa only [eA, eB] using hop)
        exact ⟨_, _, rfl, hO, fun z hz => (by rw [hl] at hz; cases hz), fun _ => rfl⟩
      | some v =>
        obtain ⟨hv, eb⟩ := bop_some (self := self) (x4 := nI (f + n) + 1) ⟨by omega, by omega⟩ (by rw [eA]; exact hA) (by rw [eB]; exact hB) hop
        rw [eb]
        refine ih (j - 1) _ _ _ (by omega) ⟨n + 1, _, by omega, by rw [nI_1]; rfl, ?_, hO.put _ _, evS v (by rw [hsv]; simpa only [eA, eB] using hop), ?_, inS _ hv⟩
        · rw [show f + (n + 1) = f + n + 1 from rfl, hs9, nI_1]
          rfl
        · rw [show f + (n + 1) = f + n + 1 from rfl, hs9]
          exact stkR.push (m := 2) hR hdr hne
