def ks (x : Nat) : Nat := if x = 40 then 24 else if x = 41 then 25 else if x = 42 then 34 else if x = 43 then 32 else if x = 45 then 33 else if x = 47 then 35 else if x = 59 then 23 else if x = 60 then 26 else if x = 61 then 28 else if x = 62 then 31 else 22
theorem kos (σ : St) (x : Nat) (hx : x < 256) : fX7_kindOfSign σ (bytN x) = some (nI (ks x)) := by
  by_cases c : 40 ≤ x ∧ x ≤ 62
  · obtain rfl | rfl | rfl | rfl | rfl | rfl | rfl | rfl | rfl | rfl | rfl | rfl | rfl | rfl | rfl | rfl | rfl | rfl | rfl | rfl | rfl | rfl | rfl : x = 40 ∨ x = 41 ∨ x = 42 ∨ x = 43 ∨ x = 44 ∨ x = 45 ∨ x = 46 ∨ x = 47 ∨ x = 48 ∨ x = 49 ∨ x = 50 ∨ x = 51 ∨ x = 52 ∨ x = 53 ∨ x = 54 ∨ x = 55 ∨ x = 56 ∨ x = 57 ∨ x = 58 ∨ x = 59 ∨ x = 60 ∨ x = 61 ∨ x = 62 := by omega
    all_goals rfl
  · have hn : ∀ k, k < 128 → 40 ≤ k → k ≤ 62 → ¬ bytN x = nI k := fun k h1 h2 h3 z => by
      have := (byt_eq x hx k h1).mp z
      omega
    unfold fX7_kindOfSign ks
    rw [jnx1_eq]
    rw [if_neg (show ¬ bytN x = (40 : Int32) from hn 40 (by omega) (by omega) (by omega)), if_neg (show ¬ bytN x = (41 : Int32) from hn 41 (by omega) (by omega) (by omega)), if_neg (show ¬ bytN x = (42 : Int32) from hn 42 (by omega) (by omega) (by omega)), if_neg (show ¬ bytN x = (43 : Int32) from hn 43 (by omega) (by omega) (by omega)), if_neg (show ¬ bytN x = (44 : Int32) from hn 44 (by omega) (by omega) (by omega)), if_neg (show ¬ bytN x = (45 : Int32) from hn 45 (by omega) (by omega) (by omega)), if_neg (show ¬ bytN x = (46 : Int32) from hn 46 (by omega) (by omega) (by omega)), if_neg (show ¬ bytN x = (47 : Int32) from hn 47 (by omega) (by omega) (by omega)), if_neg (show ¬ bytN x = (48 : Int32) from hn 48 (by omega) (by omega) (by omega)), if_neg (show ¬ bytN x = (49 : Int32) from hn 49 (by omega) (by omega) (by omega)), if_neg (show ¬ bytN x = (50 : Int32) from hn 50 (by omega) (by omega) (by omega)), if_neg (show ¬ bytN x = (51 : Int32) from hn 51 (by omega) (by omega) (by omega)), if_neg (show ¬ bytN x = (52 : Int32) from hn 52 (by omega) (by omega) (by omega)), if_neg (show ¬ bytN x = (53 : Int32) from hn 53 (by omega) (by omega) (by omega)), if_neg (show ¬ bytN x = (54 : Int32) from hn 54 (by omega) (by omega) (by omega)), if_neg (show ¬ bytN x = (55 : Int32) from hn 55 (by omega) (by omega) (by omega)), if_neg (show ¬ bytN x = (56 : Int32) from hn 56 (by omega) (by omega) (by omega)), if_neg (show ¬ bytN x = (57 : Int32) from hn 57 (by omega) (by omega) (by omega)), if_neg (show ¬ bytN x = (58 : Int32) from hn 58 (by omega) (by omega) (by omega)), if_neg (show ¬ bytN x = (59 : Int32) from hn 59 (by omega) (by omega) (by omega)), if_neg (show ¬ bytN x = (60 : Int32) from hn 60 (by omega) (by omega) (by omega)), if_neg (show ¬ bytN x = (61 : Int32) from hn 61 (by omega) (by omega) (by omega)), if_neg (show ¬ bytN x = (62 : Int32) from hn 62 (by omega) (by omega) (by omega))]
    rw [if_neg (by omega), if_neg (by omega), if_neg (by omega), if_neg (by omega), if_neg (by omega), if_neg (by omega), if_neg (by omega), if_neg (by omega), if_neg (by omega), if_neg (by omega)]
    rfl
theorem isNext_eq {c : Nat → Nat} {S : Nat} {σB σM : St} (T : TC c S σB σM) (i : Nat) (hi : i ≤ S) (h2 : gI σB 10 2 = nI i) (q : Nat) (hq : q < 128) : fX7_isNext σB (nI q) = some (if i < S ∧ c i = q then 1 else 0) := by
  obtain ⟨t1, t2, t3, t4, t5⟩ := T
  unfold fX7_isNext
  simp only [jnx1_eq, t2, h2]
  by_cases d : i < S
  · rw [if_neg (fun z => absurd ((leN (by omega) (by omega)).mp z) (by omega)), gdN (show i < 700 by omega) (by omega), clN (show i < 1000000 by omega), (t4 i (by omega)).2.2]
    by_cases e : c i = q
    · rw [if_pos ((byt_eq _ (t4 i (by omega)).1 q hq).mpr e), if_pos ⟨d, e⟩]
      exact gdb1
    · rw [if_neg (fun z => e ((byt_eq _ (t4 i (by omega)).1 q hq).mp z)), if_neg (fun z => e z.2)]
      exact gdb0
  · rw [if_pos ((leN (by omega) (by omega)).mpr (by omega)), if_neg (fun z => d z.1)]
    exact gdb0
