/-- the signs that wait, top first, of both sides -/
def WT (fB fM : Nat → Int32) : List Nat → Prop
  | [] => True
  | k :: r => fB r.length = nI (cw k) ∧ fM r.length = nI k ∧ okW k ∧ WT fB fM r
/-- the knots held, top first -/
def HL (fM : Nat → Int32) : List Nat → Prop
  | [] => True
  | x :: r => fM r.length = nI x ∧ HL fM r
def nbin : List Nat → Nat
  | [] => 0
  | k :: r => (if 3 ≤ k then 1 else 0) + nbin r
def nsig : List Nat → Nat
  | [] => 0
  | k :: r => (if 2 ≤ k then 1 else 0) + nsig r
def nbra : List Nat → Nat
  | [] => 0
  | k :: r => (if k = 0 then 1 else 0) + nbra r
/-- the signs of the bracket group on top -/
def grp : List Nat → List Nat
  | [] => []
  | k :: r => if k = 0 then [] else k :: grp r
def rel (L : Nat) : List Nat → List Nat
  | [] => []
  | k :: r => if L ≤ rk k then rel L r else k :: r
theorem WT.len : ∀ {ws : List Nat} {fB fM : Nat → Int32}, WT fB fM ws → ws.length = nsig ws + nbra ws
  | [], _, _, _ => rfl
  | k :: r, fB, fM, h => by
    obtain ⟨-, -, h3, h4⟩ := h
    have := WT.len h4
    unfold nsig nbra
    rw [List.length_cons, this]
    unfold okW at h3
    by_cases e : k = 0
    · rw [if_neg (by omega), if_pos e]; omega
    · rw [if_pos (by omega), if_neg e]; omega
theorem WT.cg : ∀ {ws : List Nat} {fB fM fB' fM' : Nat → Int32}, WT fB fM ws → (∀ i, i < ws.length → fB' i = fB i ∧ fM' i = fM i) → WT fB' fM' ws
  | [], _, _, _, _, _, _ => trivial
  | k :: r, fB, fM, fB', fM', h, e => by
    obtain ⟨h1, h2, h3, h4⟩ := h
    have l : (k :: r).length = r.length + 1 := rfl
    have q := e r.length (by omega)
    exact ⟨by rw [q.1]; exact h1, by rw [q.2]; exact h2, h3, WT.cg h4 (fun i hi => e i (by omega))⟩
theorem HL.cg : ∀ {hl : List Nat} {fM fM' : Nat → Int32}, HL fM hl → (∀ i, i < hl.length → fM' i = fM i) → HL fM' hl
  | [], _, _, _, _ => trivial
  | x :: r, fM, fM', h, e => by
    obtain ⟨h1, h2⟩ := h
    have l : (x :: r).length = r.length + 1 := rfl
    exact ⟨by rw [e r.length (by omega)]; exact h1, HL.cg h2 (fun i hi => e i (by omega))⟩
