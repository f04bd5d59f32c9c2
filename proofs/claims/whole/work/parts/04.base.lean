/-! THE GLOBAL WORDS -/
def GT : List Cond := lw_tbl.filter goodWord
theorem GT_mem {w : Cond} (h : w ∈ lw_tbl) (hg : goodWord w = true) : w ∈ GT := List.mem_filter.mpr ⟨h, hg⟩
theorem GT_sub {w : Cond} (h : w ∈ GT) : w ∈ lw_tbl := (List.mem_filter.mp h).1
theorem GT_t {w : Cond} (i : Nat) (h : tables_1[i]? = some w) (hg : goodWord w = true) : w ∈ GT := GT_mem (List.mem_append_right _ (List.mem_of_getElem? h)) hg
theorem GT_s {w : Cond} (i : Nat) (h : (k2_sels lw_privs)[i]? = some w) (hg : goodWord w = true) : w ∈ GT := GT_mem (List.mem_append_left _ (List.mem_of_getElem? h)) hg
theorem GT_good {w : Cond} (h : w ∈ GT) : (w.onTables && w.keeps) = true ∨ ∃ ty, w = .arrayClass ty := good_of_word (List.mem_filter.mp h).2
abbrev wsG (y : MethodName) (cc : ByteArray) (n : Nat) (ret : Option FieldType) : List Cond := Cond.code y cc n ret :: GT
theorem GT_in {big : List Cond} (hb : ∀ w ∈ GT, w ∈ big) (ws : List Cond) (h : ∀ w ∈ ws, w ∈ GT) : GoodIn big ws := fun w hw => ⟨hb w (h w hw), GT_good (h w hw)⟩
theorem GT_all {a b : List Cond} (ha : ∀ w ∈ a, w ∈ GT) (hb : ∀ w ∈ b, w ∈ GT) : ∀ w ∈ a ++ b, w ∈ GT := fun w h => (List.mem_append.mp h).elim (ha w) (hb w)
theorem GT_c {c : Cond} {b : List Cond} (hc : c ∈ GT) (hb : ∀ w ∈ b, w ∈ GT) : ∀ w ∈ c :: b, w ∈ GT := fun w h => (List.mem_cons.mp h).elim (fun e => e ▸ hc) (hb w)
theorem GT_n : ∀ w ∈ ([] : List Cond), w ∈ GT := fun _ h => absurd h List.not_mem_nil
/-! THE STATE: ints by object and field, arrays of ints, of longs, longs, references -/
abbrev St : Type := (Nat → Nat → Int32) × (Nat → Nat → Nat → Int32) × (Nat → Nat → Nat → Int64) × (Nat → Nat → Int64) × (Nat → Bool)
def gI (σ : St) (o k : Nat) : Int32 := σ.1 o k
def gA (σ : St) (o k : Nat) : Nat → Int32 := σ.2.1 o k
def gL (σ : St) (o k : Nat) : Nat → Int64 := σ.2.2.1 o k
def gJ (σ : St) (o k : Nat) : Int64 := σ.2.2.2.1 o k
def gR (σ : St) (k : Nat) : Bool := σ.2.2.2.2 k
def sI (σ : St) (o k : Nat) (v : Int32) : St := (fun o' k' => cond (Nat.beq o' o && Nat.beq k' k) v (σ.1 o' k'), σ.2)
def sAr (σ : St) (o k : Nat) (f : Nat → Int32) : St := (σ.1, (fun o' k' => cond (Nat.beq o' o && Nat.beq k' k) f (σ.2.1 o' k')), σ.2.2)
def sLr (σ : St) (o k : Nat) (f : Nat → Int64) : St := (σ.1, σ.2.1, (fun o' k' => cond (Nat.beq o' o && Nat.beq k' k) f (σ.2.2.1 o' k')), σ.2.2.2)
def sJ (σ : St) (o k : Nat) (v : Int64) : St := (σ.1, σ.2.1, σ.2.2.1, (fun o' k' => cond (Nat.beq o' o && Nat.beq k' k) v (σ.2.2.2.1 o' k')), σ.2.2.2.2)
def sR (σ : St) (k : Nat) (v : Bool) : St := (σ.1, σ.2.1, σ.2.2.1, σ.2.2.2.1, (fun k' => cond (Nat.beq k' k) v (σ.2.2.2.2 k')))
abbrev sA (σ : St) (o k i : Nat) (v : Int32) : St := sAr σ o k (upd (gA σ o k) i v)
abbrev sL (σ : St) (o k i : Nat) (v : Int64) : St := sLr σ o k (vp_updL (gL σ o k) i v)
/-! THE PURE WORDS -/
def FU : Nat := 1000000
def lp {α β : Type} : Nat → ((α → Option β) → α → Option β) → α → Option β
  | 0, _, _ => none
  | n + 1, F, a => F (lp n F) a
def jn {α β : Type} (J : α → Option β) (K : (α → Option β) → Option β) : Option β := K J
def lt {α β : Type} (v : α) (K : α → Option β) : Option β := K v
def gd {β : Type} (c : Prop) [Decidable c] (x : Option β) : Option β := if c then x else none
abbrev ixI (i : Int32) (n : Nat) : Prop := 0 ≤ i.toInt ∧ i.toInt < n
theorem lp_walk {α β : Type} {F : (α → Option β) → α → Option β} {x : β} {P : α → Prop} (h : ∀ (self : α → Option β) (a : α), (∀ a', self a' = some x → P a') → F self a = some x → P a) : ∀ (n : Nat) (a : α), lp n F a = some x → P a
  | 0, _, hf => by cases hf
  | n + 1, a, hf => h (lp n F) a (fun a' h' => lp_walk h n a' h') hf
theorem jn_elim {α β : Type} {J : α → Option β} {K : (α → Option β) → Option β} {x : β} (h : jn J K = some x) : ∃ J' : α → Option β, (∀ a, J' a = J a) ∧ K J' = some x := ⟨J, fun _ => rfl, h⟩
theorem lt_elim {α β : Type} {v : α} {K : α → Option β} {x : β} (h : lt v K = some x) : ∃ v' : α, v' = v ∧ K v' = some x := ⟨v, rfl, h⟩
theorem gd_elim {β : Type} {c : Prop} [Decidable c] {y : Option β} {x : β} (h : gd c y = some x) : c ∧ y = some x := by
  unfold gd at h
  split at h
  · exact ⟨‹_›, h⟩
  · cases h
theorem bd_elim {α β : Type} {o : Option α} {K : α → Option β} {x : β} (h : o.bind K = some x) : ∃ a, o = some a ∧ K a = some x := Option.bind_eq_some_iff.mp h
theorem if_p {c : Prop} [Decidable c] {β : Type} {a b : Option β} {x : β} (hc : c) (h : (if c then a else b) = some x) : a = some x := by rw [if_pos hc] at h; exact h
theorem if_n {c : Prop} [Decidable c] {β : Type} {a b : Option β} {x : β} (hc : ¬ c) (h : (if c then a else b) = some x) : b = some x := by rw [if_neg hc] at h; exact h
theorem ixI_in {i : Int32} {n : Nat} (h : ixI i n) : vp_in i n := vp_in_iff.mpr h
