/-! THE WORLDS: the class (B) and the reference (M) -/
abbrev GwT : Type := (Nat → Nat) × (Nat → Nat → Nat) × ClassId × ClassId × ClassId × ClassId
abbrev ttG (g : GwT) : List (ClassId × FieldType) := [(g.2.2.1, .int), (g.2.2.2.1, .byte), (g.2.2.2.2.1, .long), (g.2.2.2.2.2, .boolean)]
def isSale (o : Nat) : Prop := o = 5 ∨ o = 6 ∨ o = 7 ∨ o = 8
def tx (b : Bool) : Nat := cond b 2 1
abbrev lw (b : Bool) : Nat := tx b + 2
def fs0 (g : GwT) (σ : St) : List Value := [.ref (g.2.1 14 0), .ref (g.1 (tx (gR σ 2))), .int (gI σ 14 2), .int (gI σ 14 3), .int (gI σ 14 4), .int (gI σ 14 5), .int (gI σ 14 6)]
def fs1 (g : GwT) (σ : St) : List Value := [.ref (g.1 10), .ref (g.1 (lw (gR σ 4))), .ref (g.2.1 11 2), .int (gI σ 11 3), .int (gI σ 11 4), .int (gI σ 11 5), .int (gI σ 11 6), .int (gI σ 11 7), .int (gI σ 11 8)]
def fs2 (g : GwT) (σ : St) (o : Nat) : List Value := [.ref (g.2.1 o 0), .ref (g.2.1 o 1), .ref (g.2.1 o 2), .ref (g.2.1 o 3), .int (gI σ o 4)]
def fs3 (g : GwT) (σ : St) : List Value := [.ref (g.1 10), .ref (g.1 11), .ref (g.1 (tx (gR σ 3))), .int (gI σ 9 3), .int (gI σ 9 4)]
def fs4 (g : GwT) (σ : St) (o : Nat) : List Value := [.ref (g.2.1 o 0), .ref (g.2.1 o 1), .ref (g.2.1 o 2), .ref (g.2.1 o 3), .ref (g.2.1 o 4), .ref (g.2.1 o 5), .int (gI σ o 6), .int (gI σ o 7), .int (gI σ o 8), .int (gI σ o 9), .int (gI σ o 10), .int (gI σ o 11), .int (gI σ o 12), .int (gI σ o 13), .int (gI σ o 14)]
def fs5 (g : GwT) (σ : St) : List Value := [.ref (g.2.1 13 0), .ref (g.2.1 13 1), .ref (g.2.1 13 2), .ref (g.2.1 13 3), .int (gI σ 13 4), .int (gI σ 13 5)]
def fs6 (g : GwT) (σ : St) (o : Nat) : List Value := [.int (gI σ o 0), .int (gI σ o 1), .ref (g.2.1 o 2), .ref (g.2.1 o 3), .ref (g.2.1 o 4), .ref (g.2.1 o 5), .ref (g.2.1 o 6), .ref (g.2.1 o 7), .int (gI σ o 8), .ref (g.2.1 o 9), .ref (g.2.1 o 10), .ref (g.2.1 o 11), .int (gI σ o 12), .int (gI σ o 13), .int (gI σ o 14), .ref (g.1 (o + 2))]
def fs7 (g : GwT) (σ : St) : List Value := [.ref (g.2.1 0 0), .int (gI σ 10 1), .int (gI σ 10 2), .int (gI σ 10 3), .int (gI σ 10 4), .int (gI σ 10 5)]
def fs8 (g : GwT) (σ : St) : List Value := [.ref (g.2.1 12 0), .int (gI σ 12 1)]
def fs9 (g : GwT) (σ : St) : List Value := [.ref (g.2.1 0 0), .int (gI σ 0 1), .ref (g.1 (tx (gR σ 0))), .ref (g.1 (tx (gR σ 1))), .ref (g.1 9), .int (gI σ 0 5), .int (gI σ 0 6), .ref (g.1 5), .ref (g.1 6), .ref (g.1 7), .ref (g.1 8), .int (gI σ 0 11), .ref (g.1 12), .ref (g.1 13), .ref (g.1 14)]
def fs10 (g : GwT) (σ : St) : List Value := [.ref (g.2.1 0 0), .int (gI σ 0 1), .int (gI σ 0 2), .ref (g.2.1 0 3), .int (gI σ 0 4), .int (gI σ 0 5), .int (gI σ 0 6), .int (gI σ 0 7), .int (gI σ 0 8), .int (gI σ 0 9), .int (gI σ 0 10), .int (gI σ 0 11), .int (gI σ 0 12), .int (gI σ 0 13), .int (gI σ 0 14), .int (gI σ 0 15), .int (gI σ 0 16), .int (gI σ 0 17), .ref (g.2.1 0 18), .ref (g.2.1 0 19), .ref (g.2.1 0 20), .ref (g.2.1 0 21), .ref (g.2.1 0 22), .ref (g.2.1 0 23), .ref (g.2.1 0 24), .ref (g.2.1 0 25), .ref (g.2.1 0 26), .ref (g.2.1 0 27), .ref (g.2.1 0 28), .ref (g.2.1 0 29), .ref (g.2.1 0 30), .ref (g.2.1 0 31), .ref (g.2.1 0 32), .ref (g.2.1 0 33), .ref (g.2.1 0 34), .ref (g.2.1 0 35), .ref (g.2.1 0 36), .int (gI σ 0 37), .int (gI σ 0 38), .int (gI σ 0 39), .int (gI σ 0 40), .int (gI σ 0 41), .int (gI σ 0 42), .ref (g.2.1 0 43), .ref (g.2.1 0 44), .int (gI σ 0 45), .ref (g.2.1 0 46), .ref (g.2.1 0 47), .ref (g.2.1 0 48), .ref (g.2.1 0 49), .ref (g.2.1 0 50), .ref (g.2.1 0 51), .ref (g.2.1 0 52), .ref (g.2.1 0 53), .ref (g.2.1 0 54), .ref (g.2.1 0 55), .ref (g.2.1 0 56), .ref (g.2.1 0 57), .ref (g.2.1 0 58), .ref (g.2.1 0 59), .long (gJ σ 0 60), .int (gI σ 0 61), .int (gI σ 0 62), .int (gI σ 0 63), .int (gI σ 0 64), .int (gI σ 0 65), .int (gI σ 0 66), .int (gI σ 0 67), .int (gI σ 0 68), .ref (g.2.1 0 69), .ref (g.2.1 0 70), .int (gI σ 0 71), .ref (g.2.1 0 72), .int (gI σ 0 73), .ref (g.2.1 0 74), .ref (g.2.1 0 75), .long (gJ σ 0 76)]
def wB (g : GwT) (σ : St) : va_W := [(g.1 0, .inr (9, fs9 g σ)), (g.1 1, .inr (6, fs6 g σ 1)), (g.1 2, .inr (6, fs6 g σ 2)), (g.1 3, .inr (2, fs2 g σ 3)), (g.1 4, .inr (2, fs2 g σ 4)), (g.1 5, .inr (4, fs4 g σ 5)), (g.1 6, .inr (4, fs4 g σ 6)), (g.1 7, .inr (4, fs4 g σ 7)), (g.1 8, .inr (4, fs4 g σ 8)), (g.1 9, .inr (3, fs3 g σ)), (g.1 10, .inr (7, fs7 g σ)), (g.1 11, .inr (1, fs1 g σ)), (g.1 12, .inr (8, fs8 g σ)), (g.1 13, .inr (5, fs5 g σ)), (g.1 14, .inr (0, fs0 g σ)), (g.2.1 0 0, .inl (g.2.2.2.1, 700, .inl (gA σ 0 0))), (g.2.1 1 2, .inl (g.2.2.1, 6, .inl (gA σ 1 2))), (g.2.1 1 3, .inl (g.2.2.1, 6, .inl (gA σ 1 3))), (g.2.1 1 4, .inl (g.2.2.1, 6, .inl (gA σ 1 4))), (g.2.1 1 5, .inl (g.2.2.1, 6, .inl (gA σ 1 5))), (g.2.1 1 6, .inl (g.2.2.1, 6, .inl (gA σ 1 6))), (g.2.1 1 7, .inl (g.2.2.1, 6, .inl (gA σ 1 7))), (g.2.1 1 9, .inl (g.2.2.1, 6, .inl (gA σ 1 9))), (g.2.1 1 10, .inl (g.2.2.1, 6, .inl (gA σ 1 10))), (g.2.1 1 11, .inl (g.2.2.1, 6, .inl (gA σ 1 11))), (g.2.1 2 2, .inl (g.2.2.1, 6, .inl (gA σ 2 2))), (g.2.1 2 3, .inl (g.2.2.1, 6, .inl (gA σ 2 3))), (g.2.1 2 4, .inl (g.2.2.1, 6, .inl (gA σ 2 4))), (g.2.1 2 5, .inl (g.2.2.1, 6, .inl (gA σ 2 5))), (g.2.1 2 6, .inl (g.2.2.1, 6, .inl (gA σ 2 6))), (g.2.1 2 7, .inl (g.2.2.1, 6, .inl (gA σ 2 7))), (g.2.1 2 9, .inl (g.2.2.1, 6, .inl (gA σ 2 9))), (g.2.1 2 10, .inl (g.2.2.1, 6, .inl (gA σ 2 10))), (g.2.1 2 11, .inl (g.2.2.1, 6, .inl (gA σ 2 11))), (g.2.1 3 0, .inl (g.2.2.1, 64, .inl (gA σ 3 0))), (g.2.1 3 1, .inl (g.2.2.1, 64, .inl (gA σ 3 1))), (g.2.1 3 2, .inl (g.2.2.1, 3, .inl (gA σ 3 2))), (g.2.1 3 3, .inl (g.2.2.1, 3, .inl (gA σ 3 3))), (g.2.1 4 0, .inl (g.2.2.1, 64, .inl (gA σ 4 0))), (g.2.1 4 1, .inl (g.2.2.1, 64, .inl (gA σ 4 1))), (g.2.1 4 2, .inl (g.2.2.1, 3, .inl (gA σ 4 2))), (g.2.1 4 3, .inl (g.2.2.1, 3, .inl (gA σ 4 3))), (g.2.1 5 0, .inl (g.2.2.1, 6, .inl (gA σ 5 0))), (g.2.1 5 1, .inl (g.2.2.1, 6, .inl (gA σ 5 1))), (g.2.1 5 2, .inl (g.2.2.1, 6, .inl (gA σ 5 2))), (g.2.1 5 3, .inl (g.2.2.1, 6, .inl (gA σ 5 3))), (g.2.1 5 4, .inl (g.2.2.1, 6, .inl (gA σ 5 4))), (g.2.1 5 5, .inl (g.2.2.1, 6, .inl (gA σ 5 5))), (g.2.1 6 0, .inl (g.2.2.1, 6, .inl (gA σ 6 0))), (g.2.1 6 1, .inl (g.2.2.1, 6, .inl (gA σ 6 1))), (g.2.1 6 2, .inl (g.2.2.1, 6, .inl (gA σ 6 2))), (g.2.1 6 3, .inl (g.2.2.1, 6, .inl (gA σ 6 3))), (g.2.1 6 4, .inl (g.2.2.1, 6, .inl (gA σ 6 4))), (g.2.1 6 5, .inl (g.2.2.1, 6, .inl (gA σ 6 5))), (g.2.1 7 0, .inl (g.2.2.1, 6, .inl (gA σ 7 0))), (g.2.1 7 1, .inl (g.2.2.1, 6, .inl (gA σ 7 1))), (g.2.1 7 2, .inl (g.2.2.1, 6, .inl (gA σ 7 2))), (g.2.1 7 3, .inl (g.2.2.1, 6, .inl (gA σ 7 3))), (g.2.1 7 4, .inl (g.2.2.1, 6, .inl (gA σ 7 4))), (g.2.1 7 5, .inl (g.2.2.1, 6, .inl (gA σ 7 5))), (g.2.1 8 0, .inl (g.2.2.1, 6, .inl (gA σ 8 0))), (g.2.1 8 1, .inl (g.2.2.1, 6, .inl (gA σ 8 1))), (g.2.1 8 2, .inl (g.2.2.1, 6, .inl (gA σ 8 2))), (g.2.1 8 3, .inl (g.2.2.1, 6, .inl (gA σ 8 3))), (g.2.1 8 4, .inl (g.2.2.1, 6, .inl (gA σ 8 4))), (g.2.1 8 5, .inl (g.2.2.1, 6, .inl (gA σ 8 5))), (g.2.1 11 2, .inl (g.2.2.1, 72, .inl (gA σ 11 2))), (g.2.1 12 0, .inl (g.2.2.1, 180, .inl (gA σ 12 0))), (g.2.1 13 0, .inl (g.2.2.1, 24, .inl (gA σ 13 0))), (g.2.1 13 1, .inl (g.2.2.1, 24, .inl (gA σ 13 1))), (g.2.1 13 2, .inl (g.2.2.1, 24, .inl (gA σ 13 2))), (g.2.1 13 3, .inl (g.2.2.2.2.2, 24, .inl (gA σ 13 3))), (g.2.1 14 0, .inl (g.2.2.2.2.1, 64, .inr (.inl (gL σ 14 0))))]
def wM (g : GwT) (σ : St) : va_W := [(g.1 0, .inr (10, fs10 g σ)), (g.2.1 0 0, .inl (g.2.2.1, 700, .inl (gA σ 0 0))), (g.2.1 0 3, .inl (g.2.2.1, 97, .inl (gA σ 0 3))), (g.2.1 0 18, .inl (g.2.2.2.2.2, 3, .inl (gA σ 0 18))), (g.2.1 0 19, .inl (g.2.2.1, 6, .inl (gA σ 0 19))), (g.2.1 0 20, .inl (g.2.2.1, 12, .inl (gA σ 0 20))), (g.2.1 0 21, .inl (g.2.2.1, 12, .inl (gA σ 0 21))), (g.2.1 0 22, .inl (g.2.2.1, 12, .inl (gA σ 0 22))), (g.2.1 0 23, .inl (g.2.2.1, 12, .inl (gA σ 0 23))), (g.2.1 0 24, .inl (g.2.2.1, 12, .inl (gA σ 0 24))), (g.2.1 0 25, .inl (g.2.2.1, 12, .inl (gA σ 0 25))), (g.2.1 0 26, .inl (g.2.2.1, 12, .inl (gA σ 0 26))), (g.2.1 0 27, .inl (g.2.2.1, 12, .inl (gA σ 0 27))), (g.2.1 0 28, .inl (g.2.2.1, 12, .inl (gA σ 0 28))), (g.2.1 0 29, .inl (g.2.2.2.2.2, 6, .inl (gA σ 0 29))), (g.2.1 0 30, .inl (g.2.2.1, 6, .inl (gA σ 0 30))), (g.2.1 0 31, .inl (g.2.2.1, 6, .inl (gA σ 0 31))), (g.2.1 0 32, .inl (g.2.2.1, 128, .inl (gA σ 0 32))), (g.2.1 0 33, .inl (g.2.2.1, 128, .inl (gA σ 0 33))), (g.2.1 0 34, .inl (g.2.2.1, 128, .inl (gA σ 0 34))), (g.2.1 0 35, .inl (g.2.2.1, 96, .inl (gA σ 0 35))), (g.2.1 0 36, .inl (g.2.2.1, 96, .inl (gA σ 0 36))), (g.2.1 0 43, .inl (g.2.2.2.2.1, 7, .inr (.inl (gL σ 0 43)))), (g.2.1 0 44, .inl (g.2.2.2.2.1, 64, .inr (.inl (gL σ 0 44)))), (g.2.1 0 46, .inl (g.2.2.1, 12, .inl (gA σ 0 46))), (g.2.1 0 47, .inl (g.2.2.1, 12, .inl (gA σ 0 47))), (g.2.1 0 48, .inl (g.2.2.1, 12, .inl (gA σ 0 48))), (g.2.1 0 49, .inl (g.2.2.2.2.2, 12, .inl (gA σ 0 49))), (g.2.1 0 50, .inl (g.2.2.1, 12, .inl (gA σ 0 50))), (g.2.1 0 51, .inl (g.2.2.1, 12, .inl (gA σ 0 51))), (g.2.1 0 52, .inl (g.2.2.1, 12, .inl (gA σ 0 52))), (g.2.1 0 53, .inl (g.2.2.2.2.2, 12, .inl (gA σ 0 53))), (g.2.1 0 54, .inl (g.2.2.1, 2, .inl (gA σ 0 54))), (g.2.1 0 55, .inl (g.2.2.1, 2, .inl (gA σ 0 55))), (g.2.1 0 56, .inl (g.2.2.1, 2, .inl (gA σ 0 56))), (g.2.1 0 57, .inl (g.2.2.2.2.2, 2, .inl (gA σ 0 57))), (g.2.1 0 58, .inl (g.2.2.1, 2, .inl (gA σ 0 58))), (g.2.1 0 59, .inl (g.2.2.1, 2, .inl (gA σ 0 59))), (g.2.1 0 69, .inl (g.2.2.1, 72, .inl (gA σ 0 69))), (g.2.1 0 70, .inl (g.2.2.2.2.2, 24, .inl (gA σ 0 70))), (g.2.1 0 72, .inl (g.2.2.1, 660, .inl (gA σ 0 72))), (g.2.1 0 74, .inl (g.2.2.1, 33, .inl (gA σ 0 74))), (g.2.1 0 75, .inl (g.2.2.1, 21, .inl (gA σ 0 75)))]
theorem hO0 (g : GwT) (σ : St)  : (wB g σ)[14]? = some (g.1 14, .inr (0, fs0 g σ)) := rfl
theorem hA0_0 (g : GwT) (σ : St)  : (wB g σ)[72]? = some (g.2.1 14 0, .inl (g.2.2.2.2.1, 64, .inr (.inl (gL σ 14 0)))) := rfl
theorem hS0_0 (g : GwT) (σ : St)  (f : Nat → Int64) : (wB g σ).set 72 (g.2.1 14 0, .inl (g.2.2.2.2.1, 64, .inr (.inl f))) = wB g (sLr σ 14 0 f) := rfl
theorem hF0_1 (g : GwT) (σ : St) (v : Bool) : (wB g σ).set 14 (g.1 14, .inr (0, (fs0 g σ).set 1 (.ref (g.1 (tx v))))) = wB g (sR σ 2 v) := rfl
theorem hF0_2 (g : GwT) (σ : St)  (v : Int32) : (wB g σ).set 14 (g.1 14, .inr (0, (fs0 g σ).set 2 (.int v))) = wB g (sI σ 14 2 v) := rfl
theorem hF0_3 (g : GwT) (σ : St)  (v : Int32) : (wB g σ).set 14 (g.1 14, .inr (0, (fs0 g σ).set 3 (.int v))) = wB g (sI σ 14 3 v) := rfl
theorem hF0_4 (g : GwT) (σ : St)  (v : Int32) : (wB g σ).set 14 (g.1 14, .inr (0, (fs0 g σ).set 4 (.int v))) = wB g (sI σ 14 4 v) := rfl
theorem hF0_5 (g : GwT) (σ : St)  (v : Int32) : (wB g σ).set 14 (g.1 14, .inr (0, (fs0 g σ).set 5 (.int v))) = wB g (sI σ 14 5 v) := rfl
theorem hF0_6 (g : GwT) (σ : St)  (v : Int32) : (wB g σ).set 14 (g.1 14, .inr (0, (fs0 g σ).set 6 (.int v))) = wB g (sI σ 14 6 v) := rfl
theorem hO1 (g : GwT) (σ : St)  : (wB g σ)[11]? = some (g.1 11, .inr (1, fs1 g σ)) := rfl
theorem hF1_1 (g : GwT) (σ : St) (v : Bool) : (wB g σ).set 11 (g.1 11, .inr (1, (fs1 g σ).set 1 (.ref (g.1 (lw v))))) = wB g (sR σ 4 v) := rfl
theorem hA1_2 (g : GwT) (σ : St)  : (wB g σ)[66]? = some (g.2.1 11 2, .inl (g.2.2.1, 72, .inl (gA σ 11 2))) := rfl
theorem hS1_2 (g : GwT) (σ : St)  (f : Nat → Int32) : (wB g σ).set 66 (g.2.1 11 2, .inl (g.2.2.1, 72, .inl f)) = wB g (sAr σ 11 2 f) := rfl
theorem hF1_3 (g : GwT) (σ : St)  (v : Int32) : (wB g σ).set 11 (g.1 11, .inr (1, (fs1 g σ).set 3 (.int v))) = wB g (sI σ 11 3 v) := rfl
theorem hF1_4 (g : GwT) (σ : St)  (v : Int32) : (wB g σ).set 11 (g.1 11, .inr (1, (fs1 g σ).set 4 (.int v))) = wB g (sI σ 11 4 v) := rfl
theorem hF1_5 (g : GwT) (σ : St)  (v : Int32) : (wB g σ).set 11 (g.1 11, .inr (1, (fs1 g σ).set 5 (.int v))) = wB g (sI σ 11 5 v) := rfl
theorem hF1_6 (g : GwT) (σ : St)  (v : Int32) : (wB g σ).set 11 (g.1 11, .inr (1, (fs1 g σ).set 6 (.int v))) = wB g (sI σ 11 6 v) := rfl
theorem hF1_7 (g : GwT) (σ : St)  (v : Int32) : (wB g σ).set 11 (g.1 11, .inr (1, (fs1 g σ).set 7 (.int v))) = wB g (sI σ 11 7 v) := rfl
theorem hF1_8 (g : GwT) (σ : St)  (v : Int32) : (wB g σ).set 11 (g.1 11, .inr (1, (fs1 g σ).set 8 (.int v))) = wB g (sI σ 11 8 v) := rfl
theorem hO2 (g : GwT) (σ : St) (b : Bool) : (wB g σ)[(lw b)]? = some (g.1 (lw b), .inr (2, fs2 g σ (lw b))) := by cases b <;> rfl
theorem hA2_0 (g : GwT) (σ : St) (b : Bool) : (wB g σ)[(cond b 38 34)]? = some (g.2.1 (lw b) 0, .inl (g.2.2.1, 64, .inl (gA σ (lw b) 0))) := by cases b <;> rfl
theorem hS2_0 (g : GwT) (σ : St) (b : Bool) (f : Nat → Int32) : (wB g σ).set (cond b 38 34) (g.2.1 (lw b) 0, .inl (g.2.2.1, 64, .inl f)) = wB g (sAr σ (lw b) 0 f) := by cases b <;> rfl
theorem hA2_1 (g : GwT) (σ : St) (b : Bool) : (wB g σ)[(cond b 39 35)]? = some (g.2.1 (lw b) 1, .inl (g.2.2.1, 64, .inl (gA σ (lw b) 1))) := by cases b <;> rfl
theorem hS2_1 (g : GwT) (σ : St) (b : Bool) (f : Nat → Int32) : (wB g σ).set (cond b 39 35) (g.2.1 (lw b) 1, .inl (g.2.2.1, 64, .inl f)) = wB g (sAr σ (lw b) 1 f) := by cases b <;> rfl
theorem hA2_2 (g : GwT) (σ : St) (b : Bool) : (wB g σ)[(cond b 40 36)]? = some (g.2.1 (lw b) 2, .inl (g.2.2.1, 3, .inl (gA σ (lw b) 2))) := by cases b <;> rfl
theorem hS2_2 (g : GwT) (σ : St) (b : Bool) (f : Nat → Int32) : (wB g σ).set (cond b 40 36) (g.2.1 (lw b) 2, .inl (g.2.2.1, 3, .inl f)) = wB g (sAr σ (lw b) 2 f) := by cases b <;> rfl
theorem hA2_3 (g : GwT) (σ : St) (b : Bool) : (wB g σ)[(cond b 41 37)]? = some (g.2.1 (lw b) 3, .inl (g.2.2.1, 3, .inl (gA σ (lw b) 3))) := by cases b <;> rfl
theorem hS2_3 (g : GwT) (σ : St) (b : Bool) (f : Nat → Int32) : (wB g σ).set (cond b 41 37) (g.2.1 (lw b) 3, .inl (g.2.2.1, 3, .inl f)) = wB g (sAr σ (lw b) 3 f) := by cases b <;> rfl
theorem hF2_4 (g : GwT) (σ : St) (b : Bool) (v : Int32) : (wB g σ).set (lw b) (g.1 (lw b), .inr (2, (fs2 g σ (lw b)).set 4 (.int v))) = wB g (sI σ (lw b) 4 v) := by cases b <;> rfl
theorem hO3 (g : GwT) (σ : St)  : (wB g σ)[9]? = some (g.1 9, .inr (3, fs3 g σ)) := rfl
theorem hF3_2 (g : GwT) (σ : St) (v : Bool) : (wB g σ).set 9 (g.1 9, .inr (3, (fs3 g σ).set 2 (.ref (g.1 (tx v))))) = wB g (sR σ 3 v) := rfl
theorem hF3_3 (g : GwT) (σ : St)  (v : Int32) : (wB g σ).set 9 (g.1 9, .inr (3, (fs3 g σ).set 3 (.int v))) = wB g (sI σ 9 3 v) := rfl
theorem hF3_4 (g : GwT) (σ : St)  (v : Int32) : (wB g σ).set 9 (g.1 9, .inr (3, (fs3 g σ).set 4 (.int v))) = wB g (sI σ 9 4 v) := rfl
theorem hO4 (g : GwT) (σ : St) (o : Nat) (ho : isSale o) : (wB g σ)[o]? = some (g.1 o, .inr (4, fs4 g σ o)) := by rcases ho with rfl | rfl | rfl | rfl <;> rfl
theorem hA4_0 (g : GwT) (σ : St) (o : Nat) (ho : isSale o) : (wB g σ)[(42 + 6 * (o - 5))]? = some (g.2.1 o 0, .inl (g.2.2.1, 6, .inl (gA σ o 0))) := by rcases ho with rfl | rfl | rfl | rfl <;> rfl
theorem hS4_0 (g : GwT) (σ : St) (o : Nat) (ho : isSale o) (f : Nat → Int32) : (wB g σ).set (42 + 6 * (o - 5)) (g.2.1 o 0, .inl (g.2.2.1, 6, .inl f)) = wB g (sAr σ o 0 f) := by rcases ho with rfl | rfl | rfl | rfl <;> rfl
theorem hA4_1 (g : GwT) (σ : St) (o : Nat) (ho : isSale o) : (wB g σ)[(43 + 6 * (o - 5))]? = some (g.2.1 o 1, .inl (g.2.2.1, 6, .inl (gA σ o 1))) := by rcases ho with rfl | rfl | rfl | rfl <;> rfl
theorem hS4_1 (g : GwT) (σ : St) (o : Nat) (ho : isSale o) (f : Nat → Int32) : (wB g σ).set (43 + 6 * (o - 5)) (g.2.1 o 1, .inl (g.2.2.1, 6, .inl f)) = wB g (sAr σ o 1 f) := by rcases ho with rfl | rfl | rfl | rfl <;> rfl
theorem hA4_2 (g : GwT) (σ : St) (o : Nat) (ho : isSale o) : (wB g σ)[(44 + 6 * (o - 5))]? = some (g.2.1 o 2, .inl (g.2.2.1, 6, .inl (gA σ o 2))) := by rcases ho with rfl | rfl | rfl | rfl <;> rfl
theorem hS4_2 (g : GwT) (σ : St) (o : Nat) (ho : isSale o) (f : Nat → Int32) : (wB g σ).set (44 + 6 * (o - 5)) (g.2.1 o 2, .inl (g.2.2.1, 6, .inl f)) = wB g (sAr σ o 2 f) := by rcases ho with rfl | rfl | rfl | rfl <;> rfl
theorem hA4_3 (g : GwT) (σ : St) (o : Nat) (ho : isSale o) : (wB g σ)[(45 + 6 * (o - 5))]? = some (g.2.1 o 3, .inl (g.2.2.1, 6, .inl (gA σ o 3))) := by rcases ho with rfl | rfl | rfl | rfl <;> rfl
theorem hS4_3 (g : GwT) (σ : St) (o : Nat) (ho : isSale o) (f : Nat → Int32) : (wB g σ).set (45 + 6 * (o - 5)) (g.2.1 o 3, .inl (g.2.2.1, 6, .inl f)) = wB g (sAr σ o 3 f) := by rcases ho with rfl | rfl | rfl | rfl <;> rfl
theorem hA4_4 (g : GwT) (σ : St) (o : Nat) (ho : isSale o) : (wB g σ)[(46 + 6 * (o - 5))]? = some (g.2.1 o 4, .inl (g.2.2.1, 6, .inl (gA σ o 4))) := by rcases ho with rfl | rfl | rfl | rfl <;> rfl
theorem hS4_4 (g : GwT) (σ : St) (o : Nat) (ho : isSale o) (f : Nat → Int32) : (wB g σ).set (46 + 6 * (o - 5)) (g.2.1 o 4, .inl (g.2.2.1, 6, .inl f)) = wB g (sAr σ o 4 f) := by rcases ho with rfl | rfl | rfl | rfl <;> rfl
theorem hA4_5 (g : GwT) (σ : St) (o : Nat) (ho : isSale o) : (wB g σ)[(47 + 6 * (o - 5))]? = some (g.2.1 o 5, .inl (g.2.2.1, 6, .inl (gA σ o 5))) := by rcases ho with rfl | rfl | rfl | rfl <;> rfl
theorem hS4_5 (g : GwT) (σ : St) (o : Nat) (ho : isSale o) (f : Nat → Int32) : (wB g σ).set (47 + 6 * (o - 5)) (g.2.1 o 5, .inl (g.2.2.1, 6, .inl f)) = wB g (sAr σ o 5 f) := by rcases ho with rfl | rfl | rfl | rfl <;> rfl
theorem hF4_6 (g : GwT) (σ : St) (o : Nat) (ho : isSale o) (v : Int32) : (wB g σ).set o (g.1 o, .inr (4, (fs4 g σ o).set 6 (.int v))) = wB g (sI σ o 6 v) := by rcases ho with rfl | rfl | rfl | rfl <;> rfl
theorem hF4_7 (g : GwT) (σ : St) (o : Nat) (ho : isSale o) (v : Int32) : (wB g σ).set o (g.1 o, .inr (4, (fs4 g σ o).set 7 (.int v))) = wB g (sI σ o 7 v) := by rcases ho with rfl | rfl | rfl | rfl <;> rfl
theorem hF4_8 (g : GwT) (σ : St) (o : Nat) (ho : isSale o) (v : Int32) : (wB g σ).set o (g.1 o, .inr (4, (fs4 g σ o).set 8 (.int v))) = wB g (sI σ o 8 v) := by rcases ho with rfl | rfl | rfl | rfl <;> rfl
theorem hF4_9 (g : GwT) (σ : St) (o : Nat) (ho : isSale o) (v : Int32) : (wB g σ).set o (g.1 o, .inr (4, (fs4 g σ o).set 9 (.int v))) = wB g (sI σ o 9 v) := by rcases ho with rfl | rfl | rfl | rfl <;> rfl
theorem hF4_10 (g : GwT) (σ : St) (o : Nat) (ho : isSale o) (v : Int32) : (wB g σ).set o (g.1 o, .inr (4, (fs4 g σ o).set 10 (.int v))) = wB g (sI σ o 10 v) := by rcases ho with rfl | rfl | rfl | rfl <;> rfl
theorem hF4_11 (g : GwT) (σ : St) (o : Nat) (ho : isSale o) (v : Int32) : (wB g σ).set o (g.1 o, .inr (4, (fs4 g σ o).set 11 (.int v))) = wB g (sI σ o 11 v) := by rcases ho with rfl | rfl | rfl | rfl <;> rfl
theorem hF4_12 (g : GwT) (σ : St) (o : Nat) (ho : isSale o) (v : Int32) : (wB g σ).set o (g.1 o, .inr (4, (fs4 g σ o).set 12 (.int v))) = wB g (sI σ o 12 v) := by rcases ho with rfl | rfl | rfl | rfl <;> rfl
theorem hF4_13 (g : GwT) (σ : St) (o : Nat) (ho : isSale o) (v : Int32) : (wB g σ).set o (g.1 o, .inr (4, (fs4 g σ o).set 13 (.int v))) = wB g (sI σ o 13 v) := by rcases ho with rfl | rfl | rfl | rfl <;> rfl
theorem hF4_14 (g : GwT) (σ : St) (o : Nat) (ho : isSale o) (v : Int32) : (wB g σ).set o (g.1 o, .inr (4, (fs4 g σ o).set 14 (.int v))) = wB g (sI σ o 14 v) := by rcases ho with rfl | rfl | rfl | rfl <;> rfl
theorem hO5 (g : GwT) (σ : St)  : (wB g σ)[13]? = some (g.1 13, .inr (5, fs5 g σ)) := rfl
theorem hA5_0 (g : GwT) (σ : St)  : (wB g σ)[68]? = some (g.2.1 13 0, .inl (g.2.2.1, 24, .inl (gA σ 13 0))) := rfl
theorem hS5_0 (g : GwT) (σ : St)  (f : Nat → Int32) : (wB g σ).set 68 (g.2.1 13 0, .inl (g.2.2.1, 24, .inl f)) = wB g (sAr σ 13 0 f) := rfl
theorem hA5_1 (g : GwT) (σ : St)  : (wB g σ)[69]? = some (g.2.1 13 1, .inl (g.2.2.1, 24, .inl (gA σ 13 1))) := rfl
theorem hS5_1 (g : GwT) (σ : St)  (f : Nat → Int32) : (wB g σ).set 69 (g.2.1 13 1, .inl (g.2.2.1, 24, .inl f)) = wB g (sAr σ 13 1 f) := rfl
theorem hA5_2 (g : GwT) (σ : St)  : (wB g σ)[70]? = some (g.2.1 13 2, .inl (g.2.2.1, 24, .inl (gA σ 13 2))) := rfl
theorem hS5_2 (g : GwT) (σ : St)  (f : Nat → Int32) : (wB g σ).set 70 (g.2.1 13 2, .inl (g.2.2.1, 24, .inl f)) = wB g (sAr σ 13 2 f) := rfl
theorem hA5_3 (g : GwT) (σ : St)  : (wB g σ)[71]? = some (g.2.1 13 3, .inl (g.2.2.2.2.2, 24, .inl (gA σ 13 3))) := rfl
theorem hS5_3 (g : GwT) (σ : St)  (f : Nat → Int32) : (wB g σ).set 71 (g.2.1 13 3, .inl (g.2.2.2.2.2, 24, .inl f)) = wB g (sAr σ 13 3 f) := rfl
theorem hF5_4 (g : GwT) (σ : St)  (v : Int32) : (wB g σ).set 13 (g.1 13, .inr (5, (fs5 g σ).set 4 (.int v))) = wB g (sI σ 13 4 v) := rfl
theorem hF5_5 (g : GwT) (σ : St)  (v : Int32) : (wB g σ).set 13 (g.1 13, .inr (5, (fs5 g σ).set 5 (.int v))) = wB g (sI σ 13 5 v) := rfl
theorem hO6 (g : GwT) (σ : St) (b : Bool) : (wB g σ)[(tx b)]? = some (g.1 (tx b), .inr (6, fs6 g σ (tx b))) := by cases b <;> rfl
theorem hF6_0 (g : GwT) (σ : St) (b : Bool) (v : Int32) : (wB g σ).set (tx b) (g.1 (tx b), .inr (6, (fs6 g σ (tx b)).set 0 (.int v))) = wB g (sI σ (tx b) 0 v) := by cases b <;> rfl
theorem hF6_1 (g : GwT) (σ : St) (b : Bool) (v : Int32) : (wB g σ).set (tx b) (g.1 (tx b), .inr (6, (fs6 g σ (tx b)).set 1 (.int v))) = wB g (sI σ (tx b) 1 v) := by cases b <;> rfl
theorem hA6_2 (g : GwT) (σ : St) (b : Bool) : (wB g σ)[(cond b 25 16)]? = some (g.2.1 (tx b) 2, .inl (g.2.2.1, 6, .inl (gA σ (tx b) 2))) := by cases b <;> rfl
theorem hS6_2 (g : GwT) (σ : St) (b : Bool) (f : Nat → Int32) : (wB g σ).set (cond b 25 16) (g.2.1 (tx b) 2, .inl (g.2.2.1, 6, .inl f)) = wB g (sAr σ (tx b) 2 f) := by cases b <;> rfl
theorem hA6_3 (g : GwT) (σ : St) (b : Bool) : (wB g σ)[(cond b 26 17)]? = some (g.2.1 (tx b) 3, .inl (g.2.2.1, 6, .inl (gA σ (tx b) 3))) := by cases b <;> rfl
theorem hS6_3 (g : GwT) (σ : St) (b : Bool) (f : Nat → Int32) : (wB g σ).set (cond b 26 17) (g.2.1 (tx b) 3, .inl (g.2.2.1, 6, .inl f)) = wB g (sAr σ (tx b) 3 f) := by cases b <;> rfl
theorem hA6_4 (g : GwT) (σ : St) (b : Bool) : (wB g σ)[(cond b 27 18)]? = some (g.2.1 (tx b) 4, .inl (g.2.2.1, 6, .inl (gA σ (tx b) 4))) := by cases b <;> rfl
theorem hS6_4 (g : GwT) (σ : St) (b : Bool) (f : Nat → Int32) : (wB g σ).set (cond b 27 18) (g.2.1 (tx b) 4, .inl (g.2.2.1, 6, .inl f)) = wB g (sAr σ (tx b) 4 f) := by cases b <;> rfl
theorem hA6_5 (g : GwT) (σ : St) (b : Bool) : (wB g σ)[(cond b 28 19)]? = some (g.2.1 (tx b) 5, .inl (g.2.2.1, 6, .inl (gA σ (tx b) 5))) := by cases b <;> rfl
theorem hS6_5 (g : GwT) (σ : St) (b : Bool) (f : Nat → Int32) : (wB g σ).set (cond b 28 19) (g.2.1 (tx b) 5, .inl (g.2.2.1, 6, .inl f)) = wB g (sAr σ (tx b) 5 f) := by cases b <;> rfl
theorem hA6_6 (g : GwT) (σ : St) (b : Bool) : (wB g σ)[(cond b 29 20)]? = some (g.2.1 (tx b) 6, .inl (g.2.2.1, 6, .inl (gA σ (tx b) 6))) := by cases b <;> rfl
theorem hS6_6 (g : GwT) (σ : St) (b : Bool) (f : Nat → Int32) : (wB g σ).set (cond b 29 20) (g.2.1 (tx b) 6, .inl (g.2.2.1, 6, .inl f)) = wB g (sAr σ (tx b) 6 f) := by cases b <;> rfl
theorem hA6_7 (g : GwT) (σ : St) (b : Bool) : (wB g σ)[(cond b 30 21)]? = some (g.2.1 (tx b) 7, .inl (g.2.2.1, 6, .inl (gA σ (tx b) 7))) := by cases b <;> rfl
theorem hS6_7 (g : GwT) (σ : St) (b : Bool) (f : Nat → Int32) : (wB g σ).set (cond b 30 21) (g.2.1 (tx b) 7, .inl (g.2.2.1, 6, .inl f)) = wB g (sAr σ (tx b) 7 f) := by cases b <;> rfl
theorem hF6_8 (g : GwT) (σ : St) (b : Bool) (v : Int32) : (wB g σ).set (tx b) (g.1 (tx b), .inr (6, (fs6 g σ (tx b)).set 8 (.int v))) = wB g (sI σ (tx b) 8 v) := by cases b <;> rfl
theorem hA6_9 (g : GwT) (σ : St) (b : Bool) : (wB g σ)[(cond b 31 22)]? = some (g.2.1 (tx b) 9, .inl (g.2.2.1, 6, .inl (gA σ (tx b) 9))) := by cases b <;> rfl
theorem hS6_9 (g : GwT) (σ : St) (b : Bool) (f : Nat → Int32) : (wB g σ).set (cond b 31 22) (g.2.1 (tx b) 9, .inl (g.2.2.1, 6, .inl f)) = wB g (sAr σ (tx b) 9 f) := by cases b <;> rfl
theorem hA6_10 (g : GwT) (σ : St) (b : Bool) : (wB g σ)[(cond b 32 23)]? = some (g.2.1 (tx b) 10, .inl (g.2.2.1, 6, .inl (gA σ (tx b) 10))) := by cases b <;> rfl
theorem hS6_10 (g : GwT) (σ : St) (b : Bool) (f : Nat → Int32) : (wB g σ).set (cond b 32 23) (g.2.1 (tx b) 10, .inl (g.2.2.1, 6, .inl f)) = wB g (sAr σ (tx b) 10 f) := by cases b <;> rfl
theorem hA6_11 (g : GwT) (σ : St) (b : Bool) : (wB g σ)[(cond b 33 24)]? = some (g.2.1 (tx b) 11, .inl (g.2.2.1, 6, .inl (gA σ (tx b) 11))) := by cases b <;> rfl
theorem hS6_11 (g : GwT) (σ : St) (b : Bool) (f : Nat → Int32) : (wB g σ).set (cond b 33 24) (g.2.1 (tx b) 11, .inl (g.2.2.1, 6, .inl f)) = wB g (sAr σ (tx b) 11 f) := by cases b <;> rfl
theorem hF6_12 (g : GwT) (σ : St) (b : Bool) (v : Int32) : (wB g σ).set (tx b) (g.1 (tx b), .inr (6, (fs6 g σ (tx b)).set 12 (.int v))) = wB g (sI σ (tx b) 12 v) := by cases b <;> rfl
theorem hF6_13 (g : GwT) (σ : St) (b : Bool) (v : Int32) : (wB g σ).set (tx b) (g.1 (tx b), .inr (6, (fs6 g σ (tx b)).set 13 (.int v))) = wB g (sI σ (tx b) 13 v) := by cases b <;> rfl
theorem hF6_14 (g : GwT) (σ : St) (b : Bool) (v : Int32) : (wB g σ).set (tx b) (g.1 (tx b), .inr (6, (fs6 g σ (tx b)).set 14 (.int v))) = wB g (sI σ (tx b) 14 v) := by cases b <;> rfl
theorem hO7 (g : GwT) (σ : St)  : (wB g σ)[10]? = some (g.1 10, .inr (7, fs7 g σ)) := rfl
theorem hF7_1 (g : GwT) (σ : St)  (v : Int32) : (wB g σ).set 10 (g.1 10, .inr (7, (fs7 g σ).set 1 (.int v))) = wB g (sI σ 10 1 v) := rfl
theorem hF7_2 (g : GwT) (σ : St)  (v : Int32) : (wB g σ).set 10 (g.1 10, .inr (7, (fs7 g σ).set 2 (.int v))) = wB g (sI σ 10 2 v) := rfl
theorem hF7_3 (g : GwT) (σ : St)  (v : Int32) : (wB g σ).set 10 (g.1 10, .inr (7, (fs7 g σ).set 3 (.int v))) = wB g (sI σ 10 3 v) := rfl
theorem hF7_4 (g : GwT) (σ : St)  (v : Int32) : (wB g σ).set 10 (g.1 10, .inr (7, (fs7 g σ).set 4 (.int v))) = wB g (sI σ 10 4 v) := rfl
theorem hF7_5 (g : GwT) (σ : St)  (v : Int32) : (wB g σ).set 10 (g.1 10, .inr (7, (fs7 g σ).set 5 (.int v))) = wB g (sI σ 10 5 v) := rfl
theorem hO8 (g : GwT) (σ : St)  : (wB g σ)[12]? = some (g.1 12, .inr (8, fs8 g σ)) := rfl
theorem hA8_0 (g : GwT) (σ : St)  : (wB g σ)[67]? = some (g.2.1 12 0, .inl (g.2.2.1, 180, .inl (gA σ 12 0))) := rfl
theorem hS8_0 (g : GwT) (σ : St)  (f : Nat → Int32) : (wB g σ).set 67 (g.2.1 12 0, .inl (g.2.2.1, 180, .inl f)) = wB g (sAr σ 12 0 f) := rfl
theorem hF8_1 (g : GwT) (σ : St)  (v : Int32) : (wB g σ).set 12 (g.1 12, .inr (8, (fs8 g σ).set 1 (.int v))) = wB g (sI σ 12 1 v) := rfl
theorem hO9 (g : GwT) (σ : St)  : (wB g σ)[0]? = some (g.1 0, .inr (9, fs9 g σ)) := rfl
theorem hA9_0 (g : GwT) (σ : St)  : (wB g σ)[15]? = some (g.2.1 0 0, .inl (g.2.2.2.1, 700, .inl (gA σ 0 0))) := rfl
theorem hS9_0 (g : GwT) (σ : St)  (f : Nat → Int32) : (wB g σ).set 15 (g.2.1 0 0, .inl (g.2.2.2.1, 700, .inl f)) = wB g (sAr σ 0 0 f) := rfl
theorem hF9_1 (g : GwT) (σ : St)  (v : Int32) : (wB g σ).set 0 (g.1 0, .inr (9, (fs9 g σ).set 1 (.int v))) = wB g (sI σ 0 1 v) := rfl
theorem hF9_2 (g : GwT) (σ : St) (v : Bool) : (wB g σ).set 0 (g.1 0, .inr (9, (fs9 g σ).set 2 (.ref (g.1 (tx v))))) = wB g (sR σ 0 v) := rfl
theorem hF9_3 (g : GwT) (σ : St) (v : Bool) : (wB g σ).set 0 (g.1 0, .inr (9, (fs9 g σ).set 3 (.ref (g.1 (tx v))))) = wB g (sR σ 1 v) := rfl
theorem hF9_5 (g : GwT) (σ : St)  (v : Int32) : (wB g σ).set 0 (g.1 0, .inr (9, (fs9 g σ).set 5 (.int v))) = wB g (sI σ 0 5 v) := rfl
theorem hF9_6 (g : GwT) (σ : St)  (v : Int32) : (wB g σ).set 0 (g.1 0, .inr (9, (fs9 g σ).set 6 (.int v))) = wB g (sI σ 0 6 v) := rfl
theorem hF9_11 (g : GwT) (σ : St)  (v : Int32) : (wB g σ).set 0 (g.1 0, .inr (9, (fs9 g σ).set 11 (.int v))) = wB g (sI σ 0 11 v) := rfl
theorem hO10 (g : GwT) (σ : St)  : (wM g σ)[0]? = some (g.1 0, .inr (10, fs10 g σ)) := rfl
theorem hA10_0 (g : GwT) (σ : St)  : (wM g σ)[1]? = some (g.2.1 0 0, .inl (g.2.2.1, 700, .inl (gA σ 0 0))) := rfl
theorem hS10_0 (g : GwT) (σ : St)  (f : Nat → Int32) : (wM g σ).set 1 (g.2.1 0 0, .inl (g.2.2.1, 700, .inl f)) = wM g (sAr σ 0 0 f) := rfl
theorem hF10_1 (g : GwT) (σ : St)  (v : Int32) : (wM g σ).set 0 (g.1 0, .inr (10, (fs10 g σ).set 1 (.int v))) = wM g (sI σ 0 1 v) := rfl
theorem hF10_2 (g : GwT) (σ : St)  (v : Int32) : (wM g σ).set 0 (g.1 0, .inr (10, (fs10 g σ).set 2 (.int v))) = wM g (sI σ 0 2 v) := rfl
theorem hA10_3 (g : GwT) (σ : St)  : (wM g σ)[2]? = some (g.2.1 0 3, .inl (g.2.2.1, 97, .inl (gA σ 0 3))) := rfl
theorem hS10_3 (g : GwT) (σ : St)  (f : Nat → Int32) : (wM g σ).set 2 (g.2.1 0 3, .inl (g.2.2.1, 97, .inl f)) = wM g (sAr σ 0 3 f) := rfl
theorem hF10_4 (g : GwT) (σ : St)  (v : Int32) : (wM g σ).set 0 (g.1 0, .inr (10, (fs10 g σ).set 4 (.int v))) = wM g (sI σ 0 4 v) := rfl
theorem hF10_5 (g : GwT) (σ : St)  (v : Int32) : (wM g σ).set 0 (g.1 0, .inr (10, (fs10 g σ).set 5 (.int v))) = wM g (sI σ 0 5 v) := rfl
theorem hF10_6 (g : GwT) (σ : St)  (v : Int32) : (wM g σ).set 0 (g.1 0, .inr (10, (fs10 g σ).set 6 (.int v))) = wM g (sI σ 0 6 v) := rfl
theorem hF10_7 (g : GwT) (σ : St)  (v : Int32) : (wM g σ).set 0 (g.1 0, .inr (10, (fs10 g σ).set 7 (.int v))) = wM g (sI σ 0 7 v) := rfl
theorem hF10_8 (g : GwT) (σ : St)  (v : Int32) : (wM g σ).set 0 (g.1 0, .inr (10, (fs10 g σ).set 8 (.int v))) = wM g (sI σ 0 8 v) := rfl
theorem hF10_9 (g : GwT) (σ : St)  (v : Int32) : (wM g σ).set 0 (g.1 0, .inr (10, (fs10 g σ).set 9 (.int v))) = wM g (sI σ 0 9 v) := rfl
theorem hF10_10 (g : GwT) (σ : St)  (v : Int32) : (wM g σ).set 0 (g.1 0, .inr (10, (fs10 g σ).set 10 (.int v))) = wM g (sI σ 0 10 v) := rfl
theorem hF10_11 (g : GwT) (σ : St)  (v : Int32) : (wM g σ).set 0 (g.1 0, .inr (10, (fs10 g σ).set 11 (.int v))) = wM g (sI σ 0 11 v) := rfl
theorem hF10_12 (g : GwT) (σ : St)  (v : Int32) : (wM g σ).set 0 (g.1 0, .inr (10, (fs10 g σ).set 12 (.int v))) = wM g (sI σ 0 12 v) := rfl
theorem hF10_13 (g : GwT) (σ : St)  (v : Int32) : (wM g σ).set 0 (g.1 0, .inr (10, (fs10 g σ).set 13 (.int v))) = wM g (sI σ 0 13 v) := rfl
theorem hF10_14 (g : GwT) (σ : St)  (v : Int32) : (wM g σ).set 0 (g.1 0, .inr (10, (fs10 g σ).set 14 (.int v))) = wM g (sI σ 0 14 v) := rfl
theorem hF10_15 (g : GwT) (σ : St)  (v : Int32) : (wM g σ).set 0 (g.1 0, .inr (10, (fs10 g σ).set 15 (.int v))) = wM g (sI σ 0 15 v) := rfl
theorem hF10_16 (g : GwT) (σ : St)  (v : Int32) : (wM g σ).set 0 (g.1 0, .inr (10, (fs10 g σ).set 16 (.int v))) = wM g (sI σ 0 16 v) := rfl
theorem hF10_17 (g : GwT) (σ : St)  (v : Int32) : (wM g σ).set 0 (g.1 0, .inr (10, (fs10 g σ).set 17 (.int v))) = wM g (sI σ 0 17 v) := rfl
theorem hA10_18 (g : GwT) (σ : St)  : (wM g σ)[3]? = some (g.2.1 0 18, .inl (g.2.2.2.2.2, 3, .inl (gA σ 0 18))) := rfl
theorem hS10_18 (g : GwT) (σ : St)  (f : Nat → Int32) : (wM g σ).set 3 (g.2.1 0 18, .inl (g.2.2.2.2.2, 3, .inl f)) = wM g (sAr σ 0 18 f) := rfl
theorem hA10_19 (g : GwT) (σ : St)  : (wM g σ)[4]? = some (g.2.1 0 19, .inl (g.2.2.1, 6, .inl (gA σ 0 19))) := rfl
theorem hS10_19 (g : GwT) (σ : St)  (f : Nat → Int32) : (wM g σ).set 4 (g.2.1 0 19, .inl (g.2.2.1, 6, .inl f)) = wM g (sAr σ 0 19 f) := rfl
theorem hA10_20 (g : GwT) (σ : St)  : (wM g σ)[5]? = some (g.2.1 0 20, .inl (g.2.2.1, 12, .inl (gA σ 0 20))) := rfl
theorem hS10_20 (g : GwT) (σ : St)  (f : Nat → Int32) : (wM g σ).set 5 (g.2.1 0 20, .inl (g.2.2.1, 12, .inl f)) = wM g (sAr σ 0 20 f) := rfl
theorem hA10_21 (g : GwT) (σ : St)  : (wM g σ)[6]? = some (g.2.1 0 21, .inl (g.2.2.1, 12, .inl (gA σ 0 21))) := rfl
theorem hS10_21 (g : GwT) (σ : St)  (f : Nat → Int32) : (wM g σ).set 6 (g.2.1 0 21, .inl (g.2.2.1, 12, .inl f)) = wM g (sAr σ 0 21 f) := rfl
theorem hA10_22 (g : GwT) (σ : St)  : (wM g σ)[7]? = some (g.2.1 0 22, .inl (g.2.2.1, 12, .inl (gA σ 0 22))) := rfl
theorem hS10_22 (g : GwT) (σ : St)  (f : Nat → Int32) : (wM g σ).set 7 (g.2.1 0 22, .inl (g.2.2.1, 12, .inl f)) = wM g (sAr σ 0 22 f) := rfl
theorem hA10_23 (g : GwT) (σ : St)  : (wM g σ)[8]? = some (g.2.1 0 23, .inl (g.2.2.1, 12, .inl (gA σ 0 23))) := rfl
theorem hS10_23 (g : GwT) (σ : St)  (f : Nat → Int32) : (wM g σ).set 8 (g.2.1 0 23, .inl (g.2.2.1, 12, .inl f)) = wM g (sAr σ 0 23 f) := rfl
theorem hA10_24 (g : GwT) (σ : St)  : (wM g σ)[9]? = some (g.2.1 0 24, .inl (g.2.2.1, 12, .inl (gA σ 0 24))) := rfl
theorem hS10_24 (g : GwT) (σ : St)  (f : Nat → Int32) : (wM g σ).set 9 (g.2.1 0 24, .inl (g.2.2.1, 12, .inl f)) = wM g (sAr σ 0 24 f) := rfl
theorem hA10_25 (g : GwT) (σ : St)  : (wM g σ)[10]? = some (g.2.1 0 25, .inl (g.2.2.1, 12, .inl (gA σ 0 25))) := rfl
theorem hS10_25 (g : GwT) (σ : St)  (f : Nat → Int32) : (wM g σ).set 10 (g.2.1 0 25, .inl (g.2.2.1, 12, .inl f)) = wM g (sAr σ 0 25 f) := rfl
theorem hA10_26 (g : GwT) (σ : St)  : (wM g σ)[11]? = some (g.2.1 0 26, .inl (g.2.2.1, 12, .inl (gA σ 0 26))) := rfl
theorem hS10_26 (g : GwT) (σ : St)  (f : Nat → Int32) : (wM g σ).set 11 (g.2.1 0 26, .inl (g.2.2.1, 12, .inl f)) = wM g (sAr σ 0 26 f) := rfl
theorem hA10_27 (g : GwT) (σ : St)  : (wM g σ)[12]? = some (g.2.1 0 27, .inl (g.2.2.1, 12, .inl (gA σ 0 27))) := rfl
theorem hS10_27 (g : GwT) (σ : St)  (f : Nat → Int32) : (wM g σ).set 12 (g.2.1 0 27, .inl (g.2.2.1, 12, .inl f)) = wM g (sAr σ 0 27 f) := rfl
theorem hA10_28 (g : GwT) (σ : St)  : (wM g σ)[13]? = some (g.2.1 0 28, .inl (g.2.2.1, 12, .inl (gA σ 0 28))) := rfl
theorem hS10_28 (g : GwT) (σ : St)  (f : Nat → Int32) : (wM g σ).set 13 (g.2.1 0 28, .inl (g.2.2.1, 12, .inl f)) = wM g (sAr σ 0 28 f) := rfl
theorem hA10_29 (g : GwT) (σ : St)  : (wM g σ)[14]? = some (g.2.1 0 29, .inl (g.2.2.2.2.2, 6, .inl (gA σ 0 29))) := rfl
theorem hS10_29 (g : GwT) (σ : St)  (f : Nat → Int32) : (wM g σ).set 14 (g.2.1 0 29, .inl (g.2.2.2.2.2, 6, .inl f)) = wM g (sAr σ 0 29 f) := rfl
theorem hA10_30 (g : GwT) (σ : St)  : (wM g σ)[15]? = some (g.2.1 0 30, .inl (g.2.2.1, 6, .inl (gA σ 0 30))) := rfl
theorem hS10_30 (g : GwT) (σ : St)  (f : Nat → Int32) : (wM g σ).set 15 (g.2.1 0 30, .inl (g.2.2.1, 6, .inl f)) = wM g (sAr σ 0 30 f) := rfl
theorem hA10_31 (g : GwT) (σ : St)  : (wM g σ)[16]? = some (g.2.1 0 31, .inl (g.2.2.1, 6, .inl (gA σ 0 31))) := rfl
theorem hS10_31 (g : GwT) (σ : St)  (f : Nat → Int32) : (wM g σ).set 16 (g.2.1 0 31, .inl (g.2.2.1, 6, .inl f)) = wM g (sAr σ 0 31 f) := rfl
theorem hA10_32 (g : GwT) (σ : St)  : (wM g σ)[17]? = some (g.2.1 0 32, .inl (g.2.2.1, 128, .inl (gA σ 0 32))) := rfl
theorem hS10_32 (g : GwT) (σ : St)  (f : Nat → Int32) : (wM g σ).set 17 (g.2.1 0 32, .inl (g.2.2.1, 128, .inl f)) = wM g (sAr σ 0 32 f) := rfl
theorem hA10_33 (g : GwT) (σ : St)  : (wM g σ)[18]? = some (g.2.1 0 33, .inl (g.2.2.1, 128, .inl (gA σ 0 33))) := rfl
theorem hS10_33 (g : GwT) (σ : St)  (f : Nat → Int32) : (wM g σ).set 18 (g.2.1 0 33, .inl (g.2.2.1, 128, .inl f)) = wM g (sAr σ 0 33 f) := rfl
theorem hA10_34 (g : GwT) (σ : St)  : (wM g σ)[19]? = some (g.2.1 0 34, .inl (g.2.2.1, 128, .inl (gA σ 0 34))) := rfl
theorem hS10_34 (g : GwT) (σ : St)  (f : Nat → Int32) : (wM g σ).set 19 (g.2.1 0 34, .inl (g.2.2.1, 128, .inl f)) = wM g (sAr σ 0 34 f) := rfl
theorem hA10_35 (g : GwT) (σ : St)  : (wM g σ)[20]? = some (g.2.1 0 35, .inl (g.2.2.1, 96, .inl (gA σ 0 35))) := rfl
theorem hS10_35 (g : GwT) (σ : St)  (f : Nat → Int32) : (wM g σ).set 20 (g.2.1 0 35, .inl (g.2.2.1, 96, .inl f)) = wM g (sAr σ 0 35 f) := rfl
theorem hA10_36 (g : GwT) (σ : St)  : (wM g σ)[21]? = some (g.2.1 0 36, .inl (g.2.2.1, 96, .inl (gA σ 0 36))) := rfl
theorem hS10_36 (g : GwT) (σ : St)  (f : Nat → Int32) : (wM g σ).set 21 (g.2.1 0 36, .inl (g.2.2.1, 96, .inl f)) = wM g (sAr σ 0 36 f) := rfl
theorem hF10_37 (g : GwT) (σ : St)  (v : Int32) : (wM g σ).set 0 (g.1 0, .inr (10, (fs10 g σ).set 37 (.int v))) = wM g (sI σ 0 37 v) := rfl
theorem hF10_38 (g : GwT) (σ : St)  (v : Int32) : (wM g σ).set 0 (g.1 0, .inr (10, (fs10 g σ).set 38 (.int v))) = wM g (sI σ 0 38 v) := rfl
theorem hF10_39 (g : GwT) (σ : St)  (v : Int32) : (wM g σ).set 0 (g.1 0, .inr (10, (fs10 g σ).set 39 (.int v))) = wM g (sI σ 0 39 v) := rfl
theorem hF10_40 (g : GwT) (σ : St)  (v : Int32) : (wM g σ).set 0 (g.1 0, .inr (10, (fs10 g σ).set 40 (.int v))) = wM g (sI σ 0 40 v) := rfl
theorem hF10_41 (g : GwT) (σ : St)  (v : Int32) : (wM g σ).set 0 (g.1 0, .inr (10, (fs10 g σ).set 41 (.int v))) = wM g (sI σ 0 41 v) := rfl
theorem hF10_42 (g : GwT) (σ : St)  (v : Int32) : (wM g σ).set 0 (g.1 0, .inr (10, (fs10 g σ).set 42 (.int v))) = wM g (sI σ 0 42 v) := rfl
theorem hA10_43 (g : GwT) (σ : St)  : (wM g σ)[22]? = some (g.2.1 0 43, .inl (g.2.2.2.2.1, 7, .inr (.inl (gL σ 0 43)))) := rfl
theorem hS10_43 (g : GwT) (σ : St)  (f : Nat → Int64) : (wM g σ).set 22 (g.2.1 0 43, .inl (g.2.2.2.2.1, 7, .inr (.inl f))) = wM g (sLr σ 0 43 f) := rfl
theorem hA10_44 (g : GwT) (σ : St)  : (wM g σ)[23]? = some (g.2.1 0 44, .inl (g.2.2.2.2.1, 64, .inr (.inl (gL σ 0 44)))) := rfl
theorem hS10_44 (g : GwT) (σ : St)  (f : Nat → Int64) : (wM g σ).set 23 (g.2.1 0 44, .inl (g.2.2.2.2.1, 64, .inr (.inl f))) = wM g (sLr σ 0 44 f) := rfl
theorem hF10_45 (g : GwT) (σ : St)  (v : Int32) : (wM g σ).set 0 (g.1 0, .inr (10, (fs10 g σ).set 45 (.int v))) = wM g (sI σ 0 45 v) := rfl
theorem hA10_46 (g : GwT) (σ : St)  : (wM g σ)[24]? = some (g.2.1 0 46, .inl (g.2.2.1, 12, .inl (gA σ 0 46))) := rfl
theorem hS10_46 (g : GwT) (σ : St)  (f : Nat → Int32) : (wM g σ).set 24 (g.2.1 0 46, .inl (g.2.2.1, 12, .inl f)) = wM g (sAr σ 0 46 f) := rfl
theorem hA10_47 (g : GwT) (σ : St)  : (wM g σ)[25]? = some (g.2.1 0 47, .inl (g.2.2.1, 12, .inl (gA σ 0 47))) := rfl
theorem hS10_47 (g : GwT) (σ : St)  (f : Nat → Int32) : (wM g σ).set 25 (g.2.1 0 47, .inl (g.2.2.1, 12, .inl f)) = wM g (sAr σ 0 47 f) := rfl
theorem hA10_48 (g : GwT) (σ : St)  : (wM g σ)[26]? = some (g.2.1 0 48, .inl (g.2.2.1, 12, .inl (gA σ 0 48))) := rfl
theorem hS10_48 (g : GwT) (σ : St)  (f : Nat → Int32) : (wM g σ).set 26 (g.2.1 0 48, .inl (g.2.2.1, 12, .inl f)) = wM g (sAr σ 0 48 f) := rfl
theorem hA10_49 (g : GwT) (σ : St)  : (wM g σ)[27]? = some (g.2.1 0 49, .inl (g.2.2.2.2.2, 12, .inl (gA σ 0 49))) := rfl
theorem hS10_49 (g : GwT) (σ : St)  (f : Nat → Int32) : (wM g σ).set 27 (g.2.1 0 49, .inl (g.2.2.2.2.2, 12, .inl f)) = wM g (sAr σ 0 49 f) := rfl
theorem hA10_50 (g : GwT) (σ : St)  : (wM g σ)[28]? = some (g.2.1 0 50, .inl (g.2.2.1, 12, .inl (gA σ 0 50))) := rfl
theorem hS10_50 (g : GwT) (σ : St)  (f : Nat → Int32) : (wM g σ).set 28 (g.2.1 0 50, .inl (g.2.2.1, 12, .inl f)) = wM g (sAr σ 0 50 f) := rfl
theorem hA10_51 (g : GwT) (σ : St)  : (wM g σ)[29]? = some (g.2.1 0 51, .inl (g.2.2.1, 12, .inl (gA σ 0 51))) := rfl
theorem hS10_51 (g : GwT) (σ : St)  (f : Nat → Int32) : (wM g σ).set 29 (g.2.1 0 51, .inl (g.2.2.1, 12, .inl f)) = wM g (sAr σ 0 51 f) := rfl
theorem hA10_52 (g : GwT) (σ : St)  : (wM g σ)[30]? = some (g.2.1 0 52, .inl (g.2.2.1, 12, .inl (gA σ 0 52))) := rfl
theorem hS10_52 (g : GwT) (σ : St)  (f : Nat → Int32) : (wM g σ).set 30 (g.2.1 0 52, .inl (g.2.2.1, 12, .inl f)) = wM g (sAr σ 0 52 f) := rfl
theorem hA10_53 (g : GwT) (σ : St)  : (wM g σ)[31]? = some (g.2.1 0 53, .inl (g.2.2.2.2.2, 12, .inl (gA σ 0 53))) := rfl
theorem hS10_53 (g : GwT) (σ : St)  (f : Nat → Int32) : (wM g σ).set 31 (g.2.1 0 53, .inl (g.2.2.2.2.2, 12, .inl f)) = wM g (sAr σ 0 53 f) := rfl
theorem hA10_54 (g : GwT) (σ : St)  : (wM g σ)[32]? = some (g.2.1 0 54, .inl (g.2.2.1, 2, .inl (gA σ 0 54))) := rfl
theorem hS10_54 (g : GwT) (σ : St)  (f : Nat → Int32) : (wM g σ).set 32 (g.2.1 0 54, .inl (g.2.2.1, 2, .inl f)) = wM g (sAr σ 0 54 f) := rfl
theorem hA10_55 (g : GwT) (σ : St)  : (wM g σ)[33]? = some (g.2.1 0 55, .inl (g.2.2.1, 2, .inl (gA σ 0 55))) := rfl
theorem hS10_55 (g : GwT) (σ : St)  (f : Nat → Int32) : (wM g σ).set 33 (g.2.1 0 55, .inl (g.2.2.1, 2, .inl f)) = wM g (sAr σ 0 55 f) := rfl
theorem hA10_56 (g : GwT) (σ : St)  : (wM g σ)[34]? = some (g.2.1 0 56, .inl (g.2.2.1, 2, .inl (gA σ 0 56))) := rfl
theorem hS10_56 (g : GwT) (σ : St)  (f : Nat → Int32) : (wM g σ).set 34 (g.2.1 0 56, .inl (g.2.2.1, 2, .inl f)) = wM g (sAr σ 0 56 f) := rfl
theorem hA10_57 (g : GwT) (σ : St)  : (wM g σ)[35]? = some (g.2.1 0 57, .inl (g.2.2.2.2.2, 2, .inl (gA σ 0 57))) := rfl
theorem hS10_57 (g : GwT) (σ : St)  (f : Nat → Int32) : (wM g σ).set 35 (g.2.1 0 57, .inl (g.2.2.2.2.2, 2, .inl f)) = wM g (sAr σ 0 57 f) := rfl
theorem hA10_58 (g : GwT) (σ : St)  : (wM g σ)[36]? = some (g.2.1 0 58, .inl (g.2.2.1, 2, .inl (gA σ 0 58))) := rfl
theorem hS10_58 (g : GwT) (σ : St)  (f : Nat → Int32) : (wM g σ).set 36 (g.2.1 0 58, .inl (g.2.2.1, 2, .inl f)) = wM g (sAr σ 0 58 f) := rfl
theorem hA10_59 (g : GwT) (σ : St)  : (wM g σ)[37]? = some (g.2.1 0 59, .inl (g.2.2.1, 2, .inl (gA σ 0 59))) := rfl
theorem hS10_59 (g : GwT) (σ : St)  (f : Nat → Int32) : (wM g σ).set 37 (g.2.1 0 59, .inl (g.2.2.1, 2, .inl f)) = wM g (sAr σ 0 59 f) := rfl
theorem hF10_60 (g : GwT) (σ : St)  (v : Int64) : (wM g σ).set 0 (g.1 0, .inr (10, (fs10 g σ).set 60 (.long v))) = wM g (sJ σ 0 60 v) := rfl
theorem hF10_61 (g : GwT) (σ : St)  (v : Int32) : (wM g σ).set 0 (g.1 0, .inr (10, (fs10 g σ).set 61 (.int v))) = wM g (sI σ 0 61 v) := rfl
theorem hF10_62 (g : GwT) (σ : St)  (v : Int32) : (wM g σ).set 0 (g.1 0, .inr (10, (fs10 g σ).set 62 (.int v))) = wM g (sI σ 0 62 v) := rfl
theorem hF10_63 (g : GwT) (σ : St)  (v : Int32) : (wM g σ).set 0 (g.1 0, .inr (10, (fs10 g σ).set 63 (.int v))) = wM g (sI σ 0 63 v) := rfl
theorem hF10_64 (g : GwT) (σ : St)  (v : Int32) : (wM g σ).set 0 (g.1 0, .inr (10, (fs10 g σ).set 64 (.int v))) = wM g (sI σ 0 64 v) := rfl
theorem hF10_65 (g : GwT) (σ : St)  (v : Int32) : (wM g σ).set 0 (g.1 0, .inr (10, (fs10 g σ).set 65 (.int v))) = wM g (sI σ 0 65 v) := rfl
theorem hF10_66 (g : GwT) (σ : St)  (v : Int32) : (wM g σ).set 0 (g.1 0, .inr (10, (fs10 g σ).set 66 (.int v))) = wM g (sI σ 0 66 v) := rfl
theorem hF10_67 (g : GwT) (σ : St)  (v : Int32) : (wM g σ).set 0 (g.1 0, .inr (10, (fs10 g σ).set 67 (.int v))) = wM g (sI σ 0 67 v) := rfl
theorem hF10_68 (g : GwT) (σ : St)  (v : Int32) : (wM g σ).set 0 (g.1 0, .inr (10, (fs10 g σ).set 68 (.int v))) = wM g (sI σ 0 68 v) := rfl
theorem hA10_69 (g : GwT) (σ : St)  : (wM g σ)[38]? = some (g.2.1 0 69, .inl (g.2.2.1, 72, .inl (gA σ 0 69))) := rfl
theorem hS10_69 (g : GwT) (σ : St)  (f : Nat → Int32) : (wM g σ).set 38 (g.2.1 0 69, .inl (g.2.2.1, 72, .inl f)) = wM g (sAr σ 0 69 f) := rfl
theorem hA10_70 (g : GwT) (σ : St)  : (wM g σ)[39]? = some (g.2.1 0 70, .inl (g.2.2.2.2.2, 24, .inl (gA σ 0 70))) := rfl
theorem hS10_70 (g : GwT) (σ : St)  (f : Nat → Int32) : (wM g σ).set 39 (g.2.1 0 70, .inl (g.2.2.2.2.2, 24, .inl f)) = wM g (sAr σ 0 70 f) := rfl
theorem hF10_71 (g : GwT) (σ : St)  (v : Int32) : (wM g σ).set 0 (g.1 0, .inr (10, (fs10 g σ).set 71 (.int v))) = wM g (sI σ 0 71 v) := rfl
theorem hA10_72 (g : GwT) (σ : St)  : (wM g σ)[40]? = some (g.2.1 0 72, .inl (g.2.2.1, 660, .inl (gA σ 0 72))) := rfl
theorem hS10_72 (g : GwT) (σ : St)  (f : Nat → Int32) : (wM g σ).set 40 (g.2.1 0 72, .inl (g.2.2.1, 660, .inl f)) = wM g (sAr σ 0 72 f) := rfl
theorem hF10_73 (g : GwT) (σ : St)  (v : Int32) : (wM g σ).set 0 (g.1 0, .inr (10, (fs10 g σ).set 73 (.int v))) = wM g (sI σ 0 73 v) := rfl
theorem hA10_74 (g : GwT) (σ : St)  : (wM g σ)[41]? = some (g.2.1 0 74, .inl (g.2.2.1, 33, .inl (gA σ 0 74))) := rfl
theorem hS10_74 (g : GwT) (σ : St)  (f : Nat → Int32) : (wM g σ).set 41 (g.2.1 0 74, .inl (g.2.2.1, 33, .inl f)) = wM g (sAr σ 0 74 f) := rfl
theorem hA10_75 (g : GwT) (σ : St)  : (wM g σ)[42]? = some (g.2.1 0 75, .inl (g.2.2.1, 21, .inl (gA σ 0 75))) := rfl
theorem hS10_75 (g : GwT) (σ : St)  (f : Nat → Int32) : (wM g σ).set 42 (g.2.1 0 75, .inl (g.2.2.1, 21, .inl f)) = wM g (sAr σ 0 75 f) := rfl
theorem hF10_76 (g : GwT) (σ : St)  (v : Int64) : (wM g σ).set 0 (g.1 0, .inr (10, (fs10 g σ).set 76 (.long v))) = wM g (sJ σ 0 76 v) := rfl
