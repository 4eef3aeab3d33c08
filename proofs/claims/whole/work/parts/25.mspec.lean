/-! what the reference's own calls answer and do: its numbers v, its rows A -/
abbrev MS : Type := (Nat → Int32) × (Nat → Nat → Int32)
def mRow (v : Nat → Int32) (A : Nat → Nat → Int32) (x l n : Int32) : Int32 × MS :=
  if ¬ (nI 0 ≤ x ∧ x ≤ nI 7) ∨ ¬ (nI 0 ≤ l ∧ l ≤ nI 2) ∨ ¬ n ≤ nI 40 then (-1000001, v, A)
  else if ¬ 0 ≤ n then (-1000010 - nI 4, upd v 3 (nI 4), A)
  else (n, upd v 3 (nI 0), va_up (va_up (va_up A 0 (upd (A 0) x.toNatClampNeg l)) 1 (upd (A 1) x.toNatClampNeg n)) 2 (zero40 (A 2) x.toNatClampNeg 40))
def lane3 (l x : Int32) : Int32 := if l = 0 then x.toInt8.toInt32 else if l = nI 1 then x.toInt16.toInt32 else x
def mSet (v : Nat → Int32) (A : Nat → Nat → Int32) (x i w : Int32) : Int32 × MS :=
  if ¬ (nI 0 ≤ x ∧ x ≤ nI 7) then (-1000001, v, A)
  else if ¬ 0 ≤ A 0 x.toNatClampNeg then (-1000010 - nI 1, upd v 3 (nI 1), A)
  else if ¬ (nI 0 ≤ i ∧ i ≤ A 1 x.toNatClampNeg - nI 1) then (-1000010 - nI 2, upd v 3 (nI 2), A)
  else (lane3 (A 0 x.toNatClampNeg) w, upd v 3 (nI 0), va_up A 2 (upd (A 2) (40 * x.toNatClampNeg + i.toNatClampNeg) (lane3 (A 0 x.toNatClampNeg) w)))
def isPartP (i n m : Int32) : Prop := 0 ≤ i ∧ 0 ≤ n ∧ n ≤ m ∧ i ≤ m - n
theorem isPart_dec (i n m : Int32) : isPartP i n m ∨ ¬ isPartP i n m := Classical.em _
def cpyF (f : Nat → Int32) (a b n : Nat) : Nat → Int32 := fun x => if b ≤ x ∧ x < b + n then f (a + (x - b)) else f x
def mDrop (v : Nat → Int32) (A : Nat → Nat → Int32) (x : Int32) : Int32 × MS :=
  if ¬ (nI 0 ≤ x ∧ x ≤ nI 7) then (-1000001, v, A)
  else if ¬ 0 ≤ A 0 x.toNatClampNeg then (-1000010 - nI 1, upd v 3 (nI 1), A)
  else (A 1 x.toNatClampNeg, upd v 3 (nI 0), va_up A 0 (upd (A 0) x.toNatClampNeg (-1)))
def mFeed (v : Nat → Int32) (A : Nat → Nat → Int32) (x : Int32) : Int32 × MS :=
  if ¬ (nI 0 ≤ x ∧ x ≤ nI 255) then (-1000001, v, A)
  else if v 4 = nI 60 then (-1000003, v, A)
  else (v 4 + nI 1, upd v 4 (v 4 + nI 1), va_up A 5 (upd (A 5) (v 4).toNatClampNeg x))
