/-! what the methods compute, as functions. A catalogue is a row: 0 night, 1 drawers, 2 holds, 3 many, 4 there, 5.. sorts, 13.. likes, 21.. drawers of cards, 29.. places -/
/-- so many of the first i cards are in drawer d -/
def fillN (s : Nat → Int32) (d : Int32) : Nat → Int32
  | 0 => nI 0
  | i + 1 => fillN s d i + (if s (21 + i) = d then nI 1 else nI 0)
def layN (fa : Nat → Int32) (fr : Nat) (fb : Nat → Int32) (to : Nat) : Nat → (Nat → Int32)
  | 0 => fb
  | k + 1 => upd (layN fa fr fb to k) (to + k) (fa (fr + k))
def cardAtN (s : Nat → Int32) (d pl : Int32) : Nat → Int32
  | 0 => -1000000
  | i + 1 => if s (21 + i) = d ∧ s (29 + i) = pl then nI i else cardAtN s d pl i
def outN (s : Nat → Int32) (c : Nat) : Nat → (Nat → Int32)
  | 0 => s
  | i + 1 => upd (outN s c i) (29 + i) (outN s c i (29 + i) - (if outN s c i (21 + i) = outN s c i (21 + c) ∧ ¬ outN s c i (29 + i) ≤ outN s c i (29 + c) then nI 1 else nI 0))
def outS (s : Nat → Int32) (n c : Nat) : Nat → Int32 := upd (outN s c n) (21 + c) (-1)
def inN (s : Nat → Int32) (d pl : Int32) : Nat → (Nat → Int32)
  | 0 => s
  | i + 1 => upd (inN s d pl i) (29 + i) (inN s d pl i (29 + i) + (if inN s d pl i (21 + i) = d ∧ ¬ inN s d pl i (29 + i) < pl then nI 1 else nI 0))
def inS (s : Nat → Int32) (n c : Nat) (d pl : Int32) : Nat → Int32 := upd (upd (inN s d pl n) (21 + c) d) (29 + c) pl
def behindS (s : Nat → Int32) (n c : Nat) (d : Int32) : Nat → Int32 := inS (outS s n c) n c d (fillN (outS s n c) d n)
def byS (s : Nat → Int32) (n c k : Nat) : Nat → Int32 := inS (outS s n c) n c (outS s n c (21 + k)) (outS s n c (29 + k) + nI 1)
def besideS (s : Nat → Int32) (c k : Nat) : Int32 := if s (21 + k) ≤ s (21 + c) then s (21 + c) - nI 1 else s (21 + c) + nI 1
def freeS (s : Nat → Int32) (n c k : Nat) : Nat → Int32 :=
  if s (21 + c) = s (21 + k) then byS s n c k else if s 2 ≤ fillN s (besideS s c k) n then s else behindS s n c (besideS s c k)
def kOf (s : Nat → Int32) (n c : Nat) : Nat := (cardAtN s (s (21 + c)) (s (29 + c) - nI 1) n).toNatClampNeg
def blankS (s : Nat → Int32) (n c : Nat) : Nat → Int32 :=
  if s (29 + c) ≤ 0 then s else upd (upd s (29 + kOf s n c) (s (29 + kOf s n c) + nI 1)) (29 + c) (upd s (29 + kOf s n c) (s (29 + kOf s n c) + nI 1) (29 + c) - nI 1)
def turnS (s : Nat → Int32) (n c k : Nat) : Nat → Int32 :=
  if s (5 + c) = nI 5 then blankS s n c
  else if s (5 + c) = nI 4 ∨ n ≤ k ∨ (s (5 + c) = nI 2 ∧ s 0 - s 0 / nI 2 * nI 2 = nI 1) then s
  else if ¬ s (5 + c) = nI 3 ∨ s (21 + c) = s (21 + k) then freeS s n c k
  else if s 2 ≤ fillN s (s (21 + k)) n then s else byS s n c k
def bitsN (x : Int32) : Nat → Int32
  | 0 => nI 0
  | k + 1 => bitsN x k + ((x >>> (nI k &&& 31)) &&& nI 1)
def matesN (s : Nat → Int32) (n : Nat) : Nat → Int32
  | 0 => nI 0
  | i + 1 => matesN s n i ||| (if ¬ s (29 + i) ≤ 0 ∧ cardAtN s (s (21 + i)) (s (29 + i) - nI 1) n = s (13 + i) then nI 1 <<< (nI i &&& 31) else nI 0)
def cardsN (s : Nat → Int32) (d : Int32) : Nat → Int32
  | 0 => nI 0
  | i + 1 => cardsN s d i ||| (if s (21 + i) = d then nI 1 <<< (nI i &&& 31) else nI 0)
def figN (s : Nat → Int32) : Nat → Int32
  | 0 => nI 0
  | i + 1 => nI 10 * figN s i + s (21 + i)
theorem outN_lo (s : Nat → Int32) (c : Nat) {j : Nat} (h : j < 29) : ∀ i, outN s c i j = s j
  | 0 => rfl
  | i + 1 => by rw [outN, pk_un (by omega)]; exact outN_lo s c h i
theorem outS_lo (s : Nat → Int32) (n c : Nat) {j : Nat} (h : j < 21) : outS s n c j = s j := by
  rw [outS, pk_un (by omega)]; exact outN_lo s c (by omega) n
theorem inN_lo (s : Nat → Int32) (d pl : Int32) {j : Nat} (h : j < 29) : ∀ i, inN s d pl i j = s j
  | 0 => rfl
  | i + 1 => by rw [inN, pk_un (by omega)]; exact inN_lo s d pl h i
theorem inS_lo (s : Nat → Int32) (n c : Nat) (d pl : Int32) {j : Nat} (h : j < 21) : inS s n c d pl j = s j := by
  rw [inS, pk_un (by omega), pk_un (by omega)]; exact inN_lo s d pl (by omega) n
