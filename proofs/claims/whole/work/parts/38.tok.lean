/-! tokens of a tape f of L bytes, from place p on -/
abbrev isFig (x : Int32) : Prop := nI 48 ≤ x ∧ x ≤ nI 57
abbrev isStd (x : Int32) : Prop := (nI 97 ≤ x ∧ x ≤ nI 122) ∨ x = nI 44 ∨ x = nI 59
def runE (f : Nat → Int32) (L : Nat) : Nat → Nat → Nat
  | 0, p => p
  | k + 1, p => if p < L ∧ isFig (f p) then runE f L k (p + 1) else p
def nmE (f : Nat → Int32) (L a : Nat) : Nat → Nat → Int32 → Int32
  | 0, _, x => x
  | k + 1, p, x => if p < L ∧ isFig (f p) then nmE f L a k (p + 1) (if p - a < 2 then nI 10 * x + f p - nI 48 else x) else x
theorem runE_stop {f : Nat → Int32} {L p : Nat} (h : ¬ (p < L ∧ isFig (f p))) : ∀ k, runE f L k p = p
  | 0 => rfl
  | k + 1 => by rw [runE, if_neg h]
theorem nmE_stop {f : Nat → Int32} {L a p : Nat} {x : Int32} (h : ¬ (p < L ∧ isFig (f p))) : ∀ k, nmE f L a k p x = x
  | 0 => rfl
  | k + 1 => by rw [nmE, if_neg h]
theorem runE_at {f : Nat → Int32} {L p : Nat} (h : p < L) (h1 : isFig (f p)) : runE f L (L - p) p = runE f L (L - (p + 1)) (p + 1) := by
  rw [show L - p = (L - (p + 1)) + 1 by omega, runE, if_pos ⟨h, h1⟩]
theorem nmE_at {f : Nat → Int32} {L a p : Nat} {x : Int32} (h : p < L) (h1 : isFig (f p)) : nmE f L a (L - p) p x = nmE f L a (L - (p + 1)) (p + 1) (if p - a < 2 then nI 10 * x + f p - nI 48 else x) := by
  rw [show L - p = (L - (p + 1)) + 1 by omega, nmE, if_pos ⟨h, h1⟩]
theorem runE_le {f : Nat → Int32} {L : Nat} : ∀ k p, p ≤ L → p ≤ runE f L k p ∧ runE f L k p ≤ L
  | 0, p, h => ⟨Nat.le_refl p, h⟩
  | k + 1, p, h => by
    rw [runE]; split
    · rename_i q
      have := runE_le (f := f) k (p + 1) q.1
      omega
    · omega
def tokP (f : Nat → Int32) (L p : Nat) : Nat := if p = L then p else if isFig (f p) then runE f L (L - p) p else p + 1
def tokK (f : Nat → Int32) (L p : Nat) : Int32 := if p = L then -2 else if isFig (f p) then (if runE f L (L - p) p - p ≤ 2 then -1 else -3) else if isStd (f p) then f p else -3
def tokN (f : Nat → Int32) (L p : Nat) : Int32 := if p = L then nI 0 else if isFig (f p) then nmE f L p (L - p) p (nI 0) else nI 0
theorem tokP_le {f : Nat → Int32} {L p : Nat} (h : p ≤ L) : tokP f L p ≤ L := by
  rw [tokP]; split
  · exact h
  · split
    · exact (runE_le _ _ h).2
    · omega
theorem tok_end {f : Nat → Int32} {L p : Nat} (h : p = L) : (nI p, (-2 : Int32), nI 0) = (nI (tokP f L p), tokK f L p, tokN f L p) := by
  rw [tokP, tokK, tokN, if_pos h, if_pos h, if_pos h]
theorem tok_fig {f : Nat → Int32} {L p q : Nat} {x : Int32} (h : p ≠ L) (h1 : isFig (f p)) (hE : runE f L (L - p) p = q) (hN : nmE f L p (L - p) p (nI 0) = x) : (nI q, (if q - p ≤ 2 then -1 else -3 : Int32), x) = (nI (tokP f L p), tokK f L p, tokN f L p) := by
  rw [tokP, tokK, tokN, if_neg h, if_neg h, if_neg h, if_pos h1, if_pos h1, if_pos h1, hE, hN]
theorem tok_sgn {f : Nat → Int32} {L p : Nat} (h : p ≠ L) (h1 : ¬ isFig (f p)) : (nI (p + 1), (if isStd (f p) then f p else -3 : Int32), nI 0) = (nI (tokP f L p), tokK f L p, tokN f L p) := by
  rw [tokP, tokK, tokN, if_neg h, if_neg h, if_neg h, if_neg h1, if_neg h1, if_neg h1]
def srtF (x : Int32) : Int32 := if x = nI 102 then nI 1 else if x = nI 111 then nI 2 else if x = nI 119 then nI 3 else if x = nI 114 then nI 4 else if x = nI 98 then nI 5 else nI 0
