/-! how a shelf of the class stands to a catalogue of the reference -/
def catR (kd : Nat → Nat) (S : Nat → Option Nat) (t r : Nat → Int32) (n dr : Nat) : Prop := Cat r n ∧ agr t r n ∧ srts kd S t n ∧ (∀ j, j < 8 → anyS kd (S j)) ∧ r 1 = nI dr ∧ dr ≤ 6 ∧ (0 < n → 0 < dr ∧ r 4 = nI 1) ∧ (n = 0 → ¬ r 4 = nI 1) ∧ NB r 9999
theorem one_iff {A : Nat → Nat → Int32} {n : Nat} (hC : Cat (A 12) n) (x : Int32) : isC n x ↔ (nI 0 ≤ x ∧ x ≤ A 12 3 - nI 1) := by rw [hC.1]; exact isC_iff (by have := hC.2.1; omega) x
theorem dr_iff {A : Nat → Nat → Int32} {dr : Nat} (hd : A 12 1 = nI dr) (hd6 : dr ≤ 6) (x : Int32) : isC dr x ↔ (nI 0 ≤ x ∧ x ≤ A 12 1 - nI 1) := by rw [hd]; exact isC_iff (by omega) x
theorem em_iff {t r : Nat → Int32} {n : Nat} (h3 : t 3 = nI n) (hn : n ≤ 8) (h1 : 0 < n → r 4 = nI 1) (h0 : n = 0 → ¬ r 4 = nI 1) : t 3 = 0 ↔ ¬ r 4 = nI 1 := by
  rw [h3]
  constructor
  · intro z
    exact h0 ((nIe (a := n) (b := 0) (by omega) (by omega)).mp z)
  · intro z
    rcases Nat.eq_zero_or_pos n with e | e
    · rw [e]; rfl
    · exact absurd (h1 e) z
