theorem rdR_at (f : Nat → Int32) (L p : Nat) (rd : Nat → Int32) {n : Nat} (hn : n ≤ 8) : rdR f L (10 - n) p rd n = if tokK f L p = -2 then (0, p, rd, n) else if crdX f L p rd n = 0 then rdR f L (10 - (n + 1)) (lp f L p 5) (crdA f L p rd n) (n + 1) else (crdX f L p rd n, lp f L p (crdT f L p rd n), rd, n) := by
  rw [show 10 - n = (10 - (n + 1)) + 1 by omega, rdR]
theorem crdX_n {f : Nat → Int32} {L p : Nat} {rd : Nat → Int32} {n : Nat} (h : crdX f L p rd n = 0) : n ≠ 8 := by
  intro e
  rw [crdX] at h
  split at h
  · omega
  · first | omega | (rw [if_pos e] at h; omega)
def mCatR (f : Nat → Int32) (L : Nat) : Int32 := if (redF f L).1 = 0 then (redF f L).2.2.1 3 else -1000100 - nI (redF f L).2.1
def mCatV (v f : Nat → Int32) (L : Nat) : Nat → Int32 := if (redF f L).1 = 0 then upd (upd v 4 (nI 0)) 19 (nI 0) else upd (upd v 4 (nI 0)) 11 (nI (redF f L).1)
def mCatA (A : Nat → Nat → Int32) (f : Nat → Int32) (L : Nat) : Nat → Nat → Int32 := if (redF f L).1 = 0 then va_up A 12 (redF f L).2.2.1 else A
theorem redT {X : Nat} {P Q : Prop} (hX : X = 0) (hP : P) : nI 1 = bI (X = 0) ∧ (X = 0 → P) ∧ (¬ X = 0 → Q) := ⟨(bI_t hX).symm, fun _ => hP, fun z => absurd hX z⟩
theorem redN {X : Nat} {P Q : Prop} (hX : ¬ X = 0) (hQ : Q) : nI 0 = bI (X = 0) ∧ (X = 0 → P) ∧ (¬ X = 0 → Q) := ⟨(bI_f hX).symm, fun z => absurd z hX, fun _ => hQ⟩
theorem zer_s {f : Nat → Int32} {k : Nat} (h : ∀ j, j < k → f j = nI 0) : ∀ j, j < k + 1 → upd f k (nI 0) j = nI 0 := by
  intro j hj
  by_cases e : j = k
  · subst e; rw [pk_us]
  · rw [pk_un e]; exact h j (by omega)
