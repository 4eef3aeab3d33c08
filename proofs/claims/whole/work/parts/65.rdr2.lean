/-! the class's reader: what stands between two cards, and behind the last -/
theorem tokK_e {f : Nat → Int32} {L p : Nat} : tokK f L p = -2 ↔ p = L := by
  rw [tokK]
  by_cases h : p = L
  · rw [if_pos h]; exact ⟨fun _ => h, fun _ => rfl⟩
  · rw [if_neg h]
    refine ⟨fun z => ?_, fun z => absurd z h⟩
    by_cases h1 : isFig (f p)
    · rw [if_pos h1] at z
      split at z <;> exact absurd z (by decide)
    · rw [if_neg h1] at z
      split at z
      · rename_i h2; exact absurd z (std_ne h2 2 (by omega))
      · exact absurd z (by decide)
theorem srO_k {kd : Nat → Nat} {x : Int32} {k : Nat} (h : sN x = k) (h0 : k ≠ 0) : some (kd k) = srO kd x := by
  rw [srO, if_neg (by omega), h]
theorem crdX_s {f : Nat → Int32} {L p n : Nat} {t : Nat → Int32} (h : crdX f L p t n = 0) : ¬ crdS f L p = 0 := by
  intro z
  rw [crdX, if_pos z] at h
  omega
theorem crdX_k {f : Nat → Int32} {L p n : Nat} {t : Nat → Int32} (h : crdX f L p t n = 0) : 1 ≤ sN (tokK f L p) ∧ sN (tokK f L p) ≤ 5 ∧ ¬ tokK f L p = -2 := by
  have h1 := crdX_s h
  have h2 := sN_le (tokK f L p)
  refine ⟨?_, h2, fun z => ?_⟩
  · rcases Nat.eq_zero_or_pos (sN (tokK f L p)) with e | e
    · exact absurd (crdS_z e) h1
    · exact e
  · exact h1 (by rw [crdS, z]; rfl)
def rtY (kd : Nat → Nat) (f : Nat → Int32) (L : Nat) (S : Nat → Option Nat) (t : Nat → Int32) (q k : Nat) (w8 : Int32) : Prop :=
  w8 = nI 0 ∧ q ≤ L ∧ k ≤ 8 ∧ t 3 = nI k ∧ srts kd S t k ∧ (0 < k → ¬ tokK f L q = -2) ∧ ∃ r, agr t r k ∧ redF f L = if tokK f L q = -2 then (1, q, rd0, 0) else rdR f L (10 - k) q r k
def rtN (kd : Nat → Nat) (f : Nat → Int32) (L : Nat) (S : Nat → Option Nat) (t : Nat → Int32) (w8 w9 : Int32) : Prop :=
  w8 = nI (redF f L).1 ∧ (¬ (redF f L).1 = 0 → w9 = nI (redF f L).2.1) ∧ ((redF f L).1 = 0 → ∃ k, 0 < k ∧ k ≤ 8 ∧ t 3 = nI k ∧ srts kd S t k ∧ agr t (redF f L).2.2.1 k ∧ (redF f L).2.2.2 = k)
theorem rt_law {kd : Nat → Nat} {f u : Nat → Int32} {L : Nat} {S : Nat → Option Nat} {t : Nat → Int32} {q : Nat} {w8 : Int32} (h : lawX f L = 0) (h1 : q = lp f L 0 5 ∧ t = bgS u (tokN f L (lp f L 0 1)) (tokN f L (lp f L 0 3)) ∧ w8 = nI 0) : rtY kd f L S t q 0 w8 := by
  obtain ⟨rfl, rfl, rfl⟩ := h1
  refine ⟨rfl, lp_le (Nat.zero_le L) 5, by omega, ?_, fun j hj => absurd hj (by omega), fun z => absurd z (by omega), lawA rd0 f L, ⟨?_, ?_, ?_, ?_, fun c hc => absurd hc (by omega)⟩, ?_⟩
  · rfl
  · rfl
  · rfl
  · rfl
  · rfl
  · rw [redF, if_neg (nn h)]
theorem rt_lawN {kd : Nat → Nat} {f : Nat → Int32} {L : Nat} {S : Nat → Option Nat} {t : Nat → Int32} {w8 w9 : Int32} (h : ¬ lawX f L = 0) (h1 : w9 = nI (lp f L 0 (lawT f L)) ∧ w8 = nI (lawX f L)) : rtN kd f L S t w8 w9 := by
  have e : redF f L = (lawX f L, lp f L 0 (lawT f L), rd0, 0) := by rw [redF, if_pos h]
  rw [rtN, e]
  exact ⟨h1.2, fun _ => h1.1, fun z => absurd z h⟩
theorem rt_card {kd : Nat → Nat} {f : Nat → Int32} {L : Nat} {S S' : Nat → Option Nat} {t t' : Nat → Int32} {q q' k : Nat} {w8 w8' : Int32} (hY : rtY kd f L S t q k w8) (h : crdX f L q t k = 0) (h1 : q' = lp f L q 5 ∧ t' = jnA t k (tokN f L (lp f L q 1)) (sN (tokK f L q)) (tokN f L (lp f L q 3)) ∧ S' = va_up S k (some (kd (sN (tokK f L q)))) ∧ w8' = w8) :
    k < 8 ∧ q' ≤ L ∧ w8' = nI 0 ∧ t' 3 = nI (k + 1) ∧ srts kd S' t' (k + 1) ∧ ∃ r, agr t' r (k + 1) ∧ redF f L = rdR f L (10 - (k + 1)) q' r (k + 1) := by
  obtain ⟨g1, g2, g3, g4, g5, g6, r, g7, g8⟩ := hY
  obtain ⟨rfl, rfl, rfl, rfl⟩ := h1
  have hk8 : k < 8 := by have := crdX_n h; omega
  obtain ⟨s1, s5, s2⟩ := crdX_k h
  refine ⟨hk8, lp_le g2 5, g1, (jnA_3 _ _ _ _ _).symm, g5.join hk8 s1 s5, crdA f L q r k, g7.crdA hk8 g4 f L q, ?_⟩
  rw [g8, if_neg s2, rdR_at _ _ _ _ g3, if_neg s2, ← g7.crdX f L q, if_pos h]
theorem rt_go {kd : Nat → Nat} {f : Nat → Int32} {L : Nat} {S S' : Nat → Option Nat} {t t' : Nat → Int32} {q q' k : Nat} {w8 w8' : Int32} (hY : rtY kd f L S t q k w8) (h : crdX f L q t k = 0) (h1 : q' = lp f L q 5 ∧ t' = jnA t k (tokN f L (lp f L q 1)) (sN (tokK f L q)) (tokN f L (lp f L q 3)) ∧ S' = va_up S k (some (kd (sN (tokK f L q)))) ∧ w8' = w8) (hq : q' < L) : rtY kd f L S' t' q' (k + 1) w8' := by
  obtain ⟨g1, g2, g3, g4, g5, r, g6, g7⟩ := rt_card hY h h1
  have hn : ¬ tokK f L q' = -2 := fun z => by have := tokK_e.mp z; omega
  exact ⟨g3, g2, by omega, g4, g5, fun _ => hn, r, g6, by rw [if_neg hn]; exact g7⟩
theorem rt_stop {kd : Nat → Nat} {f : Nat → Int32} {L : Nat} {S S' : Nat → Option Nat} {t t' : Nat → Int32} {q q' k : Nat} {w8 w8' w9' : Int32} (hY : rtY kd f L S t q k w8) (h : crdX f L q t k = 0) (h1 : q' = lp f L q 5 ∧ t' = jnA t k (tokN f L (lp f L q 1)) (sN (tokK f L q)) (tokN f L (lp f L q 3)) ∧ S' = va_up S k (some (kd (sN (tokK f L q)))) ∧ w8' = w8) (hq : L ≤ q') : rtN kd f L S' t' w8' w9' := by
  obtain ⟨g1, g2, g3, g4, g5, r, g6, g7⟩ := rt_card hY h h1
  have hn : tokK f L q' = -2 := tokK_e.mpr (by omega)
  rw [rdR_at _ _ _ _ (by omega), if_pos hn] at g7
  rw [rtN, g7]
  exact ⟨g3, fun z => absurd rfl z, fun _ => ⟨k + 1, by omega, by omega, g4, g5, g6, rfl⟩⟩
theorem rt_cardN {kd : Nat → Nat} {f : Nat → Int32} {L : Nat} {S S' : Nat → Option Nat} {t t' : Nat → Int32} {q k : Nat} {w8 w8' w9' : Int32} (hY : rtY kd f L S t q k w8) (h : ¬ crdX f L q t k = 0) (h1 : w9' = nI (lp f L q (crdT f L q t k)) ∧ w8' = nI (crdX f L q t k)) : rtN kd f L S' t' w8' w9' := by
  obtain ⟨g1, g2, g3, g4, g5, g6, r, g7, g8⟩ := hY
  obtain ⟨rfl, rfl⟩ := h1
  by_cases e : tokK f L q = -2
  · have s0 : crdS f L q = 0 := by rw [crdS, e]; rfl
    rw [if_pos e] at g8
    rw [rtN, g8, crdX, if_pos s0, crdT, if_pos s0]
    exact ⟨rfl, fun _ => rfl, fun z => absurd (show (1 : Nat) = 0 from z) (by decide)⟩
  · rw [if_neg e, rdR_at _ _ _ _ g3, if_neg e, ← g7.crdX f L q, if_neg h, ← g7.crdT f L q] at g8
    rw [rtN, g8]
    exact ⟨rfl, fun _ => rfl, fun z => absurd z h⟩
theorem qx {a b c : Prop} (h : a ∧ b) (hc : c) : a ∧ b ∧ c := ⟨h.1, h.2, hc⟩
