/-! the class's reader: its tokens, and how they stand to the reference's -/
def cK (f : Nat → Int32) (L p : Nat) : Int32 := if p = L then -1 else if isFig (f p) then (if runE f L (L - p) p - p ≤ 2 then -2 else -3) else if isStd (f p) then f p else -3
def vlC (f : Nat → Int32) (L p : Nat) (w : Int32) : Int32 := if p = L then w else if isFig (f p) then nmE f L p (L - p) p (nI 0) else w
theorem std_ne {x : Int32} (h : isStd x) : ∀ j, j < 4 → ¬ x = -(nI j) := by
  intro j hj e
  rcases h with h | h | h
  · subst e; revert h; rcases (show j = 0 ∨ j = 1 ∨ j = 2 ∨ j = 3 by omega) with rfl | rfl | rfl | rfl <;> decide
  · rw [e] at h; revert h; rcases (show j = 0 ∨ j = 1 ∨ j = 2 ∨ j = 3 by omega) with rfl | rfl | rfl | rfl <;> decide
  · rw [e] at h; revert h; rcases (show j = 0 ∨ j = 1 ∨ j = 2 ∨ j = 3 by omega) with rfl | rfl | rfl | rfl <;> decide
theorem cK_num (f : Nat → Int32) (L p : Nat) : cK f L p = -2 ↔ tokK f L p = -1 := by
  rw [cK, tokK]
  by_cases h : p = L
  · rw [if_pos h, if_pos h]; decide
  · rw [if_neg h, if_neg h]
    by_cases h1 : isFig (f p)
    · rw [if_pos h1, if_pos h1]; split <;> decide
    · rw [if_neg h1, if_neg h1]
      by_cases h2 : isStd (f p)
      · rw [if_pos h2]
        exact ⟨fun z => absurd z (std_ne h2 2 (by omega)), fun z => absurd z (std_ne h2 1 (by omega))⟩
      · rw [if_neg h2]; decide
theorem cK_sgn (f : Nat → Int32) (L p : Nat) {k : Int32} (h1 : k ≠ -1) (h2 : k ≠ -2) : cK f L p = k ↔ tokK f L p = k := by
  rw [cK, tokK]
  by_cases h : p = L
  · rw [if_pos h, if_pos h]; exact ⟨fun z => absurd z.symm h1, fun z => absurd z.symm h2⟩
  · rw [if_neg h, if_neg h]
    by_cases g1 : isFig (f p)
    · rw [if_pos g1, if_pos g1]; split
      · exact ⟨fun z => absurd z.symm h2, fun z => absurd z.symm h1⟩
      · exact Iff.rfl
    · rw [if_neg g1, if_neg g1]
theorem vlC_num {f : Nat → Int32} {L p : Nat} {w : Int32} (h : tokK f L p = -1) : vlC f L p w = tokN f L p := by
  rw [tokK] at h
  rw [vlC, tokN]
  by_cases h0 : p = L
  · rw [if_pos h0] at h; exact absurd h (by decide)
  · rw [if_neg h0] at h ⊢; rw [if_neg h0]
    by_cases h1 : isFig (f p)
    · rw [if_pos h1, if_pos h1]
    · rw [if_neg h1] at h
      split at h
      · rename_i h2; exact absurd h (std_ne h2 1 (by omega))
      · exact absurd h (by decide)
theorem ck_end {f : Nat → Int32} {L p : Nat} {w : Int32} (h : p = L) : (p, (-1 : Int32), w) = (tokP f L p, cK f L p, vlC f L p w) := by
  rw [tokP, cK, vlC, if_pos h, if_pos h, if_pos h]
theorem ck_fig {f : Nat → Int32} {L p : Nat} {w : Int32} (h : p ≠ L) (h1 : isFig (f p)) : (runE f L (L - p) p, (if runE f L (L - p) p - p ≤ 2 then -2 else -3 : Int32), nmE f L p (L - p) p (nI 0)) = (tokP f L p, cK f L p, vlC f L p w) := by
  rw [tokP, cK, vlC, if_neg h, if_neg h, if_neg h, if_pos h1, if_pos h1, if_pos h1]
theorem ck_sgn {f : Nat → Int32} {L p : Nat} {w : Int32} (h : p ≠ L) (h1 : ¬ isFig (f p)) : (p + 1, (if isStd (f p) then f p else -3 : Int32), w) = (tokP f L p, cK f L p, vlC f L p w) := by
  rw [tokP, cK, vlC, if_neg h, if_neg h, if_neg h, if_neg h1, if_neg h1, if_neg h1]
def sN (x : Int32) : Nat := if x = nI 102 then 1 else if x = nI 111 then 2 else if x = nI 119 then 3 else if x = nI 114 then 4 else if x = nI 98 then 5 else 0
theorem srt_sN (x : Int32) : srtF x = nI (sN x) := by
  rw [srtF, sN]; split; rfl; split; rfl; split; rfl; split; rfl; split <;> rfl
theorem sN_le (x : Int32) : sN x ≤ 5 := by
  rw [sN]; split; decide; split; decide; split; decide; split; decide; split <;> decide
def srO (kd : Nat → Nat) (x : Int32) : Option Nat := if sN x = 0 then none else some (kd (sN x))
theorem cK_sN (f : Nat → Int32) (L p : Nat) : sN (cK f L p) = sN (tokK f L p) := by
  have e : ∀ k : Int32, k ≠ -1 → k ≠ -2 → ((cK f L p = k) = (tokK f L p = k)) := fun k h1 h2 => propext (cK_sgn f L p h1 h2)
  rw [sN, sN]
  simp only [e (nI 102) (by decide) (by decide), e (nI 111) (by decide) (by decide), e (nI 119) (by decide) (by decide), e (nI 114) (by decide) (by decide), e (nI 98) (by decide) (by decide)]
theorem crdS_sN (f : Nat → Int32) (L p : Nat) : crdS f L p = nI (sN (tokK f L p)) := by
  rw [crdS]
  split
  · rename_i h
    have : sN (tokK f L p) = 0 := by
      rw [sN]
      have q : ∀ j : Nat, 0 < j → j < 1000 → ¬ tokK f L p = nI j := fun j h0 h1 e => by rw [e] at h; exact nI_nle h0 (by omega) h
      rw [if_neg (q _ (by decide) (by decide)), if_neg (q _ (by decide) (by decide)), if_neg (q _ (by decide) (by decide)), if_neg (q _ (by decide) (by decide)), if_neg (q _ (by decide) (by decide))]
    rw [this]
  · exact srt_sN _
theorem crdS_z {f : Nat → Int32} {L p : Nat} (h : sN (tokK f L p) = 0) : crdS f L p = 0 := by rw [crdS_sN, h]; rfl
theorem crdS_p {f : Nat → Int32} {L p : Nat} (h : ¬ sN (tokK f L p) = 0) : ¬ crdS f L p = 0 := by
  rw [crdS_sN]; exact nI_nz (by omega) (by have := sN_le (tokK f L p); omega)
/-- two catalogues that agree on their first n cards -/
def agr (t r : Nat → Int32) (n : Nat) : Prop := t 0 = r 0 ∧ t 1 = r 1 ∧ t 2 = r 2 ∧ t 3 = r 3 ∧ ∀ c, c < n → t (5 + c) = r (5 + c) ∧ t (13 + c) = r (13 + c) ∧ t (21 + c) = r (21 + c) ∧ t (29 + c) = r (29 + c)
theorem agr.fill {t r : Nat → Int32} {n : Nat} (h : agr t r n) (d : Int32) : fillN t d n = fillN r d n := fillN_cong n (fun j hj => (h.2.2.2.2 j hj).2.2.1)
theorem agr.crdX {t r : Nat → Int32} {n : Nat} (h : agr t r n) (f : Nat → Int32) (L p : Nat) : crdX f L p t n = Jvm.Pilot.CDrawerCardsLaw_law_r8368_31570c.crdX f L p r n := by
  rw [Jvm.Pilot.CDrawerCardsLaw_law_r8368_31570c.crdX, Jvm.Pilot.CDrawerCardsLaw_law_r8368_31570c.crdX, h.fill, h.2.1, h.2.2.1]
theorem agr.crdT {t r : Nat → Int32} {n : Nat} (h : agr t r n) (f : Nat → Int32) (L p : Nat) : crdT f L p t n = Jvm.Pilot.CDrawerCardsLaw_law_r8368_31570c.crdT f L p r n := by
  rw [Jvm.Pilot.CDrawerCardsLaw_law_r8368_31570c.crdT, Jvm.Pilot.CDrawerCardsLaw_law_r8368_31570c.crdT, h.fill, h.2.1, h.2.2.1]
theorem agr.crdA {t r : Nat → Int32} {n : Nat} (h : agr t r n) (hn : n < 8) (h3 : t 3 = nI n) (f : Nat → Int32) (L p : Nat) : agr (jnA t n (tokN f L (lp f L p 1)) (sN (tokK f L p)) (tokN f L (lp f L p 3))) (crdA f L p r n) (n + 1) := by
  have h3r : r 3 = nI n := by rw [← h.2.2.2.1]; exact h3
  refine ⟨?_, ?_, ?_, ?_, fun c hc => ?_⟩
  · rw [← jnA_lo _ _ _ _ _ (by omega), h.1, Jvm.Pilot.CDrawerCardsLaw_law_r8368_31570c.crdA, crdB, pk_un (by omega), pk_un (by omega), pk_un (by omega), pk_un (by omega), pk_un (by omega)]
  · rw [← jnA_lo _ _ _ _ _ (by omega), h.2.1, Jvm.Pilot.CDrawerCardsLaw_law_r8368_31570c.crdA, crdB, pk_un (by omega), pk_un (by omega), pk_un (by omega), pk_un (by omega), pk_un (by omega)]
  · rw [← jnA_lo _ _ _ _ _ (by omega), h.2.2.1, Jvm.Pilot.CDrawerCardsLaw_law_r8368_31570c.crdA, crdB, pk_un (by omega), pk_un (by omega), pk_un (by omega), pk_un (by omega), pk_un (by omega)]
  · rw [← jnA_3, crdA_3 h3r]
  · rw [Jvm.Pilot.CDrawerCardsLaw_law_r8368_31570c.crdA, jnA]
    rw [pk_un (show 5 + c ≠ 3 by omega), pk_un (show 5 + c ≠ 3 by omega), pk_un (show 13 + c ≠ 3 by omega), pk_un (show 13 + c ≠ 3 by omega), pk_un (show 21 + c ≠ 3 by omega), pk_un (show 21 + c ≠ 3 by omega), pk_un (show 29 + c ≠ 3 by omega), pk_un (show 29 + c ≠ 3 by omega), crdB, h.fill, crdS_sN]
    by_cases e : c = n
    · subst e
      refine ⟨?_, ?_, ?_, ?_⟩
      · rw [pk_un (by omega), pk_us, pk_un (by omega), pk_us]
      · rw [pk_us, pk_us]
      · rw [pk_un (by omega), pk_un (by omega), pk_us, pk_un (by omega), pk_un (by omega), pk_us]
      · rw [pk_un (by omega), pk_un (by omega), pk_un (by omega), pk_us, pk_un (by omega), pk_un (by omega), pk_un (by omega), pk_us]
    · obtain ⟨q1, q2, q3, q4⟩ := h.2.2.2.2 c (by omega)
      refine ⟨?_, ?_, ?_, ?_⟩
      · rw [pk_un (by omega), pk_un (by omega), pk_un (by omega), pk_un (by omega), pk_un (by omega), pk_un (by omega), pk_un (by omega), pk_un (by omega)]; exact q1
      · rw [pk_un (by omega), pk_un (by omega), pk_un (by omega), pk_un (by omega), pk_un (by omega), pk_un (by omega), pk_un (by omega), pk_un (by omega)]; exact q2
      · rw [pk_un (by omega), pk_un (by omega), pk_un (by omega), pk_un (by omega), pk_un (by omega), pk_un (by omega), pk_un (by omega), pk_un (by omega)]; exact q3
      · rw [pk_un (by omega), pk_un (by omega), pk_un (by omega), pk_un (by omega), pk_un (by omega), pk_un (by omega), pk_un (by omega), pk_un (by omega)]; exact q4
theorem sN_0 {x : Int32} (h1 : ¬ nI 102 = x) (h2 : ¬ nI 111 = x) (h3 : ¬ nI 119 = x) (h4 : ¬ nI 114 = x) (h5 : ¬ nI 98 = x) : sN x = 0 := by
  rw [sN, if_neg (fun z => h1 z.symm), if_neg (fun z => h2 z.symm), if_neg (fun z => h3 z.symm), if_neg (fun z => h4 z.symm), if_neg (fun z => h5 z.symm)]
theorem srO_n {kd : Nat → Nat} {x : Int32} (h : sN x = 0) : srO kd x = none := if_pos h
theorem srO_s {kd : Nat → Nat} {x : Int32} (h : ¬ sN x = 0) : srO kd x = some (kd (sN x)) := if_neg h
theorem numX_q {f : Nat → Int32} {L p : Nat} {a b : Int32} (h : ¬ numOK f L p a b) : nI (numX f L p) = if ¬ tokK f L p = -1 then nI 1 else nI 2 := by
  rw [numX]; split <;> rfl
theorem anyS.up {kd : Nat → Nat} {S : Nat → Option Nat} (h : ∀ j, j < 8 → anyS kd (S j)) {n k : Nat} (h1 : 1 ≤ k) (h5 : k ≤ 5) : ∀ j, j < 8 → anyS kd (va_up S n (some (kd k)) j) := fun j hj => by
  by_cases e : j = n
  · subst e; exact Or.inr ⟨k, h1, h5, by simp [va_up]⟩
  · simp only [va_up, if_neg e]; exact h j hj
theorem srts.join {kd : Nat → Nat} {S : Nat → Option Nat} {t : Nat → Int32} {n k : Nat} {d li : Int32} (h : srts kd S t n) (hn : n < 8) (h1 : 1 ≤ k) (h5 : k ≤ 5) : srts kd (va_up S n (some (kd k))) (jnA t n d k li) (n + 1) := fun j hj => by
  by_cases e : j = n
  · subst e
    refine ⟨k, h1, h5, ?_, by simp [va_up]⟩
    rw [jnA, pk_un (by omega), pk_un (by omega), pk_us]
  · obtain ⟨i, q1, q2, q3, q4⟩ := h j (by omega)
    refine ⟨i, q1, q2, ?_, by simp only [va_up, if_neg e]; exact q4⟩
    rw [jnA, pk_un (by omega), pk_un (by omega), pk_un (by omega), pk_un (by omega), pk_un (by omega)]; exact q3
abbrev lawQ (f : Nat → Int32) (L : Nat) (r : Int32) (P : Prop) (fn fp : Int32) : Prop := r = bI (lawX f L = 0) ∧ (lawX f L = 0 → P) ∧ (¬ lawX f L = 0 → fp = nI (lp f L 0 (lawT f L)) ∧ fn = nI (lawX f L))
section LAWQ
variable {f : Nat → Int32} {L : Nat} {P : Prop} {fn fp : Int32}
theorem lawQ0 (c : ¬ tokK f L 0 = nI 99) (h : fn = nI 1 ∧ fp = nI 0) : lawQ f L (nI 0) P fn fp := by
  have c : ¬ tokK f L (lp f L 0 0) = nI 99 := c
  exact prF (x := 1) (t := 0) (g := lp f L 0) (by rw [lawX, if_pos c]) (by decide) (by rw [lawT, if_pos c]) h.2 h.1
theorem lawQ1 (c : tokK f L 0 = nI 99) (c1 : ¬ numOK f L (lp f L 0 1) (nI 2) (nI 6)) (h : fn = nI (numX f L (lp f L 0 1)) ∧ fp = nI (lp f L 0 1)) : lawQ f L (nI 0) P fn fp := by
  have c : tokK f L (lp f L 0 0) = nI 99 := c
  exact prF (t := 1) (g := lp f L 0) (by rw [lawX, if_neg (nn c), if_pos c1]) (numX_ne _ _ _) (by rw [lawT, if_neg (nn c), if_pos c1]) h.2 h.1
theorem lawQ2 (c : tokK f L 0 = nI 99) (c1 : numOK f L (lp f L 0 1) (nI 2) (nI 6)) (c2 : ¬ tokK f L (lp f L 0 2) = nI 44) (h : fn = nI 1 ∧ fp = nI (lp f L 0 2)) : lawQ f L (nI 0) P fn fp := by
  have c : tokK f L (lp f L 0 0) = nI 99 := c
  exact prF (x := 1) (t := 2) (g := lp f L 0) (by rw [lawX, if_neg (nn c), if_neg (nn c1), if_pos c2]) (by decide) (by rw [lawT, if_neg (nn c), if_neg (nn c1), if_pos c2]) h.2 h.1
theorem lawQ3 (c : tokK f L 0 = nI 99) (c1 : numOK f L (lp f L 0 1) (nI 2) (nI 6)) (c2 : tokK f L (lp f L 0 2) = nI 44) (c3 : ¬ numOK f L (lp f L 0 3) (nI 1) (nI 8)) (h : fn = nI (numX f L (lp f L 0 3)) ∧ fp = nI (lp f L 0 3)) : lawQ f L (nI 0) P fn fp := by
  have c : tokK f L (lp f L 0 0) = nI 99 := c
  exact prF (t := 3) (g := lp f L 0) (by rw [lawX, if_neg (nn c), if_neg (nn c1), if_neg (nn c2), if_pos c3]) (numX_ne _ _ _) (by rw [lawT, if_neg (nn c), if_neg (nn c1), if_neg (nn c2), if_pos c3]) h.2 h.1
theorem lawQ4 (c : tokK f L 0 = nI 99) (c1 : numOK f L (lp f L 0 1) (nI 2) (nI 6)) (c2 : tokK f L (lp f L 0 2) = nI 44) (c3 : numOK f L (lp f L 0 3) (nI 1) (nI 8)) (hP : tokK f L (lp f L 0 4) = nI 59 → P) (h : ¬ tokK f L (lp f L 0 4) = nI 59 → fn = nI 1 ∧ fp = nI (lp f L 0 4)) : lawQ f L (bI (tokK f L (lp f L 0 4) = nI 59)) P fn fp := by
  have c : tokK f L (lp f L 0 0) = nI 99 := c
  have e1 : lawX f L = if tokK f L (lp f L 0 4) = nI 59 then 0 else 1 := by rw [lawX, if_neg (nn c), if_neg (nn c1), if_neg (nn c2), if_neg (nn c3)]
  have e2 : lawT f L = 4 := by rw [lawT, if_neg (nn c), if_neg (nn c1), if_neg (nn c2), if_neg (nn c3)]
  by_cases q : tokK f L (lp f L 0 4) = nI 59
  · rw [if_pos q] at e1
    exact ⟨by rw [bI_t q, bI_t e1], fun _ => hP q, fun z => absurd e1 z⟩
  · rw [if_neg q] at e1
    exact ⟨by rw [bI_f q, bI_f (by omega)], fun z => absurd z (by omega), fun _ => ⟨by rw [e2]; exact (h q).2, by rw [e1]; exact (h q).1⟩⟩
end LAWQ
abbrev crdQ (f t : Nat → Int32) (L p n : Nat) (r : Int32) (P : Prop) (fn fp : Int32) : Prop := r = bI (crdX f L p t n = 0) ∧ (crdX f L p t n = 0 → P) ∧ (¬ crdX f L p t n = 0 → fp = nI (lp f L p (crdT f L p t n)) ∧ fn = nI (crdX f L p t n))
section CRDQ
variable {f t : Nat → Int32} {L p n : Nat} {P : Prop} {fn fp : Int32}
theorem crdQ0 (s0 : crdS f L p = 0) : crdQ f t L p n (nI 0) P (nI 1) (nI p) :=
  prF (x := 1) (t := 0) (g := lp f L p) (by rw [crdX, if_pos s0]) (by decide) (by rw [crdT, if_pos s0]) rfl rfl
theorem crdQ1 (s0 : ¬ crdS f L p = 0) (c1 : n = 8) : crdQ f t L p n (nI 0) P (nI 3) (nI p) :=
  prF (x := 3) (t := 0) (g := lp f L p) (by rw [crdX, if_neg s0, if_pos c1]) (by decide) (by rw [crdT, if_neg s0, if_pos c1]) rfl rfl
theorem crdQ2 (s0 : ¬ crdS f L p = 0) (c1 : ¬ n = 8) (c2 : ¬ numOK f L (lp f L p 1) (nI 0) (t 1 - nI 1)) (h : fn = nI (numX f L (lp f L p 1)) ∧ fp = nI (lp f L p 1)) : crdQ f t L p n (nI 0) P fn fp :=
  prF (t := 1) (g := lp f L p) (by rw [crdX, if_neg s0, if_neg c1, if_pos c2]) (numX_ne _ _ _) (by rw [crdT, if_neg s0, if_neg c1, if_pos c2]) h.2 h.1
theorem crdQ3 (s0 : ¬ crdS f L p = 0) (c1 : ¬ n = 8) (c2 : numOK f L (lp f L p 1) (nI 0) (t 1 - nI 1)) (c3 : ¬ fillN t (tokN f L (lp f L p 1)) n < t 2) : crdQ f t L p n (nI 0) P (nI 2) (nI (lp f L p 1)) :=
  prF (x := 2) (t := 1) (g := lp f L p) (by rw [crdX, if_neg s0, if_neg c1, if_neg (nn c2), if_pos c3]) (by decide) (by rw [crdT, if_neg s0, if_neg c1, if_neg (nn c2), if_pos c3]) rfl rfl
theorem crdQ4 (s0 : ¬ crdS f L p = 0) (c1 : ¬ n = 8) (c2 : numOK f L (lp f L p 1) (nI 0) (t 1 - nI 1)) (c3 : fillN t (tokN f L (lp f L p 1)) n < t 2) (c4 : ¬ tokK f L (lp f L p 2) = nI 44) (h : fn = nI 1 ∧ fp = nI (lp f L p 2)) : crdQ f t L p n (nI 0) P fn fp :=
  prF (x := 1) (t := 2) (g := lp f L p) (by rw [crdX, if_neg s0, if_neg c1, if_neg (nn c2), if_neg (nn c3), if_pos c4]) (by decide) (by rw [crdT, if_neg s0, if_neg c1, if_neg (nn c2), if_neg (nn c3), if_pos c4]) h.2 h.1
theorem crdQ5 (s0 : ¬ crdS f L p = 0) (c1 : ¬ n = 8) (c2 : numOK f L (lp f L p 1) (nI 0) (t 1 - nI 1)) (c3 : fillN t (tokN f L (lp f L p 1)) n < t 2) (c4 : tokK f L (lp f L p 2) = nI 44) (c5 : ¬ numOK f L (lp f L p 3) (nI 0) (nI 7)) (h : fn = nI (numX f L (lp f L p 3)) ∧ fp = nI (lp f L p 3)) : crdQ f t L p n (nI 0) P fn fp :=
  prF (t := 3) (g := lp f L p) (by rw [crdX, if_neg s0, if_neg c1, if_neg (nn c2), if_neg (nn c3), if_neg (nn c4), if_pos c5]) (numX_ne _ _ _) (by rw [crdT, if_neg s0, if_neg c1, if_neg (nn c2), if_neg (nn c3), if_neg (nn c4), if_pos c5]) h.2 h.1
theorem crdQ6 (s0 : ¬ crdS f L p = 0) (c1 : ¬ n = 8) (c2 : numOK f L (lp f L p 1) (nI 0) (t 1 - nI 1)) (c3 : fillN t (tokN f L (lp f L p 1)) n < t 2) (c4 : tokK f L (lp f L p 2) = nI 44) (c5 : numOK f L (lp f L p 3) (nI 0) (nI 7)) (c6 : tokN f L (lp f L p 3) = nI n) : crdQ f t L p n (nI 0) P (nI 2) (nI (lp f L p 3)) :=
  prF (x := 2) (t := 3) (g := lp f L p) (by rw [crdX, if_neg s0, if_neg c1, if_neg (nn c2), if_neg (nn c3), if_neg (nn c4), if_neg (nn c5), if_pos c6]) (by decide) (by rw [crdT, if_neg s0, if_neg c1, if_neg (nn c2), if_neg (nn c3), if_neg (nn c4), if_neg (nn c5), if_pos c6]) rfl rfl
theorem crdQ8 (s0 : ¬ crdS f L p = 0) (c1 : ¬ n = 8) (c2 : numOK f L (lp f L p 1) (nI 0) (t 1 - nI 1)) (c3 : fillN t (tokN f L (lp f L p 1)) n < t 2) (c4 : tokK f L (lp f L p 2) = nI 44) (c5 : numOK f L (lp f L p 3) (nI 0) (nI 7)) (c6 : ¬ tokN f L (lp f L p 3) = nI n) (hP : tokK f L (lp f L p 4) = nI 59 → P) (h : ¬ tokK f L (lp f L p 4) = nI 59 → fn = nI 1 ∧ fp = nI (lp f L p 4)) : crdQ f t L p n (bI (tokK f L (lp f L p 4) = nI 59)) P fn fp := by
  have e1 : crdX f L p t n = if tokK f L (lp f L p 4) = nI 59 then 0 else 1 := by rw [crdX, if_neg s0, if_neg c1, if_neg (nn c2), if_neg (nn c3), if_neg (nn c4), if_neg (nn c5), if_neg c6]
  have e2 : crdT f L p t n = 4 := by rw [crdT, if_neg s0, if_neg c1, if_neg (nn c2), if_neg (nn c3), if_neg (nn c4), if_neg (nn c5), if_neg c6]
  by_cases q : tokK f L (lp f L p 4) = nI 59
  · rw [if_pos q] at e1
    exact ⟨by rw [bI_t q, bI_t e1], fun _ => hP q, fun z => absurd e1 z⟩
  · rw [if_neg q] at e1
    exact ⟨by rw [bI_f q, bI_f (by omega)], fun z => absurd z (by omega), fun _ => ⟨by rw [e2]; exact (h q).2, by rw [e1]; exact (h q).1⟩⟩
end CRDQ
