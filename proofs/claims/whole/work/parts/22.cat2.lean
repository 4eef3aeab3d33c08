/-- the drawers and places of the first n cards of a catalogue, as numbers -/
def IQ (s : Nat → Int32) (n : Nat) (i q : Nat → Nat) : Prop := ∀ c, c < n → s (21 + c) = nI (i c) ∧ s (29 + c) = nI (q c) ∧ i c ≤ 7
theorem cnt_le (i : Nat → Nat) (d n : Nat) : cnt i d n ≤ n := fb_ct_le _ n
theorem PP_lt {i q : Nat → Nat} {n c : Nat} (h : PP i q n) (hc : c < n) : q c < n := Nat.lt_of_lt_of_le (h.1 c hc) (cnt_le i _ n)
theorem nIe {a b : Nat} (ha : a < 100000) (hb : b < 100000) : nI a = nI b ↔ a = b := nI_eq (by omega) (by omega)
theorem nIle {a b : Nat} (ha : a < 100000) (hb : b < 100000) : nI a ≤ nI b ↔ a ≤ b := nI_leI (by omega) (by omega)
theorem nIlt {a b : Nat} (ha : a < 100000) (hb : b < 100000) : nI a < nI b ↔ a < b := nI_ltI (by omega) (by omega)
theorem nI_s0 (a : Nat) : nI a - nI 0 = nI a := by rw [pk_sub (Nat.zero_le a)]; rfl
theorem nI_a0 (a : Nat) : nI a + nI 0 = nI a := nI_add a 0
theorem nI_m1 {d : Nat} (h : d < 100000) : ¬ (-1 : Int32) = nI d := by
  intro e
  have h1 := nI_toInt (n := d) (by omega)
  rw [← e] at h1
  have h2 : ((-1 : Int32)).toInt = -1 := by decide
  omega
theorem outN_at {s : Nat → Int32} {n c : Nat} {i q : Nat → Nat} (h : IQ s n i q) (hP : PP i q n) (hn : n ≤ 8) (hc : c < n) : ∀ m, m ≤ n → ∀ j, j < n → outN s c m (29 + j) = nI (if j < m ∧ i j = i c ∧ q c < q j then q j - 1 else q j) := by
  intro m
  induction m with
  | zero => intro _ j hj; simp only [outN]; rw [(h j hj).2.1]; simp
  | succ m ih =>
    intro hm j hj
    have ih := ih (by omega)
    by_cases e : j = m
    · subst e
      have a1 := ih j hj
      have a2 := ih c hc
      have bj := PP_lt hP hj
      have bc := PP_lt hP hc
      rw [outN, pk_us, outN_lo s c (j := 21 + j) (by omega), outN_lo s c (j := 21 + c) (by omega), a1, a2, (h j hj).1, (h c hc).1]
      have i1 := (h j hj).2.2
      have i2 := (h c hc).2.2
      simp only [Nat.lt_irrefl, false_and, and_false, if_false, nIe (show i j < 100000 by omega) (show i c < 100000 by omega), nIle (show q j < 100000 by omega) (show q c < 100000 by omega), Nat.lt_succ_self, true_and, Nat.not_le]
      split
      · rename_i hh; rw [pk_sub (by omega)]
      · rw [nI_s0]
    · rw [outN, pk_un (by omega), ih j hj]
      have : j < m + 1 ↔ j < m := by omega
      simp only [this]
theorem outS_in (s : Nat → Int32) (n c j : Nat) (h : j ≠ c) (hj : j < 8) : outS s n c (21 + j) = s (21 + j) := by
  rw [outS, pk_un (by omega)]; exact outN_lo s c (by omega) n
theorem outS_c (s : Nat → Int32) (n c : Nat) : outS s n c (21 + c) = -1 := by rw [outS, pk_us]
theorem outS_at {s : Nat → Int32} {n c : Nat} {i q : Nat → Nat} (h : IQ s n i q) (hP : PP i q n) (hn : n ≤ 8) (hc : c < n) {j : Nat} (hj : j < n) : outS s n c (29 + j) = nI (if i j = i c ∧ q c < q j then q j - 1 else q j) := by
  rw [outS, pk_un (by omega), outN_at h hP hn hc n (Nat.le_refl n) j hj]
  simp only [hj, true_and]
/-- the drawer of each card as numbers: its count -/
theorem fillN_cnt {s : Nat → Int32} {n : Nat} {i : Nat → Nat} {d : Nat} (h : ∀ c, c < n → (s (21 + c) = nI d ↔ i c = d)) : ∀ m, m ≤ n → fillN s (nI d) m = nI (cnt i d m)
  | 0, _ => rfl
  | m + 1, hm => by
    rw [fillN, fillN_cnt h m (by omega), cnt_succ]
    by_cases e : i m = d
    · rw [if_pos ((h m (by omega)).mpr e), if_pos e, nI_add]
    · rw [if_neg (fun w => e ((h m (by omega)).mp w)), if_neg e, nI_add]
theorem fill_IQ {s : Nat → Int32} {n : Nat} {i q : Nat → Nat} (h : IQ s n i q) {d : Nat} (hd : d < 100000) : fillN s (nI d) n = nI (cnt i d n) :=
  fillN_cnt (fun c hc => by rw [(h c hc).1]; exact nIe (by have := (h c hc).2.2; omega) hd) n (Nat.le_refl n)
theorem fill_out {s : Nat → Int32} {n c : Nat} {i q : Nat → Nat} (h : IQ s n i q) (hn : n ≤ 8) (hc : c < n) {d : Nat} (hd : d ≤ 7) : fillN (outS s n c) (nI d) n = nI (cnt (fun k => if k = c then 9 else i k) d n) :=
  fillN_cnt (fun k hk => by
    by_cases e : k = c
    · subst e; rw [outS_c]; simp only [if_true]
      constructor
      · intro w; exact absurd w (nI_m1 (by omega))
      · intro w; omega
    · rw [outS_in s n c k e (by omega), (h k hk).1]; simp only [if_neg e]
      exact nIe (by have := (h k hk).2.2; omega) (by omega)) n (Nat.le_refl n)
theorem inN_at {t : Nat → Int32} {n c d p : Nat} {i q1 : Nat → Nat} (hi : ∀ j, j < n → j ≠ c → t (21 + j) = nI (i j) ∧ i j ≤ 7) (hic : t (21 + c) = -1) (hq : ∀ j, j < n → t (29 + j) = nI (q1 j) ∧ q1 j ≤ 8) (hd : d ≤ 7) (hp : p ≤ 8) (hn8 : n ≤ 8) : ∀ m, m ≤ n → ∀ j, j < n → inN t (nI d) (nI p) m (29 + j) = nI (if j < m ∧ j ≠ c ∧ i j = d ∧ p ≤ q1 j then q1 j + 1 else q1 j) := by
  intro m
  induction m with
  | zero => intro _ j hj; simp only [inN]; rw [(hq j hj).1]; simp
  | succ m ih =>
    intro hm j hj
    have ih := ih (by omega)
    by_cases e : j = m
    · subst e
      have a1 := ih j hj
      have bj := (hq j hj).2
      rw [inN, pk_us, inN_lo t _ _ (j := 21 + j) (by omega), a1]
      by_cases ec : j = c
      · subst ec
        rw [hic]
        simp only [nI_m1 (show d < 100000 by omega), false_and, ne_eq, not_true_eq_false, and_false, if_false, Nat.lt_irrefl, nI_a0]
      · have i1 := (hi j hj ec).2
        rw [(hi j hj ec).1]
        simp only [Nat.lt_irrefl, false_and, if_false, nIe (show i j < 100000 by omega) (show d < 100000 by omega), nIlt (show q1 j < 100000 by omega) (show p < 100000 by omega), Nat.lt_succ_self, true_and, Nat.not_lt, ne_eq, ec, not_false_eq_true]
        split
        · rw [nI_add]
        · rw [nI_a0]
    · rw [inN, pk_un (by omega), ih j hj]
      have : j < m + 1 ↔ j < m := by omega
      simp only [this]
/-- a card goes from where it is into drawer d, to place p -/
theorem mv_IQ {s : Nat → Int32} {n c d p : Nat} {i q : Nat → Nat} (h : IQ s n i q) (hP : PP i q n) (hn : n ≤ 8) (hc : c < n) (hd : d ≤ 7) (hp : p ≤ 8) : IQ (inS (outS s n c) n c (nI d) (nI p)) n (fun k => if k = c then d else i k) (mvQ i q c d p) := by
  have hi : ∀ j, j < n → j ≠ c → outS s n c (21 + j) = nI (i j) ∧ i j ≤ 7 := fun j hj e => ⟨by rw [outS_in s n c j e (by omega)]; exact (h j hj).1, (h j hj).2.2⟩
  have hq : ∀ j, j < n → outS s n c (29 + j) = nI (if i j = i c ∧ q c < q j then q j - 1 else q j) ∧ (if i j = i c ∧ q c < q j then q j - 1 else q j) ≤ 8 := fun j hj => ⟨outS_at h hP hn hc hj, by
    have := PP_lt hP hj
    split <;> omega⟩
  intro k hk
  by_cases e : k = c
  · subst e
    refine ⟨?_, ?_, ?_⟩
    · rw [inS, pk_un (by omega), pk_us]; simp
    · rw [inS, pk_us]; simp [mvQ]
    · simpa using hd
  · refine ⟨?_, ?_, ?_⟩
    · rw [inS, pk_un (by omega), pk_un (by omega), inN_lo _ _ _ (by omega), (hi k hk e).1]; simp [e]
    · rw [inS, pk_un (by omega), pk_un (by omega), inN_at hi (outS_c s n c) hq hd hp hn n (Nat.le_refl n) k hk]
      simp only [mvQ, hk, true_and, ne_eq, e, not_false_eq_true, if_false]
    · simp only [if_neg e]; exact (hi k hk e).2
/-- a catalogue of n cards -/
def Cat (s : Nat → Int32) (n : Nat) : Prop := s 3 = nI n ∧ n ≤ 8 ∧ (∀ c, c < n → ∃ k, k ≤ 7 ∧ s (13 + c) = nI k ∧ k ≠ c) ∧ (∀ c, c < n → ∃ t, 1 ≤ t ∧ t ≤ 5 ∧ s (5 + c) = nI t) ∧ ∃ i q : Nat → Nat, IQ s n i q ∧ PP i q n
theorem Cat.move {s : Nat → Int32} {n c d p : Nat} (hC : Cat s n) (hc : c < n) (hd : d ≤ 7) (hp : ∀ i q : Nat → Nat, IQ s n i q → PP i q n → p + (if i c = d then 1 else 0) ≤ cnt i d n) : Cat (inS (outS s n c) n c (nI d) (nI p)) n := by
  obtain ⟨h3, hn, hL, hT, i, q, h, hP⟩ := hC
  have hp := hp i q h hP
  have lo : ∀ j, j < 21 → inS (outS s n c) n c (nI d) (nI p) j = s j := fun j hj => by rw [inS_lo _ _ _ _ _ hj, outS_lo _ _ _ hj]
  have b := cnt_le i d n
  refine ⟨by rw [lo 3 (by omega)]; exact h3, hn, fun k hk => ?_, fun k hk => ?_, _, _, mv_IQ h hP hn hc hd (by omega), PP_move hP hc d p hp⟩
  · rw [lo _ (by omega)]; exact hL k hk
  · rw [lo _ (by omega)]; exact hT k hk
theorem Cat.behind {s : Nat → Int32} {n c d : Nat} (hC : Cat s n) (hc : c < n) (hd : d ≤ 7) : Cat (behindS s n c (nI d)) n := by
  obtain ⟨h3, hn, hL, hT, i, q, h, hP⟩ := id hC
  rw [behindS, fill_out h hn hc hd]
  refine hC.move hc hd (fun i' q' h' hP' => ?_)
  have e : cnt (fun k => if k = c then 9 else i k) d n = cnt (fun k => if k = c then 9 else i' k) d n := cnt_congr (fun k hk => by
    by_cases z : k = c
    · simp [z]
    · simp only [if_neg z]
      exact (nIe (by have := (h k hk).2.2; omega) (by have := (h' k hk).2.2; omega)).mp ((h k hk).1.symm.trans (h' k hk).1)) d
  rw [e]
  have m := cnt_move i' hc 9 d
  have : ¬ 9 = d := by omega
  simp only [this, if_false] at m
  omega
theorem Cat.by {s : Nat → Int32} {n c k : Nat} (hC : Cat s n) (hc : c < n) (hk : k < n) (hkc : k ≠ c) : Cat (byS s n c k) n := by
  obtain ⟨h3, hn, hL, hT, i, q, h, hP⟩ := id hC
  rw [byS, outS_in s n c k hkc (by omega), (h k hk).1, outS_at h hP hn hc hk, nI_add]
  refine hC.move hc (h k hk).2.2 (fun i' q' h' hP' => ?_)
  have ei : ∀ j, j < n → i j = i' j := fun j hj => (nIe (by have := (h j hj).2.2; omega) (by have := (h' j hj).2.2; omega)).mp ((h j hj).1.symm.trans (h' j hj).1)
  have eq : ∀ j, j < n → q j = q' j := fun j hj => (nIe (by have := PP_lt hP hj; omega) (by have := PP_lt hP' hj; omega)).mp ((h j hj).2.1.symm.trans (h' j hj).2.1)
  have b1 := hP'.1 k hk
  have b2 := hP'.1 c hc
  have b3 := hP'.2 k c hk hc hkc
  rw [ei k hk, ei c hc, eq k hk, eq c hc]
  generalize cnt i' = g0 at *
  grind
theorem Cat.ahead {s : Nat → Int32} {n c : Nat} (hC : Cat s n) (hc : c < n) (h0 : ¬ s (29 + c) ≤ 0) : ∃ k, k < n ∧ k ≠ c ∧ s (21 + k) = s (21 + c) ∧ s (29 + k) = s (29 + c) - nI 1 ∧ ∀ j, j < n → s (21 + j) = s (21 + c) → s (29 + j) = s (29 + c) - nI 1 → j = k := by
  obtain ⟨h3, hn, hL, hT, i, q, h, hP⟩ := hC
  have bc := PP_lt hP hc
  have q0 : 0 < q c := by
    rcases Nat.eq_zero_or_pos (q c) with e | e
    · rw [(h c hc).2.1, e] at h0; exact absurd (Int32.le_refl 0) h0
    · exact e
  obtain ⟨k, hk, e1, e2⟩ := PP_ahead hP hc (q c - 1) (by have := hP.1 c hc; omega)
  have es : s (29 + c) - nI 1 = nI (q c - 1) := by rw [(h c hc).2.1, pk_sub (by omega)]
  refine ⟨k, hk, fun w => by subst w; omega, by rw [(h k hk).1, (h c hc).1, e1], by rw [es, (h k hk).2.1, e2], fun j hj e3 e4 => ?_⟩
  rw [(h j hj).1, (h c hc).1, nIe (by have := (h j hj).2.2; omega) (by have := (h c hc).2.2; omega)] at e3
  rw [es, (h j hj).2.1, nIe (by have := PP_lt hP hj; omega) (by omega)] at e4
  rcases Decidable.em (j = k) with w | w
  · exact w
  · exact absurd (e4.trans e2.symm) (hP.2 j k hj hk w (e3.trans e1.symm))
theorem cardAtN_of {s : Nat → Int32} {d pl : Int32} {n k : Nat} (hk : k < n) (h1 : s (21 + k) = d) (h2 : s (29 + k) = pl) (h3 : ∀ j, j < n → s (21 + j) = d → s (29 + j) = pl → j = k) : ∀ m, m ≤ n → cardAtN s d pl m = if k < m then nI k else -1000000
  | 0, _ => by simp [cardAtN]
  | m + 1, hm => by
    rw [cardAtN, cardAtN_of hk h1 h2 h3 m (by omega)]
    by_cases e : m = k
    · subst e; simp [h1, h2]
    · have : ¬ (s (21 + m) = d ∧ s (29 + m) = pl) := fun w => e (h3 m (by omega) w.1 w.2)
      rw [if_neg this]
      have e2 : k < m + 1 ↔ k < m := by omega
      simp only [e2]
theorem Cat.kOf {s : Nat → Int32} {n c : Nat} (hC : Cat s n) (hc : c < n) (h0 : ¬ s (29 + c) ≤ 0) : cardAtN s (s (21 + c)) (s (29 + c) - nI 1) n = nI (kOf s n c) ∧ kOf s n c < n ∧ kOf s n c ≠ c ∧ s (21 + kOf s n c) = s (21 + c) ∧ s (29 + kOf s n c) = s (29 + c) - nI 1 := by
  obtain ⟨k, hk, hkc, e1, e2, e3⟩ := hC.ahead hc h0
  have e := cardAtN_of hk e1 e2 e3 n (Nat.le_refl n)
  rw [if_pos hk] at e
  have hn := hC.2.1
  have ek : Jvm.Pilot.CDrawerCardsLaw_law_r8368_31570c.kOf s n c = k := by
    unfold Jvm.Pilot.CDrawerCardsLaw_law_r8368_31570c.kOf
    rw [e, nI_clamp (by omega)]
  rw [ek]
  exact ⟨e, hk, hkc, e1, e2⟩
