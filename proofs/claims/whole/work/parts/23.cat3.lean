theorem Cat.lo {s t : Nat → Int32} {n : Nat} (hC : Cat s n) (h : ∀ j, 1 ≤ j → j < 37 → t j = s j) : Cat t n := by
  obtain ⟨h3, hn, hL, hT, i, q, h1, hP⟩ := hC
  refine ⟨by rw [h 3 (by omega) (by omega)]; exact h3, hn, fun k hk => ?_, fun k hk => ?_, i, q, fun k hk => ?_, hP⟩
  · rw [h _ (by omega) (by omega)]; exact hL k hk
  · rw [h _ (by omega) (by omega)]; exact hT k hk
  · rw [h _ (by omega) (by omega), h _ (by omega) (by omega)]; exact h1 k hk
theorem Cat.drawer {s : Nat → Int32} {n c : Nat} (hC : Cat s n) (hc : c < n) : ∃ d, d ≤ 7 ∧ s (21 + c) = nI d := by
  obtain ⟨h3, hn, hL, hT, i, q, h1, hP⟩ := hC
  exact ⟨i c, (h1 c hc).2.2, (h1 c hc).1⟩
theorem Cat.blank {s : Nat → Int32} {n c : Nat} (hC : Cat s n) (hc : c < n) : Cat (blankS s n c) n := by
  rw [blankS]
  split
  · exact hC
  · rename_i h0
    obtain ⟨-, hk, hkc, e1, e2⟩ := hC.kOf hc h0
    generalize Jvm.Pilot.CDrawerCardsLaw_law_r8368_31570c.kOf s n c = k at *
    obtain ⟨h3, hn, hL, hT, i, q, h1, hP⟩ := hC
    have bq := PP_lt hP hc
    have q0 : 0 < q c := by
      rcases Nat.eq_zero_or_pos (q c) with e | e
      · rw [(h1 c hc).2.1, e] at h0; exact absurd (Int32.le_refl 0) h0
      · exact e
    have ei : i c = i k := (nIe (by have := (h1 c hc).2.2; omega) (by have := (h1 k hk).2.2; omega)).mp ((h1 c hc).1.symm.trans (e1.symm.trans (h1 k hk).1))
    have eq : q k = q c - 1 := by
      rw [(h1 c hc).2.1, (h1 k hk).2.1, pk_sub (by omega)] at e2
      exact (nIe (by have := PP_lt hP hk; omega) (by omega)).mp e2
    rw [pk_un (show 29 + c ≠ 29 + k by omega)]
    refine ⟨by rw [pk_un (by omega), pk_un (by omega)]; exact h3, hn, fun j hj => ?_, fun j hj => ?_, i, _, fun j hj => ?_, PP_swap hP hc hk ei⟩
    · rw [pk_un (by omega), pk_un (by omega)]; exact hL j hj
    · rw [pk_un (by omega), pk_un (by omega)]; exact hT j hj
    · refine ⟨by rw [pk_un (by omega), pk_un (by omega)]; exact (h1 j hj).1, ?_, (h1 j hj).2.2⟩
      by_cases z : j = c
      · subst z
        rw [pk_us, (h1 j hj).2.1, pk_sub (by omega)]; simp [eq]
      · by_cases z2 : j = k
        · subst z2
          rw [pk_un (by omega), pk_us, (h1 j hj).2.1, nI_add]
          simp only [if_neg z, if_true, eq]
          congr 1; omega
        · rw [pk_un (by omega), pk_un (by omega)]
          simp only [if_neg z, if_neg z2]
          exact (h1 j hj).2.1
theorem Cat.beside {s : Nat → Int32} {n c k : Nat} (hC : Cat s n) (hc : c < n) (hk : k < n) (h : ¬ s (21 + c) = s (21 + k)) : ∃ d, d ≤ 7 ∧ besideS s c k = nI d := by
  obtain ⟨a, ha, ea⟩ := hC.drawer hc
  obtain ⟨b, hb, eb⟩ := hC.drawer hk
  rw [ea, eb, nIe (by omega) (by omega)] at h
  rw [besideS, ea, eb]
  by_cases w : b ≤ a
  · rw [if_pos ((nIle (by omega) (by omega)).mpr w)]
    exact ⟨a - 1, by omega, by rw [pk_sub (by omega)]⟩
  · rw [if_neg (fun z => w ((nIle (by omega) (by omega)).mp z))]
    exact ⟨a + 1, by omega, by rw [nI_add]⟩
theorem Cat.free {s : Nat → Int32} {n c k : Nat} (hC : Cat s n) (hc : c < n) (hk : k < n) (hkc : k ≠ c) : Cat (freeS s n c k) n := by
  rw [freeS]
  split
  · exact hC.by hc hk hkc
  · rename_i h
    obtain ⟨d, hd, e⟩ := hC.beside hc hk h
    rw [e]
    split
    · exact hC
    · exact hC.behind hc hd
theorem Cat.turn {s : Nat → Int32} {n c k : Nat} (hC : Cat s n) (hc : c < n) (hkc : k ≠ c) : Cat (turnS s n c k) n := by
  rw [turnS]
  split
  · exact hC.blank hc
  · split
    · exact hC
    · rename_i h
      have hk : k < n := Nat.lt_of_not_le (fun w => h (Or.inr (Or.inl w)))
      split
      · exact hC.free hc hk hkc
      · split
        · exact hC
        · exact hC.by hc hk hkc
/-- whom card c likes, as a number -/
def lk (s : Nat → Int32) (c : Nat) : Nat := (s (13 + c)).toNatClampNeg
theorem Cat.lk {s : Nat → Int32} {n c : Nat} (hC : Cat s n) (hc : c < n) : s (13 + c) = nI (lk s c) ∧ lk s c ≤ 7 ∧ lk s c ≠ c := by
  obtain ⟨k, hk, e, hkc⟩ := hC.2.2.1 c hc
  have : Jvm.Pilot.CDrawerCardsLaw_law_r8368_31570c.lk s c = k := by rw [Jvm.Pilot.CDrawerCardsLaw_law_r8368_31570c.lk, e, nI_clamp (by omega)]
  rw [this]
  exact ⟨e, hk, hkc⟩
def nightN (s : Nat → Int32) (n : Nat) (a : Int32) : Nat → (Nat → Int32)
  | 0 => s
  | i + 1 => if (a >>> (nI i &&& 31)) &&& nI 1 = nI 1 then nightN s n a i else turnS (nightN s n a i) n i (lk (nightN s n a i) i)
def nightS (s : Nat → Int32) (n : Nat) (a : Int32) : Nat → Int32 := upd (nightN s n a n) 0 (nightN s n a n 0 + nI 1)
theorem Cat.nightN {s : Nat → Int32} {n : Nat} (hC : Cat s n) (a : Int32) : ∀ m, m ≤ n → Cat (nightN s n a m) n
  | 0, _ => hC
  | m + 1, hm => by
    have ih := hC.nightN a m (by omega)
    rw [Jvm.Pilot.CDrawerCardsLaw_law_r8368_31570c.nightN]
    split
    · exact ih
    · exact ih.turn (by omega) (ih.lk (by omega)).2.2
theorem Cat.night {s : Nat → Int32} {n : Nat} (hC : Cat s n) (a : Int32) : Cat (nightS s n a) n := (hC.nightN a n (Nat.le_refl n)).lo (fun j h1 _ => by rw [nightS, pk_un (by omega)])
def nightsS (s : Nat → Int32) (n : Nat) : Nat → (Nat → Int32)
  | 0 => s
  | k + 1 => nightS (nightsS s n k) n (nI 0)
theorem Cat.nights {s : Nat → Int32} {n : Nat} (hC : Cat s n) : ∀ k, Cat (nightsS s n k) n
  | 0 => hC
  | k + 1 => (hC.nights k).night (nI 0)
