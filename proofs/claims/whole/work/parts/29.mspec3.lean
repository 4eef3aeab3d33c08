def asNb (s t : Nat → Int32) : Nat → Bool
  | 0 => true
  | i + 1 => asNb s t i && (decide (s (21 + i) = t (21 + i)) && decide (s (29 + i) = t (29 + i)))
theorem asb0 {s t : Nat → Int32} {i : Nat} {x : Int32} (h : x = bI (asNb s t i = true)) (h0 : x = 0) : nI 0 = bI (asNb s t (i + 1) = true) := by
  have h1 := bI_0.mp (h.symm.trans h0)
  rw [bI_f (by rw [asNb]; simp [h1])]; rfl
theorem asb1 {s t : Nat → Int32} {i : Nat} (h : ¬ s (21 + i) = t (21 + i)) : nI 0 = bI (asNb s t (i + 1) = true) := by
  rw [bI_f (by rw [asNb]; simp [h])]; rfl
theorem asb2 {s t : Nat → Int32} {i : Nat} (h : ¬ s (29 + i) = t (29 + i)) : nI 0 = bI (asNb s t (i + 1) = true) := by
  rw [bI_f (by rw [asNb]; simp [h])]; rfl
theorem asb3 {s t : Nat → Int32} {i : Nat} {x : Int32} (h : x = bI (asNb s t i = true)) (h0 : ¬ x = 0) (h1 : s (21 + i) = t (21 + i)) (h2 : s (29 + i) = t (29 + i)) : nI 1 = bI (asNb s t (i + 1) = true) := by
  have h3 : asNb s t i = true := Decidable.byContradiction (fun q => h0 (h.trans (bI_f q)))
  rw [bI_t (by rw [asNb]; simp [h1, h2, h3])]; rfl
def stilN (s : Nat → Int32) (n : Nat) : Nat → Nat → Int32
  | 0, _ => -1000000
  | f + 1, k => if asNb (nightsS s n (k + 1)) (nightsS s n k) n = true then nI k else stilN s n f (k + 1)
def rounN (s : Nat → Int32) (n : Nat) : Nat → Nat → Int32
  | 0, _ => -1000000
  | f + 1, k => if asNb (nightsS s n (k + 1)) s n = true then nI (k + 1) else rounN s n f (k + 1)
def mStil (A : Nat → Nat → Int32) (n : Nat) (w : Int32) : Int32 :=
  if ¬ A 12 4 = nI 1 then -1000002
  else if ¬ (nI 0 ≤ w ∧ w ≤ nI 1) then -1000001
  else if w = 0 then stilN (A 12) n 201 0 else rounN (A 12) n 200 0
theorem foundN_at (s : Nat → Int32) (n c : Nat) (d : Int32) {k : Nat} (hk : k ≤ 60) : foundN s n c d (61 - k) k = if nightsS s n k (21 + c) = d then nI k else foundN s n c d (61 - (k + 1)) (k + 1) := by
  rw [show 61 - k = (61 - (k + 1)) + 1 by omega, foundN]
theorem stilN_at (s : Nat → Int32) (n : Nat) {k : Nat} (hk : k ≤ 200) : stilN s n (201 - k) k = if asNb (nightsS s n (k + 1)) (nightsS s n k) n = true then nI k else stilN s n (201 - (k + 1)) (k + 1) := by
  rw [show 201 - k = (201 - (k + 1)) + 1 by omega, stilN]
theorem rounN_at (s : Nat → Int32) (n : Nat) {k : Nat} (hk : k < 200) : rounN s n (200 - k) k = if asNb (nightsS s n (k + 1)) s n = true then nI (k + 1) else rounN s n (200 - (k + 1)) (k + 1) := by
  rw [show 200 - k = (200 - (k + 1)) + 1 by omega, rounN]
/-! a part of a row -/
abbrev isPrt (i n m : Int32) : Prop := 0 ≤ i ∧ 0 ≤ n ∧ n ≤ m ∧ i ≤ m - n
theorem isPrt_nat {i n : Int32} {z : Nat} (hz : z ≤ 40) (h : isPrt i n (nI z)) : ∃ i' n' : Nat, i' + n' ≤ z ∧ i = nI i' ∧ n = nI n' := by
  obtain ⟨h1, h2, h3, h4⟩ := h
  obtain ⟨n', hn, rfl⟩ := rng (m := z) (by omega) ⟨h2, h3⟩
  rw [pk_sub hn] at h4
  obtain ⟨i', hi, rfl⟩ := rng (m := z - n') (by omega) ⟨h1, h4⟩
  exact ⟨i', n', by omega, rfl, rfl⟩
theorem isPrt_iff {i n z : Nat} (hi : i < 100000) (hn : n < 100000) (hz : z ≤ 40) : isPrt (nI i) (nI n) (nI z) ↔ i + n ≤ z := by
  constructor
  · intro h
    obtain ⟨i', n', h1, h2, h3⟩ := isPrt_nat hz h
    rw [nIe (by omega) (by omega)] at h2 h3
    omega
  · intro h
    refine ⟨nI_pos' (by omega), nI_pos' (by omega), (nIle (by omega) (by omega)).mpr (by omega), ?_⟩
    rw [pk_sub (by omega), nIle (by omega) (by omega)]; omega
def cpyB (f : Nat → Int32) (a b n k : Nat) : Nat → Int32 := fun x => if b + n ≤ x + k ∧ x < b + n then f (a + (x - b)) else f x
theorem cpyF_0 (f : Nat → Int32) (a b : Nat) : cpyF f a b 0 = f := by
  funext x; simp only [cpyF]; rw [if_neg (by omega)]
theorem cpyB_0 (f : Nat → Int32) (a b n : Nat) : cpyB f a b n 0 = f := by
  funext x; simp only [cpyB]; rw [if_neg (by omega)]
theorem cpyF_s (f : Nat → Int32) {a b k : Nat} (h : b ≤ a ∨ a + k < b) : upd (cpyF f a b k) (b + k) (cpyF f a b k (a + k)) = cpyF f a b (k + 1) := by
  funext x
  by_cases e : x = b + k
  · subst e; rw [pk_us]; simp only [cpyF]; rw [if_neg (by omega), if_pos (by omega)]; congr 1; omega
  · rw [pk_un e]; simp only [cpyF]
    have : (b ≤ x ∧ x < b + (k + 1)) ↔ (b ≤ x ∧ x < b + k) := by omega
    simp only [this]
theorem cpyB_s (f : Nat → Int32) {a b n k : Nat} (h : a < b) (hk : k < n) : upd (cpyB f a b n k) (b + (n - 1 - k)) (cpyB f a b n k (a + (n - 1 - k))) = cpyB f a b n (k + 1) := by
  funext x
  by_cases e : x = b + (n - 1 - k)
  · subst e; rw [pk_us]; simp only [cpyB]; rw [if_neg (by omega), if_pos (by omega)]; congr 1; omega
  · rw [pk_un e]; simp only [cpyB]
    have : (b + n ≤ x + (k + 1) ∧ x < b + n) ↔ (b + n ≤ x + k ∧ x < b + n) := by omega
    simp only [this]
theorem cpyB_n (f : Nat → Int32) (a b n : Nat) : cpyB f a b n n = cpyF f a b n := by
  funext x; simp only [cpyB, cpyF]
  have : (b + n ≤ x + n ∧ x < b + n) ↔ (b ≤ x ∧ x < b + n) := by omega
  simp only [this]
def mCopy (v : Nat → Int32) (A : Nat → Nat → Int32) (x i y j n : Int32) : Int32 × MS :=
  if ¬ (nI 0 ≤ x ∧ x ≤ nI 7) ∨ ¬ (nI 0 ≤ y ∧ y ≤ nI 7) then (-1000001, v, A)
  else if A 0 (cl x) < 0 ∨ ¬ 0 ≤ A 0 (cl y) then (-1000010 - nI 1, upd v 3 (nI 1), A)
  else if ¬ A 0 (cl x) = A 0 (cl y) then (-1000010 - nI 5, upd v 3 (nI 5), A)
  else if ¬ isPrt i n (A 1 (cl x)) ∨ ¬ isPrt j n (A 1 (cl y)) then (-1000010 - nI 2, upd v 3 (nI 2), A)
  else (n, upd v 3 (nI 0), va_up A 2 (cpyF (A 2) (40 * cl x + cl i) (40 * cl y + cl j) (cl n)))
theorem mStil_0 {A : Nat → Nat → Int32} {n : Nat} (h4 : A 12 4 = nI 1) : mStil A n (nI 0) = stilN (A 12) n 201 0 := by
  rw [mStil, if_neg (fun h => h h4), if_neg (by decide), if_pos (by decide)]
theorem mStil_1 {A : Nat → Nat → Int32} {n : Nat} (h4 : A 12 4 = nI 1) : mStil A n (nI 1) = rounN (A 12) n 200 0 := by
  rw [mStil, if_neg (fun h => h h4), if_neg (by decide), if_neg (by decide)]
abbrev stE (s : Nat → Int32) (n ww j : Nat) : Prop := (ww = 0 → stilN s n 201 0 = stilN s n (201 - j) j) ∧ (ww = 1 → rounN s n 200 0 = rounN s n (200 - j) j)
theorem still_back {s : Nat → Int32} {n ww j : Nat} (h : stE s n ww j) (hj : j ≤ 200) (h0 : ww = 0 → ¬ asNb (nightsS s n (j + 1)) (nightsS s n j) n = true) (h1 : ww = 1 → j < 200 → ¬ asNb (nightsS s n (j + 1)) s n = true) : stE s n ww (j + 1) := by
  refine ⟨fun z => ?_, fun z => ?_⟩
  · rw [h.1 z, stilN_at _ _ hj, if_neg (h0 z)]
  · rw [h.2 z]
    rcases Nat.lt_or_ge j 200 with q | q
    · rw [rounN_at _ _ q, if_neg (h1 z q)]
    · rw [show 200 - j = 0 by omega, show 200 - (j + 1) = 0 by omega]; rfl
theorem still_r0 {A : Nat → Nat → Int32} {n ww j : Nat} (h : stE (A 12) n ww j) (h4 : A 12 4 = nI 1) (hz : ww = 0) (hj : j ≤ 200) (h0 : asNb (nightsS (A 12) n (j + 1)) (nightsS (A 12) n j) n = true) : nI j = mStil A n (nI ww) := by
  rw [hz, mStil_0 h4, h.1 hz, stilN_at _ _ hj, if_pos h0]
theorem still_r1 {A : Nat → Nat → Int32} {n ww j : Nat} (h : stE (A 12) n ww j) (h4 : A 12 4 = nI 1) (hz : ww = 1) (hj : j < 200) (h0 : asNb (nightsS (A 12) n (j + 1)) (A 12) n = true) : nI (j + 1) = mStil A n (nI ww) := by
  rw [hz, mStil_1 h4, h.2 hz, rounN_at _ _ hj, if_pos h0]
theorem still_rN {A : Nat → Nat → Int32} {n ww j : Nat} (h : stE (A 12) n ww j) (h4 : A 12 4 = nI 1) (hz : ww ≤ 1) (hj : j = 201) : (-1000000 : Int32) = mStil A n (nI ww) := by
  subst hj
  rcases (show ww = 0 ∨ ww = 1 by omega) with e | e
  · rw [e, mStil_0 h4, h.1 e]; rfl
  · rw [e, mStil_1 h4, h.2 e]; rfl
