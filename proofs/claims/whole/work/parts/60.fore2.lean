/-! what is foretold, by the class's own road -/
theorem gh {t T : Nat → Int32} (h : ∀ j, (j < 5 ∨ 13 ≤ j) → T j = t j) : t 1 = T 1 ∧ t 2 = T 2 ∧ t 3 = T 3 ∧ t 0 = T 0 ∧ (fun j => t (13 + j)) = (fun j => T (13 + j)) ∧ (fun j => t (21 + j)) = (fun j => T (21 + j)) ∧ (fun j => t (29 + j)) = (fun j => T (29 + j)) :=
  ⟨(h 1 (by omega)).symm, (h 2 (by omega)).symm, (h 3 (by omega)).symm, (h 0 (by omega)).symm, funext (fun j => (h _ (by omega)).symm), funext (fun j => (h _ (by omega)).symm), funext (fun j => (h _ (by omega)).symm)⟩
theorem rodN_gh (t : Nat → Int32) (x : Int32) : ∀ n, n ≤ 8 → ∀ j, (j < 5 ∨ 13 ≤ j) → rodN t x n j = t j
  | 0, _, _, _ => rfl
  | n + 1, hn, j, hj => by rw [rodN, pk_un (by omega)]; exact rodN_gh t x n (by omega) j hj
theorem bit01' : ∀ x, x < 256 → ∀ o, o < 8 → ((nI x >>> (nI o &&& 31)) &&& nI 1 = 0 ∨ (nI x >>> (nI o &&& 31)) &&& nI 1 = nI 1) := by decide +kernel
theorem bit_y {x o : Nat} (hx : x < 256) (ho : o < 8) (h : ¬ (nI x >>> (nI o &&& 31)) &&& nI 1 = 0) : (nI x >>> (nI o &&& 31)) &&& nI 1 = nI 1 := (bit01' x hx o ho).resolve_left h
theorem bit_n {x o : Nat} (h : (nI x >>> (nI o &&& 31)) &&& nI 1 = 0) : ¬ (nI x >>> (nI o &&& 31)) &&& nI 1 = nI 1 := by rw [h]; decide
/-- what the sorts say while rods are put on -/
abbrev rdI (kd : Nat → Nat) (S : Nat → Option Nat) (t : Nat → Int32) (x n i : Nat) : Prop := ∀ j, j < n → ∃ k, 1 ≤ k ∧ k ≤ 5 ∧ rodN t (nI x) i (5 + j) = nI k ∧ S j = some (kd k)
theorem rd_y {kd : Nat → Nat} {S : Nat → Option Nat} {t : Nat → Int32} {x n i : Nat} (h : rdI kd S t x n i) (hx : x < 256) (hi : i < n) (hn : n ≤ 8) (hb : ¬ (nI x >>> (nI i &&& 31)) &&& nI 1 = 0) : rdI kd (va_up S i (some (kd 4))) t x n (i + 1) := fun j hj => by
  rw [rodN, if_pos (bit_y hx (by omega) hb)]
  by_cases e : j = i
  · subst e; exact ⟨4, by decide, by decide, pk_us, by simp [va_up]⟩
  · obtain ⟨k, h1, h2, h3, h4⟩ := h j hj
    refine ⟨k, h1, h2, by rw [pk_un (by omega)]; exact h3, ?_⟩
    simp only [va_up, if_neg e]; exact h4
theorem rd_n {kd : Nat → Nat} {S : Nat → Option Nat} {t : Nat → Int32} {x n i : Nat} (h : rdI kd S t x n i) (hi : i < n) (hb : (nI x >>> (nI i &&& 31)) &&& nI 1 = 0) : rdI kd S t x n (i + 1) := fun j hj => by
  rw [rodN, if_neg (bit_n hb)]
  obtain ⟨k, h1, h2, h3, h4⟩ := h j hj
  refine ⟨k, h1, h2, ?_, h4⟩
  by_cases e : j = i
  · subst e; rw [pk_us]; exact h3
  · rw [pk_un (by omega)]; exact h3
def rodC (s : Nat → Int32) (n c : Nat) (d : Int32) (m : Nat) : Nat → Int32
  | 0 => -1000000
  | i + 1 => if rodC s n c d m i = -1000000 ∨ ¬ bitsN (rodC s n c d m i) 8 ≤ bitsN (nI i) 8 then (if pnsN (rodN s (nI i) n) n m (21 + c) = d then nI i else rodC s n c d m i) else rodC s n c d m i
def fwF (b : Int32) : Int32 := if b = -1000000 then nI 9 else bitsN b 8
theorem bits8 : ∀ i, i < 256 → ¬ nI 9 ≤ bitsN (nI i) 8 := by decide +kernel
theorem none_ne : ∀ i, i < 256 → ¬ nI i = -1000000 := by decide +kernel
theorem rodC_n {s : Nat → Int32} {n c : Nat} {d : Int32} {m i : Nat} (hi : i < 256) (h : fwF (rodC s n c d m i) ≤ bitsN (nI i) 8) : rodC s n c d m (i + 1) = rodC s n c d m i := by
  rw [rodC, if_neg]
  rintro (q | q)
  · rw [fwF, if_pos q] at h; exact bits8 i hi h
  · rw [fwF] at h
    split at h
    · exact bits8 i hi h
    · exact q h
theorem rodC_c {s : Nat → Int32} {n c : Nat} {d : Int32} {m i : Nat} (h : ¬ fwF (rodC s n c d m i) ≤ bitsN (nI i) 8) : rodC s n c d m (i + 1) = if pnsN (rodN s (nI i) n) n m (21 + c) = d then nI i else rodC s n c d m i := by
  rw [rodC, if_pos]
  by_cases q : rodC s n c d m i = -1000000
  · exact Or.inl q
  · rw [fwF, if_neg q] at h; exact Or.inr h
theorem fwF_at {i : Nat} (hi : i < 256) : fwF (nI i) = bitsN (nI i) 8 := if_neg (none_ne i hi)
/-! looks into drawers -/
def lk1 (n : Nat) (s f : Nat → Int32) (k : Nat) : Nat → (Nat → Int32)
  | 0 => f
  | d + 1 => upd (lk1 n s f k d) (k * 6 + d) (cardsN s (nI d) n)
def lkO (t : Nat → Int32) (n dr : Nat) (f : Nat → Int32) : Nat → (Nat → Int32)
  | 0 => f
  | k + 1 => lk1 n (pnsN t n k) (lkO t n dr f k) k dr
theorem lk1_at (n : Nat) (s f : Nat → Int32) (k : Nat) {j : Nat} : ∀ d, d ≤ 6 → lk1 n s f k d j = if k * 6 ≤ j ∧ j < k * 6 + d then cardsN s (nI (j - k * 6)) n else f j
  | 0, _ => by rw [lk1, if_neg (by omega)]
  | d + 1, hd => by
    rw [lk1]
    by_cases e : j = k * 6 + d
    · subst e; rw [pk_us, if_pos (by omega)]; congr 2; omega
    · rw [pk_un e, lk1_at n s f k d (by omega)]
      have : (k * 6 ≤ j ∧ j < k * 6 + (d + 1)) ↔ (k * 6 ≤ j ∧ j < k * 6 + d) := by omega
      simp only [this]
theorem lkO_at (t : Nat → Int32) {n dr : Nat} (hd : dr ≤ 6) (f : Nat → Int32) {k d : Nat} (h : d < dr) : ∀ m, k < m → lkO t n dr f m (k * 6 + d) = cardsN (pnsN t n k) (nI d) n
  | 0, hk => absurd hk (by omega)
  | m + 1, hk => by
    rw [lkO, lk1_at _ _ _ _ _ (by omega)]
    by_cases e : k = m
    · subst e; rw [if_pos (by omega)]; congr 2; omega
    · rw [if_neg (by omega)]; exact lkO_at t hd f h m (by omega)
def seC (f : Nat → Int32) (dr m code : Nat) : Nat → Int32
  | 0 => nI 0
  | j + 1 => seC f dr m code j ||| f ((m - 1 - j) * 6 + code / dr ^ j % dr)
def tfC (dr code : Nat) : Nat → Nat
  | 0 => 0
  | j + 1 => tfC dr code j + code / dr ^ j % dr * 10 ^ j
theorem div_s (c d j : Nat) : c / d ^ j / d = c / d ^ (j + 1) := by rw [Nat.div_div_eq_div_mul, Nat.pow_succ]
theorem div_le (c d : Nat) : c / d ≤ c := Nat.div_le_self c d
def tourC (f : Nat → Int32) (dr m : Nat) : Nat → Int32 × Nat
  | 0 => (-1, 0)
  | c + 1 => if ¬ bitsN (seC f dr m c m) 8 ≤ (tourC f dr m c).1 then (bitsN (seC f dr m c m) 8, c) else tourC f dr m c
theorem tourC_le (f : Nat → Int32) (dr m : Nat) : ∀ c, (tourC f dr m c).2 ≤ c
  | 0 => Nat.le_refl 0
  | c + 1 => by
    have := tourC_le f dr m c
    rw [tourC]; split
    · show c ≤ c + 1; omega
    · omega
/-- a set of eight -/
def By (x : Int32) : Prop := ∃ k, k < 256 ∧ x = nI k
theorem By.or {x y : Int32} (hx : By x) (hy : By y) : By (x ||| y) := by
  obtain ⟨a, ha, rfl⟩ := hx
  obtain ⟨b, hb, rfl⟩ := hy
  exact ⟨a ||| b, Nat.or_lt_two_pow (n := 8) ha hb, fa_or a b⟩
theorem By.z : By (nI 0) := ⟨0, by decide, rfl⟩
theorem By.one {i : Nat} (h : i < 8) : By (nI 1 <<< (nI i &&& 31)) := ⟨2 ^ i, Nat.pow_lt_pow_right (by decide) h, shl1 (by omega)⟩
theorem By.bits {x : Int32} (h : By x) : bcF x = bitsN x 8 := by obtain ⟨k, hk, rfl⟩ := h; exact bcF_bits k hk
theorem By.cards (s : Nat → Int32) (d : Int32) : ∀ n, n ≤ 8 → By (cardsN s d n)
  | 0, _ => By.z
  | n + 1, h => by
    rw [cardsN]
    refine (By.cards s d n (by omega)).or ?_
    split
    · exact By.one (by omega)
    · exact By.z
theorem By.mt (s : Nat → Int32) (m : Nat) : ∀ n, n ≤ 8 → By (mtF s m n)
  | 0, _ => By.z
  | n + 1, h => by
    rw [mtF]
    split
    · exact (By.mt s m n (by omega)).or (By.one (by omega))
    · exact By.mt s m n (by omega)
theorem By.se {f : Nat → Int32} {dr m : Nat} (hd : 0 < dr) (hf : ∀ k d, k < m → d < dr → By (f (k * 6 + d))) (code : Nat) : ∀ j, j ≤ m → By (seC f dr m code j)
  | 0, _ => By.z
  | j + 1, h => (By.se hd hf code j (by omega)).or (hf _ _ (by omega) (Nat.mod_lt _ hd))
theorem By.lk (t : Nat → Int32) {n dr m : Nat} (hn : n ≤ 8) (hd : dr ≤ 6) (f : Nat → Int32) : ∀ k d, k < m → d < dr → By (lkO t n dr f m (k * 6 + d)) := fun k d hk h => by
  rw [lkO_at t hd f h m hk]; exact By.cards _ _ n hn
/-! what fits -/
def soF (s : Nat → Int32) (n c : Nat) (g : Nat → Int32) : Nat → Nat → Bool
  | 0, _ => true
  | m + 1, k => decide (pnsN s n (k + 1) (21 + c) = g k) && soF s n c g m (k + 1)
theorem soF_at (s : Nat → Int32) (n c : Nat) (g : Nat → Int32) {m k : Nat} (h : k < m) : soF s n c g (m - k) k = (decide (pnsN s n (k + 1) (21 + c) = g k) && soF s n c g (m - (k + 1)) (k + 1)) := by
  rw [show m - k = (m - (k + 1)) + 1 by omega, soF]
abbrev fiOk (c dr ww x : Nat) : Prop := (ww = 0 ∧ 1 ≤ x ∧ x ≤ 5) ∨ (ww = 1 ∧ x < 8 ∧ x ≠ c) ∨ (ww = 2 ∧ 0 < x) ∨ (ww = 3 ∧ x < dr)
def fiS (s : Nat → Int32) (n c ww x : Nat) : Nat → Int32 :=
  if ww = 0 then upd s (5 + c) (nI x) else if ww = 1 then upd s (13 + c) (nI x) else if ww = 2 then upd s 2 (nI x) else if s (21 + c) = nI x then s else stS s n c (nI x) (-1000000)
def fiN (s : Nat → Int32) (n c dr : Nat) (g : Nat → Int32) (m ww : Nat) : Nat → Int32
  | 0 => nI 0
  | x + 1 => if fiOk c dr ww x ∧ soF (fiS s n c ww x) n c g m 0 = true then fiN s n c dr g m ww x ||| (nI 1 <<< (nI x &&& 31)) else fiN s n c dr g m ww x
/-! odds -/
def bN (x : Nat) : Nat → Nat
  | 0 => 0
  | k + 1 => bN x k + (if x.testBit k then 1 else 0)
theorem bcF_bN : ∀ x, x < 256 → bcF (nI x) = nI (bN x 8) := by decide +kernel
theorem bN_le' : ∀ n, n < 9 → ∀ x, x < 2 ^ n → bN x 8 ≤ n := by decide +kernel
theorem bN_le {n x : Nat} (hn : n ≤ 8) (h : x < 2 ^ n) : bN x 8 ≤ n := bN_le' n (by omega) x h
def wgN (t n k : Nat) : Nat := t ^ k * (10 - t) ^ (n - k)
def upC (s : Nat → Int32) (n c : Nat) (d : Int32) (t : Nat) : Nat → Nat
  | 0 => 0
  | i + 1 => upC s n c d t i + (if pnS s n (nI i) (21 + c) = d then wgN t n (bN i 8) else 0)
def sumC (t n : Nat) : Nat → Nat
  | 0 => 0
  | i + 1 => sumC t n i + wgN t n (bN i 8)
theorem sumC_all : ∀ n, n < 9 → ∀ t, t < 11 → sumC t n (2 ^ n) = 10 ^ n := by decide +kernel
theorem upC_le (s : Nat → Int32) (n c : Nat) (d : Int32) (t : Nat) : ∀ i, upC s n c d t i ≤ sumC t n i
  | 0 => Nat.le_refl 0
  | i + 1 => by
    have := upC_le s n c d t i
    rw [upC, sumC]; split <;> omega
theorem sumC_mono (t n : Nat) : ∀ i j, i ≤ j → sumC t n i ≤ sumC t n j := by
  intro i j h
  induction j with
  | zero => rw [show i = 0 by omega]; exact Nat.le_refl _
  | succ j ih =>
    by_cases e : i = j + 1
    · rw [e]; exact Nat.le_refl _
    · have := ih (by omega)
      rw [sumC]; omega
theorem upC_bd (s : Nat → Int32) {n c t i : Nat} (d : Int32) (hn : n ≤ 8) (ht : t ≤ 10) (hi : i ≤ 2 ^ n) : upC s n c d t i ≤ 100000000 := by
  have h1 := upC_le s n c d t i
  have h2 := sumC_mono t n i (2 ^ n) hi
  rw [sumC_all n (by omega) t (by omega)] at h2
  have h3 : 10 ^ n ≤ 10 ^ 8 := Nat.pow_le_pow_right (by decide) hn
  omega
def eg : Nat → Nat → Nat → Nat
  | 0, a, _ => a
  | f + 1, a, b => if b = 0 then a else eg f b (a % b)
theorem eg_gcd : ∀ j f a b, 2 * j + 1 ≤ f → b < 2 ^ j → eg f a b = Nat.gcd a b
  | 0, f, a, b, hf, hb => by
    obtain ⟨g, rfl⟩ : ∃ g, f = g + 1 := ⟨f - 1, by omega⟩
    have : b = 0 := by simpa using hb
    subst this; rw [eg, if_pos rfl, Nat.gcd_zero_right]
  | j + 1, f, a, b, hf, hb => by
    obtain ⟨g, rfl⟩ : ∃ g, f = g + 2 := ⟨f - 2, by omega⟩
    rw [eg]
    split
    · rename_i h; subst h; rw [Nat.gcd_zero_right]
    · rename_i h
      rw [eg]
      split
      · rename_i h2
        rw [Nat.gcd_comm, Nat.gcd_rec, h2, Nat.gcd_zero_left]
      · rename_i h2
        have l1 : a % b < b := Nat.mod_lt _ (by omega)
        have l2 : b % (a % b) < 2 ^ j := by
          have p : 2 ^ (j + 1) = 2 * 2 ^ j := by rw [Nat.pow_succ]; omega
          have q1 := Nat.mod_lt b (show 0 < a % b by omega)
          rcases Nat.lt_or_ge (a % b) (2 ^ j) with q | q
          · omega
          · have : b % (a % b) = b - a % b := by
              rw [Nat.mod_eq_sub_mod (by omega), Nat.mod_eq_of_lt (by omega)]
            omega
        rw [eg_gcd j g _ _ (by omega) l2, gcd_st, gcd_st]
theorem eg_100 {a b : Nat} (hb : b < 2 ^ 27) : eg 100 a b = Nat.gcd a b := eg_gcd 27 100 a b (by decide) hb
theorem eg_at (a b : Nat) {k : Nat} (h : k < 100) : eg (100 - k) a b = if b = 0 then a else eg (100 - (k + 1)) b (a % b) := by
  rw [show 100 - k = (100 - (k + 1)) + 1 by omega, eg]
/-! years -/
def dpC (s : Nat → Int32) (n c d : Nat) : Nat → Int32 := if s (21 + c) = nI d ∨ ¬ s 2 ≤ fillN s (nI d) n then stS s n c (nI d) (-1000000) else s
def drC (s : Nat → Int32) (n dr x : Nat) : Nat → (Nat → Int32)
  | 0 => s
  | k + 1 => pnS (dpC (drC s n dr x k) n (drX x (k + 1) % n) (drX x (k + 1) % dr)) n (nI 0)
def dmC (s : Nat → Int32) (n dr x : Nat) : Nat → Int32
  | 0 => nI 0
  | k + 1 => dmC s n dr x k + bitsN (mtF (drC s n dr x (k + 1)) n n) 8
theorem dpC_lo (s : Nat → Int32) (n c d : Nat) {j : Nat} (h : j < 21) : dpC s n c d j = s j := by
  rw [dpC]; split
  · exact stS_lo _ _ _ _ _ h
  · rfl
theorem kW_at3 (kd : Nat → Nat) (x y z : Nat × va_E) (rest : va_W) : ∀ k, k < 5 → (x :: y :: z :: (kW kd ++ rest))[3 + k]? = (kW kd)[k]? := by
  intro k hk
  rcases (show k = 0 ∨ k = 1 ∨ k = 2 ∨ k = 3 ∨ k = 4 by omega) with rfl | rfl | rfl | rfl | rfl <;> rfl
theorem mx1 {m : Nat} (h : 1 ≤ m) (h2 : m ≤ 6) : (if nI 1 < nI m then nI m else nI 1) = nI m := by
  split
  · rfl
  · rename_i q
    have : m = 1 := by
      rcases Nat.lt_or_ge 1 m with e | e
      · exact absurd ((nIlt (by omega) (by omega)).mpr e) q
      · omega
    rw [this]
theorem powb {dr m : Nat} (h : dr ≤ 6) (hm : m ≤ 4) : dr ^ m ≤ 1296 := Nat.le_trans (Nat.pow_le_pow_left h m) (pow6_le hm)
theorem hoE {t tl : Nat → Int32} {v : Int32} (e : tl = upd t 2 v) : t 1 = tl 1 ∧ v = tl 2 ∧ t 3 = tl 3 ∧ t 0 = tl 0 ∧ (fun j => t (13 + j)) = (fun j => tl (13 + j)) ∧ (fun j => t (21 + j)) = (fun j => tl (21 + j)) ∧ (fun j => t (29 + j)) = (fun j => tl (29 + j)) := by
  subst e
  exact ⟨by rw [pk_un (by omega)], by rw [pk_us], by rw [pk_un (by omega)], by rw [pk_un (by omega)], by funext j; rw [pk_un (by omega)], by funext j; rw [pk_un (by omega)], by funext j; rw [pk_un (by omega)]⟩
theorem isCx {dr x : Nat} (hd : dr ≤ 1000) (hx : x < 1000) : isC dr (nI x) ↔ x < dr := by
  constructor
  · intro h
    obtain ⟨j, h1, h2⟩ := isC_nat hd h
    rw [nIe (by omega) (by omega)] at h2
    omega
  · intro h
    exact ⟨nI_pos (by omega), nI_ge h (by omega)⟩
theorem mxL {g : Nat} (h : 0 < g) (h2 : g < 2 ^ 31) : (if lN g < lN 1 then lN 1 else lN g) = lN g := if_neg (fun q => by
  rw [Int64.lt_iff_toInt_lt, lN_toInt h2, lN_toInt (by decide)] at q; omega)
theorem mxG {a b : Nat} (hb : 0 < b) (hb2 : b ≤ 100000000) : (if lN (eg 100 a b) < lN 1 then lN 1 else lN (eg 100 a b)) = lN (Nat.gcd a b) := by
  rw [eg_100 (by omega)]
  exact mxL (Nat.gcd_pos_of_pos_right a hb) (by have := Nat.gcd_le_right a hb; omega)
theorem srts.up {kd : Nat → Nat} {S : Nat → Option Nat} {t : Nat → Int32} {n c x : Nat} (h : srts kd S t n) (h1 : 1 ≤ x) (h5 : x ≤ 5) : srts kd (va_up S c (some (kd x))) (upd t (5 + c) (nI x)) n := fun j hj => by
  by_cases e : j = c
  · subst e; exact ⟨x, h1, h5, pk_us, by simp [va_up]⟩
  · obtain ⟨k, q1, q2, q3, q4⟩ := h j hj
    refine ⟨k, q1, q2, by rw [pk_un (by omega)]; exact q3, ?_⟩
    simp only [va_up, if_neg e]; exact q4
theorem srts.of {kd : Nat → Nat} {S : Nat → Option Nat} {t t' : Nat → Int32} {n : Nat} (h : srts kd S t n) (e : ∀ j, j < n → t' (5 + j) = t (5 + j)) : srts kd S t' n := fun j hj => by rw [e j hj]; exact h j hj
theorem fiS_lo {s : Nat → Int32} {n c x j : Nat} (h : j < 21) : fiS s n c 3 x j = s j := by
  rw [fiS, if_neg (by decide), if_neg (by decide), if_neg (by decide)]
  split
  · rfl
  · exact stS_lo _ _ _ _ _ h
theorem nI_nz {d : Nat} (h : 0 < d) (h2 : d < 1000) : nI d ≠ 0 := fun q => by
  have := (nIe (a := d) (b := 0) (by omega) (by omega)).mp q; omega
