/-! tours: codes by figures of six -/
def dig6 (c j : Nat) : Nat := c / 6 ^ j % 6
def okB (dr c : Nat) : Nat → Bool
  | 0 => true
  | j + 1 => okB dr c j && decide (dig6 c j < dr)
def setN (sv : Nat → Nat → Int32) (dr m c : Nat) : Nat → Int32
  | 0 => nI 0
  | j + 1 => setN sv dr m c j ||| (if okB dr c (j + 1) = true then sv (m - 1 - j) (dig6 c j) else nI 0)
def figT (c : Nat) : Nat → Nat
  | 0 => 0
  | j + 1 => figT c j + dig6 c j * 10 ^ j
def tourN (sv : Nat → Nat → Int32) (dr m : Nat) : Nat → Int32 × Nat
  | 0 => (-1, 0)
  | c + 1 => if okB dr c m = true ∧ ¬ bitsN (setN sv dr m c m) 8 ≤ (tourN sv dr m c).1 then (bitsN (setN sv dr m c m) 8, figT c m) else tourN sv dr m c
def svO (s : Nat → Int32) (n k d : Nat) : Int32 := cardsN (nightsS s n k) (nI d) n
def mTour (A : Nat → Nat → Int32) (n dr : Nat) (m w : Int32) : Int32 :=
  if ¬ A 12 4 = nI 1 then -1000002
  else if ¬ (nI 1 ≤ m ∧ m ≤ nI 4) ∨ ¬ (nI 0 ≤ w ∧ w ≤ nI 1) then -1000001
  else if w = 0 then (tourN (svO (A 12) n) dr (cl m) (6 ^ cl m)).1 else nI (tourN (svO (A 12) n) dr (cl m) (6 ^ cl m)).2
theorem isDr_iff {A : Nat → Nat → Int32} {dr x : Nat} (hd : A 12 1 = nI dr) (hd6 : dr ≤ 6) (hx : x < 6) : (nI 0 ≤ nI x ∧ nI x ≤ A 12 1 - nI 1) ↔ x < dr := by
  rw [hd]
  constructor
  · intro h
    obtain ⟨j, h1, h2⟩ := rng' (by omega) h
    rw [nIe (by omega) (by omega)] at h2
    omega
  · intro h
    rw [pk_sub (by omega), nIle (by omega) (by omega), nIle (by omega) (by omega)]
    omega
theorem sub1_lt {a : Nat} (ha : a < 1000) : nI a - nI 1 < 0 ↔ a = 0 := by
  constructor
  · intro h
    rcases Nat.eq_zero_or_pos a with q | q
    · exact q
    · rw [pk_sub q] at h
      exact absurd h (nI_pos (by omega))
  · intro h
    subst h; decide
theorem inc_m1 (x : Int32) : x + Int32.ofInt (-1) = x - nI 1 := by
  rw [Int32.sub_eq_add_neg]; rfl
theorem pow6_le {m : Nat} (h : m ≤ 4) : 6 ^ m ≤ 1296 := Nat.pow_le_pow_right (by decide) h
theorem dig6_0 (c : Nat) : c / 6 ^ 0 = c := by simp
theorem dig6_s (c j : Nat) : c / 6 ^ j / 6 = c / 6 ^ (j + 1) := by rw [Nat.div_div_eq_div_mul, Nat.pow_succ]
/-! what fits a row of drawers -/
def tkR (A : Nat → Nat → Int32) (k : Nat) (i n : Int32) : Int32 := if ¬ 0 ≤ A 0 k then -1000010 - nI 1 else if ¬ isPrt i n (A 1 k) then -1000010 - nI 2 else nI 0
def tkV (v : Nat → Int32) (A : Nat → Nat → Int32) (k : Nat) (i n : Int32) : Int32 := if ¬ 0 ≤ A 0 k then nI 1 else if ¬ isPrt i n (A 1 k) then nI 2 else v 3
def tkN (f g : Nat → Int32) (b : Nat) : Nat → (Nat → Int32)
  | 0 => f
  | k + 1 => upd (tkN f g b k) k (g (b + k))
theorem tkN_at (f g : Nat → Int32) (b : Nat) : ∀ m k, k < m → tkN f g b m k = g (b + k)
  | 0, _, h => absurd h (by omega)
  | m + 1, k, h => by
    rw [tkN]
    by_cases e : k = m
    · subst e; rw [pk_us]
    · rw [pk_un e]; exact tkN_at f g b m k (by omega)
/-- the card is in the drawers told, night by night -/
def soB (s : Nat → Int32) (n c : Nat) (g : Nat → Int32) : Nat → Nat → Bool
  | 0, _ => true
  | m + 1, k => decide (nightsS s n (k + 1) (21 + c) = g k) && soB s n c g m (k + 1)
theorem soB_at (s : Nat → Int32) (n c : Nat) (g : Nat → Int32) {m k : Nat} (h : k < m) : soB s n c g (m - k) k = (decide (nightsS s n (k + 1) (21 + c) = g k) && soB s n c g (m - (k + 1)) (k + 1)) := by
  rw [show m - k = (m - (k + 1)) + 1 by omega, soB]
def tkF (A : Nat → Nat → Int32) (k : Nat) (i n : Int32) : Nat → Int32 := if ¬ 0 ≤ A 0 k then A 22 else if ¬ isPrt i n (A 1 k) then A 22 else tkN (A 22) (A 2) (40 * k + cl i) (cl n)
theorem tk_ok {A : Nat → Nat → Int32} {k : Nat} {i n : Int32} (h : 0 ≤ tkR A k i n) : 0 ≤ A 0 k ∧ isPrt i n (A 1 k) := by
  rw [tkR] at h
  split at h
  · exact absurd h (by decide)
  · split at h
    · exact absurd h (by decide)
    · rename_i h1 h2
      exact ⟨Decidable.byContradiction h1, Decidable.byContradiction h2⟩
theorem soB_congr {s : Nat → Int32} {n c : Nat} {g g' : Nat → Int32} : ∀ m k, (∀ j, j < k + m → g j = g' j) → soB s n c g m k = soB s n c g' m k
  | 0, _, _ => rfl
  | m + 1, k, h => by rw [soB, soB, h k (by omega), soB_congr m (k + 1) (fun j hj => h j (by omega))]
theorem Cat.hold {s : Nat → Int32} {n : Nat} (hC : Cat s n) (x : Int32) : Cat (upd s 2 x) n := by
  obtain ⟨h3, hn, hL, hT, i, q, h, hP⟩ := hC
  refine ⟨by rw [pk_un (by omega)]; exact h3, hn, fun k hk => ?_, fun k hk => ?_, i, q, fun k hk => ?_, hP⟩
  · rw [pk_un (by omega)]; exact hL k hk
  · rw [pk_un (by omega)]; exact hT k hk
  · rw [pk_un (by omega), pk_un (by omega)]; exact h k hk
theorem Cat.like {s : Nat → Int32} {n c k : Nat} (hC : Cat s n) (hc : c < 8) (hk : k ≤ 7) (hkc : k ≠ c) : Cat (upd s (13 + c) (nI k)) n := by
  obtain ⟨h3, hn, hL, hT, i, q, h, hP⟩ := hC
  refine ⟨by rw [pk_un (by omega)]; exact h3, hn, fun j hj => ?_, fun j hj => ?_, i, q, fun j hj => ?_, hP⟩
  · by_cases e : j = c
    · subst e; exact ⟨k, hk, pk_us, hkc⟩
    · rw [pk_un (by omega)]; exact hL j hj
  · rw [pk_un (by omega)]; exact hT j hj
  · rw [pk_un (by omega), pk_un (by omega)]; exact h j hj
def fitS (s : Nat → Int32) (n c ww x : Nat) : Nat → Int32 :=
  if ww = 0 then upd s (5 + c) (nI x) else if ww = 1 then upd s (13 + c) (nI x) else if ww = 2 then upd s 2 (nI x) else if nI x = s (21 + c) then s else behindS s n c (nI x)
def fitB (s : Nat → Int32) (n c : Nat) (g : Nat → Int32) (m ww x : Nat) : Bool := !(decide (ww = 1) && decide (x = c)) && soB (fitS s n c ww x) n c g m 0
def fitN (s : Nat → Int32) (n c : Nat) (g : Nat → Int32) (m ww lo : Nat) : Nat → Int32
  | 0 => nI 0
  | i + 1 => fitN s n c g m ww lo i ||| (if fitB s n c g m ww (lo + i) = true then nI 1 <<< (nI (lo + i) &&& 31) else nI 0)
theorem fitN_congr {s : Nat → Int32} {n c : Nat} {g g' : Nat → Int32} {m ww lo : Nat} (h : ∀ j, j < m → g j = g' j) : ∀ i, fitN s n c g m ww lo i = fitN s n c g' m ww lo i
  | 0 => rfl
  | i + 1 => by rw [fitN, fitN, fitN_congr h i, fitB, fitB, soB_congr (g := g) (g' := g') m 0 (fun j hj => h j (by omega))]
def fitLo (ww : Nat) : Nat := if ww = 0 ∨ ww = 2 then 1 else 0
def fitCt (dr ww : Nat) : Nat := if ww = 0 then 5 else if ww = 1 then 8 else if ww = 2 then 8 else dr
def mFits (v : Nat → Int32) (A : Nat → Nat → Int32) (n dr : Nat) (x y i m w : Int32) : Int32 × (Nat → Int32) :=
  if noOne A x ∨ ¬ (nI 0 ≤ y ∧ y ≤ nI 7) ∨ ¬ (nI 1 ≤ m ∧ m ≤ nI 12) ∨ ¬ (nI 0 ≤ w ∧ w ≤ nI 3) then (-1000001, v)
  else if ¬ 0 ≤ tkR A (cl y) i m then (tkR A (cl y) i m, upd v 3 (tkV v A (cl y) i m))
  else (fitN (A 12) n (cl x) (fun k => A 2 (40 * cl y + cl i + k)) (cl m) (cl w) (fitLo (cl w)) (fitCt dr (cl w)), upd v 3 (nI 0))
theorem fitN_s {s : Nat → Int32} {n c : Nat} {g : Nat → Int32} {m ww lo i : Nat} {x : Int32} (e : x = fitN s n c g m ww lo i) : (fitB s n c g m ww (lo + i) = true → x ||| (nI 1 <<< (nI (lo + i) &&& 31)) = fitN s n c g m ww lo (i + 1)) ∧ (¬ fitB s n c g m ww (lo + i) = true → x ||| nI 0 = fitN s n c g m ww lo (i + 1)) :=
  ⟨fun h => by rw [fitN, ← e, if_pos h], fun h => by rw [fitN, ← e, if_neg h]⟩
theorem okB_n0 {dr c j : Nat} (h : ¬ okB dr c j = true) : ¬ okB dr c (j + 1) = true := by rw [okB]; simp [h]
theorem okB_n1 {dr c j : Nat} (h : ¬ dig6 c j < dr) : ¬ okB dr c (j + 1) = true := by rw [okB]; simp; intro _; omega
theorem okB_y {dr c j : Nat} (h : okB dr c j = true) (h1 : dig6 c j < dr) : okB dr c (j + 1) = true := by rw [okB]; simp [h, h1]
theorem ok_0 {dr c j : Nat} (h : ¬ okB dr c j = true) : 0 ≤ 1 ∧ (0 ≠ 0 ↔ okB dr c j = true) := ⟨by decide, by simp [h]⟩
theorem ok_1 {dr c j : Nat} (h : okB dr c j = true) : 1 ≤ 1 ∧ (1 ≠ 0 ↔ okB dr c j = true) := ⟨by decide, by simp [h]⟩
