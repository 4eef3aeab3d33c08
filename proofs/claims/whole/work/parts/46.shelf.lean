/-! a shelf: its object at a, its rows at b 0 (sorts), b 1 (likes), b 2 (drawers), b 3 (places), told by a catalogue t and sorts S -/
abbrev sW (cy : Nat → ClassId) (a : Nat) (b : Nat → Nat) (S : Nat → Option Nat) (t : Nat → Int32) : va_W := [(a, .inr (8, [.ref (b 0), .ref (b 1), .ref (b 2), .ref (b 3), .int (t 1), .int (t 2), .int (t 3), .int (t 0)])), (b 0, wRef (cy 2) 8 S), (b 1, wInt (cy 0) 8 (fun j => t (13 + j))), (b 2, wInt (cy 0) 8 (fun j => t (21 + j))), (b 3, wInt (cy 0) 8 (fun j => t (29 + j)))]
theorem sWc {D : va_G} {cy : Nat → ClassId} {a : Nat} {b : Nat → Nat} {S : Nat → Option Nat} {t : Nat → Int32} {H : Heap} {d h c n : Int32} {fl fi fp : Nat → Int32} (hP : va_P D vwCl [(a, .inr (8, [.ref (b 0), .ref (b 1), .ref (b 2), .ref (b 3), .int d, .int h, .int c, .int n])), (b 0, wRef (cy 2) 8 S), (b 1, wInt (cy 0) 8 fl), (b 2, wInt (cy 0) 8 fi), (b 3, wInt (cy 0) 8 fp)] H)
    (h1 : d = t 1) (h2 : h = t 2) (h3 : c = t 3) (h0 : n = t 0) (hl : ∀ j, j < 8 → fl j = t (13 + j)) (hi : ∀ j, j < 8 → fi j = t (21 + j)) (hp : ∀ j, j < 8 → fp j = t (29 + j)) : va_P D vwCl (sW cy a b S t) H := by
  subst h1; subst h2; subst h3; subst h0
  have p1 := P_ext hP 2 rfl (g := fun j => t (13 + j)) hl rfl
  have p2 := P_ext p1 3 rfl (g := fun j => t (21 + j)) hi rfl
  exact P_ext p2 4 rfl (g := fun j => t (29 + j)) hp rfl
theorem sWd {A : Nat → Prop} {cy : Nat → ClassId} {a : Nat} {b : Nat → Nat} {S : Nat → Option Nat} {t : Nat → Int32} {d h c n : Int32} {fl fi fp : Nat → Int32} (hD : va_D A [(a, .inr (8, [.ref (b 0), .ref (b 1), .ref (b 2), .ref (b 3), .int d, .int h, .int c, .int n])), (b 0, wRef (cy 2) 8 S), (b 1, wInt (cy 0) 8 fl), (b 2, wInt (cy 0) 8 fi), (b 3, wInt (cy 0) 8 fp)])
    (h1 : d = t 1) (h2 : h = t 2) (h3 : c = t 3) (h0 : n = t 0) : va_D A (sW cy a b S t) := by
  subst h1; subst h2; subst h3; subst h0
  have p1 := D_ext hD (q := 2) (e' := wInt (cy 0) 8 (fun j => t (13 + j))) rfl rfl
  have p2 := D_ext p1 (q := 3) (e' := wInt (cy 0) 8 (fun j => t (21 + j))) rfl rfl
  exact D_ext p2 (q := 4) (e' := wInt (cy 0) 8 (fun j => t (29 + j))) rfl rfl
theorem i_a0 (x : Int32) : x + nI 0 = x := Int32.add_zero x
theorem i_s0 (x : Int32) : x - nI 0 = x := Int32.sub_zero x
theorem i_o0 (x : Int32) : x ||| nI 0 = x := Int32.or_zero
abbrev isC (n : Nat) (x : Int32) : Prop := ¬ x < 0 ∧ ¬ nI n ≤ x
theorem isC_iff {n : Nat} (hn : n ≤ 1000) (x : Int32) : isC n x ↔ (nI 0 ≤ x ∧ x ≤ nI n - nI 1) := by
  constructor
  · intro h
    obtain ⟨j, h1, rfl, _⟩ := pk_mu h.1 h.2 (by omega)
    refine ⟨nI_pos' (by omega), ?_⟩
    rw [pk_sub (by omega)]
    exact (nIle (by omega) (by omega)).mpr (by omega)
  · intro h
    obtain ⟨j, h1, rfl⟩ := rng' (by omega) h
    exact ⟨nI_pos (by omega), nI_ge h1 (by omega)⟩
theorem isC_nat {n : Nat} (hn : n ≤ 1000) {x : Int32} (h : isC n x) : ∃ j, j < n ∧ x = nI j := by
  obtain ⟨j, h1, h2, _⟩ := pk_mu h.1 h.2 (show n < 2 ^ 31 by omega)
  exact ⟨j, h1, h2⟩
/-- the first card of a drawer and a place -/
def cdF (t : Nat → Int32) (d pl : Int32) : Nat → Nat → Int32
  | 0, _ => -1000000
  | k + 1, i => if t (21 + i) = d ∧ t (29 + i) = pl then nI i else cdF t d pl k (i + 1)
theorem cdF_at (t : Nat → Int32) (d pl : Int32) {n i : Nat} (h : i < n) : cdF t d pl (n - i) i = if t (21 + i) = d ∧ t (29 + i) = pl then nI i else cdF t d pl (n - (i + 1)) (i + 1) := by
  rw [show n - i = (n - (i + 1)) + 1 by omega, cdF]
def drF (t : Nat → Int32) (n c : Nat) : Int32 := if isC n (t (13 + c)) then t (13 + c) else -1000000
def mtF (t : Nat → Int32) (n : Nat) : Nat → Int32
  | 0 => nI 0
  | i + 1 => if ¬ drF t n i = -1000000 ∧ t (21 + cl (drF t n i)) = t (21 + i) ∧ t (29 + cl (drF t n i)) = t (29 + i) - nI 1 then mtF t n i ||| (nI 1 <<< (nI i &&& 31)) else mtF t n i
theorem drF_nat {t : Nat → Int32} {n c : Nat} (hn : n ≤ 1000) (h : ¬ drF t n c = -1000000) : ∃ j, j < n ∧ drF t n c = nI j := by
  rw [drF] at h ⊢
  split at h
  · rename_i q
    rw [if_pos q]
    exact isC_nat hn q
  · exact absurd rfl h
theorem asNb_no {s t : Nat → Int32} {i : Nat} (h : ¬ (s (21 + i) = t (21 + i) ∧ s (29 + i) = t (29 + i))) : ∀ n, i < n → ¬ asNb s t n = true
  | 0, hn => absurd hn (by omega)
  | n + 1, hn => by
    rw [asNb]
    by_cases e : i = n
    · subst e; intro q; simp at q; exact h q.2
    · have := asNb_no h n (by omega)
      simp [this]
theorem asNb_s {s t : Nat → Int32} {i : Nat} (h : asNb s t i = true) (h1 : s (21 + i) = t (21 + i)) (h2 : s (29 + i) = t (29 + i)) : asNb s t (i + 1) = true := by
  rw [asNb]; simp [h, h1, h2]
theorem out_y {t fp : Nat → Int32} {c i : Nat} (hi : i < 8) (hc : c < 8) (h : ∀ j, j < 8 → fp j = outN t c i (29 + j)) (e : t (21 + i) = t (21 + c)) (g : ¬ fp i ≤ fp c) : ∀ j, j < 8 → upd fp i (fp i - nI 1) j = outN t c (i + 1) (29 + j) := by
  intro j hj
  rw [outN, outN_lo t c (j := 21 + i) (by omega), outN_lo t c (j := 21 + c) (by omega), ← h i hi, ← h c hc, if_pos ⟨e, g⟩]
  by_cases z : j = i
  · subst z; rw [pk_us, pk_us]
  · rw [pk_un z, pk_un (by omega)]; exact h j hj
theorem out_n {t fp : Nat → Int32} {c i : Nat} (hi : i < 8) (hc : c < 8) (h : ∀ j, j < 8 → fp j = outN t c i (29 + j)) (e : ¬ (t (21 + i) = t (21 + c) ∧ ¬ fp i ≤ fp c)) : ∀ j, j < 8 → fp j = outN t c (i + 1) (29 + j) := by
  intro j hj
  rw [outN, outN_lo t c (j := 21 + i) (by omega), outN_lo t c (j := 21 + c) (by omega), ← h i hi, ← h c hc, if_neg e, i_s0]
  by_cases z : j = i
  · subst z; rw [pk_us]
  · rw [pk_un (by omega)]; exact h j hj
theorem in_y {t fp : Nat → Int32} {d pl : Int32} {i : Nat} (hi : i < 8) (h : ∀ j, j < 8 → fp j = inN t d pl i (29 + j)) (e : t (21 + i) = d) (g : ¬ fp i < pl) : ∀ j, j < 8 → upd fp i (fp i + nI 1) j = inN t d pl (i + 1) (29 + j) := by
  intro j hj
  rw [inN, inN_lo t d pl (j := 21 + i) (by omega), ← h i hi, if_pos ⟨e, g⟩]
  by_cases z : j = i
  · subst z; rw [pk_us, pk_us]
  · rw [pk_un z, pk_un (by omega)]; exact h j hj
theorem in_n {t fp : Nat → Int32} {d pl : Int32} {i : Nat} (hi : i < 8) (h : ∀ j, j < 8 → fp j = inN t d pl i (29 + j)) (e : ¬ (t (21 + i) = d ∧ ¬ fp i < pl)) : ∀ j, j < 8 → fp j = inN t d pl (i + 1) (29 + j) := by
  intro j hj
  rw [inN, inN_lo t d pl (j := 21 + i) (by omega), ← h i hi, if_neg e, i_a0]
  by_cases z : j = i
  · subst z; rw [pk_us]
  · rw [pk_un (by omega)]; exact h j hj
