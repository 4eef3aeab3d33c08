def stS (t : Nat → Int32) (n c : Nat) (d o : Int32) : Nat → Int32 := inS (outS t n c) n c d (if isC n o then outS t n c (29 + cl o) + nI 1 else fillN (outS t n c) d n)
theorem outI (t : Nat → Int32) {n c : Nat} (hc : c < 8) : ∀ j, j < 8 → upd (fun j => t (21 + j)) c (-1) j = outS t n c (21 + j) := by
  intro j hj
  by_cases e : j = c
  · subst e; rw [pk_us, outS, pk_us]
  · rw [pk_un e, outS, pk_un (by omega), outN_lo _ _ (by omega)]
theorem outQ {t fp : Nat → Int32} {n c : Nat} (hc : c < 8) (h : ∀ j, j < 8 → fp j = outN t c n (29 + j)) : ∀ j, j < 8 → fp j = outS t n c (29 + j) := by
  intro j hj
  rw [outS, pk_un (by omega)]; exact h j hj
theorem inI (t : Nat → Int32) {n c : Nat} {d pl : Int32} (hc : c < 8) : ∀ j, j < 8 → upd (fun j => t (21 + j)) c d j = inS t n c d pl (21 + j) := by
  intro j hj
  by_cases e : j = c
  · subst e; rw [pk_us, inS, pk_un (by omega), pk_us]
  · rw [pk_un e, inS, pk_un (by omega), pk_un (by omega), inN_lo _ _ _ (by omega)]
theorem inQ {t fp : Nat → Int32} {n c : Nat} {d pl : Int32} (hc : c < 8) (h : ∀ j, j < 8 → fp j = inN t d pl n (29 + j)) : ∀ j, j < 8 → upd fp c pl j = inS t n c d pl (29 + j) := by
  intro j hj
  by_cases e : j = c
  · subst e; rw [pk_us, inS, pk_us]
  · rw [pk_un e, inS, pk_un (by omega), pk_un (by omega)]; exact h j hj
/-- two change places -/
def cpS (t : Nat → Int32) (c k : Nat) : Nat → Int32 := upd (upd t (29 + c) (t (29 + k))) (29 + k) (t (29 + c))
theorem cpQ (t : Nat → Int32) {c k : Nat} : ∀ j, j < 8 → upd (upd (fun j => t (29 + j)) c (t (29 + k))) k (t (29 + c)) j = cpS t c k (29 + j) := by
  intro j hj
  by_cases e : j = k
  · subst e; rw [pk_us, cpS, pk_us]
  · have r : cpS t c k (29 + j) = upd t (29 + c) (t (29 + k)) (29 + j) := by rw [cpS, pk_un (by omega)]
    rw [pk_un e, r]
    by_cases e2 : j = c
    · subst e2; rw [pk_us, pk_us]
    · rw [pk_un e2, pk_un (by omega)]
theorem cpS_lo (t : Nat → Int32) (c k : Nat) {j : Nat} (h : j < 29) : cpS t c k j = t j := by rw [cpS, pk_un (by omega), pk_un (by omega)]
theorem trnN_lo (t : Nat → Int32) (d fl : Int32) {j : Nat} (h : j < 29) : ∀ i, trnN t d fl i j = t j
  | 0 => rfl
  | i + 1 => by rw [trnN, pk_un (by omega)]; exact trnN_lo t d fl h i
theorem trn_y {t fp : Nat → Int32} {d fl : Int32} {i : Nat} (hi : i < 8) (h : ∀ j, j < 8 → fp j = trnN t d fl i (29 + j)) (e : t (21 + i) = d) : ∀ j, j < 8 → upd fp i (fl - nI 1 - fp i) j = trnN t d fl (i + 1) (29 + j) := by
  intro j hj
  rw [trnN, trnN_lo t d fl (j := 21 + i) (by omega), ← h i hi, if_pos e]
  by_cases z : j = i
  · subst z; rw [pk_us, pk_us]
  · rw [pk_un z, pk_un (by omega)]; exact h j hj
theorem trn_n {t fp : Nat → Int32} {d fl : Int32} {i : Nat} (hi : i < 8) (h : ∀ j, j < 8 → fp j = trnN t d fl i (29 + j)) (e : ¬ t (21 + i) = d) : ∀ j, j < 8 → fp j = trnN t d fl (i + 1) (29 + j) := by
  intro j hj
  rw [trnN, trnN_lo t d fl (j := 21 + i) (by omega), ← h i hi, if_neg e]
  by_cases z : j = i
  · subst z; rw [pk_us]
  · rw [pk_un (by omega)]; exact h j hj
def bgS (t : Nat → Int32) (d h : Int32) : Nat → Int32 := upd (upd (upd (upd t 1 d) 2 h) 3 (nI 0)) 0 (nI 0)
theorem bgS_hi (t : Nat → Int32) (d h : Int32) {j : Nat} (hj : 4 ≤ j) : t j = bgS t d h j := by rw [bgS, pk_un (by omega), pk_un (by omega), pk_un (by omega), pk_un (by omega)]
