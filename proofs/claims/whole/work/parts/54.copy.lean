theorem cp_s {f g : Nat → Int32} {i : Nat} (h : ∀ j, j < i → f j = g j) : ∀ j, j < i + 1 → upd f i (g i) j = g j := by
  intro j hj
  by_cases e : j = i
  · subst e; rw [pk_us]
  · rw [pk_un e]; exact h j (by omega)
theorem cp_q {f g : Nat → Option Nat} {i : Nat} (h : ∀ j, j < i → f j = g j) : ∀ j, j < i + 1 → va_up f i (g i) j = g j := by
  intro j hj
  by_cases e : j = i
  · subst e; simp [va_up]
  · simp only [va_up, if_neg e]; exact h j (by omega)
theorem kW_at (kd : Nat → Nat) (rest : va_W) : ∀ k, k < 5 → (kW kd ++ rest)[0 + k]? = (kW kd)[k]? := by
  intro k hk
  rcases (show k = 0 ∨ k = 1 ∨ k = 2 ∨ k = 3 ∨ k = 4 by omega) with rfl | rfl | rfl | rfl | rfl <;> rfl
/-- one card more -/
def jnA (t : Nat → Int32) (n : Nat) (d : Int32) (k : Nat) (li : Int32) : Nat → Int32 := upd (upd (upd (upd (upd t (29 + n) (fillN t d n)) (21 + n) d) (5 + n) (nI k)) (13 + n) li) 3 (nI (n + 1))
theorem jnA_lo (t : Nat → Int32) (n : Nat) (d : Int32) (k : Nat) (li : Int32) {j : Nat} (h : j < 3) : t j = jnA t n d k li j := by
  rw [jnA, pk_un (by omega), pk_un (by omega), pk_un (by omega), pk_un (by omega), pk_un (by omega)]
theorem jnA_3 (t : Nat → Int32) (n : Nat) (d : Int32) (k : Nat) (li : Int32) : nI (n + 1) = jnA t n d k li 3 := by rw [jnA, pk_us]
theorem jnA_l (t : Nat → Int32) {n : Nat} (hn : n < 8) (d : Int32) (k : Nat) (li : Int32) : ∀ j, j < 8 → upd (fun j => t (13 + j)) n li j = jnA t n d k li (13 + j) := by
  intro j hj
  rw [jnA, pk_un (f := upd _ _ _) (show 13 + j ≠ 3 by omega)]
  by_cases e : j = n
  · subst e; rw [pk_us, pk_us]
  · rw [pk_un e, pk_un (by omega), pk_un (by omega), pk_un (by omega), pk_un (by omega)]
theorem jnA_i (t : Nat → Int32) {n : Nat} (hn : n < 8) (d : Int32) (k : Nat) (li : Int32) : ∀ j, j < 8 → upd (fun j => t (21 + j)) n d j = jnA t n d k li (21 + j) := by
  intro j hj
  have r : jnA t n d k li (21 + j) = upd (upd t (29 + n) (fillN t d n)) (21 + n) d (21 + j) := by
    rw [jnA, pk_un (by omega), pk_un (by omega), pk_un (by omega)]
  rw [r]
  by_cases e : j = n
  · subst e; rw [pk_us, pk_us]
  · rw [pk_un e, pk_un (by omega), pk_un (by omega)]
theorem jnA_p (t : Nat → Int32) {n : Nat} (hn : n < 8) (d : Int32) (k : Nat) (li : Int32) : ∀ j, j < 8 → upd (fun j => t (29 + j)) n (fillN t d n) j = jnA t n d k li (29 + j) := by
  intro j hj
  have r : jnA t n d k li (29 + j) = upd t (29 + n) (fillN t d n) (29 + j) := by
    rw [jnA, pk_un (by omega), pk_un (by omega), pk_un (by omega), pk_un (by omega)]
  rw [r]
  by_cases e : j = n
  · subst e; rw [pk_us, pk_us]
  · rw [pk_un e, pk_un (by omega)]
theorem fillN_cong {s t : Nat → Int32} {d : Int32} : ∀ n, (∀ j, j < n → s (21 + j) = t (21 + j)) → fillN s d n = fillN t d n
  | 0, _ => rfl
  | n + 1, h => by rw [fillN, fillN, fillN_cong n (fun j hj => h j (by omega)), h n (by omega)]
