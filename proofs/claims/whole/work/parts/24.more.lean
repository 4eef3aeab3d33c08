/-! a row of a world may be named by any function that agrees with it within its length -/
theorem cell_ext {cA : ClassId} {n : Nat} {f g : Nat → Int32} (h : ∀ j, j < n → f j = g j) : vp_cell cA (n, .inl f) = vp_cell cA (n, .inl g) := by
  rw [vp_cell_i, vp_cell_i]
  unfold arrV
  congr 1
  congr 1
  funext j
  exact congrArg Value.int (h j.val j.isLt)
theorem cell_extq {cA : ClassId} {n : Nat} {f g : Nat → Option Nat} (h : ∀ j, j < n → f j = g j) : vp_cell cA (n, .inr (.inr (.inr (.inr f)))) = vp_cell cA (n, .inr (.inr (.inr (.inr g)))) := by
  rw [vp_cell_q, vp_cell_q]
  unfold arrV
  congr 1
  congr 1
  funext j
  exact congrArg va_rf (h j.val j.isLt)
theorem P_set {D : va_G} {ws ws' : va_W} {H : Heap} (hP : va_P D vwCl ws H) (q : Nat) {e : Nat × va_E} (he : va_at D vwCl e H) (hw : ws.set q e = ws') : va_P D vwCl ws' H := by
  subst hw
  intro k x hk
  rw [List.getElem?_set] at hk
  split at hk
  · split at hk
    · rw [← Option.some.inj hk]; exact he
    · cases hk
  · exact hP k x hk
theorem P_ext {D : va_G} {ws ws' : va_W} {H : Heap} {ad n : Nat} {cA : ClassId} {f g : Nat → Int32} (hP : va_P D vwCl ws H) (q : Nat) (ha : ws[q]? = some (ad, wInt cA n f)) (hfg : ∀ j, j < n → f j = g j) (hw : ws.set q (ad, wInt cA n g) = ws') : va_P D vwCl ws' H := by
  refine P_set hP q (e := (ad, wInt cA n g)) ?_ hw
  have h := hP q _ ha
  show H[ad]? = some (vp_cell cA (n, .inl g))
  rw [← cell_ext hfg]; exact h
theorem P_extq {D : va_G} {ws ws' : va_W} {H : Heap} {ad n : Nat} {cA : ClassId} {f g : Nat → Option Nat} (hP : va_P D vwCl ws H) (q : Nat) (ha : ws[q]? = some (ad, wRef cA n f)) (hfg : ∀ j, j < n → f j = g j) (hw : ws.set q (ad, wRef cA n g) = ws') : va_P D vwCl ws' H := by
  refine P_set hP q (e := (ad, wRef cA n g)) ?_ hw
  have h := hP q _ ha
  show H[ad]? = some (vp_cell cA (n, .inr (.inr (.inr (.inr g)))))
  rw [← cell_extq hfg]; exact h
theorem D_ext {A : Nat → Prop} {ws ws' : va_W} {ad q : Nat} {e e' : va_E} (hD : va_D A ws) (ha : ws[q]? = some (ad, e)) (hw : ws.set q (ad, e') = ws') : va_D A ws' := by
  subst hw
  have key : ∀ (k : Nat) (x : Nat × va_E), (ws.set q (ad, e'))[k]? = some x → ∃ x', ws[k]? = some x' ∧ x'.1 = x.1 := by
    intro k x hk
    rw [List.getElem?_set] at hk
    split at hk
    · rename_i z
      split at hk
      · subst z; exact ⟨_, ha, by rw [← Option.some.inj hk]⟩
      · cases hk
    · exact ⟨x, hk, rfl⟩
  refine ⟨fun i j x y hx hy hxy => ?_, fun k x hk => ?_⟩
  · obtain ⟨x', h1, h2⟩ := key i x hx
    obtain ⟨y', h3, h4⟩ := key j y hy
    exact hD.1 i j x' y' h1 h3 (by rw [h2, h4]; exact hxy)
  · obtain ⟨x', h1, h2⟩ := key k x hk
    rw [← h2]; exact hD.2 k x' h1
theorem rng {x : Int32} {m : Nat} (hm : m < 100000) (h : nI 0 ≤ x ∧ x ≤ nI m) : ∃ j : Nat, j ≤ m ∧ x = nI j := nI_of2 (nI_toInt (by omega)) (Int32.not_lt.mpr h.1) h.2
theorem rng' {x : Int32} {m : Nat} (hm : m < 100000) (h : nI 0 ≤ x ∧ x ≤ nI m - nI 1) : ∃ j : Nat, j < m ∧ x = nI j := by
  rcases Nat.eq_zero_or_pos m with e | e
  · subst e
    exact absurd (Int32.le_trans h.1 h.2) (by decide)
  · rw [pk_sub e] at h
    obtain ⟨j, h1, h2⟩ := rng (by omega) h
    exact ⟨j, by omega, h2⟩
theorem layN_at (fa : Nat → Int32) (fr : Nat) (fb : Nat → Int32) (to : Nat) : ∀ k j, layN fa fr fb to k j = if to ≤ j ∧ j < to + k then fa (fr + (j - to)) else fb j
  | 0, j => by rw [layN, if_neg (by omega)]
  | k + 1, j => by
    rw [layN]
    by_cases e : j = to + k
    · subst e; rw [pk_us, if_pos (by omega)]; congr 1; omega
    · rw [pk_un e, layN_at fa fr fb to k j]
      by_cases z : to ≤ j ∧ j < to + k
      · rw [if_pos z, if_pos (by omega)]
      · rw [if_neg z, if_neg (by omega)]
/-- 37 of g come into f from place 'to' on -/
def putF (f : Nat → Int32) (to : Nat) (g : Nat → Int32) : Nat → Int32 := fun j => if to ≤ j ∧ j < to + 37 then g (j - to) else f j
def zero40 (f : Nat → Int32) (k : Nat) : Nat → Nat → Int32
  | 0 => f
  | i + 1 => upd (zero40 f k i) (40 * k + i) (nI 0)
