/-! one shelf out of what is past, and back -/
theorem out_g (F : va_W) {G : Nat → va_W} {n j : Nat} (h : j < n) : (F ++ fam G n).Perm ((F ++ G j) ++ famX G j n) := by
  rw [List.append_assoc]; exact out_f F h
theorem in_g (F : va_W) {cy : Nat → ClassId} {pa : Nat → Nat} {pb : Nat → Nat → Nat} {pS : Nat → Nat → Option Nat} {pt : Nat → Nat → Int32} {g : Nat} (hg : g < 24) (S : Nat → Option Nat) (t : Nat → Int32) : ((F ++ sW cy (pa g) (pb g) S t) ++ famX (pG cy pa pb pS pt) g 24).Perm (F ++ fam (pG cy pa pb (va_up pS g S) (va_up pt g t)) 24) := by
  rw [List.append_assoc]; exact in_p F hg S t
/-! an explicit world as two parts of it, by places -/
theorem map_range (ws : va_W) : (List.range ws.length).map (fun i => ws[i]?) = ws.map some := by
  apply List.ext_getElem?
  intro i
  rw [List.getElem?_map, List.getElem?_map]
  by_cases h : i < ws.length
  · rw [List.getElem?_range h, List.getElem?_eq_getElem h]
    simp [List.getElem?_eq_getElem h]
  · rw [List.getElem?_eq_none (by simpa using h), List.getElem?_eq_none (by simpa using h)]
    rfl
theorem perm_idx {ws wc wr : va_W} {n : Nat} (is irs : List Nat) (hC : is.map (fun i => ws[i]?) = wc.map some) (hR : irs.map (fun i => ws[i]?) = wr.map some) (hn : ws.length = n) (hp : (is ++ irs).Perm (List.range n)) : ws.Perm (wc ++ wr) := by
  subst hn
  have h2 := hp.map (fun i => ws[i]?)
  rw [map_range, List.map_append, hC, hR, ← List.map_append] at h2
  have h3 := h2.filterMap id
  simpa using h3.symm
theorem perm_tl {E wc wr T : va_W} (h : E.Perm (wc ++ wr)) : (E ++ T).Perm (wc ++ (wr ++ T)) := by
  rw [← List.append_assoc]; exact h.append_right T
