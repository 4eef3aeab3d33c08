/-! what the two great constructors lay down -/
abbrev A00 : Nat → Nat → Int32 := fun k => if k = 0 then (fun _ => -1) else fun _ => nI 0
def rwI (ra : Nat → Nat) (i : Nat) : Nat → Option Nat := fun j => if j < i then some (ra j) else none
theorem rwI_0 (ra : Nat → Nat) : (fun _ => none) = rwI ra 0 := by funext j; rw [rwI, if_neg (by omega)]
theorem rwI_s (ra : Nat → Nat) (i q : Nat) : va_up (rwI ra i) i (some q) = rwI (va_up ra i q) (i + 1) := by
  funext j
  by_cases e : j = i
  · subst e; rw [va_up_self, rwI, if_pos (by omega), va_up_self]
  · rw [va_up_ne _ _ e, rwI, rwI]
    by_cases h : j < i
    · rw [if_pos h, if_pos (by omega), va_up_ne _ _ e]
    · rw [if_neg h, if_neg (by omega)]
theorem rwI_e (ra : Nat → Nat) {n : Nat} : ∀ j, j < n → rwI ra n j = some (ra j) := fun j hj => if_pos hj
theorem absorb {E Er X T0 : va_W} {G G' : Nat → va_W} {i : Nat} (h : E.Perm (X ++ Er)) (hX : G' i = X) (hc : ∀ j, j < i → G j = G' j) : (E ++ (T0 ++ fam G i)).Perm (Er ++ (T0 ++ fam G' (i + 1))) := by
  have e : fam G' (i + 1) = fam G i ++ X := by rw [fam, hX, fam_congr i hc]
  rw [e]
  refine (h.append_right _).trans ?_
  rw [List.append_assoc]
  refine List.perm_append_comm.trans ?_
  rw [List.append_assoc, List.append_assoc]
abbrev rG0 (cy : Nat → ClassId) (ra rb : Nat → Nat) : Nat → va_W := rG cy ra rb (fun _ => -1) (fun _ => 0) (fun _ _ => nI 0)
abbrev pG0 (cy : Nat → ClassId) (pa : Nat → Nat) (pb : Nat → Nat → Nat) : Nat → va_W := pG cy pa pb (fun _ => S00) (fun _ => t00)
theorem rG0_i (cy : Nat → ClassId) (ra rb : Nat → Nat) (i q b : Nat) : rG0 cy (va_up ra i q) (va_up rb i b) i = [(q, .inr (7, [.ref b, .int (-1), .int (nI 0)])), (b, wInt (cy 0) 40 (fun _ => nI 0))] := by
  simp only [rG0, rG, va_up_self]
theorem rG0_j (cy : Nat → ClassId) (ra rb : Nat → Nat) (i q b : Nat) : ∀ j, j < i → rG0 cy ra rb j = rG0 cy (va_up ra i q) (va_up rb i b) j := fun j hj => by
  simp only [rG0, rG, va_up_ne _ _ (Nat.ne_of_lt hj)]
theorem pG0_i (cy : Nat → ClassId) (pa : Nat → Nat) (pb : Nat → Nat → Nat) (i q : Nat) (b : Nat → Nat) : pG0 cy (va_up pa i q) (va_up pb i b) i = sW cy q b S00 t00 := by
  simp only [pG0, pG, va_up_self]
theorem pG0_j (cy : Nat → ClassId) (pa : Nat → Nat) (pb : Nat → Nat → Nat) (i q : Nat) (b : Nat → Nat) : ∀ j, j < i → pG0 cy pa pb j = pG0 cy (va_up pa i q) (va_up pb i b) j := fun j hj => by
  simp only [pG0, pG, va_up_ne _ _ (Nat.ne_of_lt hj)]
theorem tail3 (E F1 F2 F3 : va_W) : (E ++ (((([] : va_W) ++ F1) ++ F2) ++ F3)).Perm (E ++ (F1 ++ (F2 ++ F3))) := by
  rw [List.nil_append, List.append_assoc]
abbrev u00 (pa : Nat → Nat) (pb : Nat → Nat → Nat) : XS := ((0, nI 0, nI 0), (fun _ => -1, fun _ => 0, fun _ _ => nI 0), (0, nI 0, 0, nI 0, nI 0, nI 0, nI 0, t00), (S00, t00), (S00, t00), (S00, t00, S00, t00, t00), (0, nI 0, nI 0, nI 0, t00), (pa, pb, fun _ => S00, fun _ => t00), (fun _ => S00, fun _ => t00))
theorem rel00 (kd pa : Nat → Nat) (pb : Nat → Nat → Nat) : RelX kd t00 A00 0 0 (u00 pa pb) := by
  have hs : ∀ j, j < 8 → anyS kd (S00 j) := fun _ _ => Or.inl rfl
  refine ⟨rfl, rfl, rfl, by omega, ?_, ⟨fun _ _ => hs, fun j hj => absurd hj (by omega)⟩, fun k hk => ?_, rfl, by omega, rfl, hs, fun k hk => ⟨hs, Or.inl ⟨rfl, rfl⟩⟩, rfl, by omega, rfl⟩
  · refine ⟨⟨rfl, by omega, fun c hc => absurd hc (by omega), fun c hc => absurd hc (by omega), fun _ => 0, fun _ => 0, fun c hc => absurd hc (by omega), fun c hc => absurd hc (by omega), fun c _ hc => absurd hc (by omega)⟩, ⟨rfl, rfl, rfl, rfl, fun c hc => absurd hc (by omega)⟩, fun j hj => absurd hj (by omega), hs, rfl, by omega, fun z => absurd z (by omega), fun _ z => absurd z (by decide), 0, by omega, rfl⟩
  · exact ⟨rfl, Or.inl rfl, Nat.zero_le 40, ⟨0, Nat.zero_le 40, rfl⟩, fun z => absurd rfl z, fun j _ => rfl⟩
