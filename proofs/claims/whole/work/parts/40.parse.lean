/-! how a catalogue is read: which token was the last one read, which fault it has (0: none), what was read -/
def lp (f : Nat → Int32) (L p : Nat) : Nat → Nat
  | 0 => p
  | k + 1 => tokP f L (lp f L p k)
theorem lp_le {f : Nat → Int32} {L p : Nat} (h : p ≤ L) : ∀ k, lp f L p k ≤ L
  | 0 => h
  | k + 1 => tokP_le (lp_le h k)
abbrev numOK (f : Nat → Int32) (L p : Nat) (a b : Int32) : Prop := tokK f L p = -1 ∧ a ≤ tokN f L p ∧ tokN f L p ≤ b
def numX (f : Nat → Int32) (L p : Nat) : Nat := if ¬ tokK f L p = -1 then 1 else 2
def lawT (f : Nat → Int32) (L : Nat) : Nat := if ¬ tokK f L (lp f L 0 0) = nI 99 then 0 else if ¬ numOK f L (lp f L 0 1) (nI 2) (nI 6) then 1 else if ¬ tokK f L (lp f L 0 2) = nI 44 then 2 else if ¬ numOK f L (lp f L 0 3) (nI 1) (nI 8) then 3 else 4
def lawX (f : Nat → Int32) (L : Nat) : Nat := if ¬ tokK f L (lp f L 0 0) = nI 99 then 1 else if ¬ numOK f L (lp f L 0 1) (nI 2) (nI 6) then numX f L (lp f L 0 1) else if ¬ tokK f L (lp f L 0 2) = nI 44 then 1 else if ¬ numOK f L (lp f L 0 3) (nI 1) (nI 8) then numX f L (lp f L 0 3) else if tokK f L (lp f L 0 4) = nI 59 then 0 else 1
def lawA (rd f : Nat → Int32) (L : Nat) : Nat → Int32 := upd (upd rd 1 (tokN f L (lp f L 0 1))) 2 (tokN f L (lp f L 0 3))
def crdS (f : Nat → Int32) (L p : Nat) : Int32 := if tokK f L p ≤ 0 then nI 0 else srtF (tokK f L p)
def crdX (f : Nat → Int32) (L p : Nat) (rd : Nat → Int32) (n : Nat) : Nat :=
  if crdS f L p = 0 then 1
  else if n = 8 then 3
  else if ¬ numOK f L (lp f L p 1) (nI 0) (rd 1 - nI 1) then numX f L (lp f L p 1)
  else if ¬ fillN rd (tokN f L (lp f L p 1)) n < rd 2 then 2
  else if ¬ tokK f L (lp f L p 2) = nI 44 then 1
  else if ¬ numOK f L (lp f L p 3) (nI 0) (nI 7) then numX f L (lp f L p 3)
  else if tokN f L (lp f L p 3) = nI n then 2
  else if tokK f L (lp f L p 4) = nI 59 then 0 else 1
def crdT (f : Nat → Int32) (L p : Nat) (rd : Nat → Int32) (n : Nat) : Nat :=
  if crdS f L p = 0 then 0
  else if n = 8 then 0
  else if ¬ numOK f L (lp f L p 1) (nI 0) (rd 1 - nI 1) then 1
  else if ¬ fillN rd (tokN f L (lp f L p 1)) n < rd 2 then 1
  else if ¬ tokK f L (lp f L p 2) = nI 44 then 2
  else if ¬ numOK f L (lp f L p 3) (nI 0) (nI 7) then 3
  else if tokN f L (lp f L p 3) = nI n then 3
  else 4
def crdB (f : Nat → Int32) (L p : Nat) (rd : Nat → Int32) (n : Nat) : Nat → Int32 :=
  upd (upd (upd (upd rd (29 + n) (fillN rd (tokN f L (lp f L p 1)) n)) (21 + n) (tokN f L (lp f L p 1))) (5 + n) (crdS f L p)) (13 + n) (tokN f L (lp f L p 3))
def crdA (f : Nat → Int32) (L p : Nat) (rd : Nat → Int32) (n : Nat) : Nat → Int32 := upd (crdB f L p rd n) 3 (crdB f L p rd n 3 + nI 1)
theorem crdA_3 {f : Nat → Int32} {L p : Nat} {rd : Nat → Int32} {n : Nat} (h3 : rd 3 = nI n) : crdA f L p rd n 3 = nI (n + 1) := by
  rw [crdA, pk_us, crdB, pk_un (by omega), pk_un (by omega), pk_un (by omega), pk_un (by omega), h3, nI_add]
/-- the cards, from the token at p on: the fault, the place of the last token, what was read, how many cards -/
def rdR (f : Nat → Int32) (L : Nat) : Nat → Nat → (Nat → Int32) → Nat → Nat × Nat × (Nat → Int32) × Nat
  | 0, p, rd, n => (0, p, rd, n)
  | k + 1, p, rd, n => if tokK f L p = -2 then (0, p, rd, n) else if crdX f L p rd n = 0 then rdR f L k (lp f L p 5) (crdA f L p rd n) (n + 1) else (crdX f L p rd n, lp f L p (crdT f L p rd n), rd, n)
def rd0 : Nat → Int32 := upd (fun _ => nI 0) 4 (nI 1)
def redF (f : Nat → Int32) (L : Nat) : Nat × Nat × (Nat → Int32) × Nat :=
  if ¬ lawX f L = 0 then (lawX f L, lp f L 0 (lawT f L), rd0, 0)
  else if tokK f L (lp f L 0 5) = -2 then (1, lp f L 0 5, rd0, 0)
  else rdR f L 10 (lp f L 0 5) (lawA rd0 f L) 0
theorem lawX_0 {f : Nat → Int32} {L : Nat} (h : lawX f L = 0) : tokK f L (lp f L 0 0) = nI 99 ∧ numOK f L (lp f L 0 1) (nI 2) (nI 6) ∧ tokK f L (lp f L 0 2) = nI 44 ∧ numOK f L (lp f L 0 3) (nI 1) (nI 8) ∧ tokK f L (lp f L 0 4) = nI 59 := by
  rw [lawX] at h
  split at h
  · omega
  · split at h
    · rw [numX] at h; split at h <;> omega
    · split at h
      · omega
      · split at h
        · rw [numX] at h; split at h <;> omega
        · split at h
          · rename_i h1 h2 h3 h4 h5
            exact ⟨Decidable.byContradiction h1, Decidable.byContradiction h2, Decidable.byContradiction h3, Decidable.byContradiction h4, h5⟩
          · omega
theorem prF {X x T t : Nat} {P : Prop} {w7 w10 : Int32} {g : Nat → Nat} (hX : X = x) (hx : x ≠ 0) (hT : T = t) (h7 : w7 = nI (g t)) (h10 : w10 = nI x) : nI 0 = bI (X = 0) ∧ (X = 0 → P) ∧ (¬ X = 0 → w7 = nI (g T) ∧ w10 = nI X) := by
  subst hX; subst hT
  exact ⟨(bI_f hx).symm, fun z => absurd z hx, fun _ => ⟨h7, h10⟩⟩
theorem prS {X T t : Nat} {c P : Prop} [Decidable c] {w7 w10 : Int32} {g : Nat → Nat} (hX : X = if c then 0 else 1) (hP : c → P) (hT : T = t) (h7 : w7 = nI (g t)) (h10 : ¬ c → w10 = nI 1) : bI c = bI (X = 0) ∧ (X = 0 → P) ∧ (¬ X = 0 → w7 = nI (g T) ∧ w10 = nI X) := by
  subst hT
  by_cases h : c
  · rw [if_pos h] at hX
    rw [bI_t h, bI_t hX]
    exact ⟨rfl, fun _ => hP h, fun z => absurd hX z⟩
  · rw [if_neg h] at hX
    have q : ¬ X = 0 := by omega
    rw [bI_f h, bI_f q]
    exact ⟨rfl, fun z => absurd z q, fun _ => ⟨h7, by rw [hX]; exact h10 h⟩⟩
theorem numX_ne (f : Nat → Int32) (L p : Nat) : numX f L p ≠ 0 := by rw [numX]; split <;> decide
theorem numX_e {f : Nat → Int32} {L p : Nat} {a b x : Int32} (h : ¬ numOK f L p a b) : (if ¬ tokK f L p = -1 then nI 1 else if a ≤ tokN f L p ∧ tokN f L p ≤ b then x else nI 2) = nI (numX f L p) := by
  rw [numX]
  by_cases h1 : tokK f L p = -1
  · have q : ¬ (a ≤ tokN f L p ∧ tokN f L p ≤ b) := fun z => h ⟨h1, z⟩
    simp only [h1, not_true_eq_false, if_false, if_neg q]
  · simp only [h1, not_false_eq_true, if_true]
theorem crdS_n {f : Nat → Int32} {L p : Nat} (h : ¬ tokK f L p ≤ 0) (h2 : ¬ srtF (tokK f L p) = 0) : ¬ crdS f L p = 0 := by rw [crdS, if_neg h]; exact h2
theorem crdS_0 {f : Nat → Int32} {L p : Nat} (h : ¬ tokK f L p ≤ 0) (h2 : srtF (tokK f L p) = 0) : crdS f L p = 0 := by rw [crdS, if_neg h]; exact h2
theorem crdS_1 {f : Nat → Int32} {L p : Nat} (h : tokK f L p ≤ 0) : crdS f L p = 0 := by rw [crdS, if_pos h]; rfl
abbrev nn {a : Prop} (h : a) : ¬ ¬ a := fun z => z h
abbrev lawPR (f rd : Nat → Int32) (L : Nat) (r w6 w7 w10 : Int32) (f13 : Nat → Int32) : Prop := r = bI (lawX f L = 0) ∧ (lawX f L = 0 → w6 = nI (lp f L 0 5) ∧ f13 = lawA rd f L) ∧ (¬ lawX f L = 0 → w7 = nI (lp f L 0 (lawT f L)) ∧ w10 = nI (lawX f L))
section LAWR
variable {f rd f13 : Nat → Int32} {L : Nat} {w6 w10 : Int32}
theorem lawR0 (c6 : ¬ tokK f L 0 = nI 99) (h10 : w10 = nI 1) : lawPR f rd L (nI 0) w6 (nI 0) w10 f13 := by
  have c : ¬ tokK f L (lp f L 0 0) = nI 99 := c6
  exact prF (x := 1) (t := 0) (g := lp f L 0) (by rw [lawX, if_pos c]) (by decide) (by rw [lawT, if_pos c]) rfl h10
theorem lawR1 (c6 : tokK f L 0 = nI 99) (c16 : ¬ numOK f L (lp f L 0 1) (nI 2) (nI 6)) (h10 : w10 = nI (numX f L (lp f L 0 1))) : lawPR f rd L (nI 0) w6 (nI (lp f L 0 1)) w10 f13 := by
  have c : tokK f L (lp f L 0 0) = nI 99 := c6
  exact prF (t := 1) (g := lp f L 0) (by rw [lawX, if_neg (nn c), if_pos c16]) (numX_ne _ _ _) (by rw [lawT, if_neg (nn c), if_pos c16]) rfl h10
theorem lawR2 (c6 : tokK f L 0 = nI 99) (c16 : numOK f L (lp f L 0 1) (nI 2) (nI 6)) (c37 : ¬ tokK f L (lp f L 0 2) = nI 44) (h10 : w10 = nI 1) : lawPR f rd L (nI 0) w6 (nI (lp f L 0 2)) w10 f13 := by
  have c : tokK f L (lp f L 0 0) = nI 99 := c6
  exact prF (x := 1) (t := 2) (g := lp f L 0) (by rw [lawX, if_neg (nn c), if_neg (nn c16), if_pos c37]) (by decide) (by rw [lawT, if_neg (nn c), if_neg (nn c16), if_pos c37]) rfl h10
theorem lawR3 (c6 : tokK f L 0 = nI 99) (c16 : numOK f L (lp f L 0 1) (nI 2) (nI 6)) (c37 : tokK f L (lp f L 0 2) = nI 44) (c47 : ¬ numOK f L (lp f L 0 3) (nI 1) (nI 8)) (h10 : w10 = nI (numX f L (lp f L 0 3))) : lawPR f rd L (nI 0) w6 (nI (lp f L 0 3)) w10 f13 := by
  have c : tokK f L (lp f L 0 0) = nI 99 := c6
  exact prF (t := 3) (g := lp f L 0) (by rw [lawX, if_neg (nn c), if_neg (nn c16), if_neg (nn c37), if_pos c47]) (numX_ne _ _ _) (by rw [lawT, if_neg (nn c), if_neg (nn c16), if_neg (nn c37), if_pos c47]) rfl h10
theorem lawR4 (c6 : tokK f L 0 = nI 99) (c16 : numOK f L (lp f L 0 1) (nI 2) (nI 6)) (c37 : tokK f L (lp f L 0 2) = nI 44) (c47 : numOK f L (lp f L 0 3) (nI 1) (nI 8)) (h10 : ¬ tokK f L (lp f L 0 4) = nI 59 → w10 = nI 1) : lawPR f rd L (bI (tokK f L (lp f L 0 4) = nI 59)) (nI (lp f L 0 5)) (nI (lp f L 0 4)) w10 (lawA rd f L) := by
  have c : tokK f L (lp f L 0 0) = nI 99 := c6
  exact prS (t := 4) (g := lp f L 0) (by rw [lawX, if_neg (nn c), if_neg (nn c16), if_neg (nn c37), if_neg (nn c47)]) (fun _ => ⟨rfl, rfl⟩) (by rw [lawT, if_neg (nn c), if_neg (nn c16), if_neg (nn c37), if_neg (nn c47)]) rfl h10
end LAWR
abbrev crdPR (f rd : Nat → Int32) (L p n : Nat) (r w6 w7 w10 : Int32) (f13 : Nat → Int32) : Prop := r = bI (crdX f L p rd n = 0) ∧ (crdX f L p rd n = 0 → w6 = nI (lp f L p 5) ∧ f13 = crdA f L p rd n) ∧ (¬ crdX f L p rd n = 0 → w7 = nI (lp f L p (crdT f L p rd n)) ∧ w10 = nI (crdX f L p rd n))
section CRDR
variable {f rd f13 : Nat → Int32} {L p n : Nat} {w6 w10 : Int32}
theorem crdR0 (s0 : crdS f L p = 0) : crdPR f rd L p n (nI 0) w6 (nI p) (nI 1) f13 :=
  prF (x := 1) (t := 0) (g := lp f L p) (by rw [crdX, if_pos s0]) (by decide) (by rw [crdT, if_pos s0]) rfl rfl
theorem crdR1 (s0 : ¬ crdS f L p = 0) (c39 : n = 8) : crdPR f rd L p n (nI 0) w6 (nI p) (nI 3) f13 :=
  prF (x := 3) (t := 0) (g := lp f L p) (by rw [crdX, if_neg s0, if_pos c39]) (by decide) (by rw [crdT, if_neg s0, if_pos c39]) rfl rfl
theorem crdR2 (s0 : ¬ crdS f L p = 0) (c39 : ¬ n = 8) (c61 : ¬ numOK f L (lp f L p 1) (nI 0) (rd 1 - nI 1)) (h10 : w10 = nI (numX f L (lp f L p 1))) : crdPR f rd L p n (nI 0) w6 (nI (lp f L p 1)) w10 f13 :=
  prF (t := 1) (g := lp f L p) (by rw [crdX, if_neg s0, if_neg c39, if_pos c61]) (numX_ne _ _ _) (by rw [crdT, if_neg s0, if_neg c39, if_pos c61]) rfl h10
theorem crdR3 (s0 : ¬ crdS f L p = 0) (c39 : ¬ n = 8) (c61 : numOK f L (lp f L p 1) (nI 0) (rd 1 - nI 1)) (c85 : ¬ fillN rd (tokN f L (lp f L p 1)) n < rd 2) : crdPR f rd L p n (nI 0) w6 (nI (lp f L p 1)) (nI 2) f13 :=
  prF (x := 2) (t := 1) (g := lp f L p) (by rw [crdX, if_neg s0, if_neg c39, if_neg (nn c61), if_pos c85]) (by decide) (by rw [crdT, if_neg s0, if_neg c39, if_neg (nn c61), if_pos c85]) rfl rfl
theorem crdR4 (s0 : ¬ crdS f L p = 0) (c39 : ¬ n = 8) (c61 : numOK f L (lp f L p 1) (nI 0) (rd 1 - nI 1)) (c85 : fillN rd (tokN f L (lp f L p 1)) n < rd 2) (c100 : ¬ tokK f L (lp f L p 2) = nI 44) (h10 : w10 = nI 1) : crdPR f rd L p n (nI 0) w6 (nI (lp f L p 2)) w10 f13 :=
  prF (x := 1) (t := 2) (g := lp f L p) (by rw [crdX, if_neg s0, if_neg c39, if_neg (nn c61), if_neg (nn c85), if_pos c100]) (by decide) (by rw [crdT, if_neg s0, if_neg c39, if_neg (nn c61), if_neg (nn c85), if_pos c100]) rfl h10
theorem crdR5 (s0 : ¬ crdS f L p = 0) (c39 : ¬ n = 8) (c61 : numOK f L (lp f L p 1) (nI 0) (rd 1 - nI 1)) (c85 : fillN rd (tokN f L (lp f L p 1)) n < rd 2) (c100 : tokK f L (lp f L p 2) = nI 44) (c110 : ¬ numOK f L (lp f L p 3) (nI 0) (nI 7)) (h10 : w10 = nI (numX f L (lp f L p 3))) : crdPR f rd L p n (nI 0) w6 (nI (lp f L p 3)) w10 f13 :=
  prF (t := 3) (g := lp f L p) (by rw [crdX, if_neg s0, if_neg c39, if_neg (nn c61), if_neg (nn c85), if_neg (nn c100), if_pos c110]) (numX_ne _ _ _) (by rw [crdT, if_neg s0, if_neg c39, if_neg (nn c61), if_neg (nn c85), if_neg (nn c100), if_pos c110]) rfl h10
theorem crdR6 (s0 : ¬ crdS f L p = 0) (c39 : ¬ n = 8) (c61 : numOK f L (lp f L p 1) (nI 0) (rd 1 - nI 1)) (c85 : fillN rd (tokN f L (lp f L p 1)) n < rd 2) (c100 : tokK f L (lp f L p 2) = nI 44) (c110 : numOK f L (lp f L p 3) (nI 0) (nI 7)) (c120 : tokN f L (lp f L p 3) = nI n) : crdPR f rd L p n (nI 0) w6 (nI (lp f L p 3)) (nI 2) f13 :=
  prF (x := 2) (t := 3) (g := lp f L p) (by rw [crdX, if_neg s0, if_neg c39, if_neg (nn c61), if_neg (nn c85), if_neg (nn c100), if_neg (nn c110), if_pos c120]) (by decide) (by rw [crdT, if_neg s0, if_neg c39, if_neg (nn c61), if_neg (nn c85), if_neg (nn c100), if_neg (nn c110), if_pos c120]) rfl rfl
theorem crdR8 (c4 : ¬ tokK f L p ≤ 0) (c20 : ¬ srtF (tokK f L p) = 0) (c39 : ¬ n = 8) (c61 : numOK f L (lp f L p 1) (nI 0) (rd 1 - nI 1)) (c85 : fillN rd (tokN f L (lp f L p 1)) n < rd 2) (c100 : tokK f L (lp f L p 2) = nI 44) (c110 : numOK f L (lp f L p 3) (nI 0) (nI 7)) (c120 : ¬ tokN f L (lp f L p 3) = nI n)
    (e13 : f13 = upd (upd (upd (upd (upd rd (29 + n) (fillN rd (tokN f L (lp f L p 1)) n)) (21 + n) (tokN f L (lp f L p 1))) (5 + n) (srtF (tokK f L p))) (13 + n) (tokN f L (lp f L p 3))) 3 (upd (upd (upd (upd rd (29 + n) (fillN rd (tokN f L (lp f L p 1)) n)) (21 + n) (tokN f L (lp f L p 1))) (5 + n) (srtF (tokK f L p))) (13 + n) (tokN f L (lp f L p 3)) 3 + nI 1)) (h10 : ¬ tokK f L (lp f L p 4) = nI 59 → w10 = nI 1) : crdPR f rd L p n (bI (tokK f L (lp f L p 4) = nI 59)) (nI (lp f L p 5)) (nI (lp f L p 4)) w10 f13 :=
  prS (t := 4) (g := lp f L p) (by rw [crdX, if_neg (crdS_n c4 c20), if_neg c39, if_neg (nn c61), if_neg (nn c85), if_neg (nn c100), if_neg (nn c110), if_neg c120]) (fun _ => ⟨rfl, by rw [e13, crdA, crdB, crdS, if_neg c4]⟩) (by rw [crdT, if_neg (crdS_n c4 c20), if_neg c39, if_neg (nn c61), if_neg (nn c85), if_neg (nn c100), if_neg (nn c110), if_neg c120]) rfl h10
end CRDR
