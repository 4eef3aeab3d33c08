/-! a contract over more cells; rows of shelves; how the class's rows and what is past stand to the reference's -/
theorem met_frame {S S' : Type} {l : Launch} {y : MethodName} {ws : List Cond} {rm : Room} {D : va_G} {tys : List (ClassId × FieldType)} {wc wr X : va_W} {sz : Nat} {av : List Value} {w' : S → va_W} {PR : Int32 → S → Prop} {X' : S' → va_W} {PR' : Int32 → S' → Prop}
    (hM : Met l y ws rm (pPre D tys wc sz av) (pI D tys wc sz w' PR) 0 0 (va_A wc sz)) (hm : X.Perm (wc ++ wr)) (h : ∀ r u, PR r u → ∃ u', PR' r u' ∧ (w' u ++ wr).Perm (X' u')) :
    Met l y ws rm (pPre D tys X sz av) (pI D tys X sz X' PR') 0 0 (va_A X sz) := by
  intro p e ha hc hk s m args below hf happ hpre hK
  obtain ⟨e1, hsz, hP, hKN, hD⟩ := hpre
  obtain ⟨n, o, h1, h2, h3, ⟨⟨r, u, ho, hr, hP1, hK1, hD1⟩, hF⟩, L, hL, hfree⟩ := hM p e ha hc hk s m args below hf happ ⟨e1, hsz, P_left (P_perm hm hP), hKN, D_left (D_perm hm hD)⟩ hK
  subst hsz
  obtain ⟨u', hr', hp⟩ := h r u hr
  have hDs := hD.self (sz := s.heap.size)
  have hin : ∀ q, va_A wc s.heap.size q → va_A X s.heap.size q := by
    intro q z
    rcases z with ⟨k, e, z⟩ | z
    · have : (q, e) ∈ X := hm.mem_iff.mpr (List.mem_append_left _ (List.mem_of_getElem? z))
      obtain ⟨i, hi⟩ := List.getElem?_of_mem this
      exact Or.inl ⟨i, e, hi⟩
    · exact Or.inr z
  obtain ⟨g1, g2⟩ := joinP (A := va_A X s.heap.size) (P_perm hm hP) (D_perm hm hDs) hF.2 hin hP1 hD1
  exact ⟨n, o, h1, h2, h3, ⟨⟨r, u', ho, hr', P_perm hp g1, hK1, D_perm hp g2⟩, ⟨hF.1, fun q q1 q2 => hF.2 q q1 (fun z => q2 (hin q z))⟩⟩, L, hL, fun q hq => hin _ (hfree q hq)⟩
theorem perm_nil (X : va_W) : X.Perm (X ++ []) := by rw [List.append_nil]
section STEPS8
variable {p : Program} {l : Launch} {e : Env} {R : Room} {s : State} {m : MethodId} {args : Array Value} {below : List Frame} {meth : Method} {c : Code} {H : Heap} {locs : List Loc} {cells slots : Nat} {Q : State → Prop} {pc : Nat} {ls : Array Slot} {rest : List Value} {cc : ByteArray} {D : va_G} {cy : Nat → ClassId} {A : Nat → Prop} {ws : va_W} {ad : Nat} {H0 : Heap}
theorem stH {ws' : va_W} (hexec : p.tables.exec = Jvm.exec) (hb : c.code = cc) (hK : va_K D vwCl (TY cy) s) (hP : va_P D vwCl ws H) (hD : va_D A ws) (hS : va_S A H0 H locs) (q0 : Nat) {n : Nat} {f : Nat → Option Nat} (ha : ws[q0]? = some (ad, wRef (cy 4) n f)) {j v : Nat} (hx : ∃ (qk : Nat) (vs : List Value), ws[qk]? = some (v, .inr (8, vs))) (hj : j < n) (hn : n < 2 ^ 31) (hdg : decode cc pc = .ok (.aastore, 1)) (hw : ws.set q0 (ad, wRef (cy 4) n (va_up f j (some v))) = ws')
    (kk : ∀ (H1 : Heap) (locs1 : List Loc), va_P D vwCl ws' H1 → va_D A ws' → va_S A H0 H1 locs1 → W p l e R s m args below meth c H1 locs1 cells slots Q (F0 m (pc + 1) ls rest)) : W p l e R s m args below meth c H locs cells slots Q (F0 m pc ls (.ref v :: .int (nI j) :: .ref ad :: rest)) := by
  obtain ⟨qk, vs, h1⟩ := hx
  refine va_astq (r := (RX9, TX9, 8)) hexec hb hK hP hD hS q0 4 qk 8 ha rfl h1 rfl (vp_in_nI hj hn) hdg (fun H1 locs1 g1 g2 g3 => ?_)
  rw [nI_clamp (by omega), hw] at g1 g2
  exact kk H1 locs1 g1 g2 g3
end STEPS8
/-- the shelves of what is past -/
abbrev pG (cy : Nat → ClassId) (pa : Nat → Nat) (pb : Nat → Nat → Nat) (pS : Nat → Nat → Option Nat) (pt : Nat → Nat → Int32) : Nat → va_W := fun j => sW cy (pa j) (pb j) (pS j) (pt j)
theorem pG_rot (cy : Nat → ClassId) (pa : Nat → Nat) (pb : Nat → Nat → Nat) (pS : Nat → Nat → Option Nat) (pt : Nat → Nat → Int32) : pG cy (rotN pa) (rotN pb) (rotN pS) (rotN pt) = rotN (pG cy pa pb pS pt) := by
  funext j
  by_cases h1 : j < 23
  · simp only [pG, rotN, if_pos h1]
  · by_cases h2 : j = 23
    · simp only [pG, rotN, if_neg h1, if_pos h2]
    · simp only [pG, rotN, if_neg h1, if_neg h2]
theorem out_f (F : va_W) {G : Nat → va_W} {n j : Nat} (h : j < n) : (F ++ fam G n).Perm (F ++ (G j ++ famX G j n)) := (fam_ex n h).append_left F
theorem in_p (F : va_W) {cy : Nat → ClassId} {pa : Nat → Nat} {pb : Nat → Nat → Nat} {pS : Nat → Nat → Option Nat} {pt : Nat → Nat → Int32} {g : Nat} (hg : g < 24) (S : Nat → Option Nat) (t : Nat → Int32) : (F ++ (sW cy (pa g) (pb g) S t ++ famX (pG cy pa pb pS pt) g 24)).Perm (F ++ fam (pG cy pa pb (va_up pS g S) (va_up pt g t)) 24) := by
  have h := fam_put (G := pG cy pa pb pS pt) (G' := pG cy pa pb (va_up pS g S) (va_up pt g t)) hg (fun i _ hi => by simp only [pG, va_up_ne _ _ hi])
  simp only [pG, va_up_self] at h
  exact h.append_left F
theorem rot_f (F : va_W) {cy : Nat → ClassId} {pa : Nat → Nat} {pb : Nat → Nat → Nat} {pS : Nat → Nat → Option Nat} {pt : Nat → Nat → Int32} : (F ++ fam (pG cy pa pb pS pt) 24).Perm (F ++ fam (pG cy (rotN pa) (rotN pb) (rotN pS) (rotN pt)) 24) := by
  rw [pG_rot]; exact (fam_rot _).append_left F
theorem fam_mem {G : Nat → va_W} {n j : Nat} {x : Nat × va_E} (hj : j < n) (hx : x ∈ G j) : x ∈ fam G n := (fam_ex n hj).mem_iff.mpr (List.mem_append_left _ hx)
theorem obj_f (F : va_W) {cy : Nat → ClassId} {pa : Nat → Nat} {pb : Nat → Nat → Nat} {pS : Nat → Nat → Option Nat} {pt : Nat → Nat → Int32} {j : Nat} (hj : j < 24) : ∃ (qk : Nat) (vs : List Value), (F ++ fam (pG cy pa pb pS pt) 24)[qk]? = some (pa j, .inr (8, vs)) := by
  obtain ⟨i, hi⟩ := List.getElem?_of_mem (List.mem_append_right F (fam_mem (G := pG cy pa pb pS pt) hj List.mem_cons_self))
  exact ⟨i, _, hi⟩
def kpR {α : Type} (ac : Nat) (f : Nat → α) : Nat → α := if ac = 24 then rotN f else f
theorem kpR_y {α : Type} {ac : Nat} (h : ac = 24) (f : Nat → α) : rotN f = kpR ac f := (if_pos h).symm
theorem kpR_n {α : Type} {ac : Nat} (h : ¬ ac = 24) (f : Nat → α) : f = kpR ac f := (if_neg h).symm
theorem nta_lt {a : Nat} (h : a ≤ 24) : nta a < 24 := by rw [nta]; split <;> omega
theorem nta_y {a : Nat} (h : a = 24) : 23 = nta a := (if_pos h).symm
theorem nta_n {a : Nat} (h : ¬ a = 24) : a = nta a := (if_neg h).symm
/-- the loop that moves the row of shelves one on -/
def rotI (pa : Nat → Nat) (i : Nat) : Nat → Option Nat := fun j => if j + 1 < i then some (pa (j + 1)) else some (pa j)
theorem rotI_0 (pa : Nat → Nat) : (fun j => some (pa j)) = rotI pa 1 := by funext j; rw [rotI, if_neg (by omega)]
theorem rotI_at (pa : Nat → Nat) (i : Nat) : rotI pa i i = some (pa i) := by rw [rotI, if_neg (by omega)]
theorem rotI_s (pa : Nat → Nat) {i : Nat} (h : 1 ≤ i) : va_up (rotI pa i) (i - 1) (some (pa i)) = rotI pa (i + 1) := by
  funext j
  by_cases e : j = i - 1
  · subst e; rw [va_up_self, rotI, if_pos (by omega), show i - 1 + 1 = i by omega]
  · rw [va_up_ne _ _ e, rotI, rotI]
    by_cases q : j + 1 < i
    · rw [if_pos q, if_pos (by omega)]
    · rw [if_neg q, if_neg (by omega)]
theorem rotI_e (pa : Nat → Nat) : ∀ j, j < 24 → va_up (rotI pa 24) 23 (some (pa 0)) j = some (rotN pa j) := by
  intro j hj
  by_cases e : j = 23
  · subst e; rw [va_up_self, rotN, if_neg (by decide), if_pos rfl]
  · rw [va_up_ne _ _ e, rotI, if_pos (by omega), rotN, if_pos (by omega)]
/-! rows -/
def rowR (A : Nat → Nat → Int32) (k : Nat) (ln : Int32) (z : Nat) (f : Nat → Int32) : Prop := A 0 k = ln ∧ (ln = -1 ∨ 0 ≤ ln) ∧ z ≤ 40 ∧ (∃ y, y ≤ 40 ∧ A 1 k = nI y) ∧ (¬ ln = -1 → A 1 k = nI z) ∧ ∀ j, j < 40 → f j = A 2 (40 * k + j)
theorem rowR.miss {A : Nat → Nat → Int32} {k : Nat} {ln : Int32} {z : Nat} {f : Nat → Int32} (h : rowR A k ln z f) : ln = -1 ↔ ¬ 0 ≤ A 0 k := by
  rw [h.1]
  constructor
  · intro e; rw [e]; decide
  · intro e
    rcases h.2.1 with q | q
    · exact q
    · exact absurd q e
theorem rowR.neg {A : Nat → Nat → Int32} {k : Nat} {ln : Int32} {z : Nat} {f : Nat → Int32} (h : rowR A k ln z f) : ln = -1 ↔ A 0 k < 0 := h.miss.trans Int32.not_le
theorem zero40_at (f : Nat → Int32) (k : Nat) : ∀ i j, zero40 f k i j = if 40 * k ≤ j ∧ j < 40 * k + i then nI 0 else f j
  | 0, j => by rw [zero40, if_neg (by omega)]
  | i + 1, j => by
    rw [zero40]
    by_cases e : j = 40 * k + i
    · rw [e, pk_us, if_pos (by omega)]
    · rw [pk_un e, zero40_at f k i j]
      by_cases c : 40 * k ≤ j ∧ j < 40 * k + i
      · rw [if_pos c, if_pos (by omega)]
      · rw [if_neg c, if_neg (by omega)]
theorem rowR_row {A : Nat → Nat → Int32} {k m : Nat} {l : Int32} (hl : nI 0 ≤ l) (hm : m ≤ 40) : rowR (va_up (va_up (va_up A 0 (upd (A 0) k l)) 1 (upd (A 1) k (nI m))) 2 (zero40 (A 2) k 40)) k l m (fun _ => nI 0) := by
  refine ⟨pk_us, Or.inr hl, hm, ⟨m, hm, pk_us⟩, fun _ => pk_us, fun j hj => ?_⟩
  show nI 0 = zero40 (A 2) k 40 (40 * k + j)
  rw [zero40_at, if_pos (by omega)]
theorem rowR_rowO {A : Nat → Nat → Int32} {i k : Nat} {l n : Int32} {ln : Int32} {z : Nat} {f : Nat → Int32} (h : rowR A i ln z f) (hi : i ≠ k) : rowR (va_up (va_up (va_up A 0 (upd (A 0) k l)) 1 (upd (A 1) k n)) 2 (zero40 (A 2) k 40)) i ln z f := by
  obtain ⟨h1, h2, h3, ⟨y, h4, h5⟩, h6, h7⟩ := h
  have e1 : upd (A 1) k n i = A 1 i := pk_un hi
  refine ⟨(pk_un hi).trans h1, h2, h3, ⟨y, h4, e1.trans h5⟩, fun q => e1.trans (h6 q), fun j hj => ?_⟩
  show f j = zero40 (A 2) k 40 (40 * i + j)
  rw [zero40_at, if_neg (by omega)]
  exact h7 j hj
theorem rowR_set {A : Nat → Nat → Int32} {k j : Nat} {x ln : Int32} {z : Nat} {f : Nat → Int32} (h : rowR A k ln z f) : rowR (va_up A 2 (upd (A 2) (40 * k + j) x)) k ln z (upd f j x) := by
  obtain ⟨h1, h2, h3, h4, h6, h7⟩ := h
  refine ⟨h1, h2, h3, h4, h6, fun q hq => ?_⟩
  show upd f j x q = upd (A 2) (40 * k + j) x (40 * k + q)
  by_cases e : q = j
  · rw [e, pk_us, pk_us]
  · rw [pk_un e, pk_un (by omega)]; exact h7 q hq
theorem rowR_setO {A : Nat → Nat → Int32} {i k j : Nat} {x ln : Int32} {z : Nat} {f : Nat → Int32} (h : rowR A i ln z f) (hi : i ≠ k) (hj : j < 40) : rowR (va_up A 2 (upd (A 2) (40 * k + j) x)) i ln z f := by
  obtain ⟨h1, h2, h3, h4, h6, h7⟩ := h
  refine ⟨h1, h2, h3, h4, h6, fun q hq => ?_⟩
  show f q = upd (A 2) (40 * k + j) x (40 * i + q)
  rw [pk_un (by omega)]; exact h7 q hq
theorem rowR_drop {A : Nat → Nat → Int32} {k : Nat} {ln : Int32} {z : Nat} {f : Nat → Int32} (h : rowR A k ln z f) : rowR (va_up A 0 (upd (A 0) k (-1))) k (-1) 0 f := by
  obtain ⟨h1, h2, h3, h4, h6, h7⟩ := h
  exact ⟨pk_us, Or.inl rfl, by omega, h4, fun q => absurd rfl q, h7⟩
theorem rowR_dropO {A : Nat → Nat → Int32} {i k : Nat} {x ln : Int32} {z : Nat} {f : Nat → Int32} (h : rowR A i ln z f) (hi : i ≠ k) : rowR (va_up A 0 (upd (A 0) k x)) i ln z f := by
  obtain ⟨h1, h2, h3, h4, h6, h7⟩ := h
  exact ⟨(pk_un hi).trans h1, h2, h3, h4, h6, h7⟩
theorem rowR_cpy {A : Nat → Nat → Int32} {a b i j n : Nat} {la lb : Int32} {za zb : Nat} {fa fb : Nat → Int32} (ha : rowR A a la za fa) (hb : rowR A b lb zb fb) (hi : i + n ≤ 40) : rowR (va_up A 2 (cpyF (A 2) (40 * a + i) (40 * b + j) n)) b lb zb (va_cpy fa fb i j n) := by
  obtain ⟨h1, h2, h3, h4, h6, h7⟩ := hb
  refine ⟨h1, h2, h3, h4, h6, fun q hq => ?_⟩
  show va_cpy fa fb i j n q = cpyF (A 2) (40 * a + i) (40 * b + j) n (40 * b + q)
  rw [va_cpy, cpyF]
  by_cases e : j ≤ q ∧ q < j + n
  · rw [if_pos e, if_pos (by omega), ha.2.2.2.2.2 _ (by omega)]
    congr 1; omega
  · rw [if_neg e, if_neg (by omega)]; exact h7 q hq
theorem rowR_cpyO {A : Nat → Nat → Int32} {c a b j n : Nat} {ln : Int32} {z : Nat} {f : Nat → Int32} (h : rowR A c ln z f) (hc : c ≠ b) (hj : j + n ≤ 40) : rowR (va_up A 2 (cpyF (A 2) a (40 * b + j) n)) c ln z f := by
  obtain ⟨h1, h2, h3, h4, h6, h7⟩ := h
  refine ⟨h1, h2, h3, h4, h6, fun q hq => ?_⟩
  show f q = cpyF (A 2) a (40 * b + j) n (40 * c + q)
  rw [cpyF, if_neg (by omega)]
  exact h7 q hq
theorem prt1 {i : Int32} {z : Nat} (hz : z ≤ 40) : isPrt i (nI 1) (nI z) ↔ (nI 0 ≤ i ∧ i ≤ nI z - nI 1) := by
  constructor
  · intro h
    exact ⟨h.1, h.2.2.2⟩
  · intro h
    obtain ⟨j, h1, rfl⟩ := rng' (by omega) h
    exact prt_1 hz h1
theorem prtN {i n : Int32} {z : Nat} (hz : z ≤ 40) (h : isPrt i n (nI z)) : ∃ a b : Nat, a + b ≤ z ∧ i = nI a ∧ n = nI b := by
  obtain ⟨b, hb, rfl⟩ := rng (m := z) (by omega) ⟨h.2.1, h.2.2.1⟩
  have h4 := h.2.2.2
  rw [pk_sub hb] at h4
  obtain ⟨a, ha, rfl⟩ := rng (m := z - b) (by omega) ⟨h.1, h4⟩
  exact ⟨a, b, by omega, rfl, rfl⟩
theorem clN {k : Nat} (h : k < 100000) : cl (nI k) = k := nI_clamp (by omega)
/-! what is read is right -/
theorem srtF_r (x : Int32) : srtF x = 0 ∨ ∃ t, 1 ≤ t ∧ t ≤ 5 ∧ srtF x = nI t := by
  rw [srtF]
  split
  · exact Or.inr ⟨1, by omega, by omega, rfl⟩
  · split
    · exact Or.inr ⟨2, by omega, by omega, rfl⟩
    · split
      · exact Or.inr ⟨3, by omega, by omega, rfl⟩
      · split
        · exact Or.inr ⟨4, by omega, by omega, rfl⟩
        · split
          · exact Or.inr ⟨5, by omega, by omega, rfl⟩
          · exact Or.inl rfl
theorem crdS_r {f : Nat → Int32} {L p : Nat} (h : ¬ crdS f L p = 0) : ∃ t, 1 ≤ t ∧ t ≤ 5 ∧ crdS f L p = nI t := by
  rw [crdS] at h ⊢
  split at h
  · exact absurd rfl h
  · rename_i q
    rw [if_neg q]
    exact (srtF_r _).resolve_left h
theorem crdX_0 {f : Nat → Int32} {L p : Nat} {rd : Nat → Int32} {n : Nat} (h : crdX f L p rd n = 0) : ¬ crdS f L p = 0 ∧ numOK f L (lp f L p 1) (nI 0) (rd 1 - nI 1) ∧ numOK f L (lp f L p 3) (nI 0) (nI 7) ∧ ¬ tokN f L (lp f L p 3) = nI n := by
  rw [crdX] at h
  by_cases c1 : crdS f L p = 0
  · rw [if_pos c1] at h; cases h
  rw [if_neg c1] at h
  by_cases c2 : n = 8
  · rw [if_pos c2] at h; cases h
  rw [if_neg c2] at h
  by_cases c3 : ¬ numOK f L (lp f L p 1) (nI 0) (rd 1 - nI 1)
  · rw [if_pos c3] at h; exact absurd h (numX_ne _ _ _)
  rw [if_neg c3] at h
  by_cases c4 : ¬ fillN rd (tokN f L (lp f L p 1)) n < rd 2
  · rw [if_pos c4] at h; cases h
  rw [if_neg c4] at h
  by_cases c5 : ¬ tokK f L (lp f L p 2) = nI 44
  · rw [if_pos c5] at h; cases h
  rw [if_neg c5] at h
  by_cases c6 : ¬ numOK f L (lp f L p 3) (nI 0) (nI 7)
  · rw [if_pos c6] at h; exact absurd h (numX_ne _ _ _)
  rw [if_neg c6] at h
  by_cases c7 : tokN f L (lp f L p 3) = nI n
  · rw [if_pos c7] at h; cases h
  exact ⟨c1, Decidable.not_not.mp c3, Decidable.not_not.mp c6, c7⟩
theorem crdA_un {f : Nat → Int32} {L p : Nat} {rd : Nat → Int32} {n j : Nat} (h1 : j ≠ 3) (h2 : j ≠ 13 + n) (h3 : j ≠ 5 + n) (h4 : j ≠ 21 + n) (h5 : j ≠ 29 + n) : crdA f L p rd n j = rd j := by
  rw [crdA, pk_un h1, crdB, pk_un h2, pk_un h3, pk_un h4, pk_un h5]
def rdG (r : Nat → Int32) (n : Nat) : Prop := Cat r n ∧ (∃ dr, 2 ≤ dr ∧ dr ≤ 6 ∧ r 1 = nI dr) ∧ r 4 = nI 1 ∧ r 0 = nI 0
theorem rdG.card {f : Nat → Int32} {L p : Nat} {rd : Nat → Int32} {n : Nat} (h : rdG rd n) (hn : n < 8) (hx : crdX f L p rd n = 0) : rdG (crdA f L p rd n) (n + 1) := by
  obtain ⟨⟨k1, k2, k3, k4, i, q, k5, k6⟩, ⟨dr, d1, d2, d3⟩, h4, h0⟩ := h
  obtain ⟨x1, x2, x3, x4⟩ := crdX_0 hx
  obtain ⟨st, s1, s2, s3⟩ := crdS_r x1
  rw [d3] at x2
  obtain ⟨d, e1, e2⟩ := rng' (by omega) x2.2
  obtain ⟨lk, l1, l2⟩ := rng (by omega) x3.2
  have aL : crdA f L p rd n (13 + n) = nI lk := by rw [crdA, pk_un (by omega), crdB, pk_us, l2]
  have aS : crdA f L p rd n (5 + n) = nI st := by rw [crdA, pk_un (by omega), crdB, pk_un (by omega), pk_us, s3]
  have aI : crdA f L p rd n (21 + n) = nI d := by rw [crdA, pk_un (by omega), crdB, pk_un (by omega), pk_un (by omega), pk_us, e2]
  have aP : crdA f L p rd n (29 + n) = nI (cnt i d n) := by rw [crdA, pk_un (by omega), crdB, pk_un (by omega), pk_un (by omega), pk_un (by omega), pk_us, e2, fill_IQ k5 (by omega)]
  refine ⟨⟨crdA_3 k1, by omega, fun c hc => ?_, fun c hc => ?_, fun k => if k = n then d else i k, fun k => if k = n then cnt i d n else q k, fun c hc => ?_, PP_join k6 d⟩, ⟨dr, d1, d2, ?_⟩, ?_, ?_⟩
  · by_cases e : c = n
    · subst e
      exact ⟨lk, l1, aL, fun z => x4 (by rw [l2, z])⟩
    · rw [crdA_un (by omega) (by omega) (by omega) (by omega) (by omega)]
      exact k3 c (by omega)
  · by_cases e : c = n
    · subst e
      exact ⟨st, s1, s2, aS⟩
    · rw [crdA_un (by omega) (by omega) (by omega) (by omega) (by omega)]
      exact k4 c (by omega)
  · by_cases e : c = n
    · subst e
      simp only [if_true]
      exact ⟨aI, aP, by omega⟩
    · simp only [e, if_false]
      rw [crdA_un (by omega) (by omega) (by omega) (by omega) (by omega), crdA_un (by omega) (by omega) (by omega) (by omega) (by omega)]
      exact k5 c (by omega)
  · rw [crdA_un (by omega) (by omega) (by omega) (by omega) (by omega)]; exact d3
  · rw [crdA_un (by omega) (by omega) (by omega) (by omega) (by omega)]; exact h4
  · rw [crdA_un (by omega) (by omega) (by omega) (by omega) (by omega)]; exact h0
theorem rdG.rd {f : Nat → Int32} {L : Nat} : ∀ (k p : Nat) (rd : Nat → Int32) (n : Nat), n ≤ 8 → rdG rd n → (rdR f L k p rd n).1 = 0 → rdG (rdR f L k p rd n).2.2.1 (rdR f L k p rd n).2.2.2
  | 0, p, rd, n, _, h, _ => h
  | k + 1, p, rd, n, hn, h, h0 => by
    rw [rdR] at h0 ⊢
    by_cases c1 : tokK f L p = -2
    · rw [if_pos c1]; exact h
    · rw [if_neg c1] at h0 ⊢
      by_cases c2 : crdX f L p rd n = 0
      · rw [if_pos c2] at h0 ⊢
        have n8 := crdX_n c2
        exact rdG.rd k _ _ _ (by omega) (h.card (by omega) c2) h0
      · rw [if_neg c2] at h0; exact absurd h0 c2
theorem rdG.red {f : Nat → Int32} {L : Nat} (h0 : (redF f L).1 = 0) : rdG (redF f L).2.2.1 (redF f L).2.2.2 := by
  rw [redF] at h0 ⊢
  by_cases c1 : lawX f L = 0
  · rw [if_neg (fun z => z c1)] at h0 ⊢
    by_cases c2 : tokK f L (lp f L 0 5) = -2
    · rw [if_pos c2] at h0; cases h0
    · rw [if_neg c2] at h0 ⊢
      refine rdG.rd 10 _ _ 0 (by omega) ⟨⟨rfl, by omega, fun c hc => absurd hc (by omega), fun c hc => absurd hc (by omega), fun _ => 0, fun _ => 0, fun c hc => absurd hc (by omega), fun c hc => absurd hc (by omega), fun c c' hc => absurd hc (by omega)⟩, ?_, rfl, rfl⟩ h0
      have l1 := (lawX_0 c1).2.1
      obtain ⟨j, j1, j2⟩ := rng (m := 6) (by omega) ⟨Int32.le_trans (show nI 0 ≤ nI 2 by decide) l1.2.1, l1.2.2⟩
      refine ⟨j, ?_, j1, j2⟩
      have := l1.2.1
      rw [j2] at this
      exact (nIle (by omega) (by omega)).mp this
  · rw [if_pos c1] at h0; exact absurd h0 c1
theorem catR_read {kd : Nat → Nat} {f : Nat → Int32} {L : Nat} {S : Nat → Option Nat} {t : Nat → Int32} {w8 w9 : Int32} (h : rtN kd f L S t w8 w9) (hS : ∀ j, j < 8 → anyS kd (S j)) (h0 : (redF f L).1 = 0) : ∃ n dr, 0 < n ∧ catR kd S t (redF f L).2.2.1 n dr := by
  obtain ⟨-, -, h3⟩ := h
  obtain ⟨k, k1, k2, k3, k4, k5, k6⟩ := h3 h0
  obtain ⟨g1, ⟨dr, d1, d2, d3⟩, g4, g0⟩ := rdG.red h0
  rw [k6] at g1
  exact ⟨k, dr, k1, g1, k5, k4, hS, d3, d2, fun _ => ⟨by omega, g4⟩, fun z => absurd z (by omega), 0, by omega, g0⟩
/-! catalogues of a kind; what is past -/
theorem catR.cong {kd : Nat → Nat} {S : Nat → Option Nat} {t r r' : Nat → Int32} {n dr : Nat} (h : catR kd S t r n dr) (e : ∀ j, j < 37 → r' j = r j) : catR kd S t r' n dr := by
  obtain ⟨hC, hg, hs, hS0, hd, hd6, hp, hz, hb⟩ := h
  have hn := hC.2.1
  refine ⟨hC.lo (fun j _ hj => e j hj), ⟨?_, ?_, ?_, ?_, fun c hc => ⟨?_, ?_, ?_, ?_⟩⟩, hs, hS0, ?_, hd6, fun z => ⟨(hp z).1, ?_⟩, fun z q => hz z ?_, ?_⟩
  · rw [e 0 (by omega)]; exact hg.1
  · rw [e 1 (by omega)]; exact hg.2.1
  · rw [e 2 (by omega)]; exact hg.2.2.1
  · rw [e 3 (by omega)]; exact hg.2.2.2.1
  · rw [e _ (by omega)]; exact hg.s hc
  · rw [e _ (by omega)]; exact hg.l hc
  · rw [e _ (by omega)]; exact hg.i hc
  · rw [e _ (by omega)]; exact hg.p hc
  · rw [e 1 (by omega)]; exact hd
  · rw [e 4 (by omega)]; exact (hp z).2
  · rw [e 4 (by omega)] at q; exact q
  · obtain ⟨k, k1, k2⟩ := hb
    exact ⟨k, k1, by rw [e 0 (by omega)]; exact k2⟩
theorem catR.mv {kd : Nat → Nat} {S : Nat → Option Nat} {t r t' r' : Nat → Int32} {n dr : Nat} (h : catR kd S t r n dr) (hC : Cat r' n) (hg : agr t' r' n) (ht : ∀ j, j < 13 → t' j = t j) (hr0 : NB r' 9999) (hr1 : r' 1 = r 1) (hr4 : r' 4 = r 4) : catR kd S t' r' n dr := by
  obtain ⟨hC0, hg0, hs, hS0, hd, hd6, hp, hz, hb⟩ := h
  have hn := hC.2.1
  refine ⟨hC, hg, fun j hj => ?_, hS0, hr1.trans hd, hd6, fun z => ⟨(hp z).1, hr4.trans (hp z).2⟩, fun z q => hz z (hr4.symm.trans q), hr0⟩
  rw [ht (5 + j) (by omega)]
  exact hs j hj
def pastR (kd : Nat → Nat) (ac : Nat) (pS : Nat → Nat → Option Nat) (pt : Nat → Nat → Int32) (f : Nat → Int32) : Prop := (∀ j, j < 24 → ∀ i, i < 8 → anyS kd (pS j i)) ∧ ∀ j, j < ac → ∃ n dr, catR kd (pS j) (pt j) (fun i => f (37 * j + i)) n dr
theorem rot_any {α : Type} {P : α → Prop} {f : Nat → α} (h : ∀ j, j < 24 → P (f j)) (ac : Nat) : ∀ j, j < 24 → P (kpR ac f j) := by
  intro j hj
  rw [kpR]
  split
  · rw [rotN]
    split
    · exact h _ (by omega)
    · split
      · exact h _ (by omega)
      · exact h _ hj
  · exact h j hj
theorem pastR.keep {kd : Nat → Nat} {ac : Nat} {pS : Nat → Nat → Option Nat} {pt : Nat → Nat → Int32} {f : Nat → Int32} {S : Nat → Option Nat} {t r : Nat → Int32} {n dr : Nat} (h : pastR kd ac pS pt f) (ha : ac ≤ 24) (hR : catR kd S t r n dr) : pastR kd (nta ac + 1) (va_up (kpR ac pS) (nta ac) S) (va_up (kpR ac pt) (nta ac) t) (noteF f ac r) := by
  refine ⟨fun j hj => ?_, fun j hj => ?_⟩
  · by_cases e : j = nta ac
    · rw [e, va_up_self]; exact hR.2.2.2.1
    · rw [va_up_ne _ _ e]
      exact rot_any (P := fun (x : Nat → Option Nat) => ∀ i, i < 8 → anyS kd (x i)) h.1 ac j hj
  · by_cases e : j = nta ac
    · subst e
      rw [va_up_self, va_up_self]
      refine ⟨n, dr, hR.cong (fun i hi => ?_)⟩
      show noteF f ac r (37 * nta ac + i) = r i
      rw [noteF, putF, if_pos (by omega), show 37 * nta ac + i - 37 * nta ac = i by omega]
    · rw [va_up_ne _ _ e, va_up_ne _ _ e]
      by_cases c : ac = 24
      · have en : nta ac = 23 := (nta_y c).symm
        have hj2 : j < 23 := by omega
        obtain ⟨n', dr', g⟩ := h.2 (j + 1) (by omega)
        refine ⟨n', dr', ?_⟩
        have e1 : kpR ac pS j = pS (j + 1) := by rw [← kpR_y c pS, rotN, if_pos hj2]
        have e2 : kpR ac pt j = pt (j + 1) := by rw [← kpR_y c pt, rotN, if_pos hj2]
        rw [e1, e2]
        refine g.cong (fun i hi => ?_)
        show noteF f ac r (37 * j + i) = f (37 * (j + 1) + i)
        rw [noteF, putF, if_neg (by omega), if_pos c, shN, if_pos (by omega)]
        congr 1; omega
      · have en : nta ac = ac := (nta_n c).symm
        obtain ⟨n', dr', g⟩ := h.2 j (by omega)
        refine ⟨n', dr', ?_⟩
        rw [← kpR_n c pS, ← kpR_n c pt]
        refine g.cong (fun i hi => ?_)
        show noteF f ac r (37 * j + i) = f (37 * j + i)
        rw [noteF, putF, if_neg (by omega), if_neg c]
/-- the catalogue, what is past, and how many acts there are -/
def hisR (kd : Nat → Nat) (v : Nat → Int32) (A : Nat → Nat → Int32) (ac : Nat) (S : Nat → Option Nat) (t : Nat → Int32) (pS : Nat → Nat → Option Nat) (pt : Nat → Nat → Int32) : Prop := v 19 = nI ac ∧ ac ≤ 24 ∧ (∃ n dr, catR kd S t (A 12) n dr) ∧ pastR kd ac pS pt (A 18)
theorem agr.trn {t r : Nat → Int32} {n : Nat} (h : agr t r n) (d fl : Int32) : ∀ i, i ≤ n → agr (trnN t d fl i) (trnN r d fl i) n
  | 0, _ => h
  | i + 1, hi => by
    have ih := agr.trn h d fl i (by omega)
    rw [trnN, trnN]
    exact ih.upd (by rw [ih.i (by omega), ih.p (by omega)])
theorem trnN_at (s : Nat → Int32) (d fl : Int32) : ∀ m j, j < 8 → trnN s d fl m (29 + j) = if j < m ∧ s (21 + j) = d then fl - nI 1 - s (29 + j) else s (29 + j)
  | 0, j, _ => by rw [trnN, if_neg (by omega)]
  | m + 1, j, hj => by
    rw [trnN]
    by_cases e : j = m
    · subst e
      rw [pk_us, trnN_lo _ _ _ (by omega), trnN_at s d fl j j hj, if_neg (show ¬ (j < j ∧ s (21 + j) = d) by omega)]
      by_cases c : s (21 + j) = d
      · rw [if_pos c, if_pos ⟨by omega, c⟩]
      · rw [if_neg c, if_neg (fun z => c z.2)]
    · rw [pk_un (by omega), trnN_at s d fl m j hj]
      by_cases c : j < m ∧ s (21 + j) = d
      · rw [if_pos c, if_pos ⟨by omega, c.2⟩]
      · rw [if_neg c, if_neg (fun z => c ⟨by omega, z.2⟩)]
theorem Cat.trn {s : Nat → Int32} {n d : Nat} (h : Cat s n) (hd : d ≤ 7) : Cat (trnN s (nI d) (fillN s (nI d) n) n) n := by
  obtain ⟨k1, k2, k3, k4, i, q, k5, k6⟩ := h
  refine ⟨by rw [trnN_lo _ _ _ (by omega)]; exact k1, k2, fun c hc => ?_, fun c hc => ?_, i, fun k => if i k = d then cnt i d n - 1 - q k else q k, fun c hc => ?_, PP_turn k6 d⟩
  · rw [trnN_lo _ _ _ (by omega)]; exact k3 c hc
  · rw [trnN_lo _ _ _ (by omega)]; exact k4 c hc
  · obtain ⟨a1, a2, a3⟩ := k5 c hc
    refine ⟨by rw [trnN_lo _ _ _ (by omega)]; exact a1, ?_, a3⟩
    rw [trnN_at _ _ _ _ _ (by omega), fill_IQ k5 (by omega), a1, a2]
    by_cases e : i c = d
    · have hq := k6.1 c hc
      rw [e] at hq
      rw [if_pos ⟨hc, by rw [e]⟩, pk_sub (by omega), pk_sub (by omega)]
      simp only [e, if_true]
    · rw [if_neg (fun z => e ((nIe (by omega) (by omega)).mp z.2))]
      simp only [e, if_false]
theorem NB.same {r r' : Nat → Int32} {b : Nat} (h : NB r b) (e : r' 0 = r 0) : NB r' b := by
  obtain ⟨k, k1, k2⟩ := h
  exact ⟨k, k1, e.trans k2⟩
theorem behindS_lo (s : Nat → Int32) (n c : Nat) (d : Int32) {j : Nat} (h : j < 21) : behindS s n c d j = s j := by rw [behindS, inS_lo _ _ _ _ _ h, outS_lo _ _ _ h]
theorem catR.behind {kd : Nat → Nat} {S : Nat → Option Nat} {t r : Nat → Int32} {n dr c d : Nat} (h : catR kd S t r n dr) (hc : c < n) (hd : d ≤ 7) : catR kd S (stS t n c (nI d) (-1000000)) (behindS r n c (nI d)) n dr := by
  have hn := h.1.2.1
  refine h.mv (h.1.behind hc hd) (by rw [st_behind t hn]; exact h.2.1.behind hc _) (fun j hj => stS_lo _ _ _ _ _ (by omega)) (h.2.2.2.2.2.2.2.2.same (behindS_lo _ _ _ _ (by omega))) (behindS_lo _ _ _ _ (by omega)) (behindS_lo _ _ _ _ (by omega))
theorem catR.trn {kd : Nat → Nat} {S : Nat → Option Nat} {t r : Nat → Int32} {n dr d : Nat} (h : catR kd S t r n dr) (hd : d ≤ 7) : catR kd S (trnN t (nI d) (fillN t (nI d) n) n) (trnN r (nI d) (fillN r (nI d) n) n) n dr :=
  h.mv (h.1.trn hd) (by rw [h.2.1.fill]; exact h.2.1.trn _ _ n (Nat.le_refl n)) (fun j hj => trnN_lo _ _ _ (by omega) _) (h.2.2.2.2.2.2.2.2.same (trnN_lo _ _ _ (by omega) _)) (trnN_lo _ _ _ (by omega) _) (trnN_lo _ _ _ (by omega) _)
theorem catR.like {kd : Nat → Nat} {S : Nat → Option Nat} {t r : Nat → Int32} {n dr c o : Nat} (h : catR kd S t r n dr) (hc : c < n) (ho : o ≤ 7) (hoc : o ≠ c) : catR kd S (upd t (13 + c) (nI o)) (upd r (13 + c) (nI o)) n dr := by
  have hn := h.1.2.1
  refine h.mv ?_ (h.2.1.upd rfl) (fun j hj => pk_un (by omega)) (h.2.2.2.2.2.2.2.2.same (pk_un (by omega))) (pk_un (by omega)) (pk_un (by omega))
  obtain ⟨k1, k2, k3, k4, i, q, k5, k6⟩ := h.1
  refine ⟨by rw [pk_un (by omega)]; exact k1, k2, fun x hx => ?_, fun x hx => ?_, i, q, fun x hx => ?_, k6⟩
  · by_cases e : x = c
    · subst e; exact ⟨o, ho, pk_us, hoc⟩
    · rw [pk_un (by omega)]; exact k3 x hx
  · rw [pk_un (by omega)]; exact k4 x hx
  · rw [pk_un (by omega), pk_un (by omega)]; exact k5 x hx
theorem catR.night {kd : Nat → Nat} {S : Nat → Option Nat} {t r : Nat → Int32} {n dr b : Nat} (h : catR kd S t r n dr) (hb : NB r b) (hb2 : b + 1 ≤ 9999) : catR kd S (pnS t n (nI 0)) (nightS r n (nI 0)) n dr := by
  have hn := h.1.2.1
  obtain ⟨g1, g2, g3⟩ := h.2.1.pn (x := 0) h.1 hb (by omega) (by omega)
  have e : ∀ j, 1 ≤ j → j < 5 → nightS r n (nI 0) j = r j := fun j j1 j2 => by
    rw [← pn_eq h.1 hb (by omega) (by omega)]; exact pnS_lo _ _ _ j1 (by omega)
  have hs := h.2.2.1.night hn (nI 0)
  obtain ⟨hC0, hg0, -, hS0, hd, hd6, hp, hz, -⟩ := h
  exact ⟨g2, g1, hs, hS0, (e 1 (by omega) (by omega)).trans hd, hd6, fun z => ⟨(hp z).1, (e 4 (by omega) (by omega)).trans (hp z).2⟩, fun z q => hz z ((e 4 (by omega) (by omega)).symm.trans q), g3.le hb2⟩
