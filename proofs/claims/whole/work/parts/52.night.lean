theorem stS_lo (t : Nat → Int32) (n c : Nat) (d o : Int32) {j : Nat} (h : j < 21) : stS t n c d o j = t j := by rw [stS, inS_lo _ _ _ _ _ h, outS_lo _ _ _ h]
theorem goF_lo (t : Nat → Int32) (n c k : Nat) {j : Nat} (h : j < 21) : goF t n c k j = t j := by rw [goF]; split <;> first | rfl | exact stS_lo _ _ _ _ _ h
theorem goW_lo (t : Nat → Int32) (n c k : Nat) {j : Nat} (h : j < 21) : goW t n c k j = t j := by rw [goW]; split <;> first | rfl | exact stS_lo _ _ _ _ _ h
theorem wanF_lo (t : Nat → Int32) (n c : Nat) {j : Nat} (h : j < 21) : wanF t n c j = t j := by
  rw [wanF]; split
  · rfl
  · split
    · exact stS_lo _ _ _ _ _ h
    · exact goF_lo _ _ _ _ h
theorem wanW_lo (t : Nat → Int32) (n c : Nat) {j : Nat} (h : j < 21) : wanW t n c j = t j := by
  rw [wanW]; split
  · rfl
  · split
    · exact stS_lo _ _ _ _ _ h
    · exact goW_lo _ _ _ _ h
theorem wanB_lo (t : Nat → Int32) (n c : Nat) {j : Nat} (h : j < 21) : wanB t n c j = t j := by
  rw [wanB]; split
  · rfl
  · exact cpS_lo _ _ _ (by omega)
/-- the turn of card i by its kind -/
def wanK (t : Nat → Int32) (n i : Nat) : Nat → Int32 :=
  if t (5 + i) = nI 1 then wanF t n i
  else if t (5 + i) = nI 2 then (if t 0 - t 0 / nI 2 * nI 2 = 0 then wanF t n i else t)
  else if t (5 + i) = nI 3 then wanW t n i
  else if t (5 + i) = nI 4 then t
  else wanB t n i
theorem wanK_lo (t : Nat → Int32) (n i : Nat) {j : Nat} (h : j < 21) : wanK t n i j = t j := by
  rw [wanK]
  split
  · exact wanF_lo _ _ _ h
  · split
    · split
      · exact wanF_lo _ _ _ h
      · rfl
    · split
      · exact wanW_lo _ _ _ h
      · split
        · rfl
        · exact wanB_lo _ _ _ h
def pnN (t : Nat → Int32) (n : Nat) (a : Int32) : Nat → (Nat → Int32)
  | 0 => t
  | i + 1 => if (a >>> (nI i &&& 31)) &&& nI 1 = 0 then wanK (pnN t n a i) n i else pnN t n a i
theorem pnN_lo (t : Nat → Int32) (n : Nat) (a : Int32) {j : Nat} (h : j < 21) : ∀ i, pnN t n a i j = t j
  | 0 => rfl
  | i + 1 => by
    rw [pnN]; split
    · rw [wanK_lo _ _ _ h]; exact pnN_lo t n a h i
    · exact pnN_lo t n a h i
def pnS (t : Nat → Int32) (n : Nat) (a : Int32) : Nat → Int32 := upd (pnN t n a n) 0 (pnN t n a n 0 + nI 1)
theorem pnS_hi (t : Nat → Int32) (n : Nat) (a : Int32) {j : Nat} (h : 1 ≤ j) : pnN t n a n j = pnS t n a j := by rw [pnS, pk_un (by omega)]
/-- the sorts of a shelf are the kinds' objects -/
def srts (kd : Nat → Nat) (S : Nat → Option Nat) (t : Nat → Int32) (n : Nat) : Prop := ∀ j, j < n → ∃ k, 1 ≤ k ∧ k ≤ 5 ∧ t (5 + j) = nI k ∧ S j = some (kd k)
theorem srts.lo {kd : Nat → Nat} {S : Nat → Option Nat} {t t' : Nat → Int32} {n : Nat} (h : srts kd S t n) (hn : n ≤ 8) (e : ∀ j, j < 21 → t' j = t j) : srts kd S t' n := fun j hj => by
  rw [e _ (by omega)]; exact h j hj
section STEPS6
variable {p : Program} {l : Launch} {e : Env} {R : Room} {s : State} {m : MethodId} {args : Array Value} {below : List Frame} {meth : Method} {c : Code} {H : Heap} {locs : List Loc} {cells slots : Nat} {Q : State → Prop} {pc : Nat} {ls : Array Slot} {rest : List Value} {cc : ByteArray} {D : va_G} {cy : Nat → ClassId} {A : Nat → Prop} {ws : va_W} {ad : Nat} {H0 : Heap}
/-- what may be stored into a row of kinds: nothing, or an object of the world that is one -/
def okK (ws : va_W) (s : State) (x : Option Nat) : Prop := x = none ∨ ∃ (v qk ci : Nat) (r : vw_C) (vs : List Value), x = some v ∧ ws[qk]? = some (v, .inr (ci, vs)) ∧ vwCl[ci]? = some r ∧ va_Nw (.castable r.1 "DrawerCards$Kind") s
theorem stK {ws' : va_W} (hexec : p.tables.exec = Jvm.exec) (hb : c.code = cc) (hK : va_K D vwCl (TY cy) s) (hP : va_P D vwCl ws H) (hD : va_D A ws) (hS : va_S A H0 H locs) (q0 : Nat) {n : Nat} {f : Nat → Option Nat} (ha : ws[q0]? = some (ad, wRef (cy 2) n f)) {j : Nat} {x : Option Nat} (hx : okK ws s x) (hj : j < n) (hn : n < 2 ^ 31) (hdg : decode cc pc = .ok (.aastore, 1)) (hw : ws.set q0 (ad, wRef (cy 2) n (va_up f j x)) = ws')
    (kk : ∀ (H1 : Heap) (locs1 : List Loc), va_P D vwCl ws' H1 → va_D A ws' → va_S A H0 H1 locs1 → W p l e R s m args below meth c H1 locs1 cells slots Q (F0 m (pc + 1) ls rest)) : W p l e R s m args below meth c H locs cells slots Q (F0 m pc ls (va_rf x :: .int (nI j) :: .ref ad :: rest)) := by
  rcases hx with rfl | ⟨v, qk, ci, r, vs, rfl, h1, h2, h3⟩
  · refine va_astqN hexec hb hK hP hD hS q0 2 ha rfl (vp_in_nI hj hn) hdg (fun H1 locs1 g1 g2 g3 => ?_)
    rw [nI_clamp (by omega), hw] at g1 g2
    exact kk H1 locs1 g1 g2 g3
  · refine va_astqO hexec hb hK hP hD hS q0 2 qk ci ha rfl h3 h1 h2 (vp_in_nI hj hn) hdg (fun H1 locs1 g1 g2 g3 => ?_)
    rw [nI_clamp (by omega), hw] at g1 g2
    exact kk H1 locs1 g1 g2 g3
end STEPS6
/-- the five kinds -/
abbrev kW (kd : Nat → Nat) : va_W := [(kd 1, .inr (3, [])), (kd 2, .inr (4, [])), (kd 3, .inr (9, [])), (kd 4, .inr (6, [])), (kd 5, .inr (1, []))]
def anyS (kd : Nat → Nat) (x : Option Nat) : Prop := x = none ∨ ∃ k, 1 ≤ k ∧ k ≤ 5 ∧ x = some (kd k)
theorem okK_of {D : va_G} {tys : List (ClassId × FieldType)} {s : State} {kd : Nat → Nat} {ws : va_W} {x : Option Nat} (hKN : KN D tys s) (i : Nat) (h : anyS kd x) (hw : ∀ k, k < 5 → ws[i + k]? = (kW kd)[k]?) : okK ws s x := by
  rcases h with h | ⟨k, h1, h5, h⟩
  · exact Or.inl h
  · right
    have hc : ∀ C, C ∈ ["DrawerCards$Free", "DrawerCards$Old", "DrawerCards$Wild", "DrawerCards$Rod", "DrawerCards$Blank"] → va_Nw (.castable C "DrawerCards$Kind") s := fun C hC => hKN.2.1 _ (by
      simp only [List.mem_cons, List.not_mem_nil, or_false] at hC
      rcases hC with rfl | rfl | rfl | rfl | rfl <;> decide +kernel)
    rcases (show k = 1 ∨ k = 2 ∨ k = 3 ∨ k = 4 ∨ k = 5 by omega) with rfl | rfl | rfl | rfl | rfl
    · exact ⟨_, i + 0, 3, _, _, h, hw 0 (by decide), rfl, hc _ (by decide +kernel)⟩
    · exact ⟨_, i + 1, 4, _, _, h, hw 1 (by decide), rfl, hc _ (by decide +kernel)⟩
    · exact ⟨_, i + 2, 9, _, _, h, hw 2 (by decide), rfl, hc _ (by decide +kernel)⟩
    · exact ⟨_, i + 3, 6, _, _, h, hw 3 (by decide), rfl, hc _ (by decide +kernel)⟩
    · exact ⟨_, i + 4, 1, _, _, h, hw 4 (by decide), rfl, hc _ (by decide +kernel)⟩
theorem nightP {D : va_G} {cy : Nat → ClassId} {kd : Nat → Nat} {a : Nat} {b : Nat → Nat} {S : Nat → Option Nat} {t t2 : Nat → Int32} {n i : Nat} {sl : Int32} {H : Heap} (hi : i = n) (e2 : t2 = pnN t n sl i) (hP : va_P D vwCl (kW kd ++ [(a, .inr (8, [.ref (b 0), .ref (b 1), .ref (b 2), .ref (b 3), .int (t2 1), .int (t2 2), .int (t2 3), .int (t2 0 + nI 1)])), (b 0, wRef (cy 2) 8 S), (b 1, wInt (cy 0) 8 (fun j => t2 (13 + j))), (b 2, wInt (cy 0) 8 (fun j => t2 (21 + j))), (b 3, wInt (cy 0) 8 (fun j => t2 (29 + j)))]) H) : va_P D vwCl (kW kd ++ sW cy a b S (pnS t n sl)) H := by
  subst hi; subst e2
  have h1 := p_sub hP [0, 1, 2, 3, 4] (w := kW kd) rfl
  have h2 := p_sub hP [5, 6, 7, 8, 9] (w := [(a, .inr (8, [.ref (b 0), .ref (b 1), .ref (b 2), .ref (b 3), .int (pnN t i sl i 1), .int (pnN t i sl i 2), .int (pnN t i sl i 3), .int (pnN t i sl i 0 + nI 1)])), (b 0, wRef (cy 2) 8 S), (b 1, wInt (cy 0) 8 (fun j => pnN t i sl i (13 + j))), (b 2, wInt (cy 0) 8 (fun j => pnN t i sl i (21 + j))), (b 3, wInt (cy 0) 8 (fun j => pnN t i sl i (29 + j)))]) rfl
  exact va_P.app h1 (sWc (t := pnS t i sl) h2 (pnS_hi _ _ _ (by omega)) (pnS_hi _ _ _ (by omega)) (pnS_hi _ _ _ (by omega)) (by rw [pnS, pk_us]) (fun j hj => pnS_hi _ _ _ (by omega)) (fun j hj => pnS_hi _ _ _ (by omega)) (fun j hj => pnS_hi _ _ _ (by omega)))
theorem D_list {A : Nat → Prop} {w w' : va_W} (hD : va_D A w) (he : w'.map (fun q => q.1) = w.map (fun q => q.1)) : va_D A w' := by
  have key : ∀ (k : Nat) (x : Nat × va_E), w'[k]? = some x → ∃ x', w[k]? = some x' ∧ x'.1 = x.1 := by
    intro k x hk
    have h1 : (w'.map (fun q => q.1))[k]? = some x.1 := by rw [List.getElem?_map, hk]; rfl
    rw [he, List.getElem?_map] at h1
    cases hw : w[k]? with
    | none => rw [hw] at h1; cases h1
    | some y => rw [hw] at h1; exact ⟨y, rfl, Option.some.inj h1⟩
  refine ⟨fun i j x y hx hy hxy => ?_, fun k x hk => ?_⟩
  · obtain ⟨x', h1, h2⟩ := key i x hx
    obtain ⟨y', h3, h4⟩ := key j y hy
    exact hD.1 i j x' y' h1 h3 (by rw [h2, h4]; exact hxy)
  · obtain ⟨x', h1, h2⟩ := key k x hk
    rw [← h2]; exact hD.2 k x' h1
