/-! worlds up to order, families of cells, calls over a part of a world -/
theorem P_perm {D : va_G} {ws ws' : va_W} {H : Heap} (h : ws.Perm ws') (hP : va_P D vwCl ws H) : va_P D vwCl ws' H := fun k q hk => by
  obtain ⟨i, hi⟩ := List.getElem?_of_mem (h.mem_iff.mpr (List.mem_of_getElem? hk))
  exact hP i q hi
theorem D_iff {A : Nat → Prop} {ws : va_W} : va_D A ws ↔ (ws.map (fun q => q.1)).Nodup ∧ ∀ q ∈ ws, A q.1 := by
  constructor
  · intro h
    refine ⟨List.pairwise_iff_getElem.mpr (fun i j hi hj hij e => ?_), fun q hq => ?_⟩
    · rw [List.getElem_map, List.getElem_map] at e
      rw [List.length_map] at hi hj
      have := h.1 i j _ _ (List.getElem?_eq_getElem hi) (List.getElem?_eq_getElem hj) e
      omega
    · obtain ⟨i, hi⟩ := List.getElem?_of_mem hq
      exact h.2 i q hi
  · rintro ⟨h1, h2⟩
    have key : ∀ (i j : Nat) (x y : Nat × va_E), i < j → ws[i]? = some x → ws[j]? = some y → x.1 = y.1 → False := by
      intro i j x y hij hx hy e
      obtain ⟨a1, a2⟩ := List.getElem?_eq_some_iff.mp hx
      obtain ⟨b1, b2⟩ := List.getElem?_eq_some_iff.mp hy
      refine List.pairwise_iff_getElem.mp h1 i j (by rw [List.length_map]; exact a1) (by rw [List.length_map]; exact b1) hij ?_
      rw [List.getElem_map, List.getElem_map, a2, b2]; exact e
    refine ⟨fun i j x y hx hy e => ?_, fun k q hk => h2 q (List.mem_of_getElem? hk)⟩
    rcases Nat.lt_trichotomy i j with q | q | q
    · exact absurd (key i j x y q hx hy e) (fun z => z)
    · exact q
    · exact absurd (key j i y x q hy hx e.symm) (fun z => z)
theorem D_perm {A : Nat → Prop} {ws ws' : va_W} (h : ws.Perm ws') (hD : va_D A ws) : va_D A ws' := by
  rw [D_iff] at hD ⊢
  exact ⟨(h.map _).nodup_iff.mp hD.1, fun q hq => hD.2 q (h.mem_iff.mpr hq)⟩
theorem P_left {D : va_G} {w1 w2 : va_W} {H : Heap} (h : va_P D vwCl (w1 ++ w2) H) : va_P D vwCl w1 H := fun k q hk => h k q (by rw [List.getElem?_append_left (List.getElem?_eq_some_iff.mp hk).1]; exact hk)
theorem D_left {A : Nat → Prop} {w1 w2 : va_W} (h : va_D A (w1 ++ w2)) : va_D A w1 :=
  ⟨fun i j x y hx hy e => h.1 i j x y (by rw [List.getElem?_append_left (List.getElem?_eq_some_iff.mp hx).1]; exact hx) (by rw [List.getElem?_append_left (List.getElem?_eq_some_iff.mp hy).1]; exact hy) e,
   fun k q hk => h.2 k q (by rw [List.getElem?_append_left (List.getElem?_eq_some_iff.mp hk).1]; exact hk)⟩
/-- cells brought to the front, one after the other: each place counts in what is left -/
def pick : va_W → List Nat → va_W
  | X, [] => X
  | X, i :: is => match X[i]? with
    | some a => a :: pick (X.eraseIdx i) is
    | none => X
theorem erase_perm : ∀ (X : va_W) (i : Nat) (a : Nat × va_E), X[i]? = some a → X.Perm (a :: X.eraseIdx i)
  | [], i, a, h => by simp at h
  | b :: X, 0, a, h => by
    rw [List.getElem?_cons_zero] at h
    cases h
    exact List.Perm.refl _
  | b :: X, i + 1, a, h => by
    rw [List.getElem?_cons_succ] at h
    rw [List.eraseIdx_cons_succ]
    exact (List.Perm.cons b (erase_perm X i a h)).trans (List.Perm.swap a b _)
theorem pick_perm : ∀ (is : List Nat) (X : va_W), X.Perm (pick X is)
  | [], X => List.Perm.refl X
  | i :: is, X => by
    rw [pick]
    split
    · rename_i a h
      exact (erase_perm X i a h).trans (List.Perm.cons a (pick_perm is _))
    · exact List.Perm.refl X
theorem joinP {A : Nat → Prop} {D : va_G} {wc wr w1 : va_W} {H H1 : Heap} (hP : va_P D vwCl (wc ++ wr) H) (hD : va_D A (wc ++ wr)) (hk : ∀ q : Nat, q < H.size → ¬ va_A wc H.size q → H1[q]? = H[q]?) (hF : ∀ q, va_A wc H.size q → A q) (hP1 : va_P D vwCl w1 H1) (hD1 : va_D (va_A wc H.size) w1) : va_P D vwCl (w1 ++ wr) H1 ∧ va_D A (w1 ++ wr) := by
  have at' : ∀ (k : Nat) (q : Nat × va_E), wr[k]? = some q → (wc ++ wr)[wc.length + k]? = some q := fun k q hq => by
    rw [List.getElem?_append_right (by omega), Nat.add_sub_cancel_left]; exact hq
  have apart : ∀ (k : Nat) (q : Nat × va_E), wr[k]? = some q → q.1 < H.size ∧ ¬ va_A wc H.size q.1 := by
    intro k q hq
    have hl := (hP _ q (at' k q hq)).lt
    refine ⟨hl, fun h => ?_⟩
    rcases h with ⟨k2, e, h⟩ | h
    · have l2 := (List.getElem?_eq_some_iff.mp h).1
      have := hD.1 _ _ q (q.1, e) (at' k q hq) (by rw [List.getElem?_append_left l2]; exact h) rfl
      omega
    · omega
  have hDr : va_D A wr := by
    refine ⟨fun i j x y hx hy e => ?_, fun k q hk => hD.2 _ q (at' k q hk)⟩
    have := hD.1 _ _ x y (at' i x hx) (at' j y hy) e
    omega
  refine ⟨va_P.app hP1 (fun k q hq => ?_), va_D.app (hD1.weaken (fun k q _ h => hF q.1 h)) hDr (fun i j x y hx hy hxy => ?_)⟩
  · obtain ⟨g1, g2⟩ := apart k q hq
    exact (hP _ q (at' k q hq)).kept (hk q.1 g1 g2)
  · exact (apart j y hy).2 (by rw [← hxy]; exact hD1.2 i x hx)
theorem freeP {A : Nat → Prop} {ws wc wr : va_W} {H0 H : Heap} {locs : List Loc} (hD : va_D A ws) (hS : va_S A H0 H locs) (hA : ∀ q, H0.size ≤ q → A q) (hm : ws.Perm (wc ++ wr)) : ∀ q, va_A wc H.size q → A q := by
  intro q h
  rcases h with ⟨k, e, h⟩ | h
  · exact (D_left (D_perm hm hD)).2 k (q, e) h
  · exact hA q (Nat.le_trans hS.1 h)
theorem pre_SP {s : State} {H : Heap} {D : va_G} {tys : List (ClassId × FieldType)} {A : Nat → Prop} {ws wc wr : va_W} {As : List Value} (hK : KN D tys s) (hP : va_P D vwCl ws H) (hD : va_D A ws) (hm : ws.Perm (wc ++ wr)) : PreS s H (pPre D tys wc H.size As) As :=
  ⟨fun a U g mk q => by obtain ⟨q0, q1, qP, qK, qD⟩ := q; exact ⟨q0, q1, qP, qK.calls, qD⟩, fun U hU hW => ⟨rfl, by rw [hU], by rw [hU]; exact P_left (P_perm hm hP), hK.warm hW, (D_left (D_perm hm hD)).weaken (fun _ _ _ _ => trivial)⟩⟩
theorem pre_VP {s : State} {H : Heap} {D : va_G} {tys : List (ClassId × FieldType)} {A : Nat → Prop} {ws wc wr : va_W} {b : Addr} {As : List Value} (hK : KN D tys s) (hP : va_P D vwCl ws H) (hD : va_D A ws) (hm : ws.Perm (wc ++ wr)) (q0 ci : Nat) {r : vw_C} {fs : List Value} (hc : vwCl[ci]? = some r) (he : wc[q0]? = some (b, .inr (ci, fs))) : PreV s H r.1 b (pPre D tys wc H.size (.ref b :: As)) As :=
  ⟨(pre_SP (As := .ref b :: As) hK hP hD hm).1, va_recv hK.1 (P_left (P_perm hm hP)) (ci := ci) (q0 := q0) hc he, (pre_SP (As := .ref b :: As) hK hP hD hm).2⟩
section CALLP
variable {p : Program} {l : Launch} {e : Env} {R : Room} {s : State} {m : MethodId} {args : Array Value} {below : List Frame} {meth : Method} {c : Code} {H : Heap} {locs : List Loc} {cells slots : Nat} {Q : State → Prop} {pc : Nat} {ls : Array Slot} {st0 rest : List Value} {D : va_G} {tys : List (ClassId × FieldType)} {A : Nat → Prop} {a : Array Value}
theorem p_backP {S : Type} {ws wc wr : va_W} {w' ws' : S → va_W} (hS : va_S A s.heap H locs) (hA : ∀ q : Nat, s.heap.size ≤ q → A q) (hP : va_P D vwCl ws H) (hD : va_D A ws) (hm : ws.Perm (wc ++ wr)) (hm' : ∀ u, (w' u ++ wr).Perm (ws' u)) {u : S} {t : State} {H1 : Heap} (ht : t.heap = H1) (hk : ∀ q : Nat, q < H.size → ¬ va_A wc H.size q → H1[q]? = H[q]?) (hB : va_P D vwCl (w' u) t.heap ∧ va_K D vwCl tys t ∧ va_D (va_A wc H.size) (w' u)) : va_P D vwCl (ws' u) H1 ∧ va_D A (ws' u) := by
  obtain ⟨hP1, hK1, hD1⟩ := hB
  rw [ht] at hP1
  obtain ⟨g1, g2⟩ := joinP (P_perm hm hP) (D_perm hm hD) hk (freeP hD hS hA hm) hP1 hD1
  exact ⟨P_perm (hm' u) g1, D_perm (hm' u) g2⟩
theorem call_iP {S : Type} {ws wc wr : va_W} {w' ws' : S → va_W} {PR : Int32 → S → Prop} (hr : va_Run p l e R s m args below meth c H locs cells slots 0 0 (F0 m pc ls st0) rest (pI D tys wc H.size w' PR a) (va_A wc H.size))
    (hS : va_S A s.heap H locs) (hA : ∀ q : Nat, s.heap.size ≤ q → A q) (hP : va_P D vwCl ws H) (hD : va_D A ws) (hm : ws.Perm (wc ++ wr)) (hm' : ∀ u, (w' u ++ wr).Perm (ws' u))
    (kk : ∀ (r : Int32) (u : S) (H1 : Heap) (locs1 : List Loc), PR r u → va_P D vwCl (ws' u) H1 → va_D A (ws' u) → va_S A s.heap H1 locs1 → W p l e R s m args below meth c H1 locs1 cells slots Q (F0 m (pc + 3) ls (.int r :: rest))) : W p l e R s m args below meth c H locs cells slots Q (F0 m pc ls st0) := by
  refine va_calli hr hS (fun q _ h => freeP hD hS hA hm q h) (freeP hD hS hA hm) (fun r u t H1 locs1 ht hvm hw hB hz1 hk1 hS1 => ?_)
  obtain ⟨g1, g2⟩ := p_backP (ws' := ws') hS hA hP hD hm hm' ht hk1 hB
  exact kk r u H1 locs1 hw g1 g2 hS1
theorem call_vP {S : Type} {ws wc wr : va_W} {w' ws' : S → va_W} {PR : S → Prop} (hr : va_Run p l e R s m args below meth c H locs cells slots 0 0 (F0 m pc ls st0) rest (pV D tys wc H.size w' PR a) (va_A wc H.size))
    (hS : va_S A s.heap H locs) (hA : ∀ q : Nat, s.heap.size ≤ q → A q) (hP : va_P D vwCl ws H) (hD : va_D A ws) (hm : ws.Perm (wc ++ wr)) (hm' : ∀ u, (w' u ++ wr).Perm (ws' u))
    (kk : ∀ (u : S) (H1 : Heap) (locs1 : List Loc), PR u → va_P D vwCl (ws' u) H1 → va_D A (ws' u) → va_S A s.heap H1 locs1 → W p l e R s m args below meth c H1 locs1 cells slots Q (F0 m (pc + 3) ls rest)) : W p l e R s m args below meth c H locs cells slots Q (F0 m pc ls st0) := by
  refine va_callv hr hS (fun q _ h => freeP hD hS hA hm q h) (freeP hD hS hA hm) (fun u t H1 locs1 ht hvm hw hB hz1 hk1 hS1 => ?_)
  obtain ⟨g1, g2⟩ := p_backP (ws' := ws') hS hA hP hD hm hm' ht hk1 hB
  exact kk u H1 locs1 hw g1 g2 hS1
end CALLP
/-- a family: the cells of each of n -/
def fam (G : Nat → va_W) : Nat → va_W
  | 0 => []
  | n + 1 => fam G n ++ G n
def famX (G : Nat → va_W) (j n : Nat) : va_W := fam (fun i => if i = j then [] else G i) n
theorem fam_congr {G G' : Nat → va_W} : ∀ n, (∀ i, i < n → G i = G' i) → fam G n = fam G' n
  | 0, _ => rfl
  | n + 1, h => by rw [fam, fam, fam_congr n (fun i hi => h i (by omega)), h n (by omega)]
theorem fam_ex {G : Nat → va_W} {j : Nat} : ∀ n, j < n → (fam G n).Perm (G j ++ famX G j n)
  | 0, h => absurd h (by omega)
  | n + 1, h => by
    rw [famX, fam, fam]
    by_cases e : j = n
    · subst e
      rw [if_pos rfl, List.append_nil, fam_congr (G := fun i => if i = j then [] else G i) (G' := G) j (fun i hi => if_neg (by omega))]
      exact List.perm_append_comm
    · rw [if_neg (by omega), ← List.append_assoc]
      exact (fam_ex n (by omega)).append_right _
theorem famX_congr {G G' : Nat → va_W} {j n : Nat} (h : ∀ i, i < n → i ≠ j → G i = G' i) : famX G j n = famX G' j n :=
  fam_congr n (fun i hi => by
    by_cases e : i = j
    · rw [if_pos e, if_pos e]
    · rw [if_neg e, if_neg e, h i hi e])
theorem fam_put {G G' : Nat → va_W} {j n : Nat} (hj : j < n) (h : ∀ i, i < n → i ≠ j → G i = G' i) : (G' j ++ famX G j n).Perm (fam G' n) := by
  rw [famX_congr h]; exact (fam_ex n hj).symm
theorem fam_cons (G : Nat → va_W) : ∀ n, (fam G (n + 1)).Perm (G 0 ++ fam (fun i => G (i + 1)) n)
  | 0 => by rw [fam, fam, fam, List.nil_append, List.append_nil]
  | n + 1 => by
    have e : fam (fun i => G (i + 1)) (n + 1) = fam (fun i => G (i + 1)) n ++ G (n + 1) := rfl
    have e2 : fam G (n + 1 + 1) = fam G (n + 1) ++ G (n + 1) := rfl
    rw [e, e2, ← List.append_assoc]
    exact (fam_cons G n).append_right _
def rotN {α : Type} (f : Nat → α) : Nat → α := fun j => if j < 23 then f (j + 1) else if j = 23 then f 0 else f j
theorem fam_rot (G : Nat → va_W) : (fam G 24).Perm (fam (rotN G) 24) := by
  refine (fam_cons G 23).trans ?_
  have e0 : fam (rotN G) 24 = fam (rotN G) 23 ++ rotN G 23 := rfl
  have e1 : fam (rotN G) 23 = fam (fun i => G (i + 1)) 23 := fam_congr 23 (fun i hi => if_pos hi)
  have e2 : rotN G 23 = G 0 := by rw [rotN, if_neg (by decide), if_pos rfl]
  rw [e0, e1, e2]
  exact List.perm_append_comm
