/-! a method that answers an object or nothing -/
def pO {S : Type} (D : va_G) (tys : List (ClassId × FieldType)) (w : va_W) (sz : Nat) (w' : S → va_W) (PR : Option Nat → S → Prop) : Array Value → State → Outcome → State → Prop := fun _ st oc t =>
  (∃ (x : Option Nat) (u : S), oc = .returned (some (va_rf x)) ∧ PR x u ∧ va_P D vwCl (w' u) t.heap ∧ va_K D vwCl tys t ∧ va_D (va_A w sz) (w' u)) ∧ va_F (va_A w sz) st t
theorem ent_o {S : Type} {l : Launch} {y : MethodName} {cc : ByteArray} {maxL : Nat} {wsw wst : List Cond} {rm : Room} {D : va_G} {tys : List (ClassId × FieldType)} {w : va_W} {sz : Nat} {av : List Value} {w' : S → va_W} {PR : Option Nat → S → Prop} {C : String}
    (hy : plainName y.cls = true) (hw : wsw = Cond.code y cc maxL (some (.object C)) :: wst) (hlen : (lg_sl av).length ≤ maxL)
    (body : ∀ (p : Program) (e : Env) (s : State) (m : MethodId) (args : Array Value) (below : List Frame) (meth : Method) (c : Code) (A : Nat → Prop) (Q : State → Prop) (ls : Array Slot), Bd l y cc maxL wsw rm D tys w av p s m args c A ls →
      (∀ (r : Option Nat) (u : S) (H : Heap) (locs : List Loc) (pc : Nat) (ls : Array Slot), decode cc pc = .ok (.areturn, 1) → PR r u → va_P D vwCl (w' u) H → va_D A (w' u) → va_S A s.heap H locs → W p l e rm s m args below meth c H locs 0 0 Q (F0 m pc ls [va_rf r])) →
      W p l e rm s m args below meth c s.heap [] 0 0 Q (F0 m 0 ls [])) : Met l y wsw rm (pPre D tys w sz av) (pO D tys w sz w' PR) 0 0 (va_A w sz) := by
  refine Met.ofW (cc := cc) (maxL := maxL) (ret := some (.object C)) hy hw ?_
  intro p e s m args below meth c s₁ B hml hv
  obtain ⟨rfl, hsz, hP, hK, hD0⟩ := hv
  have hts := atoms_spec (ws := wsw) B.pre
  have hown : s.vm.findClass y.cls = some m.cls := findClass_of_methodNamed B.named
  have hlocks := B.notSynchronized
  subst hsz
  have hD := hD0.self (sz := s.heap.size)
  unfold pO
  generalize hAe : va_A w s.heap.size = A at hD ⊢
  have hA : ∀ q : Nat, s.heap.size ≤ q → A q := fun q h => by rw [← hAe]; exact Or.inr h
  have hl := lv_entry av (n := maxL) hlen
  rw [lg_entry_eq]
  generalize (lg_sl av ++ List.replicate (maxL - (lg_sl av).length) Slot.unset).toArray = ls at hl ⊢
  exact body p e s m _ below meth c A _ ls ⟨⟨B.exec, B.bytes, hml, hown, hts⟩, hA, hK, hP, hD, hl⟩ (fun r u H locs pc ls hd hr hP' hD' hS => W.aret (v := va_rf r) B.exec B.bytes B.returns (Or.inl ⟨C, rfl⟩) (by cases r; exact Or.inl rfl; exact Or.inr ⟨_, rfl⟩) (fun t ht hW => ⟨⟨r, u, rfl, hr, by rw [ht]; exact hP', va_K.moved hW.alike hK.1, hD'⟩, hS.F ht⟩) hS.2.2 hd)
section CALLO
variable {p : Program} {l : Launch} {e : Env} {R : Room} {s : State} {m : MethodId} {args : Array Value} {below : List Frame} {meth : Method} {c : Code} {H : Heap} {locs : List Loc} {cells slots : Nat} {Q : State → Prop} {pc : Nat} {ls : Array Slot} {st0 rest : List Value} {D : va_G} {tys : List (ClassId × FieldType)} {A : Nat → Prop} {a : Array Value}
theorem call_o {S : Type} {ws wc wr : va_W} {w' ws' : S → va_W} {PR : Option Nat → S → Prop} (hr : va_Run p l e R s m args below meth c H locs cells slots 0 0 (F0 m pc ls st0) rest (pO D tys wc H.size w' PR a) (va_A wc H.size))
    (hS : va_S A s.heap H locs) (hA : ∀ q : Nat, s.heap.size ≤ q → A q) (hP : va_P D vwCl ws H) (hD : va_D A ws) (is irs pm : List Nat) (hC : is.map (fun i => ws[i]?) = wc.map some) (hR : irs.map (fun i => ws[i]?) = wr.map some) (hn : va_nd irs = true) (hdis : ∀ i ∈ irs, i ∉ is)
    (hpm : ∀ u, pm.map (fun i => (wr ++ w' u)[i]?) = (ws' u).map some) (hnp : va_nd pm = true)
    (kk : ∀ (r : Option Nat) (u : S) (H1 : Heap) (locs1 : List Loc), PR r u → va_P D vwCl (ws' u) H1 → va_D A (ws' u) → va_S A s.heap H1 locs1 → W p l e R s m args below meth c H1 locs1 cells slots Q (F0 m (pc + 3) ls (va_rf r :: rest))) : W p l e R s m args below meth c H locs cells slots Q (F0 m pc ls st0) := by
  intro T hT X
  obtain ⟨v, st₀, t, T', L, h0, X', hL, e1, e2, ⟨⟨x, u, hv, hp, hb⟩, hz, hk⟩, st⟩ := hr T hT X
  cases hv
  rw [h0] at hz hk
  have hfr := va_free hD hS hA is hC
  obtain ⟨g1, g2⟩ := p_back (ws' := ws') (H1 := T'.heap) hS hA hP hD is irs pm hC hR hn hdis hpm hnp e1.symm (fun q h1 h2 => by rw [e1]; exact hk q h1 h2) hb
  obtain ⟨t2, a1, b1⟩ := kk x u T'.heap (locs ++ L) hp g1 g2
    ⟨Nat.le_trans hS.1 (by rw [e1]; exact hz), fun q h1 h2 => by rw [e1, hk q (Nat.lt_of_lt_of_le h1 hS.1) (fun z => h2 (hfr q z))]; exact hS.2.1 q h1 h2, fun q hq => by
      rcases List.mem_append.mp hq with h | h
      · exact hS.2.2 q h
      · exact hfr _ (hL q h)⟩ T' rfl X'
  exact ⟨t2, st t2 a1, b1⟩
theorem nulO {x : Option Nat} (h : x = none) (k : W p l e R s m args below meth c H locs cells slots Q (F0 m pc ls (.null :: rest))) : W p l e R s m args below meth c H locs cells slots Q (F0 m pc ls (va_rf x :: rest)) := by rw [h]; exact k
end CALLO
