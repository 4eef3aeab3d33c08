/-! the words of the contracts: one list of array classes, cells by kind, a start, an end, entries and calls -/
abbrev TY (cy : Nat → ClassId) : List (ClassId × FieldType) := [(cy 0, .int), (cy 1, .boolean), (cy 2, .object "DrawerCards$Kind"), (cy 3, .object "DrawerCards$Row"), (cy 4, .object "DrawerCards$Shelf")]
abbrev wInt (cA : ClassId) (n : Nat) (f : Nat → Int32) : va_E := .inl (cA, n, .inl f)
abbrev wRef (cA : ClassId) (n : Nat) (f : Nat → Option Nat) : va_E := .inl (cA, n, .inr (.inr (.inr (.inr f))))
def bI (p : Prop) [Decidable p] : Int32 := if p then 1 else 0
theorem bI_t {p : Prop} [Decidable p] (h : p) : bI p = 1 := if_pos h
theorem bI_f {p : Prop} [Decidable p] (h : ¬ p) : bI p = 0 := if_neg h
theorem bI_0 {p : Prop} [Decidable p] : bI p = 0 ↔ ¬ p := by unfold bI; split <;> simp_all
theorem bI_nar {p : Prop} [Decidable p] : narrow .boolean (.int (bI p)) = .int (bI p) := by unfold bI; split <;> rfl
def rmD (d : Nat) : Room := { frames := d, cells := 0, slots := 0, locals := 33 * d }
/-! words that a method's own list does not bear: links among nest mates, casts among the kinds: they go from state to state beside the classes -/
def ncL : List Cond := [Cond.fieldLinkNest "DrawerCards$Foretold" 65 "DrawerCards$Shelf" "sort" "[LDrawerCards$Kind;" "DrawerCards", Cond.fieldLinkNest "DrawerCards" 288 "DrawerCards$Shelf" "sort" "[LDrawerCards$Kind;" "DrawerCards", Cond.fieldLinkNest "DrawerCards" 199 "DrawerCards$Shelf" "likes" "[I" "DrawerCards", Cond.fieldLinkNest "DrawerCards$Foretold" 100 "DrawerCards$Shelf" "likes" "[I" "DrawerCards", Cond.fieldLinkNest "DrawerCards$Foretold" 40 "DrawerCards$Shelf" "in" "[I" "DrawerCards", Cond.fieldLinkNest "DrawerCards$Wild" 7 "DrawerCards$Shelf" "in" "[I" "DrawerCards", Cond.fieldLinkNest "DrawerCards$Blank" 9 "DrawerCards$Shelf" "in" "[I" "DrawerCards", Cond.fieldLinkNest "DrawerCards$Free" 16 "DrawerCards$Shelf" "in" "[I" "DrawerCards", Cond.fieldLinkNest "DrawerCards" 181 "DrawerCards$Shelf" "in" "[I" "DrawerCards", Cond.fieldLinkNest "DrawerCards$Foretold" 43 "DrawerCards$Shelf" "place" "[I" "DrawerCards", Cond.fieldLinkNest "DrawerCards$Blank" 15 "DrawerCards$Shelf" "place" "[I" "DrawerCards", Cond.fieldLinkNest "DrawerCards" 202 "DrawerCards$Shelf" "place" "[I" "DrawerCards", Cond.fieldLinkNest "DrawerCards$Reader" 75 "DrawerCards$Shelf" "drawers" "I" "DrawerCards", Cond.fieldLinkNest "DrawerCards$Foretold" 71 "DrawerCards$Shelf" "drawers" "I" "DrawerCards", Cond.fieldLinkNest "DrawerCards" 274 "DrawerCards$Shelf" "drawers" "I" "DrawerCards", Cond.fieldLinkNest "DrawerCards$Foretold" 103 "DrawerCards$Shelf" "holds" "I" "DrawerCards", Cond.fieldLinkNest "DrawerCards" 277 "DrawerCards$Shelf" "holds" "I" "DrawerCards", Cond.fieldLinkNest "DrawerCards$Foretold" 51 "DrawerCards$Shelf" "cards" "I" "DrawerCards", Cond.fieldLinkNest "DrawerCards$Reader" 72 "DrawerCards$Shelf" "cards" "I" "DrawerCards", Cond.fieldLinkNest "DrawerCards" 154 "DrawerCards$Shelf" "cards" "I" "DrawerCards", Cond.fieldLinkNest "DrawerCards" 161 "DrawerCards$Shelf" "night" "I" "DrawerCards", Cond.fieldLinkNest "DrawerCards$Kind" 29 "DrawerCards$Asking" "card" "I" "DrawerCards", Cond.fieldLinkNest "DrawerCards$Kind" 25 "DrawerCards$Asking" "liked" "I" "DrawerCards", Cond.fieldLinkNest "DrawerCards$Free" 48 "DrawerCards$Asking" "place" "I" "DrawerCards", Cond.fieldLinkNest "DrawerCards" 110 "DrawerCards$Row" "lane" "I" "DrawerCards", Cond.fieldLinkNest "DrawerCards" 118 "DrawerCards$Row" "length" "I" "DrawerCards", Cond.fieldLinkNest "DrawerCards" 144 "DrawerCards$Reader" "shelf" "LDrawerCards$Shelf;" "DrawerCards", Cond.fieldLinkNest "DrawerCards" 280 "DrawerCards$Reader" "length" "I" "DrawerCards", Cond.fieldLinkNest "DrawerCards" 134 "DrawerCards$Reader" "faultNumber" "I" "DrawerCards", Cond.fieldLinkNest "DrawerCards" 141 "DrawerCards$Reader" "faultPlace" "I" "DrawerCards", Cond.methodLinkNest "DrawerCards" 23 ({ cls := "DrawerCards$Shelf", name := "<init>", desc := "()V" } : MethodName) "DrawerCards", Cond.methodLinkNest "DrawerCards" 37 ({ cls := "DrawerCards$Asking", name := "<init>", desc := "()V" } : MethodName) "DrawerCards", Cond.methodLinkNest "DrawerCards" 42 ({ cls := "DrawerCards$Row", name := "<init>", desc := "()V" } : MethodName) "DrawerCards", Cond.methodLinkNest "DrawerCards" 45 ({ cls := "DrawerCards$Free", name := "<init>", desc := "()V" } : MethodName) "DrawerCards", Cond.methodLinkNest "DrawerCards$Free" 3 ({ cls := "DrawerCards$Kind", name := "<init>", desc := "()V" } : MethodName) "DrawerCards", Cond.methodLinkNest "DrawerCards" 48 ({ cls := "DrawerCards$Old", name := "<init>", desc := "()V" } : MethodName) "DrawerCards", Cond.methodLinkNest "DrawerCards$Old" 1 ({ cls := "DrawerCards$Free", name := "<init>", desc := "()V" } : MethodName) "DrawerCards", Cond.methodLinkNest "DrawerCards" 51 ({ cls := "DrawerCards$Wild", name := "<init>", desc := "()V" } : MethodName) "DrawerCards", Cond.methodLinkNest "DrawerCards$Wild" 1 ({ cls := "DrawerCards$Free", name := "<init>", desc := "()V" } : MethodName) "DrawerCards", Cond.methodLinkNest "DrawerCards" 54 ({ cls := "DrawerCards$Rod", name := "<init>", desc := "()V" } : MethodName) "DrawerCards", Cond.methodLinkNest "DrawerCards$Rod" 3 ({ cls := "DrawerCards$Kind", name := "<init>", desc := "()V" } : MethodName) "DrawerCards", Cond.methodLinkNest "DrawerCards" 57 ({ cls := "DrawerCards$Blank", name := "<init>", desc := "()V" } : MethodName) "DrawerCards", Cond.methodLinkNest "DrawerCards$Blank" 3 ({ cls := "DrawerCards$Rod", name := "<init>", desc := "()V" } : MethodName) "DrawerCards", Cond.methodLinkNest "DrawerCards$Reader" 17 ({ cls := "DrawerCards$Shelf", name := "<init>", desc := "()V" } : MethodName) "DrawerCards", Cond.methodLinkNest "DrawerCards$Foretold" 11 ({ cls := "DrawerCards$Shelf", name := "<init>", desc := "()V" } : MethodName) "DrawerCards", Cond.methodLinkNest "DrawerCards$Reader" 94 ({ cls := "DrawerCards", name := "within", desc := "(III)Z" } : MethodName) "DrawerCards", Cond.methodLinkNest "DrawerCards$Foretold" 97 ({ cls := "DrawerCards", name := "within", desc := "(III)Z" } : MethodName) "DrawerCards", Cond.methodLinkNest "DrawerCards$Asking" 28 ({ cls := "DrawerCards", name := "within", desc := "(III)Z" } : MethodName) "DrawerCards", Cond.castable "DrawerCards$Old" "DrawerCards$Free", Cond.castable "DrawerCards$Wild" "DrawerCards$Free", Cond.castable "DrawerCards$Blank" "DrawerCards$Rod", Cond.castable "DrawerCards$Free" "DrawerCards$Kind", Cond.castable "DrawerCards$Old" "DrawerCards$Kind", Cond.castable "DrawerCards$Wild" "DrawerCards$Kind", Cond.castable "DrawerCards$Rod" "DrawerCards$Kind", Cond.castable "DrawerCards$Blank" "DrawerCards$Kind", Cond.declares ({ cls := "DrawerCards$Kind", name := "letter", desc := "()C" } : MethodName), Cond.declares ({ cls := "DrawerCards$Kind", name := "wander", desc := "(LDrawerCards$Shelf;I)V" } : MethodName), Cond.declares ({ cls := "DrawerCards$Kind", name := "number", desc := "()I" } : MethodName)]
def ncP : List (String × String) := [("DrawerCards$Blank", "DrawerCards$Free"), ("DrawerCards$Blank", "DrawerCards$Old"), ("DrawerCards$Blank", "DrawerCards$Wild"), ("DrawerCards$Free", "DrawerCards$Blank"), ("DrawerCards$Free", "DrawerCards$Old"), ("DrawerCards$Free", "DrawerCards$Rod"), ("DrawerCards$Free", "DrawerCards$Wild"), ("DrawerCards$Old", "DrawerCards$Blank"), ("DrawerCards$Old", "DrawerCards$Rod"), ("DrawerCards$Old", "DrawerCards$Wild"), ("DrawerCards$Rod", "DrawerCards$Blank"), ("DrawerCards$Rod", "DrawerCards$Free"), ("DrawerCards$Rod", "DrawerCards$Old"), ("DrawerCards$Rod", "DrawerCards$Wild"), ("DrawerCards$Wild", "DrawerCards$Blank"), ("DrawerCards$Wild", "DrawerCards$Old"), ("DrawerCards$Wild", "DrawerCards$Rod")]
def isN (w : Cond) : Bool := match w with
  | .fieldLinkNest _ _ _ _ _ _ => true
  | .methodLinkNest _ _ _ _ => true
  | .castable _ _ => true
  | .declares _ => true
  | _ => false
theorem ncL_ok : ncL.all isN = true := by decide +kernel
def KN (D : va_G) (tys : List (ClassId × FieldType)) (U : State) : Prop := va_K D vwCl tys U ∧ (∀ w ∈ ncL, va_Nw w U) ∧ ∀ q ∈ ncP, va_Nc q.1 q.2 U
theorem KN.warm {D : va_G} {tys : List (ClassId × FieldType)} {s U : State} (hW : s.WarmedH U.vm) (h : KN D tys s) : KN D tys U := by
  refine ⟨va_K.moved hW.alike h.1, fun w hw => ?_, fun q hq => (h.2.2 q hq).moved hW.alike⟩
  have h1 := h.2.1 w hw
  have h2 := List.all_eq_true.mp ncL_ok w hw
  cases w <;> first | (simp [isN] at h2; done) | exact va_Nw.warmF hW h1 | exact va_Nw.warmM hW h1 | exact va_Nw.warmC hW h1 | exact va_Nw.warmD hW h1
theorem KN.calls {D : va_G} {tys : List (ClassId × FieldType)} {U : State} {g : JFrame} {mk : MethodId} {a : Array Value} (h : KN D tys U) : KN D tys (U.calling g mk a) := by
  refine ⟨va_K.moved (u := U) (U := U.calling g mk a) (Vm.Alike.refl U.vm) h.1, fun w hw => ?_, fun q hq => (h.2.2 q hq).moved (u := U) (U := U.calling g mk a) (Vm.Alike.refl U.vm)⟩
  have h1 := h.2.1 w hw
  have h2 := List.all_eq_true.mp ncL_ok w hw
  cases w <;> first | (simp [isN] at h2; done) | exact va_Nw.same rfl rfl h1
def pPre (D : va_G) (tys : List (ClassId × FieldType)) (w : va_W) (sz : Nat) (av : List Value) : Array Value → State → Prop :=
  va_Pc av (fun U => U.heap.size = sz ∧ va_P D vwCl w U.heap ∧ KN D tys U ∧ va_D (fun _ => True) w)
def pI {S : Type} (D : va_G) (tys : List (ClassId × FieldType)) (w : va_W) (sz : Nat) (w' : S → va_W) (PR : Int32 → S → Prop) : Array Value → State → Outcome → State → Prop :=
  va_Qi PR (fun u t => va_P D vwCl (w' u) t.heap ∧ va_K D vwCl tys t ∧ va_D (va_A w sz) (w' u)) (va_A w sz)
def pL {S : Type} (D : va_G) (tys : List (ClassId × FieldType)) (w : va_W) (sz : Nat) (w' : S → va_W) (PR : Int64 → S → Prop) : Array Value → State → Outcome → State → Prop :=
  va_Ql PR (fun u t => va_P D vwCl (w' u) t.heap ∧ va_K D vwCl tys t ∧ va_D (va_A w sz) (w' u)) (va_A w sz)
def pV {S : Type} (D : va_G) (tys : List (ClassId × FieldType)) (w : va_W) (sz : Nat) (w' : S → va_W) (PR : S → Prop) : Array Value → State → Outcome → State → Prop :=
  va_Qv PR (fun u t => va_P D vwCl (w' u) t.heap ∧ va_K D vwCl tys t ∧ va_D (va_A w sz) (w' u)) (va_A w sz)
/-- what a body starts from -/
def Bd (l : Launch) (y : MethodName) (cc : ByteArray) (maxL : Nat) (wsw : List Cond) (rm : Room) (D : va_G) (tys : List (ClassId × FieldType)) (w : va_W) (av : List Value) (p : Program) (s : State) (m : MethodId) (args : Array Value) (c : Code) (A : Nat → Prop) (ls : Array Slot) : Prop :=
  CallFix p m c cc maxL s args wsw y.cls ∧ (∀ q : Nat, s.heap.size ≤ q → A q) ∧ KN D tys s ∧ va_P D vwCl w s.heap ∧ va_D A w ∧ lv_has ls maxL (lv_args 0 av)
theorem ent_i {S : Type} {l : Launch} {y : MethodName} {cc : ByteArray} {maxL : Nat} {wsw wst : List Cond} {rm : Room} {D : va_G} {tys : List (ClassId × FieldType)} {w : va_W} {sz : Nat} {av : List Value} {w' : S → va_W} {PR : Int32 → S → Prop}
    (hy : plainName y.cls = true) (hw : wsw = Cond.code y cc maxL (some .int) :: wst) (hlen : (lg_sl av).length ≤ maxL)
    (body : ∀ (p : Program) (e : Env) (s : State) (m : MethodId) (args : Array Value) (below : List Frame) (meth : Method) (c : Code) (A : Nat → Prop) (Q : State → Prop) (ls : Array Slot), Bd l y cc maxL wsw rm D tys w av p s m args c A ls →
      (∀ (r : Int32) (u : S) (H : Heap) (locs : List Loc) (pc : Nat) (ls : Array Slot), decode cc pc = .ok (.ireturn, 1) → PR r u → va_P D vwCl (w' u) H → va_D A (w' u) → va_S A s.heap H locs → W p l e rm s m args below meth c H locs 0 0 Q (F0 m pc ls [.int r])) →
      W p l e rm s m args below meth c s.heap [] 0 0 Q (F0 m 0 ls [])) : Met l y wsw rm (pPre D tys w sz av) (pI D tys w sz w' PR) 0 0 (va_A w sz) := by
  refine Met.ofW (cc := cc) (maxL := maxL) (ret := some .int) hy hw ?_
  intro p e s m args below meth c s₁ B hml hv
  obtain ⟨rfl, hsz, hP, hK, hD0⟩ := hv
  have hts := atoms_spec (ws := wsw) B.pre
  have hown : s.vm.findClass y.cls = some m.cls := findClass_of_methodNamed B.named
  have hlocks := B.notSynchronized
  subst hsz
  have hD := hD0.self (sz := s.heap.size)
  unfold pI
  generalize hAe : va_A w s.heap.size = A at hD ⊢
  have hA : ∀ q : Nat, s.heap.size ≤ q → A q := fun q h => by rw [← hAe]; exact Or.inr h
  have hl := lv_entry av (n := maxL) hlen
  rw [lg_entry_eq]
  generalize (lg_sl av ++ List.replicate (maxL - (lg_sl av).length) Slot.unset).toArray = ls at hl ⊢
  exact body p e s m _ below meth c A _ ls ⟨⟨B.exec, B.bytes, hml, hown, hts⟩, hA, hK, hP, hD, hl⟩ (fun r u H locs pc ls hd hr hP' hD' hS => W.iret (v := r) B.exec B.bytes B.returns (fun t ht hW => ⟨⟨r, u, rfl, hr, by rw [ht]; exact hP', va_K.moved hW.alike hK.1, hD'⟩, hS.F ht⟩) hS.2.2 hd)
theorem ent_z {S : Type} {l : Launch} {y : MethodName} {cc : ByteArray} {maxL : Nat} {wsw wst : List Cond} {rm : Room} {D : va_G} {tys : List (ClassId × FieldType)} {w : va_W} {sz : Nat} {av : List Value} {w' : S → va_W} {PR : Int32 → S → Prop} {ty : FieldType}
    (hy : plainName y.cls = true) (hw : wsw = Cond.code y cc maxL (some ty) :: wst) (hlen : (lg_sl av).length ≤ maxL)
    (body : ∀ (p : Program) (e : Env) (s : State) (m : MethodId) (args : Array Value) (below : List Frame) (meth : Method) (c : Code) (A : Nat → Prop) (Q : State → Prop) (ls : Array Slot), Bd l y cc maxL wsw rm D tys w av p s m args c A ls →
      (∀ (r : Int32) (u : S) (H : Heap) (locs : List Loc) (pc : Nat) (ls : Array Slot), decode cc pc = .ok (.ireturn, 1) → narrow ty (.int r) = .int r → PR r u → va_P D vwCl (w' u) H → va_D A (w' u) → va_S A s.heap H locs → W p l e rm s m args below meth c H locs 0 0 Q (F0 m pc ls [.int r])) →
      W p l e rm s m args below meth c s.heap [] 0 0 Q (F0 m 0 ls [])) : Met l y wsw rm (pPre D tys w sz av) (pI D tys w sz w' PR) 0 0 (va_A w sz) := by
  refine Met.ofW (cc := cc) (maxL := maxL) (ret := some ty) hy hw ?_
  intro p e s m args below meth c s₁ B hml hv
  obtain ⟨rfl, hsz, hP, hK, hD0⟩ := hv
  have hts := atoms_spec (ws := wsw) B.pre
  have hown : s.vm.findClass y.cls = some m.cls := findClass_of_methodNamed B.named
  have hlocks := B.notSynchronized
  subst hsz
  have hD := hD0.self (sz := s.heap.size)
  unfold pI
  generalize hAe : va_A w s.heap.size = A at hD ⊢
  have hA : ∀ q : Nat, s.heap.size ≤ q → A q := fun q h => by rw [← hAe]; exact Or.inr h
  have hl := lv_entry av (n := maxL) hlen
  rw [lg_entry_eq]
  generalize (lg_sl av ++ List.replicate (maxL - (lg_sl av).length) Slot.unset).toArray = ls at hl ⊢
  exact body p e s m _ below meth c A _ ls ⟨⟨B.exec, B.bytes, hml, hown, hts⟩, hA, hK, hP, hD, hl⟩ (fun r u H locs pc ls hd hn hr hP' hD' hS => W.zret (v := r) B.exec B.bytes B.returns hn (fun t ht hW => ⟨⟨r, u, rfl, hr, by rw [ht]; exact hP', va_K.moved hW.alike hK.1, hD'⟩, hS.F ht⟩) hS.2.2 hd)
theorem ent_l {S : Type} {l : Launch} {y : MethodName} {cc : ByteArray} {maxL : Nat} {wsw wst : List Cond} {rm : Room} {D : va_G} {tys : List (ClassId × FieldType)} {w : va_W} {sz : Nat} {av : List Value} {w' : S → va_W} {PR : Int64 → S → Prop}
    (hy : plainName y.cls = true) (hw : wsw = Cond.code y cc maxL (some .long) :: wst) (hlen : (lg_sl av).length ≤ maxL)
    (body : ∀ (p : Program) (e : Env) (s : State) (m : MethodId) (args : Array Value) (below : List Frame) (meth : Method) (c : Code) (A : Nat → Prop) (Q : State → Prop) (ls : Array Slot), Bd l y cc maxL wsw rm D tys w av p s m args c A ls →
      (∀ (r : Int64) (u : S) (H : Heap) (locs : List Loc) (pc : Nat) (ls : Array Slot), decode cc pc = .ok (.lreturn, 1) → PR r u → va_P D vwCl (w' u) H → va_D A (w' u) → va_S A s.heap H locs → W p l e rm s m args below meth c H locs 0 0 Q (F0 m pc ls [.long r])) →
      W p l e rm s m args below meth c s.heap [] 0 0 Q (F0 m 0 ls [])) : Met l y wsw rm (pPre D tys w sz av) (pL D tys w sz w' PR) 0 0 (va_A w sz) := by
  refine Met.ofW (cc := cc) (maxL := maxL) (ret := some .long) hy hw ?_
  intro p e s m args below meth c s₁ B hml hv
  obtain ⟨rfl, hsz, hP, hK, hD0⟩ := hv
  have hts := atoms_spec (ws := wsw) B.pre
  have hown : s.vm.findClass y.cls = some m.cls := findClass_of_methodNamed B.named
  have hlocks := B.notSynchronized
  subst hsz
  have hD := hD0.self (sz := s.heap.size)
  unfold pL
  generalize hAe : va_A w s.heap.size = A at hD ⊢
  have hA : ∀ q : Nat, s.heap.size ≤ q → A q := fun q h => by rw [← hAe]; exact Or.inr h
  have hl := lv_entry av (n := maxL) hlen
  rw [lg_entry_eq]
  generalize (lg_sl av ++ List.replicate (maxL - (lg_sl av).length) Slot.unset).toArray = ls at hl ⊢
  exact body p e s m _ below meth c A _ ls ⟨⟨B.exec, B.bytes, hml, hown, hts⟩, hA, hK, hP, hD, hl⟩ (fun r u H locs pc ls hd hr hP' hD' hS => W.lret (v := r) B.exec B.bytes B.returns (fun t ht hW => ⟨⟨r, u, rfl, hr, by rw [ht]; exact hP', va_K.moved hW.alike hK.1, hD'⟩, hS.F ht⟩) hS.2.2 hd)
theorem ent_v {S : Type} {l : Launch} {y : MethodName} {cc : ByteArray} {maxL : Nat} {wsw wst : List Cond} {rm : Room} {D : va_G} {tys : List (ClassId × FieldType)} {w : va_W} {sz : Nat} {av : List Value} {w' : S → va_W} {PR : S → Prop}
    (hy : plainName y.cls = true) (hw : wsw = Cond.code y cc maxL none :: wst) (hlen : (lg_sl av).length ≤ maxL)
    (body : ∀ (p : Program) (e : Env) (s : State) (m : MethodId) (args : Array Value) (below : List Frame) (meth : Method) (c : Code) (A : Nat → Prop) (Q : State → Prop) (ls : Array Slot), Bd l y cc maxL wsw rm D tys w av p s m args c A ls →
      (∀ (u : S) (H : Heap) (locs : List Loc) (pc : Nat) (ls : Array Slot), decode cc pc = .ok (.return_, 1) → PR u → va_P D vwCl (w' u) H → va_D A (w' u) → va_S A s.heap H locs → W p l e rm s m args below meth c H locs 0 0 Q (F0 m pc ls [])) →
      W p l e rm s m args below meth c s.heap [] 0 0 Q (F0 m 0 ls [])) : Met l y wsw rm (pPre D tys w sz av) (pV D tys w sz w' PR) 0 0 (va_A w sz) := by
  refine Met.ofW (cc := cc) (maxL := maxL) (ret := none) hy hw ?_
  intro p e s m args below meth c s₁ B hml hv
  obtain ⟨rfl, hsz, hP, hK, hD0⟩ := hv
  have hts := atoms_spec (ws := wsw) B.pre
  have hown : s.vm.findClass y.cls = some m.cls := findClass_of_methodNamed B.named
  have hlocks := B.notSynchronized
  subst hsz
  have hD := hD0.self (sz := s.heap.size)
  unfold pV
  generalize hAe : va_A w s.heap.size = A at hD ⊢
  have hA : ∀ q : Nat, s.heap.size ≤ q → A q := fun q h => by rw [← hAe]; exact Or.inr h
  have hl := lv_entry av (n := maxL) hlen
  rw [lg_entry_eq]
  generalize (lg_sl av ++ List.replicate (maxL - (lg_sl av).length) Slot.unset).toArray = ls at hl ⊢
  exact body p e s m _ below meth c A _ ls ⟨⟨B.exec, B.bytes, hml, hown, hts⟩, hA, hK, hP, hD, hl⟩ (fun u H locs pc ls hd hr hP' hD' hS => W.vret B.exec B.bytes B.returns (fun t ht hW => ⟨⟨u, rfl, hr, by rw [ht]; exact hP', va_K.moved hW.alike hK.1, hD'⟩, hS.F ht⟩) hS.2.2 hd)
/-- a part of a world, by its places -/
theorem p_at {ws w : va_W} {is : List Nat} (hs : is.map (fun i => ws[i]?) = w.map some) {k : Nat} {q : Nat × va_E} (hq : w[k]? = some q) : ∃ i, is[k]? = some i ∧ ws[i]? = some q := by
  have h1 : (is.map (fun i => ws[i]?))[k]? = some (some q) := by rw [hs, List.getElem?_map, hq]; rfl
  rw [List.getElem?_map] at h1
  cases hi : is[k]? with
  | none => rw [hi] at h1; cases h1
  | some i => rw [hi] at h1; exact ⟨i, rfl, Option.some.inj h1⟩
theorem p_sub {D : va_G} {cl : List vw_C} {ws w : va_W} {H : Heap} (hP : va_P D cl ws H) (is : List Nat) (hs : is.map (fun i => ws[i]?) = w.map some) : va_P D cl w H := fun k q hk => by
  obtain ⟨i, -, hi⟩ := p_at hs hk
  exact hP i q hi
theorem pre_S {s : State} {H : Heap} {D : va_G} {tys : List (ClassId × FieldType)} {A : Nat → Prop} {ws wc : va_W} {As : List Value} (hK : KN D tys s) (hP : va_P D vwCl ws H) (hD : va_D A ws) (is : List Nat) (hC : is.map (fun i => ws[i]?) = wc.map some) (hnd : va_nd is = true) : PreS s H (pPre D tys wc H.size As) As :=
  ⟨fun a U g mk q => by obtain ⟨q0, q1, qP, qK, qD⟩ := q; exact ⟨q0, q1, qP, qK.calls, qD⟩, fun U hU hW => ⟨rfl, by rw [hU], by rw [hU]; exact p_sub hP is hC, hK.warm hW, (hD.sub is hnd hC).weaken (fun _ _ _ _ => trivial)⟩⟩
theorem pre_V {s : State} {H : Heap} {D : va_G} {tys : List (ClassId × FieldType)} {A : Nat → Prop} {ws wc : va_W} {b : Addr} {As : List Value} (hK : KN D tys s) (hP : va_P D vwCl ws H) (hD : va_D A ws) (is : List Nat) (hC : is.map (fun i => ws[i]?) = wc.map some) (hnd : va_nd is = true) (q0 ci : Nat) {r : vw_C} {fs : List Value} (hc : vwCl[ci]? = some r) (he : ws[q0]? = some (b, .inr (ci, fs))) : PreV s H r.1 b (pPre D tys wc H.size (.ref b :: As)) As :=
  ⟨(pre_S (As := .ref b :: As) hK hP hD is hC hnd).1, va_recv hK.1 hP (ci := ci) (q0 := q0) hc he, (pre_S (As := .ref b :: As) hK hP hD is hC hnd).2⟩
section CALLS
variable {p : Program} {l : Launch} {e : Env} {R : Room} {s : State} {m : MethodId} {args : Array Value} {below : List Frame} {meth : Method} {c : Code} {H : Heap} {locs : List Loc} {cells slots : Nat} {Q : State → Prop} {pc : Nat} {ls : Array Slot} {st0 rest : List Value} {D : va_G} {tys : List (ClassId × FieldType)} {A : Nat → Prop} {a : Array Value}
theorem p_back {S : Type} {ws wc wr : va_W} {w' ws' : S → va_W} (hS : va_S A s.heap H locs) (hA : ∀ q : Nat, s.heap.size ≤ q → A q) (hP : va_P D vwCl ws H) (hD : va_D A ws) (is irs pm : List Nat) (hC : is.map (fun i => ws[i]?) = wc.map some) (hR : irs.map (fun i => ws[i]?) = wr.map some) (hn : va_nd irs = true) (hdis : ∀ i ∈ irs, i ∉ is)
    (hpm : ∀ u, pm.map (fun i => (wr ++ w' u)[i]?) = (ws' u).map some) (hnp : va_nd pm = true) {u : S} {t : State} {H1 : Heap} (ht : t.heap = H1) (hk : ∀ q : Nat, q < H.size → ¬ va_A wc H.size q → H1[q]? = H[q]?) (hB : va_P D vwCl (w' u) t.heap ∧ va_K D vwCl tys t ∧ va_D (va_A wc H.size) (w' u)) : va_P D vwCl (ws' u) H1 ∧ va_D A (ws' u) := by
  obtain ⟨hP1, hK1, hD1⟩ := hB
  rw [ht] at hP1
  obtain ⟨g1, g2⟩ := va_join hP hD is irs hC hR hn hdis hk (va_free hD hS hA is hC) hP1 hD1
  exact ⟨p_sub g1 pm (hpm u), g2.sub pm hnp (hpm u)⟩
theorem call_i {S : Type} {ws wc wr : va_W} {w' ws' : S → va_W} {PR : Int32 → S → Prop} (hr : va_Run p l e R s m args below meth c H locs cells slots 0 0 (F0 m pc ls st0) rest (pI D tys wc H.size w' PR a) (va_A wc H.size))
    (hS : va_S A s.heap H locs) (hA : ∀ q : Nat, s.heap.size ≤ q → A q) (hP : va_P D vwCl ws H) (hD : va_D A ws) (is irs pm : List Nat) (hC : is.map (fun i => ws[i]?) = wc.map some) (hR : irs.map (fun i => ws[i]?) = wr.map some) (hn : va_nd irs = true) (hdis : ∀ i ∈ irs, i ∉ is)
    (hpm : ∀ u, pm.map (fun i => (wr ++ w' u)[i]?) = (ws' u).map some) (hnp : va_nd pm = true)
    (kk : ∀ (r : Int32) (u : S) (H1 : Heap) (locs1 : List Loc), PR r u → va_P D vwCl (ws' u) H1 → va_D A (ws' u) → va_S A s.heap H1 locs1 → W p l e R s m args below meth c H1 locs1 cells slots Q (F0 m (pc + 3) ls (.int r :: rest))) : W p l e R s m args below meth c H locs cells slots Q (F0 m pc ls st0) := by
  refine va_calli hr hS (fun q _ h => va_free hD hS hA is hC q h) (va_free hD hS hA is hC) (fun r u t H1 locs1 ht hvm hw hB hz1 hk1 hS1 => ?_)
  obtain ⟨g1, g2⟩ := p_back (ws' := ws') hS hA hP hD is irs pm hC hR hn hdis hpm hnp ht hk1 hB
  exact kk r u H1 locs1 hw g1 g2 hS1
theorem call_l {S : Type} {ws wc wr : va_W} {w' ws' : S → va_W} {PR : Int64 → S → Prop} (hr : va_Run p l e R s m args below meth c H locs cells slots 0 0 (F0 m pc ls st0) rest (pL D tys wc H.size w' PR a) (va_A wc H.size))
    (hS : va_S A s.heap H locs) (hA : ∀ q : Nat, s.heap.size ≤ q → A q) (hP : va_P D vwCl ws H) (hD : va_D A ws) (is irs pm : List Nat) (hC : is.map (fun i => ws[i]?) = wc.map some) (hR : irs.map (fun i => ws[i]?) = wr.map some) (hn : va_nd irs = true) (hdis : ∀ i ∈ irs, i ∉ is)
    (hpm : ∀ u, pm.map (fun i => (wr ++ w' u)[i]?) = (ws' u).map some) (hnp : va_nd pm = true)
    (kk : ∀ (r : Int64) (u : S) (H1 : Heap) (locs1 : List Loc), PR r u → va_P D vwCl (ws' u) H1 → va_D A (ws' u) → va_S A s.heap H1 locs1 → W p l e R s m args below meth c H1 locs1 cells slots Q (F0 m (pc + 3) ls (.long r :: rest))) : W p l e R s m args below meth c H locs cells slots Q (F0 m pc ls st0) := by
  refine va_calll hr hS (fun q _ h => va_free hD hS hA is hC q h) (va_free hD hS hA is hC) (fun r u t H1 locs1 ht hvm hw hB hz1 hk1 hS1 => ?_)
  obtain ⟨g1, g2⟩ := p_back (ws' := ws') hS hA hP hD is irs pm hC hR hn hdis hpm hnp ht hk1 hB
  exact kk r u H1 locs1 hw g1 g2 hS1
theorem call_v {S : Type} {ws wc wr : va_W} {w' ws' : S → va_W} {PR : S → Prop} (hr : va_Run p l e R s m args below meth c H locs cells slots 0 0 (F0 m pc ls st0) rest (pV D tys wc H.size w' PR a) (va_A wc H.size))
    (hS : va_S A s.heap H locs) (hA : ∀ q : Nat, s.heap.size ≤ q → A q) (hP : va_P D vwCl ws H) (hD : va_D A ws) (is irs pm : List Nat) (hC : is.map (fun i => ws[i]?) = wc.map some) (hR : irs.map (fun i => ws[i]?) = wr.map some) (hn : va_nd irs = true) (hdis : ∀ i ∈ irs, i ∉ is)
    (hpm : ∀ u, pm.map (fun i => (wr ++ w' u)[i]?) = (ws' u).map some) (hnp : va_nd pm = true)
    (kk : ∀ (u : S) (H1 : Heap) (locs1 : List Loc), PR u → va_P D vwCl (ws' u) H1 → va_D A (ws' u) → va_S A s.heap H1 locs1 → W p l e R s m args below meth c H1 locs1 cells slots Q (F0 m (pc + 3) ls rest)) : W p l e R s m args below meth c H locs cells slots Q (F0 m pc ls st0) := by
  refine va_callv hr hS (fun q _ h => va_free hD hS hA is hC q h) (va_free hD hS hA is hC) (fun u t H1 locs1 ht hvm hw hB hz1 hk1 hS1 => ?_)
  obtain ⟨g1, g2⟩ := p_back (ws' := ws') hS hA hP hD is irs pm hC hR hn hdis hpm hnp ht hk1 hB
  exact kk u H1 locs1 hw g1 g2 hS1
end CALLS
section STEPS
variable {p : Program} {l : Launch} {e : Env} {R : Room} {s : State} {m : MethodId} {args : Array Value} {below : List Frame} {meth : Method} {c : Code} {H : Heap} {locs : List Loc} {cells slots : Nat} {Q : State → Prop} {pc : Nat} {ls : Array Slot} {rest : List Value} {cc : ByteArray} {D : va_G} {cy : Nat → ClassId} {A : Nat → Prop} {ws : va_W} {ad : Nat} {H0 : Heap}
theorem top_i {x y : Int32} (h : x = y) (k : W p l e R s m args below meth c H locs cells slots Q (F0 m pc ls (.int y :: rest))) : W p l e R s m args below meth c H locs cells slots Q (F0 m pc ls (.int x :: rest)) := by rw [h]; exact k
theorem top_l {x y : Int64} (h : x = y) (k : W p l e R s m args below meth c H locs cells slots Q (F0 m pc ls (.long y :: rest))) : W p l e R s m args below meth c H locs cells slots Q (F0 m pc ls (.long x :: rest)) := by rw [h]; exact k
theorem ldN (hexec : p.tables.exec = Jvm.exec) (hb : c.code = cc) (hK : va_K D vwCl (TY cy) s) (hP : va_P D vwCl ws H) (q0 : Nat) {n : Nat} {f : Nat → Int32} (ha : ws[q0]? = some (ad, wInt (cy 0) n f)) {j : Nat} (hj : j < n) (hn : n < 2 ^ 31) (hdg : decode cc pc = .ok (.iaload, 1))
    (kk : W p l e R s m args below meth c H locs cells slots Q (F0 m (pc + 1) ls (.int (f j) :: rest))) : W p l e R s m args below meth c H locs cells slots Q (F0 m pc ls (.int (nI j) :: .ref ad :: rest)) := by
  refine va_iald hexec hb hK hP q0 0 ha rfl (vp_in_nI hj hn) hdg ?_
  rw [nI_clamp (by omega)]
  exact kk
theorem stN {ws' : va_W} (hexec : p.tables.exec = Jvm.exec) (hb : c.code = cc) (hK : va_K D vwCl (TY cy) s) (hP : va_P D vwCl ws H) (hD : va_D A ws) (hS : va_S A H0 H locs) (q0 : Nat) {n : Nat} {f : Nat → Int32} (ha : ws[q0]? = some (ad, wInt (cy 0) n f)) {j : Nat} {x : Int32} (hj : j < n) (hn : n < 2 ^ 31) (hdg : decode cc pc = .ok (.iastore, 1)) (hw : ws.set q0 (ad, wInt (cy 0) n (upd f j x)) = ws')
    (kk : ∀ (H1 : Heap) (locs1 : List Loc), va_P D vwCl ws' H1 → va_D A ws' → va_S A H0 H1 locs1 → W p l e R s m args below meth c H1 locs1 cells slots Q (F0 m (pc + 1) ls rest)) : W p l e R s m args below meth c H locs cells slots Q (F0 m pc ls (.int x :: .int (nI j) :: .ref ad :: rest)) := by
  refine va_iast hexec hb hK hP hD hS q0 0 ha rfl (vp_in_nI hj hn) hdg (fun H1 locs1 h1 h2 h3 => ?_)
  rw [nI_clamp (by omega), hw] at h1 h2
  exact kk H1 locs1 h1 h2 h3
theorem adN (hexec : p.tables.exec = Jvm.exec) (hb : c.code = cc) {a b k : Nat} (hk : a + b = k) (hdg : decode cc pc = .ok (.iadd, 1)) (kk : W p l e R s m args below meth c H locs cells slots Q (F0 m (pc + 1) ls (.int (nI k) :: rest))) : W p l e R s m args below meth c H locs cells slots Q (F0 m pc ls (.int (nI b) :: .int (nI a) :: rest)) := by
  refine lv_iadd hexec hb hdg ?_
  rw [nI_add, hk]; exact kk
theorem muN (hexec : p.tables.exec = Jvm.exec) (hb : c.code = cc) {a b k : Nat} (hk : a * b = k) (hdg : decode cc pc = .ok (.imul, 1)) (kk : W p l e R s m args below meth c H locs cells slots Q (F0 m (pc + 1) ls (.int (nI k) :: rest))) : W p l e R s m args below meth c H locs cells slots Q (F0 m pc ls (.int (nI b) :: .int (nI a) :: rest)) := by
  refine lv_imul hexec hb hdg ?_
  rw [pk_mul, hk]; exact kk
theorem suN (hexec : p.tables.exec = Jvm.exec) (hb : c.code = cc) {a b k : Nat} (hk : k + b = a) (hdg : decode cc pc = .ok (.isub, 1)) (kk : W p l e R s m args below meth c H locs cells slots Q (F0 m (pc + 1) ls (.int (nI k) :: rest))) : W p l e R s m args below meth c H locs cells slots Q (F0 m pc ls (.int (nI b) :: .int (nI a) :: rest)) := by
  refine lv_isub hexec hb hdg ?_
  rw [pk_sub (by omega), show a - b = k by omega]; exact kk
theorem geN (hexec : p.tables.exec = Jvm.exec) (hb : c.code = cc) {a b : Nat} (ha : a < 2 ^ 31) (hb2 : b < 2 ^ 31) {off : Int} {tgt : Nat} (hdg : decode cc pc = .ok (.if_icmp .ge off, 3)) (ht : (pc : Int) + off = (tgt : Int)) (kt : b ≤ a → W p l e R s m args below meth c H locs cells slots Q (F0 m tgt ls rest)) (kf : a < b → W p l e R s m args below meth c H locs cells slots Q (F0 m (pc + 3) ls rest)) : W p l e R s m args below meth c H locs cells slots Q (F0 m pc ls (.int (nI b) :: .int (nI a) :: rest)) :=
  lv_icmp_ge hexec hb hdg ht (fun h => kt ((nI_leI hb2 ha).mp h)) (fun h => kf (Nat.not_le.mp (fun q => h ((nI_leI hb2 ha).mpr q))))
theorem gtN (hexec : p.tables.exec = Jvm.exec) (hb : c.code = cc) {a b : Nat} (ha : a < 2 ^ 31) (hb2 : b < 2 ^ 31) {off : Int} {tgt : Nat} (hdg : decode cc pc = .ok (.if_icmp .gt off, 3)) (ht : (pc : Int) + off = (tgt : Int)) (kt : b < a → W p l e R s m args below meth c H locs cells slots Q (F0 m tgt ls rest)) (kf : a ≤ b → W p l e R s m args below meth c H locs cells slots Q (F0 m (pc + 3) ls rest)) : W p l e R s m args below meth c H locs cells slots Q (F0 m pc ls (.int (nI b) :: .int (nI a) :: rest)) :=
  lv_icmp_gt hexec hb hdg ht (fun h => kt ((nI_ltI hb2 ha).mp h)) (fun h => kf (Nat.not_lt.mp (fun q => h ((nI_ltI hb2 ha).mpr q))))
theorem ltN (hexec : p.tables.exec = Jvm.exec) (hb : c.code = cc) {a b : Nat} (ha : a < 2 ^ 31) (hb2 : b < 2 ^ 31) {off : Int} {tgt : Nat} (hdg : decode cc pc = .ok (.if_icmp .lt off, 3)) (ht : (pc : Int) + off = (tgt : Int)) (kt : a < b → W p l e R s m args below meth c H locs cells slots Q (F0 m tgt ls rest)) (kf : b ≤ a → W p l e R s m args below meth c H locs cells slots Q (F0 m (pc + 3) ls rest)) : W p l e R s m args below meth c H locs cells slots Q (F0 m pc ls (.int (nI b) :: .int (nI a) :: rest)) :=
  lv_icmp_lt hexec hb hdg ht (fun h => kt ((nI_ltI ha hb2).mp h)) (fun h => kf (Nat.not_lt.mp (fun q => h ((nI_ltI ha hb2).mpr q))))
theorem leN (hexec : p.tables.exec = Jvm.exec) (hb : c.code = cc) {a b : Nat} (ha : a < 2 ^ 31) (hb2 : b < 2 ^ 31) {off : Int} {tgt : Nat} (hdg : decode cc pc = .ok (.if_icmp .le off, 3)) (ht : (pc : Int) + off = (tgt : Int)) (kt : a ≤ b → W p l e R s m args below meth c H locs cells slots Q (F0 m tgt ls rest)) (kf : b < a → W p l e R s m args below meth c H locs cells slots Q (F0 m (pc + 3) ls rest)) : W p l e R s m args below meth c H locs cells slots Q (F0 m pc ls (.int (nI b) :: .int (nI a) :: rest)) :=
  lv_icmp_le hexec hb hdg ht (fun h => kt ((nI_leI ha hb2).mp h)) (fun h => kf (Nat.not_le.mp (fun q => h ((nI_leI ha hb2).mpr q))))
theorem eqN (hexec : p.tables.exec = Jvm.exec) (hb : c.code = cc) {a b : Nat} (ha : a < 2 ^ 31) (hb2 : b < 2 ^ 31) {off : Int} {tgt : Nat} (hdg : decode cc pc = .ok (.if_icmp .eq off, 3)) (ht : (pc : Int) + off = (tgt : Int)) (kt : a = b → W p l e R s m args below meth c H locs cells slots Q (F0 m tgt ls rest)) (kf : a ≠ b → W p l e R s m args below meth c H locs cells slots Q (F0 m (pc + 3) ls rest)) : W p l e R s m args below meth c H locs cells slots Q (F0 m pc ls (.int (nI b) :: .int (nI a) :: rest)) :=
  lv_icmp_eq hexec hb hdg ht (fun h => kt ((nI_eq ha hb2).mp h)) (fun h => kf (fun q => h ((nI_eq ha hb2).mpr q)))
theorem neN (hexec : p.tables.exec = Jvm.exec) (hb : c.code = cc) {a b : Nat} (ha : a < 2 ^ 31) (hb2 : b < 2 ^ 31) {off : Int} {tgt : Nat} (hdg : decode cc pc = .ok (.if_icmp .ne off, 3)) (ht : (pc : Int) + off = (tgt : Int)) (kt : a ≠ b → W p l e R s m args below meth c H locs cells slots Q (F0 m tgt ls rest)) (kf : a = b → W p l e R s m args below meth c H locs cells slots Q (F0 m (pc + 3) ls rest)) : W p l e R s m args below meth c H locs cells slots Q (F0 m pc ls (.int (nI b) :: .int (nI a) :: rest)) :=
  lv_icmp_ne hexec hb hdg ht (fun h => kt (fun q => h ((nI_eq ha hb2).mpr q))) (fun h => kf ((nI_eq ha hb2).mp h))
theorem ifeqB (hexec : p.tables.exec = Jvm.exec) (hb : c.code = cc) {P : Prop} [Decidable P] {off : Int} {tgt : Nat} (hdg : decode cc pc = .ok (.ifCond .eq off, 3)) (ht : (pc : Int) + off = (tgt : Int)) (kt : ¬ P → W p l e R s m args below meth c H locs cells slots Q (F0 m tgt ls rest)) (kf : P → W p l e R s m args below meth c H locs cells slots Q (F0 m (pc + 3) ls rest)) : W p l e R s m args below meth c H locs cells slots Q (F0 m pc ls (.int (bI P) :: rest)) :=
  lv_if_eq hexec hb hdg ht (fun h => kt (bI_0.mp h)) (fun h => kf (Decidable.byContradiction (fun q => h (bI_0.mpr q))))
theorem ifneB (hexec : p.tables.exec = Jvm.exec) (hb : c.code = cc) {P : Prop} [Decidable P] {off : Int} {tgt : Nat} (hdg : decode cc pc = .ok (.ifCond .ne off, 3)) (ht : (pc : Int) + off = (tgt : Int)) (kt : P → W p l e R s m args below meth c H locs cells slots Q (F0 m tgt ls rest)) (kf : ¬ P → W p l e R s m args below meth c H locs cells slots Q (F0 m (pc + 3) ls rest)) : W p l e R s m args below meth c H locs cells slots Q (F0 m pc ls (.int (bI P) :: rest)) :=
  lv_if_ne hexec hb hdg ht (fun h => kt (Decidable.byContradiction (fun q => h (bI_0.mpr q)))) (fun h => kf (bI_0.mp h))
end STEPS
