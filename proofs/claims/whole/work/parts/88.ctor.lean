/-! constructors: the words of arrays of references go along, cells are made -/
def KC (D : va_G) (tys : List (ClassId × FieldType)) (U : State) : Prop := KN D tys U ∧ va_AO "DrawerCards$Kind" U ∧ va_AO "DrawerCards$Row" U ∧ va_AO "DrawerCards$Shelf" U
theorem KC.warm {D : va_G} {tys : List (ClassId × FieldType)} {s U : State} (hW : s.WarmedH U.vm) (h : KC D tys s) : KC D tys U := ⟨KN.warm hW h.1, h.2.1.moved hW.alike, h.2.2.1.moved hW.alike, h.2.2.2.moved hW.alike⟩
theorem KC.calls {D : va_G} {tys : List (ClassId × FieldType)} {U : State} {g : JFrame} {mk : MethodId} {a : Array Value} (h : KC D tys U) : KC D tys (U.calling g mk a) := ⟨h.1.calls, va_AO.moved (u := U) (U := U.calling g mk a) (Vm.Alike.refl U.vm) h.2.1, va_AO.moved (u := U) (U := U.calling g mk a) (Vm.Alike.refl U.vm) h.2.2.1, va_AO.moved (u := U) (U := U.calling g mk a) (Vm.Alike.refl U.vm) h.2.2.2⟩
def rmC (d mc ms : Nat) : Room := { frames := d, cells := mc, slots := ms, locals := 33 * d }
def pPreC (D : va_G) (tys : List (ClassId × FieldType)) (w : va_W) (sz : Nat) (av : List Value) : Array Value → State → Prop :=
  va_Pc av (fun U => U.heap.size = sz ∧ va_P D vwCl w U.heap ∧ KC D tys U ∧ va_D (fun _ => True) w)
def BdC (l : Launch) (y : MethodName) (cc : ByteArray) (maxL : Nat) (wsw : List Cond) (rm : Room) (D : va_G) (tys : List (ClassId × FieldType)) (w : va_W) (av : List Value) (p : Program) (s : State) (m : MethodId) (args : Array Value) (c : Code) (A : Nat → Prop) (ls : Array Slot) : Prop :=
  CallFix p m c cc maxL s args wsw y.cls ∧ (∀ q : Nat, s.heap.size ≤ q → A q) ∧ KC D tys s ∧ va_P D vwCl w s.heap ∧ va_D A w ∧ lv_has ls maxL (lv_args 0 av)
theorem ent_c {S : Type} {l : Launch} {y : MethodName} {cc : ByteArray} {maxL : Nat} {wsw wst : List Cond} {rm : Room} {D : va_G} {tys : List (ClassId × FieldType)} {w : va_W} {sz : Nat} {av : List Value} {w' : S → va_W} {PR : S → Prop} {mc ms : Nat}
    (hy : plainName y.cls = true) (hyn : y.name = "<init>") (hw : wsw = Cond.code y cc maxL none :: wst) (hlen : (lg_sl av).length ≤ maxL)
    (body : ∀ (p : Program) (e : Env) (s : State) (m : MethodId) (args : Array Value) (below : List Frame) (meth : Method) (c : Code) (A : Nat → Prop) (Q : State → Prop) (ls : Array Slot), BdC l y cc maxL wsw rm D tys w av p s m args c A ls → meth.name = "<init>" →
      (∀ (u : S) (H : Heap) (locs : List Loc) (pc : Nat) (ls : Array Slot), decode cc pc = .ok (.return_, 1) → PR u → va_P D vwCl (w' u) H → va_D A (w' u) → va_S A s.heap H locs → W p l e rm s m args below meth c H locs mc ms Q (F0 m pc ls [])) →
      W p l e rm s m args below meth c s.heap [] 0 0 Q (F0 m 0 ls [])) : Met l y wsw rm (pPreC D tys w sz av) (pV D tys w sz w' PR) mc ms (va_A w sz) := by
  refine Met.ofW (cc := cc) (maxL := maxL) (ret := none) hy hw ?_
  intro p e s m args below meth c s₁ B hml hv
  obtain ⟨rfl, hsz, hP, hK, hD0⟩ := hv
  have hts := atoms_spec (ws := wsw) B.pre
  have hown : s.vm.findClass y.cls = some m.cls := findClass_of_methodNamed B.named
  have hin : meth.name = "<init>" := ((name_of_methodNamed B.named B.method).1).trans hyn
  have hlocks := B.notSynchronized
  subst hsz
  have hD := hD0.self (sz := s.heap.size)
  unfold pV
  generalize hAe : va_A w s.heap.size = A at hD ⊢
  have hA : ∀ q : Nat, s.heap.size ≤ q → A q := fun q h => by rw [← hAe]; exact Or.inr h
  have hl := lv_entry av (n := maxL) hlen
  rw [lg_entry_eq]
  generalize (lg_sl av ++ List.replicate (maxL - (lg_sl av).length) Slot.unset).toArray = ls at hl ⊢
  exact body p e s m _ below meth c A _ ls ⟨⟨B.exec, B.bytes, hml, hown, hts⟩, hA, hK, hP, hD, hl⟩ hin (fun u H locs pc ls hd hr hP' hD' hS => W.vret B.exec B.bytes B.returns (fun t ht hW => ⟨⟨u, rfl, hr, by rw [ht]; exact hP', va_K.moved hW.alike hK.1.1, hD'⟩, hS.F ht⟩) hS.2.2 hd)
theorem pre_CP {s : State} {H : Heap} {D : va_G} {tys : List (ClassId × FieldType)} {A : Nat → Prop} {ws wc wr : va_W} {As : List Value} (hK : KC D tys s) (hP : va_P D vwCl ws H) (hD : va_D A ws) (hm : ws.Perm (wc ++ wr)) : PreS s H (pPreC D tys wc H.size As) As :=
  ⟨fun a U g mk q => by obtain ⟨q0, q1, qP, qK, qD⟩ := q; exact ⟨q0, q1, qP, qK.calls, qD⟩, fun U hU hW => ⟨rfl, by rw [hU], by rw [hU]; exact P_left (P_perm hm hP), hK.warm hW, (D_left (D_perm hm hD)).weaken (fun _ _ _ _ => trivial)⟩⟩
theorem perm_push (E T : va_W) (x : Nat × va_E) : ((E ++ T) ++ [x]).Perm ((E ++ [x]) ++ T) := by
  rw [List.append_assoc, List.append_assoc]
  exact List.Perm.append_left E List.perm_append_comm
abbrev S00 : Nat → Option Nat := fun _ => none
abbrev t00 : Nat → Int32 := fun _ => nI 0
section CTOR
variable {p : Program} {l : Launch} {e : Env} {R : Room} {s : State} {m : MethodId} {args : Array Value} {below : List Frame} {meth : Method} {c : Code} {H : Heap} {locs : List Loc} {cells slots : Nat} {Q : State → Prop} {pc : Nat} {ls : Array Slot} {rest st0 : List Value} {cc : ByteArray} {D : va_G} {cy : Nat → ClassId} {tys : List (ClassId × FieldType)} {A : Nat → Prop} {ws : va_W} {ad : Nat} {H0 : Heap} {a : Array Value}
theorem call_cP {S : Type} {wc wr : va_W} {w' ws' : S → va_W} {PR : S → Prop} {mc ms : Nat} (hr : va_Run p l e R s m args below meth c H locs cells slots mc ms (F0 m pc ls st0) rest (pV D tys wc H.size w' PR a) (va_A wc H.size))
    (hS : va_S A s.heap H locs) (hA : ∀ q : Nat, s.heap.size ≤ q → A q) (hP : va_P D vwCl ws H) (hD : va_D A ws) (hm : ws.Perm (wc ++ wr)) (hm' : ∀ u, (w' u ++ wr).Perm (ws' u))
    (kk : ∀ (u : S) (H1 : Heap) (locs1 : List Loc), PR u → va_P D vwCl (ws' u) H1 → va_D A (ws' u) → va_S A s.heap H1 locs1 → W p l e R s m args below meth c H1 locs1 (cells + mc) (slots + ms) Q (F0 m (pc + 3) ls rest)) : W p l e R s m args below meth c H locs cells slots Q (F0 m pc ls st0) := by
  refine va_callv hr hS (fun q _ h => freeP hD hS hA hm q h) (freeP hD hS hA hm) (fun u t H1 locs1 ht hvm hw hB hz1 hk1 hS1 => ?_)
  obtain ⟨g1, g2⟩ := p_backP (ws' := ws') hS hA hP hD hm hm' ht hk1 hB
  exact kk u H1 locs1 hw g1 g2 hS1
theorem newI (hexec : p.tables.exec = Jvm.exec) (hb : c.code = cc) (harr : (Cond.arrayClass .int).before args s = true) (hK : va_K D vwCl (TY cy) s) (hP : va_P D vwCl ws H) (hD : va_D A ws) (hS : va_S A H0 H locs) (hA : ∀ q, H0.size ≤ q → A q) {N : Nat} (hN : N < 100000) (hcells : cells + 1 ≤ R.cells) (hslots : slots + N ≤ R.slots) (hdg : decode cc pc = .ok (.newarray .int, 2))
    (kk : ∀ (q : Nat) (H1 : Heap), va_P D vwCl (ws ++ [(q, wInt (cy 0) N (fun _ => nI 0))]) H1 → va_D A (ws ++ [(q, wInt (cy 0) N (fun _ => nI 0))]) → va_S A H0 H1 locs → W p l e R s m args below meth c H1 locs (cells + 1) (slots + N) Q (F0 m (pc + 2) ls (.ref q :: rest))) : W p l e R s m args below meth c H locs cells slots Q (F0 m pc ls (.int (nI N) :: rest)) := by
  refine va_newa (atype := .int) (ty := .int) (N' := N) (a0 := (N, .inl (fun _ => nI 0))) hexec hb harr rfl hK hP hD hS hA (fun cA => rfl) (nI_pos (by omega)) (nI_clamp (by omega)) (by show N * 4 ≤ 536870912; omega) hcells hslots hdg (fun q cA H1 hK1 h1 h2 h3 => ?_)
  have e : cA = cy 0 := by
    have g1 := (hK1.2 5 (cA, .int) rfl).2
    have g2 := (hK.2 0 (cy 0, .int) rfl).2
    dsimp only [va_RA] at g1 g2
    rw [g1] at g2
    exact Option.some.inj g2
  subst e
  exact kk q H1 h1 h2 h3
theorem newB (hexec : p.tables.exec = Jvm.exec) (hb : c.code = cc) (harr : (Cond.arrayClass .boolean).before args s = true) (hK : va_K D vwCl (TY cy) s) (hP : va_P D vwCl ws H) (hD : va_D A ws) (hS : va_S A H0 H locs) (hA : ∀ q, H0.size ≤ q → A q) {N : Nat} (hN : N < 100000) (hcells : cells + 1 ≤ R.cells) (hslots : slots + N ≤ R.slots) (hdg : decode cc pc = .ok (.newarray .boolean, 2))
    (kk : ∀ (q : Nat) (H1 : Heap), va_P D vwCl (ws ++ [(q, wInt (cy 1) N (fun _ => nI 0))]) H1 → va_D A (ws ++ [(q, wInt (cy 1) N (fun _ => nI 0))]) → va_S A H0 H1 locs → W p l e R s m args below meth c H1 locs (cells + 1) (slots + N) Q (F0 m (pc + 2) ls (.ref q :: rest))) : W p l e R s m args below meth c H locs cells slots Q (F0 m pc ls (.int (nI N) :: rest)) := by
  refine va_newa (atype := .boolean) (ty := .boolean) (N' := N) (a0 := (N, .inl (fun _ => nI 0))) hexec hb harr rfl hK hP hD hS hA (fun cA => rfl) (nI_pos (by omega)) (nI_clamp (by omega)) (by show N * 1 ≤ 536870912; omega) hcells hslots hdg (fun q cA H1 hK1 h1 h2 h3 => ?_)
  have e : cA = cy 1 := by
    have g1 := (hK1.2 5 (cA, .boolean) rfl).2
    have g2 := (hK.2 1 (cy 1, .boolean) rfl).2
    dsimp only [va_RA] at g1 g2
    rw [g1] at g2
    exact Option.some.inj g2
  subst e
  exact kk q H1 h1 h2 h3
theorem newQ {k : Nat} {C own : String} {index : Nat} (ht : (TY cy)[k]? = some (cy k, .object C)) (hexec : p.tables.exec = Jvm.exec) (hb : c.code = cc) (hown : s.vm.findClass own = some m.cls) (hclink : (Cond.classLink own index C).before args s = true) (hover : va_AO C s) (hK : va_K D vwCl (TY cy) s) (hP : va_P D vwCl ws H) (hD : va_D A ws) (hS : va_S A H0 H locs) (hA : ∀ q, H0.size ≤ q → A q) {N : Nat} (hN : N < 100000) (hcells : cells + 1 ≤ R.cells) (hslots : slots + N ≤ R.slots) (hdg : decode cc pc = .ok (.anewarray index, 3))
    (kk : ∀ (q : Nat) (H1 : Heap), va_P D vwCl (ws ++ [(q, wRef (cy k) N (fun _ => none))]) H1 → va_D A (ws ++ [(q, wRef (cy k) N (fun _ => none))]) → va_S A H0 H1 locs → W p l e R s m args below meth c H1 locs (cells + 1) (slots + N) Q (F0 m (pc + 3) ls (.ref q :: rest))) : W p l e R s m args below meth c H locs cells slots Q (F0 m pc ls (.int (nI N) :: rest)) := by
  refine va_newq (C := C) (N' := N) hexec hb hown hclink hover hK hP hD hS hA (nI_pos (by omega)) (nI_clamp (by omega)) (by omega) hcells hslots hdg (fun q cA H1 hK1 h1 h2 h3 => ?_)
  have e : cA = cy k := by
    obtain ⟨kA, comp, -, -, -, g1⟩ := (hK1.2 5 (cA, .object C) rfl).2
    obtain ⟨kA', comp', -, -, -, g2⟩ := (hK.2 k (cy k, .object C) ht).2
    exact Option.some.inj (g1.symm.trans g2)
  subst e
  exact kk q H1 h1 h2 h3
theorem stR {ws' : va_W} (hexec : p.tables.exec = Jvm.exec) (hb : c.code = cc) (hK : va_K D vwCl (TY cy) s) (hP : va_P D vwCl ws H) (hD : va_D A ws) (hS : va_S A H0 H locs) (q0 qk : Nat) {n : Nat} {f : Nat → Option Nat} {vs : List Value} (ha : ws[q0]? = some (ad, wRef (cy 3) n f)) {j v : Nat} (hx : ws[qk]? = some (v, .inr (7, vs))) (hj : j < n) (hn : n < 2 ^ 31) (hdg : decode cc pc = .ok (.aastore, 1)) (hw : ws.set q0 (ad, wRef (cy 3) n (va_up f j (some v))) = ws')
    (kk : ∀ (H1 : Heap) (locs1 : List Loc), va_P D vwCl ws' H1 → va_D A ws' → va_S A H0 H1 locs1 → W p l e R s m args below meth c H1 locs1 cells slots Q (F0 m (pc + 1) ls rest)) : W p l e R s m args below meth c H locs cells slots Q (F0 m pc ls (.ref v :: .int (nI j) :: .ref ad :: rest)) := by
  refine va_astq (r := (RX8, TX8, 3)) hexec hb hK hP hD hS q0 3 qk 7 ha rfl hx rfl (vp_in_nI hj hn) hdg (fun H1 locs1 g1 g2 g3 => ?_)
  rw [nI_clamp (by omega), hw] at g1 g2
  exact kk H1 locs1 g1 g2 g3
end CTOR
