/-- the reference's object: its refs r, its numbers v, both by the place of the field -/
abbrev mO (r : Nat → Nat) (v : Nat → Int32) : List Value := [.ref (r 0), .ref (r 1), .ref (r 2), .int (v 3), .int (v 4), .ref (r 5), .int (v 6), .int (v 7), .int (v 8), .int (v 9), .int (v 10), .int (v 11), .ref (r 12), .ref (r 13), .ref (r 14), .ref (r 15), .ref (r 16), .ref (r 17), .ref (r 18), .int (v 19), .ref (r 20), .int (v 21), .ref (r 22), .ref (r 23)]
/-- it and its rows A, by the place of the field that holds each -/
abbrev mW (cy : Nat → ClassId) (h : Nat) (r : Nat → Nat) (v : Nat → Int32) (A : Nat → Nat → Int32) : va_W := [(h, .inr (11, mO r v)), (r 0, wInt (cy 0) 8 (A 0)), (r 1, wInt (cy 0) 8 (A 1)), (r 2, wInt (cy 0) 320 (A 2)), (r 5, wInt (cy 0) 60 (A 5)), (r 12, wInt (cy 0) 37 (A 12)), (r 13, wInt (cy 0) 37 (A 13)), (r 14, wInt (cy 0) 37 (A 14)), (r 15, wInt (cy 0) 37 (A 15)), (r 16, wInt (cy 0) 74 (A 16)), (r 17, wInt (cy 1) 2 (A 17)), (r 18, wInt (cy 0) 888 (A 18)), (r 20, wInt (cy 0) 16 (A 20)), (r 22, wInt (cy 0) 16 (A 22)), (r 23, wInt (cy 0) 24 (A 23))]
section STEPS2
variable {p : Program} {l : Launch} {e : Env} {R : Room} {s : State} {m : MethodId} {args : Array Value} {below : List Frame} {meth : Method} {c : Code} {H : Heap} {locs : List Loc} {cells slots : Nat} {Q : State → Prop} {pc : Nat} {ls : Array Slot} {rest : List Value} {cc : ByteArray} {D : va_G} {cy : Nat → ClassId} {A : Nat → Prop} {ws : va_W} {ad : Nat} {H0 : Heap}
theorem ldZ (hexec : p.tables.exec = Jvm.exec) (hb : c.code = cc) (hK : va_K D vwCl (TY cy) s) (hP : va_P D vwCl ws H) (q0 : Nat) {n : Nat} {f : Nat → Int32} (ha : ws[q0]? = some (ad, wInt (cy 1) n f)) {j : Nat} (hj : j < n) (hn : n < 2 ^ 31) (hdg : decode cc pc = .ok (.baload, 1))
    (kk : W p l e R s m args below meth c H locs cells slots Q (F0 m (pc + 1) ls (.int (f j) :: rest))) : W p l e R s m args below meth c H locs cells slots Q (F0 m pc ls (.int (nI j) :: .ref ad :: rest)) := by
  refine va_zald hexec hb hK hP q0 1 ha rfl (vp_in_nI hj hn) hdg ?_
  rw [nI_clamp (by omega)]
  exact kk
theorem stZ {ws' : va_W} (hexec : p.tables.exec = Jvm.exec) (hb : c.code = cc) (hK : va_K D vwCl (TY cy) s) (hP : va_P D vwCl ws H) (hD : va_D A ws) (hS : va_S A H0 H locs) (q0 : Nat) {n : Nat} {f : Nat → Int32} (ha : ws[q0]? = some (ad, wInt (cy 1) n f)) {j : Nat} {x : Int32} (hj : j < n) (hn : n < 2 ^ 31) (hx : vp_nar .boolean x = x) (hdg : decode cc pc = .ok (.bastore, 1)) (hw : ws.set q0 (ad, wInt (cy 1) n (upd f j x)) = ws')
    (kk : ∀ (H1 : Heap) (locs1 : List Loc), va_P D vwCl ws' H1 → va_D A ws' → va_S A H0 H1 locs1 → W p l e R s m args below meth c H1 locs1 cells slots Q (F0 m (pc + 1) ls rest)) : W p l e R s m args below meth c H locs cells slots Q (F0 m pc ls (.int x :: .int (nI j) :: .ref ad :: rest)) := by
  refine va_zast hexec hb hK hP hD hS q0 1 ha rfl (vp_in_nI hj hn) hdg (fun H1 locs1 h1 h2 h3 => ?_)
  rw [nI_clamp (by omega), hx, hw] at h1 h2
  exact kk H1 locs1 h1 h2 h3
end STEPS2
theorem sw_cases (x : Int32) (lo : Int) (n : Nat) : (x.toInt < lo ∨ lo + n - 1 < x.toInt) ∨ ∃ k : Nat, k < n ∧ x.toInt = lo + k := by
  rcases Int.lt_or_le x.toInt lo with h | h
  · exact Or.inl (Or.inl h)
  · rcases Int.lt_or_le (lo + n - 1) x.toInt with h2 | h2
    · exact Or.inl (Or.inr h2)
    · exact Or.inr ⟨(x.toInt - lo).toNat, by omega, by omega⟩
