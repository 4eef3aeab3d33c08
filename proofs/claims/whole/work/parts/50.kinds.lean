def goF (t : Nat → Int32) (n c k : Nat) : Nat → Int32 := if t 2 ≤ fillN t (besideS t c k) n then t else stS t n c (besideS t c k) (-1000000)
def goW (t : Nat → Int32) (n c k : Nat) : Nat → Int32 := if t 2 ≤ fillN t (t (21 + k)) n then t else stS t n c (t (21 + k)) (nI k)
def wanF (t : Nat → Int32) (n c : Nat) : Nat → Int32 := if drF t n c = -1000000 then t else if t (21 + cl (drF t n c)) = t (21 + c) then stS t n c (t (21 + cl (drF t n c))) (drF t n c) else goF t n c (cl (drF t n c))
def wanW (t : Nat → Int32) (n c : Nat) : Nat → Int32 := if drF t n c = -1000000 then t else if t (21 + cl (drF t n c)) = t (21 + c) then stS t n c (t (21 + cl (drF t n c))) (drF t n c) else goW t n c (cl (drF t n c))
def wanB (t : Nat → Int32) (n c : Nat) : Nat → Int32 := if cdF t (t (21 + c)) (t (29 + c) - nI 1) n 0 = -1000000 then t else cpS t c (cl (cdF t (t (21 + c)) (t (29 + c) - nI 1) n 0))
theorem cdF_nat' {t : Nat → Int32} {d pl : Int32} : ∀ k i, ¬ cdF t d pl k i = -1000000 → ∃ j, i ≤ j ∧ j < i + k ∧ cdF t d pl k i = nI j
  | 0, i, h => absurd rfl h
  | k + 1, i, h => by
    rw [cdF] at h ⊢
    split
    · exact ⟨i, by omega, by omega, rfl⟩
    · rename_i q
      rw [if_neg q] at h
      obtain ⟨j, h1, h2, h3⟩ := cdF_nat' k (i + 1) h
      exact ⟨j, by omega, by omega, h3⟩
theorem cdF_nat {t : Nat → Int32} {d pl : Int32} {n : Nat} (h : ¬ cdF t d pl n 0 = -1000000) : ∃ j, j < n ∧ cdF t d pl n 0 = nI j := by
  obtain ⟨j, _, h2, h3⟩ := cdF_nat' n 0 h
  exact ⟨j, by omega, h3⟩
section STEPS5
variable {p : Program} {l : Launch} {e : Env} {R : Room} {s : State} {m : MethodId} {args : Array Value} {below : List Frame} {meth : Method} {c : Code} {H : Heap} {locs : List Loc} {cells slots : Nat} {Q : State → Prop} {pc : Nat} {ls : Array Slot} {rest : List Value} {cc : ByteArray} {D : va_G} {cy : Nat → ClassId} {A : Nat → Prop} {ws : va_W} {ad : Nat} {H0 : Heap}
theorem top_q {x y : Option Nat} (h : x = y) (k : W p l e R s m args below meth c H locs cells slots Q (F0 m pc ls (va_rf y :: rest))) : W p l e R s m args below meth c H locs cells slots Q (F0 m pc ls (va_rf x :: rest)) := by rw [h]; exact k
theorem ldR {k : Nat} {C : String} (hexec : p.tables.exec = Jvm.exec) (hb : c.code = cc) (hK : va_K D vwCl (TY cy) s) (hP : va_P D vwCl ws H) (q0 : Nat) {n : Nat} {f : Nat → Option Nat} (ha : ws[q0]? = some (ad, wRef (cy k) n f)) (ht : (TY cy)[k]? = some (cy k, .object C)) {j : Nat} (hj : j < n) (hn : n < 2 ^ 31) (hdg : decode cc pc = .ok (.aaload, 1))
    (kk : W p l e R s m args below meth c H locs cells slots Q (F0 m (pc + 1) ls (va_rf (f j) :: rest))) : W p l e R s m args below meth c H locs cells slots Q (F0 m pc ls (.int (nI j) :: .ref ad :: rest)) := by
  refine va_aldq hexec hb hK hP q0 k ha ht (vp_in_nI hj hn) hdg ?_
  rw [nI_clamp (by omega)]
  exact kk
end STEPS5
