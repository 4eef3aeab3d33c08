section STEPS3
variable {p : Program} {l : Launch} {e : Env} {R : Room} {s : State} {m : MethodId} {args : Array Value} {below : List Frame} {meth : Method} {c : Code} {H : Heap} {locs : List Loc} {cells slots : Nat} {Q : State → Prop} {pc : Nat} {ls : Array Slot} {rest : List Value} {cc : ByteArray}
theorem ifeqN (hexec : p.tables.exec = Jvm.exec) (hb : c.code = cc) {a : Nat} (ha : a < 2 ^ 31) {off : Int} {tgt : Nat} (hdg : decode cc pc = .ok (.ifCond .eq off, 3)) (ht : (pc : Int) + off = (tgt : Int)) (kt : a = 0 → W p l e R s m args below meth c H locs cells slots Q (F0 m tgt ls rest)) (kf : a ≠ 0 → W p l e R s m args below meth c H locs cells slots Q (F0 m (pc + 3) ls rest)) : W p l e R s m args below meth c H locs cells slots Q (F0 m pc ls (.int (nI a) :: rest)) :=
  lv_if_eq hexec hb hdg ht (fun h => kt ((nI_eq ha (by decide)).mp (h.trans nI_0.symm))) (fun h => kf (fun q => h (by rw [q]; rfl)))
theorem ifneN (hexec : p.tables.exec = Jvm.exec) (hb : c.code = cc) {a : Nat} (ha : a < 2 ^ 31) {off : Int} {tgt : Nat} (hdg : decode cc pc = .ok (.ifCond .ne off, 3)) (ht : (pc : Int) + off = (tgt : Int)) (kt : a ≠ 0 → W p l e R s m args below meth c H locs cells slots Q (F0 m tgt ls rest)) (kf : a = 0 → W p l e R s m args below meth c H locs cells slots Q (F0 m (pc + 3) ls rest)) : W p l e R s m args below meth c H locs cells slots Q (F0 m pc ls (.int (nI a) :: rest)) :=
  lv_if_ne hexec hb hdg ht (fun h => kt (fun q => h (by rw [q]; rfl))) (fun h => kf ((nI_eq ha (by decide)).mp (h.trans nI_0.symm)))
end STEPS3
theorem sw_at {x : Int32} {lo : Int} {k : Nat} {offs : Array Int} {off : Int} (h : x.toInt = lo + k) (ho : offs[k]? = some off) : offs[(x.toInt - lo).toNat]? = some off := by
  rw [h, show (lo + (k : Int) - lo).toNat = k by omega]; exact ho
theorem sw_eq {x : Int32} {k : Nat} (h : x.toInt = 0 + (k : Int)) (hk : k < 100000) : x = nI k := by
  rw [fa_eq, h, nI_toInt (by omega)]; omega
theorem sw_ne {x : Int32} {hi : Int} (h : x.toInt < 0 ∨ hi < x.toInt) (j : Nat) (hj : (j : Int) ≤ hi) (hj2 : j < 100000) : ¬ x = nI j := by
  intro e
  rw [e, nI_toInt (by omega)] at h
  omega
/-! what is written into the rows of acts -/
def nta (a : Nat) : Nat := if a = 24 then 23 else a
def shN (f : Nat → Int32) (k : Nat) : Nat → Int32 := fun j => if j < k then f (j + 37) else f j
theorem shN_0 (f : Nat → Int32) : shN f 0 = f := by funext j; simp [shN]
theorem shN_succ (f : Nat → Int32) (k : Nat) : upd (shN f k) k (shN f k (k + 37)) = shN f (k + 1) := by
  funext j
  by_cases e : j = k
  · subst e; rw [pk_us]; simp [shN, show ¬ j + 37 < j by omega]
  · rw [pk_un e]; simp only [shN]
    have : j < k + 1 ↔ j < k := by omega
    simp only [this]
def noteF (f : Nat → Int32) (a : Nat) (s : Nat → Int32) : Nat → Int32 := putF (if a = 24 then shN f 851 else f) (37 * nta a) s
def trnN (s : Nat → Int32) (d fl : Int32) : Nat → (Nat → Int32)
  | 0 => s
  | i + 1 => upd (trnN s d fl i) (29 + i) (if trnN s d fl i (21 + i) = d then fl - nI 1 - trnN s d fl i (29 + i) else trnN s d fl i (29 + i))
/-- the rows that are used for trying alone: what they hold is told of no call -/
def scr (A2 A : Nat → Nat → Int32) : Prop := ∀ j, j ≠ 14 → j ≠ 15 → j ≠ 22 → j ≠ 23 → A2 j = A j
abbrev noOne (A : Nat → Nat → Int32) (x : Int32) : Prop := ¬ (nI 0 ≤ x ∧ x ≤ A 12 3 - nI 1)
abbrev noDr (A : Nat → Nat → Int32) (x : Int32) : Prop := ¬ (nI 0 ≤ x ∧ x ≤ A 12 1 - nI 1)
abbrev cl (x : Int32) : Nat := x.toNatClampNeg
def acN (a : Nat) : Nat → Nat
  | 0 => a
  | k + 1 => nta (acN a k) + 1
theorem acN_le {a : Nat} (h : a ≤ 24) : ∀ k, acN a k ≤ 24
  | 0 => h
  | k + 1 => by
    have := acN_le h k
    rw [acN, nta]; split <;> omega
def ngtN (v : Nat → Int32) (A : Nat → Nat → Int32) (n a : Nat) : Nat → MS
  | 0 => (v, A)
  | k + 1 => (upd (ngtN v A n a k).1 19 (nI (nta (acN a k) + 1)), va_up (va_up (ngtN v A n a k).2 18 (noteF ((ngtN v A n a k).2 18) (acN a k) ((ngtN v A n a k).2 12))) 12 (nightS ((ngtN v A n a k).2 12) n (nI 0)))
def mNights (v : Nat → Int32) (A : Nat → Nat → Int32) (n a : Nat) (x : Int32) : Int32 × MS :=
  if ¬ A 12 4 = nI 1 then (-1000002, v, A)
  else if ¬ (nI 1 ≤ x ∧ x ≤ nI 24) then (-1000001, v, A)
  else if ¬ A 12 0 + x ≤ nI 9999 then (-1000003, v, A)
  else (matesN ((ngtN v A n a (cl x)).2 12) n n, ngtN v A n a (cl x))
def mPut (v : Nat → Int32) (A : Nat → Nat → Int32) (n a : Nat) (x d : Int32) : Int32 × MS :=
  if noOne A x ∨ noDr A d then (-1000001, v, A)
  else if ¬ A 12 (21 + cl x) = d ∧ ¬ fillN (A 12) d n < A 12 2 then (-1000002, v, A)
  else (A 12 (21 + cl x), upd v 19 (nI (nta a + 1)), va_up (va_up A 18 (noteF (A 18) a (A 12))) 12 (behindS (A 12) n (cl x) d))
def mTurn (v : Nat → Int32) (A : Nat → Nat → Int32) (n a : Nat) (d : Int32) : Int32 × MS :=
  if noDr A d then (-1000001, v, A)
  else (fillN (A 12) d n, upd v 19 (nI (nta a + 1)), va_up (va_up A 18 (noteF (A 18) a (A 12))) 12 (trnN (A 12) d (fillN (A 12) d n) n))
def mLike (v : Nat → Int32) (A : Nat → Nat → Int32) (a : Nat) (x o : Int32) : Int32 × MS :=
  if noOne A x ∨ ¬ (nI 0 ≤ o ∧ o ≤ nI 7) ∨ o = x then (-1000001, v, A)
  else (A 12 (13 + cl x), upd v 19 (nI (nta a + 1)), va_up (va_up A 18 (noteF (A 18) a (A 12))) 12 (upd (A 12) (13 + cl x) o))
def mUndo (v : Nat → Int32) (A : Nat → Nat → Int32) (a : Nat) : Int32 × MS :=
  if a = 0 then (-1000002, v, A)
  else (nI (a - 1), upd v 19 (nI (a - 1)), va_up A 12 (fun j => A 18 (37 * (a - 1) + j)))
def mCard (A : Nat → Nat → Int32) (n : Nat) (x w : Int32) : Int32 :=
  if noOne A x then -1000001
  else if w = nI 0 then A 12 (21 + cl x)
  else if w = nI 1 then A 12 (29 + cl x)
  else if w = nI 2 then A 12 (13 + cl x)
  else if w = nI 3 then cardAtN (A 12) (A 12 (21 + cl x)) (A 12 (29 + cl x) - nI 1) n
  else -1000001
def mDrawer (A : Nat → Nat → Int32) (n : Nat) (d w : Int32) : Int32 :=
  if noDr A d then -1000001
  else if w = 0 then fillN (A 12) d n
  else if w = nI 1 then cardsN (A 12) d n
  else if w = nI 2 then cardAtN (A 12) d (nI 0) n
  else -1000001
def mAhead (A : Nat → Nat → Int32) (n : Nat) (x d w : Int32) : Int32 :=
  if noOne A x ∨ ¬ (nI 0 ≤ d ∧ d ≤ nI 60) ∨ ¬ (nI 0 ≤ w ∧ w ≤ nI 1) then -1000001
  else if w = 0 then nightsS (A 12) n (cl d) (21 + cl x) else nightsS (A 12) n (cl d) (29 + cl x)
def foundN (s : Nat → Int32) (n c : Nat) (d : Int32) : Nat → Nat → Int32
  | 0, _ => -1000000
  | f + 1, k => if nightsS s n k (21 + c) = d then nI k else foundN s n c d f (k + 1)
def mFound (A : Nat → Nat → Int32) (n : Nat) (x d : Int32) : Int32 :=
  if noOne A x ∨ noDr A d then -1000001 else foundN (A 12) n (cl x) d 61 0
/-- the first i cards stand alike -/
def asN (s t : Nat → Int32) : Nat → Prop
  | 0 => True
  | i + 1 => asN s t i ∧ s (21 + i) = t (21 + i) ∧ s (29 + i) = t (29 + i)
theorem asN_iff (s t : Nat → Int32) : ∀ i, asN s t i ↔ ∀ c, c < i → s (21 + c) = t (21 + c) ∧ s (29 + c) = t (29 + c)
  | 0 => by simp [asN]
  | i + 1 => by
    rw [asN, asN_iff s t i]
    constructor
    · rintro ⟨h1, h2⟩ c hc
      by_cases e : c = i
      · subst e; exact h2
      · exact h1 c (by omega)
    · intro h
      exact ⟨fun c hc => h c (by omega), h i (by omega)⟩
noncomputable def stillN (s : Nat → Int32) (n : Nat) : Nat → Nat → Int32
  | 0, _ => -1000000
  | f + 1, k => @ite _ (asN (nightsS s n (k + 1)) (nightsS s n k) n) (Classical.propDecidable _) (nI k) (stillN s n f (k + 1))
noncomputable def roundN (s : Nat → Int32) (n : Nat) : Nat → Nat → Int32
  | 0, _ => -1000000
  | f + 1, k => @ite _ (asN (nightsS s n (k + 1)) s n) (Classical.propDecidable _) (nI (k + 1)) (roundN s n f (k + 1))
noncomputable def mStill (A : Nat → Nat → Int32) (n : Nat) (w : Int32) : Int32 :=
  if ¬ A 12 4 = nI 1 then -1000002
  else if ¬ (nI 0 ≤ w ∧ w ≤ nI 1) then -1000001
  else if w = 0 then stillN (A 12) n 201 0 else roundN (A 12) n 200 0
def mMates (A : Nat → Nat → Int32) (n : Nat) : Int32 := if A 12 4 = nI 1 then matesN (A 12) n n else -1000002
def mImage (v : Nat → Int32) (A : Nat → Nat → Int32) (x : Int32) : Int32 × MS :=
  if ¬ (nI 0 ≤ x ∧ x ≤ nI 1) then (-1000001, v, A)
  else if ¬ A 12 4 = nI 1 then (-1000002, v, A)
  else (nI 1, v, va_up (va_up A 16 (putF (A 16) (37 * cl x) (A 12))) 17 (upd (A 17) (cl x) (nI 1)))
def mRestore (v : Nat → Int32) (A : Nat → Nat → Int32) (x : Int32) : Int32 × MS :=
  if ¬ (nI 0 ≤ x ∧ x ≤ nI 1) then (-1000001, v, A)
  else if A 17 (cl x) = 0 then (-1000002, v, A)
  else (nI 1, upd v 19 (nI 0), va_up A 12 (fun j => A 16 (37 * cl x + j)))
def mKind (A : Nat → Nat → Int32) (x : Int32) : Int32 := if noOne A x then -1000001 else A 12 (5 + cl x)
def parF (k : Int32) : Int32 := if k = nI 1 ∨ k = nI 4 then nI 0 else if k = nI 5 then nI 4 else nI 1
def mAs (v : Nat → Int32) (A : Nat → Nat → Int32) (x k : Int32) : Int32 × (Nat → Int32) :=
  if noOne A x ∨ ¬ (nI 0 ≤ k ∧ k ≤ nI 5) then (-1000001, v)
  else if k = 0 ∨ A 12 (5 + cl x) = k ∨ parF (A 12 (5 + cl x)) = k then (x, upd v 3 (nI 0))
  else (-1000010 - nI 3, upd v 3 (nI 3))
/-- a body leaves its number -/
def tr1 (t : Nat × (Nat → Int32)) (b : Nat) : Nat × (Nat → Int32) := if t.1 < 16 then (t.1 + 1, upd t.2 t.1 (nI b)) else t
def trs (t : Nat × (Nat → Int32)) : List Nat → Nat × (Nat → Int32)
  | [] => t
  | b :: bs => trs (tr1 t b) bs
theorem tr1_le {t : Nat × (Nat → Int32)} (h : t.1 ≤ 16) (b : Nat) : (tr1 t b).1 ≤ 16 := by
  rw [tr1]; split
  · show t.1 + 1 ≤ 16; omega
  · exact h
theorem trs_le : ∀ (bs : List Nat) {t : Nat × (Nat → Int32)}, t.1 ≤ 16 → (trs t bs).1 ≤ 16
  | [], _, h => h
  | b :: bs, _, h => trs_le bs (tr1_le h b)
def mTrace (v : Nat → Int32) (A : Nat → Nat → Int32) (i : Int32) : Int32 := if nI 0 ≤ i ∧ i ≤ v 21 - nI 1 then A 20 (cl i) else -1000000
def rowsN (f : Nat → Int32) : Nat → Int32
  | 0 => nI 0
  | k + 1 => rowsN f k + (if 0 ≤ f k then nI 1 else nI 0)
def mCount (v : Nat → Int32) (A : Nat → Nat → Int32) (n : Nat) (w : Int32) : Int32 :=
  if w = nI 0 then rowsN (A 0) 8
  else if w = nI 1 then A 12 1
  else if w = nI 2 then A 12 3
  else if w = nI 3 then A 12 0
  else if w = nI 4 then A 12 2
  else if w = nI 5 then v 19
  else if w = nI 6 then v 4
  else if w = nI 7 then figN (A 12) n
  else -1000001
def mkNewT (s : Nat → Int32) (c : Nat) : List Nat := if s (5 + c) = nI 2 then [24, 21, 20] else if s (5 + c) = nI 3 then [22, 21, 20] else [21, 20]
def mkNewV (s : Nat → Int32) (c : Nat) : Int32 := if s (5 + c) = nI 2 then nI 2 * (nI c + s (29 + c)) else if s (5 + c) = nI 3 then nI c + s (29 + c) - nI 1000 else nI c + s (29 + c)
def szT (s : Nat → Int32) (c : Nat) : List Nat := if s (5 + c) = nI 5 then [14, 13, 10] else if s (5 + c) = nI 4 then [13, 10] else if s (5 + c) = nI 2 then 12 :: 11 :: 10 :: mkNewT s c else 11 :: 10 :: mkNewT s c
def szV (s : Nat → Int32) (c : Nat) : Int32 := if s (5 + c) = nI 5 then nI 2 * (s (13 + c) - nI 100) else if s (5 + c) = nI 4 then s (13 + c) - nI 100 else if s (5 + c) = nI 2 then -(s (13 + c) + mkNewV s c) else s (13 + c) + mkNewV s c
def mkT (s : Nat → Int32) (c : Nat) : List Nat := if nI 4 ≤ s (5 + c) then 23 :: 20 :: szT s c else mkNewT s c
def mkV (s : Nat → Int32) (c : Nat) : Int32 := if nI 4 ≤ s (5 + c) then nI c - szV s c else mkNewV s c
def mAsk (v : Nat → Int32) (A : Nat → Nat → Int32) (x w : Int32) : Int32 × MS :=
  if noOne A x ∨ ¬ (nI 0 ≤ w ∧ w ≤ nI 1) then (-1000001, v, A)
  else if w = 0 then (szV (A 12) (cl x), upd v 21 (nI (trs (0, A 20) (szT (A 12) (cl x))).1), va_up A 20 (trs (0, A 20) (szT (A 12) (cl x))).2)
  else (mkV (A 12) (cl x), upd v 21 (nI (trs (0, A 20) (mkT (A 12) (cl x))).1), va_up A 20 (trs (0, A 20) (mkT (A 12) (cl x))).2)
