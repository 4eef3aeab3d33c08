theorem mn40 {m : Nat} (h : m ≤ 40) : (if nI 40 < nI m then nI 40 else nI m) = nI m := if_neg (fun q => by have := (nIlt (by omega) (by omega)).mp q; omega)
theorem mx0 {m : Nat} (h : m ≤ 40) : (if nI 0 < nI m then nI m else nI 0) = nI m := by
  split
  · rfl
  · rename_i q
    have : m = 0 := by
      rcases Nat.eq_zero_or_pos m with e | e
      · exact e
      · exact absurd ((nIlt (by omega) (by omega)).mpr e) q
    rw [this]
theorem rch {i n : Int32} {z : Nat} (hz : z ≤ 40) (h1 : ¬ i < 0) (h2 : ¬ n < 0) : (¬ lN z < i.toInt64 + n.toInt64) ↔ (n ≤ nI z ∧ i ≤ nI z - n) := by
  have e0 : (0 : Int32).toInt = 0 := rfl
  have ez : (nI z).toInt = z := by
    have := nI_toInt (show z < 2 ^ 31 by omega); exact this
  have eL : (lN z).toInt = z := by
    exact lN_toInt (by omega)
  rw [Int32.lt_iff_toInt_lt, e0] at h1 h2
  have b1 := Int32.toInt_lt i
  have b2 := Int32.toInt_lt n
  rw [Int64.lt_iff_toInt_lt, Int64.toInt_add, Int32.toInt_toInt64, Int32.toInt_toInt64, eL, Int32.le_iff_toInt_le, Int32.le_iff_toInt_le, Int32.toInt_sub, ez]
  rw [Int.bmod_eq_of_le (by omega) (by omega), Int.bmod_eq_of_le (by omega) (by omega)]
  omega
theorem rch_y {i n : Int32} {z : Nat} (hz : z ≤ 40) (h1 : ¬ i < 0) (h2 : ¬ n < 0) (h3 : ¬ lN z < i.toInt64 + n.toInt64) : isPrt i n (nI z) := ⟨Int32.not_lt.mp h1, Int32.not_lt.mp h2, ((rch hz h1 h2).mp h3).1, ((rch hz h1 h2).mp h3).2⟩
theorem rch_n {i n : Int32} {z : Nat} (hz : z ≤ 40) (h1 : ¬ i < 0) (h2 : ¬ n < 0) (h3 : lN z < i.toInt64 + n.toInt64) : ¬ isPrt i n (nI z) := fun q => (rch hz h1 h2).mpr ⟨q.2.2.1, q.2.2.2⟩ h3
theorem prt_1 {j z : Nat} (hz : z ≤ 40) (h : j < z) : isPrt (nI j) (nI 1) (nI z) := (isPrt_iff (by omega) (by omega) hz).mpr (by omega)
theorem prt_n {i n z : Nat} (hz : z ≤ 40) (h : i + n ≤ z) : isPrt (nI i) (nI n) (nI z) := (isPrt_iff (by omega) (by omega) hz).mpr h
theorem tr1_y {z : Nat} {f : Nat → Int32} (h : z < 16) (b : Nat) : tr1 (z, f) b = (z + 1, upd f z (nI b)) := if_pos h
theorem tr1_n {z : Nat} {f : Nat → Int32} (h : ¬ z < 16) (b : Nat) : tr1 (z, f) b = (z, f) := if_neg h
def bc1 (x : Int32) : Int32 := x - ((x.toUInt32 >>> ((nI 1).toUInt32 &&& Int32.toUInt32 31)).toInt32 &&& nI 1431655765)
def bc2 (x : Int32) : Int32 := (x &&& nI 858993459) + ((x.toUInt32 >>> ((nI 2).toUInt32 &&& Int32.toUInt32 31)).toInt32 &&& nI 858993459)
def bc3 (x : Int32) : Int32 := (x + (x.toUInt32 >>> ((nI 4).toUInt32 &&& Int32.toUInt32 31)).toInt32) &&& nI 252645135
def bc4 (x : Int32) : Int32 := x + (x.toUInt32 >>> ((nI 8).toUInt32 &&& Int32.toUInt32 31)).toInt32
def bc5 (x : Int32) : Int32 := x + (x.toUInt32 >>> ((nI 16).toUInt32 &&& Int32.toUInt32 31)).toInt32
def bcF (x : Int32) : Int32 := bc5 (bc4 (bc3 (bc2 (bc1 x)))) &&& nI 63
theorem bcF_bits : ∀ n, n < 256 → bcF (nI n) = bitsN (nI n) 8 := by decide +kernel
section STEPS7
variable {p : Program} {l : Launch} {e : Env} {R : Room} {s : State} {m : MethodId} {args : Array Value} {below : List Frame} {meth : Method} {c : Code} {H : Heap} {locs : List Loc} {cells slots : Nat} {Q : State → Prop} {pc : Nat} {ls : Array Slot} {rest : List Value} {cc : ByteArray} {D : va_G} {cy : Nat → ClassId} {A : Nat → Prop} {ws : va_W} {ad : Nat} {H0 : Heap}
theorem cpN {ws' : va_W} (hexec : p.tables.exec = Jvm.exec) (hb : c.code = cc) (hml : c.maxLocals = ls.size) {own : String} {index : Nat} (hown : s.vm.findClass own = some m.cls) (hlink : (Cond.methodLink own index arraycopyName).before args s = true) (hnat : (Cond.native arraycopyName).before args s = true) (hstat : (Cond.static arraycopyName).before args s = true) (hini : (Cond.initialized "java/lang/System").before args s = true)
    (hK : va_K D vwCl (TY cy) s) (hP : va_P D vwCl ws H) (hD : va_D A ws) (hS : va_S A H0 H locs) (q0 q1 : Nat) {a0 n0 n1 : Nat} {f g : Nat → Int32} (ha0 : ws[q0]? = some (a0, wInt (cy 0) n0 f)) (ha1 : ws[q1]? = some (ad, wInt (cy 0) n1 g))
    {i j n : Nat} (h0 : n0 < 100000) (h1 : n1 < 100000) (h4 : i + n ≤ n0) (h5 : j + n ≤ n1)
    (hframes : 1 ≤ R.frames) (hlocals : (rest.map fun v => v.category).sum + (nativeFrameWords "java/lang/System" "arraycopy" 5 + 11) ≤ R.locals) (hdg : decode cc pc = .ok (.invokestatic index, 3)) (hw : ws.set q1 (ad, wInt (cy 0) n1 (va_cpy f g i j n)) = ws')
    (kk : ∀ (H1 : Heap) (locs1 : List Loc), va_P D vwCl ws' H1 → va_D A ws' → va_S A H0 H1 locs1 → W p l e R s m args below meth c H1 locs1 cells slots Q (F0 m (pc + 3) ls rest)) : W p l e R s m args below meth c H locs cells slots Q (F0 m pc ls (.int (nI n) :: .int (nI j) :: .ref ad :: .int (nI i) :: .ref a0 :: rest)) := by
  have e1 : (nI i).toNatClampNeg = i := nI_clamp (by omega)
  have e2 : (nI j).toNatClampNeg = j := nI_clamp (by omega)
  have e3 : (nI n).toNatClampNeg = n := nI_clamp (by omega)
  refine va_copyi hexec hb hml hown hlink hnat hstat hini hK hP hD hS q0 q1 0 0 ha0 ha1 rfl rfl rfl (nI_pos (by omega)) (nI_pos (by omega)) (nI_pos (by omega)) (by omega) (by omega) (fun _ _ => rfl) hframes hlocals hdg (fun H1 locs1 g1 g2 g3 => ?_)
  rw [e1, e2, e3, hw] at g1 g2
  exact kk H1 locs1 g1 g2 g3
end STEPS7
theorem jn1 {t tl : Nat → Int32} {n : Nat} {li : Int32} (hn : n < 8) (etl : tl = upd t (13 + n) li) : t 1 = tl 1 ∧ t 2 = tl 2 ∧ t 3 = tl 3 ∧ t 0 = tl 0 ∧ upd (fun j => t (13 + j)) n li = (fun j => tl (13 + j)) ∧ (fun j => t (21 + j)) = (fun j => tl (21 + j)) ∧ (fun j => t (29 + j)) = (fun j => tl (29 + j)) := by
  subst etl
  refine ⟨by rw [pk_un (by omega)], by rw [pk_un (by omega)], by rw [pk_un (by omega)], by rw [pk_un (by omega)], ?_, ?_, ?_⟩
  · funext j
    by_cases e : j = n
    · subst e; rw [pk_us, pk_us]
    · rw [pk_un e, pk_un (by omega)]
  · funext j; rw [pk_un (by omega)]
  · funext j; rw [pk_un (by omega)]
theorem JP {D : va_G} {cy : Nat → ClassId} {kd : Nat → Nat} {a : Nat} {b : Nat → Nat} {S : Nat → Option Nat} {t tl : Nat → Int32} {n k : Nat} {d li : Int32} {H : Heap} (hn : n < 8) (etl : tl = upd t (13 + n) li)
    (hP : va_P D vwCl (kW kd ++ [(a, .inr (8, [.ref (b 0), .ref (b 1), .ref (b 2), .ref (b 3), .int (tl 1), .int (tl 2), .int (nI (n + 1)), .int (tl 0)])), (b 0, wRef (cy 2) 8 S), (b 1, wInt (cy 0) 8 (fun j => tl (13 + j))), (b 2, wInt (cy 0) 8 (upd (fun j => tl (21 + j)) n d)), (b 3, wInt (cy 0) 8 (upd (fun j => tl (29 + j)) n (fillN tl d n)))]) H) : va_P D vwCl (kW kd ++ sW cy a b S (jnA t n d k li)) H := by
  obtain ⟨e1, e2, e3, e0, g1, g2, g3⟩ := jn1 hn etl
  have ef : fillN tl d n = fillN t d n := fillN_cong n (fun j hj => by rw [etl, pk_un (by omega)])
  rw [← e1, ← e2, ← e0, ← g1, ← g2, ← g3, ef, jnA_lo t n d k li (show 1 < 3 by omega), jnA_lo t n d k li (show 2 < 3 by omega), jnA_lo t n d k li (show 0 < 3 by omega), jnA_3 t n d k li] at hP
  exact P_ext (P_ext (P_ext hP 7 rfl (g := fun j => jnA t n d k li (13 + j)) (jnA_l t hn d k li) rfl) 8 rfl (g := fun j => jnA t n d k li (21 + j)) (jnA_i t hn d k li) rfl) 9 rfl (g := fun j => jnA t n d k li (29 + j)) (jnA_p t hn d k li) rfl
