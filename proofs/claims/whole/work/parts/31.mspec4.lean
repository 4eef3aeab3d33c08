section STEPS4
variable {p : Program} {l : Launch} {e : Env} {R : Room} {s : State} {m : MethodId} {args : Array Value} {below : List Frame} {meth : Method} {c : Code} {H : Heap} {locs : List Loc} {cells slots : Nat} {Q : State → Prop} {pc : Nat} {ls : Array Slot} {rest : List Value} {cc : ByteArray}
theorem ifleN (hexec : p.tables.exec = Jvm.exec) (hb : c.code = cc) {a : Nat} (ha : a < 2 ^ 31) {off : Int} {tgt : Nat} (hdg : decode cc pc = .ok (.ifCond .le off, 3)) (ht : (pc : Int) + off = (tgt : Int)) (kt : a = 0 → W p l e R s m args below meth c H locs cells slots Q (F0 m tgt ls rest)) (kf : 0 < a → W p l e R s m args below meth c H locs cells slots Q (F0 m (pc + 3) ls rest)) : W p l e R s m args below meth c H locs cells slots Q (F0 m pc ls (.int (nI a) :: rest)) :=
  lv_if_le hexec hb hdg ht (fun h => kt (by
    rcases Nat.eq_zero_or_pos a with q | q
    · exact q
    · exact absurd h (nI_nle q ha))) (fun h => kf (by
    rcases Nat.eq_zero_or_pos a with q | q
    · subst q; exact absurd (Int32.le_refl 0) h
    · exact q))
end STEPS4
theorem shl1' : ∀ n, n < 9 → nI 1 <<< (nI n &&& 31) = nI (2 ^ n) := by decide +kernel
theorem shl1 {n : Nat} (h : n ≤ 8) : nI 1 <<< (nI n &&& 31) = nI (2 ^ n) := shl1' n (by omega)
theorem pow2_le {n : Nat} (h : n ≤ 8) : 2 ^ n ≤ 256 := Nat.pow_le_pow_right (by decide) h
def rodN (s : Nat → Int32) (x : Int32) : Nat → (Nat → Int32)
  | 0 => s
  | o + 1 => upd (rodN s x o) (5 + o) (if (x >>> (nI o &&& 31)) &&& nI 1 = nI 1 then nI 4 else rodN s x o (5 + o))
theorem Cat.sort {s : Nat → Int32} {n o t : Nat} (hC : Cat s n) (ho : o < 8) (h1 : 1 ≤ t) (h5 : t ≤ 5) : Cat (upd s (5 + o) (nI t)) n := by
  obtain ⟨h3, hn, hL, hT, i, q, h, hP⟩ := hC
  refine ⟨by rw [pk_un (by omega)]; exact h3, hn, fun k hk => ?_, fun k hk => ?_, i, q, fun k hk => ?_, hP⟩
  · rw [pk_un (by omega)]; exact hL k hk
  · by_cases e : k = o
    · subst e; exact ⟨t, h1, h5, pk_us⟩
    · rw [pk_un (by omega)]; exact hT k hk
  · rw [pk_un (by omega), pk_un (by omega)]; exact h k hk
theorem Cat.rodN {s : Nat → Int32} {n : Nat} (hC : Cat s n) (x : Int32) : ∀ o, o ≤ n → Cat (rodN s x o) n
  | 0, _ => hC
  | o + 1, ho => by
    have ih := hC.rodN x o (by omega)
    have hn := hC.2.1
    rw [Jvm.Pilot.CDrawerCardsLaw_law_r8368_31570c.rodN]
    split
    · exact ih.sort (by omega) (by decide) (by decide)
    · obtain ⟨t, h1, h5, e⟩ := ih.2.2.2.1 o (by omega)
      rw [e]
      exact ih.sort (by omega) h1 h5
def rodsN (s : Nat → Int32) (n c : Nat) (d : Int32) (m : Nat) : Nat → Int32
  | 0 => -1000000
  | i + 1 => if rodsN s n c d m i = -1000000 ∨ ¬ bitsN (rodsN s n c d m i) 8 ≤ bitsN (nI i) 8 then (if nightsS (rodN s (nI i) n) n m (21 + c) = d then nI i else rodsN s n c d m i) else rodsN s n c d m i
def mRods (A : Nat → Nat → Int32) (n : Nat) (x d m w : Int32) : Int32 :=
  if noOne A x ∨ noDr A d ∨ ¬ (nI 1 ≤ m ∧ m ≤ nI 20) ∨ ¬ (nI 0 ≤ w ∧ w ≤ nI 1) then -1000001
  else if rodsN (A 12) n (cl x) d (cl m) (2 ^ n) = -1000000 then -1000000
  else if w = 0 then bitsN (rodsN (A 12) n (cl x) d (cl m) (2 ^ n)) 8 else rodsN (A 12) n (cl x) d (cl m) (2 ^ n)
/-! asleep: the odds of a set of sleepers, and their sum -/
def oddB (x t : Nat) : Nat → Nat
  | 0 => 1
  | o + 1 => oddB x t o * (if x.testBit o then t else 10 - t)
theorem bit_is' : ∀ x, x < 256 → ∀ o, o < 8 → ((nI x >>> (nI o &&& 31)) &&& nI 1 = nI 1 ↔ x.testBit o = true) := by decide +kernel
theorem bit_is {x o : Nat} (hx : x < 256) (ho : o < 8) : (nI x >>> (nI o &&& 31)) &&& nI 1 = nI 1 ↔ x.testBit o = true := bit_is' x hx o ho
def sumO (t n : Nat) : Nat → Nat
  | 0 => 0
  | i + 1 => sumO t n i + oddB i t n
theorem sumO_all : ∀ n, n < 9 → ∀ t, t < 11 → sumO t n (2 ^ n) = 10 ^ n := by decide +kernel
def upN (s : Nat → Int32) (n c : Nat) (d : Int32) (t : Nat) : Nat → Nat
  | 0 => 0
  | i + 1 => upN s n c d t i + (if nightS s n (nI i) (21 + c) = d then oddB i t n else 0)
theorem upN_le (s : Nat → Int32) (n c : Nat) (d : Int32) (t : Nat) : ∀ i, upN s n c d t i ≤ sumO t n i
  | 0 => Nat.le_refl 0
  | i + 1 => by
    have := upN_le s n c d t i
    rw [upN, sumO]; split <;> omega
theorem sumO_mono (t n : Nat) : ∀ i j, i ≤ j → sumO t n i ≤ sumO t n j := by
  intro i j h
  induction j with
  | zero => rw [show i = 0 by omega]; exact Nat.le_refl _
  | succ j ih =>
    by_cases e : i = j + 1
    · rw [e]; exact Nat.le_refl _
    · have := ih (by omega)
      rw [sumO]; omega
theorem upN_bd (s : Nat → Int32) {n c t i : Nat} (d : Int32) (hn : n ≤ 8) (ht : t ≤ 10) (hi : i ≤ 2 ^ n) : upN s n c d t i ≤ 100000000 := by
  have h1 := upN_le s n c d t i
  have h2 := sumO_mono t n i (2 ^ n) hi
  rw [sumO_all n (by omega) t (by omega)] at h2
  have h3 : 10 ^ n ≤ 10 ^ 8 := Nat.pow_le_pow_right (by decide) hn
  omega
theorem ten_bd {n : Nat} (hn : n ≤ 8) : 0 < 10 ^ n ∧ 10 ^ n ≤ 100000000 := ⟨Nat.pow_pos (by decide), Nat.pow_le_pow_right (by decide) hn⟩
def mAslp (A : Nat → Nat → Int32) (n : Nat) (x d t w : Int32) : Int32 :=
  if noOne A x ∨ noDr A d ∨ ¬ (nI 0 ≤ t ∧ t ≤ nI 10) ∨ ¬ (nI 0 ≤ w ∧ w ≤ nI 1) then -1000001
  else if w = 0 then nI (upN (A 12) n (cl x) d (cl t) (2 ^ n) / Nat.gcd (upN (A 12) n (cl x) d (cl t) (2 ^ n)) (10 ^ n))
  else nI (10 ^ n / Nat.gcd (upN (A 12) n (cl x) d (cl t) (2 ^ n)) (10 ^ n))
theorem gcd_st {a b : Nat} : Nat.gcd b (a % b) = Nat.gcd a b := by
  rw [Nat.gcd_comm b, ← Nat.gcd_rec, Nat.gcd_comm]
/-! years by draws -/
def drX (x : Nat) : Nat → Nat
  | 0 => x
  | k + 1 => drX x k * 16807 % 2147483647
theorem drX_lt {x : Nat} (h : x < 2147483647) : ∀ k, drX x k < 2147483647
  | 0 => h
  | k + 1 => Nat.mod_lt _ (by decide)
def drPut (s : Nat → Int32) (n c d : Nat) : Nat → Int32 := if s (21 + c) = nI d ∨ ¬ s 2 ≤ fillN s (nI d) n then behindS s n c (nI d) else s
def drS (s : Nat → Int32) (n dr x : Nat) : Nat → (Nat → Int32)
  | 0 => s
  | k + 1 => nightS (drPut (drS s n dr x k) n (drX x (k + 1) % n) (drX x (k + 1) % dr)) n (nI 0)
def drM (s : Nat → Int32) (n dr x : Nat) : Nat → Int32
  | 0 => nI 0
  | k + 1 => drM s n dr x k + bitsN (matesN (drS s n dr x (k + 1)) n n) 8
theorem Cat.drPut {s : Nat → Int32} {n c d : Nat} (hC : Cat s n) (hc : c < n) (hd : d ≤ 7) : Cat (drPut s n c d) n := by
  rw [Jvm.Pilot.CDrawerCardsLaw_law_r8368_31570c.drPut]; split
  · exact hC.behind hc hd
  · exact hC
theorem Cat.drS {s : Nat → Int32} {n dr : Nat} (hC : Cat s n) (hn : 0 < n) (hd : 0 < dr) (hd6 : dr ≤ 6) (x : Nat) : ∀ k, Cat (drS s n dr x k) n
  | 0 => hC
  | k + 1 => ((hC.drS hn hd hd6 x k).drPut (Nat.mod_lt _ hn) (by have := Nat.mod_lt (drX x (k + 1)) hd; omega)).night _
def mDrwn (A : Nat → Nat → Int32) (n dr : Nat) (m x w : Int32) : Int32 :=
  if ¬ A 12 4 = nI 1 then -1000002
  else if ¬ (nI 0 ≤ m ∧ m ≤ nI 60) ∨ ¬ (nI 1 ≤ x ∧ x ≤ nI 999999) ∨ ¬ (nI 0 ≤ w ∧ w ≤ nI 1) then -1000001
  else if w = 0 then figN (drS (A 12) n dr (cl x) (cl m)) n else drM (A 12) n dr (cl x) (cl m)
