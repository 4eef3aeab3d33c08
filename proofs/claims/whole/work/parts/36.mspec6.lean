theorem fitB_0 {s : Nat → Int32} {n c : Nat} {g : Nat → Int32} {m x : Nat} : fitB s n c g m 0 x = soB (upd s (5 + c) (nI x)) n c g m 0 := by simp [fitB, fitS]
theorem fitB_1 {s : Nat → Int32} {n c : Nat} {g : Nat → Int32} {m x : Nat} (h : x ≠ c) : fitB s n c g m 1 x = soB (upd s (13 + c) (nI x)) n c g m 0 := by simp [fitB, fitS, h]
theorem fitB_1c {s : Nat → Int32} {n c : Nat} {g : Nat → Int32} {m x : Nat} (h : x = c) : ¬ fitB s n c g m 1 x = true := by simp [fitB, h]
theorem fitB_2 {s : Nat → Int32} {n c : Nat} {g : Nat → Int32} {m x : Nat} : fitB s n c g m 2 x = soB (upd s 2 (nI x)) n c g m 0 := by simp [fitB, fitS]
theorem fitB_3a {s : Nat → Int32} {n c : Nat} {g : Nat → Int32} {m x : Nat} (h : nI x = s (21 + c)) : fitB s n c g m 3 x = soB s n c g m 0 := by simp [fitB, fitS, h]
theorem fitB_3b {s : Nat → Int32} {n c : Nat} {g : Nat → Int32} {m x : Nat} (h : ¬ nI x = s (21 + c)) : fitB s n c g m 3 x = soB (behindS s n c (nI x)) n c g m 0 := by simp [fitB, fitS, h]
def fitA (s : Nat → Int32) (n c : Nat) (g : Nat → Int32) (m ww lo : Nat) : Nat → Int32
  | 0 => nI 0
  | x + 1 => fitA s n c g m ww lo x ||| (if lo ≤ x ∧ fitB s n c g m ww x = true then nI 1 <<< (nI x &&& 31) else nI 0)
theorem fitA_congr {s : Nat → Int32} {n c : Nat} {g g' : Nat → Int32} {m ww lo : Nat} (h : ∀ j, j < m → g j = g' j) : ∀ i, fitA s n c g m ww lo i = fitA s n c g' m ww lo i
  | 0 => rfl
  | i + 1 => by rw [fitA, fitA, fitA_congr h i, fitB, fitB, soB_congr (g := g) (g' := g') m 0 (fun j hj => h j (by omega))]
def fitEn (dr ww : Nat) : Nat := if ww = 0 then 6 else if ww = 1 then 8 else if ww = 2 then 9 else dr
def mFit (v : Nat → Int32) (A : Nat → Nat → Int32) (n dr : Nat) (x y i m w : Int32) : Int32 × (Nat → Int32) :=
  if noOne A x ∨ ¬ (nI 0 ≤ y ∧ y ≤ nI 7) ∨ ¬ (nI 1 ≤ m ∧ m ≤ nI 12) ∨ ¬ (nI 0 ≤ w ∧ w ≤ nI 3) then (-1000001, v)
  else if ¬ 0 ≤ tkR A (cl y) i m then (tkR A (cl y) i m, upd v 3 (tkV v A (cl y) i m))
  else (fitA (A 12) n (cl x) (fun k => A 2 (40 * cl y + cl i + k)) (cl m) (cl w) (fitLo (cl w)) (fitEn dr (cl w)), upd v 3 (nI 0))
