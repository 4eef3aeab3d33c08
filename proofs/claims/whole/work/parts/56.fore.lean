def pnsN (t : Nat → Int32) (n : Nat) : Nat → (Nat → Int32)
  | 0 => t
  | k + 1 => pnS (pnsN t n k) n (nI 0)
theorem pnS_lo (t : Nat → Int32) (n : Nat) (a : Int32) {j : Nat} (h1 : 1 ≤ j) (h : j < 21) : pnS t n a j = t j := by rw [← pnS_hi _ _ _ h1, pnN_lo _ _ _ h]
theorem srts.night {kd : Nat → Nat} {S : Nat → Option Nat} {t : Nat → Int32} {n : Nat} (h : srts kd S t n) (hn : n ≤ 8) (a : Int32) : srts kd S (pnS t n a) n := fun j hj => by
  rw [pnS_lo _ _ _ (by omega) (by omega)]; exact h j hj
theorem pns_3 {t : Nat → Int32} {n : Nat} {x : Int32} (h : t 3 = x) (a : Int32) : pnS t n a 3 = x := by rw [pnS_lo _ _ _ (by omega) (by omega)]; exact h
def fndF (t : Nat → Int32) (n c : Nat) (d : Int32) : Nat → Nat → Int32
  | 0, _ => -1000000
  | f + 1, k => if pnsN t n k (21 + c) = d then nI k else fndF t n c d f (k + 1)
theorem fndF_at (s : Nat → Int32) (n c : Nat) (d : Int32) {k : Nat} (hk : k ≤ 60) : fndF s n c d (61 - k) k = if pnsN s n k (21 + c) = d then nI k else fndF s n c d (61 - (k + 1)) (k + 1) := by
  rw [show 61 - k = (61 - (k + 1)) + 1 by omega, fndF]
def stlF (s : Nat → Int32) (n : Nat) : Nat → Nat → Int32
  | 0, _ => -1000000
  | f + 1, k => if asNb (pnsN s n (k + 1)) (pnsN s n k) n = true then nI k else stlF s n f (k + 1)
def rouF (s : Nat → Int32) (n : Nat) : Nat → Nat → Int32
  | 0, _ => -1000000
  | f + 1, k => if asNb (pnsN s n (k + 1)) s n = true then nI (k + 1) else rouF s n f (k + 1)
theorem stlF_at (s : Nat → Int32) (n : Nat) {k : Nat} (hk : k ≤ 200) : stlF s n (201 - k) k = if asNb (pnsN s n (k + 1)) (pnsN s n k) n = true then nI k else stlF s n (201 - (k + 1)) (k + 1) := by
  rw [show 201 - k = (201 - (k + 1)) + 1 by omega, stlF]
theorem rouF_at (s : Nat → Int32) (n : Nat) {k : Nat} (hk : k < 200) : rouF s n (200 - k) k = if asNb (pnsN s n (k + 1)) s n = true then nI (k + 1) else rouF s n (200 - (k + 1)) (k + 1) := by
  rw [show 200 - k = (200 - (k + 1)) + 1 by omega, rouF]
