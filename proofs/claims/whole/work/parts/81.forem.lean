/-! the reference's answers on what is foretold, by numbers -/
section FOREM
variable {v : Nat → Int32} {A : Nat → Nat → Int32} {n dr : Nat}
theorem mAhead_bad {x d w : Int32} (h : noOne A x ∨ ¬ (nI 0 ≤ d ∧ d ≤ nI 60) ∨ ¬ (nI 0 ≤ w ∧ w ≤ nI 1)) : mAhead A n x d w = -1000001 := if_pos h
theorem mAhead_ok {c m : Nat} {w : Int32} (hC : Cat (A 12) n) (hc : c < n) (hm : m ≤ 60) (hd : nI 0 ≤ nI m ∧ nI m ≤ nI 60) (hw : nI 0 ≤ w ∧ w ≤ nI 1) : mAhead A n (nI c) (nI m) w = if w = 0 then nightsS (A 12) n m (21 + c) else nightsS (A 12) n m (29 + c) := by
  have hn := hC.2.1
  rw [mAhead, clN (by omega), clN (by omega), if_neg (fun z => z.elim (fun q => q (okOne hC hc)) (fun z => z.elim (fun q => q hd) (fun q => q hw)))]
theorem mFound_bad {x d : Int32} (h : noOne A x ∨ noDr A d) : mFound A n x d = -1000001 := if_pos h
theorem mFound_ok {c : Nat} {d : Int32} (hC : Cat (A 12) n) (hc : c < n) (hd : nI 0 ≤ d ∧ d ≤ A 12 1 - nI 1) : mFound A n (nI c) d = foundN (A 12) n c d 61 0 := by
  have hn := hC.2.1
  rw [mFound, clN (by omega), if_neg (fun z => z.elim (fun q => q (okOne hC hc)) (fun q => q hd))]
theorem mStil_st {w : Int32} (h : ¬ A 12 4 = nI 1) : mStil A n w = -1000002 := if_pos h
theorem mStil_bad {w : Int32} (h : A 12 4 = nI 1) (h2 : ¬ (nI 0 ≤ w ∧ w ≤ nI 1)) : mStil A n w = -1000001 := by rw [mStil, if_neg (fun z => z h), if_pos h2]
theorem mStil_ok {w : Int32} (h : A 12 4 = nI 1) (h2 : nI 0 ≤ w ∧ w ≤ nI 1) : mStil A n w = if w = 0 then stilN (A 12) n 201 0 else rounN (A 12) n 200 0 := by rw [mStil, if_neg (fun z => z h), if_neg (fun z => z h2)]
theorem mRods_bad {x d m w : Int32} (h : noOne A x ∨ noDr A d ∨ ¬ (nI 1 ≤ m ∧ m ≤ nI 20) ∨ ¬ (nI 0 ≤ w ∧ w ≤ nI 1)) : mRods A n x d m w = -1000001 := if_pos h
theorem mRods_ok {c m : Nat} {d w : Int32} (hC : Cat (A 12) n) (hc : c < n) (hd : nI 0 ≤ d ∧ d ≤ A 12 1 - nI 1) (hm : m ≤ 20) (hm2 : nI 1 ≤ nI m ∧ nI m ≤ nI 20) (hw : nI 0 ≤ w ∧ w ≤ nI 1) : mRods A n (nI c) d (nI m) w = if rodsN (A 12) n c d m (2 ^ n) = -1000000 then -1000000 else if w = 0 then bitsN (rodsN (A 12) n c d m (2 ^ n)) 8 else rodsN (A 12) n c d m (2 ^ n) := by
  have hn := hC.2.1
  rw [mRods, clN (by omega), clN (by omega), if_neg (fun z => z.elim (fun q => q (okOne hC hc)) (fun z => z.elim (fun q => q hd) (fun z => z.elim (fun q => q hm2) (fun q => q hw))))]
theorem rods_by {s : Nat → Int32} {c m : Nat} {d : Int32} : ∀ i, i ≤ 256 → rodsN s n c d m i = -1000000 ∨ By (rodsN s n c d m i)
  | 0, _ => Or.inl rfl
  | i + 1, hi => by
    rw [rodsN]
    split
    · split
      · exact Or.inr ⟨i, by omega, rfl⟩
      · exact rods_by i (by omega)
    · exact rods_by i (by omega)
theorem w01 {w : Int32} (h : nI 0 ≤ w ∧ w ≤ nI 1) (h1 : ¬ w = nI 1) : w = 0 := by
  obtain ⟨j, hj, rfl⟩ := rng (by omega) h
  rcases (show j = 0 ∨ j = 1 by omega) with rfl | rfl
  · rfl
  · exact absurd rfl h1
theorem mTour_st {m w : Int32} (h : ¬ A 12 4 = nI 1) : mTour A n dr m w = -1000002 := if_pos h
theorem mTour_bad {m w : Int32} (h : A 12 4 = nI 1) (h2 : ¬ (nI 1 ≤ m ∧ m ≤ nI 4) ∨ ¬ (nI 0 ≤ w ∧ w ≤ nI 1)) : mTour A n dr m w = -1000001 := by rw [mTour, if_neg (fun z => z h), if_pos h2]
theorem mTour_ok {m : Nat} {w : Int32} (h : A 12 4 = nI 1) (hm : m ≤ 4) (h2 : nI 1 ≤ nI m ∧ nI m ≤ nI 4) (hw : nI 0 ≤ w ∧ w ≤ nI 1) : mTour A n dr (nI m) w = if w = 0 then (tourN (svO (A 12) n) dr m (6 ^ m)).1 else nI (tourN (svO (A 12) n) dr m (6 ^ m)).2 := by
  rw [mTour, clN (by omega), if_neg (fun z => z h), if_neg (fun z => z.elim (fun q => q h2) (fun q => q hw))]
theorem mAslp_bad {x d t w : Int32} (h : noOne A x ∨ noDr A d ∨ ¬ (nI 0 ≤ t ∧ t ≤ nI 10) ∨ ¬ (nI 0 ≤ w ∧ w ≤ nI 1)) : mAslp A n x d t w = -1000001 := if_pos h
theorem mAslp_ok {c t : Nat} {d w : Int32} (hC : Cat (A 12) n) (hc : c < n) (hd : nI 0 ≤ d ∧ d ≤ A 12 1 - nI 1) (ht : t ≤ 10) (ht2 : nI 0 ≤ nI t ∧ nI t ≤ nI 10) (hw : nI 0 ≤ w ∧ w ≤ nI 1) : mAslp A n (nI c) d (nI t) w = nI ((if w = 0 then upN (A 12) n c d t (2 ^ n) else 10 ^ n) / Nat.gcd (upN (A 12) n c d t (2 ^ n)) (10 ^ n)) := by
  have hn := hC.2.1
  rw [mAslp, clN (by omega), clN (by omega), if_neg (fun z => z.elim (fun q => q (okOne hC hc)) (fun z => z.elim (fun q => q hd) (fun z => z.elim (fun q => q ht2) (fun q => q hw))))]
  by_cases e : w = 0
  · rw [if_pos e, if_pos e]
  · rw [if_neg e, if_neg e]
theorem mDrwn_st {m x w : Int32} (h : ¬ A 12 4 = nI 1) : mDrwn A n dr m x w = -1000002 := if_pos h
theorem mDrwn_bad {m x w : Int32} (h : A 12 4 = nI 1) (h2 : ¬ (nI 0 ≤ m ∧ m ≤ nI 60) ∨ ¬ (nI 1 ≤ x ∧ x ≤ nI 999999) ∨ ¬ (nI 0 ≤ w ∧ w ≤ nI 1)) : mDrwn A n dr m x w = -1000001 := by rw [mDrwn, if_neg (fun z => z h), if_pos h2]
theorem mDrwn_ok {m x : Nat} {w : Int32} (h : A 12 4 = nI 1) (hm : m ≤ 60) (hx : x ≤ 999999) (h2 : nI 0 ≤ nI m ∧ nI m ≤ nI 60) (h3 : nI 1 ≤ nI x ∧ nI x ≤ nI 999999) (hw : nI 0 ≤ w ∧ w ≤ nI 1) : mDrwn A n dr (nI m) (nI x) w = if w = 0 then figN (drS (A 12) n dr x m) n else drM (A 12) n dr x m := by
  have e : cl (nI x) = x := nI_clamp (by omega)
  rw [mDrwn, e, clN (k := m) (by omega), if_neg (fun z => z h), if_neg (fun z => z.elim (fun q => q h2) (fun z => z.elim (fun q => q h3) (fun q => q hw)))]
theorem rng6 {x : Int32} (h : nI 1 ≤ x ∧ x ≤ nI 999999) : ∃ j : Nat, j ≤ 999999 ∧ x = nI j := nI_of2 (nI_toInt (by omega)) (Int32.not_lt.mpr (Int32.le_trans (show nI 0 ≤ nI 1 by decide) h.1)) h.2
theorem fitA_lo {s : Nat → Int32} {c : Nat} {g : Nat → Int32} {m ww lo : Nat} : ∀ i, i ≤ lo → fitA s n c g m ww lo i = nI 0
  | 0, _ => rfl
  | i + 1, h => by rw [fitA, fitA_lo i (by omega), if_neg (fun z => by have := z.1; omega)]; rfl
theorem fitA_N {s : Nat → Int32} {c : Nat} {g : Nat → Int32} {m ww lo : Nat} : ∀ i, fitA s n c g m ww lo (lo + i) = fitN s n c g m ww lo i
  | 0 => fitA_lo lo (Nat.le_refl lo)
  | i + 1 => by
    have ih := fitA_N (s := s) (c := c) (g := g) (m := m) (ww := ww) (lo := lo) i
    show fitA s n c g m ww lo (lo + i + 1) = _
    rw [fitA, fitN, ih]
    by_cases e : fitB s n c g m ww (lo + i) = true
    · rw [if_pos ⟨by omega, e⟩, if_pos e]
    · rw [if_neg (fun z => e z.2), if_neg e]
theorem fit_en {ww : Nat} (h : ww ≤ 3) : fitEn dr ww = fitLo ww + fitCt dr ww := by
  rcases (show ww = 0 ∨ ww = 1 ∨ ww = 2 ∨ ww = 3 by omega) with rfl | rfl | rfl | rfl <;> simp [fitEn, fitLo, fitCt]
theorem mFit_bad {x y i m w : Int32} (h : noOne A x ∨ ¬ (nI 0 ≤ y ∧ y ≤ nI 7) ∨ ¬ (nI 1 ≤ m ∧ m ≤ nI 12) ∨ ¬ (nI 0 ≤ w ∧ w ≤ nI 3)) : mFit v A n dr x y i m w = (-1000001, v) := if_pos h
theorem mFit_nul {c k : Nat} {i m w : Int32} (hC : Cat (A 12) n) (hc : c < n) (hk : k < 8) (hm : nI 1 ≤ m ∧ m ≤ nI 12) (hw : nI 0 ≤ w ∧ w ≤ nI 3) (h : ¬ 0 ≤ A 0 k) : mFit v A n dr (nI c) (nI k) i m w = (-1000010 - nI 1, upd v 3 (nI 1)) := by
  have hn := hC.2.1
  have e : tkR A k i m = -1000010 - nI 1 := if_pos h
  have e2 : tkV v A k i m = nI 1 := if_pos h
  rw [mFit, clN (k := k) (by omega), if_neg (fun z => z.elim (fun q => q (okOne hC hc)) (fun z => z.elim (fun q => q (in7 hk)) (fun z => z.elim (fun q => q hm) (fun q => q hw)))), e, e2, if_pos (by decide)]
theorem mFit_pl {c k : Nat} {i m w : Int32} (hC : Cat (A 12) n) (hc : c < n) (hk : k < 8) (hm : nI 1 ≤ m ∧ m ≤ nI 12) (hw : nI 0 ≤ w ∧ w ≤ nI 3) (h : 0 ≤ A 0 k) (h2 : ¬ isPrt i m (A 1 k)) : mFit v A n dr (nI c) (nI k) i m w = (-1000010 - nI 2, upd v 3 (nI 2)) := by
  have hn := hC.2.1
  have e : tkR A k i m = -1000010 - nI 2 := (if_neg (fun z => z h)).trans (if_pos h2)
  have e2 : tkV v A k i m = nI 2 := (if_neg (fun z => z h)).trans (if_pos h2)
  rw [mFit, clN (k := k) (by omega), if_neg (fun z => z.elim (fun q => q (okOne hC hc)) (fun z => z.elim (fun q => q (in7 hk)) (fun z => z.elim (fun q => q hm) (fun q => q hw)))), e, e2, if_pos (by decide)]
theorem mFit_ok {c k i m ww z : Nat} (hC : Cat (A 12) n) (hc : c < n) (hk : k < 8) (hm : nI 1 ≤ nI m ∧ nI m ≤ nI 12) (hw : nI 0 ≤ nI ww ∧ nI ww ≤ nI 3) (hw3 : ww ≤ 3) (h : 0 ≤ A 0 k) (hz : z ≤ 40) (e1 : A 1 k = nI z) (hi : i + m ≤ z) : mFit v A n dr (nI c) (nI k) (nI i) (nI m) (nI ww) = (fitN (A 12) n c (fun q => A 2 (40 * k + i + q)) m ww (fitLo ww) (fitCt dr ww), upd v 3 (nI 0)) := by
  have hn := hC.2.1
  have e : tkR A k (nI i) (nI m) = nI 0 := (if_neg (fun z => z h)).trans (if_neg (fun q => q (by rw [e1]; exact prt_n hz hi)))
  rw [mFit, clN (k := k) (by omega), if_neg (fun z => z.elim (fun q => q (okOne hC hc)) (fun z => z.elim (fun q => q (in7 hk)) (fun z => z.elim (fun q => q hm) (fun q => q hw)))), e, if_neg (by decide), clN (k := c) (by omega), clN (k := i) (by omega), clN (k := m) (by omega), clN (k := ww) (by omega), fit_en hw3, fitA_N]
theorem soF_cong {s : Nat → Int32} {c : Nat} {g g' : Nat → Int32} : ∀ m k, (∀ j, j < k + m → g j = g' j) → soF s n c g m k = soF s n c g' m k
  | 0, _, _ => rfl
  | m + 1, k, h => by rw [soF, soF, h k (by omega), soF_cong m (k + 1) (fun j hj => h j (by omega))]
theorem fiN_cong {s : Nat → Int32} {c : Nat} {g g' : Nat → Int32} {m ww : Nat} (h : ∀ j, j < m → g j = g' j) : ∀ x, fiN s n c dr g m ww x = fiN s n c dr g' m ww x
  | 0 => rfl
  | x + 1 => by rw [fiN, fiN, fiN_cong h x, soF_cong (g := g) (g' := g') m 0 (fun j hj => h j (by omega))]
end FOREM
