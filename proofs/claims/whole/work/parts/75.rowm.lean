/-! the reference's answers on rows, by numbers -/
theorem in7 {k : Nat} (h : k < 8) : nI 0 ≤ nI k ∧ nI k ≤ nI 7 := ⟨(nIle (by omega) (by omega)).mpr (by omega), (nIle (by omega) (by omega)).mpr (by omega)⟩
section ROWM
variable {v : Nat → Int32} {A : Nat → Nat → Int32} {k k2 : Nat}
theorem mRow_ok {m : Nat} {l : Int32} (hk : k < 8) (hm : m ≤ 40) (hl : nI 0 ≤ l ∧ l ≤ nI 2) : mRow v A (nI k) l (nI m) = (nI m, upd v 3 (nI 0), va_up (va_up (va_up A 0 (upd (A 0) k l)) 1 (upd (A 1) k (nI m))) 2 (zero40 (A 2) k 40)) := by
  have e : (nI k).toNatClampNeg = k := nI_clamp (by omega)
  have h40 : nI m ≤ nI 40 := (nIle (by omega) (by omega)).mpr hm
  have h0 : 0 ≤ nI m := (nIle (a := 0) (by omega) (by omega)).mpr (by omega)
  rw [mRow, if_neg (fun z => z.elim (fun q => q (in7 hk)) (fun z => z.elim (fun q => q hl) (fun q => q h40))), if_neg (fun z => z h0), e]
theorem mRow_bad {x l n : Int32} (h : ¬ (nI 0 ≤ x ∧ x ≤ nI 7) ∨ ¬ (nI 0 ≤ l ∧ l ≤ nI 2) ∨ ¬ n ≤ nI 40) : mRow v A x l n = (-1000001, v, A) := if_pos h
theorem mRow_neg {x l n : Int32} (h1 : nI 0 ≤ x ∧ x ≤ nI 7) (h2 : nI 0 ≤ l ∧ l ≤ nI 2) (h3 : n ≤ nI 40) (h4 : ¬ 0 ≤ n) : mRow v A x l n = (-1000010 - nI 4, upd v 3 (nI 4), A) := by
  rw [mRow, if_neg (fun z => z.elim (fun q => q h1) (fun z => z.elim (fun q => q h2) (fun q => q h3))), if_pos h4]
theorem mSet_bad {x i w : Int32} (h : ¬ (nI 0 ≤ x ∧ x ≤ nI 7)) : mSet v A x i w = (-1000001, v, A) := if_pos h
theorem mSet_nul {i w : Int32} (hk : k < 8) (h : ¬ 0 ≤ A 0 k) : mSet v A (nI k) i w = (-1000010 - nI 1, upd v 3 (nI 1), A) := by
  have e : (nI k).toNatClampNeg = k := nI_clamp (by omega)
  rw [mSet, e, if_neg (fun z => z (in7 hk)), if_pos h]
theorem mSet_pl {i w : Int32} (hk : k < 8) (h : 0 ≤ A 0 k) (h2 : ¬ (nI 0 ≤ i ∧ i ≤ A 1 k - nI 1)) : mSet v A (nI k) i w = (-1000010 - nI 2, upd v 3 (nI 2), A) := by
  have e : (nI k).toNatClampNeg = k := nI_clamp (by omega)
  rw [mSet, e, if_neg (fun z => z (in7 hk)), if_neg (fun z => z h), if_pos h2]
theorem mSet_ok {j z : Nat} {w : Int32} (hk : k < 8) (h : 0 ≤ A 0 k) (hz : z ≤ 40) (hj : j < z) (e1 : A 1 k = nI z) : mSet v A (nI k) (nI j) w = (lane3 (A 0 k) w, upd v 3 (nI 0), va_up A 2 (upd (A 2) (40 * k + j) (lane3 (A 0 k) w))) := by
  have e : (nI k).toNatClampNeg = k := nI_clamp (by omega)
  have e2 : (nI j).toNatClampNeg = j := nI_clamp (by omega)
  rw [mSet, e, e2, if_neg (fun z => z (in7 hk)), if_neg (fun z => z h), if_neg (fun q => q (by rw [e1]; exact (prt1 hz).mp (prt_1 hz hj)))]
theorem mDrop_bad {x : Int32} (h : ¬ (nI 0 ≤ x ∧ x ≤ nI 7)) : mDrop v A x = (-1000001, v, A) := if_pos h
theorem mDrop_nul (hk : k < 8) (h : ¬ 0 ≤ A 0 k) : mDrop v A (nI k) = (-1000010 - nI 1, upd v 3 (nI 1), A) := by
  have e : (nI k).toNatClampNeg = k := nI_clamp (by omega)
  rw [mDrop, e, if_neg (fun z => z (in7 hk)), if_pos h]
theorem mDrop_ok (hk : k < 8) (h : 0 ≤ A 0 k) : mDrop v A (nI k) = (A 1 k, upd v 3 (nI 0), va_up A 0 (upd (A 0) k (-1))) := by
  have e : (nI k).toNatClampNeg = k := nI_clamp (by omega)
  rw [mDrop, e, if_neg (fun z => z (in7 hk)), if_neg (fun z => z h)]
theorem mCopy_bad {x i y j n : Int32} (h : ¬ (nI 0 ≤ x ∧ x ≤ nI 7) ∨ ¬ (nI 0 ≤ y ∧ y ≤ nI 7)) : mCopy v A x i y j n = (-1000001, v, A) := if_pos h
theorem mCopy_nul {i j n : Int32} (hk : k < 8) (hk2 : k2 < 8) (h : A 0 k < 0 ∨ ¬ 0 ≤ A 0 k2) : mCopy v A (nI k) i (nI k2) j n = (-1000010 - nI 1, upd v 3 (nI 1), A) := by
  rw [mCopy, clN (by omega), clN (by omega), if_neg (fun z => z.elim (fun q => q (in7 hk)) (fun q => q (in7 hk2))), if_pos h]
theorem mCopy_st {i j n : Int32} (hk : k < 8) (hk2 : k2 < 8) (h : ¬ A 0 k < 0) (h2 : 0 ≤ A 0 k2) (h3 : ¬ A 0 k = A 0 k2) : mCopy v A (nI k) i (nI k2) j n = (-1000010 - nI 5, upd v 3 (nI 5), A) := by
  rw [mCopy, clN (by omega), clN (by omega), if_neg (fun z => z.elim (fun q => q (in7 hk)) (fun q => q (in7 hk2))), if_neg (fun z => z.elim h (fun q => q h2)), if_pos h3]
theorem mCopy_pl {i j n : Int32} (hk : k < 8) (hk2 : k2 < 8) (h : ¬ A 0 k < 0) (h2 : 0 ≤ A 0 k2) (h3 : A 0 k = A 0 k2) (h4 : ¬ isPrt i n (A 1 k) ∨ ¬ isPrt j n (A 1 k2)) : mCopy v A (nI k) i (nI k2) j n = (-1000010 - nI 2, upd v 3 (nI 2), A) := by
  rw [mCopy, clN (by omega), clN (by omega), if_neg (fun z => z.elim (fun q => q (in7 hk)) (fun q => q (in7 hk2))), if_neg (fun z => z.elim h (fun q => q h2)), if_neg (fun z => z h3), if_pos h4]
theorem mCopy_ok {i j n z z2 : Nat} (hk : k < 8) (hk2 : k2 < 8) (h : ¬ A 0 k < 0) (h2 : 0 ≤ A 0 k2) (h3 : A 0 k = A 0 k2) (hz : z ≤ 40) (hz2 : z2 ≤ 40) (e1 : A 1 k = nI z) (e2 : A 1 k2 = nI z2) (hi : i + n ≤ z) (hj : j + n ≤ z2) : mCopy v A (nI k) (nI i) (nI k2) (nI j) (nI n) = (nI n, upd v 3 (nI 0), va_up A 2 (cpyF (A 2) (40 * k + i) (40 * k2 + j) n)) := by
  rw [mCopy, clN (by omega), clN (by omega), clN (by omega), clN (by omega), clN (by omega), if_neg (fun z => z.elim (fun q => q (in7 hk)) (fun q => q (in7 hk2))), if_neg (fun z => z.elim h (fun q => q h2)), if_neg (fun z => z h3), if_neg (fun q => q.elim (fun q => q (by rw [e1]; exact prt_n hz hi)) (fun q => q (by rw [e2]; exact prt_n hz2 hj)))]
theorem mFeed_bad {x : Int32} (h : ¬ (nI 0 ≤ x ∧ x ≤ nI 255)) : mFeed v A x = (-1000001, v, A) := if_pos h
theorem mFeed_full {x : Int32} (h : nI 0 ≤ x ∧ x ≤ nI 255) (h4 : v 4 = nI 60) : mFeed v A x = (-1000003, v, A) := by
  rw [mFeed, if_neg (fun z => z h), if_pos h4]
theorem mFeed_ok {x : Int32} {L : Nat} (h : nI 0 ≤ x ∧ x ≤ nI 255) (h4 : v 4 = nI L) (hL : L < 60) : mFeed v A x = (nI (L + 1), upd v 4 (nI (L + 1)), va_up A 5 (upd (A 5) L x)) := by
  have e : (nI L).toNatClampNeg = L := nI_clamp (by omega)
  rw [mFeed, if_neg (fun z => z h), if_neg (fun z => by rw [h4] at z; have := (nIe (by omega) (by omega)).mp z; omega), h4, e, nI_add]
end ROWM
theorem cat_bad {kd : Nat → Nat} {f : Nat → Int32} {L : Nat} {S : Nat → Option Nat} {t : Nat → Int32} {w8 w9 : Int32} (h : rtN kd f L S t w8 w9) (c : ¬ w8 = 0) : ¬ (redF f L).1 = 0 := fun z => c (by rw [h.1, z]; rfl)
theorem redX_le {f : Nat → Int32} {L : Nat} : (redF f L).1 ≤ 3 := by
  have hN : ∀ p, numX f L p ≤ 3 := fun p => by rw [numX]; split <;> omega
  have hC : ∀ p rd n, crdX f L p rd n ≤ 3 := fun p rd n => by
    have := hN (lp f L p 1)
    have := hN (lp f L p 3)
    rw [crdX]
    repeat' split
    all_goals omega
  have hR : ∀ k p rd n, (rdR f L k p rd n).1 ≤ 3 := by
    intro k
    induction k with
    | zero => intro p rd n; exact Nat.zero_le _
    | succ k ih =>
      intro p rd n
      rw [rdR]
      split
      · exact Nat.zero_le _
      · split
        · exact ih _ _ _
        · exact hC _ _ _
  have hL : lawX f L ≤ 3 := by
    have := hN (lp f L 0 1)
    have := hN (lp f L 0 3)
    rw [lawX]
    repeat' split
    all_goals omega
  rw [redF]
  split
  · exact hL
  · split
    · exact (by decide : (1 : Nat) ≤ 3)
    · exact hR _ _ _ _
theorem cat_ok {kd : Nat → Nat} {f : Nat → Int32} {L : Nat} {S : Nat → Option Nat} {t : Nat → Int32} {w8 w9 : Int32} (h : rtN kd f L S t w8 w9) (c : w8 = 0) : (redF f L).1 = 0 := by
  have q := redX_le (f := f) (L := L)
  have e := h.1.symm.trans c
  exact (nIe (b := 0) (by omega) (by omega)).mp e
