/-! the reference's answers on acts, by numbers -/
section ACTM
variable {v : Nat → Int32} {A : Nat → Nat → Int32} {n a dr : Nat}
theorem okOne {c : Nat} (hC : Cat (A 12) n) (hc : c < n) : nI 0 ≤ nI c ∧ nI c ≤ A 12 3 - nI 1 := by
  have hn := hC.2.1
  rw [hC.1, pk_sub (by omega)]
  exact ⟨(nIle (by omega) (by omega)).mpr (by omega), (nIle (by omega) (by omega)).mpr (by omega)⟩
theorem okDr {d : Nat} (hd1 : A 12 1 = nI dr) (hd6 : dr ≤ 6) (hd : d < dr) : nI 0 ≤ nI d ∧ nI d ≤ A 12 1 - nI 1 := by
  rw [hd1, pk_sub (by omega)]
  exact ⟨(nIle (by omega) (by omega)).mpr (by omega), (nIle (by omega) (by omega)).mpr (by omega)⟩
theorem mPut_bad {x d : Int32} (h : noOne A x ∨ noDr A d) : mPut v A n a x d = (-1000001, v, A) := if_pos h
theorem mPut_st {c d : Nat} (hC : Cat (A 12) n) (hc : c < n) (hd1 : A 12 1 = nI dr) (hd6 : dr ≤ 6) (hd : d < dr) (h : ¬ A 12 (21 + c) = nI d ∧ ¬ fillN (A 12) (nI d) n < A 12 2) : mPut v A n a (nI c) (nI d) = (-1000002, v, A) := by
  have hn := hC.2.1
  rw [mPut, clN (by omega), if_neg (fun z => z.elim (fun q => q (okOne hC hc)) (fun q => q (okDr hd1 hd6 hd))), if_pos h]
theorem mPut_ok {c d : Nat} (hC : Cat (A 12) n) (hc : c < n) (hd1 : A 12 1 = nI dr) (hd6 : dr ≤ 6) (hd : d < dr) (h : ¬ (¬ A 12 (21 + c) = nI d ∧ ¬ fillN (A 12) (nI d) n < A 12 2)) : mPut v A n a (nI c) (nI d) = (A 12 (21 + c), upd v 19 (nI (nta a + 1)), va_up (va_up A 18 (noteF (A 18) a (A 12))) 12 (behindS (A 12) n c (nI d))) := by
  have hn := hC.2.1
  rw [mPut, clN (by omega), if_neg (fun z => z.elim (fun q => q (okOne hC hc)) (fun q => q (okDr hd1 hd6 hd))), if_neg h]
theorem mTurn_bad {d : Int32} (h : noDr A d) : mTurn v A n a d = (-1000001, v, A) := if_pos h
theorem mTurn_ok {d : Nat} (hd1 : A 12 1 = nI dr) (hd6 : dr ≤ 6) (hd : d < dr) : mTurn v A n a (nI d) = (fillN (A 12) (nI d) n, upd v 19 (nI (nta a + 1)), va_up (va_up A 18 (noteF (A 18) a (A 12))) 12 (trnN (A 12) (nI d) (fillN (A 12) (nI d) n) n)) := by
  rw [mTurn, if_neg (fun q => q (okDr hd1 hd6 hd))]
theorem mLike_bad {x o : Int32} (h : noOne A x ∨ ¬ (nI 0 ≤ o ∧ o ≤ nI 7) ∨ o = x) : mLike v A a x o = (-1000001, v, A) := if_pos h
theorem mLike_ok {c o : Nat} (hC : Cat (A 12) n) (hc : c < n) (ho : o ≤ 7) (hoc : ¬ nI o = nI c) : mLike v A a (nI c) (nI o) = (A 12 (13 + c), upd v 19 (nI (nta a + 1)), va_up (va_up A 18 (noteF (A 18) a (A 12))) 12 (upd (A 12) (13 + c) (nI o))) := by
  have hn := hC.2.1
  rw [mLike, clN (by omega), if_neg (fun z => z.elim (fun q => q (okOne hC hc)) (fun z => z.elim (fun q => q (in7 (by omega))) hoc))]
theorem mUndo_0 (h : a = 0) : mUndo v A a = (-1000002, v, A) := if_pos h
theorem mUndo_ok (h : a ≠ 0) : mUndo v A a = (nI (a - 1), upd v 19 (nI (a - 1)), va_up A 12 (fun j => A 18 (37 * (a - 1) + j))) := if_neg h
theorem mNights_st {x : Int32} (h : ¬ A 12 4 = nI 1) : mNights v A n a x = (-1000002, v, A) := if_pos h
theorem mNights_bad {x : Int32} (h : A 12 4 = nI 1) (h2 : ¬ (nI 1 ≤ x ∧ x ≤ nI 24)) : mNights v A n a x = (-1000001, v, A) := by
  rw [mNights, if_neg (fun z => z h), if_pos h2]
theorem mNights_full {x : Int32} (h : A 12 4 = nI 1) (h2 : nI 1 ≤ x ∧ x ≤ nI 24) (h3 : ¬ A 12 0 + x ≤ nI 9999) : mNights v A n a x = (-1000003, v, A) := by
  rw [mNights, if_neg (fun z => z h), if_neg (fun z => z h2), if_pos h3]
theorem mNights_ok {m : Nat} (h : A 12 4 = nI 1) (h2 : nI 1 ≤ nI m ∧ nI m ≤ nI 24) (hm : m ≤ 24) (h3 : A 12 0 + nI m ≤ nI 9999) : mNights v A n a (nI m) = (matesN ((ngtN v A n a m).2 12) n n, ngtN v A n a m) := by
  rw [mNights, clN (by omega), if_neg (fun z => z h), if_neg (fun z => z h2), if_neg (fun z => z h3)]
end ACTM
theorem catR.nb {kd : Nat → Nat} {S : Nat → Option Nat} {t r : Nat → Int32} {n dr b : Nat} (h : catR kd S t r n dr) (hb : NB r b) (hb2 : b < 50000) : NB (nightS r n (nI 0)) (b + 1) := (h.2.1.pn (x := 0) h.1 hb hb2 (by omega)).2.2
theorem nb_sum {r : Nat → Int32} {b m : Nat} (h : r 0 = nI b) (hb : b ≤ 9999) (hm : m ≤ 24) (h3 : r 0 + nI m ≤ nI 9999) : b + m ≤ 9999 := by
  rw [h, nI_add] at h3
  exact (nIle (by omega) (by omega)).mp h3
theorem trn_fill (t : Nat → Int32) (d fl : Int32) (n : Nat) (hn : n ≤ 8) : fillN (trnN t d fl n) d n = fillN t d n := fillN_cong n (fun j hj => trnN_lo _ _ _ (by omega) _)
