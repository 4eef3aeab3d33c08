/-! the reference's answers on images, kinds, what is asked, counts -/
def imgR (kd : Nat → Nat) (A : Nat → Nat → Int32) (k : Nat) (iS : Nat → Option Nat) (it : Nat → Int32) : Prop := (∀ i, i < 8 → anyS kd (iS i)) ∧ ((A 17 k = 0 ∧ it 3 = 0) ∨ (¬ A 17 k = 0 ∧ ∃ n dr, 0 < n ∧ catR kd iS it (fun i => A 16 (37 * k + i)) n dr))
theorem nI_p {n : Nat} (h : 0 < n) (h8 : n ≤ 8) : ¬ nI n = 0 := fun z => by
  have := (nIe (a := n) (b := 0) (by omega) (by omega)).mp z
  omega
theorem imgR.em {kd : Nat → Nat} {A : Nat → Nat → Int32} {k : Nat} {iS : Nat → Option Nat} {it : Nat → Int32} (h : imgR kd A k iS it) : it 3 = 0 ↔ A 17 k = 0 := by
  rcases h.2 with ⟨q1, q2⟩ | ⟨q1, n, dr, q3, q4⟩
  · exact ⟨fun _ => q1, fun _ => q2⟩
  · refine ⟨fun z => ?_, fun z => absurd z q1⟩
    have e : it 3 = nI n := by rw [q4.2.1.2.2.2.1]; exact q4.1.1
    rw [e] at z
    exact absurd z (nI_p q3 q4.1.2.1)
section ASKM
variable {v : Nat → Int32} {A : Nat → Nat → Int32} {n k : Nat}
theorem in1 (h : k < 2) : nI 0 ≤ nI k ∧ nI k ≤ nI 1 := ⟨(nIle (by omega) (by omega)).mpr (by omega), (nIle (by omega) (by omega)).mpr (by omega)⟩
theorem mImage_bad {x : Int32} (h : ¬ (nI 0 ≤ x ∧ x ≤ nI 1)) : mImage v A x = (-1000001, v, A) := if_pos h
theorem mImage_st {x : Int32} (h : nI 0 ≤ x ∧ x ≤ nI 1) (h2 : ¬ A 12 4 = nI 1) : mImage v A x = (-1000002, v, A) := by rw [mImage, if_neg (fun z => z h), if_pos h2]
theorem mImage_ok (h : k < 2) (h2 : A 12 4 = nI 1) : mImage v A (nI k) = (nI 1, v, va_up (va_up A 16 (putF (A 16) (37 * k) (A 12))) 17 (upd (A 17) k (nI 1))) := by
  rw [mImage, clN (by omega), if_neg (fun z => z (in1 h)), if_neg (fun z => z h2)]
theorem mRestore_bad {x : Int32} (h : ¬ (nI 0 ≤ x ∧ x ≤ nI 1)) : mRestore v A x = (-1000001, v, A) := if_pos h
theorem mRestore_st (h : k < 2) (h2 : A 17 k = 0) : mRestore v A (nI k) = (-1000002, v, A) := by
  rw [mRestore, clN (by omega), if_neg (fun z => z (in1 h)), if_pos h2]
theorem mRestore_ok (h : k < 2) (h2 : ¬ A 17 k = 0) : mRestore v A (nI k) = (nI 1, upd v 19 (nI 0), va_up A 12 (fun j => A 16 (37 * k + j))) := by
  rw [mRestore, clN (by omega), if_neg (fun z => z (in1 h)), if_neg h2]
theorem imgR_img {kd : Nat → Nat} {S : Nat → Option Nat} {t : Nat → Int32} {dr : Nat} (h : catR kd S t (A 12) n dr) (hn : 0 < n) : imgR kd (va_up (va_up A 16 (putF (A 16) (37 * k) (A 12))) 17 (upd (A 17) k (nI 1))) k S t := by
  refine ⟨h.2.2.2.1, Or.inr ⟨fun z => ?_, n, dr, hn, h.cong (fun i hi => ?_)⟩⟩
  · have z : upd (A 17) k (nI 1) k = 0 := z
    rw [pk_us] at z
    exact absurd z (by decide)
  · show putF (A 16) (37 * k) (A 12) (37 * k + i) = A 12 i
    rw [putF, if_pos (by omega), show 37 * k + i - 37 * k = i by omega]
theorem imgR_imgO {kd : Nat → Nat} {S : Nat → Option Nat} {t : Nat → Int32} {j : Nat} {g : Nat → Int32} {x : Int32} (h : imgR kd A j S t) (hj : j ≠ k) : imgR kd (va_up (va_up A 16 (putF (A 16) (37 * k) g)) 17 (upd (A 17) k x)) j S t := by
  have e : upd (A 17) k x j = A 17 j := pk_un hj
  refine ⟨h.1, ?_⟩
  rcases h.2 with ⟨q1, q2⟩ | ⟨q1, n, dr, q3, q4⟩
  · exact Or.inl ⟨e.trans q1, q2⟩
  · refine Or.inr ⟨fun z => q1 (e.symm.trans z), n, dr, q3, q4.cong (fun i hi => ?_)⟩
    show putF (A 16) (37 * k) g (37 * j + i) = A 16 (37 * j + i)
    rw [putF, if_neg (by omega)]
theorem mKind_bad {x : Int32} (h : noOne A x) : mKind A x = -1000001 := if_pos h
theorem mKind_ok {c : Nat} (hC : Cat (A 12) n) (hc : c < n) : mKind A (nI c) = A 12 (5 + c) := by
  have hn := hC.2.1
  rw [mKind, clN (by omega), if_neg (fun z => z (okOne hC hc))]
theorem mAs_bad {x y : Int32} (h : noOne A x ∨ ¬ (nI 0 ≤ y ∧ y ≤ nI 5)) : mAs v A x y = (-1000001, v) := if_pos h
theorem mAs_y {c : Nat} {y : Int32} (hC : Cat (A 12) n) (hc : c < n) (h : nI 0 ≤ y ∧ y ≤ nI 5) {q : Int32} (e : A 12 (5 + c) = q) (h2 : y = 0 ∨ q = y ∨ parF q = y) : mAs v A (nI c) y = (nI c, upd v 3 (nI 0)) := by
  have hn := hC.2.1
  rw [mAs, clN (by omega), e, if_neg (fun z => z.elim (fun q => q (okOne hC hc)) (fun q => q h)), if_pos h2]
theorem mAs_n {c : Nat} {y : Int32} (hC : Cat (A 12) n) (hc : c < n) (h : nI 0 ≤ y ∧ y ≤ nI 5) {q : Int32} (e : A 12 (5 + c) = q) (h2 : ¬ (y = 0 ∨ q = y ∨ parF q = y)) : mAs v A (nI c) y = (-1000010 - nI 3, upd v 3 (nI 3)) := by
  have hn := hC.2.1
  rw [mAs, clN (by omega), e, if_neg (fun z => z.elim (fun q => q (okOne hC hc)) (fun q => q h)), if_neg h2]
theorem mAsk_bad {x w : Int32} (h : noOne A x ∨ ¬ (nI 0 ≤ w ∧ w ≤ nI 1)) : mAsk v A x w = (-1000001, v, A) := if_pos h
theorem mAsk_0 {c : Nat} {w : Int32} (hC : Cat (A 12) n) (hc : c < n) (h : nI 0 ≤ w ∧ w ≤ nI 1) (h0 : w = 0) : mAsk v A (nI c) w = (szV (A 12) c, upd v 21 (nI (trs (0, A 20) (szT (A 12) c)).1), va_up A 20 (trs (0, A 20) (szT (A 12) c)).2) := by
  have hn := hC.2.1
  rw [mAsk, clN (by omega), if_neg (fun z => z.elim (fun q => q (okOne hC hc)) (fun q => q h)), if_pos h0]
theorem mAsk_1 {c : Nat} {w : Int32} (hC : Cat (A 12) n) (hc : c < n) (h : nI 0 ≤ w ∧ w ≤ nI 1) (h0 : ¬ w = 0) : mAsk v A (nI c) w = (mkV (A 12) c, upd v 21 (nI (trs (0, A 20) (mkT (A 12) c)).1), va_up A 20 (trs (0, A 20) (mkT (A 12) c)).2) := by
  have hn := hC.2.1
  rw [mAsk, clN (by omega), if_neg (fun z => z.elim (fun q => q (okOne hC hc)) (fun q => q h)), if_neg h0]
variable {s : Nat → Int32} {c : Nat}
theorem sz1 (h : s (5 + c) = nI 1) : szV s c = s (13 + c) + (nI c + s (29 + c)) ∧ szT s c = [11, 10, 21, 20] := by
  rw [szV, szT, mkNewV, mkNewT, h]; exact ⟨rfl, rfl⟩
theorem sz2 (h : s (5 + c) = nI 2) : szV s c = -(s (13 + c) + nI 2 * (nI c + s (29 + c))) ∧ szT s c = [12, 11, 10, 24, 21, 20] := by
  rw [szV, szT, mkNewV, mkNewT, h]; exact ⟨rfl, rfl⟩
theorem sz3 (h : s (5 + c) = nI 3) : szV s c = s (13 + c) + ((nI c + s (29 + c)) - nI 1000) ∧ szT s c = [11, 10, 22, 21, 20] := by
  rw [szV, szT, mkNewV, mkNewT, h]; exact ⟨rfl, rfl⟩
theorem sz4 (h : s (5 + c) = nI 4) : szV s c = s (13 + c) - nI 100 ∧ szT s c = [13, 10] := by
  rw [szV, szT, h]; exact ⟨rfl, rfl⟩
theorem sz5 (h : s (5 + c) = nI 5) : szV s c = nI 2 * (s (13 + c) - nI 100) ∧ szT s c = [14, 13, 10] := by
  rw [szV, szT, h]; exact ⟨rfl, rfl⟩
theorem mk1 (h : s (5 + c) = nI 1) : mkV s c = nI c + s (29 + c) ∧ mkT s c = [21, 20] := by
  rw [mkV, mkT, mkNewV, mkNewT, h]; exact ⟨rfl, rfl⟩
theorem mk2 (h : s (5 + c) = nI 2) : mkV s c = nI 2 * (nI c + s (29 + c)) ∧ mkT s c = [24, 21, 20] := by
  rw [mkV, mkT, mkNewV, mkNewT, h]; exact ⟨rfl, rfl⟩
theorem mk3 (h : s (5 + c) = nI 3) : mkV s c = (nI c + s (29 + c)) - nI 1000 ∧ mkT s c = [22, 21, 20] := by
  rw [mkV, mkT, mkNewV, mkNewT, h]; exact ⟨rfl, rfl⟩
theorem mk4 (h : s (5 + c) = nI 4) : mkV s c = nI c - (s (13 + c) - nI 100) ∧ mkT s c = [23, 20, 13, 10] := by
  rw [mkV, mkT, (sz4 h).1, (sz4 h).2, h]; exact ⟨rfl, rfl⟩
theorem mk5 (h : s (5 + c) = nI 5) : mkV s c = nI c - nI 2 * (s (13 + c) - nI 100) ∧ mkT s c = [23, 20, 14, 13, 10] := by
  rw [mkV, mkT, (sz5 h).1, (sz5 h).2, h]; exact ⟨rfl, rfl⟩
theorem mCount_0 : mCount v A n (nI 0) = rowsN (A 0) 8 := rfl
theorem mCount_1 : mCount v A n (nI 1) = A 12 1 := rfl
theorem mCount_2 : mCount v A n (nI 2) = A 12 3 := rfl
theorem mCount_3 : mCount v A n (nI 3) = A 12 0 := rfl
theorem mCount_4 : mCount v A n (nI 4) = A 12 2 := rfl
theorem mCount_5 : mCount v A n (nI 5) = v 19 := rfl
theorem mCount_6 : mCount v A n (nI 6) = v 4 := rfl
theorem mCount_7 : mCount v A n (nI 7) = figN (A 12) n := rfl
theorem mCount_n {w : Int32} (h : ∀ j : Nat, (j : Int) ≤ 7 → j < 100000 → ¬ w = nI j) : mCount v A n w = -1000001 := by
  rw [mCount, if_neg (h 0 (by decide) (by decide)), if_neg (h 1 (by decide) (by decide)), if_neg (h 2 (by decide) (by decide)), if_neg (h 3 (by decide) (by decide)), if_neg (h 4 (by decide) (by decide)), if_neg (h 5 (by decide) (by decide)), if_neg (h 6 (by decide) (by decide)), if_neg (h 7 (by decide) (by decide))]
end ASKM
def soO (n : Nat) (S : Nat → Option Nat) (y : Int32) : Option Nat := if isC n y then S (cl y) else none
theorem soO_y {n c : Nat} {S : Nat → Option Nat} (h : isC n (nI c)) (hc : c < 1000) : soO n S (nI c) = S c := by rw [soO, if_pos h, clN (by omega)]
theorem soO_n {n : Nat} {S : Nat → Option Nat} {y : Int32} (h : ¬ isC n y) : soO n S y = none := if_neg h
def rwN (rl : Nat → Int32) : Nat → Int32
  | 0 => nI 0
  | k + 1 => if rl k = -1 then rwN rl k else rwN rl k + nI 1
theorem rwN_y {rl : Nat → Int32} {k : Nat} (h : rl k = -1) : rwN rl k = rwN rl (k + 1) := by rw [rwN, if_pos h]
theorem rwN_n {rl : Nat → Int32} {k : Nat} (h : ¬ rl k = -1) : rwN rl k + nI 1 = rwN rl (k + 1) := by rw [rwN, if_neg h]
theorem rwN_rows {A : Nat → Nat → Int32} {rl : Nat → Int32} : ∀ k, (∀ j, j < k → (rl j = -1 ↔ ¬ 0 ≤ A 0 j)) → rwN rl k = rowsN (A 0) k
  | 0, _ => rfl
  | k + 1, h => by
    have ih := rwN_rows k (fun j hj => h j (by omega))
    have hk := h k (by omega)
    by_cases e : rl k = -1
    · rw [rwN, if_pos e, rowsN, if_neg (hk.mp e), ih, i_a0]
    · rw [rwN, if_neg e, rowsN, if_pos (Decidable.not_not.mp (fun z => e (hk.mpr z))), ih]
