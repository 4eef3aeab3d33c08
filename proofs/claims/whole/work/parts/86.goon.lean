theorem pxC {F E F' R O I T W : va_W} (h : F.Perm (E ++ F')) (h2 : R.Perm (O ++ I)) (h3 : (E ++ O).Perm W) : (F ++ (R ++ T)).Perm (W ++ (F' ++ (I ++ T))) := by
  refine (h.append (h2.append_right T)).trans ?_
  refine List.Perm.trans ?_ (h3.append_right _)
  rw [List.append_assoc, List.append_assoc, List.append_assoc]
  exact List.Perm.append_left E (ppf F' O _)
/-! what each call leaves as it was -/
section FRM
variable {kd : Nat → Nat} {v v' : Nat → Int32} {A A' : Nat → Nat → Int32} {n dr a : Nat}
theorem eqA.up {S : List Nat} {k : Nat} {X : Nat → Int32} (h : eqA S A A') (hk : k ∈ S) : eqA S A (va_up A' k X) := fun j hj hs => (va_up_ne _ _ (fun e => hs (by rw [e]; exact hk))).trans (h j hj hs)
theorem eqV.up {S : List Nat} {k : Nat} {x : Int32} (h : eqV S v v') (hk : k ∈ S) : eqV S v (upd v' k x) := fun j hj hs => (pk_un (fun e => hs (by rw [e]; exact hk))).trans (h j hj hs)
theorem mRow_fr {x l m : Int32} : eqV [3] v (mRow v A x l m).2.1 ∧ eqA [0, 1, 2] A (mRow v A x l m).2.2 := by
  rw [mRow]
  split
  · exact ⟨eqV.rf _, eqA.rf _⟩
  · split
    · exact ⟨(eqV.rf _).up (by decide), eqA.rf _⟩
    · exact ⟨(eqV.rf _).up (by decide), (((eqA.rf _).up (by decide)).up (by decide)).up (by decide)⟩
theorem mSet_fr {x i w : Int32} : eqV [3] v (mSet v A x i w).2.1 ∧ eqA [0, 1, 2] A (mSet v A x i w).2.2 := by
  rw [mSet]
  split
  · exact ⟨eqV.rf _, eqA.rf _⟩
  · split
    · exact ⟨(eqV.rf _).up (by decide), eqA.rf _⟩
    · split
      · exact ⟨(eqV.rf _).up (by decide), eqA.rf _⟩
      · exact ⟨(eqV.rf _).up (by decide), (eqA.rf _).up (by decide)⟩
theorem mDrop_fr {x : Int32} : eqV [3] v (mDrop v A x).2.1 ∧ eqA [0, 1, 2] A (mDrop v A x).2.2 := by
  rw [mDrop]
  split
  · exact ⟨eqV.rf _, eqA.rf _⟩
  · split
    · exact ⟨(eqV.rf _).up (by decide), eqA.rf _⟩
    · exact ⟨(eqV.rf _).up (by decide), (eqA.rf _).up (by decide)⟩
theorem mCopy_fr {x i y j m : Int32} : eqV [3] v (mCopy v A x i y j m).2.1 ∧ eqA [0, 1, 2] A (mCopy v A x i y j m).2.2 := by
  rw [mCopy]
  split
  · exact ⟨eqV.rf _, eqA.rf _⟩
  · split
    · exact ⟨(eqV.rf _).up (by decide), eqA.rf _⟩
    · split
      · exact ⟨(eqV.rf _).up (by decide), eqA.rf _⟩
      · split
        · exact ⟨(eqV.rf _).up (by decide), eqA.rf _⟩
        · exact ⟨(eqV.rf _).up (by decide), (eqA.rf _).up (by decide)⟩
theorem mFeed_fr {x : Int32} : eqV [4] v (mFeed v A x).2.1 ∧ eqA [5] A (mFeed v A x).2.2 := by
  rw [mFeed]
  split
  · exact ⟨eqV.rf _, eqA.rf _⟩
  · split
    · exact ⟨eqV.rf _, eqA.rf _⟩
    · exact ⟨(eqV.rf _).up (by decide), (eqA.rf _).up (by decide)⟩
theorem ngt_fr : ∀ k, eqV [19] v (ngtN v A n a k).1 ∧ eqA [12, 18] A (ngtN v A n a k).2
  | 0 => ⟨eqV.rf _, eqA.rf _⟩
  | k + 1 => ⟨(ngt_fr k).1.up (by decide), ((ngt_fr k).2.up (by decide)).up (by decide)⟩
theorem mNights_fr {x : Int32} : eqV [19] v (mNights v A n a x).2.1 ∧ eqA [12, 18] A (mNights v A n a x).2.2 := by
  rw [mNights]
  split
  · exact ⟨eqV.rf _, eqA.rf _⟩
  · split
    · exact ⟨eqV.rf _, eqA.rf _⟩
    · split
      · exact ⟨eqV.rf _, eqA.rf _⟩
      · exact ngt_fr _
theorem mPut_fr {x d : Int32} : eqV [19] v (mPut v A n a x d).2.1 ∧ eqA [12, 18] A (mPut v A n a x d).2.2 := by
  rw [mPut]
  split
  · exact ⟨eqV.rf _, eqA.rf _⟩
  · split
    · exact ⟨eqV.rf _, eqA.rf _⟩
    · exact ⟨(eqV.rf _).up (by decide), ((eqA.rf _).up (by decide)).up (by decide)⟩
theorem mTurn_fr {d : Int32} : eqV [19] v (mTurn v A n a d).2.1 ∧ eqA [12, 18] A (mTurn v A n a d).2.2 := by
  rw [mTurn]
  split
  · exact ⟨eqV.rf _, eqA.rf _⟩
  · exact ⟨(eqV.rf _).up (by decide), ((eqA.rf _).up (by decide)).up (by decide)⟩
theorem mLike_fr {x o : Int32} : eqV [19] v (mLike v A a x o).2.1 ∧ eqA [12, 18] A (mLike v A a x o).2.2 := by
  rw [mLike]
  split
  · exact ⟨eqV.rf _, eqA.rf _⟩
  · exact ⟨(eqV.rf _).up (by decide), ((eqA.rf _).up (by decide)).up (by decide)⟩
theorem mUndo_fr : eqV [19] v (mUndo v A a).2.1 ∧ eqA [12, 18] A (mUndo v A a).2.2 := by
  rw [mUndo]
  split
  · exact ⟨eqV.rf _, eqA.rf _⟩
  · exact ⟨(eqV.rf _).up (by decide), (eqA.rf _).up (by decide)⟩
theorem mImage_fr {x : Int32} : eqV [] v (mImage v A x).2.1 ∧ eqA [16, 17] A (mImage v A x).2.2 := by
  rw [mImage]
  split
  · exact ⟨eqV.rf _, eqA.rf _⟩
  · split
    · exact ⟨eqV.rf _, eqA.rf _⟩
    · exact ⟨eqV.rf _, ((eqA.rf _).up (by decide)).up (by decide)⟩
theorem mRestore_fr {x : Int32} : eqV [19] v (mRestore v A x).2.1 ∧ eqA [12] A (mRestore v A x).2.2 := by
  rw [mRestore]
  split
  · exact ⟨eqV.rf _, eqA.rf _⟩
  · split
    · exact ⟨eqV.rf _, eqA.rf _⟩
    · exact ⟨(eqV.rf _).up (by decide), (eqA.rf _).up (by decide)⟩
theorem mAs_fr {x y : Int32} : eqV [3] v (mAs v A x y).2 := by
  rw [mAs]
  split
  · exact eqV.rf _
  · split
    · exact (eqV.rf _).up (by decide)
    · exact (eqV.rf _).up (by decide)
theorem mFit_fr {x y i m w : Int32} : eqV [3] v (mFit v A n dr x y i m w).2 := by
  rw [mFit]
  split
  · exact eqV.rf _
  · split
    · exact (eqV.rf _).up (by decide)
    · exact (eqV.rf _).up (by decide)
theorem mAsk_fr {x w : Int32} : eqV [21] v (mAsk v A x w).2.1 ∧ eqA [20] A (mAsk v A x w).2.2 := by
  rw [mAsk]
  split
  · exact ⟨eqV.rf _, eqA.rf _⟩
  · split
    · exact ⟨(eqV.rf _).up (by decide), (eqA.rf _).up (by decide)⟩
    · exact ⟨(eqV.rf _).up (by decide), (eqA.rf _).up (by decide)⟩
theorem mCat_fr {f : Nat → Int32} {L : Nat} : eqV [4, 11, 19] v (mCatV v f L) ∧ eqA [12] A (mCatA A f L) := by
  rw [mCatV, mCatA]
  split
  · exact ⟨((eqV.rf _).up (by decide)).up (by decide), (eqA.rf _).up (by decide)⟩
  · exact ⟨((eqV.rf _).up (by decide)).up (by decide), eqA.rf _⟩
/-! rows beside the one that a call is about -/
variable {rl : Nat → Int32} {rz : Nat → Nat} {rf : Nat → Nat → Int32} {k : Nat}
theorem row_k (y : Int32) : ∃ k, k < 8 ∧ ((nI 0 ≤ y ∧ y ≤ nI 7) → y = nI k) := by
  by_cases h : nI 0 ≤ y ∧ y ≤ nI 7
  · obtain ⟨j, h1, h2⟩ := rng (by omega) h
    exact ⟨j, by omega, fun _ => h2⟩
  · exact ⟨0, by omega, fun z => absurd z h⟩
theorem img_k (y : Int32) : ∃ k, k < 2 ∧ ((nI 0 ≤ y ∧ y ≤ nI 1) → y = nI k) := by
  by_cases h : nI 0 ≤ y ∧ y ≤ nI 1
  · obtain ⟨j, h1, h2⟩ := rng (by omega) h
    exact ⟨j, by omega, fun _ => h2⟩
  · exact ⟨0, by omega, fun z => absurd z h⟩
theorem rows_up {ln : Int32} {z : Nat} {f : Nat → Int32} (h : rowR A' k ln z f) (ho : ∀ i, i < 8 → i ≠ k → rowR A' i (rl i) (rz i) (rf i)) : ∀ i, i < 8 → rowR A' i (va_up rl k ln i) (va_up rz k z i) (va_up rf k f i) := by
  intro i hi
  by_cases e : i = k
  · subst e; rw [va_up_self, va_up_self, va_up_self]; exact h
  · rw [va_up_ne _ _ e, va_up_ne _ _ e, va_up_ne _ _ e]; exact ho i hi e
theorem rows_upf {f : Nat → Int32} (h : rowR A' k (rl k) (rz k) f) (ho : ∀ i, i < 8 → i ≠ k → rowR A' i (rl i) (rz i) (rf i)) : ∀ i, i < 8 → rowR A' i (rl i) (rz i) (va_up rf k f i) := by
  intro i hi
  by_cases e : i = k
  · subst e; rw [va_up_self]; exact h
  · rw [va_up_ne _ _ e]; exact ho i hi e
theorem mRow_O {y l m : Int32} (hk : k < 8) (hyk : (nI 0 ≤ y ∧ y ≤ nI 7) → y = nI k) (h : ∀ i, i < 8 → rowR A i (rl i) (rz i) (rf i)) : ∀ i, i < 8 → i ≠ k → rowR (mRow v A y l m).2.2 i (rl i) (rz i) (rf i) := by
  intro i hi hne
  rw [mRow]
  split
  · exact h i hi
  · rename_i q
    split
    · exact h i hi
    · have e := hyk (Decidable.not_not.mp (fun z => q (Or.inl z)))
      subst e
      rw [show (nI k).toNatClampNeg = k from nI_clamp (by omega)]
      exact rowR_rowO (h i hi) hne
theorem mSet_O {y j w : Int32} (hk : k < 8) (hyk : (nI 0 ≤ y ∧ y ≤ nI 7) → y = nI k) (h : ∀ i, i < 8 → rowR A i (rl i) (rz i) (rf i)) : ∀ i, i < 8 → i ≠ k → rowR (mSet v A y j w).2.2 i (rl i) (rz i) (rf i) := by
  intro i hi hne
  rw [mSet]
  split
  · exact h i hi
  · rename_i q
    have e := hyk (Decidable.not_not.mp q)
    subst e
    rw [show (nI k).toNatClampNeg = k from nI_clamp (by omega)]
    split
    · exact h i hi
    · split
      · exact h i hi
      · rename_i q2
        obtain ⟨z, z1, z2⟩ := (h k hk).2.2.2.1
        have q3 := Decidable.not_not.mp q2
        rw [z2] at q3
        obtain ⟨b, b1, b2⟩ := rng' (by omega) q3
        subst b2
        rw [show (nI b).toNatClampNeg = b from nI_clamp (by omega)]
        exact rowR_setO (h i hi) hne (by omega)
theorem mDrop_O {y : Int32} (hk : k < 8) (hyk : (nI 0 ≤ y ∧ y ≤ nI 7) → y = nI k) (h : ∀ i, i < 8 → rowR A i (rl i) (rz i) (rf i)) : ∀ i, i < 8 → i ≠ k → rowR (mDrop v A y).2.2 i (rl i) (rz i) (rf i) := by
  intro i hi hne
  rw [mDrop]
  split
  · exact h i hi
  · rename_i q
    have e := hyk (Decidable.not_not.mp q)
    subst e
    rw [show (nI k).toNatClampNeg = k from nI_clamp (by omega)]
    split
    · exact h i hi
    · exact rowR_dropO (h i hi) hne
theorem mCopy_O {y i0 y2 j0 m0 : Int32} (hk : k < 8) (hyk : (nI 0 ≤ y2 ∧ y2 ≤ nI 7) → y2 = nI k) (h : ∀ i, i < 8 → rowR A i (rl i) (rz i) (rf i)) : ∀ i, i < 8 → i ≠ k → rowR (mCopy v A y i0 y2 j0 m0).2.2 i (rl i) (rz i) (rf i) := by
  intro i hi hne
  rw [mCopy]
  split
  · exact h i hi
  · rename_i q
    have e := hyk (Decidable.not_not.mp (fun z => q (Or.inr z)))
    subst e
    rw [clN (k := k) (by omega)]
    split
    · exact h i hi
    · split
      · exact h i hi
      · split
        · exact h i hi
        · rename_i q2
          obtain ⟨z, z1, z2⟩ := (h k hk).2.2.2.1
          have q3 := Decidable.not_not.mp (fun z => q2 (Or.inr z))
          rw [z2] at q3
          obtain ⟨b, m, b1, b2, b3⟩ := prtN z1 q3
          subst b2
          subst b3
          rw [clN (k := b) (by omega), clN (k := m) (by omega)]
          exact rowR_cpyO (h i hi) hne (by omega)
theorem mImage_O {iS : Nat → Nat → Option Nat} {it : Nat → Nat → Int32} {y : Int32} (hk : k < 2) (hyk : (nI 0 ≤ y ∧ y ≤ nI 1) → y = nI k) (h : ∀ i, i < 2 → imgR kd A i (iS i) (it i)) : ∀ i, i < 2 → i ≠ k → imgR kd (mImage v A y).2.2 i (iS i) (it i) := by
  intro i hi hne
  rw [mImage]
  split
  · exact h i hi
  · rename_i q
    split
    · exact h i hi
    · have e := hyk (Decidable.not_not.mp q)
      subst e
      rw [clN (k := k) (by omega)]
      exact imgR_imgO (h i hi) hne
theorem imgs_up {iS : Nat → Nat → Option Nat} {it : Nat → Nat → Int32} {S : Nat → Option Nat} {t : Nat → Int32} (h : imgR kd A' k S t) (ho : ∀ i, i < 2 → i ≠ k → imgR kd A' i (iS i) (it i)) : ∀ i, i < 2 → imgR kd A' i (va_up iS k S i) (va_up it k t i) := by
  intro i hi
  by_cases e : i = k
  · subst e; rw [va_up_self, va_up_self]; exact h
  · rw [va_up_ne _ _ e, va_up_ne _ _ e]; exact ho i hi e
end FRM
section GOON
variable {kd : Nat → Nat} {v v' : Nat → Int32} {A A' : Nat → Nat → Int32} {n dr : Nat}
variable {ac ac' : Nat} {fi lf fi' lf' : Int32} {rl rl' : Nat → Int32} {rz rz' : Nat → Nat} {rf rf' : Nat → Nat → Int32} {L L' : Nat} {w4 : Int32} {p : Nat} {w6 w7 w8 w9 : Int32} {w4' : Int32} {p' : Nat} {w6' w7' w8' w9' : Int32} {tf tf' : Nat → Int32} {Sr Sr' : Nat → Option Nat} {tr tr' : Nat → Int32} {S0 S0' : Nat → Option Nat} {t0 t0' : Nat → Int32} {S1 S2 S1' S2' : Nat → Option Nat} {t1 t2 fs t1' t2' fs' : Nat → Int32} {z z' : Nat} {cd lk pl cd' lk' pl' : Int32} {kf kf' : Nat → Int32} {pa pa' : Nat → Nat} {pb pb' : Nat → Nat → Nat} {pS pS' : Nat → Nat → Option Nat} {pt pt' : Nat → Nat → Int32} {iS iS' : Nat → Nat → Option Nat} {it it' : Nat → Nat → Int32}
theorem RelX.fore (h : RelX kd v A n dr ((ac, fi, lf), (rl, rz, rf), (L, w4, p, w6, w7, w8, w9, tf), (Sr, tr), (S0, t0), (S1, t1, S2, t2, fs), (z, cd, lk, pl, kf), (pa, pb, pS, pt), (iS, it))) : RelX kd v A n dr ((ac, fi, lf), (rl, rz, rf), (L, w4, p, w6, w7, w8, w9, tf), (Sr, tr), (S0, t0), (S1', t1', S2', t2', fs'), (z, cd, lk, pl, kf), (pa, pb, pS, pt), (iS, it)) := h
theorem RelX.rows (h : RelX kd v A n dr ((ac, fi, lf), (rl, rz, rf), (L, w4, p, w6, w7, w8, w9, tf), (Sr, tr), (S0, t0), (S1, t1, S2, t2, fs), (z, cd, lk, pl, kf), (pa, pb, pS, pt), (iS, it))) (hv : eqV [3] v v') (hA : eqA [0, 1, 2] A A') (hf : fi' = v' 3) (hr : ∀ k, k < 8 → rowR A' k (rl' k) (rz' k) (rf' k)) : RelX kd v' A' n dr ((ac, fi', lf), (rl', rz', rf'), (L, w4, p, w6, w7, w8, w9, tf), (Sr, tr), (S0, t0), (S1, t1, S2, t2, fs), (z, cd, lk, pl, kf), (pa, pb, pS, pt), (iS, it)) := by
  obtain ⟨h1, h2, h3, h4, h5, h6, h7, h8, h9, h10, h11, h12, h13, h14, h15⟩ := h
  exact ⟨hf, h2.trans (hv 11 (by decide) (by decide)).symm, (hv 19 (by decide) (by decide)).trans h3, h4, h5.of (hA 12 (by decide) (by decide)), h6.of (hA 18 (by decide) (by decide)), hr, (hv 4 (by decide) (by decide)).trans h8, h9, h10.trans (hA 5 (by decide) (by decide)).symm, h11, fun k hk => (h12 k hk).of (hA 16 (by decide) (by decide)) (hA 17 (by decide) (by decide)), (hv 21 (by decide) (by decide)).trans h13, h14, h15.trans (hA 20 (by decide) (by decide)).symm⟩
theorem RelX.find (h : RelX kd v A n dr ((ac, fi, lf), (rl, rz, rf), (L, w4, p, w6, w7, w8, w9, tf), (Sr, tr), (S0, t0), (S1, t1, S2, t2, fs), (z, cd, lk, pl, kf), (pa, pb, pS, pt), (iS, it))) (hv : eqV [3] v v') (hf : fi' = v' 3) : RelX kd v' A n dr ((ac, fi', lf), (rl, rz, rf), (L, w4, p, w6, w7, w8, w9, tf), (Sr, tr), (S0, t0), (S1', t1', S2', t2', fs'), (z, cd, lk, pl, kf), (pa, pb, pS, pt), (iS, it)) := by
  obtain ⟨h1, h2, h3, h4, h5, h6, h7, h8, h9, h10, h11, h12, h13, h14, h15⟩ := h
  exact ⟨hf, h2.trans (hv 11 (by decide) (by decide)).symm, (hv 19 (by decide) (by decide)).trans h3, h4, h5, h6, h7, (hv 4 (by decide) (by decide)).trans h8, h9, h10, h11, h12, (hv 21 (by decide) (by decide)).trans h13, h14, h15⟩
theorem RelX.his (h : RelX kd v A n dr ((ac, fi, lf), (rl, rz, rf), (L, w4, p, w6, w7, w8, w9, tf), (Sr, tr), (S0, t0), (S1, t1, S2, t2, fs), (z, cd, lk, pl, kf), (pa, pb, pS, pt), (iS, it))) (hv : eqV [19] v v') (hA : eqA [12, 18] A A') (hh : hisR kd v' A' ac' S0' t0' pS' pt') : ∃ n' dr', RelX kd v' A' n' dr' ((ac', fi, lf), (rl, rz, rf), (L, w4, p, w6, w7, w8, w9, tf), (Sr, tr), (S0', t0'), (S1, t1, S2, t2, fs), (z, cd, lk, pl, kf), (pa', pb', pS', pt'), (iS, it)) := by
  obtain ⟨h1, h2, h3, h4, h5, h6, h7, h8, h9, h10, h11, h12, h13, h14, h15⟩ := h
  obtain ⟨g1, g2, ⟨n', dr', g3⟩, g4⟩ := hh
  exact ⟨n', dr', h1.trans (hv 3 (by decide) (by decide)).symm, h2.trans (hv 11 (by decide) (by decide)).symm, g1, g2, g3, g4, fun k hk => (h7 k hk).of (hA 0 (by decide) (by decide)) (hA 1 (by decide) (by decide)) (hA 2 (by decide) (by decide)), (hv 4 (by decide) (by decide)).trans h8, h9, h10.trans (hA 5 (by decide) (by decide)).symm, h11, fun k hk => (h12 k hk).of (hA 16 (by decide) (by decide)) (hA 17 (by decide) (by decide)), (hv 21 (by decide) (by decide)).trans h13, h14, h15.trans (hA 20 (by decide) (by decide)).symm⟩
theorem RelX.feed (h : RelX kd v A n dr ((ac, fi, lf), (rl, rz, rf), (L, w4, p, w6, w7, w8, w9, tf), (Sr, tr), (S0, t0), (S1, t1, S2, t2, fs), (z, cd, lk, pl, kf), (pa, pb, pS, pt), (iS, it))) (hv : eqV [4] v v') (hA : eqA [5] A A') (g1 : v' 4 = nI L') (g2 : L' ≤ 60) (g3 : tf' = A' 5) : RelX kd v' A' n dr ((ac, fi, lf), (rl, rz, rf), (L', w4, p, w6, w7, w8, w9, tf'), (Sr, tr), (S0, t0), (S1, t1, S2, t2, fs), (z, cd, lk, pl, kf), (pa, pb, pS, pt), (iS, it)) := by
  obtain ⟨h1, h2, h3, h4, h5, h6, h7, h8, h9, h10, h11, h12, h13, h14, h15⟩ := h
  exact ⟨h1.trans (hv 3 (by decide) (by decide)).symm, h2.trans (hv 11 (by decide) (by decide)).symm, (hv 19 (by decide) (by decide)).trans h3, h4, h5.of (hA 12 (by decide) (by decide)), h6.of (hA 18 (by decide) (by decide)), fun k hk => (h7 k hk).of (hA 0 (by decide) (by decide)) (hA 1 (by decide) (by decide)) (hA 2 (by decide) (by decide)), g1, g2, g3, h11, fun k hk => (h12 k hk).of (hA 16 (by decide) (by decide)) (hA 17 (by decide) (by decide)), (hv 21 (by decide) (by decide)).trans h13, h14, h15.trans (hA 20 (by decide) (by decide)).symm⟩
theorem RelX.img (h : RelX kd v A n dr ((ac, fi, lf), (rl, rz, rf), (L, w4, p, w6, w7, w8, w9, tf), (Sr, tr), (S0, t0), (S1, t1, S2, t2, fs), (z, cd, lk, pl, kf), (pa, pb, pS, pt), (iS, it))) (hv : eqV [] v v') (hA : eqA [16, 17] A A') (hi : ∀ k, k < 2 → imgR kd A' k (iS' k) (it' k)) : RelX kd v' A' n dr ((ac, fi, lf), (rl, rz, rf), (L, w4, p, w6, w7, w8, w9, tf), (Sr, tr), (S0, t0), (S1, t1, S2, t2, fs), (z, cd, lk, pl, kf), (pa, pb, pS, pt), (iS', it')) := by
  obtain ⟨h1, h2, h3, h4, h5, h6, h7, h8, h9, h10, h11, h12, h13, h14, h15⟩ := h
  exact ⟨h1.trans (hv 3 (by decide) (by decide)).symm, h2.trans (hv 11 (by decide) (by decide)).symm, (hv 19 (by decide) (by decide)).trans h3, h4, h5.of (hA 12 (by decide) (by decide)), h6.of (hA 18 (by decide) (by decide)), fun k hk => (h7 k hk).of (hA 0 (by decide) (by decide)) (hA 1 (by decide) (by decide)) (hA 2 (by decide) (by decide)), (hv 4 (by decide) (by decide)).trans h8, h9, h10.trans (hA 5 (by decide) (by decide)).symm, h11, hi, (hv 21 (by decide) (by decide)).trans h13, h14, h15.trans (hA 20 (by decide) (by decide)).symm⟩
theorem RelX.rst (h : RelX kd v A n dr ((ac, fi, lf), (rl, rz, rf), (L, w4, p, w6, w7, w8, w9, tf), (Sr, tr), (S0, t0), (S1, t1, S2, t2, fs), (z, cd, lk, pl, kf), (pa, pb, pS, pt), (iS, it))) (hv : eqV [19] v v') (hA : eqA [12] A A') (g1 : v' 19 = nI ac') (g2 : ac' ≤ ac) (g3 : ∃ n' dr', catR kd S0' t0' (A' 12) n' dr') : ∃ n' dr', RelX kd v' A' n' dr' ((ac', fi, lf), (rl, rz, rf), (L, w4, p, w6, w7, w8, w9, tf), (Sr, tr), (S0', t0'), (S1, t1, S2, t2, fs), (z, cd, lk, pl, kf), (pa, pb, pS, pt), (iS, it)) := by
  obtain ⟨h1, h2, h3, h4, h5, h6, h7, h8, h9, h10, h11, h12, h13, h14, h15⟩ := h
  obtain ⟨n', dr', g3⟩ := g3
  have h6' : pastR kd ac' pS pt (A 18) := ⟨h6.1, fun j hj => h6.2 j (by omega)⟩
  exact ⟨n', dr', h1.trans (hv 3 (by decide) (by decide)).symm, h2.trans (hv 11 (by decide) (by decide)).symm, g1, by omega, g3, h6'.of (hA 18 (by decide) (by decide)), fun k hk => (h7 k hk).of (hA 0 (by decide) (by decide)) (hA 1 (by decide) (by decide)) (hA 2 (by decide) (by decide)), (hv 4 (by decide) (by decide)).trans h8, h9, h10.trans (hA 5 (by decide) (by decide)).symm, h11, fun k hk => (h12 k hk).of (hA 16 (by decide) (by decide)) (hA 17 (by decide) (by decide)), (hv 21 (by decide) (by decide)).trans h13, h14, h15.trans (hA 20 (by decide) (by decide)).symm⟩
theorem RelX.ask (h : RelX kd v A n dr ((ac, fi, lf), (rl, rz, rf), (L, w4, p, w6, w7, w8, w9, tf), (Sr, tr), (S0, t0), (S1, t1, S2, t2, fs), (z, cd, lk, pl, kf), (pa, pb, pS, pt), (iS, it))) (hv : eqV [21] v v') (hA : eqA [20] A A') (g1 : v' 21 = nI z') (g2 : z' ≤ 16) (g3 : kf' = A' 20) : RelX kd v' A' n dr ((ac, fi, lf), (rl, rz, rf), (L, w4, p, w6, w7, w8, w9, tf), (Sr, tr), (S0, t0), (S1, t1, S2, t2, fs), (z', cd', lk', pl', kf'), (pa, pb, pS, pt), (iS, it)) := by
  obtain ⟨h1, h2, h3, h4, h5, h6, h7, h8, h9, h10, h11, h12, h13, h14, h15⟩ := h
  exact ⟨h1.trans (hv 3 (by decide) (by decide)).symm, h2.trans (hv 11 (by decide) (by decide)).symm, (hv 19 (by decide) (by decide)).trans h3, h4, h5.of (hA 12 (by decide) (by decide)), h6.of (hA 18 (by decide) (by decide)), fun k hk => (h7 k hk).of (hA 0 (by decide) (by decide)) (hA 1 (by decide) (by decide)) (hA 2 (by decide) (by decide)), (hv 4 (by decide) (by decide)).trans h8, h9, h10.trans (hA 5 (by decide) (by decide)).symm, h11, fun k hk => (h12 k hk).of (hA 16 (by decide) (by decide)) (hA 17 (by decide) (by decide)), g1, g2, g3⟩
theorem RelX.cat (h : RelX kd v A n dr ((ac, fi, lf), (rl, rz, rf), (L, w4, p, w6, w7, w8, w9, tf), (Sr, tr), (S0, t0), (S1, t1, S2, t2, fs), (z, cd, lk, pl, kf), (pa, pb, pS, pt), (iS, it))) (g1 : ∀ j, j < 8 → anyS kd (Sr' j)) (g2 : (redF tf L).1 = 0 → ac' = 0 ∧ lf' = lf ∧ ∃ n dr, catR kd S0' t0' (redF tf L).2.2.1 n dr) (g3 : ¬ (redF tf L).1 = 0 → ac' = ac ∧ lf' = nI (redF tf L).1 ∧ S0' = S0 ∧ t0' = t0) : ∃ n' dr', RelX kd (mCatV v tf L) (mCatA A tf L) n' dr' ((ac', fi, lf'), (rl, rz, rf), (0, w4', p', w6', w7', w8', w9', tf), (Sr', tr'), (S0', t0'), (S1, t1, S2, t2, fs), (z, cd, lk, pl, kf), (pa, pb, pS, pt), (iS, it)) := by
  obtain ⟨hv, hA⟩ := mCat_fr (v := v) (A := A) (f := tf) (L := L)
  obtain ⟨h1, h2, h3, h4, h5, h6, h7, h8, h9, h10, h11, h12, h13, h14, h15⟩ := h
  have e4 : mCatV v tf L 4 = nI 0 := by rw [mCatV]; split <;> rfl
  have k3 := h1.trans (hv 3 (by decide) (by decide)).symm
  have k6 := hA 18 (by decide) (by decide)
  have k7 : ∀ k, k < 8 → rowR (mCatA A tf L) k (rl k) (rz k) (rf k) := fun k hk => (h7 k hk).of (hA 0 (by decide) (by decide)) (hA 1 (by decide) (by decide)) (hA 2 (by decide) (by decide))
  have k10 := h10.trans (hA 5 (by decide) (by decide)).symm
  have k12 : ∀ k, k < 2 → imgR kd (mCatA A tf L) k (iS k) (it k) := fun k hk => (h12 k hk).of (hA 16 (by decide) (by decide)) (hA 17 (by decide) (by decide))
  have k13 := (hv 21 (by decide) (by decide)).trans h13
  have k15 := h15.trans (hA 20 (by decide) (by decide)).symm
  by_cases c : (redF tf L).1 = 0
  · obtain ⟨q1, q2, n', dr', q3⟩ := g2 c
    have e19 : mCatV v tf L 19 = nI 0 := by rw [mCatV, if_pos c]; rfl
    have e11 : mCatV v tf L 11 = v 11 := by rw [mCatV, if_pos c]; rfl
    have e12 : mCatA A tf L 12 = (redF tf L).2.2.1 := by rw [mCatA, if_pos c]; rfl
    have h6' : pastR kd 0 pS pt (A 18) := ⟨h6.1, fun j hj => absurd hj (by omega)⟩
    exact ⟨n', dr', k3, q2.trans (h2.trans e11.symm), by rw [q1]; exact e19, by omega, q3.of e12, by rw [q1]; exact h6'.of k6, k7, e4, by omega, k10, g1, k12, k13, h14, k15⟩
  · obtain ⟨q1, q2, q3, q4⟩ := g3 c
    have e19 : mCatV v tf L 19 = v 19 := by rw [mCatV, if_neg c]; rfl
    have e11 : mCatV v tf L 11 = nI (redF tf L).1 := by rw [mCatV, if_neg c]; rfl
    have e12 : mCatA A tf L 12 = A 12 := by rw [mCatA, if_neg c]
    refine ⟨n, dr, k3, q2.trans e11.symm, by rw [q1]; exact e19.trans h3, by omega, by rw [q3, q4]; exact h5.of e12, by rw [q1]; exact h6.of k6, k7, e4, by omega, k10, g1, k12, k13, h14, k15⟩
end GOON
