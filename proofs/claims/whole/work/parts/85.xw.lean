/-! the class's whole world, and how it stands to the reference -/
abbrev rG (cy : Nat → ClassId) (ra rb : Nat → Nat) (rl : Nat → Int32) (rz : Nat → Nat) (rf : Nat → Nat → Int32) : Nat → va_W := fun j => [(ra j, .inr (7, [.ref (rb j), .int (rl j), .int (nI (rz j))])), (rb j, wInt (cy 0) 40 (rf j))]
def kF (kd : Nat → Nat) : Nat → Option Nat := fun j => if j = 0 then none else some (kd j)
theorem kF_ok (kd : Nat → Nat) : ∀ k, 1 ≤ k → k ≤ 5 → kF kd k = some (kd k) := fun k h _ => if_neg (by omega)
abbrev XS : Type := (Nat × Int32 × Int32) × ((Nat → Int32) × (Nat → Nat) × (Nat → Nat → Int32)) × (Nat × Int32 × Nat × Int32 × Int32 × Int32 × Int32 × (Nat → Int32)) × ((Nat → Option Nat) × (Nat → Int32)) × ((Nat → Option Nat) × (Nat → Int32)) × ((Nat → Option Nat) × (Nat → Int32) × (Nat → Option Nat) × (Nat → Int32) × (Nat → Int32)) × (Nat × Int32 × Int32 × Int32 × (Nat → Int32)) × ((Nat → Nat) × (Nat → Nat → Nat) × (Nat → Nat → Option Nat) × (Nat → Nat → Int32)) × ((Nat → Nat → Option Nat) × (Nat → Nat → Int32))
def XW (cy : Nat → ClassId) (c : Nat → Nat) (bb : Nat → Nat → Nat) (ra rb ia : Nat → Nat) (ib : Nat → Nat → Nat) (kd : Nat → Nat) : XS → va_W
  | ((ac, fi, lf), (rl, rz, rf), (L, w4, p, w6, w7, w8, w9, tf), (Sr, tr), (S0, t0), (S1, t1, S2, t2, fs), (z, cd, lk, pl, kf), (pa, pb, pS, pt), (iS, it)) => [((c 0), .inr (10, [.ref (c 1), .ref (c 2), .ref (c 3), .ref (c 4), .ref (c 5), .ref (c 6), .ref (c 7), .ref (c 8), .int (nI ac), .int fi, .int lf])), ((c 1), wRef (cy 3) 8 (fun j => some (ra j))), ((c 2), wRef (cy 2) 6 (kF kd)), ((c 5), wRef (cy 4) 24 (fun j => some (pa j))), ((c 6), wRef (cy 4) 2 (fun j => some (ia j))), ((kd 1), .inr (3, [])), ((kd 2), .inr (4, [])), ((kd 3), .inr (9, [])), ((kd 4), .inr (6, [])), ((kd 5), .inr (1, [])), ((c 3), .inr (5, [.ref (c 9), .ref (c 2), .ref (c 10), .int (nI L), .int w4, .int (nI p), .int w6, .int w7, .int w8, .int w9])), ((c 9), wInt (cy 0) 60 tf), ((c 10), .inr (8, [.ref ((bb 3) 0), .ref ((bb 3) 1), .ref ((bb 3) 2), .ref ((bb 3) 3), .int (tr 1), .int (tr 2), .int (tr 3), .int (tr 0)])), (((bb 3) 0), wRef (cy 2) 8 Sr), (((bb 3) 1), wInt (cy 0) 8 (fun j => tr (13 + j))), (((bb 3) 2), wInt (cy 0) 8 (fun j => tr (21 + j))), (((bb 3) 3), wInt (cy 0) 8 (fun j => tr (29 + j))), ((c 4), .inr (8, [.ref ((bb 0) 0), .ref ((bb 0) 1), .ref ((bb 0) 2), .ref ((bb 0) 3), .int (t0 1), .int (t0 2), .int (t0 3), .int (t0 0)])), (((bb 0) 0), wRef (cy 2) 8 S0), (((bb 0) 1), wInt (cy 0) 8 (fun j => t0 (13 + j))), (((bb 0) 2), wInt (cy 0) 8 (fun j => t0 (21 + j))), (((bb 0) 3), wInt (cy 0) 8 (fun j => t0 (29 + j))), ((c 7), .inr (2, [.ref (c 4), .ref (c 2), .ref (c 12), .ref (c 13), .ref (c 14)])), ((c 14), wInt (cy 0) 24 fs), ((c 12), .inr (8, [.ref ((bb 1) 0), .ref ((bb 1) 1), .ref ((bb 1) 2), .ref ((bb 1) 3), .int (t1 1), .int (t1 2), .int (t1 3), .int (t1 0)])), (((bb 1) 0), wRef (cy 2) 8 S1), (((bb 1) 1), wInt (cy 0) 8 (fun j => t1 (13 + j))), (((bb 1) 2), wInt (cy 0) 8 (fun j => t1 (21 + j))), (((bb 1) 3), wInt (cy 0) 8 (fun j => t1 (29 + j))), ((c 13), .inr (8, [.ref ((bb 2) 0), .ref ((bb 2) 1), .ref ((bb 2) 2), .ref ((bb 2) 3), .int (t2 1), .int (t2 2), .int (t2 3), .int (t2 0)])), (((bb 2) 0), wRef (cy 2) 8 S2), (((bb 2) 1), wInt (cy 0) 8 (fun j => t2 (13 + j))), (((bb 2) 2), wInt (cy 0) 8 (fun j => t2 (21 + j))), (((bb 2) 3), wInt (cy 0) 8 (fun j => t2 (29 + j))), ((c 8), .inr (0, [.ref (c 11), .int (nI z), .int cd, .int lk, .int pl])), ((c 11), wInt (cy 0) 16 kf)] ++ (fam (rG cy ra rb rl rz rf) 8 ++ (fam (pG cy pa pb pS pt) 24 ++ fam (pG cy ia ib iS it) 2))
def RelX (kd : Nat → Nat) (v : Nat → Int32) (A : Nat → Nat → Int32) (n dr : Nat) : XS → Prop
  | ((ac, fi, lf), (rl, rz, rf), (L, w4, p, w6, w7, w8, w9, tf), (Sr, tr), (S0, t0), (S1, t1, S2, t2, fs), (z, cd, lk, pl, kf), (pa, pb, pS, pt), (iS, it)) => fi = v 3 ∧ lf = v 11 ∧ v 19 = nI ac ∧ ac ≤ 24 ∧ catR kd S0 t0 (A 12) n dr ∧ pastR kd ac pS pt (A 18) ∧ (∀ k, k < 8 → rowR A k (rl k) (rz k) (rf k)) ∧ v 4 = nI L ∧ L ≤ 60 ∧ tf = A 5 ∧ (∀ j, j < 8 → anyS kd (Sr j)) ∧ (∀ k, k < 2 → imgR kd A k (iS k) (it k)) ∧ v 21 = nI z ∧ z ≤ 16 ∧ kf = A 20
/-! worlds up to order -/
theorem ppf (A B C : va_W) : (A ++ (B ++ C)).Perm (B ++ (A ++ C)) := List.perm_append_comm_assoc A B C
theorem pxP {F E F' R P I : va_W} (h : F.Perm (E ++ F')) : (F ++ (R ++ (P ++ I))).Perm ((E ++ P) ++ (F' ++ (R ++ I))) := by
  refine (h.append_right _).trans ?_
  rw [List.append_assoc, List.append_assoc]
  refine List.Perm.append_left E ?_
  have e := ppf (F' ++ R) P I
  rw [List.append_assoc, List.append_assoc] at e
  exact e
theorem pxR {F E F' T : va_W} {G : Nat → va_W} {k n : Nat} (h : F.Perm (E ++ F')) (hk : k < n) : (F ++ (fam G n ++ T)).Perm ((E ++ G k) ++ (F' ++ (famX G k n ++ T))) := by
  refine (h.append ((fam_ex n hk).append_right T)).trans ?_
  rw [List.append_assoc, List.append_assoc, List.append_assoc]
  exact List.Perm.append_left E (ppf F' (G k) _)
theorem pxI {F E F' R P : va_W} {G : Nat → va_W} {k n : Nat} (h : F.Perm (E ++ F')) (hk : k < n) : (F ++ (R ++ (P ++ fam G n))).Perm ((E ++ G k) ++ (F' ++ (R ++ (P ++ famX G k n)))) := by
  refine (h.append (List.Perm.append_left R (List.Perm.append_left P (fam_ex n hk)))).trans ?_
  rw [List.append_assoc, List.append_assoc]
  refine List.Perm.append_left E ?_
  have e := ppf (F' ++ (R ++ P)) (G k) (famX G k n)
  rw [List.append_assoc, List.append_assoc, List.append_assoc, List.append_assoc] at e
  exact e
def famY (G : Nat → va_W) (j k n : Nat) : va_W := famX (fun i => if i = j then [] else G i) k n
theorem px2 {F E F' T : va_W} {G : Nat → va_W} {j k n : Nat} (h : F.Perm (E ++ F')) (hj : j < n) (hk : k < n) (hjk : j ≠ k) : (F ++ (fam G n ++ T)).Perm (((E ++ G j) ++ G k) ++ (F' ++ (famY G j k n ++ T))) := by
  refine (pxR h hj).trans ?_
  rw [← List.append_assoc]
  have e := pxR (F := (E ++ G j) ++ F') (E := E ++ G j) (F' := F') (T := T) (G := fun i => if i = j then [] else G i) (List.Perm.refl _) hk
  simp only [if_neg (Ne.symm hjk)] at e
  exact e
theorem famY_congr {G G' : Nat → va_W} {j k n : Nat} (h : ∀ i, i < n → i ≠ j → i ≠ k → G i = G' i) : famY G j k n = famY G' j k n :=
  famX_congr (fun i hi hk => by
    by_cases e : i = j
    · simp only [if_pos e]
    · simp only [if_neg e]; exact h i hi e hk)
section ROWP
variable {cy : Nat → ClassId} {ra rb : Nat → Nat} {rl : Nat → Int32} {rz : Nat → Nat} {rf : Nat → Nat → Int32}
theorem rG_put {F E F' T : va_W} {k : Nat} (h : F.Perm (E ++ F')) (hk : k < 8) (ln : Int32) (z : Nat) (f : Nat → Int32) : ((E ++ [(ra k, .inr (7, [.ref (rb k), .int ln, .int (nI z)])), (rb k, wInt (cy 0) 40 f)]) ++ (F' ++ (famX (rG cy ra rb rl rz rf) k 8 ++ T))).Perm (F ++ (fam (rG cy ra rb (va_up rl k ln) (va_up rz k z) (va_up rf k f)) 8 ++ T)) := by
  have e := pxR (T := T) (G := rG cy ra rb (va_up rl k ln) (va_up rz k z) (va_up rf k f)) h hk
  rw [famX_congr (G := rG cy ra rb (va_up rl k ln) (va_up rz k z) (va_up rf k f)) (G' := rG cy ra rb rl rz rf) (fun i _ hi => by simp only [rG, va_up_ne _ _ hi])] at e
  simp only [rG, va_up_self] at e
  exact e.symm
theorem rG_put2 {F E F' T : va_W} {j k : Nat} (h : F.Perm (E ++ F')) (hj : j < 8) (hk : k < 8) (hjk : j ≠ k) (f : Nat → Int32) : (((E ++ [(ra j, .inr (7, [.ref (rb j), .int (rl j), .int (nI (rz j))])), (rb j, wInt (cy 0) 40 (rf j))]) ++ [(ra k, .inr (7, [.ref (rb k), .int (rl k), .int (nI (rz k))])), (rb k, wInt (cy 0) 40 f)]) ++ (F' ++ (famY (rG cy ra rb rl rz rf) j k 8 ++ T))).Perm (F ++ (fam (rG cy ra rb rl rz (va_up rf k f)) 8 ++ T)) := by
  have e := px2 (T := T) (G := rG cy ra rb rl rz (va_up rf k f)) h hj hk hjk
  rw [famY_congr (G := rG cy ra rb rl rz (va_up rf k f)) (G' := rG cy ra rb rl rz rf) (fun i _ _ hi => by simp only [rG, va_up_ne _ _ hi])] at e
  simp only [rG, va_up_self, va_up_ne _ _ hjk] at e
  exact e.symm
theorem iG_put {ia : Nat → Nat} {ib : Nat → Nat → Nat} {iS : Nat → Nat → Option Nat} {it : Nat → Nat → Int32} {F E F' R P : va_W} {k : Nat} (h : F.Perm (E ++ F')) (hk : k < 2) (S : Nat → Option Nat) (t : Nat → Int32) : ((E ++ sW cy (ia k) (ib k) S t) ++ (F' ++ (R ++ (P ++ famX (pG cy ia ib iS it) k 2)))).Perm (F ++ (R ++ (P ++ fam (pG cy ia ib (va_up iS k S) (va_up it k t)) 2))) := by
  have e := pxI (R := R) (P := P) (G := pG cy ia ib (va_up iS k S) (va_up it k t)) h hk
  rw [famX_congr (G := pG cy ia ib (va_up iS k S) (va_up it k t)) (G' := pG cy ia ib iS it) (fun i _ hi => by simp only [pG, va_up_ne _ _ hi])] at e
  simp only [pG, va_up_self] at e
  exact e.symm
end ROWP
/-! how the state goes on -/
section RELX
variable {kd : Nat → Nat} {v v' : Nat → Int32} {A A' : Nat → Nat → Int32} {n dr : Nat}
theorem catR.of {S : Nat → Option Nat} {t r r' : Nat → Int32} (h : catR kd S t r n dr) (e : r' = r) : catR kd S t r' n dr := e ▸ h
theorem pastR.of {ac : Nat} {pS : Nat → Nat → Option Nat} {pt : Nat → Nat → Int32} {f f' : Nat → Int32} (h : pastR kd ac pS pt f) (e : f' = f) : pastR kd ac pS pt f' := e ▸ h
theorem rowR.of {k : Nat} {ln : Int32} {z : Nat} {f : Nat → Int32} (h : rowR A k ln z f) (e0 : A' 0 = A 0) (e1 : A' 1 = A 1) (e2 : A' 2 = A 2) : rowR A' k ln z f := by
  unfold rowR at h ⊢; rw [e0, e1, e2]; exact h
theorem imgR.of {k : Nat} {S : Nat → Option Nat} {t : Nat → Int32} (h : imgR kd A k S t) (e0 : A' 16 = A 16) (e1 : A' 17 = A 17) : imgR kd A' k S t := by
  unfold imgR at h ⊢; rw [e0, e1]; exact h
/-- what the state tells of: the rows and numbers that count -/
def eqV (S : List Nat) (v v' : Nat → Int32) : Prop := ∀ j, j ∈ [3, 4, 11, 19, 21] → j ∉ S → v' j = v j
def eqA (S : List Nat) (A A' : Nat → Nat → Int32) : Prop := ∀ j, j ∈ [0, 1, 2, 5, 12, 16, 17, 18, 20] → j ∉ S → A' j = A j
theorem eqV.rf (S : List Nat) : eqV S v v := fun _ _ _ => rfl
theorem eqA.rf (S : List Nat) : eqA S A A := fun _ _ _ => rfl
theorem RelX.mv {u : XS} (h : RelX kd v A n dr u) (hv : eqV [] v v') (hA : eqA [] A A') : RelX kd v' A' n dr u := by
  obtain ⟨⟨ac, fi, lf⟩, ⟨rl, rz, rf⟩, ⟨L, w4, p, w6, w7, w8, w9, tf⟩, ⟨Sr, tr⟩, ⟨S0, t0⟩, ⟨S1, t1, S2, t2, fs⟩, ⟨z, cd, lk, pl, kf⟩, ⟨pa, pb, pS, pt⟩, ⟨iS, it⟩⟩ := u
  obtain ⟨h1, h2, h3, h4, h5, h6, h7, h8, h9, h10, h11, h12, h13, h14, h15⟩ := h
  exact ⟨h1.trans (hv 3 (by decide) (by decide)).symm, h2.trans (hv 11 (by decide) (by decide)).symm, (hv 19 (by decide) (by decide)).trans h3, h4, h5.of (hA 12 (by decide) (by decide)), h6.of (hA 18 (by decide) (by decide)), fun k hk => (h7 k hk).of (hA 0 (by decide) (by decide)) (hA 1 (by decide) (by decide)) (hA 2 (by decide) (by decide)), (hv 4 (by decide) (by decide)).trans h8, h9, h10.trans (hA 5 (by decide) (by decide)).symm, h11, fun k hk => (h12 k hk).of (hA 16 (by decide) (by decide)) (hA 17 (by decide) (by decide)), (hv 21 (by decide) (by decide)).trans h13, h14, h15.trans (hA 20 (by decide) (by decide)).symm⟩
end RELX
