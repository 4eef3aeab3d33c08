/-! two catalogues that agree on their cards go the same way; the class's turns are the reference's -/
theorem agr.upd {t r : Nat → Int32} {n p : Nat} {x y : Int32} (h : agr t r n) (e : x = y) : agr (upd t p x) (upd r p y) n := by
  subst e
  have k : ∀ j, t j = r j → Jvm.Pilot.CDrawerCardsLaw_law_r8368_31570c.upd t p x j = Jvm.Pilot.CDrawerCardsLaw_law_r8368_31570c.upd r p x j := fun j hj => by
    by_cases z : j = p
    · subst z; rw [pk_us, pk_us]
    · rw [pk_un z, pk_un z]; exact hj
  exact ⟨k _ h.1, k _ h.2.1, k _ h.2.2.1, k _ h.2.2.2.1, fun c hc => ⟨k _ (h.2.2.2.2 c hc).1, k _ (h.2.2.2.2 c hc).2.1, k _ (h.2.2.2.2 c hc).2.2.1, k _ (h.2.2.2.2 c hc).2.2.2⟩⟩
theorem agr.s {t r : Nat → Int32} {n c : Nat} (h : agr t r n) (hc : c < n) : t (5 + c) = r (5 + c) := (h.2.2.2.2 c hc).1
theorem agr.l {t r : Nat → Int32} {n c : Nat} (h : agr t r n) (hc : c < n) : t (13 + c) = r (13 + c) := (h.2.2.2.2 c hc).2.1
theorem agr.i {t r : Nat → Int32} {n c : Nat} (h : agr t r n) (hc : c < n) : t (21 + c) = r (21 + c) := (h.2.2.2.2 c hc).2.2.1
theorem agr.p {t r : Nat → Int32} {n c : Nat} (h : agr t r n) (hc : c < n) : t (29 + c) = r (29 + c) := (h.2.2.2.2 c hc).2.2.2
theorem agr.refl (t : Nat → Int32) (n : Nat) : agr t t n := ⟨rfl, rfl, rfl, rfl, fun _ _ => ⟨rfl, rfl, rfl, rfl⟩⟩
theorem agr.outN {t r : Nat → Int32} {n c : Nat} (h : agr t r n) (hc : c < n) : ∀ i, i ≤ n → agr (outN t c i) (outN r c i) n
  | 0, _ => h
  | i + 1, hi => by
    have ih := h.outN hc i (by omega)
    rw [Jvm.Pilot.CDrawerCardsLaw_law_r8368_31570c.outN, Jvm.Pilot.CDrawerCardsLaw_law_r8368_31570c.outN]
    exact ih.upd (by rw [ih.p (c := i) (by omega), ih.i (c := i) (by omega), ih.i hc, ih.p hc])
theorem agr.outS {t r : Nat → Int32} {n c : Nat} (h : agr t r n) (hc : c < n) : agr (outS t n c) (outS r n c) n := (h.outN hc n (Nat.le_refl n)).upd rfl
theorem agr.inN {t r : Nat → Int32} {n : Nat} (h : agr t r n) (d pl : Int32) : ∀ i, i ≤ n → agr (inN t d pl i) (inN r d pl i) n
  | 0, _ => h
  | i + 1, hi => by
    have ih := h.inN d pl i (by omega)
    rw [Jvm.Pilot.CDrawerCardsLaw_law_r8368_31570c.inN, Jvm.Pilot.CDrawerCardsLaw_law_r8368_31570c.inN]
    exact ih.upd (by rw [ih.p (c := i) (by omega), ih.i (c := i) (by omega)])
theorem agr.inS {t r : Nat → Int32} {n : Nat} (h : agr t r n) (c : Nat) (d pl : Int32) : agr (inS t n c d pl) (inS r n c d pl) n := ((h.inN d pl n (Nat.le_refl n)).upd rfl).upd rfl
theorem agr.behind {t r : Nat → Int32} {n c : Nat} (h : agr t r n) (hc : c < n) (d : Int32) : agr (behindS t n c d) (behindS r n c d) n := by
  rw [behindS, behindS, (h.outS hc).fill]; exact (h.outS hc).inS c d _
theorem agr.by {t r : Nat → Int32} {n c k : Nat} (h : agr t r n) (hc : c < n) (hk : k < n) : agr (byS t n c k) (byS r n c k) n := by
  rw [byS, byS, (h.outS hc).i hk, (h.outS hc).p hk]; exact (h.outS hc).inS c _ _
theorem agr.free {t r : Nat → Int32} {n c k : Nat} (h : agr t r n) (hc : c < n) (hk : k < n) : agr (freeS t n c k) (freeS r n c k) n := by
  have eb : besideS t c k = besideS r c k := by rw [besideS, besideS, h.i hc, h.i hk]
  rw [freeS, freeS, eb, h.i hc, h.i hk, h.2.2.1, h.fill]
  split
  · exact h.by hc hk
  · split
    · exact h
    · exact h.behind hc _
theorem cardAtN_cong {s t : Nat → Int32} {d pl : Int32} : ∀ n, (∀ j, j < n → s (21 + j) = t (21 + j) ∧ s (29 + j) = t (29 + j)) → cardAtN s d pl n = cardAtN t d pl n
  | 0, _ => rfl
  | n + 1, h => by rw [cardAtN, cardAtN, cardAtN_cong n (fun j hj => h j (by omega)), (h n (by omega)).1, (h n (by omega)).2]
theorem agr.cardAt {t r : Nat → Int32} {n : Nat} (h : agr t r n) (d pl : Int32) : cardAtN t d pl n = cardAtN r d pl n := cardAtN_cong n (fun j hj => ⟨h.i hj, h.p hj⟩)
theorem agr.blank {t r : Nat → Int32} {n c : Nat} (h : agr t r n) (hC : Cat r n) (hc : c < n) : agr (blankS t n c) (blankS r n c) n := by
  have ek : kOf t n c = kOf r n c := by rw [kOf, kOf, h.cardAt, h.i hc, h.p hc]
  rw [blankS, blankS, ek, h.p hc]
  split
  · exact h
  · rename_i h0
    obtain ⟨-, hk, hkc, -, -⟩ := hC.kOf hc h0
    have g := h.upd (p := 29 + kOf r n c) (show t (29 + kOf r n c) + nI 1 = r (29 + kOf r n c) + nI 1 by rw [h.p hk])
    exact g.upd (by rw [g.p hc])
theorem agr.turn {t r : Nat → Int32} {n c k : Nat} (h : agr t r n) (hC : Cat r n) (hc : c < n) : agr (turnS t n c k) (turnS r n c k) n := by
  rw [turnS, turnS, h.s hc, h.1, h.2.2.1]
  split
  · exact h.blank hC hc
  · split
    · exact h
    · rename_i hh
      have hk : k < n := Nat.lt_of_not_le (fun w => hh (Or.inr (Or.inl w)))
      rw [h.i hc, h.i hk, h.fill]
      split
      · exact h.free hc hk
      · split
        · exact h
        · exact h.by hc hk
theorem agr.nightN {t r : Nat → Int32} {n : Nat} (h : agr t r n) (hC : Cat r n) (a : Int32) : ∀ i, i ≤ n → agr (nightN t n a i) (nightN r n a i) n
  | 0, _ => h
  | i + 1, hi => by
    have ih := h.nightN hC a i (by omega)
    rw [Jvm.Pilot.CDrawerCardsLaw_law_r8368_31570c.nightN, Jvm.Pilot.CDrawerCardsLaw_law_r8368_31570c.nightN]
    have el : lk (Jvm.Pilot.CDrawerCardsLaw_law_r8368_31570c.nightN t n a i) i = lk (Jvm.Pilot.CDrawerCardsLaw_law_r8368_31570c.nightN r n a i) i := by rw [lk, lk, ih.l (by omega)]
    rw [el]
    split
    · exact ih
    · exact ih.turn (hC.nightN a i (by omega)) (by omega)
theorem agr.night {t r : Nat → Int32} {n : Nat} (h : agr t r n) (hC : Cat r n) (a : Int32) : agr (nightS t n a) (nightS r n a) n := by
  have g := h.nightN hC a n (Nat.le_refl n)
  exact g.upd (by rw [g.1])
theorem Cat.agr {t r : Nat → Int32} {n : Nat} (hC : Cat r n) (h : agr t r n) : Cat t n := by
  obtain ⟨h3, hn, hL, hT, i, q, h1, hP⟩ := hC
  refine ⟨by rw [h.2.2.2.1]; exact h3, hn, fun k hk => ?_, fun k hk => ?_, i, q, fun k hk => ?_, hP⟩
  · rw [h.l hk]; exact hL k hk
  · rw [h.s hk]; exact hT k hk
  · rw [h.i hk, h.p hk]; exact h1 k hk
/-- the night's number, as a number -/
def NB (t : Nat → Int32) (b : Nat) : Prop := ∃ k, k ≤ b ∧ t 0 = nI k
theorem st_behind (t : Nat → Int32) {n : Nat} (hn : n ≤ 8) (c : Nat) (d : Int32) : stS t n c d (-1000000) = behindS t n c d := by
  rw [stS, if_neg (fun z => by have := z.1; exact this (by decide)), behindS]
theorem st_by {t : Nat → Int32} {n c k : Nat} (hn : n ≤ 8) (hk : k < n) (hkc : k ≠ c) : stS t n c (t (21 + k)) (nI k) = byS t n c k := by
  rw [stS, if_pos ((isCx (by omega) (by omega)).mpr hk), byS, outS_in t n c k hkc (by omega), show cl (nI k) = k from nI_clamp (by omega)]
theorem drF_lt {t : Nat → Int32} {n c k : Nat} (hn : n ≤ 8) (e : t (13 + c) = nI k) (hk : k ≤ 7) : (drF t n c = -1000000 ↔ n ≤ k) ∧ (k < n → drF t n c = nI k) := by
  have q : isC n (nI k) ↔ k < n := isCx (by omega) (by omega)
  constructor
  · constructor
    · intro h
      rcases Nat.lt_or_ge k n with z | z
      · rw [drF, e, if_pos (q.mpr z)] at h
        exact absurd h (none_ne k (by omega))
      · exact z
    · intro h
      rw [drF, e, if_neg (fun z => by have := q.mp z; omega)]
  · intro h
    rw [drF, e, if_pos (q.mpr h)]
theorem wanF_turn {t : Nat → Int32} {n c k : Nat} (hC : Cat t n) (hc : c < n) (e : t (13 + c) = nI k) (hk : k ≤ 7) (hkc : k ≠ c) : wanF t n c = if n ≤ k then t else freeS t n c k := by
  have hn := hC.2.1
  obtain ⟨q1, q2⟩ := drF_lt hn e hk
  rw [wanF]
  by_cases h : n ≤ k
  · rw [if_pos (q1.mpr h), if_pos h]
  · rw [if_neg (fun z => h (q1.mp z)), if_neg h, q2 (by omega), show cl (nI k) = k from nI_clamp (by omega), freeS, goF]
    by_cases z : t (21 + k) = t (21 + c)
    · rw [if_pos z, if_pos z.symm, st_by hn (by omega) hkc]
    · have z' : ¬ t (21 + c) = t (21 + k) := fun w => z w.symm
      rw [if_neg z, if_neg z', st_behind t hn]
theorem wanW_turn {t : Nat → Int32} {n c k : Nat} (hC : Cat t n) (hc : c < n) (e : t (13 + c) = nI k) (hk : k ≤ 7) (hkc : k ≠ c) : wanW t n c = if n ≤ k then t else if t (21 + c) = t (21 + k) then freeS t n c k else if t 2 ≤ fillN t (t (21 + k)) n then t else byS t n c k := by
  have hn := hC.2.1
  obtain ⟨q1, q2⟩ := drF_lt hn e hk
  rw [wanW]
  by_cases h : n ≤ k
  · rw [if_pos (q1.mpr h), if_pos h]
  · rw [if_neg (fun z => h (q1.mp z)), if_neg h, q2 (by omega), show cl (nI k) = k from nI_clamp (by omega), freeS, goW]
    by_cases z : t (21 + k) = t (21 + c)
    · rw [if_pos z, if_pos z.symm, if_pos z.symm, st_by hn (by omega) hkc]
    · have z' : ¬ t (21 + c) = t (21 + k) := fun w => z w.symm
      rw [if_neg z, if_neg z', st_by hn (by omega) hkc]
theorem cdF_eq' {t : Nat → Int32} {d pl : Int32} : ∀ k i, (∀ a b, a < i + k → b < i + k → t (21 + a) = d → t (29 + a) = pl → t (21 + b) = d → t (29 + b) = pl → a = b) → (∀ a, a < i → ¬ (t (21 + a) = d ∧ t (29 + a) = pl)) → cdF t d pl k i = cardAtN t d pl (i + k)
  | 0, i, hu, h0 => by
    rw [cdF]
    have : ∀ m, m ≤ i → cardAtN t d pl m = -1000000 := by
      intro m
      induction m with
      | zero => intro _; rfl
      | succ m ih => intro hm; rw [cardAtN, if_neg (h0 m (by omega)), ih (by omega)]
    exact (this i (Nat.le_refl i)).symm
  | k + 1, i, hu, h0 => by
    rw [cdF]
    by_cases z : t (21 + i) = d ∧ t (29 + i) = pl
    · rw [if_pos z]
      have : ∀ m, m ≤ i + (k + 1) → cardAtN t d pl m = if i < m then nI i else -1000000 := cardAtN_of (n := i + (k + 1)) (by omega) z.1 z.2 (fun j hj e1 e2 => hu j i hj (by omega) e1 e2 z.1 z.2)
      rw [this _ (Nat.le_refl _), if_pos (by omega)]
    · rw [if_neg z, show i + (k + 1) = (i + 1) + k by omega]
      refine cdF_eq' k (i + 1) (fun a b ha hb => hu a b (by omega) (by omega)) (fun a ha => ?_)
      by_cases w : a = i
      · subst w; exact z
      · exact h0 a (by omega)
theorem Cat.uniq {t : Nat → Int32} {n : Nat} (hC : Cat t n) {a b : Nat} (ha : a < n) (hb : b < n) (h1 : t (21 + a) = t (21 + b)) (h2 : t (29 + a) = t (29 + b)) : a = b := by
  obtain ⟨h3, hn, hL, hT, i, q, h, hP⟩ := hC
  rw [(h a ha).1, (h b hb).1, nIe (by have := (h a ha).2.2; omega) (by have := (h b hb).2.2; omega)] at h1
  rw [(h a ha).2.1, (h b hb).2.1, nIe (by have := PP_lt hP ha; omega) (by have := PP_lt hP hb; omega)] at h2
  rcases Decidable.em (a = b) with w | w
  · exact w
  · exact absurd h2 (hP.2 a b ha hb w h1)
theorem Cat.cd {t : Nat → Int32} {n : Nat} (hC : Cat t n) (d pl : Int32) : cdF t d pl n 0 = cardAtN t d pl n := by
  have := cdF_eq' (t := t) (d := d) (pl := pl) n 0 (fun a b ha hb e1 e2 e3 e4 => hC.uniq (by omega) (by omega) (e1.trans e3.symm) (e2.trans e4.symm)) (fun a ha => absurd ha (by omega))
  rw [Nat.zero_add] at this
  exact this
