/-! the turn of a card by the class is the reference's -/
theorem wanB_turn {t : Nat → Int32} {n c : Nat} (hC : Cat t n) (hc : c < n) : wanB t n c = blankS t n c := by
  have hn := hC.2.1
  rw [wanB, blankS, hC.cd]
  by_cases h0 : t (29 + c) ≤ 0
  · rw [if_pos h0]
    have e : cardAtN t (t (21 + c)) (t (29 + c) - nI 1) n = -1000000 := by
      rw [← hC.cd]
      refine Decidable.byContradiction (fun z => ?_)
      obtain ⟨h3, _, hL, hT, i, q, h, hP⟩ := id hC
      have qc : q c = 0 := by
        rcases Nat.eq_zero_or_pos (q c) with e | e
        · exact e
        · rw [(h c hc).2.1] at h0; exact absurd h0 (nI_nle e (by have := PP_lt hP hc; omega))
      have key : ∀ k i, i + k ≤ n → cdF t (t (21 + c)) (t (29 + c) - nI 1) k i = -1000000 := by
        intro k
        induction k with
        | zero => intro i _; rfl
        | succ k ih =>
          intro i hi
          rw [cdF, if_neg, ih (i + 1) (by omega)]
          rintro ⟨-, w⟩
          rw [(h c hc).2.1, qc, (h i (by omega)).2.1] at w
          exact nI_m1 (d := q i) (by have := PP_lt hP (show i < n by omega); omega) w.symm
      exact z (key n 0 (by omega))
    rw [if_pos e]
  · obtain ⟨e1, hk, hkc, e2, e3⟩ := hC.kOf hc h0
    rw [if_neg h0, e1, if_neg (none_ne _ (by omega)), show cl (nI (kOf t n c)) = kOf t n c from nI_clamp (by omega)]
    generalize kOf t n c = k at *
    rw [cpS, pk_un (f := t) (show 29 + c ≠ 29 + k by omega), e3]
    funext j
    by_cases z1 : j = 29 + c
    · subst z1
      rw [pk_un (by omega), pk_us, pk_us]
    · by_cases z2 : j = 29 + k
      · subst z2
        rw [pk_us, pk_un z1, pk_us, Int32.sub_add_cancel]
      · rw [pk_un z2, pk_un z1, pk_un z1, pk_un z2]
theorem wanK_turn {t : Nat → Int32} {n c b : Nat} (hC : Cat t n) (hc : c < n) (hb : NB t b) (hb2 : b < 50000) : wanK t n c = turnS t n c (lk t c) := by
  obtain ⟨e, hk, hkc⟩ := hC.lk hc
  obtain ⟨s, s1, s5, es⟩ := hC.2.2.2.1 c hc
  obtain ⟨w, hw, ew⟩ := hb
  generalize lk t c = k at *
  rw [wanK, turnS, es, ew]
  rcases (show s = 1 ∨ s = 2 ∨ s = 3 ∨ s = 4 ∨ s = 5 by omega) with rfl | rfl | rfl | rfl | rfl
  · rw [if_pos rfl, if_neg (by decide), wanF_turn hC hc e hk hkc]
    by_cases h : n ≤ k
    · rw [if_pos h, if_pos (Or.inr (Or.inl h))]
    · rw [if_neg h, if_neg (by rintro (z | z | z); exact absurd z (by decide); exact h z; exact absurd z.1 (by decide)), if_pos (Or.inl (by decide))]
  · rw [if_neg (show ¬ nI 2 = nI 1 by decide), if_pos (show nI 2 = nI 2 from rfl), if_neg (show ¬ nI 2 = nI 5 by decide), wanF_turn hC hc e hk hkc, pk_rem (a := w) (d := 2) (by omega) (by decide) (by decide)]
    by_cases h2 : w % 2 = 0
    · rw [h2, if_pos (show nI 0 = 0 from rfl)]
      by_cases h : n ≤ k
      · rw [if_pos h, if_pos (Or.inr (Or.inl h))]
      · rw [if_neg h, if_neg (by rintro (z | z | z); exact absurd z (by decide); exact h z; exact absurd z.2 (by decide)), if_pos (Or.inl (by decide))]
    · have h3 : w % 2 = 1 := by omega
      rw [h3, if_neg (by decide), if_pos (Or.inr (Or.inr ⟨rfl, rfl⟩))]
  · rw [if_neg (by decide), if_neg (by decide), if_pos rfl, if_neg (by decide), wanW_turn hC hc e hk hkc]
    by_cases h : n ≤ k
    · rw [if_pos h, if_pos (Or.inr (Or.inl h))]
    · have hq : ¬ (nI 3 = nI 4 ∨ n ≤ k ∨ (nI 3 = nI 2 ∧ nI w - nI w / nI 2 * nI 2 = nI 1)) := by
        rintro (z | z | z)
        · exact absurd z (by decide)
        · exact h z
        · exact absurd z.1 (by decide)
      rw [if_neg h, if_neg hq]
      by_cases z : t (21 + c) = t (21 + k)
      · rw [if_pos z, if_pos (Or.inr z)]
      · have hz : ¬ (¬ nI 3 = nI 3 ∨ t (21 + c) = t (21 + k)) := fun y => y.elim (fun y => y rfl) z
        rw [if_neg z, if_neg hz]
  · rw [if_neg (by decide), if_neg (by decide), if_neg (by decide), if_pos rfl, if_neg (by decide), if_pos (Or.inl rfl)]
  · rw [if_neg (by decide), if_neg (by decide), if_neg (by decide), if_neg (by decide), if_pos rfl, wanB_turn hC hc]
theorem pn_eqN {t : Nat → Int32} {n x b : Nat} (hC : Cat t n) (hb : NB t b) (hb2 : b < 50000) (hx : x < 256) : ∀ i, i ≤ n → pnN t n (nI x) i = nightN t n (nI x) i
  | 0, _ => rfl
  | i + 1, hi => by
    have ih := pn_eqN hC hb hb2 hx i (by omega)
    have hn := hC.2.1
    have hC2 := hC.nightN (nI x) i (by omega)
    rw [pnN, nightN, ih]
    have hb' : NB (nightN t n (nI x) i) b := by
      obtain ⟨k, h1, h2⟩ := hb
      exact ⟨k, h1, by rw [← ih, pnN_lo _ _ _ (by omega)]; exact h2⟩
    rcases bit01' x hx i (by omega) with e | e
    · rw [if_pos e, if_neg (bit_n e), wanK_turn hC2 (by omega) hb' hb2]
    · rw [if_neg (by rw [e]; decide), if_pos e]
theorem pn_eq {t : Nat → Int32} {n x b : Nat} (hC : Cat t n) (hb : NB t b) (hb2 : b < 50000) (hx : x < 256) : pnS t n (nI x) = nightS t n (nI x) := by
  rw [pnS, nightS, pn_eqN hC hb hb2 hx n (Nat.le_refl n)]
theorem NB.night {t : Nat → Int32} {n b : Nat} (hb : NB t b) (a : Int32) : NB (pnS t n a) (b + 1) := by
  obtain ⟨k, h1, h2⟩ := hb
  exact ⟨k + 1, by omega, by rw [pnS, pk_us, pnN_lo _ _ _ (by omega), h2, nI_add]⟩
theorem NB.le {t : Nat → Int32} {b c : Nat} (hb : NB t b) (h : b ≤ c) : NB t c := by
  obtain ⟨k, h1, h2⟩ := hb; exact ⟨k, by omega, h2⟩
theorem NB.agr {t r : Nat → Int32} {n b : Nat} (hb : NB r b) (h : agr t r n) : NB t b := by
  obtain ⟨k, h1, h2⟩ := hb; exact ⟨k, h1, by rw [h.1]; exact h2⟩
/-- a night on both sides -/
theorem agr.pn {t r : Nat → Int32} {n x b : Nat} (h : agr t r n) (hC : Cat r n) (hb : NB r b) (hb2 : b < 50000) (hx : x < 256) : agr (pnS t n (nI x)) (nightS r n (nI x)) n ∧ Cat (nightS r n (nI x)) n ∧ NB (nightS r n (nI x)) (b + 1) := by
  have e := pn_eq (hC.agr h) (hb.agr h) hb2 hx
  have g := h.night hC (nI x)
  refine ⟨by rw [e]; exact g, hC.night _, ?_⟩
  have q := (hb.agr h).night (n := n) (nI x)
  obtain ⟨k, h1, h2⟩ := q
  rw [e, g.1] at h2
  exact ⟨k, h1, h2⟩
theorem agr.pns {t r : Nat → Int32} {n b : Nat} (h : agr t r n) (hC : Cat r n) (hb : NB r b) : ∀ k, b + k < 50000 → agr (pnsN t n k) (nightsS r n k) n ∧ Cat (nightsS r n k) n ∧ NB (nightsS r n k) (b + k)
  | 0, _ => ⟨h, hC, hb⟩
  | k + 1, hk => by
    obtain ⟨g1, g2, g3⟩ := h.pns hC hb k (by omega)
    have := g1.pn g2 g3 (by omega) (x := 0) (by decide)
    exact this
