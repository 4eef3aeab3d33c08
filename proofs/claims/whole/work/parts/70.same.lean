/-! what the class foretells is what the reference foretells -/
theorem agr.cards {t r : Nat → Int32} {n : Nat} (h : agr t r n) (d : Int32) : ∀ i, i ≤ n → cardsN t d i = cardsN r d i
  | 0, _ => rfl
  | i + 1, hi => by rw [cardsN, cardsN, h.cards d i (by omega), h.i (by omega)]
theorem agr.fig {t r : Nat → Int32} {n : Nat} (h : agr t r n) : ∀ i, i ≤ n → figN t i = figN r i
  | 0, _ => rfl
  | i + 1, hi => by rw [figN, figN, h.fig i (by omega), h.i (by omega)]
theorem agr.asb {t r t' r' : Nat → Int32} {n : Nat} (h : agr t r n) (h' : agr t' r' n) : ∀ i, i ≤ n → asNb t t' i = asNb r r' i
  | 0, _ => rfl
  | i + 1, hi => by rw [asNb, asNb, h.asb h' i (by omega), h.i (by omega), h.p (by omega), h'.i (by omega), h'.p (by omega)]
theorem agr.mates {t r : Nat → Int32} {n : Nat} (h : agr t r n) : ∀ i, i ≤ n → matesN t n i = matesN r n i
  | 0, _ => rfl
  | i + 1, hi => by rw [matesN, matesN, h.mates i (by omega), h.cardAt, h.i (by omega), h.p (by omega), h.l (by omega)]
theorem mt_eq {t : Nat → Int32} {n : Nat} (hC : Cat t n) : ∀ i, i ≤ n → mtF t n i = matesN t n i
  | 0, _ => rfl
  | i + 1, hi => by
    have hn := hC.2.1
    obtain ⟨e, hk, hkc⟩ := hC.lk (c := i) (by omega)
    generalize lk t i = k at *
    obtain ⟨q1, q2⟩ := drF_lt hn e hk
    rw [mtF, matesN, mt_eq hC i (by omega), e]
    have key : (¬ drF t n i = -1000000 ∧ t (21 + cl (drF t n i)) = t (21 + i) ∧ t (29 + cl (drF t n i)) = t (29 + i) - nI 1) ↔ (¬ t (29 + i) ≤ 0 ∧ cardAtN t (t (21 + i)) (t (29 + i) - nI 1) n = nI k) := by
      constructor
      · rintro ⟨z1, z2, z3⟩
        have hkn : k < n := Nat.lt_of_not_le (fun w => z1 (q1.mpr w))
        rw [q2 hkn, show cl (nI k) = k from nI_clamp (by omega)] at z2 z3
        have hp : ¬ t (29 + i) ≤ 0 := by
          intro w
          obtain ⟨h3, _, hL, hT, j, q, h, hP⟩ := id hC
          have b1 := PP_lt hP hkn
          have b2 := PP_lt hP (show i < n by omega)
          rw [(h i (by omega)).2.1] at w z3
          rcases Nat.eq_zero_or_pos (q i) with e0 | e0
          · rw [e0, (h k hkn).2.1] at z3
            exact nI_m1 (d := q k) (by omega) z3.symm
          · exact nI_nle e0 (by omega) w
        refine ⟨hp, ?_⟩
        rw [cardAtN_of hkn z2 z3 (fun j hj e1 e2 => hC.uniq hj hkn (e1.trans z2.symm) (e2.trans z3.symm)) n (Nat.le_refl n), if_pos hkn]
      · rintro ⟨z1, z2⟩
        obtain ⟨e1, h1, h2, h3, h4⟩ := hC.kOf (c := i) (by omega) z1
        rw [e1, nIe (by omega) (by omega)] at z2
        rw [z2] at h1 h3 h4
        rw [q2 h1, show cl (nI k) = k from nI_clamp (by omega)]
        exact ⟨none_ne k (by omega), h3, h4⟩
    by_cases z : (¬ t (29 + i) ≤ 0 ∧ cardAtN t (t (21 + i)) (t (29 + i) - nI 1) n = nI k)
    · rw [if_pos (key.mpr z), if_pos z]
    · rw [if_neg (fun w => z (key.mp w)), if_neg z, i_o0]
theorem agr.mt {t r : Nat → Int32} {n : Nat} (h : agr t r n) (hC : Cat r n) : mtF t n n = matesN r n n := by
  rw [mt_eq (hC.agr h) n (Nat.le_refl n), h.mates n (Nat.le_refl n)]
theorem agr.cd {t r : Nat → Int32} {n : Nat} (h : agr t r n) (hC : Cat r n) (d pl : Int32) : cdF t d pl n 0 = cardAtN r d pl n := by
  rw [(hC.agr h).cd, h.cardAt]
theorem agr.fnd {t r : Nat → Int32} {n c b : Nat} (h : agr t r n) (hC : Cat r n) (hb : NB r b) (hc : c < n) (d : Int32) : ∀ f k, b + f + k < 50000 → fndF t n c d f k = foundN r n c d f k
  | 0, _, _ => rfl
  | f + 1, k, hk => by rw [fndF, foundN, h.fnd hC hb hc d f (k + 1) (by omega), (h.pns hC hb k (by omega)).1.i hc]
theorem agr.stl {t r : Nat → Int32} {n b : Nat} (h : agr t r n) (hC : Cat r n) (hb : NB r b) : ∀ f k, b + f + k < 50000 → stlF t n f k = stilN r n f k
  | 0, _, _ => rfl
  | f + 1, k, hk => by rw [stlF, stilN, h.stl hC hb f (k + 1) (by omega), (h.pns hC hb (k + 1) (by omega)).1.asb (h.pns hC hb k (by omega)).1 n (Nat.le_refl n)]
theorem agr.rou {t r : Nat → Int32} {n b : Nat} (h : agr t r n) (hC : Cat r n) (hb : NB r b) : ∀ f k, b + f + k < 50000 → rouF t n f k = rounN r n f k
  | 0, _, _ => rfl
  | f + 1, k, hk => by rw [rouF, rounN, h.rou hC hb f (k + 1) (by omega), (h.pns hC hb (k + 1) (by omega)).1.asb h n (Nat.le_refl n)]
theorem agr.rod {t r : Nat → Int32} {n : Nat} (h : agr t r n) (x : Int32) : ∀ o, o ≤ n → agr (rodN t x o) (rodN r x o) n
  | 0, _ => h
  | o + 1, ho => by
    have ih := h.rod x o (by omega)
    rw [rodN, rodN]
    exact ih.upd (by rw [ih.s (by omega)])
theorem NB.rod {r : Nat → Int32} {b n : Nat} (hb : NB r b) (hn : n ≤ 8) (x : Int32) : NB (rodN r x n) b := by
  obtain ⟨k, h1, h2⟩ := hb
  exact ⟨k, h1, by rw [rodN_gh r x n hn 0 (by omega)]; exact h2⟩
theorem agr.rods {t r : Nat → Int32} {n c b m : Nat} (h : agr t r n) (hC : Cat r n) (hb : NB r b) (hc : c < n) (d : Int32) (hm : b + m < 50000) : ∀ i, rodC t n c d m i = rodsN r n c d m i
  | 0 => rfl
  | i + 1 => by
    rw [rodC, rodsN, h.rods hC hb hc d hm i, ((h.rod (nI i) n (Nat.le_refl n)).pns (hC.rodN (nI i) n (Nat.le_refl n)) (hb.rod hC.2.1 _) m hm).1.i hc]
theorem odd_wg' : ∀ n, n < 9 → ∀ t, t < 11 → ∀ i, i < 2 ^ n → oddB i t n = wgN t n (bN i 8) := by decide +kernel
theorem agr.up {t r : Nat → Int32} {n c b w : Nat} (h : agr t r n) (hC : Cat r n) (hb : NB r b) (hb2 : b < 50000) (hc : c < n) (d : Int32) (hw : w ≤ 10) : ∀ i, i ≤ 2 ^ n → upC t n c d w i = upN r n c d w i
  | 0, _ => rfl
  | i + 1, hi => by
    have hn := hC.2.1
    have := pow2_le hn
    rw [upC, upN, h.up hC hb hb2 hc d hw i (by omega), (h.pn hC hb hb2 (x := i) (by omega)).1.i hc, odd_wg' n (by omega) w (by omega) i (by omega)]
theorem agr.dp {t r : Nat → Int32} {n c d : Nat} (h : agr t r n) (hn : n ≤ 8) (hc : c < n) : agr (dpC t n c d) (drPut r n c d) n := by
  rw [dpC, drPut, h.i hc, h.2.2.1, h.fill, st_behind t hn]
  split
  · exact h.behind hc _
  · exact h
theorem drPut_0 (r : Nat → Int32) (n c d : Nat) : drPut r n c d 0 = r 0 := by
  rw [drPut]; split
  · rw [behindS, inS_lo _ _ _ _ _ (by omega), outS_lo _ _ _ (by omega)]
  · rfl
theorem agr.dr {t r : Nat → Int32} {n b dr : Nat} (h : agr t r n) (hC : Cat r n) (hb : NB r b) (hn : 0 < n) (hd : 0 < dr) (hd6 : dr ≤ 6) (x : Nat) : ∀ k, b + k < 50000 → agr (drC t n dr x k) (drS r n dr x k) n ∧ Cat (drS r n dr x k) n ∧ NB (drS r n dr x k) (b + k)
  | 0, _ => ⟨h, hC, hb⟩
  | k + 1, hk => by
    obtain ⟨g1, g2, g3⟩ := h.dr hC hb hn hd hd6 x k (by omega)
    have hm := Nat.mod_lt (drX x (k + 1)) hn
    have hm2 := Nat.mod_lt (drX x (k + 1)) hd
    rw [drC, drS]
    have hb' : NB (drPut (drS r n dr x k) n (drX x (k + 1) % n) (drX x (k + 1) % dr)) (b + k) := by
      obtain ⟨j, h1, h2⟩ := g3
      exact ⟨j, h1, by rw [drPut_0]; exact h2⟩
    have q := (g1.dp (d := drX x (k + 1) % dr) hC.2.1 hm).pn (b := b + k) (g2.drPut hm (by omega)) hb' (by omega) (x := 0) (by decide)
    exact q
theorem agr.dm {t r : Nat → Int32} {n b dr : Nat} (h : agr t r n) (hC : Cat r n) (hb : NB r b) (hn : 0 < n) (hd : 0 < dr) (hd6 : dr ≤ 6) (x : Nat) : ∀ k, b + k < 50000 → dmC t n dr x k = drM r n dr x k
  | 0, _ => rfl
  | k + 1, hk => by
    obtain ⟨g1, g2, g3⟩ := h.dr hC hb hn hd hd6 x (k + 1) (by omega)
    rw [dmC, drM, h.dm hC hb hn hd hd6 x k (by omega), g1.mt g2]
theorem agr.so {t r : Nat → Int32} {n c b : Nat} (h : agr t r n) (hC : Cat r n) (hb : NB r b) (hc : c < n) (g : Nat → Int32) : ∀ m k, b + m + k < 50000 → soF t n c g m k = soB r n c g m k
  | 0, _, _ => rfl
  | m + 1, k, hk => by rw [soF, soB, h.so hC hb hc g m (k + 1) (by omega), (h.pns hC hb (k + 1) (by omega)).1.i hc]
