/-! what fits, and tours: the class's answers are the reference's -/
theorem fi_n {s : Nat → Int32} {n c dr : Nat} {g : Nat → Int32} {m ww x : Nat} (h : ¬ fiOk c dr ww x) : fiN s n c dr g m ww (x + 1) = fiN s n c dr g m ww x := by
  rw [fiN, if_neg (fun z => h z.1)]
theorem fi_stay {s : Nat → Int32} {n c dr : Nat} {g : Nat → Int32} {m ww X : Nat} : ∀ k, (∀ x, X ≤ x → x < X + k → ¬ fiOk c dr ww x) → fiN s n c dr g m ww (X + k) = fiN s n c dr g m ww X
  | 0, _ => rfl
  | k + 1, h => by
    rw [← Nat.add_assoc, fi_n (h (X + k) (by omega) (by omega)), fi_stay k (fun x h1 h2 => h x h1 (by omega))]
theorem fi_go {s r : Nat → Int32} {n c dr : Nat} {g : Nat → Int32} {m ww lo N : Nat} (h0 : fiN s n c dr g m ww lo = nI 0) (h : ∀ i, i < N → (fiOk c dr ww (lo + i) ∧ soF (fiS s n c ww (lo + i)) n c g m 0 = true ↔ fitB r n c g m ww (lo + i) = true)) : ∀ i, i ≤ N → fiN s n c dr g m ww (lo + i) = fitN r n c g m ww lo i
  | 0, _ => h0
  | i + 1, hi => by
    have ih := fi_go h0 h i (by omega)
    rw [← Nat.add_assoc, fiN, fitN, ih]
    by_cases z : fitB r n c g m ww (lo + i) = true
    · rw [if_pos ((h i (by omega)).mpr z), if_pos z]
    · rw [if_neg (fun w => z ((h i (by omega)).mp w)), if_neg z, i_o0]
theorem NB.upd {r : Nat → Int32} {b p : Nat} {x : Int32} (hb : NB r b) (hp : p ≠ 0) : NB (upd r p x) b := by
  obtain ⟨k, h1, h2⟩ := hb
  exact ⟨k, h1, by rw [pk_un (by omega)]; exact h2⟩
theorem agr.fits {t r : Nat → Int32} {n c b dr m ww : Nat} (h : agr t r n) (hC : Cat r n) (hb : NB r b) (hb2 : b + m < 40000) (hc : c < n) (hd : dr ≤ 6) (g : Nat → Int32) (hw : ww ≤ 3) : fiN t n c dr g m ww 9 = fitN r n c g m ww (fitLo ww) (fitCt dr ww) := by
  have hn := hC.2.1
  rcases (show ww = 0 ∨ ww = 1 ∨ ww = 2 ∨ ww = 3 by omega) with rfl | rfl | rfl | rfl
  · show fiN t n c dr g m 0 (1 + 5 + 3) = fitN r n c g m 0 1 5
    rw [fi_stay 3 (fun x h1 h2 z => by unfold fiOk at z; omega)]
    refine fi_go (N := 5) (by rw [fiN, if_neg (fun z => by have := z.1; unfold fiOk at this; omega)]; rfl) (fun i hi => ?_) 5 (Nat.le_refl 5)
    have a := h.upd (p := 5 + c) (x := nI (1 + i)) rfl
    rw [fitB_0, ← a.so (hC.sort (by omega) (by omega) (by omega)) (hb.upd (by omega)) hc g m 0 (by omega)]
    exact ⟨fun z => z.2, fun z => ⟨by unfold fiOk; omega, z⟩⟩
  · show fiN t n c dr g m 1 (8 + 1) = fitN r n c g m 1 0 8
    rw [fi_stay 1 (fun x h1 h2 z => by unfold fiOk at z; omega)]
    have q := fi_go (s := t) (r := r) (n := n) (c := c) (dr := dr) (g := g) (m := m) (ww := 1) (lo := 0) (N := 8) rfl (fun i hi => ?_) 8 (Nat.le_refl 8)
    · rw [Nat.zero_add] at q; exact q
    · rw [Nat.zero_add]
      by_cases e : i = c
      · exact ⟨fun z => by have := z.1; unfold fiOk at this; omega, fun z => absurd z (fitB_1c e)⟩
      · have a := h.upd (p := 13 + c) (x := nI i) rfl
        rw [fitB_1 e, ← a.so (hC.like (by omega) (by omega) e) (hb.upd (by omega)) hc g m 0 (by omega)]
        exact ⟨fun z => z.2, fun z => ⟨by unfold fiOk; omega, z⟩⟩
  · show fiN t n c dr g m 2 (1 + 8) = fitN r n c g m 2 1 8
    refine fi_go (N := 8) (by rw [fiN, if_neg (fun z => by have := z.1; unfold fiOk at this; omega)]; rfl) (fun i hi => ?_) 8 (Nat.le_refl 8)
    have a := h.upd (p := 2) (x := nI (1 + i)) rfl
    rw [fitB_2, ← a.so (hC.hold _) (hb.upd (by omega)) hc g m 0 (by omega)]
    exact ⟨fun z => z.2, fun z => ⟨by unfold fiOk; omega, z⟩⟩
  · show fiN t n c dr g m 3 9 = fitN r n c g m 3 0 dr
    rw [show 9 = dr + (9 - dr) by omega, fi_stay (9 - dr) (fun x h1 h2 z => by unfold fiOk at z; omega)]
    have q := fi_go (s := t) (r := r) (n := n) (c := c) (dr := dr) (g := g) (m := m) (ww := 3) (lo := 0) (N := dr) rfl (fun i hi => ?_) dr (Nat.le_refl dr)
    · rw [Nat.zero_add] at q; exact q
    · rw [Nat.zero_add]
      have es : fiS t n c 3 i = if t (21 + c) = nI i then t else stS t n c (nI i) (-1000000) := by rw [fiS, if_neg (by decide), if_neg (by decide), if_neg (by decide)]
      rw [es, h.i hc]
      by_cases e : r (21 + c) = nI i
      · rw [if_pos e, fitB_3a e.symm, ← h.so hC hb hc g m 0 (by omega)]
        exact ⟨fun z => z.2, fun z => ⟨by unfold fiOk; omega, z⟩⟩
      · have a := h.behind hc (nI i)
        have hb' : NB (behindS r n c (nI i)) b := by
          obtain ⟨k, h1, h2⟩ := hb
          exact ⟨k, h1, by rw [behindS, inS_lo _ _ _ _ _ (by omega), outS_lo _ _ _ (by omega)]; exact h2⟩
        have eb : fitB r n c g m 3 i = soB (behindS r n c (nI i)) n c g m 0 := by
          simp [fitB, fitS, show ¬ nI i = r (21 + c) from fun z => e z.symm]
        rw [if_neg e, st_behind t hn, eb, ← a.so (hC.behind hc (by omega)) hb' hc g m 0 (by omega)]
        exact ⟨fun z => z.2, fun z => ⟨by unfold fiOk; omega, z⟩⟩
/-- how many codes below e are right ones -/
def rkF (dr : Nat) : Nat → Nat → Nat
  | 0, _ => 0
  | m + 1, e => if dr ≤ e / 6 ^ m then dr ^ (m + 1) else e / 6 ^ m * dr ^ m + rkF dr m (e % 6 ^ m)
def rkC (dr m e : Nat) : Bool := decide (rkF dr m (e + 1) = rkF dr m e + (if okB dr e m then 1 else 0)) && (!(okB dr e m) || (decide (rkF dr m e / dr ^ 0 % dr = dig6 e 0 ∨ m ≤ 0) && decide (rkF dr m e / dr ^ 1 % dr = dig6 e 1 ∨ m ≤ 1) && decide (rkF dr m e / dr ^ 2 % dr = dig6 e 2 ∨ m ≤ 2) && decide (rkF dr m e / dr ^ 3 % dr = dig6 e 3 ∨ m ≤ 3)))
theorem rk_1 : ∀ dr, dr < 7 → 0 < dr → ∀ e, e < 6 → rkC dr 1 e = true := by decide +kernel
theorem rk_2 : ∀ dr, dr < 7 → 0 < dr → ∀ e, e < 36 → rkC dr 2 e = true := by decide +kernel
theorem rk_3 : ∀ dr, dr < 7 → 0 < dr → ∀ e, e < 216 → rkC dr 3 e = true := by decide +kernel
theorem rk_4 : ∀ dr, dr < 7 → 0 < dr → ∀ a, a < 36 → ∀ b, b < 36 → rkC dr 4 (36 * a + b) = true := by decide +kernel
theorem rk_all {dr m e : Nat} (hd : 0 < dr) (hd6 : dr ≤ 6) (hm1 : 1 ≤ m) (hm : m ≤ 4) (he : e < 6 ^ m) : rkC dr m e = true := by
  rcases (show m = 1 ∨ m = 2 ∨ m = 3 ∨ m = 4 by omega) with rfl | rfl | rfl | rfl
  · exact rk_1 dr (by omega) hd e he
  · exact rk_2 dr (by omega) hd e he
  · exact rk_3 dr (by omega) hd e he
  · have := rk_4 dr (by omega) hd (e / 36) (by have : e < 1296 := he; omega) (e % 36) (Nat.mod_lt _ (by decide))
    rw [Nat.div_add_mod] at this; exact this
theorem rk_end : ∀ m, m < 5 → 0 < m → ∀ dr, dr < 7 → 0 < dr → rkF dr m (6 ^ m) = dr ^ m := by decide +kernel
theorem rkF_0 : ∀ m, m < 5 → ∀ dr, dr < 7 → 0 < dr → rkF dr m 0 = 0 := by decide +kernel
theorem rk_step {dr m e : Nat} (h : rkC dr m e = true) : rkF dr m (e + 1) = rkF dr m e + (if okB dr e m then 1 else 0) := by
  rw [rkC, Bool.and_eq_true] at h; exact of_decide_eq_true h.1
theorem rk_dig {dr m e j : Nat} (h : rkC dr m e = true) (ho : okB dr e m = true) (hj : j < m) (hm : m ≤ 4) : rkF dr m e / dr ^ j % dr = dig6 e j := by
  rw [rkC, Bool.and_eq_true, ho] at h
  have h2 := h.2
  simp only [Bool.not_true, Bool.false_or, Bool.and_eq_true, decide_eq_true_eq] at h2
  rcases (show j = 0 ∨ j = 1 ∨ j = 2 ∨ j = 3 by omega) with rfl | rfl | rfl | rfl
  · rcases h2.1.1.1 with z | z
    · exact z
    · omega
  · rcases h2.1.1.2 with z | z
    · exact z
    · omega
  · rcases h2.1.2 with z | z
    · exact z
    · omega
  · rcases h2.2 with z | z
    · exact z
    · omega
theorem okB_pre {dr e : Nat} : ∀ m, okB dr e m = true → ∀ j, j ≤ m → okB dr e j = true
  | 0, h, j, hj => by rw [show j = 0 by omega]; exact h
  | m + 1, h, j, hj => by
    by_cases z : j = m + 1
    · rw [z]; exact h
    · rw [okB, Bool.and_eq_true] at h
      exact okB_pre m h.1 j (by omega)
theorem okB_dig {dr e m j : Nat} (h : okB dr e m = true) (hj : j < m) : dig6 e j < dr := by
  have := okB_pre m h (j + 1) (by omega)
  rw [okB, Bool.and_eq_true] at this
  exact of_decide_eq_true this.2
theorem set_eq {sv : Nat → Nat → Int32} {F : Nat → Int32} {dr m e c : Nat} (hF : ∀ k d, k < m → d < dr → F (k * 6 + d) = sv k d) (ho : okB dr e m = true) (hc : ∀ j, j < m → c / dr ^ j % dr = dig6 e j) : ∀ j, j ≤ m → setN sv dr m e j = seC F dr m c j
  | 0, _ => rfl
  | j + 1, hj => by
    rw [setN, seC, set_eq hF ho hc j (by omega), if_pos (okB_pre m ho (j + 1) (by omega)), hc j (by omega), hF _ _ (by omega) (okB_dig ho (by omega))]
theorem fig_eq {dr e c m : Nat} (hc : ∀ j, j < m → c / dr ^ j % dr = dig6 e j) : ∀ j, j ≤ m → figT e j = tfC dr c j
  | 0, _ => rfl
  | j + 1, hj => by rw [figT, tfC, fig_eq hc j (by omega), hc j (by omega)]
theorem tour_go {sv : Nat → Nat → Int32} {F : Nat → Int32} {dr m : Nat} (hd : 0 < dr) (hd6 : dr ≤ 6) (hm1 : 1 ≤ m) (hm : m ≤ 4) (hF : ∀ k d, k < m → d < dr → F (k * 6 + d) = sv k d) : ∀ e, e ≤ 6 ^ m → tourN sv dr m e = ((tourC F dr m (rkF dr m e)).1, tfC dr (tourC F dr m (rkF dr m e)).2 m)
  | 0, _ => by
    rw [rkF_0 m (by omega) dr (by omega) hd, tourN, tourC]
    have : ∀ j, tfC dr 0 j = 0 := by
      intro j
      induction j with
      | zero => rfl
      | succ j ih => rw [tfC, ih, Nat.zero_div, Nat.zero_mod, Nat.zero_mul]
    rw [this m]
  | e + 1, he => by
    have ih := tour_go hd hd6 hm1 hm hF e (by omega)
    have hr := rk_all hd hd6 hm1 hm (show e < 6 ^ m by omega)
    rw [tourN, rk_step hr, ih]
    by_cases ho : okB dr e m = true
    · have hc : ∀ j, j < m → rkF dr m e / dr ^ j % dr = dig6 e j := fun j hj => rk_dig hr ho hj hm
      rw [if_pos (show (okB dr e m = true) from ho), tourC, set_eq hF ho hc m (Nat.le_refl m), fig_eq hc m (Nat.le_refl m)]
      by_cases z : bitsN (seC F dr m (rkF dr m e) m) 8 ≤ (tourC F dr m (rkF dr m e)).1
      · rw [if_neg (fun w => w.2 z), if_neg (fun w => w z)]
      · rw [if_pos ⟨ho, z⟩, if_pos z]
    · rw [if_neg (fun w => ho w.1), if_neg ho, Nat.add_zero]
theorem agr.tour {t r : Nat → Int32} {n b dr m : Nat} (h : agr t r n) (hC : Cat r n) (hb : NB r b) (hb2 : b + m < 50000) (hd : 0 < dr) (hd6 : dr ≤ 6) (hm1 : 1 ≤ m) (hm : m ≤ 4) (fs : Nat → Int32) : tourN (svO r n) dr m (6 ^ m) = ((tourC (lkO t n dr fs m) dr m (dr ^ m)).1, tfC dr (tourC (lkO t n dr fs m) dr m (dr ^ m)).2 m) := by
  have := tour_go (sv := svO r n) (F := lkO t n dr fs m) hd hd6 hm1 hm (fun k d hk hd => by
    rw [lkO_at t hd6 fs hd m hk, svO, (h.pns hC hb k (by omega)).1.cards _ n (Nat.le_refl n)]) (6 ^ m) (Nat.le_refl _)
  rw [rk_end m (by omega) (by omega) dr (by omega) hd] at this
  exact this
