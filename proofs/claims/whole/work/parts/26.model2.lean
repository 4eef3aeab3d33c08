set_option maxHeartbeats 4000000 in
set_option maxRecDepth 100000 in
theorem k_X12_lay00 (l : Launch) (D : va_G) (cy : Nat → ClassId) (sz : Nat) (g0 : Nat) (g1 : Nat) (fa : Nat → Int32) (fb : Nat → Int32)  : Met l yX12_lay wsX12_lay (rmD 0) (pPre D (TY cy) ([(g0, wInt (cy 0) 37 fa), (g1, wInt (cy 0) 37 fb)]) sz [.ref g0, .int (nI 0), .ref g1, .int (nI 0)]) (pV D (TY cy) ([(g0, wInt (cy 0) 37 fa), (g1, wInt (cy 0) 37 fb)]) sz (fun _ : Unit => [(g0, wInt (cy 0) 37 fa), (g1, wInt (cy 0) 37 fa)]) (fun (_ : Unit) => True)) 0 0 (va_A ([(g0, wInt (cy 0) 37 fa), (g1, wInt (cy 0) 37 fb)]) sz) := by
  refine ent_v (cc := cX12_lay) (maxL := 5) (by decide +kernel) rfl (Nat.le_of_ble_eq_true rfl) ?_
  intro p_ e_ s_ m_ args_ below_ meth_ c_ A_ Q_ ls B0 ret
  obtain ⟨CF, hA, hKN, hP, hD, hl⟩ := B0
  have hK := hKN.1
  obtain ⟨hx, hb, hml, hown, hts⟩ := id CF
  have hS : va_S A_ s_.heap s_.heap [] := va_S.rf
  have hl : lv_has ls 5 [(0, .ref g0), (1, .int (nI 0)), (2, .ref g1), (3, .int (nI 0))] := hl
  refine lv_iconst (v := nI 0) hx hb dX12_lay_0 (by decide) ?_
  refine lv_istore (lv' := [(4, .int (nI 0)), (0, .ref g0), (1, .int (nI 0)), (2, .ref g1), (3, .int (nI 0))]) hx hb dX12_lay_1 hl (by decide) rfl (fun ls hl => ?_)
  have lp3 : ∀ f_ : Nat, ∀ (k : Nat) (f2 : Nat → Int32), (37 - k) < f_ → (k ≤ 37) → (f2 = layN fa 0 fb 0 k) → ∀ (H : Heap) (locs : List Loc), va_P D vwCl ([(g0, wInt (cy 0) 37 fa), (g1, wInt (cy 0) 37 f2)]) H → va_D A_ ([(g0, wInt (cy 0) 37 fa), (g1, wInt (cy 0) 37 f2)]) → va_S A_ s_.heap H locs → ∀ ls : Array Slot, lv_has ls 5 [(0, .ref g0), (1, .int (nI 0)), (2, .ref g1), (3, .int (nI 0)), (4, .int (nI k))] → W p_ l e_ (rmD 0) s_ m_ args_ below_ meth_ c_ H locs 0 0 Q_ (F0 m_ 3 ls []) := by
    intro f_
    induction f_ with
    | zero => intro k f2 hm_; exact absurd hm_ (by omega)
    | succ f_ ih3 =>
      intro k f2 hm_ hk e2 H locs hP hD hS ls hl
      refine lv_iload hx hb dX12_lay_3 (lv_at hl 4 rfl) ?_
      refine lv_bipush (v := nI 37) hx hb dX12_lay_5 (by decide) ?_
      refine geN (tgt := 28) hx hb (by omega) (by decide) dX12_lay_7 (by decide) (fun c7 => ?_) (fun c7 => ?_)
      · exact ret () _ _ _ _ dX12_lay_28 trivial (P_ext hP 1 rfl (fun j hj => by rw [e2, show k = 37 by omega, layN_at]; simp [hj]) rfl) (D_ext hD (q := 1) rfl rfl) hS
      · refine lv_aload_n hx hb dX12_lay_10 rfl (lv_at hl 2 rfl) ?_
        refine lv_iload_n hx hb dX12_lay_11 rfl (lv_at hl 3 rfl) ?_
        refine lv_iload hx hb dX12_lay_12 (lv_at hl 4 rfl) ?_
        refine adN (k := k) hx hb (by omega) dX12_lay_14 ?_
        refine lv_aload_n hx hb dX12_lay_15 rfl (lv_at hl 0 rfl) ?_
        refine lv_iload_n hx hb dX12_lay_16 rfl (lv_at hl 1 rfl) ?_
        refine lv_iload hx hb dX12_lay_17 (lv_at hl 4 rfl) ?_
        refine adN (k := k) hx hb (by omega) dX12_lay_19 ?_
        refine ldN hx hb hK hP 0 rfl (j := k) (by omega) (by decide) dX12_lay_20 ?_
        refine stN (ws' := [(g0, wInt (cy 0) 37 fa), (g1, wInt (cy 0) 37 (upd f2 k (fa k)))]) hx hb hK hP hD hS 1 rfl (j := k) (by omega) (by decide) dX12_lay_21 rfl (fun H locs hP hD hS => ?_)
        refine lv_iinc (v := nI (k + 1)) (lv' := [(4, .int (nI (k + 1))), (0, .ref g0), (1, .int (nI 0)), (2, .ref g1), (3, .int (nI 0))]) hx hb dX12_lay_22 hl (k := 4) rfl (nI_1 _) (by decide) rfl (fun ls hl => ?_)
        refine lv_goto (tgt := 3) hx hb dX12_lay_25 (by decide) ?_
        exact ih3 (k + 1) (upd f2 k (fa k)) (by omega) (by omega) (by rw [e2, layN]; try simp only [Nat.zero_add]) _ _ hP hD hS ls (lv_sub hl [1, 2, 3, 4, 0] rfl)
  exact lp3 (37 - 0 + 1) 0 fb (by omega) (by omega) rfl _ _ hP hD hS ls (lv_sub hl [1, 2, 3, 4, 0] rfl)
set_option maxHeartbeats 4000000 in
set_option maxRecDepth 100000 in
theorem k_X12_layIn (l : Launch) (D : va_G) (cy : Nat → ClassId) (sz : Nat) (g0 : Nat) (g1 : Nat) (na : Nat) (fa : Nat → Int32) (fb : Nat → Int32) (fr : Nat) (hna : na < 2 ^ 31) (hfr : fr + 37 ≤ na) : Met l yX12_lay wsX12_lay (rmD 0) (pPre D (TY cy) ([(g0, wInt (cy 0) na fa), (g1, wInt (cy 0) 37 fb)]) sz [.ref g0, .int (nI fr), .ref g1, .int (nI 0)]) (pV D (TY cy) ([(g0, wInt (cy 0) na fa), (g1, wInt (cy 0) 37 fb)]) sz (fun _ : Unit => [(g0, wInt (cy 0) na fa), (g1, wInt (cy 0) 37 (fun j => fa (fr + j)))]) (fun (_ : Unit) => True)) 0 0 (va_A ([(g0, wInt (cy 0) na fa), (g1, wInt (cy 0) 37 fb)]) sz) := by
  refine ent_v (cc := cX12_lay) (maxL := 5) (by decide +kernel) rfl (Nat.le_of_ble_eq_true rfl) ?_
  intro p_ e_ s_ m_ args_ below_ meth_ c_ A_ Q_ ls B0 ret
  obtain ⟨CF, hA, hKN, hP, hD, hl⟩ := B0
  have hK := hKN.1
  obtain ⟨hx, hb, hml, hown, hts⟩ := id CF
  have hS : va_S A_ s_.heap s_.heap [] := va_S.rf
  have hl : lv_has ls 5 [(0, .ref g0), (1, .int (nI fr)), (2, .ref g1), (3, .int (nI 0))] := hl
  refine lv_iconst (v := nI 0) hx hb dX12_lay_0 (by decide) ?_
  refine lv_istore (lv' := [(4, .int (nI 0)), (0, .ref g0), (1, .int (nI fr)), (2, .ref g1), (3, .int (nI 0))]) hx hb dX12_lay_1 hl (by decide) rfl (fun ls hl => ?_)
  have lp3 : ∀ f_ : Nat, ∀ (k : Nat) (f2 : Nat → Int32), (37 - k) < f_ → (k ≤ 37) → (f2 = layN fa fr fb 0 k) → ∀ (H : Heap) (locs : List Loc), va_P D vwCl ([(g0, wInt (cy 0) na fa), (g1, wInt (cy 0) 37 f2)]) H → va_D A_ ([(g0, wInt (cy 0) na fa), (g1, wInt (cy 0) 37 f2)]) → va_S A_ s_.heap H locs → ∀ ls : Array Slot, lv_has ls 5 [(0, .ref g0), (1, .int (nI fr)), (2, .ref g1), (3, .int (nI 0)), (4, .int (nI k))] → W p_ l e_ (rmD 0) s_ m_ args_ below_ meth_ c_ H locs 0 0 Q_ (F0 m_ 3 ls []) := by
    intro f_
    induction f_ with
    | zero => intro k f2 hm_; exact absurd hm_ (by omega)
    | succ f_ ih3 =>
      intro k f2 hm_ hk e2 H locs hP hD hS ls hl
      refine lv_iload hx hb dX12_lay_3 (lv_at hl 4 rfl) ?_
      refine lv_bipush (v := nI 37) hx hb dX12_lay_5 (by decide) ?_
      refine geN (tgt := 28) hx hb (by omega) (by decide) dX12_lay_7 (by decide) (fun c7 => ?_) (fun c7 => ?_)
      · exact ret () _ _ _ _ dX12_lay_28 trivial (P_ext hP 1 rfl (fun j hj => by rw [e2, show k = 37 by omega, layN_at]; simp [hj]) rfl) (D_ext hD (q := 1) rfl rfl) hS
      · refine lv_aload_n hx hb dX12_lay_10 rfl (lv_at hl 2 rfl) ?_
        refine lv_iload_n hx hb dX12_lay_11 rfl (lv_at hl 3 rfl) ?_
        refine lv_iload hx hb dX12_lay_12 (lv_at hl 4 rfl) ?_
        refine adN (k := k) hx hb (by omega) dX12_lay_14 ?_
        refine lv_aload_n hx hb dX12_lay_15 rfl (lv_at hl 0 rfl) ?_
        refine lv_iload_n hx hb dX12_lay_16 rfl (lv_at hl 1 rfl) ?_
        refine lv_iload hx hb dX12_lay_17 (lv_at hl 4 rfl) ?_
        refine adN (k := fr + k) hx hb rfl dX12_lay_19 ?_
        refine ldN hx hb hK hP 0 rfl (j := fr + k) (by omega) (by omega) dX12_lay_20 ?_
        refine stN (ws' := [(g0, wInt (cy 0) na fa), (g1, wInt (cy 0) 37 (upd f2 k (fa (fr + k))))]) hx hb hK hP hD hS 1 rfl (j := k) (by omega) (by decide) dX12_lay_21 rfl (fun H locs hP hD hS => ?_)
        refine lv_iinc (v := nI (k + 1)) (lv' := [(4, .int (nI (k + 1))), (0, .ref g0), (1, .int (nI fr)), (2, .ref g1), (3, .int (nI 0))]) hx hb dX12_lay_22 hl (k := 4) rfl (nI_1 _) (by decide) rfl (fun ls hl => ?_)
        refine lv_goto (tgt := 3) hx hb dX12_lay_25 (by decide) ?_
        exact ih3 (k + 1) (upd f2 k (fa (fr + k))) (by omega) (by omega) (by rw [e2, layN]; try simp only [Nat.zero_add]) _ _ hP hD hS ls (lv_sub hl [1, 2, 3, 4, 0] rfl)
  exact lp3 (37 - 0 + 1) 0 fb (by omega) (by omega) rfl _ _ hP hD hS ls (lv_sub hl [1, 2, 3, 4, 0] rfl)
set_option maxHeartbeats 4000000 in
set_option maxRecDepth 100000 in
theorem k_X12_layOut (l : Launch) (D : va_G) (cy : Nat → ClassId) (sz : Nat) (g0 : Nat) (g1 : Nat) (nb : Nat) (fa : Nat → Int32) (fb : Nat → Int32) (to : Nat) (hnb : nb < 2 ^ 31) (hto : to + 37 ≤ nb) : Met l yX12_lay wsX12_lay (rmD 0) (pPre D (TY cy) ([(g0, wInt (cy 0) 37 fa), (g1, wInt (cy 0) nb fb)]) sz [.ref g0, .int (nI 0), .ref g1, .int (nI to)]) (pV D (TY cy) ([(g0, wInt (cy 0) 37 fa), (g1, wInt (cy 0) nb fb)]) sz (fun _ : Unit => [(g0, wInt (cy 0) 37 fa), (g1, wInt (cy 0) nb (putF fb to fa))]) (fun (_ : Unit) => True)) 0 0 (va_A ([(g0, wInt (cy 0) 37 fa), (g1, wInt (cy 0) nb fb)]) sz) := by
  refine ent_v (cc := cX12_lay) (maxL := 5) (by decide +kernel) rfl (Nat.le_of_ble_eq_true rfl) ?_
  intro p_ e_ s_ m_ args_ below_ meth_ c_ A_ Q_ ls B0 ret
  obtain ⟨CF, hA, hKN, hP, hD, hl⟩ := B0
  have hK := hKN.1
  obtain ⟨hx, hb, hml, hown, hts⟩ := id CF
  have hS : va_S A_ s_.heap s_.heap [] := va_S.rf
  have hl : lv_has ls 5 [(0, .ref g0), (1, .int (nI 0)), (2, .ref g1), (3, .int (nI to))] := hl
  refine lv_iconst (v := nI 0) hx hb dX12_lay_0 (by decide) ?_
  refine lv_istore (lv' := [(4, .int (nI 0)), (0, .ref g0), (1, .int (nI 0)), (2, .ref g1), (3, .int (nI to))]) hx hb dX12_lay_1 hl (by decide) rfl (fun ls hl => ?_)
  have lp3 : ∀ f_ : Nat, ∀ (k : Nat) (f2 : Nat → Int32), (37 - k) < f_ → (k ≤ 37) → (f2 = layN fa 0 fb to k) → ∀ (H : Heap) (locs : List Loc), va_P D vwCl ([(g0, wInt (cy 0) 37 fa), (g1, wInt (cy 0) nb f2)]) H → va_D A_ ([(g0, wInt (cy 0) 37 fa), (g1, wInt (cy 0) nb f2)]) → va_S A_ s_.heap H locs → ∀ ls : Array Slot, lv_has ls 5 [(0, .ref g0), (1, .int (nI 0)), (2, .ref g1), (3, .int (nI to)), (4, .int (nI k))] → W p_ l e_ (rmD 0) s_ m_ args_ below_ meth_ c_ H locs 0 0 Q_ (F0 m_ 3 ls []) := by
    intro f_
    induction f_ with
    | zero => intro k f2 hm_; exact absurd hm_ (by omega)
    | succ f_ ih3 =>
      intro k f2 hm_ hk e2 H locs hP hD hS ls hl
      refine lv_iload hx hb dX12_lay_3 (lv_at hl 4 rfl) ?_
      refine lv_bipush (v := nI 37) hx hb dX12_lay_5 (by decide) ?_
      refine geN (tgt := 28) hx hb (by omega) (by decide) dX12_lay_7 (by decide) (fun c7 => ?_) (fun c7 => ?_)
      · exact ret () _ _ _ _ dX12_lay_28 trivial (P_ext hP 1 rfl (fun j hj => by rw [e2, show k = 37 by omega, layN_at, putF]; simp) rfl) (D_ext hD (q := 1) rfl rfl) hS
      · refine lv_aload_n hx hb dX12_lay_10 rfl (lv_at hl 2 rfl) ?_
        refine lv_iload_n hx hb dX12_lay_11 rfl (lv_at hl 3 rfl) ?_
        refine lv_iload hx hb dX12_lay_12 (lv_at hl 4 rfl) ?_
        refine adN (k := to + k) hx hb rfl dX12_lay_14 ?_
        refine lv_aload_n hx hb dX12_lay_15 rfl (lv_at hl 0 rfl) ?_
        refine lv_iload_n hx hb dX12_lay_16 rfl (lv_at hl 1 rfl) ?_
        refine lv_iload hx hb dX12_lay_17 (lv_at hl 4 rfl) ?_
        refine adN (k := k) hx hb (by omega) dX12_lay_19 ?_
        refine ldN hx hb hK hP 0 rfl (j := k) (by omega) (by decide) dX12_lay_20 ?_
        refine stN (ws' := [(g0, wInt (cy 0) 37 fa), (g1, wInt (cy 0) nb (upd f2 (to + k) (fa k)))]) hx hb hK hP hD hS 1 rfl (j := to + k) (by omega) (by omega) dX12_lay_21 rfl (fun H locs hP hD hS => ?_)
        refine lv_iinc (v := nI (k + 1)) (lv' := [(4, .int (nI (k + 1))), (0, .ref g0), (1, .int (nI 0)), (2, .ref g1), (3, .int (nI to))]) hx hb dX12_lay_22 hl (k := 4) rfl (nI_1 _) (by decide) rfl (fun ls hl => ?_)
        refine lv_goto (tgt := 3) hx hb dX12_lay_25 (by decide) ?_
        exact ih3 (k + 1) (upd f2 (to + k) (fa k)) (by omega) (by omega) (by rw [e2, layN]; try simp only [Nat.zero_add]) _ _ hP hD hS ls (lv_sub hl [1, 2, 3, 4, 0] rfl)
  exact lp3 (37 - 0 + 1) 0 fb (by omega) (by omega) rfl _ _ hP hD hS ls (lv_sub hl [1, 2, 3, 4, 0] rfl)
set_option maxHeartbeats 4000000 in
set_option maxRecDepth 100000 in
theorem k_X12_isThere (l : Launch) (D : va_G) (cy : Nat → ClassId) (sz : Nat) (h : Nat) (r : Nat → Nat) (v : Nat → Int32) (A : Nat → Nat → Int32)  : Met l yX12_isThere wsX12_isThere (rmD 0) (pPre D (TY cy) (mW cy h r v A) sz [.ref h]) (pI D (TY cy) (mW cy h r v A) sz (fun _ : Unit => mW cy h r v A) (fun (r_ : Int32) (_ : Unit) => r_ = bI (A 12 4 = nI 1))) 0 0 (va_A (mW cy h r v A) sz) := by
  refine ent_z (cc := cX12_isThere) (maxL := 1) (by decide +kernel) rfl (Nat.le_of_ble_eq_true rfl) ?_
  intro p_ e_ s_ m_ args_ below_ meth_ c_ A_ Q_ ls B0 ret
  obtain ⟨CF, hA, hKN, hP, hD, hl⟩ := B0
  have hK := hKN.1
  obtain ⟨hx, hb, hml, hown, hts⟩ := id CF
  have hS : va_S A_ s_.heap s_.heap [] := va_S.rf
  have hl : lv_has ls 1 [(0, .ref h)] := hl
  have hf22 := hts (.fieldLink RX12 22 "DrawerCardsModel" "now" "[I") (by decide +kernel)
  have hinX12 := show ∀ w ∈ u_ws RX12 TX12 24, w ∈ wsX12_isThere from by decide +kernel
  refine lv_aload_n hx hb dX12_isThere_0 rfl (lv_at hl 0 rfl) ?_
  refine va_get (ci := 11) (v := .ref (r 12)) (C := RX12) (T := TX12) (N := 24) hx hb hts hinX12 hown hK hP 0 rfl rfl 12 (by decide) hf22 (fun _ h9 => h9) rfl dX12_isThere_1 ?_
  refine lv_iconst (v := nI 4) hx hb dX12_isThere_4 (by decide) ?_
  refine ldN hx hb hK hP 5 rfl (j := 4) (by omega) (by decide) dX12_isThere_5 ?_
  refine lv_iconst (v := nI 1) hx hb dX12_isThere_6 (by decide) ?_
  refine lv_icmp_ne (tgt := 14) hx hb dX12_isThere_7 (by decide) (fun c7 => ?_) (fun c7 => ?_)
  · refine lv_iconst (v := nI 0) hx hb dX12_isThere_14 (by decide) ?_
    exact ret _ () _ _ _ _ dX12_isThere_15 rfl (by first | (rw [bI_t c7]; rfl) | (rw [bI_f c7]; rfl)) hP hD hS
  · refine lv_iconst (v := nI 1) hx hb dX12_isThere_10 (by decide) ?_
    refine lv_goto (tgt := 15) hx hb dX12_isThere_11 (by decide) ?_
    exact ret _ () _ _ _ _ dX12_isThere_15 rfl (by first | (rw [bI_t c7]; rfl) | (rw [bI_f c7]; rfl)) hP hD hS
set_option maxHeartbeats 4000000 in
set_option maxRecDepth 100000 in
theorem k_X12_isOne (l : Launch) (D : va_G) (cy : Nat → ClassId) (sz : Nat) (h : Nat) (r : Nat → Nat) (v : Nat → Int32) (A : Nat → Nat → Int32) (c0 : Int32)  : Met l yX12_isOne wsX12_isOne (rmD 1) (pPre D (TY cy) (mW cy h r v A) sz [.ref h, .int c0]) (pI D (TY cy) (mW cy h r v A) sz (fun _ : Unit => mW cy h r v A) (fun (r_ : Int32) (_ : Unit) => r_ = bI (nI 0 ≤ c0 ∧ c0 ≤ A 12 3 - nI 1))) 0 0 (va_A (mW cy h r v A) sz) := by
  refine ent_z (cc := cX12_isOne) (maxL := 2) (by decide +kernel) rfl (Nat.le_of_ble_eq_true rfl) ?_
  intro p_ e_ s_ m_ args_ below_ meth_ c_ A_ Q_ ls B0 ret
  obtain ⟨CF, hA, hKN, hP, hD, hl⟩ := B0
  have hK := hKN.1
  obtain ⟨hx, hb, hml, hown, hts⟩ := id CF
  have hS : va_S A_ s_.heap s_.heap [] := va_S.rf
  have hl : lv_has ls 2 [(0, .ref h), (1, .int c0)] := hl
  have hf22 := hts (.fieldLink RX12 22 "DrawerCardsModel" "now" "[I") (by decide +kernel)
  have hinX12 := show ∀ w ∈ u_ws RX12 TX12 24, w ∈ wsX12_isOne from by decide +kernel
  refine lv_iload_n hx hb dX12_isOne_0 rfl (lv_at hl 1 rfl) ?_
  refine lv_iconst (v := nI 0) hx hb dX12_isOne_1 (by decide) ?_
  refine lv_aload_n hx hb dX12_isOne_2 rfl (lv_at hl 0 rfl) ?_
  refine va_get (ci := 11) (v := .ref (r 12)) (C := RX12) (T := TX12) (N := 24) hx hb hts hinX12 hown hK hP 0 rfl rfl 12 (by decide) hf22 (fun _ h9 => h9) rfl dX12_isOne_3 ?_
  refine lv_iconst (v := nI 3) hx hb dX12_isOne_6 (by decide) ?_
  refine ldN hx hb hK hP 5 rfl (j := 3) (by omega) (by decide) dX12_isOne_7 ?_
  refine lv_iconst (v := nI 1) hx hb dX12_isOne_8 (by decide) ?_
  refine lv_isub hx hb dX12_isOne_9 ?_
  refine call_i (wr := [(h, .inr (11, mO r v)), ((r 0), wInt (cy 0) 8 (A 0)), ((r 1), wInt (cy 0) 8 (A 1)), ((r 2), wInt (cy 0) 320 (A 2)), ((r 5), wInt (cy 0) 60 (A 5)), ((r 12), wInt (cy 0) 37 (A 12)), ((r 13), wInt (cy 0) 37 (A 13)), ((r 14), wInt (cy 0) 37 (A 14)), ((r 15), wInt (cy 0) 37 (A 15)), ((r 16), wInt (cy 0) 74 (A 16)), ((r 17), wInt (cy 1) 2 (A 17)), ((r 18), wInt (cy 0) 888 (A 18)), ((r 20), wInt (cy 0) 16 (A 20)), ((r 22), wInt (cy 0) 16 (A 22)), ((r 23), wInt (cy 0) 24 (A 23))]) (ws' := (fun _ : Unit => mW cy h r v A)) (va_runS (As := [.int c0, .int (nI 0), .int ((A 12) 3 - nI 1)]) (rest := []) CF (k_X12_in l D cy _ c0 (nI 0) ((A 12) 3 - nI 1) ) (va_cwS 3 hts gX12_isOne_X12_in rfl rfl rfl (by decide +kernel) ⟨Nat.le_of_ble_eq_true rfl, Nat.le_of_ble_eq_true rfl⟩) (pre_S hKN hP hD [] rfl (by decide)) rfl rfl hl.1 rfl (lv_room (Nat.le_of_ble_eq_true rfl)) dX12_isOne_10 ⟨Nat.le_of_ble_eq_true rfl, Nat.le_of_ble_eq_true rfl⟩) hS hA hP hD [] [0, 1, 2, 3, 4, 5, 6, 7, 8, 9, 10, 11, 12, 13, 14] [0, 1, 2, 3, 4, 5, 6, 7, 8, 9, 10, 11, 12, 13, 14] rfl rfl (by decide) (by decide) (fun _ => rfl) (by decide) (fun r2 u1 H locs hw3 hP hD hS => ?_)
  replace hw3 := hw3.symm; subst hw3
  exact ret _ () _ _ _ _ dX12_isOne_13 bI_nar rfl hP hD hS
set_option maxHeartbeats 4000000 in
set_option maxRecDepth 100000 in
theorem k_X12_isDrawer (l : Launch) (D : va_G) (cy : Nat → ClassId) (sz : Nat) (h : Nat) (r : Nat → Nat) (v : Nat → Int32) (A : Nat → Nat → Int32) (d0 : Int32)  : Met l yX12_isDrawer wsX12_isDrawer (rmD 1) (pPre D (TY cy) (mW cy h r v A) sz [.ref h, .int d0]) (pI D (TY cy) (mW cy h r v A) sz (fun _ : Unit => mW cy h r v A) (fun (r_ : Int32) (_ : Unit) => r_ = bI (nI 0 ≤ d0 ∧ d0 ≤ A 12 1 - nI 1))) 0 0 (va_A (mW cy h r v A) sz) := by
  refine ent_z (cc := cX12_isDrawer) (maxL := 2) (by decide +kernel) rfl (Nat.le_of_ble_eq_true rfl) ?_
  intro p_ e_ s_ m_ args_ below_ meth_ c_ A_ Q_ ls B0 ret
  obtain ⟨CF, hA, hKN, hP, hD, hl⟩ := B0
  have hK := hKN.1
  obtain ⟨hx, hb, hml, hown, hts⟩ := id CF
  have hS : va_S A_ s_.heap s_.heap [] := va_S.rf
  have hl : lv_has ls 2 [(0, .ref h), (1, .int d0)] := hl
  have hf22 := hts (.fieldLink RX12 22 "DrawerCardsModel" "now" "[I") (by decide +kernel)
  have hinX12 := show ∀ w ∈ u_ws RX12 TX12 24, w ∈ wsX12_isDrawer from by decide +kernel
  refine lv_iload_n hx hb dX12_isDrawer_0 rfl (lv_at hl 1 rfl) ?_
  refine lv_iconst (v := nI 0) hx hb dX12_isDrawer_1 (by decide) ?_
  refine lv_aload_n hx hb dX12_isDrawer_2 rfl (lv_at hl 0 rfl) ?_
  refine va_get (ci := 11) (v := .ref (r 12)) (C := RX12) (T := TX12) (N := 24) hx hb hts hinX12 hown hK hP 0 rfl rfl 12 (by decide) hf22 (fun _ h9 => h9) rfl dX12_isDrawer_3 ?_
  refine lv_iconst (v := nI 1) hx hb dX12_isDrawer_6 (by decide) ?_
  refine ldN hx hb hK hP 5 rfl (j := 1) (by omega) (by decide) dX12_isDrawer_7 ?_
  refine lv_iconst (v := nI 1) hx hb dX12_isDrawer_8 (by decide) ?_
  refine lv_isub hx hb dX12_isDrawer_9 ?_
  refine call_i (wr := [(h, .inr (11, mO r v)), ((r 0), wInt (cy 0) 8 (A 0)), ((r 1), wInt (cy 0) 8 (A 1)), ((r 2), wInt (cy 0) 320 (A 2)), ((r 5), wInt (cy 0) 60 (A 5)), ((r 12), wInt (cy 0) 37 (A 12)), ((r 13), wInt (cy 0) 37 (A 13)), ((r 14), wInt (cy 0) 37 (A 14)), ((r 15), wInt (cy 0) 37 (A 15)), ((r 16), wInt (cy 0) 74 (A 16)), ((r 17), wInt (cy 1) 2 (A 17)), ((r 18), wInt (cy 0) 888 (A 18)), ((r 20), wInt (cy 0) 16 (A 20)), ((r 22), wInt (cy 0) 16 (A 22)), ((r 23), wInt (cy 0) 24 (A 23))]) (ws' := (fun _ : Unit => mW cy h r v A)) (va_runS (As := [.int d0, .int (nI 0), .int ((A 12) 1 - nI 1)]) (rest := []) CF (k_X12_in l D cy _ d0 (nI 0) ((A 12) 1 - nI 1) ) (va_cwS 3 hts gX12_isDrawer_X12_in rfl rfl rfl (by decide +kernel) ⟨Nat.le_of_ble_eq_true rfl, Nat.le_of_ble_eq_true rfl⟩) (pre_S hKN hP hD [] rfl (by decide)) rfl rfl hl.1 rfl (lv_room (Nat.le_of_ble_eq_true rfl)) dX12_isDrawer_10 ⟨Nat.le_of_ble_eq_true rfl, Nat.le_of_ble_eq_true rfl⟩) hS hA hP hD [] [0, 1, 2, 3, 4, 5, 6, 7, 8, 9, 10, 11, 12, 13, 14] [0, 1, 2, 3, 4, 5, 6, 7, 8, 9, 10, 11, 12, 13, 14] rfl rfl (by decide) (by decide) (fun _ => rfl) (by decide) (fun r2 u1 H locs hw3 hP hD hS => ?_)
  replace hw3 := hw3.symm; subst hw3
  exact ret _ () _ _ _ _ dX12_isDrawer_13 bI_nar rfl hP hD hS
set_option maxHeartbeats 4000000 in
set_option maxRecDepth 100000 in
theorem k_X12_finds (l : Launch) (D : va_G) (cy : Nat → ClassId) (sz : Nat) (h : Nat) (r : Nat → Nat) (v : Nat → Int32) (A : Nat → Nat → Int32) (w : Int32)  : Met l yX12_finds wsX12_finds (rmD 0) (pPre D (TY cy) (mW cy h r v A) sz [.ref h, .int w]) (pI D (TY cy) (mW cy h r v A) sz (fun _ : Unit => mW cy h r (upd v 3 w) A) (fun (r_ : Int32) (_ : Unit) => r_ = ((-1000010) - w))) 0 0 (va_A (mW cy h r v A) sz) := by
  refine ent_i (cc := cX12_finds) (maxL := 2) (by decide +kernel) rfl (Nat.le_of_ble_eq_true rfl) ?_
  intro p_ e_ s_ m_ args_ below_ meth_ c_ A_ Q_ ls B0 ret
  obtain ⟨CF, hA, hKN, hP, hD, hl⟩ := B0
  have hK := hKN.1
  obtain ⟨hx, hb, hml, hown, hts⟩ := id CF
  have hS : va_S A_ s_.heap s_.heap [] := va_S.rf
  have hl : lv_has ls 2 [(0, .ref h), (1, .int w)] := hl
  have hf57 := hts (.fieldLink RX12 57 "DrawerCardsModel" "status" "I") (by decide +kernel)
  have hinX12 := show ∀ w ∈ u_ws RX12 TX12 24, w ∈ wsX12_finds from by decide +kernel
  have hc61 := hts (.constant RX12 61 (-1000010)) (by decide +kernel)
  refine lv_aload_n hx hb dX12_finds_0 rfl (lv_at hl 0 rfl) ?_
  refine lv_iload_n hx hb dX12_finds_1 rfl (lv_at hl 1 rfl) ?_
  refine va_put (ci := 11) (v := .int w) (ty := .int) (C := RX12) (T := TX12) (N := 24) hx hb hts hinX12 tyX12 tyX12_ok nmX12 hown hK hP hD hS 0 rfl rfl 3 (by decide) hf57 (fun _ h9 => h9) rfl (by decide +kernel) rfl rfl (Nat.le_of_ble_eq_true rfl) dX12_finds_2 (fun H locs hP hD hS => ?_)
  have hP : va_P D vwCl (mW cy h r (upd v 3 w) A) H := hP
  have hD : va_D A_ (mW cy h r (upd v 3 w) A) := hD
  refine lv_ldc hx hb hown hc61 dX12_finds_5 ?_
  refine lv_iload_n hx hb dX12_finds_7 rfl (lv_at hl 1 rfl) ?_
  refine lv_isub hx hb dX12_finds_8 ?_
  exact ret _ () _ _ _ _ dX12_finds_9 rfl hP hD hS
set_option maxHeartbeats 4000000 in
set_option maxRecDepth 100000 in
theorem k_X12_done (l : Launch) (D : va_G) (cy : Nat → ClassId) (sz : Nat) (h : Nat) (r : Nat → Nat) (v : Nat → Int32) (A : Nat → Nat → Int32) (w : Int32)  : Met l yX12_done wsX12_done (rmD 0) (pPre D (TY cy) (mW cy h r v A) sz [.ref h, .int w]) (pI D (TY cy) (mW cy h r v A) sz (fun _ : Unit => mW cy h r (upd v 3 (nI 0)) A) (fun (r_ : Int32) (_ : Unit) => r_ = w)) 0 0 (va_A (mW cy h r v A) sz) := by
  refine ent_i (cc := cX12_done) (maxL := 2) (by decide +kernel) rfl (Nat.le_of_ble_eq_true rfl) ?_
  intro p_ e_ s_ m_ args_ below_ meth_ c_ A_ Q_ ls B0 ret
  obtain ⟨CF, hA, hKN, hP, hD, hl⟩ := B0
  have hK := hKN.1
  obtain ⟨hx, hb, hml, hown, hts⟩ := id CF
  have hS : va_S A_ s_.heap s_.heap [] := va_S.rf
  have hl : lv_has ls 2 [(0, .ref h), (1, .int w)] := hl
  have hf57 := hts (.fieldLink RX12 57 "DrawerCardsModel" "status" "I") (by decide +kernel)
  have hinX12 := show ∀ w ∈ u_ws RX12 TX12 24, w ∈ wsX12_done from by decide +kernel
  refine lv_aload_n hx hb dX12_done_0 rfl (lv_at hl 0 rfl) ?_
  refine lv_iconst (v := nI 0) hx hb dX12_done_1 (by decide) ?_
  refine va_put (ci := 11) (v := .int (nI 0)) (ty := .int) (C := RX12) (T := TX12) (N := 24) hx hb hts hinX12 tyX12 tyX12_ok nmX12 hown hK hP hD hS 0 rfl rfl 3 (by decide) hf57 (fun _ h9 => h9) rfl (by decide +kernel) rfl rfl (Nat.le_of_ble_eq_true rfl) dX12_done_2 (fun H locs hP hD hS => ?_)
  have hP : va_P D vwCl (mW cy h r (upd v 3 (nI 0)) A) H := hP
  have hD : va_D A_ (mW cy h r (upd v 3 (nI 0)) A) := hD
  refine lv_iload_n hx hb dX12_done_5 rfl (lv_at hl 1 rfl) ?_
  exact ret _ () _ _ _ _ dX12_done_6 rfl hP hD hS
set_option maxHeartbeats 4000000 in
set_option maxRecDepth 100000 in
theorem k_X12_row (l : Launch) (D : va_G) (cy : Nat → ClassId) (sz : Nat) (h : Nat) (r : Nat → Nat) (v : Nat → Int32) (A : Nat → Nat → Int32) (x : Int32) (l0 : Int32) (n0 : Int32)  : Met l yX12_row wsX12_row (rmD 2) (pPre D (TY cy) (mW cy h r v A) sz [.ref h, .int x, .int l0, .int n0]) (pI D (TY cy) (mW cy h r v A) sz (fun u : (Nat → Int32) × (Nat → Nat → Int32) => mW cy h r u.1 u.2) (fun (r_ : Int32) (u : (Nat → Int32) × (Nat → Nat → Int32)) => r_ = ((mRow v A x l0 n0).1) ∧ u = ((mRow v A x l0 n0).2.1, (mRow v A x l0 n0).2.2))) 0 0 (va_A (mW cy h r v A) sz) := by
  refine ent_i (cc := cX12_row) (maxL := 5) (by decide +kernel) rfl (Nat.le_of_ble_eq_true rfl) ?_
  intro p_ e_ s_ m_ args_ below_ meth_ c_ A_ Q_ ls B0 ret
  obtain ⟨CF, hA, hKN, hP, hD, hl⟩ := B0
  have hK := hKN.1
  obtain ⟨hx, hb, hml, hown, hts⟩ := id CF
  have hS : va_S A_ s_.heap s_.heap [] := va_S.rf
  have hl : lv_has ls 5 [(0, .ref h), (1, .int x), (2, .int l0), (3, .int n0)] := hl
  have hc66 := hts (.constant RX12 66 (-1000001)) (by decide +kernel)
  have hf7 := hts (.fieldLink RX12 7 "DrawerCardsModel" "lane" "[I") (by decide +kernel)
  have hinX12 := show ∀ w ∈ u_ws RX12 TX12 24, w ∈ wsX12_row from by decide +kernel
  have hf13 := hts (.fieldLink RX12 13 "DrawerCardsModel" "size" "[I") (by decide +kernel)
  have hf16 := hts (.fieldLink RX12 16 "DrawerCardsModel" "items" "[I") (by decide +kernel)
  refine lv_iload_n hx hb dX12_row_0 rfl (lv_at hl 1 rfl) ?_
  refine call_i (wr := [(h, .inr (11, mO r v)), ((r 0), wInt (cy 0) 8 (A 0)), ((r 1), wInt (cy 0) 8 (A 1)), ((r 2), wInt (cy 0) 320 (A 2)), ((r 5), wInt (cy 0) 60 (A 5)), ((r 12), wInt (cy 0) 37 (A 12)), ((r 13), wInt (cy 0) 37 (A 13)), ((r 14), wInt (cy 0) 37 (A 14)), ((r 15), wInt (cy 0) 37 (A 15)), ((r 16), wInt (cy 0) 74 (A 16)), ((r 17), wInt (cy 1) 2 (A 17)), ((r 18), wInt (cy 0) 888 (A 18)), ((r 20), wInt (cy 0) 16 (A 20)), ((r 22), wInt (cy 0) 16 (A 22)), ((r 23), wInt (cy 0) 24 (A 23))]) (ws' := (fun _ : Unit => mW cy h r v A)) (va_runS (As := [.int x]) (rest := []) CF (k_X12_isRow l D cy _ x ) (va_cwS 1 hts gX12_row_X12_isRow rfl rfl rfl (by decide +kernel) ⟨Nat.le_of_ble_eq_true rfl, Nat.le_of_ble_eq_true rfl⟩) (pre_S hKN hP hD [] rfl (by decide)) rfl rfl hl.1 rfl (lv_room (Nat.le_of_ble_eq_true rfl)) dX12_row_1 ⟨Nat.le_of_ble_eq_true rfl, Nat.le_of_ble_eq_true rfl⟩) hS hA hP hD [] [0, 1, 2, 3, 4, 5, 6, 7, 8, 9, 10, 11, 12, 13, 14] [0, 1, 2, 3, 4, 5, 6, 7, 8, 9, 10, 11, 12, 13, 14] rfl rfl (by decide) (by decide) (fun _ => rfl) (by decide) (fun r2 u1 H locs hw3 hP hD hS => ?_)
  replace hw3 := hw3.symm; subst hw3
  refine ifeqB (tgt := 22) hx hb dX12_row_4 (by decide) (fun c4 => ?_) (fun c4 => ?_)
  · refine lv_ldc hx hb hown hc66 dX12_row_22 ?_
    exact ret _ (v, A) _ _ _ _ dX12_row_24 (by simp [mRow, c4]) hP hD hS
  · obtain ⟨k, h_k, rfl⟩ := rng (m := 7) (by decide) c4
    have e_k : (nI k).toNatClampNeg = k := nI_clamp (by omega)
    refine lv_iload_n hx hb dX12_row_7 rfl (lv_at hl 2 rfl) ?_
    refine lv_iconst (v := nI 0) hx hb dX12_row_8 (by decide) ?_
    refine lv_iconst (v := nI 2) hx hb dX12_row_9 (by decide) ?_
    refine call_i (wr := [(h, .inr (11, mO r v)), ((r 0), wInt (cy 0) 8 (A 0)), ((r 1), wInt (cy 0) 8 (A 1)), ((r 2), wInt (cy 0) 320 (A 2)), ((r 5), wInt (cy 0) 60 (A 5)), ((r 12), wInt (cy 0) 37 (A 12)), ((r 13), wInt (cy 0) 37 (A 13)), ((r 14), wInt (cy 0) 37 (A 14)), ((r 15), wInt (cy 0) 37 (A 15)), ((r 16), wInt (cy 0) 74 (A 16)), ((r 17), wInt (cy 1) 2 (A 17)), ((r 18), wInt (cy 0) 888 (A 18)), ((r 20), wInt (cy 0) 16 (A 20)), ((r 22), wInt (cy 0) 16 (A 22)), ((r 23), wInt (cy 0) 24 (A 23))]) (ws' := (fun _ : Unit => mW cy h r v A)) (va_runS (As := [.int l0, .int (nI 0), .int (nI 2)]) (rest := []) CF (k_X12_in l D cy _ l0 (nI 0) (nI 2) ) (va_cwS 3 hts gX12_row_X12_in rfl rfl rfl (by decide +kernel) ⟨Nat.le_of_ble_eq_true rfl, Nat.le_of_ble_eq_true rfl⟩) (pre_S hKN hP hD [] rfl (by decide)) rfl rfl hl.1 rfl (lv_room (Nat.le_of_ble_eq_true rfl)) dX12_row_10 ⟨Nat.le_of_ble_eq_true rfl, Nat.le_of_ble_eq_true rfl⟩) hS hA hP hD [] [0, 1, 2, 3, 4, 5, 6, 7, 8, 9, 10, 11, 12, 13, 14] [0, 1, 2, 3, 4, 5, 6, 7, 8, 9, 10, 11, 12, 13, 14] rfl rfl (by decide) (by decide) (fun _ => rfl) (by decide) (fun r5 u4 H locs hw6 hP hD hS => ?_)
    replace hw6 := hw6.symm; subst hw6
    refine ifeqB (tgt := 22) hx hb dX12_row_13 (by decide) (fun c13 => ?_) (fun c13 => ?_)
    · refine lv_ldc hx hb hown hc66 dX12_row_22 ?_
      exact ret _ (v, A) _ _ _ _ dX12_row_24 (by simp [mRow, c4, e_k, c13]) hP hD hS
    · refine lv_iload_n hx hb dX12_row_16 rfl (lv_at hl 3 rfl) ?_
      refine lv_bipush (v := nI 40) hx hb dX12_row_17 (by decide) ?_
      refine lv_icmp_le (tgt := 25) hx hb dX12_row_19 (by decide) (fun c19 => ?_) (fun c19 => ?_)
      · refine lv_iload_n hx hb dX12_row_25 rfl (lv_at hl 3 rfl) ?_
        refine lv_if_ge (tgt := 35) hx hb dX12_row_26 (by decide) (fun c26 => ?_) (fun c26 => ?_)
        · refine lv_aload_n hx hb dX12_row_35 rfl (lv_at hl 0 rfl) ?_
          refine va_get (ci := 11) (v := .ref (r 0)) (C := RX12) (T := TX12) (N := 24) hx hb hts hinX12 hown hK hP 0 rfl rfl 0 (by decide) hf7 (fun _ h9 => h9) rfl dX12_row_36 ?_
          refine lv_iload_n hx hb dX12_row_39 rfl (lv_at hl 1 rfl) ?_
          refine lv_iload_n hx hb dX12_row_40 rfl (lv_at hl 2 rfl) ?_
          refine stN (ws' := mW cy h r v (va_up A 0 (upd (A 0) k l0))) hx hb hK hP hD hS 1 rfl (j := k) (by omega) (by decide) dX12_row_41 rfl (fun H locs hP hD hS => ?_)
          refine lv_aload_n hx hb dX12_row_42 rfl (lv_at hl 0 rfl) ?_
          refine va_get (ci := 11) (v := .ref (r 1)) (C := RX12) (T := TX12) (N := 24) hx hb hts hinX12 hown hK hP 0 rfl rfl 1 (by decide) hf13 (fun _ h9 => h9) rfl dX12_row_43 ?_
          refine lv_iload_n hx hb dX12_row_46 rfl (lv_at hl 1 rfl) ?_
          refine lv_iload_n hx hb dX12_row_47 rfl (lv_at hl 3 rfl) ?_
          refine stN (ws' := mW cy h r v (va_up (va_up A 0 (upd (A 0) k l0)) 1 (upd (A 1) k n0))) hx hb hK hP hD hS 2 rfl (j := k) (by omega) (by decide) dX12_row_48 rfl (fun H locs hP hD hS => ?_)
          refine lv_iconst (v := nI 0) hx hb dX12_row_49 (by decide) ?_
          refine lv_istore (lv' := [(4, .int (nI 0)), (0, .ref h), (1, .int (nI k)), (2, .int l0), (3, .int n0)]) hx hb dX12_row_50 hl (by decide) rfl (fun ls hl => ?_)
          have lp52 : ∀ f_ : Nat, ∀ (i : Nat) (f2 : Nat → Int32), (40 - i) < f_ → (i ≤ 40) → (f2 = zero40 (A 2) k i) → ∀ (H : Heap) (locs : List Loc), va_P D vwCl (mW cy h r v (va_up (va_up (va_up A 0 (upd (A 0) k l0)) 1 (upd (A 1) k n0)) 2 f2)) H → va_D A_ (mW cy h r v (va_up (va_up (va_up A 0 (upd (A 0) k l0)) 1 (upd (A 1) k n0)) 2 f2)) → va_S A_ s_.heap H locs → ∀ ls : Array Slot, lv_has ls 5 [(0, .ref h), (1, .int (nI k)), (2, .int l0), (3, .int n0), (4, .int (nI i))] → W p_ l e_ (rmD 2) s_ m_ args_ below_ meth_ c_ H locs 0 0 Q_ (F0 m_ 52 ls []) := by
            intro f_
            induction f_ with
            | zero => intro i f2 hm_; exact absurd hm_ (by omega)
            | succ f_ ih52 =>
              intro i f2 hm_ hi e2 H locs hP hD hS ls hl
              refine lv_iload hx hb dX12_row_52 (lv_at hl 4 rfl) ?_
              refine lv_bipush (v := nI 40) hx hb dX12_row_54 (by decide) ?_
              refine geN (tgt := 78) hx hb (by omega) (by decide) dX12_row_56 (by decide) (fun c56 => ?_) (fun c56 => ?_)
              · refine lv_aload_n hx hb dX12_row_78 rfl (lv_at hl 0 rfl) ?_
                refine lv_iload_n hx hb dX12_row_79 rfl (lv_at hl 3 rfl) ?_
                refine call_i (wr := []) (ws' := (fun _ : Unit => mW cy h r (upd v 3 (nI 0)) (va_up (va_up (va_up A 0 (upd (A 0) k l0)) 1 (upd (A 1) k n0)) 2 f2))) (va_runV (As := [.int n0]) (rest := []) CF (k_X12_done l D cy _ h r v (va_up (va_up (va_up A 0 (upd (A 0) k l0)) 1 (upd (A 1) k n0)) 2 f2) n0 ) (cwV 1 hts gX12_row_X12_done rfl rfl rfl (by decide +kernel) ⟨Nat.le_of_ble_eq_true rfl, Nat.le_of_ble_eq_true rfl⟩) (pre_V hKN hP hD [0, 1, 2, 3, 4, 5, 6, 7, 8, 9, 10, 11, 12, 13, 14] rfl (by decide) 0 11 rfl rfl) rfl rfl hl.1 rfl (lv_room (Nat.le_of_ble_eq_true rfl)) dX12_row_80 ⟨Nat.le_of_ble_eq_true rfl, Nat.le_of_ble_eq_true rfl⟩) hS hA hP hD [0, 1, 2, 3, 4, 5, 6, 7, 8, 9, 10, 11, 12, 13, 14] [] [0, 1, 2, 3, 4, 5, 6, 7, 8, 9, 10, 11, 12, 13, 14] rfl rfl (by decide) (by decide) (fun _ => rfl) (by decide) (fun r8 u7 H locs hw9 hP hD hS => ?_)
                replace hw9 := hw9.symm; subst hw9
                exact ret _ ((upd v 3 (nI 0)), (va_up (va_up (va_up A 0 (upd (A 0) k l0)) 1 (upd (A 1) k n0)) 2 f2)) _ _ _ _ dX12_row_83 (by rw [e2, show i = 40 by omega]; simp [mRow, c4, e_k, c13, c19, c26, c56, Nat.not_lt_of_le c56]) hP hD hS
              · refine lv_aload_n hx hb dX12_row_59 rfl (lv_at hl 0 rfl) ?_
                refine va_get (ci := 11) (v := .ref (r 2)) (C := RX12) (T := TX12) (N := 24) hx hb hts hinX12 hown hK hP 0 rfl rfl 2 (by decide) hf16 (fun _ h9 => h9) rfl dX12_row_60 ?_
                refine lv_bipush (v := nI 40) hx hb dX12_row_63 (by decide) ?_
                refine lv_iload_n hx hb dX12_row_65 rfl (lv_at hl 1 rfl) ?_
                refine muN (k := 40 * k) hx hb rfl dX12_row_66 ?_
                refine lv_iload hx hb dX12_row_67 (lv_at hl 4 rfl) ?_
                refine adN (k := 40 * k + i) hx hb rfl dX12_row_69 ?_
                refine lv_iconst (v := nI 0) hx hb dX12_row_70 (by decide) ?_
                refine stN (ws' := mW cy h r v (va_up (va_up (va_up A 0 (upd (A 0) k l0)) 1 (upd (A 1) k n0)) 2 (upd f2 (40 * k + i) (nI 0)))) hx hb hK hP hD hS 3 rfl (j := 40 * k + i) (by omega) (by decide) dX12_row_71 rfl (fun H locs hP hD hS => ?_)
                refine lv_iinc (v := nI (i + 1)) (lv' := [(4, .int (nI (i + 1))), (0, .ref h), (1, .int (nI k)), (2, .int l0), (3, .int n0)]) hx hb dX12_row_72 hl (k := 4) rfl (nI_1 _) (by decide) rfl (fun ls hl => ?_)
                refine lv_goto (tgt := 52) hx hb dX12_row_75 (by decide) ?_
                exact ih52 (i + 1) (upd f2 (40 * k + i) (nI 0)) (by omega) (by omega) (by rw [e2]; rfl) _ _ hP hD hS ls (lv_sub hl [1, 2, 3, 4, 0] rfl)
          exact lp52 (40 - 0 + 1) 0 (A 2) (by omega) (by omega) rfl _ _ hP hD hS ls (lv_sub hl [1, 2, 3, 4, 0] rfl)
        · refine lv_aload_n hx hb dX12_row_29 rfl (lv_at hl 0 rfl) ?_
          refine lv_iconst (v := nI 4) hx hb dX12_row_30 (by decide) ?_
          refine call_i (wr := []) (ws' := (fun _ : Unit => mW cy h r (upd v 3 (nI 4)) A)) (va_runV (As := [.int (nI 4)]) (rest := []) CF (k_X12_finds l D cy _ h r v A (nI 4) ) (cwV 1 hts gX12_row_X12_finds rfl rfl rfl (by decide +kernel) ⟨Nat.le_of_ble_eq_true rfl, Nat.le_of_ble_eq_true rfl⟩) (pre_V hKN hP hD [0, 1, 2, 3, 4, 5, 6, 7, 8, 9, 10, 11, 12, 13, 14] rfl (by decide) 0 11 rfl rfl) rfl rfl hl.1 rfl (lv_room (Nat.le_of_ble_eq_true rfl)) dX12_row_31 ⟨Nat.le_of_ble_eq_true rfl, Nat.le_of_ble_eq_true rfl⟩) hS hA hP hD [0, 1, 2, 3, 4, 5, 6, 7, 8, 9, 10, 11, 12, 13, 14] [] [0, 1, 2, 3, 4, 5, 6, 7, 8, 9, 10, 11, 12, 13, 14] rfl rfl (by decide) (by decide) (fun _ => rfl) (by decide) (fun r11 u10 H locs hw12 hP hD hS => ?_)
          replace hw12 := hw12.symm; subst hw12
          exact ret _ ((upd v 3 (nI 4)), A) _ _ _ _ dX12_row_34 (by simp [mRow, c4, e_k, c13, c19, c26]) hP hD hS
      · refine lv_ldc hx hb hown hc66 dX12_row_22 ?_
        exact ret _ (v, A) _ _ _ _ dX12_row_24 (by simp [mRow, c4, e_k, c13, c19]) hP hD hS
set_option maxHeartbeats 4000000 in
set_option maxRecDepth 100000 in
theorem k_X12_set (l : Launch) (D : va_G) (cy : Nat → ClassId) (sz : Nat) (h : Nat) (r : Nat → Nat) (v : Nat → Int32) (A : Nat → Nat → Int32) (x : Int32) (i0 : Int32) (w0 : Int32) (hsz : ∀ k, k < 8 → ∃ z, z ≤ 40 ∧ A 1 k = nI z) : Met l yX12_set wsX12_set (rmD 2) (pPre D (TY cy) (mW cy h r v A) sz [.ref h, .int x, .int i0, .int w0]) (pI D (TY cy) (mW cy h r v A) sz (fun u : (Nat → Int32) × (Nat → Nat → Int32) => mW cy h r u.1 u.2) (fun (r_ : Int32) (u : (Nat → Int32) × (Nat → Nat → Int32)) => r_ = ((mSet v A x i0 w0).1) ∧ u = ((mSet v A x i0 w0).2.1, (mSet v A x i0 w0).2.2))) 0 0 (va_A (mW cy h r v A) sz) := by
  refine ent_i (cc := cX12_set) (maxL := 4) (by decide +kernel) rfl (Nat.le_of_ble_eq_true rfl) ?_
  intro p_ e_ s_ m_ args_ below_ meth_ c_ A_ Q_ ls B0 ret
  obtain ⟨CF, hA, hKN, hP, hD, hl⟩ := B0
  have hK := hKN.1
  obtain ⟨hx, hb, hml, hown, hts⟩ := id CF
  have hS : va_S A_ s_.heap s_.heap [] := va_S.rf
  have hl : lv_has ls 4 [(0, .ref h), (1, .int x), (2, .int i0), (3, .int w0)] := hl
  have hf7 := hts (.fieldLink RX12 7 "DrawerCardsModel" "lane" "[I") (by decide +kernel)
  have hinX12 := show ∀ w ∈ u_ws RX12 TX12 24, w ∈ wsX12_set from by decide +kernel
  have hf13 := hts (.fieldLink RX12 13 "DrawerCardsModel" "size" "[I") (by decide +kernel)
  have hf16 := hts (.fieldLink RX12 16 "DrawerCardsModel" "items" "[I") (by decide +kernel)
  have hc66 := hts (.constant RX12 66 (-1000001)) (by decide +kernel)
  refine lv_iload_n hx hb dX12_set_0 rfl (lv_at hl 1 rfl) ?_
  refine call_i (wr := [(h, .inr (11, mO r v)), ((r 0), wInt (cy 0) 8 (A 0)), ((r 1), wInt (cy 0) 8 (A 1)), ((r 2), wInt (cy 0) 320 (A 2)), ((r 5), wInt (cy 0) 60 (A 5)), ((r 12), wInt (cy 0) 37 (A 12)), ((r 13), wInt (cy 0) 37 (A 13)), ((r 14), wInt (cy 0) 37 (A 14)), ((r 15), wInt (cy 0) 37 (A 15)), ((r 16), wInt (cy 0) 74 (A 16)), ((r 17), wInt (cy 1) 2 (A 17)), ((r 18), wInt (cy 0) 888 (A 18)), ((r 20), wInt (cy 0) 16 (A 20)), ((r 22), wInt (cy 0) 16 (A 22)), ((r 23), wInt (cy 0) 24 (A 23))]) (ws' := (fun _ : Unit => mW cy h r v A)) (va_runS (As := [.int x]) (rest := []) CF (k_X12_isRow l D cy _ x ) (va_cwS 1 hts gX12_set_X12_isRow rfl rfl rfl (by decide +kernel) ⟨Nat.le_of_ble_eq_true rfl, Nat.le_of_ble_eq_true rfl⟩) (pre_S hKN hP hD [] rfl (by decide)) rfl rfl hl.1 rfl (lv_room (Nat.le_of_ble_eq_true rfl)) dX12_set_1 ⟨Nat.le_of_ble_eq_true rfl, Nat.le_of_ble_eq_true rfl⟩) hS hA hP hD [] [0, 1, 2, 3, 4, 5, 6, 7, 8, 9, 10, 11, 12, 13, 14] [0, 1, 2, 3, 4, 5, 6, 7, 8, 9, 10, 11, 12, 13, 14] rfl rfl (by decide) (by decide) (fun _ => rfl) (by decide) (fun r2 u1 H locs hw3 hP hD hS => ?_)
  replace hw3 := hw3.symm; subst hw3
  refine ifneB (tgt := 10) hx hb dX12_set_4 (by decide) (fun c4 => ?_) (fun c4 => ?_)
  · obtain ⟨k, h_k, rfl⟩ := rng (m := 7) (by decide) c4
    have e_k : (nI k).toNatClampNeg = k := nI_clamp (by omega)
    refine lv_aload_n hx hb dX12_set_10 rfl (lv_at hl 0 rfl) ?_
    refine va_get (ci := 11) (v := .ref (r 0)) (C := RX12) (T := TX12) (N := 24) hx hb hts hinX12 hown hK hP 0 rfl rfl 0 (by decide) hf7 (fun _ h9 => h9) rfl dX12_set_11 ?_
    refine lv_iload_n hx hb dX12_set_14 rfl (lv_at hl 1 rfl) ?_
    refine ldN hx hb hK hP 1 rfl (j := k) (by omega) (by decide) dX12_set_15 ?_
    refine lv_if_ge (tgt := 25) hx hb dX12_set_16 (by decide) (fun c16 => ?_) (fun c16 => ?_)
    · obtain ⟨z, hz, ez⟩ := hsz k (by omega)
      refine lv_iload_n hx hb dX12_set_25 rfl (lv_at hl 2 rfl) ?_
      refine lv_iconst (v := nI 0) hx hb dX12_set_26 (by decide) ?_
      refine lv_aload_n hx hb dX12_set_27 rfl (lv_at hl 0 rfl) ?_
      refine va_get (ci := 11) (v := .ref (r 1)) (C := RX12) (T := TX12) (N := 24) hx hb hts hinX12 hown hK hP 0 rfl rfl 1 (by decide) hf13 (fun _ h9 => h9) rfl dX12_set_28 ?_
      refine lv_iload_n hx hb dX12_set_31 rfl (lv_at hl 1 rfl) ?_
      refine ldN hx hb hK hP 2 rfl (j := k) (by omega) (by decide) dX12_set_32 ?_
      refine lv_iconst (v := nI 1) hx hb dX12_set_33 (by decide) ?_
      refine lv_isub hx hb dX12_set_34 ?_
      refine call_i (wr := [(h, .inr (11, mO r v)), ((r 0), wInt (cy 0) 8 (A 0)), ((r 1), wInt (cy 0) 8 (A 1)), ((r 2), wInt (cy 0) 320 (A 2)), ((r 5), wInt (cy 0) 60 (A 5)), ((r 12), wInt (cy 0) 37 (A 12)), ((r 13), wInt (cy 0) 37 (A 13)), ((r 14), wInt (cy 0) 37 (A 14)), ((r 15), wInt (cy 0) 37 (A 15)), ((r 16), wInt (cy 0) 74 (A 16)), ((r 17), wInt (cy 1) 2 (A 17)), ((r 18), wInt (cy 0) 888 (A 18)), ((r 20), wInt (cy 0) 16 (A 20)), ((r 22), wInt (cy 0) 16 (A 22)), ((r 23), wInt (cy 0) 24 (A 23))]) (ws' := (fun _ : Unit => mW cy h r v A)) (va_runS (As := [.int i0, .int (nI 0), .int ((A 1) k - nI 1)]) (rest := []) CF (k_X12_in l D cy _ i0 (nI 0) ((A 1) k - nI 1) ) (va_cwS 3 hts gX12_set_X12_in rfl rfl rfl (by decide +kernel) ⟨Nat.le_of_ble_eq_true rfl, Nat.le_of_ble_eq_true rfl⟩) (pre_S hKN hP hD [] rfl (by decide)) rfl rfl hl.1 rfl (lv_room (Nat.le_of_ble_eq_true rfl)) dX12_set_35 ⟨Nat.le_of_ble_eq_true rfl, Nat.le_of_ble_eq_true rfl⟩) hS hA hP hD [] [0, 1, 2, 3, 4, 5, 6, 7, 8, 9, 10, 11, 12, 13, 14] [0, 1, 2, 3, 4, 5, 6, 7, 8, 9, 10, 11, 12, 13, 14] rfl rfl (by decide) (by decide) (fun _ => rfl) (by decide) (fun r5 u4 H locs hw6 hP hD hS => ?_)
      replace hw6 := hw6.symm; subst hw6
      refine ifneB (tgt := 47) hx hb dX12_set_38 (by decide) (fun c38 => ?_) (fun c38 => ?_)
      · obtain ⟨i, h_i, rfl⟩ := rng' (m := z) (by omega) (ez ▸ c38)
        have e_i : (nI i).toNatClampNeg = i := nI_clamp (by omega)
        refine lv_aload_n hx hb dX12_set_47 rfl (lv_at hl 0 rfl) ?_
        refine va_get (ci := 11) (v := .ref (r 2)) (C := RX12) (T := TX12) (N := 24) hx hb hts hinX12 hown hK hP 0 rfl rfl 2 (by decide) hf16 (fun _ h9 => h9) rfl dX12_set_48 ?_
        refine lv_bipush (v := nI 40) hx hb dX12_set_51 (by decide) ?_
        refine lv_iload_n hx hb dX12_set_53 rfl (lv_at hl 1 rfl) ?_
        refine muN (k := 40 * k) hx hb rfl dX12_set_54 ?_
        refine lv_iload_n hx hb dX12_set_55 rfl (lv_at hl 2 rfl) ?_
        refine adN (k := 40 * k + i) hx hb rfl dX12_set_56 ?_
        refine lv_aload_n hx hb dX12_set_57 rfl (lv_at hl 0 rfl) ?_
        refine va_get (ci := 11) (v := .ref (r 0)) (C := RX12) (T := TX12) (N := 24) hx hb hts hinX12 hown hK hP 0 rfl rfl 0 (by decide) hf7 (fun _ h9 => h9) rfl dX12_set_58 ?_
        refine lv_iload_n hx hb dX12_set_61 rfl (lv_at hl 1 rfl) ?_
        refine ldN hx hb hK hP 1 rfl (j := k) (by omega) (by decide) dX12_set_62 ?_
        refine lv_if_ne (tgt := 71) hx hb dX12_set_63 (by decide) (fun c63 => ?_) (fun c63 => ?_)
        · refine lv_aload_n hx hb dX12_set_71 rfl (lv_at hl 0 rfl) ?_
          refine va_get (ci := 11) (v := .ref (r 0)) (C := RX12) (T := TX12) (N := 24) hx hb hts hinX12 hown hK hP 0 rfl rfl 0 (by decide) hf7 (fun _ h9 => h9) rfl dX12_set_72 ?_
          refine lv_iload_n hx hb dX12_set_75 rfl (lv_at hl 1 rfl) ?_
          refine ldN hx hb hK hP 1 rfl (j := k) (by omega) (by decide) dX12_set_76 ?_
          refine lv_iconst (v := nI 1) hx hb dX12_set_77 (by decide) ?_
          refine lv_icmp_ne (tgt := 86) hx hb dX12_set_78 (by decide) (fun c78 => ?_) (fun c78 => ?_)
          · refine lv_iload_n hx hb dX12_set_86 rfl (lv_at hl 3 rfl) ?_
            refine stN (ws' := mW cy h r v (va_up A 2 (upd (A 2) (40 * k + i) w0))) hx hb hK hP hD hS 3 rfl (j := 40 * k + i) (by omega) (by decide) dX12_set_87 rfl (fun H locs hP hD hS => ?_)
            refine lv_aload_n hx hb dX12_set_88 rfl (lv_at hl 0 rfl) ?_
            refine lv_aload_n hx hb dX12_set_89 rfl (lv_at hl 0 rfl) ?_
            refine va_get (ci := 11) (v := .ref (r 2)) (C := RX12) (T := TX12) (N := 24) hx hb hts hinX12 hown hK hP 0 rfl rfl 2 (by decide) hf16 (fun _ h9 => h9) rfl dX12_set_90 ?_
            refine lv_bipush (v := nI 40) hx hb dX12_set_93 (by decide) ?_
            refine lv_iload_n hx hb dX12_set_95 rfl (lv_at hl 1 rfl) ?_
            refine muN (k := 40 * k) hx hb rfl dX12_set_96 ?_
            refine lv_iload_n hx hb dX12_set_97 rfl (lv_at hl 2 rfl) ?_
            refine adN (k := 40 * k + i) hx hb rfl dX12_set_98 ?_
            refine ldN hx hb hK hP 3 rfl (j := 40 * k + i) (by omega) (by decide) dX12_set_99 ?_
            refine call_i (wr := []) (ws' := (fun _ : Unit => mW cy h r (upd v 3 (nI 0)) (va_up A 2 (upd (A 2) (40 * k + i) w0)))) (va_runV (As := [.int ((upd (A 2) (40 * k + i) w0) (40 * k + i))]) (rest := []) CF (k_X12_done l D cy _ h r v (va_up A 2 (upd (A 2) (40 * k + i) w0)) ((upd (A 2) (40 * k + i) w0) (40 * k + i)) ) (cwV 1 hts gX12_set_X12_done rfl rfl rfl (by decide +kernel) ⟨Nat.le_of_ble_eq_true rfl, Nat.le_of_ble_eq_true rfl⟩) (pre_V hKN hP hD [0, 1, 2, 3, 4, 5, 6, 7, 8, 9, 10, 11, 12, 13, 14] rfl (by decide) 0 11 rfl rfl) rfl rfl hl.1 rfl (lv_room (Nat.le_of_ble_eq_true rfl)) dX12_set_100 ⟨Nat.le_of_ble_eq_true rfl, Nat.le_of_ble_eq_true rfl⟩) hS hA hP hD [0, 1, 2, 3, 4, 5, 6, 7, 8, 9, 10, 11, 12, 13, 14] [] [0, 1, 2, 3, 4, 5, 6, 7, 8, 9, 10, 11, 12, 13, 14] rfl rfl (by decide) (by decide) (fun _ => rfl) (by decide) (fun r8 u7 H locs hw9 hP hD hS => ?_)
            replace hw9 := hw9.symm; subst hw9
            exact ret _ ((upd v 3 (nI 0)), (va_up A 2 (upd (A 2) (40 * k + i) w0))) _ _ _ _ dX12_set_103 (by simp (decide := true) [mSet, lane3, c4, e_k, c16, c38, e_i, c63, c78, pk_us]) hP hD hS
          · refine lv_iload_n hx hb dX12_set_81 rfl (lv_at hl 3 rfl) ?_
            refine lv_i2s hx hb dX12_set_82 rfl ?_
            refine lv_goto (tgt := 87) hx hb dX12_set_83 (by decide) ?_
            refine stN (ws' := mW cy h r v (va_up A 2 (upd (A 2) (40 * k + i) ((w0).toInt16.toInt32)))) hx hb hK hP hD hS 3 rfl (j := 40 * k + i) (by omega) (by decide) dX12_set_87 rfl (fun H locs hP hD hS => ?_)
            refine lv_aload_n hx hb dX12_set_88 rfl (lv_at hl 0 rfl) ?_
            refine lv_aload_n hx hb dX12_set_89 rfl (lv_at hl 0 rfl) ?_
            refine va_get (ci := 11) (v := .ref (r 2)) (C := RX12) (T := TX12) (N := 24) hx hb hts hinX12 hown hK hP 0 rfl rfl 2 (by decide) hf16 (fun _ h9 => h9) rfl dX12_set_90 ?_
            refine lv_bipush (v := nI 40) hx hb dX12_set_93 (by decide) ?_
            refine lv_iload_n hx hb dX12_set_95 rfl (lv_at hl 1 rfl) ?_
            refine muN (k := 40 * k) hx hb rfl dX12_set_96 ?_
            refine lv_iload_n hx hb dX12_set_97 rfl (lv_at hl 2 rfl) ?_
            refine adN (k := 40 * k + i) hx hb rfl dX12_set_98 ?_
            refine ldN hx hb hK hP 3 rfl (j := 40 * k + i) (by omega) (by decide) dX12_set_99 ?_
            refine call_i (wr := []) (ws' := (fun _ : Unit => mW cy h r (upd v 3 (nI 0)) (va_up A 2 (upd (A 2) (40 * k + i) ((w0).toInt16.toInt32))))) (va_runV (As := [.int ((upd (A 2) (40 * k + i) ((w0).toInt16.toInt32)) (40 * k + i))]) (rest := []) CF (k_X12_done l D cy _ h r v (va_up A 2 (upd (A 2) (40 * k + i) ((w0).toInt16.toInt32))) ((upd (A 2) (40 * k + i) ((w0).toInt16.toInt32)) (40 * k + i)) ) (cwV 1 hts gX12_set_X12_done rfl rfl rfl (by decide +kernel) ⟨Nat.le_of_ble_eq_true rfl, Nat.le_of_ble_eq_true rfl⟩) (pre_V hKN hP hD [0, 1, 2, 3, 4, 5, 6, 7, 8, 9, 10, 11, 12, 13, 14] rfl (by decide) 0 11 rfl rfl) rfl rfl hl.1 rfl (lv_room (Nat.le_of_ble_eq_true rfl)) dX12_set_100 ⟨Nat.le_of_ble_eq_true rfl, Nat.le_of_ble_eq_true rfl⟩) hS hA hP hD [0, 1, 2, 3, 4, 5, 6, 7, 8, 9, 10, 11, 12, 13, 14] [] [0, 1, 2, 3, 4, 5, 6, 7, 8, 9, 10, 11, 12, 13, 14] rfl rfl (by decide) (by decide) (fun _ => rfl) (by decide) (fun r11 u10 H locs hw12 hP hD hS => ?_)
            replace hw12 := hw12.symm; subst hw12
            exact ret _ ((upd v 3 (nI 0)), (va_up A 2 (upd (A 2) (40 * k + i) ((w0).toInt16.toInt32)))) _ _ _ _ dX12_set_103 (by simp (decide := true) [mSet, lane3, c4, e_k, c16, c38, e_i, c63, c78, pk_us]) hP hD hS
        · refine lv_iload_n hx hb dX12_set_66 rfl (lv_at hl 3 rfl) ?_
          refine lv_i2b hx hb dX12_set_67 rfl ?_
          refine lv_goto (tgt := 87) hx hb dX12_set_68 (by decide) ?_
          refine stN (ws' := mW cy h r v (va_up A 2 (upd (A 2) (40 * k + i) ((w0).toInt8.toInt32)))) hx hb hK hP hD hS 3 rfl (j := 40 * k + i) (by omega) (by decide) dX12_set_87 rfl (fun H locs hP hD hS => ?_)
          refine lv_aload_n hx hb dX12_set_88 rfl (lv_at hl 0 rfl) ?_
          refine lv_aload_n hx hb dX12_set_89 rfl (lv_at hl 0 rfl) ?_
          refine va_get (ci := 11) (v := .ref (r 2)) (C := RX12) (T := TX12) (N := 24) hx hb hts hinX12 hown hK hP 0 rfl rfl 2 (by decide) hf16 (fun _ h9 => h9) rfl dX12_set_90 ?_
          refine lv_bipush (v := nI 40) hx hb dX12_set_93 (by decide) ?_
          refine lv_iload_n hx hb dX12_set_95 rfl (lv_at hl 1 rfl) ?_
          refine muN (k := 40 * k) hx hb rfl dX12_set_96 ?_
          refine lv_iload_n hx hb dX12_set_97 rfl (lv_at hl 2 rfl) ?_
          refine adN (k := 40 * k + i) hx hb rfl dX12_set_98 ?_
          refine ldN hx hb hK hP 3 rfl (j := 40 * k + i) (by omega) (by decide) dX12_set_99 ?_
          refine call_i (wr := []) (ws' := (fun _ : Unit => mW cy h r (upd v 3 (nI 0)) (va_up A 2 (upd (A 2) (40 * k + i) ((w0).toInt8.toInt32))))) (va_runV (As := [.int ((upd (A 2) (40 * k + i) ((w0).toInt8.toInt32)) (40 * k + i))]) (rest := []) CF (k_X12_done l D cy _ h r v (va_up A 2 (upd (A 2) (40 * k + i) ((w0).toInt8.toInt32))) ((upd (A 2) (40 * k + i) ((w0).toInt8.toInt32)) (40 * k + i)) ) (cwV 1 hts gX12_set_X12_done rfl rfl rfl (by decide +kernel) ⟨Nat.le_of_ble_eq_true rfl, Nat.le_of_ble_eq_true rfl⟩) (pre_V hKN hP hD [0, 1, 2, 3, 4, 5, 6, 7, 8, 9, 10, 11, 12, 13, 14] rfl (by decide) 0 11 rfl rfl) rfl rfl hl.1 rfl (lv_room (Nat.le_of_ble_eq_true rfl)) dX12_set_100 ⟨Nat.le_of_ble_eq_true rfl, Nat.le_of_ble_eq_true rfl⟩) hS hA hP hD [0, 1, 2, 3, 4, 5, 6, 7, 8, 9, 10, 11, 12, 13, 14] [] [0, 1, 2, 3, 4, 5, 6, 7, 8, 9, 10, 11, 12, 13, 14] rfl rfl (by decide) (by decide) (fun _ => rfl) (by decide) (fun r14 u13 H locs hw15 hP hD hS => ?_)
          replace hw15 := hw15.symm; subst hw15
          exact ret _ ((upd v 3 (nI 0)), (va_up A 2 (upd (A 2) (40 * k + i) ((w0).toInt8.toInt32)))) _ _ _ _ dX12_set_103 (by simp (decide := true) [mSet, lane3, c4, e_k, c16, c38, e_i, c63, pk_us]) hP hD hS
      · refine lv_aload_n hx hb dX12_set_41 rfl (lv_at hl 0 rfl) ?_
        refine lv_iconst (v := nI 2) hx hb dX12_set_42 (by decide) ?_
        refine call_i (wr := []) (ws' := (fun _ : Unit => mW cy h r (upd v 3 (nI 2)) A)) (va_runV (As := [.int (nI 2)]) (rest := []) CF (k_X12_finds l D cy _ h r v A (nI 2) ) (cwV 1 hts gX12_set_X12_finds rfl rfl rfl (by decide +kernel) ⟨Nat.le_of_ble_eq_true rfl, Nat.le_of_ble_eq_true rfl⟩) (pre_V hKN hP hD [0, 1, 2, 3, 4, 5, 6, 7, 8, 9, 10, 11, 12, 13, 14] rfl (by decide) 0 11 rfl rfl) rfl rfl hl.1 rfl (lv_room (Nat.le_of_ble_eq_true rfl)) dX12_set_43 ⟨Nat.le_of_ble_eq_true rfl, Nat.le_of_ble_eq_true rfl⟩) hS hA hP hD [0, 1, 2, 3, 4, 5, 6, 7, 8, 9, 10, 11, 12, 13, 14] [] [0, 1, 2, 3, 4, 5, 6, 7, 8, 9, 10, 11, 12, 13, 14] rfl rfl (by decide) (by decide) (fun _ => rfl) (by decide) (fun r17 u16 H locs hw18 hP hD hS => ?_)
        replace hw18 := hw18.symm; subst hw18
        exact ret _ ((upd v 3 (nI 2)), A) _ _ _ _ dX12_set_46 (by simp [mSet, c4, e_k, c16, c38]) hP hD hS
    · refine lv_aload_n hx hb dX12_set_19 rfl (lv_at hl 0 rfl) ?_
      refine lv_iconst (v := nI 1) hx hb dX12_set_20 (by decide) ?_
      refine call_i (wr := []) (ws' := (fun _ : Unit => mW cy h r (upd v 3 (nI 1)) A)) (va_runV (As := [.int (nI 1)]) (rest := []) CF (k_X12_finds l D cy _ h r v A (nI 1) ) (cwV 1 hts gX12_set_X12_finds rfl rfl rfl (by decide +kernel) ⟨Nat.le_of_ble_eq_true rfl, Nat.le_of_ble_eq_true rfl⟩) (pre_V hKN hP hD [0, 1, 2, 3, 4, 5, 6, 7, 8, 9, 10, 11, 12, 13, 14] rfl (by decide) 0 11 rfl rfl) rfl rfl hl.1 rfl (lv_room (Nat.le_of_ble_eq_true rfl)) dX12_set_21 ⟨Nat.le_of_ble_eq_true rfl, Nat.le_of_ble_eq_true rfl⟩) hS hA hP hD [0, 1, 2, 3, 4, 5, 6, 7, 8, 9, 10, 11, 12, 13, 14] [] [0, 1, 2, 3, 4, 5, 6, 7, 8, 9, 10, 11, 12, 13, 14] rfl rfl (by decide) (by decide) (fun _ => rfl) (by decide) (fun r20 u19 H locs hw21 hP hD hS => ?_)
      replace hw21 := hw21.symm; subst hw21
      exact ret _ ((upd v 3 (nI 1)), A) _ _ _ _ dX12_set_24 (by simp [mSet, c4, e_k, c16]) hP hD hS
  · refine lv_ldc hx hb hown hc66 dX12_set_7 ?_
    exact ret _ (v, A) _ _ _ _ dX12_set_9 (by simp [mSet, c4]) hP hD hS
set_option maxHeartbeats 4000000 in
set_option maxRecDepth 100000 in
theorem k_X12_drop (l : Launch) (D : va_G) (cy : Nat → ClassId) (sz : Nat) (h : Nat) (r : Nat → Nat) (v : Nat → Int32) (A : Nat → Nat → Int32) (x : Int32)  : Met l yX12_drop wsX12_drop (rmD 2) (pPre D (TY cy) (mW cy h r v A) sz [.ref h, .int x]) (pI D (TY cy) (mW cy h r v A) sz (fun u : (Nat → Int32) × (Nat → Nat → Int32) => mW cy h r u.1 u.2) (fun (r_ : Int32) (u : (Nat → Int32) × (Nat → Nat → Int32)) => r_ = ((mDrop v A x).1) ∧ u = ((mDrop v A x).2.1, (mDrop v A x).2.2))) 0 0 (va_A (mW cy h r v A) sz) := by
  refine ent_i (cc := cX12_drop) (maxL := 2) (by decide +kernel) rfl (Nat.le_of_ble_eq_true rfl) ?_
  intro p_ e_ s_ m_ args_ below_ meth_ c_ A_ Q_ ls B0 ret
  obtain ⟨CF, hA, hKN, hP, hD, hl⟩ := B0
  have hK := hKN.1
  obtain ⟨hx, hb, hml, hown, hts⟩ := id CF
  have hS : va_S A_ s_.heap s_.heap [] := va_S.rf
  have hl : lv_has ls 2 [(0, .ref h), (1, .int x)] := hl
  have hf7 := hts (.fieldLink RX12 7 "DrawerCardsModel" "lane" "[I") (by decide +kernel)
  have hinX12 := show ∀ w ∈ u_ws RX12 TX12 24, w ∈ wsX12_drop from by decide +kernel
  have hf13 := hts (.fieldLink RX12 13 "DrawerCardsModel" "size" "[I") (by decide +kernel)
  have hc66 := hts (.constant RX12 66 (-1000001)) (by decide +kernel)
  refine lv_iload_n hx hb dX12_drop_0 rfl (lv_at hl 1 rfl) ?_
  refine call_i (wr := [(h, .inr (11, mO r v)), ((r 0), wInt (cy 0) 8 (A 0)), ((r 1), wInt (cy 0) 8 (A 1)), ((r 2), wInt (cy 0) 320 (A 2)), ((r 5), wInt (cy 0) 60 (A 5)), ((r 12), wInt (cy 0) 37 (A 12)), ((r 13), wInt (cy 0) 37 (A 13)), ((r 14), wInt (cy 0) 37 (A 14)), ((r 15), wInt (cy 0) 37 (A 15)), ((r 16), wInt (cy 0) 74 (A 16)), ((r 17), wInt (cy 1) 2 (A 17)), ((r 18), wInt (cy 0) 888 (A 18)), ((r 20), wInt (cy 0) 16 (A 20)), ((r 22), wInt (cy 0) 16 (A 22)), ((r 23), wInt (cy 0) 24 (A 23))]) (ws' := (fun _ : Unit => mW cy h r v A)) (va_runS (As := [.int x]) (rest := []) CF (k_X12_isRow l D cy _ x ) (va_cwS 1 hts gX12_drop_X12_isRow rfl rfl rfl (by decide +kernel) ⟨Nat.le_of_ble_eq_true rfl, Nat.le_of_ble_eq_true rfl⟩) (pre_S hKN hP hD [] rfl (by decide)) rfl rfl hl.1 rfl (lv_room (Nat.le_of_ble_eq_true rfl)) dX12_drop_1 ⟨Nat.le_of_ble_eq_true rfl, Nat.le_of_ble_eq_true rfl⟩) hS hA hP hD [] [0, 1, 2, 3, 4, 5, 6, 7, 8, 9, 10, 11, 12, 13, 14] [0, 1, 2, 3, 4, 5, 6, 7, 8, 9, 10, 11, 12, 13, 14] rfl rfl (by decide) (by decide) (fun _ => rfl) (by decide) (fun r2 u1 H locs hw3 hP hD hS => ?_)
  replace hw3 := hw3.symm; subst hw3
  refine ifneB (tgt := 10) hx hb dX12_drop_4 (by decide) (fun c4 => ?_) (fun c4 => ?_)
  · obtain ⟨k, h_k, rfl⟩ := rng (m := 7) (by decide) c4
    have e_k : (nI k).toNatClampNeg = k := nI_clamp (by omega)
    refine lv_aload_n hx hb dX12_drop_10 rfl (lv_at hl 0 rfl) ?_
    refine va_get (ci := 11) (v := .ref (r 0)) (C := RX12) (T := TX12) (N := 24) hx hb hts hinX12 hown hK hP 0 rfl rfl 0 (by decide) hf7 (fun _ h9 => h9) rfl dX12_drop_11 ?_
    refine lv_iload_n hx hb dX12_drop_14 rfl (lv_at hl 1 rfl) ?_
    refine ldN hx hb hK hP 1 rfl (j := k) (by omega) (by decide) dX12_drop_15 ?_
    refine lv_if_ge (tgt := 25) hx hb dX12_drop_16 (by decide) (fun c16 => ?_) (fun c16 => ?_)
    · refine lv_aload_n hx hb dX12_drop_25 rfl (lv_at hl 0 rfl) ?_
      refine va_get (ci := 11) (v := .ref (r 0)) (C := RX12) (T := TX12) (N := 24) hx hb hts hinX12 hown hK hP 0 rfl rfl 0 (by decide) hf7 (fun _ h9 => h9) rfl dX12_drop_26 ?_
      refine lv_iload_n hx hb dX12_drop_29 rfl (lv_at hl 1 rfl) ?_
      refine lv_iconst (v := (-1)) hx hb dX12_drop_30 (by decide) ?_
      refine stN (ws' := mW cy h r v (va_up A 0 (upd (A 0) k (-1)))) hx hb hK hP hD hS 1 rfl (j := k) (by omega) (by decide) dX12_drop_31 rfl (fun H locs hP hD hS => ?_)
      refine lv_aload_n hx hb dX12_drop_32 rfl (lv_at hl 0 rfl) ?_
      refine lv_aload_n hx hb dX12_drop_33 rfl (lv_at hl 0 rfl) ?_
      refine va_get (ci := 11) (v := .ref (r 1)) (C := RX12) (T := TX12) (N := 24) hx hb hts hinX12 hown hK hP 0 rfl rfl 1 (by decide) hf13 (fun _ h9 => h9) rfl dX12_drop_34 ?_
      refine lv_iload_n hx hb dX12_drop_37 rfl (lv_at hl 1 rfl) ?_
      refine ldN hx hb hK hP 2 rfl (j := k) (by omega) (by decide) dX12_drop_38 ?_
      refine call_i (wr := []) (ws' := (fun _ : Unit => mW cy h r (upd v 3 (nI 0)) (va_up A 0 (upd (A 0) k (-1))))) (va_runV (As := [.int ((A 1) k)]) (rest := []) CF (k_X12_done l D cy _ h r v (va_up A 0 (upd (A 0) k (-1))) ((A 1) k) ) (cwV 1 hts gX12_drop_X12_done rfl rfl rfl (by decide +kernel) ⟨Nat.le_of_ble_eq_true rfl, Nat.le_of_ble_eq_true rfl⟩) (pre_V hKN hP hD [0, 1, 2, 3, 4, 5, 6, 7, 8, 9, 10, 11, 12, 13, 14] rfl (by decide) 0 11 rfl rfl) rfl rfl hl.1 rfl (lv_room (Nat.le_of_ble_eq_true rfl)) dX12_drop_39 ⟨Nat.le_of_ble_eq_true rfl, Nat.le_of_ble_eq_true rfl⟩) hS hA hP hD [0, 1, 2, 3, 4, 5, 6, 7, 8, 9, 10, 11, 12, 13, 14] [] [0, 1, 2, 3, 4, 5, 6, 7, 8, 9, 10, 11, 12, 13, 14] rfl rfl (by decide) (by decide) (fun _ => rfl) (by decide) (fun r5 u4 H locs hw6 hP hD hS => ?_)
      replace hw6 := hw6.symm; subst hw6
      exact ret _ ((upd v 3 (nI 0)), (va_up A 0 (upd (A 0) k (-1)))) _ _ _ _ dX12_drop_42 (by simp [mDrop, c4, e_k, c16]) hP hD hS
    · refine lv_aload_n hx hb dX12_drop_19 rfl (lv_at hl 0 rfl) ?_
      refine lv_iconst (v := nI 1) hx hb dX12_drop_20 (by decide) ?_
      refine call_i (wr := []) (ws' := (fun _ : Unit => mW cy h r (upd v 3 (nI 1)) A)) (va_runV (As := [.int (nI 1)]) (rest := []) CF (k_X12_finds l D cy _ h r v A (nI 1) ) (cwV 1 hts gX12_drop_X12_finds rfl rfl rfl (by decide +kernel) ⟨Nat.le_of_ble_eq_true rfl, Nat.le_of_ble_eq_true rfl⟩) (pre_V hKN hP hD [0, 1, 2, 3, 4, 5, 6, 7, 8, 9, 10, 11, 12, 13, 14] rfl (by decide) 0 11 rfl rfl) rfl rfl hl.1 rfl (lv_room (Nat.le_of_ble_eq_true rfl)) dX12_drop_21 ⟨Nat.le_of_ble_eq_true rfl, Nat.le_of_ble_eq_true rfl⟩) hS hA hP hD [0, 1, 2, 3, 4, 5, 6, 7, 8, 9, 10, 11, 12, 13, 14] [] [0, 1, 2, 3, 4, 5, 6, 7, 8, 9, 10, 11, 12, 13, 14] rfl rfl (by decide) (by decide) (fun _ => rfl) (by decide) (fun r8 u7 H locs hw9 hP hD hS => ?_)
      replace hw9 := hw9.symm; subst hw9
      exact ret _ ((upd v 3 (nI 1)), A) _ _ _ _ dX12_drop_24 (by simp [mDrop, c4, e_k, c16]) hP hD hS
  · refine lv_ldc hx hb hown hc66 dX12_drop_7 ?_
    exact ret _ (v, A) _ _ _ _ dX12_drop_9 (by simp [mDrop, c4]) hP hD hS
set_option maxHeartbeats 4000000 in
set_option maxRecDepth 100000 in
theorem k_X12_feed (l : Launch) (D : va_G) (cy : Nat → ClassId) (sz : Nat) (h : Nat) (r : Nat → Nat) (v : Nat → Int32) (A : Nat → Nat → Int32) (x : Int32) (hl4 : ∃ z, z ≤ 60 ∧ v 4 = nI z) : Met l yX12_feed wsX12_feed (rmD 1) (pPre D (TY cy) (mW cy h r v A) sz [.ref h, .int x]) (pI D (TY cy) (mW cy h r v A) sz (fun u : (Nat → Int32) × (Nat → Nat → Int32) => mW cy h r u.1 u.2) (fun (r_ : Int32) (u : (Nat → Int32) × (Nat → Nat → Int32)) => r_ = ((mFeed v A x).1) ∧ u = ((mFeed v A x).2.1, (mFeed v A x).2.2))) 0 0 (va_A (mW cy h r v A) sz) := by
  refine ent_i (cc := cX12_feed) (maxL := 2) (by decide +kernel) rfl (Nat.le_of_ble_eq_true rfl) ?_
  intro p_ e_ s_ m_ args_ below_ meth_ c_ A_ Q_ ls B0 ret
  obtain ⟨CF, hA, hKN, hP, hD, hl⟩ := B0
  have hK := hKN.1
  obtain ⟨hx, hb, hml, hown, hts⟩ := id CF
  have hS : va_S A_ s_.heap s_.heap [] := va_S.rf
  have hl : lv_has ls 2 [(0, .ref h), (1, .int x)] := hl
  have hf77 := hts (.fieldLink RX12 77 "DrawerCardsModel" "letters" "I") (by decide +kernel)
  have hinX12 := show ∀ w ∈ u_ws RX12 TX12 24, w ∈ wsX12_feed from by decide +kernel
  have hf19 := hts (.fieldLink RX12 19 "DrawerCardsModel" "tape" "[I") (by decide +kernel)
  have hc80 := hts (.constant RX12 80 (-1000003)) (by decide +kernel)
  have hc66 := hts (.constant RX12 66 (-1000001)) (by decide +kernel)
  obtain ⟨z, hz, ez⟩ := hl4
  have ezc : (nI z).toNatClampNeg = z := nI_clamp (by omega)
  have ez6 : nI z = nI 60 ↔ z = 60 := nIe (by omega) (by decide)
  refine lv_iload_n hx hb dX12_feed_0 rfl (lv_at hl 1 rfl) ?_
  refine lv_iconst (v := nI 0) hx hb dX12_feed_1 (by decide) ?_
  refine lv_sipush (v := nI 255) hx hb dX12_feed_2 (by decide) ?_
  refine call_i (wr := [(h, .inr (11, mO r v)), ((r 0), wInt (cy 0) 8 (A 0)), ((r 1), wInt (cy 0) 8 (A 1)), ((r 2), wInt (cy 0) 320 (A 2)), ((r 5), wInt (cy 0) 60 (A 5)), ((r 12), wInt (cy 0) 37 (A 12)), ((r 13), wInt (cy 0) 37 (A 13)), ((r 14), wInt (cy 0) 37 (A 14)), ((r 15), wInt (cy 0) 37 (A 15)), ((r 16), wInt (cy 0) 74 (A 16)), ((r 17), wInt (cy 1) 2 (A 17)), ((r 18), wInt (cy 0) 888 (A 18)), ((r 20), wInt (cy 0) 16 (A 20)), ((r 22), wInt (cy 0) 16 (A 22)), ((r 23), wInt (cy 0) 24 (A 23))]) (ws' := (fun _ : Unit => mW cy h r v A)) (va_runS (As := [.int x, .int (nI 0), .int (nI 255)]) (rest := []) CF (k_X12_in l D cy _ x (nI 0) (nI 255) ) (va_cwS 3 hts gX12_feed_X12_in rfl rfl rfl (by decide +kernel) ⟨Nat.le_of_ble_eq_true rfl, Nat.le_of_ble_eq_true rfl⟩) (pre_S hKN hP hD [] rfl (by decide)) rfl rfl hl.1 rfl (lv_room (Nat.le_of_ble_eq_true rfl)) dX12_feed_5 ⟨Nat.le_of_ble_eq_true rfl, Nat.le_of_ble_eq_true rfl⟩) hS hA hP hD [] [0, 1, 2, 3, 4, 5, 6, 7, 8, 9, 10, 11, 12, 13, 14] [0, 1, 2, 3, 4, 5, 6, 7, 8, 9, 10, 11, 12, 13, 14] rfl rfl (by decide) (by decide) (fun _ => rfl) (by decide) (fun r2 u1 H locs hw3 hP hD hS => ?_)
  replace hw3 := hw3.symm; subst hw3
  refine ifneB (tgt := 14) hx hb dX12_feed_8 (by decide) (fun c8 => ?_) (fun c8 => ?_)
  · refine lv_aload_n hx hb dX12_feed_14 rfl (lv_at hl 0 rfl) ?_
    refine va_get (ci := 11) (v := .int (v 4)) (C := RX12) (T := TX12) (N := 24) hx hb hts hinX12 hown hK hP 0 rfl rfl 4 (by decide) hf77 (fun _ h9 => h9) rfl dX12_feed_15 ?_
    refine top_i ez ?_
    refine lv_bipush (v := nI 60) hx hb dX12_feed_18 (by decide) ?_
    refine neN (tgt := 26) hx hb (by omega) (by decide) dX12_feed_20 (by decide) (fun c20 => ?_) (fun c20 => ?_)
    · refine lv_aload_n hx hb dX12_feed_26 rfl (lv_at hl 0 rfl) ?_
      refine va_get (ci := 11) (v := .ref (r 5)) (C := RX12) (T := TX12) (N := 24) hx hb hts hinX12 hown hK hP 0 rfl rfl 5 (by decide) hf19 (fun _ h9 => h9) rfl dX12_feed_27 ?_
      refine lv_aload_n hx hb dX12_feed_30 rfl (lv_at hl 0 rfl) ?_
      refine va_get (ci := 11) (v := .int (v 4)) (C := RX12) (T := TX12) (N := 24) hx hb hts hinX12 hown hK hP 0 rfl rfl 4 (by decide) hf77 (fun _ h9 => h9) rfl dX12_feed_31 ?_
      refine top_i ez ?_
      refine lv_iload_n hx hb dX12_feed_34 rfl (lv_at hl 1 rfl) ?_
      refine stN (ws' := mW cy h r v (va_up A 5 (upd (A 5) z x))) hx hb hK hP hD hS 4 rfl (j := z) (by omega) (by decide) dX12_feed_35 rfl (fun H locs hP hD hS => ?_)
      refine lv_aload_n hx hb dX12_feed_36 rfl (lv_at hl 0 rfl) ?_
      refine lv_dup hx hb dX12_feed_37 rfl ?_
      refine va_get (ci := 11) (v := .int (v 4)) (C := RX12) (T := TX12) (N := 24) hx hb hts hinX12 hown hK hP 0 rfl rfl 4 (by decide) hf77 (fun _ h9 => h9) rfl dX12_feed_38 ?_
      refine top_i ez ?_
      refine lv_iconst (v := nI 1) hx hb dX12_feed_41 (by decide) ?_
      refine adN (k := z + 1) hx hb rfl dX12_feed_42 ?_
      refine va_put (ci := 11) (v := .int (nI (z + 1))) (ty := .int) (C := RX12) (T := TX12) (N := 24) hx hb hts hinX12 tyX12 tyX12_ok nmX12 hown hK hP hD hS 0 rfl rfl 4 (by decide) hf77 (fun _ h9 => h9) rfl (by decide +kernel) rfl rfl (Nat.le_of_ble_eq_true rfl) dX12_feed_43 (fun H locs hP hD hS => ?_)
      have hP : va_P D vwCl (mW cy h r (upd v 4 (nI (z + 1))) (va_up A 5 (upd (A 5) z x))) H := hP
      have hD : va_D A_ (mW cy h r (upd v 4 (nI (z + 1))) (va_up A 5 (upd (A 5) z x))) := hD
      refine lv_aload_n hx hb dX12_feed_46 rfl (lv_at hl 0 rfl) ?_
      refine va_get (ci := 11) (v := .int (nI (z + 1))) (C := RX12) (T := TX12) (N := 24) hx hb hts hinX12 hown hK hP 0 rfl rfl 4 (by decide) hf77 (fun _ h9 => h9) rfl dX12_feed_47 ?_
      exact ret _ ((upd v 4 (nI (z + 1))), (va_up A 5 (upd (A 5) z x))) _ _ _ _ dX12_feed_50 (by simp [mFeed, c8, c20, ez, ezc, ez6, nI_add]) hP hD hS
    · refine lv_ldc hx hb hown hc80 dX12_feed_23 ?_
      exact ret _ (v, A) _ _ _ _ dX12_feed_25 (by simp [mFeed, c8, c20, ez, ezc, ez6, nI_add]) hP hD hS
  · refine lv_ldc hx hb hown hc66 dX12_feed_11 ?_
    exact ret _ (v, A) _ _ _ _ dX12_feed_13 (by simp [mFeed, c8, ez, ezc, ez6, nI_add]) hP hD hS
