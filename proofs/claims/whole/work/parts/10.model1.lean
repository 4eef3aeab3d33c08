set_option maxHeartbeats 4000000 in
set_option maxRecDepth 100000 in
theorem k_X12_in (l : Launch) (D : va_G) (cy : Nat → ClassId) (sz : Nat) (v0 : Int32) (le : Int32) (mo : Int32)  : Met l yX12_in wsX12_in (rmD 0) (pPre D (TY cy) ([]) sz [.int v0, .int le, .int mo]) (pI D (TY cy) ([]) sz (fun _ : Unit => []) (fun (r : Int32) (_ : Unit) => r = bI (le ≤ v0 ∧ v0 ≤ mo))) 0 0 (va_A ([]) sz) := by
  refine ent_z (cc := cX12_in) (maxL := 3) (by decide +kernel) rfl (Nat.le_of_ble_eq_true rfl) ?_
  intro p_ e_ s_ m_ args_ below_ meth_ c_ A_ Q_ ls B0 ret
  obtain ⟨CF, hA, hKN, hP, hD, hl⟩ := B0
  have hK := hKN.1
  obtain ⟨hx, hb, hml, hown, hts⟩ := id CF
  have hS : va_S A_ s_.heap s_.heap [] := va_S.rf
  have hl : lv_has ls 3 [(0, .int v0), (1, .int le), (2, .int mo)] := hl
  refine lv_iload_n hx hb dX12_in_0 rfl (lv_at hl 0 rfl) ?_
  refine lv_iload_n hx hb dX12_in_1 rfl (lv_at hl 1 rfl) ?_
  refine lv_icmp_lt (tgt := 14) hx hb dX12_in_2 (by decide) (fun c2 => ?_) (fun c2 => ?_)
  · refine lv_iconst (v := nI 0) hx hb dX12_in_14 (by decide) ?_
    exact ret _ () _ _ _ _ dX12_in_15 rfl (by rw [bI_f (by intro h; first | exact absurd h.1 (Int32.not_le.mpr c2) | exact absurd h.2 (Int32.not_le.mpr c7))]; rfl) hP hD hS
  · refine lv_iload_n hx hb dX12_in_5 rfl (lv_at hl 0 rfl) ?_
    refine lv_iload_n hx hb dX12_in_6 rfl (lv_at hl 2 rfl) ?_
    refine lv_icmp_gt (tgt := 14) hx hb dX12_in_7 (by decide) (fun c7 => ?_) (fun c7 => ?_)
    · refine lv_iconst (v := nI 0) hx hb dX12_in_14 (by decide) ?_
      exact ret _ () _ _ _ _ dX12_in_15 rfl (by rw [bI_f (by intro h; first | exact absurd h.1 (Int32.not_le.mpr c2) | exact absurd h.2 (Int32.not_le.mpr c7))]; rfl) hP hD hS
    · refine lv_iconst (v := nI 1) hx hb dX12_in_10 (by decide) ?_
      refine lv_goto (tgt := 15) hx hb dX12_in_11 (by decide) ?_
      exact ret _ () _ _ _ _ dX12_in_15 rfl (by rw [bI_t ⟨Int32.not_lt.mp c2, Int32.not_lt.mp c7⟩]; rfl) hP hD hS
set_option maxHeartbeats 4000000 in
set_option maxRecDepth 100000 in
theorem k_X12_isIn (l : Launch) (D : va_G) (cy : Nat → ClassId) (sz : Nat) (st : Int32) (k : Nat)  : Met l yX12_isIn wsX12_isIn (rmD 0) (pPre D (TY cy) ([]) sz [.int st, .int (nI k)]) (pI D (TY cy) ([]) sz (fun _ : Unit => []) (fun (r : Int32) (_ : Unit) => r = bI ((st >>> (nI k &&& 31)) &&& nI 1 = nI 1))) 0 0 (va_A ([]) sz) := by
  refine ent_z (cc := cX12_isIn) (maxL := 2) (by decide +kernel) rfl (Nat.le_of_ble_eq_true rfl) ?_
  intro p_ e_ s_ m_ args_ below_ meth_ c_ A_ Q_ ls B0 ret
  obtain ⟨CF, hA, hKN, hP, hD, hl⟩ := B0
  have hK := hKN.1
  obtain ⟨hx, hb, hml, hown, hts⟩ := id CF
  have hS : va_S A_ s_.heap s_.heap [] := va_S.rf
  have hl : lv_has ls 2 [(0, .int st), (1, .int (nI k))] := hl
  refine lv_iload_n hx hb dX12_isIn_0 rfl (lv_at hl 0 rfl) ?_
  refine lv_iload_n hx hb dX12_isIn_1 rfl (lv_at hl 1 rfl) ?_
  refine lv_ishr hx hb dX12_isIn_2 ?_
  refine lv_iconst (v := nI 1) hx hb dX12_isIn_3 (by decide) ?_
  refine lv_iand hx hb dX12_isIn_4 ?_
  refine lv_iconst (v := nI 1) hx hb dX12_isIn_5 (by decide) ?_
  refine lv_icmp_ne (tgt := 13) hx hb dX12_isIn_6 (by decide) (fun c6 => ?_) (fun c6 => ?_)
  · refine lv_iconst (v := nI 0) hx hb dX12_isIn_13 (by decide) ?_
    exact ret _ () _ _ _ _ dX12_isIn_14 rfl (by first | (rw [bI_t c6]; rfl) | (rw [bI_f c6]; rfl)) hP hD hS
  · refine lv_iconst (v := nI 1) hx hb dX12_isIn_9 (by decide) ?_
    refine lv_goto (tgt := 14) hx hb dX12_isIn_10 (by decide) ?_
    exact ret _ () _ _ _ _ dX12_isIn_14 rfl (by first | (rw [bI_t c6]; rfl) | (rw [bI_f c6]; rfl)) hP hD hS
set_option maxHeartbeats 4000000 in
set_option maxRecDepth 100000 in
theorem k_X12_isRow (l : Launch) (D : va_G) (cy : Nat → ClassId) (sz : Nat) (r0 : Int32)  : Met l yX12_isRow wsX12_isRow (rmD 1) (pPre D (TY cy) ([]) sz [.int r0]) (pI D (TY cy) ([]) sz (fun _ : Unit => []) (fun (r : Int32) (_ : Unit) => r = bI (nI 0 ≤ r0 ∧ r0 ≤ nI 7))) 0 0 (va_A ([]) sz) := by
  refine ent_z (cc := cX12_isRow) (maxL := 1) (by decide +kernel) rfl (Nat.le_of_ble_eq_true rfl) ?_
  intro p_ e_ s_ m_ args_ below_ meth_ c_ A_ Q_ ls B0 ret
  obtain ⟨CF, hA, hKN, hP, hD, hl⟩ := B0
  have hK := hKN.1
  obtain ⟨hx, hb, hml, hown, hts⟩ := id CF
  have hS : va_S A_ s_.heap s_.heap [] := va_S.rf
  have hl : lv_has ls 1 [(0, .int r0)] := hl
  refine lv_iload_n hx hb dX12_isRow_0 rfl (lv_at hl 0 rfl) ?_
  refine lv_iconst (v := nI 0) hx hb dX12_isRow_1 (by decide) ?_
  refine lv_bipush (v := nI 7) hx hb dX12_isRow_2 (by decide) ?_
  refine call_i (wr := []) (ws' := (fun _ : Unit => [])) (va_runS (As := [.int r0, .int (nI 0), .int (nI 7)]) (rest := []) CF (k_X12_in l D cy _ r0 (nI 0) (nI 7) ) (va_cwS 3 hts gX12_isRow_X12_in rfl rfl rfl (by decide +kernel) ⟨Nat.le_of_ble_eq_true rfl, Nat.le_of_ble_eq_true rfl⟩) (pre_S hKN hP hD [] rfl (by decide)) rfl rfl hl.1 rfl (lv_room (Nat.le_of_ble_eq_true rfl)) dX12_isRow_4 ⟨Nat.le_of_ble_eq_true rfl, Nat.le_of_ble_eq_true rfl⟩) hS hA hP hD [] [] [] rfl rfl (by decide) (by decide) (fun _ => rfl) (by decide) (fun r2 u1 H locs hw3 hP hD hS => ?_)
  obtain rfl := hw3
  exact ret _ () _ _ _ _ dX12_isRow_7 bI_nar rfl hP hD hS
set_option maxHeartbeats 4000000 in
set_option maxRecDepth 100000 in
theorem k_X12_inDrawer (l : Launch) (D : va_G) (cy : Nat → ClassId) (sz : Nat) (g0 : Nat) (s : Nat → Int32) (d : Int32) (n : Nat) (hn : n ≤ 8) (h3 : s 3 = nI n) : Met l yX12_inDrawer wsX12_inDrawer (rmD 0) (pPre D (TY cy) ([(g0, wInt (cy 0) 37 s)]) sz [.ref g0, .int d]) (pI D (TY cy) ([(g0, wInt (cy 0) 37 s)]) sz (fun _ : Unit => [(g0, wInt (cy 0) 37 s)]) (fun (r : Int32) (_ : Unit) => r = fillN s d n)) 0 0 (va_A ([(g0, wInt (cy 0) 37 s)]) sz) := by
  refine ent_i (cc := cX12_inDrawer) (maxL := 4) (by decide +kernel) rfl (Nat.le_of_ble_eq_true rfl) ?_
  intro p_ e_ s_ m_ args_ below_ meth_ c_ A_ Q_ ls B0 ret
  obtain ⟨CF, hA, hKN, hP, hD, hl⟩ := B0
  have hK := hKN.1
  obtain ⟨hx, hb, hml, hown, hts⟩ := id CF
  have hS : va_S A_ s_.heap s_.heap [] := va_S.rf
  have hl : lv_has ls 4 [(0, .ref g0), (1, .int d)] := hl
  refine lv_iconst (v := nI 0) hx hb dX12_inDrawer_0 (by decide) ?_
  refine lv_istore_n (lv' := [(2, .int (nI 0)), (0, .ref g0), (1, .int d)]) hx hb dX12_inDrawer_1 rfl hl (by decide) rfl (fun ls hl => ?_)
  refine lv_iconst (v := nI 0) hx hb dX12_inDrawer_2 (by decide) ?_
  refine lv_istore_n (lv' := [(3, .int (nI 0)), (2, .int (nI 0)), (0, .ref g0), (1, .int d)]) hx hb dX12_inDrawer_3 rfl hl (by decide) rfl (fun ls hl => ?_)
  have lp4 : ∀ f_ : Nat, ∀ (i : Nat) (x2 : Int32), (n - i) < f_ → (i ≤ n) → (x2 = fillN s d i) → ∀ (H : Heap) (locs : List Loc), va_P D vwCl ([(g0, wInt (cy 0) 37 s)]) H → va_D A_ ([(g0, wInt (cy 0) 37 s)]) → va_S A_ s_.heap H locs → ∀ ls : Array Slot, lv_has ls 4 [(0, .ref g0), (1, .int d), (2, .int x2), (3, .int (nI i))] → W p_ l e_ (rmD 0) s_ m_ args_ below_ meth_ c_ H locs 0 0 Q_ (F0 m_ 4 ls []) := by
    intro f_
    induction f_ with
    | zero => intro i x2 hm_; exact absurd hm_ (by omega)
    | succ f_ ih4 =>
      intro i x2 hm_ hi e2 H locs hP hD hS ls hl
      refine lv_iload_n hx hb dX12_inDrawer_4 rfl (lv_at hl 3 rfl) ?_
      refine lv_aload_n hx hb dX12_inDrawer_5 rfl (lv_at hl 0 rfl) ?_
      refine lv_iconst (v := nI 3) hx hb dX12_inDrawer_6 (by decide) ?_
      refine ldN hx hb hK hP 0 rfl (j := 3) (by omega) (by decide) dX12_inDrawer_7 ?_
      refine top_i h3 ?_
      refine geN (tgt := 35) hx hb (by omega) (by omega) dX12_inDrawer_8 (by decide) (fun c8 => ?_) (fun c8 => ?_)
      · refine lv_iload_n hx hb dX12_inDrawer_35 rfl (lv_at hl 2 rfl) ?_
        exact ret _ () _ _ _ _ dX12_inDrawer_36 (by rw [e2, show i = n by omega]) hP hD hS
      · refine lv_iload_n hx hb dX12_inDrawer_11 rfl (lv_at hl 2 rfl) ?_
        refine lv_aload_n hx hb dX12_inDrawer_12 rfl (lv_at hl 0 rfl) ?_
        refine lv_bipush (v := nI 21) hx hb dX12_inDrawer_13 (by decide) ?_
        refine lv_iload_n hx hb dX12_inDrawer_15 rfl (lv_at hl 3 rfl) ?_
        refine adN (k := 21 + i) hx hb rfl dX12_inDrawer_16 ?_
        refine ldN hx hb hK hP 0 rfl (j := 21 + i) (by omega) (by decide) dX12_inDrawer_17 ?_
        refine lv_iload_n hx hb dX12_inDrawer_18 rfl (lv_at hl 1 rfl) ?_
        refine lv_icmp_ne (tgt := 26) hx hb dX12_inDrawer_19 (by decide) (fun c19 => ?_) (fun c19 => ?_)
        · refine lv_iconst (v := nI 0) hx hb dX12_inDrawer_26 (by decide) ?_
          refine lv_iadd hx hb dX12_inDrawer_27 ?_
          refine lv_istore_n (lv' := [(2, .int (x2 + nI 0)), (0, .ref g0), (1, .int d), (3, .int (nI i))]) hx hb dX12_inDrawer_28 rfl hl (by decide) rfl (fun ls hl => ?_)
          refine lv_iinc (v := nI (i + 1)) (lv' := [(3, .int (nI (i + 1))), (2, .int (x2 + nI 0)), (0, .ref g0), (1, .int d)]) hx hb dX12_inDrawer_29 hl (k := 3) rfl (nI_1 _) (by decide) rfl (fun ls hl => ?_)
          refine lv_goto (tgt := 4) hx hb dX12_inDrawer_32 (by decide) ?_
          exact ih4 (i + 1) (x2 + nI 0) (by omega) (by omega) (by subst e2; first | (rw [fillN, if_pos c19]; done) | (rw [fillN, if_neg c19]; done)) _ _ hP hD hS ls (lv_sub hl [2, 3, 1, 0] rfl)
        · refine lv_iconst (v := nI 1) hx hb dX12_inDrawer_22 (by decide) ?_
          refine lv_goto (tgt := 27) hx hb dX12_inDrawer_23 (by decide) ?_
          refine lv_iadd hx hb dX12_inDrawer_27 ?_
          refine lv_istore_n (lv' := [(2, .int (x2 + nI 1)), (0, .ref g0), (1, .int d), (3, .int (nI i))]) hx hb dX12_inDrawer_28 rfl hl (by decide) rfl (fun ls hl => ?_)
          refine lv_iinc (v := nI (i + 1)) (lv' := [(3, .int (nI (i + 1))), (2, .int (x2 + nI 1)), (0, .ref g0), (1, .int d)]) hx hb dX12_inDrawer_29 hl (k := 3) rfl (nI_1 _) (by decide) rfl (fun ls hl => ?_)
          refine lv_goto (tgt := 4) hx hb dX12_inDrawer_32 (by decide) ?_
          exact ih4 (i + 1) (x2 + nI 1) (by omega) (by omega) (by subst e2; first | (rw [fillN, if_pos c19]; done) | (rw [fillN, if_neg c19]; done)) _ _ hP hD hS ls (lv_sub hl [2, 3, 1, 0] rfl)
  exact lp4 (n - 0 + 1) 0 (nI 0) (by omega) (by omega) rfl _ _ hP hD hS ls (lv_sub hl [2, 3, 1, 0] rfl)
set_option maxHeartbeats 4000000 in
set_option maxRecDepth 100000 in
theorem k_X12_lay (l : Launch) (D : va_G) (cy : Nat → ClassId) (sz : Nat) (g0 : Nat) (g1 : Nat) (na : Nat) (nb : Nat) (fa : Nat → Int32) (fb : Nat → Int32) (fr : Nat) (to : Nat) (hna : na < 2 ^ 31) (hnb : nb < 2 ^ 31) (hfr : fr + 37 ≤ na) (hto : to + 37 ≤ nb) : Met l yX12_lay wsX12_lay (rmD 0) (pPre D (TY cy) ([(g0, wInt (cy 0) na fa), (g1, wInt (cy 0) nb fb)]) sz [.ref g0, .int (nI fr), .ref g1, .int (nI to)]) (pV D (TY cy) ([(g0, wInt (cy 0) na fa), (g1, wInt (cy 0) nb fb)]) sz (fun f2 : Nat → Int32 => [(g0, wInt (cy 0) na fa), (g1, wInt (cy 0) nb f2)]) (fun (u : (Nat → Int32)) => u = layN fa fr fb to 37)) 0 0 (va_A ([(g0, wInt (cy 0) na fa), (g1, wInt (cy 0) nb fb)]) sz) := by
  refine ent_v (cc := cX12_lay) (maxL := 5) (by decide +kernel) rfl (Nat.le_of_ble_eq_true rfl) ?_
  intro p_ e_ s_ m_ args_ below_ meth_ c_ A_ Q_ ls B0 ret
  obtain ⟨CF, hA, hKN, hP, hD, hl⟩ := B0
  have hK := hKN.1
  obtain ⟨hx, hb, hml, hown, hts⟩ := id CF
  have hS : va_S A_ s_.heap s_.heap [] := va_S.rf
  have hl : lv_has ls 5 [(0, .ref g0), (1, .int (nI fr)), (2, .ref g1), (3, .int (nI to))] := hl
  refine lv_iconst (v := nI 0) hx hb dX12_lay_0 (by decide) ?_
  refine lv_istore (lv' := [(4, .int (nI 0)), (0, .ref g0), (1, .int (nI fr)), (2, .ref g1), (3, .int (nI to))]) hx hb dX12_lay_1 hl (by decide) rfl (fun ls hl => ?_)
  have lp3 : ∀ f_ : Nat, ∀ (k : Nat) (f2 : Nat → Int32), (37 - k) < f_ → (k ≤ 37) → (f2 = layN fa fr fb to k) → ∀ (H : Heap) (locs : List Loc), va_P D vwCl ([(g0, wInt (cy 0) na fa), (g1, wInt (cy 0) nb f2)]) H → va_D A_ ([(g0, wInt (cy 0) na fa), (g1, wInt (cy 0) nb f2)]) → va_S A_ s_.heap H locs → ∀ ls : Array Slot, lv_has ls 5 [(0, .ref g0), (1, .int (nI fr)), (2, .ref g1), (3, .int (nI to)), (4, .int (nI k))] → W p_ l e_ (rmD 0) s_ m_ args_ below_ meth_ c_ H locs 0 0 Q_ (F0 m_ 3 ls []) := by
    intro f_
    induction f_ with
    | zero => intro k f2 hm_; exact absurd hm_ (by omega)
    | succ f_ ih3 =>
      intro k f2 hm_ hk e2 H locs hP hD hS ls hl
      refine lv_iload hx hb dX12_lay_3 (lv_at hl 4 rfl) ?_
      refine lv_bipush (v := nI 37) hx hb dX12_lay_5 (by decide) ?_
      refine geN (tgt := 28) hx hb (by omega) (by decide) dX12_lay_7 (by decide) (fun c7 => ?_) (fun c7 => ?_)
      · exact ret f2 _ _ _ _ dX12_lay_28 (by rw [e2, show k = 37 by omega]) hP hD hS
      · refine lv_aload_n hx hb dX12_lay_10 rfl (lv_at hl 2 rfl) ?_
        refine lv_iload_n hx hb dX12_lay_11 rfl (lv_at hl 3 rfl) ?_
        refine lv_iload hx hb dX12_lay_12 (lv_at hl 4 rfl) ?_
        refine adN (k := to + k) hx hb rfl dX12_lay_14 ?_
        refine lv_aload_n hx hb dX12_lay_15 rfl (lv_at hl 0 rfl) ?_
        refine lv_iload_n hx hb dX12_lay_16 rfl (lv_at hl 1 rfl) ?_
        refine lv_iload hx hb dX12_lay_17 (lv_at hl 4 rfl) ?_
        refine adN (k := fr + k) hx hb rfl dX12_lay_19 ?_
        refine ldN hx hb hK hP 0 rfl (j := fr + k) (by omega) (by omega) dX12_lay_20 ?_
        refine stN (ws' := [(g0, wInt (cy 0) na fa), (g1, wInt (cy 0) nb (upd f2 (to + k) (fa (fr + k))))]) hx hb hK hP hD hS 1 rfl (j := to + k) (by omega) (by omega) dX12_lay_21 rfl (fun H locs hP hD hS => ?_)
        refine lv_iinc (v := nI (k + 1)) (lv' := [(4, .int (nI (k + 1))), (0, .ref g0), (1, .int (nI fr)), (2, .ref g1), (3, .int (nI to))]) hx hb dX12_lay_22 hl (k := 4) rfl (nI_1 _) (by decide) rfl (fun ls hl => ?_)
        refine lv_goto (tgt := 3) hx hb dX12_lay_25 (by decide) ?_
        exact ih3 (k + 1) (upd f2 (to + k) (fa (fr + k))) (by omega) (by omega) (by rw [e2]; rfl) _ _ hP hD hS ls (lv_sub hl [1, 2, 3, 4, 0] rfl)
  exact lp3 (37 - 0 + 1) 0 fb (by omega) (by omega) rfl _ _ hP hD hS ls (lv_sub hl [1, 2, 3, 4, 0] rfl)
set_option maxHeartbeats 4000000 in
set_option maxRecDepth 100000 in
theorem k_X12_cardAt (l : Launch) (D : va_G) (cy : Nat → ClassId) (sz : Nat) (g0 : Nat) (s : Nat → Int32) (d : Int32) (pl : Int32) (n : Nat) (hn : n ≤ 8) (h3 : s 3 = nI n) : Met l yX12_cardAt wsX12_cardAt (rmD 0) (pPre D (TY cy) ([(g0, wInt (cy 0) 37 s)]) sz [.ref g0, .int d, .int pl]) (pI D (TY cy) ([(g0, wInt (cy 0) 37 s)]) sz (fun _ : Unit => [(g0, wInt (cy 0) 37 s)]) (fun (r : Int32) (_ : Unit) => r = cardAtN s d pl n)) 0 0 (va_A ([(g0, wInt (cy 0) 37 s)]) sz) := by
  refine ent_i (cc := cX12_cardAt) (maxL := 5) (by decide +kernel) rfl (Nat.le_of_ble_eq_true rfl) ?_
  intro p_ e_ s_ m_ args_ below_ meth_ c_ A_ Q_ ls B0 ret
  obtain ⟨CF, hA, hKN, hP, hD, hl⟩ := B0
  have hK := hKN.1
  obtain ⟨hx, hb, hml, hown, hts⟩ := id CF
  have hS : va_S A_ s_.heap s_.heap [] := va_S.rf
  have hl : lv_has ls 5 [(0, .ref g0), (1, .int d), (2, .int pl)] := hl
  have hc137 := hts (.constant RX12 137 (-1000000)) (by decide +kernel)
  refine lv_ldc hx hb hown hc137 dX12_cardAt_0 ?_
  refine lv_istore_n (lv' := [(3, .int (-1000000)), (0, .ref g0), (1, .int d), (2, .int pl)]) hx hb dX12_cardAt_2 rfl hl (by decide) rfl (fun ls hl => ?_)
  refine lv_iconst (v := nI 0) hx hb dX12_cardAt_3 (by decide) ?_
  refine lv_istore (lv' := [(4, .int (nI 0)), (3, .int (-1000000)), (0, .ref g0), (1, .int d), (2, .int pl)]) hx hb dX12_cardAt_4 hl (by decide) rfl (fun ls hl => ?_)
  have lp6 : ∀ f_ : Nat, ∀ (i : Nat) (x3 : Int32), (n - i) < f_ → (i ≤ n) → (x3 = cardAtN s d pl i) → ∀ (H : Heap) (locs : List Loc), va_P D vwCl ([(g0, wInt (cy 0) 37 s)]) H → va_D A_ ([(g0, wInt (cy 0) 37 s)]) → va_S A_ s_.heap H locs → ∀ ls : Array Slot, lv_has ls 5 [(0, .ref g0), (1, .int d), (2, .int pl), (3, .int x3), (4, .int (nI i))] → W p_ l e_ (rmD 0) s_ m_ args_ below_ meth_ c_ H locs 0 0 Q_ (F0 m_ 6 ls []) := by
    intro f_
    induction f_ with
    | zero => intro i x3 hm_; exact absurd hm_ (by omega)
    | succ f_ ih6 =>
      intro i x3 hm_ hi e3 H locs hP hD hS ls hl
      refine lv_iload hx hb dX12_cardAt_6 (lv_at hl 4 rfl) ?_
      refine lv_aload_n hx hb dX12_cardAt_8 rfl (lv_at hl 0 rfl) ?_
      refine lv_iconst (v := nI 3) hx hb dX12_cardAt_9 (by decide) ?_
      refine ldN hx hb hK hP 0 rfl (j := 3) (by omega) (by decide) dX12_cardAt_10 ?_
      refine top_i h3 ?_
      refine geN (tgt := 49) hx hb (by omega) (by omega) dX12_cardAt_11 (by decide) (fun c11 => ?_) (fun c11 => ?_)
      · refine lv_iload_n hx hb dX12_cardAt_49 rfl (lv_at hl 3 rfl) ?_
        exact ret _ () _ _ _ _ dX12_cardAt_50 (by rw [e3, show i = n by omega]) hP hD hS
      · refine lv_aload_n hx hb dX12_cardAt_14 rfl (lv_at hl 0 rfl) ?_
        refine lv_bipush (v := nI 21) hx hb dX12_cardAt_15 (by decide) ?_
        refine lv_iload hx hb dX12_cardAt_17 (lv_at hl 4 rfl) ?_
        refine adN (k := 21 + i) hx hb rfl dX12_cardAt_19 ?_
        refine ldN hx hb hK hP 0 rfl (j := 21 + i) (by omega) (by decide) dX12_cardAt_20 ?_
        refine lv_iload_n hx hb dX12_cardAt_21 rfl (lv_at hl 1 rfl) ?_
        refine lv_icmp_ne (tgt := 41) hx hb dX12_cardAt_22 (by decide) (fun c22 => ?_) (fun c22 => ?_)
        · refine lv_iload_n hx hb dX12_cardAt_41 rfl (lv_at hl 3 rfl) ?_
          refine lv_istore_n (lv' := [(3, .int x3), (0, .ref g0), (1, .int d), (2, .int pl), (4, .int (nI i))]) hx hb dX12_cardAt_42 rfl hl (by decide) rfl (fun ls hl => ?_)
          refine lv_iinc (v := nI (i + 1)) (lv' := [(4, .int (nI (i + 1))), (3, .int x3), (0, .ref g0), (1, .int d), (2, .int pl)]) hx hb dX12_cardAt_43 hl (k := 4) rfl (nI_1 _) (by decide) rfl (fun ls hl => ?_)
          refine lv_goto (tgt := 6) hx hb dX12_cardAt_46 (by decide) ?_
          exact ih6 (i + 1) x3 (by omega) (by omega) (by subst e3; rw [cardAtN]; simp [c11, Nat.not_le_of_lt c11, c22]) _ _ hP hD hS ls (lv_sub hl [2, 3, 4, 1, 0] rfl)
        · refine lv_aload_n hx hb dX12_cardAt_25 rfl (lv_at hl 0 rfl) ?_
          refine lv_bipush (v := nI 29) hx hb dX12_cardAt_26 (by decide) ?_
          refine lv_iload hx hb dX12_cardAt_28 (lv_at hl 4 rfl) ?_
          refine adN (k := 29 + i) hx hb rfl dX12_cardAt_30 ?_
          refine ldN hx hb hK hP 0 rfl (j := 29 + i) (by omega) (by decide) dX12_cardAt_31 ?_
          refine lv_iload_n hx hb dX12_cardAt_32 rfl (lv_at hl 2 rfl) ?_
          refine lv_icmp_ne (tgt := 41) hx hb dX12_cardAt_33 (by decide) (fun c33 => ?_) (fun c33 => ?_)
          · refine lv_iload_n hx hb dX12_cardAt_41 rfl (lv_at hl 3 rfl) ?_
            refine lv_istore_n (lv' := [(3, .int x3), (0, .ref g0), (1, .int d), (2, .int pl), (4, .int (nI i))]) hx hb dX12_cardAt_42 rfl hl (by decide) rfl (fun ls hl => ?_)
            refine lv_iinc (v := nI (i + 1)) (lv' := [(4, .int (nI (i + 1))), (3, .int x3), (0, .ref g0), (1, .int d), (2, .int pl)]) hx hb dX12_cardAt_43 hl (k := 4) rfl (nI_1 _) (by decide) rfl (fun ls hl => ?_)
            refine lv_goto (tgt := 6) hx hb dX12_cardAt_46 (by decide) ?_
            exact ih6 (i + 1) x3 (by omega) (by omega) (by subst e3; rw [cardAtN]; simp [c11, Nat.not_le_of_lt c11, c22, c33]) _ _ hP hD hS ls (lv_sub hl [2, 3, 4, 1, 0] rfl)
          · refine lv_iload hx hb dX12_cardAt_36 (lv_at hl 4 rfl) ?_
            refine lv_goto (tgt := 42) hx hb dX12_cardAt_38 (by decide) ?_
            refine lv_istore_n (lv' := [(3, .int (nI i)), (0, .ref g0), (1, .int d), (2, .int pl), (4, .int (nI i))]) hx hb dX12_cardAt_42 rfl hl (by decide) rfl (fun ls hl => ?_)
            refine lv_iinc (v := nI (i + 1)) (lv' := [(4, .int (nI (i + 1))), (3, .int (nI i)), (0, .ref g0), (1, .int d), (2, .int pl)]) hx hb dX12_cardAt_43 hl (k := 4) rfl (nI_1 _) (by decide) rfl (fun ls hl => ?_)
            refine lv_goto (tgt := 6) hx hb dX12_cardAt_46 (by decide) ?_
            exact ih6 (i + 1) (nI i) (by omega) (by omega) (by subst e3; rw [cardAtN]; simp [c11, Nat.not_le_of_lt c11, c22, c33]) _ _ hP hD hS ls (lv_sub hl [2, 3, 4, 1, 0] rfl)
  exact lp6 (n - 0 + 1) 0 (-1000000) (by omega) (by omega) rfl _ _ hP hD hS ls (lv_sub hl [2, 3, 4, 1, 0] rfl)
set_option maxHeartbeats 4000000 in
set_option maxRecDepth 100000 in
theorem k_X12_goesOut (l : Launch) (D : va_G) (cy : Nat → ClassId) (sz : Nat) (g0 : Nat) (s : Nat → Int32) (c : Nat) (n : Nat) (hn : n ≤ 8) (h3 : s 3 = nI n) (hc : c < n) : Met l yX12_goesOut wsX12_goesOut (rmD 0) (pPre D (TY cy) ([(g0, wInt (cy 0) 37 s)]) sz [.ref g0, .int (nI c)]) (pV D (TY cy) ([(g0, wInt (cy 0) 37 s)]) sz (fun f2 : Nat → Int32 => [(g0, wInt (cy 0) 37 f2)]) (fun (u : (Nat → Int32)) => u = outS s n c)) 0 0 (va_A ([(g0, wInt (cy 0) 37 s)]) sz) := by
  refine ent_v (cc := cX12_goesOut) (maxL := 3) (by decide +kernel) rfl (Nat.le_of_ble_eq_true rfl) ?_
  intro p_ e_ s_ m_ args_ below_ meth_ c_ A_ Q_ ls B0 ret
  obtain ⟨CF, hA, hKN, hP, hD, hl⟩ := B0
  have hK := hKN.1
  obtain ⟨hx, hb, hml, hown, hts⟩ := id CF
  have hS : va_S A_ s_.heap s_.heap [] := va_S.rf
  have hl : lv_has ls 3 [(0, .ref g0), (1, .int (nI c))] := hl
  refine lv_iconst (v := nI 0) hx hb dX12_goesOut_0 (by decide) ?_
  refine lv_istore_n (lv' := [(2, .int (nI 0)), (0, .ref g0), (1, .int (nI c))]) hx hb dX12_goesOut_1 rfl hl (by decide) rfl (fun ls hl => ?_)
  have lp2 : ∀ f_ : Nat, ∀ (i : Nat) (f2 : Nat → Int32), (n - i) < f_ → (i ≤ n) → (f2 3 = nI n) → (f2 = outN s c i) → ∀ (H : Heap) (locs : List Loc), va_P D vwCl ([(g0, wInt (cy 0) 37 f2)]) H → va_D A_ ([(g0, wInt (cy 0) 37 f2)]) → va_S A_ s_.heap H locs → ∀ ls : Array Slot, lv_has ls 3 [(0, .ref g0), (1, .int (nI c)), (2, .int (nI i))] → W p_ l e_ (rmD 0) s_ m_ args_ below_ meth_ c_ H locs 0 0 Q_ (F0 m_ 2 ls []) := by
    intro f_
    induction f_ with
    | zero => intro i f2 hm_; exact absurd hm_ (by omega)
    | succ f_ ih2 =>
      intro i f2 hm_ hi hf3 e2 H locs hP hD hS ls hl
      refine lv_iload_n hx hb dX12_goesOut_2 rfl (lv_at hl 2 rfl) ?_
      refine lv_aload_n hx hb dX12_goesOut_3 rfl (lv_at hl 0 rfl) ?_
      refine lv_iconst (v := nI 3) hx hb dX12_goesOut_4 (by decide) ?_
      refine ldN hx hb hK hP 0 rfl (j := 3) (by omega) (by decide) dX12_goesOut_5 ?_
      refine top_i hf3 ?_
      refine geN (tgt := 59) hx hb (by omega) (by omega) dX12_goesOut_6 (by decide) (fun c6 => ?_) (fun c6 => ?_)
      · refine lv_aload_n hx hb dX12_goesOut_59 rfl (lv_at hl 0 rfl) ?_
        refine lv_bipush (v := nI 21) hx hb dX12_goesOut_60 (by decide) ?_
        refine lv_iload_n hx hb dX12_goesOut_62 rfl (lv_at hl 1 rfl) ?_
        refine adN (k := 21 + c) hx hb rfl dX12_goesOut_63 ?_
        refine lv_iconst (v := (-1)) hx hb dX12_goesOut_64 (by decide) ?_
        refine stN (ws' := [(g0, wInt (cy 0) 37 (upd f2 (21 + c) (-1)))]) hx hb hK hP hD hS 0 rfl (j := 21 + c) (by omega) (by decide) dX12_goesOut_65 rfl (fun H locs hP hD hS => ?_)
        exact ret (upd f2 (21 + c) (-1)) _ _ _ _ dX12_goesOut_66 (by rw [e2, show i = n by omega]; rfl) hP hD hS
      · refine lv_aload_n hx hb dX12_goesOut_9 rfl (lv_at hl 0 rfl) ?_
        refine lv_bipush (v := nI 29) hx hb dX12_goesOut_10 (by decide) ?_
        refine lv_iload_n hx hb dX12_goesOut_12 rfl (lv_at hl 2 rfl) ?_
        refine adN (k := 29 + i) hx hb rfl dX12_goesOut_13 ?_
        refine lv_dup2_11 hx hb dX12_goesOut_14 rfl rfl ?_
        refine ldN hx hb hK hP 0 rfl (j := 29 + i) (by omega) (by decide) dX12_goesOut_15 ?_
        refine lv_aload_n hx hb dX12_goesOut_16 rfl (lv_at hl 0 rfl) ?_
        refine lv_bipush (v := nI 21) hx hb dX12_goesOut_17 (by decide) ?_
        refine lv_iload_n hx hb dX12_goesOut_19 rfl (lv_at hl 2 rfl) ?_
        refine adN (k := 21 + i) hx hb rfl dX12_goesOut_20 ?_
        refine ldN hx hb hK hP 0 rfl (j := 21 + i) (by omega) (by decide) dX12_goesOut_21 ?_
        refine lv_aload_n hx hb dX12_goesOut_22 rfl (lv_at hl 0 rfl) ?_
        refine lv_bipush (v := nI 21) hx hb dX12_goesOut_23 (by decide) ?_
        refine lv_iload_n hx hb dX12_goesOut_25 rfl (lv_at hl 1 rfl) ?_
        refine adN (k := 21 + c) hx hb rfl dX12_goesOut_26 ?_
        refine ldN hx hb hK hP 0 rfl (j := 21 + c) (by omega) (by decide) dX12_goesOut_27 ?_
        refine lv_icmp_ne (tgt := 50) hx hb dX12_goesOut_28 (by decide) (fun c28 => ?_) (fun c28 => ?_)
        · refine lv_iconst (v := nI 0) hx hb dX12_goesOut_50 (by decide) ?_
          refine lv_isub hx hb dX12_goesOut_51 ?_
          refine stN (ws' := [(g0, wInt (cy 0) 37 (upd f2 (29 + i) (f2 (29 + i) - nI 0)))]) hx hb hK hP hD hS 0 rfl (j := 29 + i) (by omega) (by decide) dX12_goesOut_52 rfl (fun H locs hP hD hS => ?_)
          refine lv_iinc (v := nI (i + 1)) (lv' := [(2, .int (nI (i + 1))), (0, .ref g0), (1, .int (nI c))]) hx hb dX12_goesOut_53 hl (k := 2) rfl (nI_1 _) (by decide) rfl (fun ls hl => ?_)
          refine lv_goto (tgt := 2) hx hb dX12_goesOut_56 (by decide) ?_
          exact ih2 (i + 1) (upd f2 (29 + i) (f2 (29 + i) - nI 0)) (by omega) (by omega) (by rw [pk_un (by omega)]; exact hf3) (by rw [e2] at *; rw [outN]; simp [c6, Nat.not_le_of_lt c6, c28]) _ _ hP hD hS ls (lv_sub hl [1, 2, 0] rfl)
        · refine lv_aload_n hx hb dX12_goesOut_31 rfl (lv_at hl 0 rfl) ?_
          refine lv_bipush (v := nI 29) hx hb dX12_goesOut_32 (by decide) ?_
          refine lv_iload_n hx hb dX12_goesOut_34 rfl (lv_at hl 2 rfl) ?_
          refine adN (k := 29 + i) hx hb rfl dX12_goesOut_35 ?_
          refine ldN hx hb hK hP 0 rfl (j := 29 + i) (by omega) (by decide) dX12_goesOut_36 ?_
          refine lv_aload_n hx hb dX12_goesOut_37 rfl (lv_at hl 0 rfl) ?_
          refine lv_bipush (v := nI 29) hx hb dX12_goesOut_38 (by decide) ?_
          refine lv_iload_n hx hb dX12_goesOut_40 rfl (lv_at hl 1 rfl) ?_
          refine adN (k := 29 + c) hx hb rfl dX12_goesOut_41 ?_
          refine ldN hx hb hK hP 0 rfl (j := 29 + c) (by omega) (by decide) dX12_goesOut_42 ?_
          refine lv_icmp_le (tgt := 50) hx hb dX12_goesOut_43 (by decide) (fun c43 => ?_) (fun c43 => ?_)
          · refine lv_iconst (v := nI 0) hx hb dX12_goesOut_50 (by decide) ?_
            refine lv_isub hx hb dX12_goesOut_51 ?_
            refine stN (ws' := [(g0, wInt (cy 0) 37 (upd f2 (29 + i) (f2 (29 + i) - nI 0)))]) hx hb hK hP hD hS 0 rfl (j := 29 + i) (by omega) (by decide) dX12_goesOut_52 rfl (fun H locs hP hD hS => ?_)
            refine lv_iinc (v := nI (i + 1)) (lv' := [(2, .int (nI (i + 1))), (0, .ref g0), (1, .int (nI c))]) hx hb dX12_goesOut_53 hl (k := 2) rfl (nI_1 _) (by decide) rfl (fun ls hl => ?_)
            refine lv_goto (tgt := 2) hx hb dX12_goesOut_56 (by decide) ?_
            exact ih2 (i + 1) (upd f2 (29 + i) (f2 (29 + i) - nI 0)) (by omega) (by omega) (by rw [pk_un (by omega)]; exact hf3) (by rw [e2] at *; rw [outN]; simp [c6, Nat.not_le_of_lt c6, c28, c43]) _ _ hP hD hS ls (lv_sub hl [1, 2, 0] rfl)
          · refine lv_iconst (v := nI 1) hx hb dX12_goesOut_46 (by decide) ?_
            refine lv_goto (tgt := 51) hx hb dX12_goesOut_47 (by decide) ?_
            refine lv_isub hx hb dX12_goesOut_51 ?_
            refine stN (ws' := [(g0, wInt (cy 0) 37 (upd f2 (29 + i) (f2 (29 + i) - nI 1)))]) hx hb hK hP hD hS 0 rfl (j := 29 + i) (by omega) (by decide) dX12_goesOut_52 rfl (fun H locs hP hD hS => ?_)
            refine lv_iinc (v := nI (i + 1)) (lv' := [(2, .int (nI (i + 1))), (0, .ref g0), (1, .int (nI c))]) hx hb dX12_goesOut_53 hl (k := 2) rfl (nI_1 _) (by decide) rfl (fun ls hl => ?_)
            refine lv_goto (tgt := 2) hx hb dX12_goesOut_56 (by decide) ?_
            exact ih2 (i + 1) (upd f2 (29 + i) (f2 (29 + i) - nI 1)) (by omega) (by omega) (by rw [pk_un (by omega)]; exact hf3) (by rw [e2] at *; rw [outN]; simp [c6, Nat.not_le_of_lt c6, c28, c43]) _ _ hP hD hS ls (lv_sub hl [1, 2, 0] rfl)
  exact lp2 (n - 0 + 1) 0 s (by omega) (by omega) h3 rfl _ _ hP hD hS ls (lv_sub hl [1, 2, 0] rfl)
set_option maxHeartbeats 4000000 in
set_option maxRecDepth 100000 in
theorem k_X12_comesIn (l : Launch) (D : va_G) (cy : Nat → ClassId) (sz : Nat) (g0 : Nat) (s : Nat → Int32) (c : Nat) (d : Int32) (pl : Int32) (n : Nat) (hn : n ≤ 8) (h3 : s 3 = nI n) (hc : c < n) : Met l yX12_comesIn wsX12_comesIn (rmD 0) (pPre D (TY cy) ([(g0, wInt (cy 0) 37 s)]) sz [.ref g0, .int (nI c), .int d, .int pl]) (pV D (TY cy) ([(g0, wInt (cy 0) 37 s)]) sz (fun f2 : Nat → Int32 => [(g0, wInt (cy 0) 37 f2)]) (fun (u : (Nat → Int32)) => u = inS s n c d pl)) 0 0 (va_A ([(g0, wInt (cy 0) 37 s)]) sz) := by
  refine ent_v (cc := cX12_comesIn) (maxL := 5) (by decide +kernel) rfl (Nat.le_of_ble_eq_true rfl) ?_
  intro p_ e_ s_ m_ args_ below_ meth_ c_ A_ Q_ ls B0 ret
  obtain ⟨CF, hA, hKN, hP, hD, hl⟩ := B0
  have hK := hKN.1
  obtain ⟨hx, hb, hml, hown, hts⟩ := id CF
  have hS : va_S A_ s_.heap s_.heap [] := va_S.rf
  have hl : lv_has ls 5 [(0, .ref g0), (1, .int (nI c)), (2, .int d), (3, .int pl)] := hl
  refine lv_iconst (v := nI 0) hx hb dX12_comesIn_0 (by decide) ?_
  refine lv_istore (lv' := [(4, .int (nI 0)), (0, .ref g0), (1, .int (nI c)), (2, .int d), (3, .int pl)]) hx hb dX12_comesIn_1 hl (by decide) rfl (fun ls hl => ?_)
  have lp3 : ∀ f_ : Nat, ∀ (i : Nat) (f2 : Nat → Int32), (n - i) < f_ → (i ≤ n) → (f2 3 = nI n) → (f2 = inN s d pl i) → ∀ (H : Heap) (locs : List Loc), va_P D vwCl ([(g0, wInt (cy 0) 37 f2)]) H → va_D A_ ([(g0, wInt (cy 0) 37 f2)]) → va_S A_ s_.heap H locs → ∀ ls : Array Slot, lv_has ls 5 [(0, .ref g0), (1, .int (nI c)), (2, .int d), (3, .int pl), (4, .int (nI i))] → W p_ l e_ (rmD 0) s_ m_ args_ below_ meth_ c_ H locs 0 0 Q_ (F0 m_ 3 ls []) := by
    intro f_
    induction f_ with
    | zero => intro i f2 hm_; exact absurd hm_ (by omega)
    | succ f_ ih3 =>
      intro i f2 hm_ hi hf3 e2 H locs hP hD hS ls hl
      refine lv_iload hx hb dX12_comesIn_3 (lv_at hl 4 rfl) ?_
      refine lv_aload_n hx hb dX12_comesIn_5 rfl (lv_at hl 0 rfl) ?_
      refine lv_iconst (v := nI 3) hx hb dX12_comesIn_6 (by decide) ?_
      refine ldN hx hb hK hP 0 rfl (j := 3) (by omega) (by decide) dX12_comesIn_7 ?_
      refine top_i hf3 ?_
      refine geN (tgt := 54) hx hb (by omega) (by omega) dX12_comesIn_8 (by decide) (fun c8 => ?_) (fun c8 => ?_)
      · refine lv_aload_n hx hb dX12_comesIn_54 rfl (lv_at hl 0 rfl) ?_
        refine lv_bipush (v := nI 21) hx hb dX12_comesIn_55 (by decide) ?_
        refine lv_iload_n hx hb dX12_comesIn_57 rfl (lv_at hl 1 rfl) ?_
        refine adN (k := 21 + c) hx hb rfl dX12_comesIn_58 ?_
        refine lv_iload_n hx hb dX12_comesIn_59 rfl (lv_at hl 2 rfl) ?_
        refine stN (ws' := [(g0, wInt (cy 0) 37 (upd f2 (21 + c) d))]) hx hb hK hP hD hS 0 rfl (j := 21 + c) (by omega) (by decide) dX12_comesIn_60 rfl (fun H locs hP hD hS => ?_)
        refine lv_aload_n hx hb dX12_comesIn_61 rfl (lv_at hl 0 rfl) ?_
        refine lv_bipush (v := nI 29) hx hb dX12_comesIn_62 (by decide) ?_
        refine lv_iload_n hx hb dX12_comesIn_64 rfl (lv_at hl 1 rfl) ?_
        refine adN (k := 29 + c) hx hb rfl dX12_comesIn_65 ?_
        refine lv_iload_n hx hb dX12_comesIn_66 rfl (lv_at hl 3 rfl) ?_
        refine stN (ws' := [(g0, wInt (cy 0) 37 (upd (upd f2 (21 + c) d) (29 + c) pl))]) hx hb hK hP hD hS 0 rfl (j := 29 + c) (by omega) (by decide) dX12_comesIn_67 rfl (fun H locs hP hD hS => ?_)
        exact ret (upd (upd f2 (21 + c) d) (29 + c) pl) _ _ _ _ dX12_comesIn_68 (by rw [e2, show i = n by omega]; rfl) hP hD hS
      · refine lv_aload_n hx hb dX12_comesIn_11 rfl (lv_at hl 0 rfl) ?_
        refine lv_bipush (v := nI 29) hx hb dX12_comesIn_12 (by decide) ?_
        refine lv_iload hx hb dX12_comesIn_14 (lv_at hl 4 rfl) ?_
        refine adN (k := 29 + i) hx hb rfl dX12_comesIn_16 ?_
        refine lv_dup2_11 hx hb dX12_comesIn_17 rfl rfl ?_
        refine ldN hx hb hK hP 0 rfl (j := 29 + i) (by omega) (by decide) dX12_comesIn_18 ?_
        refine lv_aload_n hx hb dX12_comesIn_19 rfl (lv_at hl 0 rfl) ?_
        refine lv_bipush (v := nI 21) hx hb dX12_comesIn_20 (by decide) ?_
        refine lv_iload hx hb dX12_comesIn_22 (lv_at hl 4 rfl) ?_
        refine adN (k := 21 + i) hx hb rfl dX12_comesIn_24 ?_
        refine ldN hx hb hK hP 0 rfl (j := 21 + i) (by omega) (by decide) dX12_comesIn_25 ?_
        refine lv_iload_n hx hb dX12_comesIn_26 rfl (lv_at hl 2 rfl) ?_
        refine lv_icmp_ne (tgt := 45) hx hb dX12_comesIn_27 (by decide) (fun c27 => ?_) (fun c27 => ?_)
        · refine lv_iconst (v := nI 0) hx hb dX12_comesIn_45 (by decide) ?_
          refine lv_iadd hx hb dX12_comesIn_46 ?_
          refine stN (ws' := [(g0, wInt (cy 0) 37 (upd f2 (29 + i) (f2 (29 + i) + nI 0)))]) hx hb hK hP hD hS 0 rfl (j := 29 + i) (by omega) (by decide) dX12_comesIn_47 rfl (fun H locs hP hD hS => ?_)
          refine lv_iinc (v := nI (i + 1)) (lv' := [(4, .int (nI (i + 1))), (0, .ref g0), (1, .int (nI c)), (2, .int d), (3, .int pl)]) hx hb dX12_comesIn_48 hl (k := 4) rfl (nI_1 _) (by decide) rfl (fun ls hl => ?_)
          refine lv_goto (tgt := 3) hx hb dX12_comesIn_51 (by decide) ?_
          exact ih3 (i + 1) (upd f2 (29 + i) (f2 (29 + i) + nI 0)) (by omega) (by omega) (by rw [pk_un (by omega)]; exact hf3) (by rw [e2] at *; rw [inN]; simp [c8, Nat.not_le_of_lt c8, c27]) _ _ hP hD hS ls (lv_sub hl [1, 2, 3, 4, 0] rfl)
        · refine lv_aload_n hx hb dX12_comesIn_30 rfl (lv_at hl 0 rfl) ?_
          refine lv_bipush (v := nI 29) hx hb dX12_comesIn_31 (by decide) ?_
          refine lv_iload hx hb dX12_comesIn_33 (lv_at hl 4 rfl) ?_
          refine adN (k := 29 + i) hx hb rfl dX12_comesIn_35 ?_
          refine ldN hx hb hK hP 0 rfl (j := 29 + i) (by omega) (by decide) dX12_comesIn_36 ?_
          refine lv_iload_n hx hb dX12_comesIn_37 rfl (lv_at hl 3 rfl) ?_
          refine lv_icmp_lt (tgt := 45) hx hb dX12_comesIn_38 (by decide) (fun c38 => ?_) (fun c38 => ?_)
          · refine lv_iconst (v := nI 0) hx hb dX12_comesIn_45 (by decide) ?_
            refine lv_iadd hx hb dX12_comesIn_46 ?_
            refine stN (ws' := [(g0, wInt (cy 0) 37 (upd f2 (29 + i) (f2 (29 + i) + nI 0)))]) hx hb hK hP hD hS 0 rfl (j := 29 + i) (by omega) (by decide) dX12_comesIn_47 rfl (fun H locs hP hD hS => ?_)
            refine lv_iinc (v := nI (i + 1)) (lv' := [(4, .int (nI (i + 1))), (0, .ref g0), (1, .int (nI c)), (2, .int d), (3, .int pl)]) hx hb dX12_comesIn_48 hl (k := 4) rfl (nI_1 _) (by decide) rfl (fun ls hl => ?_)
            refine lv_goto (tgt := 3) hx hb dX12_comesIn_51 (by decide) ?_
            exact ih3 (i + 1) (upd f2 (29 + i) (f2 (29 + i) + nI 0)) (by omega) (by omega) (by rw [pk_un (by omega)]; exact hf3) (by rw [e2] at *; rw [inN]; simp [c8, Nat.not_le_of_lt c8, c27, c38]) _ _ hP hD hS ls (lv_sub hl [1, 2, 3, 4, 0] rfl)
          · refine lv_iconst (v := nI 1) hx hb dX12_comesIn_41 (by decide) ?_
            refine lv_goto (tgt := 46) hx hb dX12_comesIn_42 (by decide) ?_
            refine lv_iadd hx hb dX12_comesIn_46 ?_
            refine stN (ws' := [(g0, wInt (cy 0) 37 (upd f2 (29 + i) (f2 (29 + i) + nI 1)))]) hx hb hK hP hD hS 0 rfl (j := 29 + i) (by omega) (by decide) dX12_comesIn_47 rfl (fun H locs hP hD hS => ?_)
            refine lv_iinc (v := nI (i + 1)) (lv' := [(4, .int (nI (i + 1))), (0, .ref g0), (1, .int (nI c)), (2, .int d), (3, .int pl)]) hx hb dX12_comesIn_48 hl (k := 4) rfl (nI_1 _) (by decide) rfl (fun ls hl => ?_)
            refine lv_goto (tgt := 3) hx hb dX12_comesIn_51 (by decide) ?_
            exact ih3 (i + 1) (upd f2 (29 + i) (f2 (29 + i) + nI 1)) (by omega) (by omega) (by rw [pk_un (by omega)]; exact hf3) (by rw [e2] at *; rw [inN]; simp [c8, Nat.not_le_of_lt c8, c27, c38]) _ _ hP hD hS ls (lv_sub hl [1, 2, 3, 4, 0] rfl)
  exact lp3 (n - 0 + 1) 0 s (by omega) (by omega) h3 rfl _ _ hP hD hS ls (lv_sub hl [1, 2, 3, 4, 0] rfl)
set_option maxHeartbeats 4000000 in
set_option maxRecDepth 100000 in
theorem k_X12_goesBehind (l : Launch) (D : va_G) (cy : Nat → ClassId) (sz : Nat) (g0 : Nat) (s : Nat → Int32) (c : Nat) (d : Int32) (n : Nat) (hn : n ≤ 8) (h3 : s 3 = nI n) (hc : c < n) : Met l yX12_goesBehind wsX12_goesBehind (rmD 1) (pPre D (TY cy) ([(g0, wInt (cy 0) 37 s)]) sz [.ref g0, .int (nI c), .int d]) (pV D (TY cy) ([(g0, wInt (cy 0) 37 s)]) sz (fun f2 : Nat → Int32 => [(g0, wInt (cy 0) 37 f2)]) (fun (u : (Nat → Int32)) => u = behindS s n c d)) 0 0 (va_A ([(g0, wInt (cy 0) 37 s)]) sz) := by
  refine ent_v (cc := cX12_goesBehind) (maxL := 3) (by decide +kernel) rfl (Nat.le_of_ble_eq_true rfl) ?_
  intro p_ e_ s_ m_ args_ below_ meth_ c_ A_ Q_ ls B0 ret
  obtain ⟨CF, hA, hKN, hP, hD, hl⟩ := B0
  have hK := hKN.1
  obtain ⟨hx, hb, hml, hown, hts⟩ := id CF
  have hS : va_S A_ s_.heap s_.heap [] := va_S.rf
  have hl : lv_has ls 3 [(0, .ref g0), (1, .int (nI c)), (2, .int d)] := hl
  refine lv_aload_n hx hb dX12_goesBehind_0 rfl (lv_at hl 0 rfl) ?_
  refine lv_iload_n hx hb dX12_goesBehind_1 rfl (lv_at hl 1 rfl) ?_
  refine call_v (wr := []) (ws' := (fun u1 : (Nat → Int32) => [(g0, wInt (cy 0) 37 u1)])) (va_runS (As := [.ref g0, .int (nI c)]) (rest := []) CF (k_X12_goesOut l D cy _ g0 s c n (by first | assumption | omega) (by first | assumption | omega) (by first | assumption | omega)) (va_cwS 2 hts gX12_goesBehind_X12_goesOut rfl rfl rfl (by decide +kernel) ⟨Nat.le_of_ble_eq_true rfl, Nat.le_of_ble_eq_true rfl⟩) (pre_S hKN hP hD [0] rfl (by decide)) rfl rfl hl.1 rfl (lv_room (Nat.le_of_ble_eq_true rfl)) dX12_goesBehind_2 ⟨Nat.le_of_ble_eq_true rfl, Nat.le_of_ble_eq_true rfl⟩) hS hA hP hD [0] [] [0] rfl rfl (by decide) (by decide) (fun _ => rfl) (by decide) (fun u1 H locs hw3 hP hD hS => ?_)
  obtain rfl := hw3
  have hP : va_P D vwCl ([(g0, wInt (cy 0) 37 (outS s n c))]) H := hP
  have hD : va_D A_ ([(g0, wInt (cy 0) 37 (outS s n c))]) := hD
  refine lv_aload_n hx hb dX12_goesBehind_5 rfl (lv_at hl 0 rfl) ?_
  refine lv_iload_n hx hb dX12_goesBehind_6 rfl (lv_at hl 1 rfl) ?_
  refine lv_iload_n hx hb dX12_goesBehind_7 rfl (lv_at hl 2 rfl) ?_
  refine lv_aload_n hx hb dX12_goesBehind_8 rfl (lv_at hl 0 rfl) ?_
  refine lv_iload_n hx hb dX12_goesBehind_9 rfl (lv_at hl 2 rfl) ?_
  refine call_i (wr := []) (ws' := (fun _ : Unit => [(g0, wInt (cy 0) 37 (outS s n c))])) (va_runS (As := [.ref g0, .int d]) (rest := [.int d, .int (nI c), .ref g0]) CF (k_X12_inDrawer l D cy _ g0 (outS s n c) d n (by first | assumption | omega) (by rw [outS_lo _ _ _ (by omega)]; exact h3)) (va_cwS 2 hts gX12_goesBehind_X12_inDrawer rfl rfl rfl (by decide +kernel) ⟨Nat.le_of_ble_eq_true rfl, Nat.le_of_ble_eq_true rfl⟩) (pre_S hKN hP hD [0] rfl (by decide)) rfl rfl hl.1 rfl (lv_room (Nat.le_of_ble_eq_true rfl)) dX12_goesBehind_10 ⟨Nat.le_of_ble_eq_true rfl, Nat.le_of_ble_eq_true rfl⟩) hS hA hP hD [0] [] [0] rfl rfl (by decide) (by decide) (fun _ => rfl) (by decide) (fun r5 u4 H locs hw6 hP hD hS => ?_)
  obtain rfl := hw6
  refine call_v (wr := []) (ws' := (fun u7 : (Nat → Int32) => [(g0, wInt (cy 0) 37 u7)])) (va_runS (As := [.ref g0, .int (nI c), .int d, .int (fillN (outS s n c) d n)]) (rest := []) CF (k_X12_comesIn l D cy _ g0 (outS s n c) c d (fillN (outS s n c) d n) n (by first | assumption | omega) (by rw [outS_lo _ _ _ (by omega)]; exact h3) (by first | assumption | omega)) (va_cwS 4 hts gX12_goesBehind_X12_comesIn rfl rfl rfl (by decide +kernel) ⟨Nat.le_of_ble_eq_true rfl, Nat.le_of_ble_eq_true rfl⟩) (pre_S hKN hP hD [0] rfl (by decide)) rfl rfl hl.1 rfl (lv_room (Nat.le_of_ble_eq_true rfl)) dX12_goesBehind_13 ⟨Nat.le_of_ble_eq_true rfl, Nat.le_of_ble_eq_true rfl⟩) hS hA hP hD [0] [] [0] rfl rfl (by decide) (by decide) (fun _ => rfl) (by decide) (fun u7 H locs hw9 hP hD hS => ?_)
  obtain rfl := hw9
  have hP : va_P D vwCl ([(g0, wInt (cy 0) 37 (inS (outS s n c) n c d (fillN (outS s n c) d n)))]) H := hP
  have hD : va_D A_ ([(g0, wInt (cy 0) 37 (inS (outS s n c) n c d (fillN (outS s n c) d n)))]) := hD
  exact ret (inS (outS s n c) n c d (fillN (outS s n c) d n)) _ _ _ _ dX12_goesBehind_16 rfl hP hD hS
set_option maxHeartbeats 4000000 in
set_option maxRecDepth 100000 in
theorem k_X12_goesBy (l : Launch) (D : va_G) (cy : Nat → ClassId) (sz : Nat) (g0 : Nat) (s : Nat → Int32) (c : Nat) (k : Nat) (n : Nat) (hn : n ≤ 8) (h3 : s 3 = nI n) (hc : c < n) (hk : k ≤ 7) : Met l yX12_goesBy wsX12_goesBy (rmD 1) (pPre D (TY cy) ([(g0, wInt (cy 0) 37 s)]) sz [.ref g0, .int (nI c), .int (nI k)]) (pV D (TY cy) ([(g0, wInt (cy 0) 37 s)]) sz (fun f2 : Nat → Int32 => [(g0, wInt (cy 0) 37 f2)]) (fun (u : (Nat → Int32)) => u = byS s n c k)) 0 0 (va_A ([(g0, wInt (cy 0) 37 s)]) sz) := by
  refine ent_v (cc := cX12_goesBy) (maxL := 3) (by decide +kernel) rfl (Nat.le_of_ble_eq_true rfl) ?_
  intro p_ e_ s_ m_ args_ below_ meth_ c_ A_ Q_ ls B0 ret
  obtain ⟨CF, hA, hKN, hP, hD, hl⟩ := B0
  have hK := hKN.1
  obtain ⟨hx, hb, hml, hown, hts⟩ := id CF
  have hS : va_S A_ s_.heap s_.heap [] := va_S.rf
  have hl : lv_has ls 3 [(0, .ref g0), (1, .int (nI c)), (2, .int (nI k))] := hl
  refine lv_aload_n hx hb dX12_goesBy_0 rfl (lv_at hl 0 rfl) ?_
  refine lv_iload_n hx hb dX12_goesBy_1 rfl (lv_at hl 1 rfl) ?_
  refine call_v (wr := []) (ws' := (fun u1 : (Nat → Int32) => [(g0, wInt (cy 0) 37 u1)])) (va_runS (As := [.ref g0, .int (nI c)]) (rest := []) CF (k_X12_goesOut l D cy _ g0 s c n (by first | assumption | omega) (by first | assumption | omega) (by first | assumption | omega)) (va_cwS 2 hts gX12_goesBy_X12_goesOut rfl rfl rfl (by decide +kernel) ⟨Nat.le_of_ble_eq_true rfl, Nat.le_of_ble_eq_true rfl⟩) (pre_S hKN hP hD [0] rfl (by decide)) rfl rfl hl.1 rfl (lv_room (Nat.le_of_ble_eq_true rfl)) dX12_goesBy_2 ⟨Nat.le_of_ble_eq_true rfl, Nat.le_of_ble_eq_true rfl⟩) hS hA hP hD [0] [] [0] rfl rfl (by decide) (by decide) (fun _ => rfl) (by decide) (fun u1 H locs hw3 hP hD hS => ?_)
  obtain rfl := hw3
  have hP : va_P D vwCl ([(g0, wInt (cy 0) 37 (outS s n c))]) H := hP
  have hD : va_D A_ ([(g0, wInt (cy 0) 37 (outS s n c))]) := hD
  refine lv_aload_n hx hb dX12_goesBy_5 rfl (lv_at hl 0 rfl) ?_
  refine lv_iload_n hx hb dX12_goesBy_6 rfl (lv_at hl 1 rfl) ?_
  refine lv_aload_n hx hb dX12_goesBy_7 rfl (lv_at hl 0 rfl) ?_
  refine lv_bipush (v := nI 21) hx hb dX12_goesBy_8 (by decide) ?_
  refine lv_iload_n hx hb dX12_goesBy_10 rfl (lv_at hl 2 rfl) ?_
  refine adN (k := 21 + k) hx hb rfl dX12_goesBy_11 ?_
  refine ldN hx hb hK hP 0 rfl (j := 21 + k) (by omega) (by decide) dX12_goesBy_12 ?_
  refine lv_aload_n hx hb dX12_goesBy_13 rfl (lv_at hl 0 rfl) ?_
  refine lv_bipush (v := nI 29) hx hb dX12_goesBy_14 (by decide) ?_
  refine lv_iload_n hx hb dX12_goesBy_16 rfl (lv_at hl 2 rfl) ?_
  refine adN (k := 29 + k) hx hb rfl dX12_goesBy_17 ?_
  refine ldN hx hb hK hP 0 rfl (j := 29 + k) (by omega) (by decide) dX12_goesBy_18 ?_
  refine lv_iconst (v := nI 1) hx hb dX12_goesBy_19 (by decide) ?_
  refine lv_iadd hx hb dX12_goesBy_20 ?_
  refine call_v (wr := []) (ws' := (fun u4 : (Nat → Int32) => [(g0, wInt (cy 0) 37 u4)])) (va_runS (As := [.ref g0, .int (nI c), .int ((outS s n c) (21 + k)), .int ((outS s n c) (29 + k) + nI 1)]) (rest := []) CF (k_X12_comesIn l D cy _ g0 (outS s n c) c ((outS s n c) (21 + k)) ((outS s n c) (29 + k) + nI 1) n (by first | assumption | omega) (by rw [outS_lo _ _ _ (by omega)]; exact h3) (by first | assumption | omega)) (va_cwS 4 hts gX12_goesBy_X12_comesIn rfl rfl rfl (by decide +kernel) ⟨Nat.le_of_ble_eq_true rfl, Nat.le_of_ble_eq_true rfl⟩) (pre_S hKN hP hD [0] rfl (by decide)) rfl rfl hl.1 rfl (lv_room (Nat.le_of_ble_eq_true rfl)) dX12_goesBy_21 ⟨Nat.le_of_ble_eq_true rfl, Nat.le_of_ble_eq_true rfl⟩) hS hA hP hD [0] [] [0] rfl rfl (by decide) (by decide) (fun _ => rfl) (by decide) (fun u4 H locs hw6 hP hD hS => ?_)
  obtain rfl := hw6
  have hP : va_P D vwCl ([(g0, wInt (cy 0) 37 (inS (outS s n c) n c ((outS s n c) (21 + k)) ((outS s n c) (29 + k) + nI 1)))]) H := hP
  have hD : va_D A_ ([(g0, wInt (cy 0) 37 (inS (outS s n c) n c ((outS s n c) (21 + k)) ((outS s n c) (29 + k) + nI 1)))]) := hD
  exact ret (inS (outS s n c) n c ((outS s n c) (21 + k)) ((outS s n c) (29 + k) + nI 1)) _ _ _ _ dX12_goesBy_24 rfl hP hD hS
set_option maxHeartbeats 4000000 in
set_option maxRecDepth 100000 in
theorem k_X12_turnFree (l : Launch) (D : va_G) (cy : Nat → ClassId) (sz : Nat) (g0 : Nat) (s : Nat → Int32) (c : Nat) (k : Nat) (n : Nat) (hn : n ≤ 8) (h3 : s 3 = nI n) (hc : c < n) (hk : k ≤ 7) : Met l yX12_turnFree wsX12_turnFree (rmD 2) (pPre D (TY cy) ([(g0, wInt (cy 0) 37 s)]) sz [.ref g0, .int (nI c), .int (nI k)]) (pV D (TY cy) ([(g0, wInt (cy 0) 37 s)]) sz (fun f2 : Nat → Int32 => [(g0, wInt (cy 0) 37 f2)]) (fun (u : (Nat → Int32)) => u = freeS s n c k)) 0 0 (va_A ([(g0, wInt (cy 0) 37 s)]) sz) := by
  refine ent_v (cc := cX12_turnFree) (maxL := 6) (by decide +kernel) rfl (Nat.le_of_ble_eq_true rfl) ?_
  intro p_ e_ s_ m_ args_ below_ meth_ c_ A_ Q_ ls B0 ret
  obtain ⟨CF, hA, hKN, hP, hD, hl⟩ := B0
  have hK := hKN.1
  obtain ⟨hx, hb, hml, hown, hts⟩ := id CF
  have hS : va_S A_ s_.heap s_.heap [] := va_S.rf
  have hl : lv_has ls 6 [(0, .ref g0), (1, .int (nI c)), (2, .int (nI k))] := hl
  refine lv_aload_n hx hb dX12_turnFree_0 rfl (lv_at hl 0 rfl) ?_
  refine lv_bipush (v := nI 21) hx hb dX12_turnFree_1 (by decide) ?_
  refine lv_iload_n hx hb dX12_turnFree_3 rfl (lv_at hl 1 rfl) ?_
  refine adN (k := 21 + c) hx hb rfl dX12_turnFree_4 ?_
  refine ldN hx hb hK hP 0 rfl (j := 21 + c) (by omega) (by decide) dX12_turnFree_5 ?_
  refine lv_istore_n (lv' := [(3, .int (s (21 + c))), (0, .ref g0), (1, .int (nI c)), (2, .int (nI k))]) hx hb dX12_turnFree_6 rfl hl (by decide) rfl (fun ls hl => ?_)
  refine lv_aload_n hx hb dX12_turnFree_7 rfl (lv_at hl 1 rfl) ?_
  refine lv_bipush (v := nI 21) hx hb dX12_turnFree_8 (by decide) ?_
  refine lv_iload_n hx hb dX12_turnFree_10 rfl (lv_at hl 3 rfl) ?_
  refine adN (k := 21 + k) hx hb rfl dX12_turnFree_11 ?_
  refine ldN hx hb hK hP 0 rfl (j := 21 + k) (by omega) (by decide) dX12_turnFree_12 ?_
  refine lv_istore (lv' := [(4, .int (s (21 + k))), (3, .int (s (21 + c))), (0, .ref g0), (1, .int (nI c)), (2, .int (nI k))]) hx hb dX12_turnFree_13 hl (by decide) rfl (fun ls hl => ?_)
  refine lv_iload_n hx hb dX12_turnFree_15 rfl (lv_at hl 1 rfl) ?_
  refine lv_iload hx hb dX12_turnFree_16 (lv_at hl 0 rfl) ?_
  refine lv_icmp_ne (tgt := 28) hx hb dX12_turnFree_18 (by decide) (fun c18 => ?_) (fun c18 => ?_)
  · refine lv_iload hx hb dX12_turnFree_28 (lv_at hl 0 rfl) ?_
    refine lv_iload_n hx hb dX12_turnFree_30 rfl (lv_at hl 1 rfl) ?_
    refine lv_icmp_le (tgt := 40) hx hb dX12_turnFree_31 (by decide) (fun c31 => ?_) (fun c31 => ?_)
    · refine lv_iload_n hx hb dX12_turnFree_40 rfl (lv_at hl 1 rfl) ?_
      refine lv_iconst (v := nI 1) hx hb dX12_turnFree_41 (by decide) ?_
      refine lv_isub hx hb dX12_turnFree_42 ?_
      refine lv_istore (lv' := [(5, .int (s (21 + c) - nI 1)), (4, .int (s (21 + k))), (3, .int (s (21 + c))), (0, .ref g0), (1, .int (nI c)), (2, .int (nI k))]) hx hb dX12_turnFree_43 hl (by decide) rfl (fun ls hl => ?_)
      refine lv_aload_n hx hb dX12_turnFree_45 rfl (lv_at hl 3 rfl) ?_
      refine lv_iload hx hb dX12_turnFree_46 (lv_at hl 0 rfl) ?_
      refine call_i (wr := []) (ws' := (fun _ : Unit => [(g0, wInt (cy 0) 37 s)])) (va_runS (As := [.ref g0, .int (s (21 + c) - nI 1)]) (rest := []) CF (k_X12_inDrawer l D cy _ g0 s (s (21 + c) - nI 1) n (by first | assumption | omega) (by first | assumption | omega)) (va_cwS 2 hts gX12_turnFree_X12_inDrawer rfl rfl rfl (by decide +kernel) ⟨Nat.le_of_ble_eq_true rfl, Nat.le_of_ble_eq_true rfl⟩) (pre_S hKN hP hD [0] rfl (by decide)) rfl rfl hl.1 rfl (lv_room (Nat.le_of_ble_eq_true rfl)) dX12_turnFree_48 ⟨Nat.le_of_ble_eq_true rfl, Nat.le_of_ble_eq_true rfl⟩) hS hA hP hD [0] [] [0] rfl rfl (by decide) (by decide) (fun _ => rfl) (by decide) (fun r2 u1 H locs hw3 hP hD hS => ?_)
      obtain rfl := hw3
      refine lv_aload_n hx hb dX12_turnFree_51 rfl (lv_at hl 3 rfl) ?_
      refine lv_iconst (v := nI 2) hx hb dX12_turnFree_52 (by decide) ?_
      refine ldN hx hb hK hP 0 rfl (j := 2) (by omega) (by decide) dX12_turnFree_53 ?_
      refine lv_icmp_ge (tgt := 64) hx hb dX12_turnFree_54 (by decide) (fun c54 => ?_) (fun c54 => ?_)
      · exact ret s _ _ _ _ dX12_turnFree_64 (by rw [freeS]; simp [besideS, c18, c31, c54]) hP hD hS
      · refine lv_aload_n hx hb dX12_turnFree_57 rfl (lv_at hl 3 rfl) ?_
        refine lv_iload_n hx hb dX12_turnFree_58 rfl (lv_at hl 4 rfl) ?_
        refine lv_iload hx hb dX12_turnFree_59 (lv_at hl 0 rfl) ?_
        refine call_v (wr := []) (ws' := (fun u4 : (Nat → Int32) => [(g0, wInt (cy 0) 37 u4)])) (va_runS (As := [.ref g0, .int (nI c), .int (s (21 + c) - nI 1)]) (rest := []) CF (k_X12_goesBehind l D cy _ g0 s c (s (21 + c) - nI 1) n (by first | assumption | omega) (by first | assumption | omega) (by first | assumption | omega)) (va_cwS 3 hts gX12_turnFree_X12_goesBehind rfl rfl rfl (by decide +kernel) ⟨Nat.le_of_ble_eq_true rfl, Nat.le_of_ble_eq_true rfl⟩) (pre_S hKN hP hD [0] rfl (by decide)) rfl rfl hl.1 rfl (lv_room (Nat.le_of_ble_eq_true rfl)) dX12_turnFree_61 ⟨Nat.le_of_ble_eq_true rfl, Nat.le_of_ble_eq_true rfl⟩) hS hA hP hD [0] [] [0] rfl rfl (by decide) (by decide) (fun _ => rfl) (by decide) (fun u4 H locs hw6 hP hD hS => ?_)
        obtain rfl := hw6
        have hP : va_P D vwCl ([(g0, wInt (cy 0) 37 (behindS s n c (s (21 + c) - nI 1)))]) H := hP
        have hD : va_D A_ ([(g0, wInt (cy 0) 37 (behindS s n c (s (21 + c) - nI 1)))]) := hD
        exact ret (behindS s n c (s (21 + c) - nI 1)) _ _ _ _ dX12_turnFree_64 (by rw [freeS]; simp [besideS, c18, c31, c54]) hP hD hS
    · refine lv_iload_n hx hb dX12_turnFree_34 rfl (lv_at hl 1 rfl) ?_
      refine lv_iconst (v := nI 1) hx hb dX12_turnFree_35 (by decide) ?_
      refine lv_iadd hx hb dX12_turnFree_36 ?_
      refine lv_goto (tgt := 43) hx hb dX12_turnFree_37 (by decide) ?_
      refine lv_istore (lv' := [(5, .int (s (21 + c) + nI 1)), (4, .int (s (21 + k))), (3, .int (s (21 + c))), (0, .ref g0), (1, .int (nI c)), (2, .int (nI k))]) hx hb dX12_turnFree_43 hl (by decide) rfl (fun ls hl => ?_)
      refine lv_aload_n hx hb dX12_turnFree_45 rfl (lv_at hl 3 rfl) ?_
      refine lv_iload hx hb dX12_turnFree_46 (lv_at hl 0 rfl) ?_
      refine call_i (wr := []) (ws' := (fun _ : Unit => [(g0, wInt (cy 0) 37 s)])) (va_runS (As := [.ref g0, .int (s (21 + c) + nI 1)]) (rest := []) CF (k_X12_inDrawer l D cy _ g0 s (s (21 + c) + nI 1) n (by first | assumption | omega) (by first | assumption | omega)) (va_cwS 2 hts gX12_turnFree_X12_inDrawer rfl rfl rfl (by decide +kernel) ⟨Nat.le_of_ble_eq_true rfl, Nat.le_of_ble_eq_true rfl⟩) (pre_S hKN hP hD [0] rfl (by decide)) rfl rfl hl.1 rfl (lv_room (Nat.le_of_ble_eq_true rfl)) dX12_turnFree_48 ⟨Nat.le_of_ble_eq_true rfl, Nat.le_of_ble_eq_true rfl⟩) hS hA hP hD [0] [] [0] rfl rfl (by decide) (by decide) (fun _ => rfl) (by decide) (fun r8 u7 H locs hw9 hP hD hS => ?_)
      obtain rfl := hw9
      refine lv_aload_n hx hb dX12_turnFree_51 rfl (lv_at hl 3 rfl) ?_
      refine lv_iconst (v := nI 2) hx hb dX12_turnFree_52 (by decide) ?_
      refine ldN hx hb hK hP 0 rfl (j := 2) (by omega) (by decide) dX12_turnFree_53 ?_
      refine lv_icmp_ge (tgt := 64) hx hb dX12_turnFree_54 (by decide) (fun c54 => ?_) (fun c54 => ?_)
      · exact ret s _ _ _ _ dX12_turnFree_64 (by rw [freeS]; simp [besideS, c18, c31, c54]) hP hD hS
      · refine lv_aload_n hx hb dX12_turnFree_57 rfl (lv_at hl 3 rfl) ?_
        refine lv_iload_n hx hb dX12_turnFree_58 rfl (lv_at hl 4 rfl) ?_
        refine lv_iload hx hb dX12_turnFree_59 (lv_at hl 0 rfl) ?_
        refine call_v (wr := []) (ws' := (fun u10 : (Nat → Int32) => [(g0, wInt (cy 0) 37 u10)])) (va_runS (As := [.ref g0, .int (nI c), .int (s (21 + c) + nI 1)]) (rest := []) CF (k_X12_goesBehind l D cy _ g0 s c (s (21 + c) + nI 1) n (by first | assumption | omega) (by first | assumption | omega) (by first | assumption | omega)) (va_cwS 3 hts gX12_turnFree_X12_goesBehind rfl rfl rfl (by decide +kernel) ⟨Nat.le_of_ble_eq_true rfl, Nat.le_of_ble_eq_true rfl⟩) (pre_S hKN hP hD [0] rfl (by decide)) rfl rfl hl.1 rfl (lv_room (Nat.le_of_ble_eq_true rfl)) dX12_turnFree_61 ⟨Nat.le_of_ble_eq_true rfl, Nat.le_of_ble_eq_true rfl⟩) hS hA hP hD [0] [] [0] rfl rfl (by decide) (by decide) (fun _ => rfl) (by decide) (fun u10 H locs hw12 hP hD hS => ?_)
        obtain rfl := hw12
        have hP : va_P D vwCl ([(g0, wInt (cy 0) 37 (behindS s n c (s (21 + c) + nI 1)))]) H := hP
        have hD : va_D A_ ([(g0, wInt (cy 0) 37 (behindS s n c (s (21 + c) + nI 1)))]) := hD
        exact ret (behindS s n c (s (21 + c) + nI 1)) _ _ _ _ dX12_turnFree_64 (by rw [freeS]; simp [besideS, c18, c31, c54]) hP hD hS
  · refine lv_aload_n hx hb dX12_turnFree_21 rfl (lv_at hl 2 rfl) ?_
    refine lv_iload_n hx hb dX12_turnFree_22 rfl (lv_at hl 3 rfl) ?_
    refine lv_iload_n hx hb dX12_turnFree_23 rfl (lv_at hl 4 rfl) ?_
    refine call_v (wr := []) (ws' := (fun u13 : (Nat → Int32) => [(g0, wInt (cy 0) 37 u13)])) (va_runS (As := [.ref g0, .int (nI c), .int (nI k)]) (rest := []) CF (k_X12_goesBy l D cy _ g0 s c k n (by first | assumption | omega) (by first | assumption | omega) (by first | assumption | omega) (by first | assumption | omega)) (va_cwS 3 hts gX12_turnFree_X12_goesBy rfl rfl rfl (by decide +kernel) ⟨Nat.le_of_ble_eq_true rfl, Nat.le_of_ble_eq_true rfl⟩) (pre_S hKN hP hD [0] rfl (by decide)) rfl rfl hl.1 rfl (lv_room (Nat.le_of_ble_eq_true rfl)) dX12_turnFree_24 ⟨Nat.le_of_ble_eq_true rfl, Nat.le_of_ble_eq_true rfl⟩) hS hA hP hD [0] [] [0] rfl rfl (by decide) (by decide) (fun _ => rfl) (by decide) (fun u13 H locs hw15 hP hD hS => ?_)
    obtain rfl := hw15
    have hP : va_P D vwCl ([(g0, wInt (cy 0) 37 (byS s n c k))]) H := hP
    have hD : va_D A_ ([(g0, wInt (cy 0) 37 (byS s n c k))]) := hD
    exact ret (byS s n c k) _ _ _ _ dX12_turnFree_27 (by rw [freeS]; simp [besideS, c18]) hP hD hS
set_option maxHeartbeats 4000000 in
set_option maxRecDepth 100000 in
theorem k_X12_turnBlank (l : Launch) (D : va_G) (cy : Nat → ClassId) (sz : Nat) (g0 : Nat) (s : Nat → Int32) (c : Nat) (n : Nat) (hn : n ≤ 8) (h3 : s 3 = nI n) (hc : c < n) (hB : ¬ s (29 + c) ≤ 0 → cardAtN s (s (21 + c)) (s (29 + c) - nI 1) n = nI (kOf s n c) ∧ kOf s n c < n) : Met l yX12_turnBlank wsX12_turnBlank (rmD 1) (pPre D (TY cy) ([(g0, wInt (cy 0) 37 s)]) sz [.ref g0, .int (nI c)]) (pV D (TY cy) ([(g0, wInt (cy 0) 37 s)]) sz (fun f2 : Nat → Int32 => [(g0, wInt (cy 0) 37 f2)]) (fun (u : (Nat → Int32)) => u = blankS s n c)) 0 0 (va_A ([(g0, wInt (cy 0) 37 s)]) sz) := by
  refine ent_v (cc := cX12_turnBlank) (maxL := 3) (by decide +kernel) rfl (Nat.le_of_ble_eq_true rfl) ?_
  intro p_ e_ s_ m_ args_ below_ meth_ c_ A_ Q_ ls B0 ret
  obtain ⟨CF, hA, hKN, hP, hD, hl⟩ := B0
  have hK := hKN.1
  obtain ⟨hx, hb, hml, hown, hts⟩ := id CF
  have hS : va_S A_ s_.heap s_.heap [] := va_S.rf
  have hl : lv_has ls 3 [(0, .ref g0), (1, .int (nI c))] := hl
  refine lv_aload_n hx hb dX12_turnBlank_0 rfl (lv_at hl 0 rfl) ?_
  refine lv_bipush (v := nI 29) hx hb dX12_turnBlank_1 (by decide) ?_
  refine lv_iload_n hx hb dX12_turnBlank_3 rfl (lv_at hl 1 rfl) ?_
  refine adN (k := 29 + c) hx hb rfl dX12_turnBlank_4 ?_
  refine ldN hx hb hK hP 0 rfl (j := 29 + c) (by omega) (by decide) dX12_turnBlank_5 ?_
  refine lv_if_le (tgt := 48) hx hb dX12_turnBlank_6 (by decide) (fun c6 => ?_) (fun c6 => ?_)
  · exact ret s _ _ _ _ dX12_turnBlank_48 (by rw [blankS]; simp [c6]) hP hD hS
  · have hkk := (hB c6).2
    refine lv_aload_n hx hb dX12_turnBlank_9 rfl (lv_at hl 0 rfl) ?_
    refine lv_aload_n hx hb dX12_turnBlank_10 rfl (lv_at hl 0 rfl) ?_
    refine lv_bipush (v := nI 21) hx hb dX12_turnBlank_11 (by decide) ?_
    refine lv_iload_n hx hb dX12_turnBlank_13 rfl (lv_at hl 1 rfl) ?_
    refine adN (k := 21 + c) hx hb rfl dX12_turnBlank_14 ?_
    refine ldN hx hb hK hP 0 rfl (j := 21 + c) (by omega) (by decide) dX12_turnBlank_15 ?_
    refine lv_aload_n hx hb dX12_turnBlank_16 rfl (lv_at hl 0 rfl) ?_
    refine lv_bipush (v := nI 29) hx hb dX12_turnBlank_17 (by decide) ?_
    refine lv_iload_n hx hb dX12_turnBlank_19 rfl (lv_at hl 1 rfl) ?_
    refine adN (k := 29 + c) hx hb rfl dX12_turnBlank_20 ?_
    refine ldN hx hb hK hP 0 rfl (j := 29 + c) (by omega) (by decide) dX12_turnBlank_21 ?_
    refine lv_iconst (v := nI 1) hx hb dX12_turnBlank_22 (by decide) ?_
    refine lv_isub hx hb dX12_turnBlank_23 ?_
    refine call_i (wr := []) (ws' := (fun _ : Unit => [(g0, wInt (cy 0) 37 s)])) (va_runS (As := [.ref g0, .int (s (21 + c)), .int (s (29 + c) - nI 1)]) (rest := []) CF (k_X12_cardAt l D cy _ g0 s (s (21 + c)) (s (29 + c) - nI 1) n (by first | assumption | omega) (by first | assumption | omega)) (va_cwS 3 hts gX12_turnBlank_X12_cardAt rfl rfl rfl (by decide +kernel) ⟨Nat.le_of_ble_eq_true rfl, Nat.le_of_ble_eq_true rfl⟩) (pre_S hKN hP hD [0] rfl (by decide)) rfl rfl hl.1 rfl (lv_room (Nat.le_of_ble_eq_true rfl)) dX12_turnBlank_24 ⟨Nat.le_of_ble_eq_true rfl, Nat.le_of_ble_eq_true rfl⟩) hS hA hP hD [0] [] [0] rfl rfl (by decide) (by decide) (fun _ => rfl) (by decide) (fun r2 u1 H locs hw3 hP hD hS => ?_)
    obtain rfl := hw3
    refine top_i (hB c6).1 ?_
    refine lv_istore_n (lv' := [(2, .int (nI (kOf s n c))), (0, .ref g0), (1, .int (nI c))]) hx hb dX12_turnBlank_27 rfl hl (by decide) rfl (fun ls hl => ?_)
    refine lv_aload_n hx hb dX12_turnBlank_28 rfl (lv_at hl 1 rfl) ?_
    refine lv_bipush (v := nI 29) hx hb dX12_turnBlank_29 (by decide) ?_
    refine lv_iload_n hx hb dX12_turnBlank_31 rfl (lv_at hl 0 rfl) ?_
    refine adN (k := 29 + kOf s n c) hx hb rfl dX12_turnBlank_32 ?_
    refine lv_dup2_11 hx hb dX12_turnBlank_33 rfl rfl ?_
    refine ldN hx hb hK hP 0 rfl (j := 29 + kOf s n c) (by omega) (by decide) dX12_turnBlank_34 ?_
    refine lv_iconst (v := nI 1) hx hb dX12_turnBlank_35 (by decide) ?_
    refine lv_iadd hx hb dX12_turnBlank_36 ?_
    refine stN (ws' := [(g0, wInt (cy 0) 37 (upd s (29 + kOf s n c) (s (29 + kOf s n c) + nI 1)))]) hx hb hK hP hD hS 0 rfl (j := 29 + kOf s n c) (by omega) (by decide) dX12_turnBlank_37 rfl (fun H locs hP hD hS => ?_)
    refine lv_aload_n hx hb dX12_turnBlank_38 rfl (lv_at hl 1 rfl) ?_
    refine lv_bipush (v := nI 29) hx hb dX12_turnBlank_39 (by decide) ?_
    refine lv_iload_n hx hb dX12_turnBlank_41 rfl (lv_at hl 2 rfl) ?_
    refine adN (k := 29 + c) hx hb rfl dX12_turnBlank_42 ?_
    refine lv_dup2_11 hx hb dX12_turnBlank_43 rfl rfl ?_
    refine ldN hx hb hK hP 0 rfl (j := 29 + c) (by omega) (by decide) dX12_turnBlank_44 ?_
    refine lv_iconst (v := nI 1) hx hb dX12_turnBlank_45 (by decide) ?_
    refine lv_isub hx hb dX12_turnBlank_46 ?_
    refine stN (ws' := [(g0, wInt (cy 0) 37 (upd (upd s (29 + kOf s n c) (s (29 + kOf s n c) + nI 1)) (29 + c) ((upd s (29 + kOf s n c) (s (29 + kOf s n c) + nI 1)) (29 + c) - nI 1)))]) hx hb hK hP hD hS 0 rfl (j := 29 + c) (by omega) (by decide) dX12_turnBlank_47 rfl (fun H locs hP hD hS => ?_)
    exact ret (upd (upd s (29 + kOf s n c) (s (29 + kOf s n c) + nI 1)) (29 + c) ((upd s (29 + kOf s n c) (s (29 + kOf s n c) + nI 1)) (29 + c) - nI 1)) _ _ _ _ dX12_turnBlank_48 (by rw [blankS]; simp [c6]) hP hD hS
set_option maxHeartbeats 4000000 in
set_option maxRecDepth 100000 in
theorem k_X12_turnOf (l : Launch) (D : va_G) (cy : Nat → ClassId) (sz : Nat) (g0 : Nat) (s : Nat → Int32) (c : Nat) (k : Nat) (n : Nat) (hn : n ≤ 8) (h3 : s 3 = nI n) (hc : c < n) (hk : s (13 + c) = nI k) (hk7 : k ≤ 7) (hB : ¬ s (29 + c) ≤ 0 → cardAtN s (s (21 + c)) (s (29 + c) - nI 1) n = nI (kOf s n c) ∧ kOf s n c < n) : Met l yX12_turnOf wsX12_turnOf (rmD 3) (pPre D (TY cy) ([(g0, wInt (cy 0) 37 s)]) sz [.ref g0, .int (nI c)]) (pV D (TY cy) ([(g0, wInt (cy 0) 37 s)]) sz (fun f2 : Nat → Int32 => [(g0, wInt (cy 0) 37 f2)]) (fun (u : (Nat → Int32)) => u = turnS s n c k)) 0 0 (va_A ([(g0, wInt (cy 0) 37 s)]) sz) := by
  refine ent_v (cc := cX12_turnOf) (maxL := 5) (by decide +kernel) rfl (Nat.le_of_ble_eq_true rfl) ?_
  intro p_ e_ s_ m_ args_ below_ meth_ c_ A_ Q_ ls B0 ret
  obtain ⟨CF, hA, hKN, hP, hD, hl⟩ := B0
  have hK := hKN.1
  obtain ⟨hx, hb, hml, hown, hts⟩ := id CF
  have hS : va_S A_ s_.heap s_.heap [] := va_S.rf
  have hl : lv_has ls 5 [(0, .ref g0), (1, .int (nI c))] := hl
  refine lv_aload_n hx hb dX12_turnOf_0 rfl (lv_at hl 0 rfl) ?_
  refine lv_iconst (v := nI 5) hx hb dX12_turnOf_1 (by decide) ?_
  refine lv_iload_n hx hb dX12_turnOf_2 rfl (lv_at hl 1 rfl) ?_
  refine adN (k := 5 + c) hx hb rfl dX12_turnOf_3 ?_
  refine ldN hx hb hK hP 0 rfl (j := 5 + c) (by omega) (by decide) dX12_turnOf_4 ?_
  refine lv_istore_n (lv' := [(2, .int (s (5 + c))), (0, .ref g0), (1, .int (nI c))]) hx hb dX12_turnOf_5 rfl hl (by decide) rfl (fun ls hl => ?_)
  refine lv_aload_n hx hb dX12_turnOf_6 rfl (lv_at hl 1 rfl) ?_
  refine lv_bipush (v := nI 13) hx hb dX12_turnOf_7 (by decide) ?_
  refine lv_iload_n hx hb dX12_turnOf_9 rfl (lv_at hl 2 rfl) ?_
  refine adN (k := 13 + c) hx hb rfl dX12_turnOf_10 ?_
  refine ldN hx hb hK hP 0 rfl (j := 13 + c) (by omega) (by decide) dX12_turnOf_11 ?_
  refine top_i hk ?_
  refine lv_istore_n (lv' := [(3, .int (nI k)), (2, .int (s (5 + c))), (0, .ref g0), (1, .int (nI c))]) hx hb dX12_turnOf_12 rfl hl (by decide) rfl (fun ls hl => ?_)
  refine lv_iload_n hx hb dX12_turnOf_13 rfl (lv_at hl 1 rfl) ?_
  refine lv_iconst (v := nI 5) hx hb dX12_turnOf_14 (by decide) ?_
  refine lv_icmp_ne (tgt := 24) hx hb dX12_turnOf_15 (by decide) (fun c15 => ?_) (fun c15 => ?_)
  · refine lv_iload_n hx hb dX12_turnOf_24 rfl (lv_at hl 1 rfl) ?_
    refine lv_iconst (v := nI 4) hx hb dX12_turnOf_25 (by decide) ?_
    refine lv_icmp_eq (tgt := 50) hx hb dX12_turnOf_26 (by decide) (fun c26 => ?_) (fun c26 => ?_)
    · refine lv_iconst (v := nI 1) hx hb dX12_turnOf_50 (by decide) ?_
      refine lv_goto (tgt := 55) hx hb dX12_turnOf_51 (by decide) ?_
      refine lv_istore (lv' := [(4, .int (nI 1)), (3, .int (nI k)), (2, .int (s (5 + c))), (0, .ref g0), (1, .int (nI c))]) hx hb dX12_turnOf_55 hl (by decide) rfl (fun ls hl => ?_)
      refine lv_iload hx hb dX12_turnOf_57 (lv_at hl 0 rfl) ?_
      refine lv_if_eq (tgt := 63) hx hb dX12_turnOf_59 (by decide) (fun c59 => absurd c59 (by decide)) (fun c59 => ?_)
      exact ret s _ _ _ _ dX12_turnOf_62 (by first | (rw [turnS]; simp (decide := true) [c15, c26]; done) | exact absurd (c38.symm.trans c65) (by decide)) hP hD hS
    · refine lv_iload_n hx hb dX12_turnOf_29 rfl (lv_at hl 0 rfl) ?_
      refine lv_aload_n hx hb dX12_turnOf_30 rfl (lv_at hl 2 rfl) ?_
      refine lv_iconst (v := nI 3) hx hb dX12_turnOf_31 (by decide) ?_
      refine ldN hx hb hK hP 0 rfl (j := 3) (by omega) (by decide) dX12_turnOf_32 ?_
      refine top_i h3 ?_
      refine geN (tgt := 50) hx hb (by omega) (by omega) dX12_turnOf_33 (by decide) (fun c33 => ?_) (fun c33 => ?_)
      · refine lv_iconst (v := nI 1) hx hb dX12_turnOf_50 (by decide) ?_
        refine lv_goto (tgt := 55) hx hb dX12_turnOf_51 (by decide) ?_
        refine lv_istore (lv' := [(4, .int (nI 1)), (3, .int (nI k)), (2, .int (s (5 + c))), (0, .ref g0), (1, .int (nI c))]) hx hb dX12_turnOf_55 hl (by decide) rfl (fun ls hl => ?_)
        refine lv_iload hx hb dX12_turnOf_57 (lv_at hl 0 rfl) ?_
        refine lv_if_eq (tgt := 63) hx hb dX12_turnOf_59 (by decide) (fun c59 => absurd c59 (by decide)) (fun c59 => ?_)
        exact ret s _ _ _ _ dX12_turnOf_62 (by first | (rw [turnS]; simp (decide := true) [c15, c26, c33, Nat.not_lt_of_le c33]; done) | exact absurd (c38.symm.trans c65) (by decide)) hP hD hS
      · refine lv_iload_n hx hb dX12_turnOf_36 rfl (lv_at hl 1 rfl) ?_
        refine lv_iconst (v := nI 2) hx hb dX12_turnOf_37 (by decide) ?_
        refine lv_icmp_ne (tgt := 54) hx hb dX12_turnOf_38 (by decide) (fun c38 => ?_) (fun c38 => ?_)
        · refine lv_iconst (v := nI 0) hx hb dX12_turnOf_54 (by decide) ?_
          refine lv_istore (lv' := [(4, .int (nI 0)), (3, .int (nI k)), (2, .int (s (5 + c))), (0, .ref g0), (1, .int (nI c))]) hx hb dX12_turnOf_55 hl (by decide) rfl (fun ls hl => ?_)
          refine lv_iload hx hb dX12_turnOf_57 (lv_at hl 0 rfl) ?_
          refine lv_if_eq (tgt := 63) hx hb dX12_turnOf_59 (by decide) (fun c59 => ?_) (fun c59 => absurd c59 (by decide))
          refine lv_iload_n hx hb dX12_turnOf_63 rfl (lv_at hl 2 rfl) ?_
          refine lv_iconst (v := nI 3) hx hb dX12_turnOf_64 (by decide) ?_
          refine lv_icmp_ne (tgt := 83) hx hb dX12_turnOf_65 (by decide) (fun c65 => ?_) (fun c65 => ?_)
          · refine lv_aload_n hx hb dX12_turnOf_83 rfl (lv_at hl 3 rfl) ?_
            refine lv_iload_n hx hb dX12_turnOf_84 rfl (lv_at hl 4 rfl) ?_
            refine lv_iload_n hx hb dX12_turnOf_85 rfl (lv_at hl 1 rfl) ?_
            refine call_v (wr := []) (ws' := (fun u1 : (Nat → Int32) => [(g0, wInt (cy 0) 37 u1)])) (va_runS (As := [.ref g0, .int (nI c), .int (nI k)]) (rest := []) CF (k_X12_turnFree l D cy _ g0 s c k n (by first | assumption | omega) (by first | assumption | omega) (by first | assumption | omega) (by first | assumption | omega)) (va_cwS 3 hts gX12_turnOf_X12_turnFree rfl rfl rfl (by decide +kernel) ⟨Nat.le_of_ble_eq_true rfl, Nat.le_of_ble_eq_true rfl⟩) (pre_S hKN hP hD [0] rfl (by decide)) rfl rfl hl.1 rfl (lv_room (Nat.le_of_ble_eq_true rfl)) dX12_turnOf_86 ⟨Nat.le_of_ble_eq_true rfl, Nat.le_of_ble_eq_true rfl⟩) hS hA hP hD [0] [] [0] rfl rfl (by decide) (by decide) (fun _ => rfl) (by decide) (fun u1 H locs hw3 hP hD hS => ?_)
            obtain rfl := hw3
            have hP : va_P D vwCl ([(g0, wInt (cy 0) 37 (freeS s n c k))]) H := hP
            have hD : va_D A_ ([(g0, wInt (cy 0) 37 (freeS s n c k))]) := hD
            exact ret (freeS s n c k) _ _ _ _ dX12_turnOf_89 (by first | (rw [turnS]; simp (decide := true) [c15, c26, c33, Nat.not_le_of_lt c33, c38, c65]; done) | exact absurd (c38.symm.trans c65) (by decide)) hP hD hS
          · refine lv_aload_n hx hb dX12_turnOf_68 rfl (lv_at hl 3 rfl) ?_
            refine lv_bipush (v := nI 21) hx hb dX12_turnOf_69 (by decide) ?_
            refine lv_iload_n hx hb dX12_turnOf_71 rfl (lv_at hl 4 rfl) ?_
            refine adN (k := 21 + c) hx hb rfl dX12_turnOf_72 ?_
            refine ldN hx hb hK hP 0 rfl (j := 21 + c) (by omega) (by decide) dX12_turnOf_73 ?_
            refine lv_aload_n hx hb dX12_turnOf_74 rfl (lv_at hl 3 rfl) ?_
            refine lv_bipush (v := nI 21) hx hb dX12_turnOf_75 (by decide) ?_
            refine lv_iload_n hx hb dX12_turnOf_77 rfl (lv_at hl 1 rfl) ?_
            refine adN (k := 21 + k) hx hb rfl dX12_turnOf_78 ?_
            refine ldN hx hb hK hP 0 rfl (j := 21 + k) (by omega) (by decide) dX12_turnOf_79 ?_
            refine lv_icmp_ne (tgt := 90) hx hb dX12_turnOf_80 (by decide) (fun c80 => ?_) (fun c80 => ?_)
            · refine lv_aload_n hx hb dX12_turnOf_90 rfl (lv_at hl 3 rfl) ?_
              refine lv_aload_n hx hb dX12_turnOf_91 rfl (lv_at hl 3 rfl) ?_
              refine lv_bipush (v := nI 21) hx hb dX12_turnOf_92 (by decide) ?_
              refine lv_iload_n hx hb dX12_turnOf_94 rfl (lv_at hl 1 rfl) ?_
              refine adN (k := 21 + k) hx hb rfl dX12_turnOf_95 ?_
              refine ldN hx hb hK hP 0 rfl (j := 21 + k) (by omega) (by decide) dX12_turnOf_96 ?_
              refine call_i (wr := []) (ws' := (fun _ : Unit => [(g0, wInt (cy 0) 37 s)])) (va_runS (As := [.ref g0, .int (s (21 + k))]) (rest := []) CF (k_X12_inDrawer l D cy _ g0 s (s (21 + k)) n (by first | assumption | omega) (by first | assumption | omega)) (va_cwS 2 hts gX12_turnOf_X12_inDrawer rfl rfl rfl (by decide +kernel) ⟨Nat.le_of_ble_eq_true rfl, Nat.le_of_ble_eq_true rfl⟩) (pre_S hKN hP hD [0] rfl (by decide)) rfl rfl hl.1 rfl (lv_room (Nat.le_of_ble_eq_true rfl)) dX12_turnOf_97 ⟨Nat.le_of_ble_eq_true rfl, Nat.le_of_ble_eq_true rfl⟩) hS hA hP hD [0] [] [0] rfl rfl (by decide) (by decide) (fun _ => rfl) (by decide) (fun r5 u4 H locs hw6 hP hD hS => ?_)
              obtain rfl := hw6
              refine lv_aload_n hx hb dX12_turnOf_100 rfl (lv_at hl 3 rfl) ?_
              refine lv_iconst (v := nI 2) hx hb dX12_turnOf_101 (by decide) ?_
              refine ldN hx hb hK hP 0 rfl (j := 2) (by omega) (by decide) dX12_turnOf_102 ?_
              refine lv_icmp_ge (tgt := 112) hx hb dX12_turnOf_103 (by decide) (fun c103 => ?_) (fun c103 => ?_)
              · exact ret s _ _ _ _ dX12_turnOf_112 (by first | (rw [turnS]; simp (decide := true) [c15, c26, c33, Nat.not_le_of_lt c33, c38, c65, c80, c103]; done) | exact absurd (c38.symm.trans c65) (by decide)) hP hD hS
              · refine lv_aload_n hx hb dX12_turnOf_106 rfl (lv_at hl 3 rfl) ?_
                refine lv_iload_n hx hb dX12_turnOf_107 rfl (lv_at hl 4 rfl) ?_
                refine lv_iload_n hx hb dX12_turnOf_108 rfl (lv_at hl 1 rfl) ?_
                refine call_v (wr := []) (ws' := (fun u7 : (Nat → Int32) => [(g0, wInt (cy 0) 37 u7)])) (va_runS (As := [.ref g0, .int (nI c), .int (nI k)]) (rest := []) CF (k_X12_goesBy l D cy _ g0 s c k n (by first | assumption | omega) (by first | assumption | omega) (by first | assumption | omega) (by first | assumption | omega)) (va_cwS 3 hts gX12_turnOf_X12_goesBy rfl rfl rfl (by decide +kernel) ⟨Nat.le_of_ble_eq_true rfl, Nat.le_of_ble_eq_true rfl⟩) (pre_S hKN hP hD [0] rfl (by decide)) rfl rfl hl.1 rfl (lv_room (Nat.le_of_ble_eq_true rfl)) dX12_turnOf_109 ⟨Nat.le_of_ble_eq_true rfl, Nat.le_of_ble_eq_true rfl⟩) hS hA hP hD [0] [] [0] rfl rfl (by decide) (by decide) (fun _ => rfl) (by decide) (fun u7 H locs hw9 hP hD hS => ?_)
                obtain rfl := hw9
                have hP : va_P D vwCl ([(g0, wInt (cy 0) 37 (byS s n c k))]) H := hP
                have hD : va_D A_ ([(g0, wInt (cy 0) 37 (byS s n c k))]) := hD
                exact ret (byS s n c k) _ _ _ _ dX12_turnOf_112 (by first | (rw [turnS]; simp (decide := true) [c15, c26, c33, Nat.not_le_of_lt c33, c38, c65, c80, c103]; done) | exact absurd (c38.symm.trans c65) (by decide)) hP hD hS
            · refine lv_aload_n hx hb dX12_turnOf_83 rfl (lv_at hl 3 rfl) ?_
              refine lv_iload_n hx hb dX12_turnOf_84 rfl (lv_at hl 4 rfl) ?_
              refine lv_iload_n hx hb dX12_turnOf_85 rfl (lv_at hl 1 rfl) ?_
              refine call_v (wr := []) (ws' := (fun u10 : (Nat → Int32) => [(g0, wInt (cy 0) 37 u10)])) (va_runS (As := [.ref g0, .int (nI c), .int (nI k)]) (rest := []) CF (k_X12_turnFree l D cy _ g0 s c k n (by first | assumption | omega) (by first | assumption | omega) (by first | assumption | omega) (by first | assumption | omega)) (va_cwS 3 hts gX12_turnOf_X12_turnFree rfl rfl rfl (by decide +kernel) ⟨Nat.le_of_ble_eq_true rfl, Nat.le_of_ble_eq_true rfl⟩) (pre_S hKN hP hD [0] rfl (by decide)) rfl rfl hl.1 rfl (lv_room (Nat.le_of_ble_eq_true rfl)) dX12_turnOf_86 ⟨Nat.le_of_ble_eq_true rfl, Nat.le_of_ble_eq_true rfl⟩) hS hA hP hD [0] [] [0] rfl rfl (by decide) (by decide) (fun _ => rfl) (by decide) (fun u10 H locs hw12 hP hD hS => ?_)
              obtain rfl := hw12
              have hP : va_P D vwCl ([(g0, wInt (cy 0) 37 (freeS s n c k))]) H := hP
              have hD : va_D A_ ([(g0, wInt (cy 0) 37 (freeS s n c k))]) := hD
              exact ret (freeS s n c k) _ _ _ _ dX12_turnOf_89 (by first | (rw [turnS]; simp (decide := true) [c15, c26, c33, Nat.not_le_of_lt c33, c38, c65, c80]; done) | exact absurd (c38.symm.trans c65) (by decide)) hP hD hS
        · refine lv_aload_n hx hb dX12_turnOf_41 rfl (lv_at hl 2 rfl) ?_
          refine lv_iconst (v := nI 0) hx hb dX12_turnOf_42 (by decide) ?_
          refine ldN hx hb hK hP 0 rfl (j := 0) (by omega) (by decide) dX12_turnOf_43 ?_
          refine lv_iconst (v := nI 2) hx hb dX12_turnOf_44 (by decide) ?_
          refine lv_irem hx hb dX12_turnOf_45 (by decide) ?_
          refine lv_iconst (v := nI 1) hx hb dX12_turnOf_46 (by decide) ?_
          refine lv_icmp_ne (tgt := 54) hx hb dX12_turnOf_47 (by decide) (fun c47 => ?_) (fun c47 => ?_)
          · refine lv_iconst (v := nI 0) hx hb dX12_turnOf_54 (by decide) ?_
            refine lv_istore (lv' := [(4, .int (nI 0)), (3, .int (nI k)), (2, .int (s (5 + c))), (0, .ref g0), (1, .int (nI c))]) hx hb dX12_turnOf_55 hl (by decide) rfl (fun ls hl => ?_)
            refine lv_iload hx hb dX12_turnOf_57 (lv_at hl 0 rfl) ?_
            refine lv_if_eq (tgt := 63) hx hb dX12_turnOf_59 (by decide) (fun c59 => ?_) (fun c59 => absurd c59 (by decide))
            refine lv_iload_n hx hb dX12_turnOf_63 rfl (lv_at hl 2 rfl) ?_
            refine lv_iconst (v := nI 3) hx hb dX12_turnOf_64 (by decide) ?_
            refine lv_icmp_ne (tgt := 83) hx hb dX12_turnOf_65 (by decide) (fun c65 => ?_) (fun c65 => ?_)
            · refine lv_aload_n hx hb dX12_turnOf_83 rfl (lv_at hl 3 rfl) ?_
              refine lv_iload_n hx hb dX12_turnOf_84 rfl (lv_at hl 4 rfl) ?_
              refine lv_iload_n hx hb dX12_turnOf_85 rfl (lv_at hl 1 rfl) ?_
              refine call_v (wr := []) (ws' := (fun u13 : (Nat → Int32) => [(g0, wInt (cy 0) 37 u13)])) (va_runS (As := [.ref g0, .int (nI c), .int (nI k)]) (rest := []) CF (k_X12_turnFree l D cy _ g0 s c k n (by first | assumption | omega) (by first | assumption | omega) (by first | assumption | omega) (by first | assumption | omega)) (va_cwS 3 hts gX12_turnOf_X12_turnFree rfl rfl rfl (by decide +kernel) ⟨Nat.le_of_ble_eq_true rfl, Nat.le_of_ble_eq_true rfl⟩) (pre_S hKN hP hD [0] rfl (by decide)) rfl rfl hl.1 rfl (lv_room (Nat.le_of_ble_eq_true rfl)) dX12_turnOf_86 ⟨Nat.le_of_ble_eq_true rfl, Nat.le_of_ble_eq_true rfl⟩) hS hA hP hD [0] [] [0] rfl rfl (by decide) (by decide) (fun _ => rfl) (by decide) (fun u13 H locs hw15 hP hD hS => ?_)
              obtain rfl := hw15
              have hP : va_P D vwCl ([(g0, wInt (cy 0) 37 (freeS s n c k))]) H := hP
              have hD : va_D A_ ([(g0, wInt (cy 0) 37 (freeS s n c k))]) := hD
              exact ret (freeS s n c k) _ _ _ _ dX12_turnOf_89 (by first | (rw [turnS]; simp (decide := true) [c15, c26, c33, Nat.not_le_of_lt c33, c38, c47, c65]; done) | exact absurd (c38.symm.trans c65) (by decide)) hP hD hS
            · refine lv_aload_n hx hb dX12_turnOf_68 rfl (lv_at hl 3 rfl) ?_
              refine lv_bipush (v := nI 21) hx hb dX12_turnOf_69 (by decide) ?_
              refine lv_iload_n hx hb dX12_turnOf_71 rfl (lv_at hl 4 rfl) ?_
              refine adN (k := 21 + c) hx hb rfl dX12_turnOf_72 ?_
              refine ldN hx hb hK hP 0 rfl (j := 21 + c) (by omega) (by decide) dX12_turnOf_73 ?_
              refine lv_aload_n hx hb dX12_turnOf_74 rfl (lv_at hl 3 rfl) ?_
              refine lv_bipush (v := nI 21) hx hb dX12_turnOf_75 (by decide) ?_
              refine lv_iload_n hx hb dX12_turnOf_77 rfl (lv_at hl 1 rfl) ?_
              refine adN (k := 21 + k) hx hb rfl dX12_turnOf_78 ?_
              refine ldN hx hb hK hP 0 rfl (j := 21 + k) (by omega) (by decide) dX12_turnOf_79 ?_
              refine lv_icmp_ne (tgt := 90) hx hb dX12_turnOf_80 (by decide) (fun c80 => ?_) (fun c80 => ?_)
              · refine lv_aload_n hx hb dX12_turnOf_90 rfl (lv_at hl 3 rfl) ?_
                refine lv_aload_n hx hb dX12_turnOf_91 rfl (lv_at hl 3 rfl) ?_
                refine lv_bipush (v := nI 21) hx hb dX12_turnOf_92 (by decide) ?_
                refine lv_iload_n hx hb dX12_turnOf_94 rfl (lv_at hl 1 rfl) ?_
                refine adN (k := 21 + k) hx hb rfl dX12_turnOf_95 ?_
                refine ldN hx hb hK hP 0 rfl (j := 21 + k) (by omega) (by decide) dX12_turnOf_96 ?_
                refine call_i (wr := []) (ws' := (fun _ : Unit => [(g0, wInt (cy 0) 37 s)])) (va_runS (As := [.ref g0, .int (s (21 + k))]) (rest := []) CF (k_X12_inDrawer l D cy _ g0 s (s (21 + k)) n (by first | assumption | omega) (by first | assumption | omega)) (va_cwS 2 hts gX12_turnOf_X12_inDrawer rfl rfl rfl (by decide +kernel) ⟨Nat.le_of_ble_eq_true rfl, Nat.le_of_ble_eq_true rfl⟩) (pre_S hKN hP hD [0] rfl (by decide)) rfl rfl hl.1 rfl (lv_room (Nat.le_of_ble_eq_true rfl)) dX12_turnOf_97 ⟨Nat.le_of_ble_eq_true rfl, Nat.le_of_ble_eq_true rfl⟩) hS hA hP hD [0] [] [0] rfl rfl (by decide) (by decide) (fun _ => rfl) (by decide) (fun r17 u16 H locs hw18 hP hD hS => ?_)
                obtain rfl := hw18
                refine lv_aload_n hx hb dX12_turnOf_100 rfl (lv_at hl 3 rfl) ?_
                refine lv_iconst (v := nI 2) hx hb dX12_turnOf_101 (by decide) ?_
                refine ldN hx hb hK hP 0 rfl (j := 2) (by omega) (by decide) dX12_turnOf_102 ?_
                refine lv_icmp_ge (tgt := 112) hx hb dX12_turnOf_103 (by decide) (fun c103 => ?_) (fun c103 => ?_)
                · exact ret s _ _ _ _ dX12_turnOf_112 (by first | (rw [turnS]; simp (decide := true) [c15, c26, c33, Nat.not_le_of_lt c33, c38, c47, c65, c80, c103]; done) | exact absurd (c38.symm.trans c65) (by decide)) hP hD hS
                · refine lv_aload_n hx hb dX12_turnOf_106 rfl (lv_at hl 3 rfl) ?_
                  refine lv_iload_n hx hb dX12_turnOf_107 rfl (lv_at hl 4 rfl) ?_
                  refine lv_iload_n hx hb dX12_turnOf_108 rfl (lv_at hl 1 rfl) ?_
                  refine call_v (wr := []) (ws' := (fun u19 : (Nat → Int32) => [(g0, wInt (cy 0) 37 u19)])) (va_runS (As := [.ref g0, .int (nI c), .int (nI k)]) (rest := []) CF (k_X12_goesBy l D cy _ g0 s c k n (by first | assumption | omega) (by first | assumption | omega) (by first | assumption | omega) (by first | assumption | omega)) (va_cwS 3 hts gX12_turnOf_X12_goesBy rfl rfl rfl (by decide +kernel) ⟨Nat.le_of_ble_eq_true rfl, Nat.le_of_ble_eq_true rfl⟩) (pre_S hKN hP hD [0] rfl (by decide)) rfl rfl hl.1 rfl (lv_room (Nat.le_of_ble_eq_true rfl)) dX12_turnOf_109 ⟨Nat.le_of_ble_eq_true rfl, Nat.le_of_ble_eq_true rfl⟩) hS hA hP hD [0] [] [0] rfl rfl (by decide) (by decide) (fun _ => rfl) (by decide) (fun u19 H locs hw21 hP hD hS => ?_)
                  obtain rfl := hw21
                  have hP : va_P D vwCl ([(g0, wInt (cy 0) 37 (byS s n c k))]) H := hP
                  have hD : va_D A_ ([(g0, wInt (cy 0) 37 (byS s n c k))]) := hD
                  exact ret (byS s n c k) _ _ _ _ dX12_turnOf_112 (by first | (rw [turnS]; simp (decide := true) [c15, c26, c33, Nat.not_le_of_lt c33, c38, c47, c65, c80, c103]; done) | exact absurd (c38.symm.trans c65) (by decide)) hP hD hS
              · refine lv_aload_n hx hb dX12_turnOf_83 rfl (lv_at hl 3 rfl) ?_
                refine lv_iload_n hx hb dX12_turnOf_84 rfl (lv_at hl 4 rfl) ?_
                refine lv_iload_n hx hb dX12_turnOf_85 rfl (lv_at hl 1 rfl) ?_
                refine call_v (wr := []) (ws' := (fun u22 : (Nat → Int32) => [(g0, wInt (cy 0) 37 u22)])) (va_runS (As := [.ref g0, .int (nI c), .int (nI k)]) (rest := []) CF (k_X12_turnFree l D cy _ g0 s c k n (by first | assumption | omega) (by first | assumption | omega) (by first | assumption | omega) (by first | assumption | omega)) (va_cwS 3 hts gX12_turnOf_X12_turnFree rfl rfl rfl (by decide +kernel) ⟨Nat.le_of_ble_eq_true rfl, Nat.le_of_ble_eq_true rfl⟩) (pre_S hKN hP hD [0] rfl (by decide)) rfl rfl hl.1 rfl (lv_room (Nat.le_of_ble_eq_true rfl)) dX12_turnOf_86 ⟨Nat.le_of_ble_eq_true rfl, Nat.le_of_ble_eq_true rfl⟩) hS hA hP hD [0] [] [0] rfl rfl (by decide) (by decide) (fun _ => rfl) (by decide) (fun u22 H locs hw24 hP hD hS => ?_)
                obtain rfl := hw24
                have hP : va_P D vwCl ([(g0, wInt (cy 0) 37 (freeS s n c k))]) H := hP
                have hD : va_D A_ ([(g0, wInt (cy 0) 37 (freeS s n c k))]) := hD
                exact ret (freeS s n c k) _ _ _ _ dX12_turnOf_89 (by first | (rw [turnS]; simp (decide := true) [c15, c26, c33, Nat.not_le_of_lt c33, c38, c47, c65, c80]; done) | exact absurd (c38.symm.trans c65) (by decide)) hP hD hS
          · refine lv_iconst (v := nI 1) hx hb dX12_turnOf_50 (by decide) ?_
            refine lv_goto (tgt := 55) hx hb dX12_turnOf_51 (by decide) ?_
            refine lv_istore (lv' := [(4, .int (nI 1)), (3, .int (nI k)), (2, .int (s (5 + c))), (0, .ref g0), (1, .int (nI c))]) hx hb dX12_turnOf_55 hl (by decide) rfl (fun ls hl => ?_)
            refine lv_iload hx hb dX12_turnOf_57 (lv_at hl 0 rfl) ?_
            refine lv_if_eq (tgt := 63) hx hb dX12_turnOf_59 (by decide) (fun c59 => absurd c59 (by decide)) (fun c59 => ?_)
            exact ret s _ _ _ _ dX12_turnOf_62 (by first | (rw [turnS]; simp (decide := true) [c15, c26, c33, Nat.not_le_of_lt c33, c38, c47]; done) | exact absurd (c38.symm.trans c65) (by decide)) hP hD hS
  · refine lv_aload_n hx hb dX12_turnOf_18 rfl (lv_at hl 2 rfl) ?_
    refine lv_iload_n hx hb dX12_turnOf_19 rfl (lv_at hl 3 rfl) ?_
    refine call_v (wr := []) (ws' := (fun u25 : (Nat → Int32) => [(g0, wInt (cy 0) 37 u25)])) (va_runS (As := [.ref g0, .int (nI c)]) (rest := []) CF (k_X12_turnBlank l D cy _ g0 s c n (by first | assumption | omega) (by first | assumption | omega) (by first | assumption | omega) (by first | assumption | omega)) (va_cwS 2 hts gX12_turnOf_X12_turnBlank rfl rfl rfl (by decide +kernel) ⟨Nat.le_of_ble_eq_true rfl, Nat.le_of_ble_eq_true rfl⟩) (pre_S hKN hP hD [0] rfl (by decide)) rfl rfl hl.1 rfl (lv_room (Nat.le_of_ble_eq_true rfl)) dX12_turnOf_20 ⟨Nat.le_of_ble_eq_true rfl, Nat.le_of_ble_eq_true rfl⟩) hS hA hP hD [0] [] [0] rfl rfl (by decide) (by decide) (fun _ => rfl) (by decide) (fun u25 H locs hw27 hP hD hS => ?_)
    obtain rfl := hw27
    have hP : va_P D vwCl ([(g0, wInt (cy 0) 37 (blankS s n c))]) H := hP
    have hD : va_D A_ ([(g0, wInt (cy 0) 37 (blankS s n c))]) := hD
    exact ret (blankS s n c) _ _ _ _ dX12_turnOf_23 (by first | (rw [turnS]; simp (decide := true) [c15]; done) | exact absurd (c38.symm.trans c65) (by decide)) hP hD hS
set_option maxHeartbeats 4000000 in
set_option maxRecDepth 100000 in
theorem k_X12_bits (l : Launch) (D : va_G) (cy : Nat → ClassId) (sz : Nat) (x : Int32)  : Met l yX12_bits wsX12_bits (rmD 0) (pPre D (TY cy) ([]) sz [.int x]) (pI D (TY cy) ([]) sz (fun _ : Unit => []) (fun (r : Int32) (_ : Unit) => r = bitsN x 8)) 0 0 (va_A ([]) sz) := by
  refine ent_i (cc := cX12_bits) (maxL := 3) (by decide +kernel) rfl (Nat.le_of_ble_eq_true rfl) ?_
  intro p_ e_ s_ m_ args_ below_ meth_ c_ A_ Q_ ls B0 ret
  obtain ⟨CF, hA, hKN, hP, hD, hl⟩ := B0
  have hK := hKN.1
  obtain ⟨hx, hb, hml, hown, hts⟩ := id CF
  have hS : va_S A_ s_.heap s_.heap [] := va_S.rf
  have hl : lv_has ls 3 [(0, .int x)] := hl
  refine lv_iconst (v := nI 0) hx hb dX12_bits_0 (by decide) ?_
  refine lv_istore_n (lv' := [(1, .int (nI 0)), (0, .int x)]) hx hb dX12_bits_1 rfl hl (by decide) rfl (fun ls hl => ?_)
  refine lv_iconst (v := nI 0) hx hb dX12_bits_2 (by decide) ?_
  refine lv_istore_n (lv' := [(2, .int (nI 0)), (1, .int (nI 0)), (0, .int x)]) hx hb dX12_bits_3 rfl hl (by decide) rfl (fun ls hl => ?_)
  have lp4 : ∀ f_ : Nat, ∀ (k : Nat) (x1 : Int32), (8 - k) < f_ → (k ≤ 8) → (x1 = bitsN x k) → ∀ (H : Heap) (locs : List Loc), va_P D vwCl ([]) H → va_D A_ ([]) → va_S A_ s_.heap H locs → ∀ ls : Array Slot, lv_has ls 3 [(0, .int x), (1, .int x1), (2, .int (nI k))] → W p_ l e_ (rmD 0) s_ m_ args_ below_ meth_ c_ H locs 0 0 Q_ (F0 m_ 4 ls []) := by
    intro f_
    induction f_ with
    | zero => intro k x1 hm_; exact absurd hm_ (by omega)
    | succ f_ ih4 =>
      intro k x1 hm_ hk e1 H locs hP hD hS ls hl
      refine lv_iload_n hx hb dX12_bits_4 rfl (lv_at hl 2 rfl) ?_
      refine lv_bipush (v := nI 8) hx hb dX12_bits_5 (by decide) ?_
      refine geN (tgt := 24) hx hb (by omega) (by decide) dX12_bits_7 (by decide) (fun c7 => ?_) (fun c7 => ?_)
      · refine lv_iload_n hx hb dX12_bits_24 rfl (lv_at hl 1 rfl) ?_
        exact ret _ () _ _ _ _ dX12_bits_25 (by rw [e1, show k = 8 by omega]) hP hD hS
      · refine lv_iload_n hx hb dX12_bits_10 rfl (lv_at hl 1 rfl) ?_
        refine lv_iload_n hx hb dX12_bits_11 rfl (lv_at hl 0 rfl) ?_
        refine lv_iload_n hx hb dX12_bits_12 rfl (lv_at hl 2 rfl) ?_
        refine lv_ishr hx hb dX12_bits_13 ?_
        refine lv_iconst (v := nI 1) hx hb dX12_bits_14 (by decide) ?_
        refine lv_iand hx hb dX12_bits_15 ?_
        refine lv_iadd hx hb dX12_bits_16 ?_
        refine lv_istore_n (lv' := [(1, .int (x1 + ((x >>> (nI k &&& 31)) &&& nI 1))), (0, .int x), (2, .int (nI k))]) hx hb dX12_bits_17 rfl hl (by decide) rfl (fun ls hl => ?_)
        refine lv_iinc (v := nI (k + 1)) (lv' := [(2, .int (nI (k + 1))), (1, .int (x1 + ((x >>> (nI k &&& 31)) &&& nI 1))), (0, .int x)]) hx hb dX12_bits_18 hl (k := 2) rfl (nI_1 _) (by decide) rfl (fun ls hl => ?_)
        refine lv_goto (tgt := 4) hx hb dX12_bits_21 (by decide) ?_
        exact ih4 (k + 1) (x1 + ((x >>> (nI k &&& 31)) &&& nI 1)) (by omega) (by omega) (by rw [e1]; rfl) _ _ hP hD hS ls (lv_sub hl [2, 1, 0] rfl)
  exact lp4 (8 - 0 + 1) 0 (nI 0) (by omega) (by omega) rfl _ _ hP hD hS ls (lv_sub hl [2, 1, 0] rfl)
set_option maxHeartbeats 4000000 in
set_option maxRecDepth 100000 in
theorem k_X12_matesIn (l : Launch) (D : va_G) (cy : Nat → ClassId) (sz : Nat) (g0 : Nat) (s : Nat → Int32) (n : Nat) (hn : n ≤ 8) (h3 : s 3 = nI n) : Met l yX12_matesIn wsX12_matesIn (rmD 1) (pPre D (TY cy) ([(g0, wInt (cy 0) 37 s)]) sz [.ref g0]) (pI D (TY cy) ([(g0, wInt (cy 0) 37 s)]) sz (fun _ : Unit => [(g0, wInt (cy 0) 37 s)]) (fun (r : Int32) (_ : Unit) => r = matesN s n n)) 0 0 (va_A ([(g0, wInt (cy 0) 37 s)]) sz) := by
  refine ent_i (cc := cX12_matesIn) (maxL := 4) (by decide +kernel) rfl (Nat.le_of_ble_eq_true rfl) ?_
  intro p_ e_ s_ m_ args_ below_ meth_ c_ A_ Q_ ls B0 ret
  obtain ⟨CF, hA, hKN, hP, hD, hl⟩ := B0
  have hK := hKN.1
  obtain ⟨hx, hb, hml, hown, hts⟩ := id CF
  have hS : va_S A_ s_.heap s_.heap [] := va_S.rf
  have hl : lv_has ls 4 [(0, .ref g0)] := hl
  refine lv_iconst (v := nI 0) hx hb dX12_matesIn_0 (by decide) ?_
  refine lv_istore_n (lv' := [(1, .int (nI 0)), (0, .ref g0)]) hx hb dX12_matesIn_1 rfl hl (by decide) rfl (fun ls hl => ?_)
  refine lv_iconst (v := nI 0) hx hb dX12_matesIn_2 (by decide) ?_
  refine lv_istore_n (lv' := [(2, .int (nI 0)), (1, .int (nI 0)), (0, .ref g0)]) hx hb dX12_matesIn_3 rfl hl (by decide) rfl (fun ls hl => ?_)
  have lp4 : ∀ f_ : Nat, ∀ (i : Nat) (x1 : Int32), (n - i) < f_ → (i ≤ n) → (x1 = matesN s n i) → ∀ (H : Heap) (locs : List Loc), va_P D vwCl ([(g0, wInt (cy 0) 37 s)]) H → va_D A_ ([(g0, wInt (cy 0) 37 s)]) → va_S A_ s_.heap H locs → ∀ ls : Array Slot, lv_has ls 4 [(0, .ref g0), (1, .int x1), (2, .int (nI i))] → W p_ l e_ (rmD 1) s_ m_ args_ below_ meth_ c_ H locs 0 0 Q_ (F0 m_ 4 ls []) := by
    intro f_
    induction f_ with
    | zero => intro i x1 hm_; exact absurd hm_ (by omega)
    | succ f_ ih4 =>
      intro i x1 hm_ hi e1 H locs hP hD hS ls hl
      refine lv_iload_n hx hb dX12_matesIn_4 rfl (lv_at hl 2 rfl) ?_
      refine lv_aload_n hx hb dX12_matesIn_5 rfl (lv_at hl 0 rfl) ?_
      refine lv_iconst (v := nI 3) hx hb dX12_matesIn_6 (by decide) ?_
      refine ldN hx hb hK hP 0 rfl (j := 3) (by omega) (by decide) dX12_matesIn_7 ?_
      refine top_i h3 ?_
      refine geN (tgt := 73) hx hb (by omega) (by omega) dX12_matesIn_8 (by decide) (fun c8 => ?_) (fun c8 => ?_)
      · refine lv_iload_n hx hb dX12_matesIn_73 rfl (lv_at hl 1 rfl) ?_
        exact ret _ () _ _ _ _ dX12_matesIn_74 (by rw [e1, show i = n by omega]) hP hD hS
      · refine lv_aload_n hx hb dX12_matesIn_11 rfl (lv_at hl 0 rfl) ?_
        refine lv_bipush (v := nI 29) hx hb dX12_matesIn_12 (by decide) ?_
        refine lv_iload_n hx hb dX12_matesIn_14 rfl (lv_at hl 2 rfl) ?_
        refine adN (k := 29 + i) hx hb rfl dX12_matesIn_15 ?_
        refine ldN hx hb hK hP 0 rfl (j := 29 + i) (by omega) (by decide) dX12_matesIn_16 ?_
        refine lv_if_le (tgt := 51) hx hb dX12_matesIn_17 (by decide) (fun c17 => ?_) (fun c17 => ?_)
        · refine lv_iconst (v := nI 0) hx hb dX12_matesIn_51 (by decide) ?_
          refine lv_istore_n (lv' := [(3, .int (nI 0)), (0, .ref g0), (1, .int x1), (2, .int (nI i))]) hx hb dX12_matesIn_52 rfl hl (by decide) rfl (fun ls hl => ?_)
          refine lv_iload_n hx hb dX12_matesIn_53 rfl (lv_at hl 2 rfl) ?_
          refine lv_iload_n hx hb dX12_matesIn_54 rfl (lv_at hl 0 rfl) ?_
          refine lv_if_eq (tgt := 64) hx hb dX12_matesIn_55 (by decide) (fun c55 => ?_) (fun c55 => absurd c55 (by decide))
          refine lv_iconst (v := nI 0) hx hb dX12_matesIn_64 (by decide) ?_
          refine lv_ior hx hb dX12_matesIn_65 ?_
          refine lv_istore_n (lv' := [(1, .int (x1 ||| nI 0)), (3, .int (nI 0)), (0, .ref g0), (2, .int (nI i))]) hx hb dX12_matesIn_66 rfl hl (by decide) rfl (fun ls hl => ?_)
          refine lv_iinc (v := nI (i + 1)) (lv' := [(2, .int (nI (i + 1))), (1, .int (x1 ||| nI 0)), (3, .int (nI 0)), (0, .ref g0)]) hx hb dX12_matesIn_67 hl (k := 3) rfl (nI_1 _) (by decide) rfl (fun ls hl => ?_)
          refine lv_goto (tgt := 4) hx hb dX12_matesIn_70 (by decide) ?_
          exact ih4 (i + 1) (x1 ||| nI 0) (by omega) (by omega) (by subst e1; rw [matesN]; simp [c8, Nat.not_le_of_lt c8, c17]) _ _ hP hD hS ls (lv_sub hl [3, 1, 0] rfl)
        · refine lv_aload_n hx hb dX12_matesIn_20 rfl (lv_at hl 0 rfl) ?_
          refine lv_aload_n hx hb dX12_matesIn_21 rfl (lv_at hl 0 rfl) ?_
          refine lv_bipush (v := nI 21) hx hb dX12_matesIn_22 (by decide) ?_
          refine lv_iload_n hx hb dX12_matesIn_24 rfl (lv_at hl 2 rfl) ?_
          refine adN (k := 21 + i) hx hb rfl dX12_matesIn_25 ?_
          refine ldN hx hb hK hP 0 rfl (j := 21 + i) (by omega) (by decide) dX12_matesIn_26 ?_
          refine lv_aload_n hx hb dX12_matesIn_27 rfl (lv_at hl 0 rfl) ?_
          refine lv_bipush (v := nI 29) hx hb dX12_matesIn_28 (by decide) ?_
          refine lv_iload_n hx hb dX12_matesIn_30 rfl (lv_at hl 2 rfl) ?_
          refine adN (k := 29 + i) hx hb rfl dX12_matesIn_31 ?_
          refine ldN hx hb hK hP 0 rfl (j := 29 + i) (by omega) (by decide) dX12_matesIn_32 ?_
          refine lv_iconst (v := nI 1) hx hb dX12_matesIn_33 (by decide) ?_
          refine lv_isub hx hb dX12_matesIn_34 ?_
          refine call_i (wr := []) (ws' := (fun _ : Unit => [(g0, wInt (cy 0) 37 s)])) (va_runS (As := [.ref g0, .int (s (21 + i)), .int (s (29 + i) - nI 1)]) (rest := []) CF (k_X12_cardAt l D cy _ g0 s (s (21 + i)) (s (29 + i) - nI 1) n (by first | assumption | omega) (by first | assumption | omega)) (va_cwS 3 hts gX12_matesIn_X12_cardAt rfl rfl rfl (by decide +kernel) ⟨Nat.le_of_ble_eq_true rfl, Nat.le_of_ble_eq_true rfl⟩) (pre_S hKN hP hD [0] rfl (by decide)) rfl rfl hl.1 rfl (lv_room (Nat.le_of_ble_eq_true rfl)) dX12_matesIn_35 ⟨Nat.le_of_ble_eq_true rfl, Nat.le_of_ble_eq_true rfl⟩) hS hA hP hD [0] [] [0] rfl rfl (by decide) (by decide) (fun _ => rfl) (by decide) (fun r2 u1 H locs hw3 hP hD hS => ?_)
          obtain rfl := hw3
          refine lv_aload_n hx hb dX12_matesIn_38 rfl (lv_at hl 0 rfl) ?_
          refine lv_bipush (v := nI 13) hx hb dX12_matesIn_39 (by decide) ?_
          refine lv_iload_n hx hb dX12_matesIn_41 rfl (lv_at hl 2 rfl) ?_
          refine adN (k := 13 + i) hx hb rfl dX12_matesIn_42 ?_
          refine ldN hx hb hK hP 0 rfl (j := 13 + i) (by omega) (by decide) dX12_matesIn_43 ?_
          refine lv_icmp_ne (tgt := 51) hx hb dX12_matesIn_44 (by decide) (fun c44 => ?_) (fun c44 => ?_)
          · refine lv_iconst (v := nI 0) hx hb dX12_matesIn_51 (by decide) ?_
            refine lv_istore_n (lv' := [(3, .int (nI 0)), (0, .ref g0), (1, .int x1), (2, .int (nI i))]) hx hb dX12_matesIn_52 rfl hl (by decide) rfl (fun ls hl => ?_)
            refine lv_iload_n hx hb dX12_matesIn_53 rfl (lv_at hl 2 rfl) ?_
            refine lv_iload_n hx hb dX12_matesIn_54 rfl (lv_at hl 0 rfl) ?_
            refine lv_if_eq (tgt := 64) hx hb dX12_matesIn_55 (by decide) (fun c55 => ?_) (fun c55 => absurd c55 (by decide))
            refine lv_iconst (v := nI 0) hx hb dX12_matesIn_64 (by decide) ?_
            refine lv_ior hx hb dX12_matesIn_65 ?_
            refine lv_istore_n (lv' := [(1, .int (x1 ||| nI 0)), (3, .int (nI 0)), (0, .ref g0), (2, .int (nI i))]) hx hb dX12_matesIn_66 rfl hl (by decide) rfl (fun ls hl => ?_)
            refine lv_iinc (v := nI (i + 1)) (lv' := [(2, .int (nI (i + 1))), (1, .int (x1 ||| nI 0)), (3, .int (nI 0)), (0, .ref g0)]) hx hb dX12_matesIn_67 hl (k := 3) rfl (nI_1 _) (by decide) rfl (fun ls hl => ?_)
            refine lv_goto (tgt := 4) hx hb dX12_matesIn_70 (by decide) ?_
            exact ih4 (i + 1) (x1 ||| nI 0) (by omega) (by omega) (by subst e1; rw [matesN]; simp [c8, Nat.not_le_of_lt c8, c17, c44]) _ _ hP hD hS ls (lv_sub hl [3, 1, 0] rfl)
          · refine lv_iconst (v := nI 1) hx hb dX12_matesIn_47 (by decide) ?_
            refine lv_goto (tgt := 52) hx hb dX12_matesIn_48 (by decide) ?_
            refine lv_istore_n (lv' := [(3, .int (nI 1)), (0, .ref g0), (1, .int x1), (2, .int (nI i))]) hx hb dX12_matesIn_52 rfl hl (by decide) rfl (fun ls hl => ?_)
            refine lv_iload_n hx hb dX12_matesIn_53 rfl (lv_at hl 2 rfl) ?_
            refine lv_iload_n hx hb dX12_matesIn_54 rfl (lv_at hl 0 rfl) ?_
            refine lv_if_eq (tgt := 64) hx hb dX12_matesIn_55 (by decide) (fun c55 => absurd c55 (by decide)) (fun c55 => ?_)
            refine lv_iconst (v := nI 1) hx hb dX12_matesIn_58 (by decide) ?_
            refine lv_iload_n hx hb dX12_matesIn_59 rfl (lv_at hl 3 rfl) ?_
            refine lv_ishl hx hb dX12_matesIn_60 ?_
            refine lv_goto (tgt := 65) hx hb dX12_matesIn_61 (by decide) ?_
            refine lv_ior hx hb dX12_matesIn_65 ?_
            refine lv_istore_n (lv' := [(1, .int (x1 ||| (nI 1 <<< (nI i &&& 31)))), (3, .int (nI 1)), (0, .ref g0), (2, .int (nI i))]) hx hb dX12_matesIn_66 rfl hl (by decide) rfl (fun ls hl => ?_)
            refine lv_iinc (v := nI (i + 1)) (lv' := [(2, .int (nI (i + 1))), (1, .int (x1 ||| (nI 1 <<< (nI i &&& 31)))), (3, .int (nI 1)), (0, .ref g0)]) hx hb dX12_matesIn_67 hl (k := 3) rfl (nI_1 _) (by decide) rfl (fun ls hl => ?_)
            refine lv_goto (tgt := 4) hx hb dX12_matesIn_70 (by decide) ?_
            exact ih4 (i + 1) (x1 ||| (nI 1 <<< (nI i &&& 31))) (by omega) (by omega) (by subst e1; rw [matesN]; simp [c8, Nat.not_le_of_lt c8, c17, c44]) _ _ hP hD hS ls (lv_sub hl [3, 1, 0] rfl)
  exact lp4 (n - 0 + 1) 0 (nI 0) (by omega) (by omega) rfl _ _ hP hD hS ls (lv_sub hl [2, 1, 0] rfl)
set_option maxHeartbeats 4000000 in
set_option maxRecDepth 100000 in
theorem k_X12_cardsIn (l : Launch) (D : va_G) (cy : Nat → ClassId) (sz : Nat) (g0 : Nat) (s : Nat → Int32) (d : Int32) (n : Nat) (hn : n ≤ 8) (h3 : s 3 = nI n) : Met l yX12_cardsIn wsX12_cardsIn (rmD 0) (pPre D (TY cy) ([(g0, wInt (cy 0) 37 s)]) sz [.ref g0, .int d]) (pI D (TY cy) ([(g0, wInt (cy 0) 37 s)]) sz (fun _ : Unit => [(g0, wInt (cy 0) 37 s)]) (fun (r : Int32) (_ : Unit) => r = cardsN s d n)) 0 0 (va_A ([(g0, wInt (cy 0) 37 s)]) sz) := by
  refine ent_i (cc := cX12_cardsIn) (maxL := 4) (by decide +kernel) rfl (Nat.le_of_ble_eq_true rfl) ?_
  intro p_ e_ s_ m_ args_ below_ meth_ c_ A_ Q_ ls B0 ret
  obtain ⟨CF, hA, hKN, hP, hD, hl⟩ := B0
  have hK := hKN.1
  obtain ⟨hx, hb, hml, hown, hts⟩ := id CF
  have hS : va_S A_ s_.heap s_.heap [] := va_S.rf
  have hl : lv_has ls 4 [(0, .ref g0), (1, .int d)] := hl
  refine lv_iconst (v := nI 0) hx hb dX12_cardsIn_0 (by decide) ?_
  refine lv_istore_n (lv' := [(2, .int (nI 0)), (0, .ref g0), (1, .int d)]) hx hb dX12_cardsIn_1 rfl hl (by decide) rfl (fun ls hl => ?_)
  refine lv_iconst (v := nI 0) hx hb dX12_cardsIn_2 (by decide) ?_
  refine lv_istore_n (lv' := [(3, .int (nI 0)), (2, .int (nI 0)), (0, .ref g0), (1, .int d)]) hx hb dX12_cardsIn_3 rfl hl (by decide) rfl (fun ls hl => ?_)
  have lp4 : ∀ f_ : Nat, ∀ (i : Nat) (x2 : Int32), (n - i) < f_ → (i ≤ n) → (x2 = cardsN s d i) → ∀ (H : Heap) (locs : List Loc), va_P D vwCl ([(g0, wInt (cy 0) 37 s)]) H → va_D A_ ([(g0, wInt (cy 0) 37 s)]) → va_S A_ s_.heap H locs → ∀ ls : Array Slot, lv_has ls 4 [(0, .ref g0), (1, .int d), (2, .int x2), (3, .int (nI i))] → W p_ l e_ (rmD 0) s_ m_ args_ below_ meth_ c_ H locs 0 0 Q_ (F0 m_ 4 ls []) := by
    intro f_
    induction f_ with
    | zero => intro i x2 hm_; exact absurd hm_ (by omega)
    | succ f_ ih4 =>
      intro i x2 hm_ hi e2 H locs hP hD hS ls hl
      refine lv_iload_n hx hb dX12_cardsIn_4 rfl (lv_at hl 3 rfl) ?_
      refine lv_aload_n hx hb dX12_cardsIn_5 rfl (lv_at hl 0 rfl) ?_
      refine lv_iconst (v := nI 3) hx hb dX12_cardsIn_6 (by decide) ?_
      refine ldN hx hb hK hP 0 rfl (j := 3) (by omega) (by decide) dX12_cardsIn_7 ?_
      refine top_i h3 ?_
      refine geN (tgt := 37) hx hb (by omega) (by omega) dX12_cardsIn_8 (by decide) (fun c8 => ?_) (fun c8 => ?_)
      · refine lv_iload_n hx hb dX12_cardsIn_37 rfl (lv_at hl 2 rfl) ?_
        exact ret _ () _ _ _ _ dX12_cardsIn_38 (by rw [e2, show i = n by omega]) hP hD hS
      · refine lv_iload_n hx hb dX12_cardsIn_11 rfl (lv_at hl 2 rfl) ?_
        refine lv_aload_n hx hb dX12_cardsIn_12 rfl (lv_at hl 0 rfl) ?_
        refine lv_bipush (v := nI 21) hx hb dX12_cardsIn_13 (by decide) ?_
        refine lv_iload_n hx hb dX12_cardsIn_15 rfl (lv_at hl 3 rfl) ?_
        refine adN (k := 21 + i) hx hb rfl dX12_cardsIn_16 ?_
        refine ldN hx hb hK hP 0 rfl (j := 21 + i) (by omega) (by decide) dX12_cardsIn_17 ?_
        refine lv_iload_n hx hb dX12_cardsIn_18 rfl (lv_at hl 1 rfl) ?_
        refine lv_icmp_ne (tgt := 28) hx hb dX12_cardsIn_19 (by decide) (fun c19 => ?_) (fun c19 => ?_)
        · refine lv_iconst (v := nI 0) hx hb dX12_cardsIn_28 (by decide) ?_
          refine lv_ior hx hb dX12_cardsIn_29 ?_
          refine lv_istore_n (lv' := [(2, .int (x2 ||| nI 0)), (0, .ref g0), (1, .int d), (3, .int (nI i))]) hx hb dX12_cardsIn_30 rfl hl (by decide) rfl (fun ls hl => ?_)
          refine lv_iinc (v := nI (i + 1)) (lv' := [(3, .int (nI (i + 1))), (2, .int (x2 ||| nI 0)), (0, .ref g0), (1, .int d)]) hx hb dX12_cardsIn_31 hl (k := 3) rfl (nI_1 _) (by decide) rfl (fun ls hl => ?_)
          refine lv_goto (tgt := 4) hx hb dX12_cardsIn_34 (by decide) ?_
          exact ih4 (i + 1) (x2 ||| nI 0) (by omega) (by omega) (by subst e2; rw [cardsN]; simp [c8, Nat.not_le_of_lt c8, c19]) _ _ hP hD hS ls (lv_sub hl [2, 3, 1, 0] rfl)
        · refine lv_iconst (v := nI 1) hx hb dX12_cardsIn_22 (by decide) ?_
          refine lv_iload_n hx hb dX12_cardsIn_23 rfl (lv_at hl 3 rfl) ?_
          refine lv_ishl hx hb dX12_cardsIn_24 ?_
          refine lv_goto (tgt := 29) hx hb dX12_cardsIn_25 (by decide) ?_
          refine lv_ior hx hb dX12_cardsIn_29 ?_
          refine lv_istore_n (lv' := [(2, .int (x2 ||| (nI 1 <<< (nI i &&& 31)))), (0, .ref g0), (1, .int d), (3, .int (nI i))]) hx hb dX12_cardsIn_30 rfl hl (by decide) rfl (fun ls hl => ?_)
          refine lv_iinc (v := nI (i + 1)) (lv' := [(3, .int (nI (i + 1))), (2, .int (x2 ||| (nI 1 <<< (nI i &&& 31)))), (0, .ref g0), (1, .int d)]) hx hb dX12_cardsIn_31 hl (k := 3) rfl (nI_1 _) (by decide) rfl (fun ls hl => ?_)
          refine lv_goto (tgt := 4) hx hb dX12_cardsIn_34 (by decide) ?_
          exact ih4 (i + 1) (x2 ||| (nI 1 <<< (nI i &&& 31))) (by omega) (by omega) (by subst e2; rw [cardsN]; simp [c8, Nat.not_le_of_lt c8, c19]) _ _ hP hD hS ls (lv_sub hl [2, 3, 1, 0] rfl)
  exact lp4 (n - 0 + 1) 0 (nI 0) (by omega) (by omega) rfl _ _ hP hD hS ls (lv_sub hl [2, 3, 1, 0] rfl)
set_option maxHeartbeats 4000000 in
set_option maxRecDepth 100000 in
theorem k_X12_figuresOf (l : Launch) (D : va_G) (cy : Nat → ClassId) (sz : Nat) (g0 : Nat) (s : Nat → Int32) (n : Nat) (hn : n ≤ 8) (h3 : s 3 = nI n) : Met l yX12_figuresOf wsX12_figuresOf (rmD 0) (pPre D (TY cy) ([(g0, wInt (cy 0) 37 s)]) sz [.ref g0]) (pI D (TY cy) ([(g0, wInt (cy 0) 37 s)]) sz (fun _ : Unit => [(g0, wInt (cy 0) 37 s)]) (fun (r : Int32) (_ : Unit) => r = figN s n)) 0 0 (va_A ([(g0, wInt (cy 0) 37 s)]) sz) := by
  refine ent_i (cc := cX12_figuresOf) (maxL := 3) (by decide +kernel) rfl (Nat.le_of_ble_eq_true rfl) ?_
  intro p_ e_ s_ m_ args_ below_ meth_ c_ A_ Q_ ls B0 ret
  obtain ⟨CF, hA, hKN, hP, hD, hl⟩ := B0
  have hK := hKN.1
  obtain ⟨hx, hb, hml, hown, hts⟩ := id CF
  have hS : va_S A_ s_.heap s_.heap [] := va_S.rf
  have hl : lv_has ls 3 [(0, .ref g0)] := hl
  refine lv_iconst (v := nI 0) hx hb dX12_figuresOf_0 (by decide) ?_
  refine lv_istore_n (lv' := [(1, .int (nI 0)), (0, .ref g0)]) hx hb dX12_figuresOf_1 rfl hl (by decide) rfl (fun ls hl => ?_)
  refine lv_iconst (v := nI 0) hx hb dX12_figuresOf_2 (by decide) ?_
  refine lv_istore_n (lv' := [(2, .int (nI 0)), (1, .int (nI 0)), (0, .ref g0)]) hx hb dX12_figuresOf_3 rfl hl (by decide) rfl (fun ls hl => ?_)
  have lp4 : ∀ f_ : Nat, ∀ (i : Nat) (x1 : Int32), (n - i) < f_ → (i ≤ n) → (x1 = figN s i) → ∀ (H : Heap) (locs : List Loc), va_P D vwCl ([(g0, wInt (cy 0) 37 s)]) H → va_D A_ ([(g0, wInt (cy 0) 37 s)]) → va_S A_ s_.heap H locs → ∀ ls : Array Slot, lv_has ls 3 [(0, .ref g0), (1, .int x1), (2, .int (nI i))] → W p_ l e_ (rmD 0) s_ m_ args_ below_ meth_ c_ H locs 0 0 Q_ (F0 m_ 4 ls []) := by
    intro f_
    induction f_ with
    | zero => intro i x1 hm_; exact absurd hm_ (by omega)
    | succ f_ ih4 =>
      intro i x1 hm_ hi e1 H locs hP hD hS ls hl
      refine lv_iload_n hx hb dX12_figuresOf_4 rfl (lv_at hl 2 rfl) ?_
      refine lv_aload_n hx hb dX12_figuresOf_5 rfl (lv_at hl 0 rfl) ?_
      refine lv_iconst (v := nI 3) hx hb dX12_figuresOf_6 (by decide) ?_
      refine ldN hx hb hK hP 0 rfl (j := 3) (by omega) (by decide) dX12_figuresOf_7 ?_
      refine top_i h3 ?_
      refine geN (tgt := 29) hx hb (by omega) (by omega) dX12_figuresOf_8 (by decide) (fun c8 => ?_) (fun c8 => ?_)
      · refine lv_iload_n hx hb dX12_figuresOf_29 rfl (lv_at hl 1 rfl) ?_
        exact ret _ () _ _ _ _ dX12_figuresOf_30 (by rw [e1, show i = n by omega]) hP hD hS
      · refine lv_bipush (v := nI 10) hx hb dX12_figuresOf_11 (by decide) ?_
        refine lv_iload_n hx hb dX12_figuresOf_13 rfl (lv_at hl 1 rfl) ?_
        refine lv_imul hx hb dX12_figuresOf_14 ?_
        refine lv_aload_n hx hb dX12_figuresOf_15 rfl (lv_at hl 0 rfl) ?_
        refine lv_bipush (v := nI 21) hx hb dX12_figuresOf_16 (by decide) ?_
        refine lv_iload_n hx hb dX12_figuresOf_18 rfl (lv_at hl 2 rfl) ?_
        refine adN (k := 21 + i) hx hb rfl dX12_figuresOf_19 ?_
        refine ldN hx hb hK hP 0 rfl (j := 21 + i) (by omega) (by decide) dX12_figuresOf_20 ?_
        refine lv_iadd hx hb dX12_figuresOf_21 ?_
        refine lv_istore_n (lv' := [(1, .int ((nI 10 * x1) + s (21 + i))), (0, .ref g0), (2, .int (nI i))]) hx hb dX12_figuresOf_22 rfl hl (by decide) rfl (fun ls hl => ?_)
        refine lv_iinc (v := nI (i + 1)) (lv' := [(2, .int (nI (i + 1))), (1, .int ((nI 10 * x1) + s (21 + i))), (0, .ref g0)]) hx hb dX12_figuresOf_23 hl (k := 2) rfl (nI_1 _) (by decide) rfl (fun ls hl => ?_)
        refine lv_goto (tgt := 4) hx hb dX12_figuresOf_26 (by decide) ?_
        exact ih4 (i + 1) ((nI 10 * x1) + s (21 + i)) (by omega) (by omega) (by rw [e1]; rfl) _ _ hP hD hS ls (lv_sub hl [2, 1, 0] rfl)
  exact lp4 (n - 0 + 1) 0 (nI 0) (by omega) (by omega) rfl _ _ hP hD hS ls (lv_sub hl [2, 1, 0] rfl)
