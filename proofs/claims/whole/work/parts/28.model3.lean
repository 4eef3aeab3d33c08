set_option maxHeartbeats 4000000 in
set_option maxRecDepth 100000 in
theorem k_X12_nightIn (l : Launch) (D : va_G) (cy : Nat → ClassId) (sz : Nat) (g0 : Nat) (s : Nat → Int32) (a0 : Int32) (n : Nat) (hC : Cat s n) : Met l yX12_nightIn wsX12_nightIn (rmD 4) (pPre D (TY cy) ([(g0, wInt (cy 0) 37 s)]) sz [.ref g0, .int a0]) (pV D (TY cy) ([(g0, wInt (cy 0) 37 s)]) sz (fun f2 : Nat → Int32 => [(g0, wInt (cy 0) 37 f2)]) (fun (u : (Nat → Int32)) => u = nightS s n a0)) 0 0 (va_A ([(g0, wInt (cy 0) 37 s)]) sz) := by
  refine ent_v (cc := cX12_nightIn) (maxL := 3) (by decide +kernel) rfl (Nat.le_of_ble_eq_true rfl) ?_
  intro p_ e_ s_ m_ args_ below_ meth_ c_ A_ Q_ ls B0 ret
  obtain ⟨CF, hA, hKN, hP, hD, hl⟩ := B0
  have hK := hKN.1
  obtain ⟨hx, hb, hml, hown, hts⟩ := id CF
  have hS : va_S A_ s_.heap s_.heap [] := va_S.rf
  have hl : lv_has ls 3 [(0, .ref g0), (1, .int a0)] := hl
  have hn := hC.2.1
  refine lv_iconst (v := nI 0) hx hb dX12_nightIn_0 (by decide) ?_
  refine lv_istore_n (lv' := [(2, .int (nI 0)), (0, .ref g0), (1, .int a0)]) hx hb dX12_nightIn_1 rfl hl (by decide) rfl (fun ls hl => ?_)
  have lp2 : ∀ f_ : Nat, ∀ (i : Nat) (f2 : Nat → Int32), (n - i) < f_ → (i ≤ n) → (Cat f2 n) → (f2 = nightN s n a0 i) → ∀ (H : Heap) (locs : List Loc), va_P D vwCl ([(g0, wInt (cy 0) 37 f2)]) H → va_D A_ ([(g0, wInt (cy 0) 37 f2)]) → va_S A_ s_.heap H locs → ∀ ls : Array Slot, lv_has ls 3 [(0, .ref g0), (1, .int a0), (2, .int (nI i))] → W p_ l e_ (rmD 4) s_ m_ args_ below_ meth_ c_ H locs 0 0 Q_ (F0 m_ 2 ls []) := by
    intro f_
    induction f_ with
    | zero => intro i f2 hm_; exact absurd hm_ (by omega)
    | succ f_ ih2 =>
      intro i f2 hm_ hi hC2 e2 H locs hP hD hS ls hl
      refine lv_iload_n hx hb dX12_nightIn_2 rfl (lv_at hl 2 rfl) ?_
      refine lv_aload_n hx hb dX12_nightIn_3 rfl (lv_at hl 0 rfl) ?_
      refine lv_iconst (v := nI 3) hx hb dX12_nightIn_4 (by decide) ?_
      refine ldN (f := f2) hx hb hK hP 0 rfl (j := 3) (by omega) (by decide) dX12_nightIn_5 ?_
      refine top_i hC2.1 ?_
      refine geN (tgt := 28) hx hb (by omega) (by omega) dX12_nightIn_6 (by decide) (fun c6 => ?_) (fun c6 => ?_)
      · refine lv_aload_n hx hb dX12_nightIn_28 rfl (lv_at hl 0 rfl) ?_
        refine lv_iconst (v := nI 0) hx hb dX12_nightIn_29 (by decide) ?_
        refine lv_dup2_11 hx hb dX12_nightIn_30 rfl rfl ?_
        refine ldN (f := f2) hx hb hK hP 0 rfl (j := 0) (by omega) (by decide) dX12_nightIn_31 ?_
        refine lv_iconst (v := nI 1) hx hb dX12_nightIn_32 (by decide) ?_
        refine lv_iadd hx hb dX12_nightIn_33 ?_
        refine stN (f := f2) (ws' := [(g0, wInt (cy 0) 37 (upd f2 0 (f2 0 + nI 1)))]) hx hb hK hP hD hS 0 rfl (j := 0) (by omega) (by decide) dX12_nightIn_34 rfl (fun H locs hP hD hS => ?_)
        exact ret (upd f2 0 (f2 0 + nI 1)) _ _ _ _ dX12_nightIn_35 (by rw [nightS, e2, show i = n by omega]) hP hD hS
      · refine lv_iload_n hx hb dX12_nightIn_9 rfl (lv_at hl 1 rfl) ?_
        refine lv_iload_n hx hb dX12_nightIn_10 rfl (lv_at hl 2 rfl) ?_
        refine call_i (wr := [(g0, wInt (cy 0) 37 f2)]) (ws' := (fun _ : Unit => [(g0, wInt (cy 0) 37 f2)])) (va_runS (As := [.int a0, .int (nI i)]) (rest := []) CF (k_X12_isIn l D cy _ a0 i ) (va_cwS 2 hts gX12_nightIn_X12_isIn rfl rfl rfl (by decide +kernel) ⟨Nat.le_of_ble_eq_true rfl, Nat.le_of_ble_eq_true rfl⟩) (pre_S hKN hP hD [] rfl (by decide)) rfl rfl hl.1 rfl (lv_room (Nat.le_of_ble_eq_true rfl)) dX12_nightIn_11 ⟨Nat.le_of_ble_eq_true rfl, Nat.le_of_ble_eq_true rfl⟩) hS hA hP hD [] [0] [0] rfl rfl (by decide) (by decide) (fun _ => rfl) (by decide) (fun r2 u1 H locs hw3 hP hD hS => ?_)
        replace hw3 := hw3.symm; subst hw3
        refine ifneB (tgt := 22) hx hb dX12_nightIn_14 (by decide) (fun c14 => ?_) (fun c14 => ?_)
        · refine lv_iinc (v := nI (i + 1)) (lv' := [(2, .int (nI (i + 1))), (0, .ref g0), (1, .int a0)]) hx hb dX12_nightIn_22 hl (k := 2) rfl (nI_1 _) (by decide) rfl (fun ls hl => ?_)
          refine lv_goto (tgt := 2) hx hb dX12_nightIn_25 (by decide) ?_
          exact ih2 (i + 1) f2 (by omega) (by omega) hC2 (by rw [nightN, if_pos c14]; exact e2) _ _ hP hD hS ls (lv_sub hl [1, 2, 0] rfl)
        · refine lv_aload_n hx hb dX12_nightIn_17 rfl (lv_at hl 0 rfl) ?_
          refine lv_iload_n hx hb dX12_nightIn_18 rfl (lv_at hl 2 rfl) ?_
          refine call_v (wr := []) (ws' := (fun u4 : (Nat → Int32) => [(g0, wInt (cy 0) 37 u4)])) (va_runS (As := [.ref g0, .int (nI i)]) (rest := []) CF (k_X12_turnOf l D cy _ g0 f2 i (lk f2 i) n (by first | assumption | omega | decide) hC2.1 (by first | assumption | omega | decide) (hC2.lk (by omega)).1 (hC2.lk (by omega)).2.1 (fun h0 => ⟨(hC2.kOf (by omega) h0).1, (hC2.kOf (by omega) h0).2.1⟩)) (va_cwS 2 hts gX12_nightIn_X12_turnOf rfl rfl rfl (by decide +kernel) ⟨Nat.le_of_ble_eq_true rfl, Nat.le_of_ble_eq_true rfl⟩) (pre_S hKN hP hD [0] rfl (by decide)) rfl rfl hl.1 rfl (lv_room (Nat.le_of_ble_eq_true rfl)) dX12_nightIn_19 ⟨Nat.le_of_ble_eq_true rfl, Nat.le_of_ble_eq_true rfl⟩) hS hA hP hD [0] [] [0] rfl rfl (by decide) (by decide) (fun _ => rfl) (by decide) (fun u4 H locs hw6 hP hD hS => ?_)
          replace hw6 := hw6.symm; subst hw6
          have hP : va_P D vwCl ([(g0, wInt (cy 0) 37 (turnS f2 n i (lk f2 i)))]) H := hP
          have hD : va_D A_ ([(g0, wInt (cy 0) 37 (turnS f2 n i (lk f2 i)))]) := hD
          refine lv_iinc (v := nI (i + 1)) (lv' := [(2, .int (nI (i + 1))), (0, .ref g0), (1, .int a0)]) hx hb dX12_nightIn_22 hl (k := 2) rfl (nI_1 _) (by decide) rfl (fun ls hl => ?_)
          refine lv_goto (tgt := 2) hx hb dX12_nightIn_25 (by decide) ?_
          exact ih2 (i + 1) (turnS f2 n i (lk f2 i)) (by omega) (by omega) (hC2.turn (by omega) (hC2.lk (by omega)).2.2) (by rw [nightN, if_neg c14, ← e2]) _ _ hP hD hS ls (lv_sub hl [1, 2, 0] rfl)
  exact lp2 (n - 0 + 1) 0 s (by omega) (by omega) hC rfl _ _ hP hD hS ls (lv_sub hl [1, 2, 0] rfl)
set_option maxHeartbeats 4000000 in
set_option maxRecDepth 100000 in
theorem k_X12_note (l : Launch) (D : va_G) (cy : Nat → ClassId) (sz : Nat) (h : Nat) (r : Nat → Nat) (v : Nat → Int32) (A : Nat → Nat → Int32) (a : Nat) (ha : v 19 = nI a) (ha24 : a ≤ 24) : Met l yX12_note wsX12_note (rmD 1) (pPre D (TY cy) (mW cy h r v A) sz [.ref h]) (pV D (TY cy) (mW cy h r v A) sz (fun u : Int32 × (Nat → Int32) => mW cy h r (upd v 19 u.1) (va_up A 18 u.2)) (fun (u : Int32 × (Nat → Int32)) => u = (nI (nta a + 1), noteF (A 18) a (A 12)))) 0 0 (va_A (mW cy h r v A) sz) := by
  refine ent_v (cc := cX12_note) (maxL := 2) (by decide +kernel) rfl (Nat.le_of_ble_eq_true rfl) ?_
  intro p_ e_ s_ m_ args_ below_ meth_ c_ A_ Q_ ls B0 ret
  obtain ⟨CF, hA, hKN, hP, hD, hl⟩ := B0
  have hK := hKN.1
  obtain ⟨hx, hb, hml, hown, hts⟩ := id CF
  have hS : va_S A_ s_.heap s_.heap [] := va_S.rf
  have hl : lv_has ls 2 [(0, .ref h)] := hl
  have hf134 := hts (.fieldLink RX12 134 "DrawerCardsModel" "acts" "I") (by decide +kernel)
  have hinX12 := show ∀ w ∈ u_ws RX12 TX12 24, w ∈ wsX12_note from by decide +kernel
  have hf22 := hts (.fieldLink RX12 22 "DrawerCardsModel" "now" "[I") (by decide +kernel)
  have hf41 := hts (.fieldLink RX12 41 "DrawerCardsModel" "actOf" "[I") (by decide +kernel)
  refine lv_aload_n hx hb dX12_note_0 rfl (lv_at hl 0 rfl) ?_
  refine va_get (ci := 11) (v := .int (v 19)) (C := RX12) (T := TX12) (N := 24) hx hb hts hinX12 hown hK hP 0 rfl rfl 19 (by decide) hf134 (fun _ h9 => h9) rfl dX12_note_1 ?_
  refine top_i ha ?_
  refine lv_bipush (v := nI 24) hx hb dX12_note_4 (by decide) ?_
  refine neN (tgt := 49) hx hb (by omega) (by decide) dX12_note_6 (by decide) (fun c6 => ?_) (fun c6 => ?_)
  · refine lv_aload_n hx hb dX12_note_49 rfl (lv_at hl 0 rfl) ?_
    refine va_get (ci := 11) (v := .ref (r 12)) (C := RX12) (T := TX12) (N := 24) hx hb hts hinX12 hown hK hP 0 rfl rfl 12 (by decide) hf22 (fun _ h9 => h9) rfl dX12_note_50 ?_
    refine lv_iconst (v := nI 0) hx hb dX12_note_53 (by decide) ?_
    refine lv_aload_n hx hb dX12_note_54 rfl (lv_at hl 0 rfl) ?_
    refine va_get (ci := 11) (v := .ref (r 18)) (C := RX12) (T := TX12) (N := 24) hx hb hts hinX12 hown hK hP 0 rfl rfl 18 (by decide) hf41 (fun _ h9 => h9) rfl dX12_note_55 ?_
    refine lv_bipush (v := nI 37) hx hb dX12_note_58 (by decide) ?_
    refine lv_aload_n hx hb dX12_note_60 rfl (lv_at hl 0 rfl) ?_
    refine va_get (ci := 11) (v := .int (v 19)) (C := RX12) (T := TX12) (N := 24) hx hb hts hinX12 hown hK hP 0 rfl rfl 19 (by decide) hf134 (fun _ h9 => h9) rfl dX12_note_61 ?_
    refine top_i ha ?_
    refine muN (k := 37 * a) hx hb rfl dX12_note_64 ?_
    refine call_v (wr := [(h, .inr (11, mO r v)), ((r 0), wInt (cy 0) 8 (A 0)), ((r 1), wInt (cy 0) 8 (A 1)), ((r 2), wInt (cy 0) 320 (A 2)), ((r 5), wInt (cy 0) 60 (A 5)), ((r 13), wInt (cy 0) 37 (A 13)), ((r 14), wInt (cy 0) 37 (A 14)), ((r 15), wInt (cy 0) 37 (A 15)), ((r 16), wInt (cy 0) 74 (A 16)), ((r 17), wInt (cy 1) 2 (A 17)), ((r 20), wInt (cy 0) 16 (A 20)), ((r 22), wInt (cy 0) 16 (A 22)), ((r 23), wInt (cy 0) 24 (A 23))]) (ws' := (fun _ : Unit => mW cy h r v (va_up A 18 (putF (A 18) (37 * a) (A 12))))) (va_runS (As := [.ref (r 12), .int (nI 0), .ref (r 18), .int (nI (37 * a))]) (rest := []) CF (k_X12_layOut l D cy _ (r 12) (r 18) 888 (A 12) (A 18) (37 * a) (by first | assumption | omega | decide) (by first | assumption | omega | decide)) (va_cwS 4 hts gX12_note_X12_lay rfl rfl rfl (by decide +kernel) ⟨Nat.le_of_ble_eq_true rfl, Nat.le_of_ble_eq_true rfl⟩) (pre_S hKN hP hD [5, 11] rfl (by decide)) rfl rfl hl.1 rfl (lv_room (Nat.le_of_ble_eq_true rfl)) dX12_note_65 ⟨Nat.le_of_ble_eq_true rfl, Nat.le_of_ble_eq_true rfl⟩) hS hA hP hD [5, 11] [0, 1, 2, 3, 4, 6, 7, 8, 9, 10, 12, 13, 14] [0, 1, 2, 3, 4, 13, 5, 6, 7, 8, 9, 14, 10, 11, 12] rfl rfl (by decide) (by decide) (fun _ => rfl) (by decide) (fun u1 H locs hw3 hP hD hS => ?_)
    refine lv_aload_n hx hb dX12_note_68 rfl (lv_at hl 0 rfl) ?_
    refine lv_dup hx hb dX12_note_69 rfl ?_
    refine va_get (ci := 11) (v := .int (v 19)) (C := RX12) (T := TX12) (N := 24) hx hb hts hinX12 hown hK hP 0 rfl rfl 19 (by decide) hf134 (fun _ h9 => h9) rfl dX12_note_70 ?_
    refine top_i ha ?_
    refine lv_iconst (v := nI 1) hx hb dX12_note_73 (by decide) ?_
    refine adN (k := a + 1) hx hb rfl dX12_note_74 ?_
    refine va_put (ci := 11) (v := .int (nI (a + 1))) (ty := .int) (C := RX12) (T := TX12) (N := 24) hx hb hts hinX12 tyX12 tyX12_ok nmX12 hown hK hP hD hS 0 rfl rfl 19 (by decide) hf134 (fun _ h9 => h9) rfl (by decide +kernel) rfl rfl (Nat.le_of_ble_eq_true rfl) dX12_note_75 (fun H locs hP hD hS => ?_)
    have hP : va_P D vwCl (mW cy h r (upd v 19 (nI (a + 1))) (va_up A 18 (putF (A 18) (37 * a) (A 12)))) H := hP
    have hD : va_D A_ (mW cy h r (upd v 19 (nI (a + 1))) (va_up A 18 (putF (A 18) (37 * a) (A 12)))) := hD
    exact ret ((nI (a + 1)), (putF (A 18) (37 * a) (A 12))) _ _ _ _ dX12_note_78 (by simp [nta, noteF, c6]) hP hD hS
  · refine lv_iconst (v := nI 0) hx hb dX12_note_9 (by decide) ?_
    refine lv_istore_n (lv' := [(1, .int (nI 0)), (0, .ref h)]) hx hb dX12_note_10 rfl hl (by decide) rfl (fun ls hl => ?_)
    have lp11 : ∀ f_ : Nat, ∀ (k : Nat) (f2 : Nat → Int32), (851 - k) < f_ → (k ≤ 851) → (f2 = shN (A 18) k) → ∀ (H : Heap) (locs : List Loc), va_P D vwCl (mW cy h r v (va_up A 18 f2)) H → va_D A_ (mW cy h r v (va_up A 18 f2)) → va_S A_ s_.heap H locs → ∀ ls : Array Slot, lv_has ls 2 [(0, .ref h), (1, .int (nI k))] → W p_ l e_ (rmD 1) s_ m_ args_ below_ meth_ c_ H locs 0 0 Q_ (F0 m_ 11 ls []) := by
      intro f_
      induction f_ with
      | zero => intro k f2 hm_; exact absurd hm_ (by omega)
      | succ f_ ih11 =>
        intro k f2 hm_ hk e2 H locs hP hD hS ls hl
        refine lv_iload_n hx hb dX12_note_11 rfl (lv_at hl 1 rfl) ?_
        refine lv_sipush (v := nI 851) hx hb dX12_note_12 (by decide) ?_
        refine geN (tgt := 39) hx hb (by omega) (by decide) dX12_note_15 (by decide) (fun c15 => ?_) (fun c15 => ?_)
        · refine lv_aload_n hx hb dX12_note_39 rfl (lv_at hl 0 rfl) ?_
          refine lv_dup hx hb dX12_note_40 rfl ?_
          refine va_get (ci := 11) (v := .int (v 19)) (C := RX12) (T := TX12) (N := 24) hx hb hts hinX12 hown hK hP 0 rfl rfl 19 (by decide) hf134 (fun _ h9 => h9) rfl dX12_note_41 ?_
          refine top_i ha ?_
          refine lv_iconst (v := nI 1) hx hb dX12_note_44 (by decide) ?_
          refine suN (k := 23) hx hb (by omega) dX12_note_45 ?_
          refine va_put (ci := 11) (v := .int (nI 23)) (ty := .int) (C := RX12) (T := TX12) (N := 24) hx hb hts hinX12 tyX12 tyX12_ok nmX12 hown hK hP hD hS 0 rfl rfl 19 (by decide) hf134 (fun _ h9 => h9) rfl (by decide +kernel) rfl rfl (Nat.le_of_ble_eq_true rfl) dX12_note_46 (fun H locs hP hD hS => ?_)
          have hP : va_P D vwCl (mW cy h r (upd v 19 (nI 23)) (va_up A 18 f2)) H := hP
          have hD : va_D A_ (mW cy h r (upd v 19 (nI 23)) (va_up A 18 f2)) := hD
          refine lv_aload_n hx hb dX12_note_49 rfl (lv_at hl 0 rfl) ?_
          refine va_get (ci := 11) (v := .ref (r 12)) (C := RX12) (T := TX12) (N := 24) hx hb hts hinX12 hown hK hP 0 rfl rfl 12 (by decide) hf22 (fun _ h9 => h9) rfl dX12_note_50 ?_
          refine lv_iconst (v := nI 0) hx hb dX12_note_53 (by decide) ?_
          refine lv_aload_n hx hb dX12_note_54 rfl (lv_at hl 0 rfl) ?_
          refine va_get (ci := 11) (v := .ref (r 18)) (C := RX12) (T := TX12) (N := 24) hx hb hts hinX12 hown hK hP 0 rfl rfl 18 (by decide) hf41 (fun _ h9 => h9) rfl dX12_note_55 ?_
          refine lv_bipush (v := nI 37) hx hb dX12_note_58 (by decide) ?_
          refine lv_aload_n hx hb dX12_note_60 rfl (lv_at hl 0 rfl) ?_
          refine va_get (ci := 11) (v := .int (nI 23)) (C := RX12) (T := TX12) (N := 24) hx hb hts hinX12 hown hK hP 0 rfl rfl 19 (by decide) hf134 (fun _ h9 => h9) rfl dX12_note_61 ?_
          refine muN (k := 851) hx hb rfl dX12_note_64 ?_
          refine call_v (wr := [(h, .inr (11, mO r (upd v 19 (nI 23)))), ((r 0), wInt (cy 0) 8 (A 0)), ((r 1), wInt (cy 0) 8 (A 1)), ((r 2), wInt (cy 0) 320 (A 2)), ((r 5), wInt (cy 0) 60 (A 5)), ((r 13), wInt (cy 0) 37 (A 13)), ((r 14), wInt (cy 0) 37 (A 14)), ((r 15), wInt (cy 0) 37 (A 15)), ((r 16), wInt (cy 0) 74 (A 16)), ((r 17), wInt (cy 1) 2 (A 17)), ((r 20), wInt (cy 0) 16 (A 20)), ((r 22), wInt (cy 0) 16 (A 22)), ((r 23), wInt (cy 0) 24 (A 23))]) (ws' := (fun _ : Unit => mW cy h r (upd v 19 (nI 23)) (va_up A 18 (putF f2 851 (A 12))))) (va_runS (As := [.ref (r 12), .int (nI 0), .ref (r 18), .int (nI 851)]) (rest := []) CF (k_X12_layOut l D cy _ (r 12) (r 18) 888 (A 12) f2 851 (by first | assumption | omega | decide) (by first | assumption | omega | decide)) (va_cwS 4 hts gX12_note_X12_lay rfl rfl rfl (by decide +kernel) ⟨Nat.le_of_ble_eq_true rfl, Nat.le_of_ble_eq_true rfl⟩) (pre_S hKN hP hD [5, 11] rfl (by decide)) rfl rfl hl.1 rfl (lv_room (Nat.le_of_ble_eq_true rfl)) dX12_note_65 ⟨Nat.le_of_ble_eq_true rfl, Nat.le_of_ble_eq_true rfl⟩) hS hA hP hD [5, 11] [0, 1, 2, 3, 4, 6, 7, 8, 9, 10, 12, 13, 14] [0, 1, 2, 3, 4, 13, 5, 6, 7, 8, 9, 14, 10, 11, 12] rfl rfl (by decide) (by decide) (fun _ => rfl) (by decide) (fun u4 H locs hw6 hP hD hS => ?_)
          refine lv_aload_n hx hb dX12_note_68 rfl (lv_at hl 0 rfl) ?_
          refine lv_dup hx hb dX12_note_69 rfl ?_
          refine va_get (ci := 11) (v := .int (nI 23)) (C := RX12) (T := TX12) (N := 24) hx hb hts hinX12 hown hK hP 0 rfl rfl 19 (by decide) hf134 (fun _ h9 => h9) rfl dX12_note_70 ?_
          refine lv_iconst (v := nI 1) hx hb dX12_note_73 (by decide) ?_
          refine adN (k := 24) hx hb rfl dX12_note_74 ?_
          refine va_put (ci := 11) (v := .int (nI 24)) (ty := .int) (C := RX12) (T := TX12) (N := 24) hx hb hts hinX12 tyX12 tyX12_ok nmX12 hown hK hP hD hS 0 rfl rfl 19 (by decide) hf134 (fun _ h9 => h9) rfl (by decide +kernel) rfl rfl (Nat.le_of_ble_eq_true rfl) dX12_note_75 (fun H locs hP hD hS => ?_)
          have hP : va_P D vwCl (mW cy h r (upd v 19 (nI 24)) (va_up A 18 (putF f2 851 (A 12)))) H := hP
          have hD : va_D A_ (mW cy h r (upd v 19 (nI 24)) (va_up A 18 (putF f2 851 (A 12)))) := hD
          exact ret ((nI 24), (putF f2 851 (A 12))) _ _ _ _ dX12_note_78 (by have hk9 : k = 851 := (by omega); subst hk9; simp [nta, noteF, c6, e2]) hP hD hS
        · refine lv_aload_n hx hb dX12_note_18 rfl (lv_at hl 0 rfl) ?_
          refine va_get (ci := 11) (v := .ref (r 18)) (C := RX12) (T := TX12) (N := 24) hx hb hts hinX12 hown hK hP 0 rfl rfl 18 (by decide) hf41 (fun _ h9 => h9) rfl dX12_note_19 ?_
          refine lv_iload_n hx hb dX12_note_22 rfl (lv_at hl 1 rfl) ?_
          refine lv_aload_n hx hb dX12_note_23 rfl (lv_at hl 0 rfl) ?_
          refine va_get (ci := 11) (v := .ref (r 18)) (C := RX12) (T := TX12) (N := 24) hx hb hts hinX12 hown hK hP 0 rfl rfl 18 (by decide) hf41 (fun _ h9 => h9) rfl dX12_note_24 ?_
          refine lv_iload_n hx hb dX12_note_27 rfl (lv_at hl 1 rfl) ?_
          refine lv_bipush (v := nI 37) hx hb dX12_note_28 (by decide) ?_
          refine adN (k := k + 37) hx hb rfl dX12_note_30 ?_
          refine ldN (f := f2) hx hb hK hP 11 rfl (j := k + 37) (by omega) (by decide) dX12_note_31 ?_
          refine stN (f := f2) (ws' := mW cy h r v (va_up A 18 (upd f2 k (f2 (k + 37))))) hx hb hK hP hD hS 11 rfl (j := k) (by omega) (by decide) dX12_note_32 rfl (fun H locs hP hD hS => ?_)
          refine lv_iinc (v := nI (k + 1)) (lv' := [(1, .int (nI (k + 1))), (0, .ref h)]) hx hb dX12_note_33 hl (k := 1) rfl (nI_1 _) (by decide) rfl (fun ls hl => ?_)
          refine lv_goto (tgt := 11) hx hb dX12_note_36 (by decide) ?_
          exact ih11 (k + 1) (upd f2 k (f2 (k + 37))) (by omega) (by omega) (by rw [e2]; exact shN_succ _ k) _ _ hP hD hS ls (lv_sub hl [1, 0] rfl)
    exact lp11 (851 - 0 + 1) 0 (A 18) (by omega) (by omega) (shN_0 _).symm _ _ hP hD hS ls (lv_sub hl [1, 0] rfl)
set_option maxHeartbeats 4000000 in
set_option maxRecDepth 100000 in
theorem k_X12_begin (l : Launch) (D : va_G) (cy : Nat → ClassId) (sz : Nat) (h : Nat) (r : Nat → Nat) (v : Nat → Int32) (A : Nat → Nat → Int32)  : Met l yX12_begin wsX12_begin (rmD 1) (pPre D (TY cy) (mW cy h r v A) sz [.ref h]) (pV D (TY cy) (mW cy h r v A) sz (fun _ : Unit => mW cy h r v (va_up A 14 (A 12))) (fun (_ : Unit) => True)) 0 0 (va_A (mW cy h r v A) sz) := by
  refine ent_v (cc := cX12_begin) (maxL := 1) (by decide +kernel) rfl (Nat.le_of_ble_eq_true rfl) ?_
  intro p_ e_ s_ m_ args_ below_ meth_ c_ A_ Q_ ls B0 ret
  obtain ⟨CF, hA, hKN, hP, hD, hl⟩ := B0
  have hK := hKN.1
  obtain ⟨hx, hb, hml, hown, hts⟩ := id CF
  have hS : va_S A_ s_.heap s_.heap [] := va_S.rf
  have hl : lv_has ls 1 [(0, .ref h)] := hl
  have hf22 := hts (.fieldLink RX12 22 "DrawerCardsModel" "now" "[I") (by decide +kernel)
  have hinX12 := show ∀ w ∈ u_ws RX12 TX12 24, w ∈ wsX12_begin from by decide +kernel
  have hf28 := hts (.fieldLink RX12 28 "DrawerCardsModel" "tried" "[I") (by decide +kernel)
  refine lv_aload_n hx hb dX12_begin_0 rfl (lv_at hl 0 rfl) ?_
  refine va_get (ci := 11) (v := .ref (r 12)) (C := RX12) (T := TX12) (N := 24) hx hb hts hinX12 hown hK hP 0 rfl rfl 12 (by decide) hf22 (fun _ h9 => h9) rfl dX12_begin_1 ?_
  refine lv_iconst (v := nI 0) hx hb dX12_begin_4 (by decide) ?_
  refine lv_aload_n hx hb dX12_begin_5 rfl (lv_at hl 0 rfl) ?_
  refine va_get (ci := 11) (v := .ref (r 14)) (C := RX12) (T := TX12) (N := 24) hx hb hts hinX12 hown hK hP 0 rfl rfl 14 (by decide) hf28 (fun _ h9 => h9) rfl dX12_begin_6 ?_
  refine lv_iconst (v := nI 0) hx hb dX12_begin_9 (by decide) ?_
  refine call_v (wr := [(h, .inr (11, mO r v)), ((r 0), wInt (cy 0) 8 (A 0)), ((r 1), wInt (cy 0) 8 (A 1)), ((r 2), wInt (cy 0) 320 (A 2)), ((r 5), wInt (cy 0) 60 (A 5)), ((r 13), wInt (cy 0) 37 (A 13)), ((r 15), wInt (cy 0) 37 (A 15)), ((r 16), wInt (cy 0) 74 (A 16)), ((r 17), wInt (cy 1) 2 (A 17)), ((r 18), wInt (cy 0) 888 (A 18)), ((r 20), wInt (cy 0) 16 (A 20)), ((r 22), wInt (cy 0) 16 (A 22)), ((r 23), wInt (cy 0) 24 (A 23))]) (ws' := (fun _ : Unit => mW cy h r v (va_up A 14 (A 12)))) (va_runS (As := [.ref (r 12), .int (nI 0), .ref (r 14), .int (nI 0)]) (rest := []) CF (k_X12_lay00 l D cy _ (r 12) (r 14) (A 12) (A 14) ) (va_cwS 4 hts gX12_begin_X12_lay rfl rfl rfl (by decide +kernel) ⟨Nat.le_of_ble_eq_true rfl, Nat.le_of_ble_eq_true rfl⟩) (pre_S hKN hP hD [5, 7] rfl (by decide)) rfl rfl hl.1 rfl (lv_room (Nat.le_of_ble_eq_true rfl)) dX12_begin_10 ⟨Nat.le_of_ble_eq_true rfl, Nat.le_of_ble_eq_true rfl⟩) hS hA hP hD [5, 7] [0, 1, 2, 3, 4, 6, 8, 9, 10, 11, 12, 13, 14] [0, 1, 2, 3, 4, 13, 5, 14, 6, 7, 8, 9, 10, 11, 12] rfl rfl (by decide) (by decide) (fun _ => rfl) (by decide) (fun u1 H locs hw3 hP hD hS => ?_)
  exact ret () _ _ _ _ dX12_begin_13 trivial hP hD hS
set_option maxHeartbeats 4000000 in
set_option maxRecDepth 100000 in
theorem k_X12_goOn (l : Launch) (D : va_G) (cy : Nat → ClassId) (sz : Nat) (h : Nat) (r : Nat → Nat) (v : Nat → Int32) (A : Nat → Nat → Int32) (m : Nat) (n : Nat) (hm : m ≤ 60) (hC : Cat (A 14) n) : Met l yX12_goOn wsX12_goOn (rmD 5) (pPre D (TY cy) (mW cy h r v A) sz [.ref h, .int (nI m)]) (pV D (TY cy) (mW cy h r v A) sz (fun f3 : Nat → Int32 => mW cy h r v (va_up A 14 f3)) (fun (u : (Nat → Int32)) => u = nightsS (A 14) n m)) 0 0 (va_A (mW cy h r v A) sz) := by
  refine ent_v (cc := cX12_goOn) (maxL := 3) (by decide +kernel) rfl (Nat.le_of_ble_eq_true rfl) ?_
  intro p_ e_ s_ m_ args_ below_ meth_ c_ A_ Q_ ls B0 ret
  obtain ⟨CF, hA, hKN, hP, hD, hl⟩ := B0
  have hK := hKN.1
  obtain ⟨hx, hb, hml, hown, hts⟩ := id CF
  have hS : va_S A_ s_.heap s_.heap [] := va_S.rf
  have hl : lv_has ls 3 [(0, .ref h), (1, .int (nI m))] := hl
  have hf28 := hts (.fieldLink RX12 28 "DrawerCardsModel" "tried" "[I") (by decide +kernel)
  have hinX12 := show ∀ w ∈ u_ws RX12 TX12 24, w ∈ wsX12_goOn from by decide +kernel
  refine lv_iconst (v := nI 0) hx hb dX12_goOn_0 (by decide) ?_
  refine lv_istore_n (lv' := [(2, .int (nI 0)), (0, .ref h), (1, .int (nI m))]) hx hb dX12_goOn_1 rfl hl (by decide) rfl (fun ls hl => ?_)
  have lp2 : ∀ f_ : Nat, ∀ (k : Nat) (f2 : Nat → Int32), (m - k) < f_ → (k ≤ m) → (Cat f2 n) → (f2 = nightsS (A 14) n k) → ∀ (H : Heap) (locs : List Loc), va_P D vwCl (mW cy h r v (va_up A 14 f2)) H → va_D A_ (mW cy h r v (va_up A 14 f2)) → va_S A_ s_.heap H locs → ∀ ls : Array Slot, lv_has ls 3 [(0, .ref h), (1, .int (nI m)), (2, .int (nI k))] → W p_ l e_ (rmD 5) s_ m_ args_ below_ meth_ c_ H locs 0 0 Q_ (F0 m_ 2 ls []) := by
    intro f_
    induction f_ with
    | zero => intro k f2 hm_; exact absurd hm_ (by omega)
    | succ f_ ih2 =>
      intro k f2 hm_ hk hC2 e2 H locs hP hD hS ls hl
      refine lv_iload_n hx hb dX12_goOn_2 rfl (lv_at hl 2 rfl) ?_
      refine lv_iload_n hx hb dX12_goOn_3 rfl (lv_at hl 1 rfl) ?_
      refine geN (tgt := 21) hx hb (by omega) (by omega) dX12_goOn_4 (by decide) (fun c4 => ?_) (fun c4 => ?_)
      · exact ret f2 _ _ _ _ dX12_goOn_21 (by rw [e2, show k = m by omega]) hP hD hS
      · refine lv_aload_n hx hb dX12_goOn_7 rfl (lv_at hl 0 rfl) ?_
        refine va_get (ci := 11) (v := .ref (r 14)) (C := RX12) (T := TX12) (N := 24) hx hb hts hinX12 hown hK hP 0 rfl rfl 14 (by decide) hf28 (fun _ h9 => h9) rfl dX12_goOn_8 ?_
        refine lv_iconst (v := nI 0) hx hb dX12_goOn_11 (by decide) ?_
        refine call_v (wr := [(h, .inr (11, mO r v)), ((r 0), wInt (cy 0) 8 (A 0)), ((r 1), wInt (cy 0) 8 (A 1)), ((r 2), wInt (cy 0) 320 (A 2)), ((r 5), wInt (cy 0) 60 (A 5)), ((r 12), wInt (cy 0) 37 (A 12)), ((r 13), wInt (cy 0) 37 (A 13)), ((r 15), wInt (cy 0) 37 (A 15)), ((r 16), wInt (cy 0) 74 (A 16)), ((r 17), wInt (cy 1) 2 (A 17)), ((r 18), wInt (cy 0) 888 (A 18)), ((r 20), wInt (cy 0) 16 (A 20)), ((r 22), wInt (cy 0) 16 (A 22)), ((r 23), wInt (cy 0) 24 (A 23))]) (ws' := (fun u1 : (Nat → Int32) => mW cy h r v (va_up A 14 u1))) (va_runS (As := [.ref (r 14), .int (nI 0)]) (rest := []) CF (k_X12_nightIn l D cy _ (r 14) f2 (nI 0) n hC2) (va_cwS 2 hts gX12_goOn_X12_nightIn rfl rfl rfl (by decide +kernel) ⟨Nat.le_of_ble_eq_true rfl, Nat.le_of_ble_eq_true rfl⟩) (pre_S hKN hP hD [7] rfl (by decide)) rfl rfl hl.1 rfl (lv_room (Nat.le_of_ble_eq_true rfl)) dX12_goOn_12 ⟨Nat.le_of_ble_eq_true rfl, Nat.le_of_ble_eq_true rfl⟩) hS hA hP hD [7] [0, 1, 2, 3, 4, 5, 6, 8, 9, 10, 11, 12, 13, 14] [0, 1, 2, 3, 4, 5, 6, 14, 7, 8, 9, 10, 11, 12, 13] rfl rfl (by decide) (by decide) (fun _ => rfl) (by decide) (fun u1 H locs hw3 hP hD hS => ?_)
        replace hw3 := hw3.symm; subst hw3
        have hP : va_P D vwCl (mW cy h r v (va_up A 14 (nightS f2 n (nI 0)))) H := hP
        have hD : va_D A_ (mW cy h r v (va_up A 14 (nightS f2 n (nI 0)))) := hD
        refine lv_iinc (v := nI (k + 1)) (lv' := [(2, .int (nI (k + 1))), (0, .ref h), (1, .int (nI m))]) hx hb dX12_goOn_15 hl (k := 2) rfl (nI_1 _) (by decide) rfl (fun ls hl => ?_)
        refine lv_goto (tgt := 2) hx hb dX12_goOn_18 (by decide) ?_
        exact ih2 (k + 1) (nightS f2 n (nI 0)) (by omega) (by omega) (hC2.night _) (by rw [e2]; rfl) _ _ hP hD hS ls (lv_sub hl [1, 2, 0] rfl)
  exact lp2 (m - 0 + 1) 0 (A 14) (by omega) (by omega) hC rfl _ _ hP hD hS ls (lv_sub hl [1, 2, 0] rfl)
set_option maxHeartbeats 4000000 in
set_option maxRecDepth 100000 in
theorem k_X12_nights (l : Launch) (D : va_G) (cy : Nat → ClassId) (sz : Nat) (h : Nat) (r : Nat → Nat) (v : Nat → Int32) (A : Nat → Nat → Int32) (n : Nat) (a : Nat) (x : Int32) (hC : Cat (A 12) n) (ha : v 19 = nI a) (ha24 : a ≤ 24) : Met l yX12_nights wsX12_nights (rmD 5) (pPre D (TY cy) (mW cy h r v A) sz [.ref h, .int x]) (pI D (TY cy) (mW cy h r v A) sz (fun u : (Nat → Int32) × (Nat → Nat → Int32) => mW cy h r u.1 u.2) (fun (r_ : Int32) (u : (Nat → Int32) × (Nat → Nat → Int32)) => r_ = ((mNights v A n a x).1) ∧ u = ((mNights v A n a x).2.1, (mNights v A n a x).2.2))) 0 0 (va_A (mW cy h r v A) sz) := by
  refine ent_i (cc := cX12_nights) (maxL := 3) (by decide +kernel) rfl (Nat.le_of_ble_eq_true rfl) ?_
  intro p_ e_ s_ m_ args_ below_ meth_ c_ A_ Q_ ls B0 ret
  obtain ⟨CF, hA, hKN, hP, hD, hl⟩ := B0
  have hK := hKN.1
  obtain ⟨hx, hb, hml, hown, hts⟩ := id CF
  have hS : va_S A_ s_.heap s_.heap [] := va_S.rf
  have hl : lv_has ls 3 [(0, .ref h), (1, .int x)] := hl
  have hf22 := hts (.fieldLink RX12 22 "DrawerCardsModel" "now" "[I") (by decide +kernel)
  have hinX12 := show ∀ w ∈ u_ws RX12 TX12 24, w ∈ wsX12_nights from by decide +kernel
  have hc80 := hts (.constant RX12 80 (-1000003)) (by decide +kernel)
  have hc66 := hts (.constant RX12 66 (-1000001)) (by decide +kernel)
  have hc172 := hts (.constant RX12 172 (-1000002)) (by decide +kernel)
  have hn := hC.2.1
  refine lv_aload_n hx hb dX12_nights_0 rfl (lv_at hl 0 rfl) ?_
  refine call_i (wr := []) (ws' := (fun _ : Unit => mW cy h r v A)) (va_runV (As := []) (rest := []) CF (k_X12_isThere l D cy _ h r v A ) (cwV 0 hts gX12_nights_X12_isThere rfl rfl rfl (by decide +kernel) ⟨Nat.le_of_ble_eq_true rfl, Nat.le_of_ble_eq_true rfl⟩) (pre_V hKN hP hD [0, 1, 2, 3, 4, 5, 6, 7, 8, 9, 10, 11, 12, 13, 14] rfl (by decide) 0 11 rfl rfl) rfl rfl hl.1 rfl (lv_room (Nat.le_of_ble_eq_true rfl)) dX12_nights_1 ⟨Nat.le_of_ble_eq_true rfl, Nat.le_of_ble_eq_true rfl⟩) hS hA hP hD [0, 1, 2, 3, 4, 5, 6, 7, 8, 9, 10, 11, 12, 13, 14] [] [0, 1, 2, 3, 4, 5, 6, 7, 8, 9, 10, 11, 12, 13, 14] rfl rfl (by decide) (by decide) (fun _ => rfl) (by decide) (fun r2 u1 H locs hw3 hP hD hS => ?_)
  replace hw3 := hw3.symm; subst hw3
  refine ifneB (tgt := 10) hx hb dX12_nights_4 (by decide) (fun c4 => ?_) (fun c4 => ?_)
  · refine lv_iload_n hx hb dX12_nights_10 rfl (lv_at hl 1 rfl) ?_
    refine lv_iconst (v := nI 1) hx hb dX12_nights_11 (by decide) ?_
    refine lv_bipush (v := nI 24) hx hb dX12_nights_12 (by decide) ?_
    refine call_i (wr := [(h, .inr (11, mO r v)), ((r 0), wInt (cy 0) 8 (A 0)), ((r 1), wInt (cy 0) 8 (A 1)), ((r 2), wInt (cy 0) 320 (A 2)), ((r 5), wInt (cy 0) 60 (A 5)), ((r 12), wInt (cy 0) 37 (A 12)), ((r 13), wInt (cy 0) 37 (A 13)), ((r 14), wInt (cy 0) 37 (A 14)), ((r 15), wInt (cy 0) 37 (A 15)), ((r 16), wInt (cy 0) 74 (A 16)), ((r 17), wInt (cy 1) 2 (A 17)), ((r 18), wInt (cy 0) 888 (A 18)), ((r 20), wInt (cy 0) 16 (A 20)), ((r 22), wInt (cy 0) 16 (A 22)), ((r 23), wInt (cy 0) 24 (A 23))]) (ws' := (fun _ : Unit => mW cy h r v A)) (va_runS (As := [.int x, .int (nI 1), .int (nI 24)]) (rest := []) CF (k_X12_in l D cy _ x (nI 1) (nI 24) ) (va_cwS 3 hts gX12_nights_X12_in rfl rfl rfl (by decide +kernel) ⟨Nat.le_of_ble_eq_true rfl, Nat.le_of_ble_eq_true rfl⟩) (pre_S hKN hP hD [] rfl (by decide)) rfl rfl hl.1 rfl (lv_room (Nat.le_of_ble_eq_true rfl)) dX12_nights_14 ⟨Nat.le_of_ble_eq_true rfl, Nat.le_of_ble_eq_true rfl⟩) hS hA hP hD [] [0, 1, 2, 3, 4, 5, 6, 7, 8, 9, 10, 11, 12, 13, 14] [0, 1, 2, 3, 4, 5, 6, 7, 8, 9, 10, 11, 12, 13, 14] rfl rfl (by decide) (by decide) (fun _ => rfl) (by decide) (fun r5 u4 H locs hw6 hP hD hS => ?_)
    replace hw6 := hw6.symm; subst hw6
    refine ifneB (tgt := 23) hx hb dX12_nights_17 (by decide) (fun c17 => ?_) (fun c17 => ?_)
    · obtain ⟨k, h_k, rfl⟩ := rng (m := 24) (by decide) ⟨Int32.le_trans (by decide) c17.1, c17.2⟩
      have e_k : (nI k).toNatClampNeg = k := nI_clamp (by omega)
      refine lv_aload_n hx hb dX12_nights_23 rfl (lv_at hl 0 rfl) ?_
      refine va_get (ci := 11) (v := .ref (r 12)) (C := RX12) (T := TX12) (N := 24) hx hb hts hinX12 hown hK hP 0 rfl rfl 12 (by decide) hf22 (fun _ h9 => h9) rfl dX12_nights_24 ?_
      refine lv_iconst (v := nI 0) hx hb dX12_nights_27 (by decide) ?_
      refine ldN (f := (A 12)) hx hb hK hP 5 rfl (j := 0) (by omega) (by decide) dX12_nights_28 ?_
      refine lv_iload_n hx hb dX12_nights_29 rfl (lv_at hl 1 rfl) ?_
      refine lv_iadd hx hb dX12_nights_30 ?_
      refine lv_sipush (v := nI 9999) hx hb dX12_nights_31 (by decide) ?_
      refine lv_icmp_le (tgt := 40) hx hb dX12_nights_34 (by decide) (fun c34 => ?_) (fun c34 => ?_)
      · refine lv_iconst (v := nI 0) hx hb dX12_nights_40 (by decide) ?_
        refine lv_istore_n (lv' := [(2, .int (nI 0)), (0, .ref h), (1, .int (nI k))]) hx hb dX12_nights_41 rfl hl (by decide) rfl (fun ls hl => ?_)
        have lp42 : ∀ f_ : Nat, ∀ (j : Nat) (v2 : Nat → Int32) (A2 : Nat → Nat → Int32), (k - j) < f_ → (j ≤ k) → (Cat (A2 12) n) → (v2 19 = nI (acN a j)) → (v2 = (ngtN v A n a j).1) → (A2 = (ngtN v A n a j).2) → ∀ (H : Heap) (locs : List Loc), va_P D vwCl (mW cy h r v2 A2) H → va_D A_ (mW cy h r v2 A2) → va_S A_ s_.heap H locs → ∀ ls : Array Slot, lv_has ls 3 [(0, .ref h), (1, .int (nI k)), (2, .int (nI j))] → W p_ l e_ (rmD 5) s_ m_ args_ below_ meth_ c_ H locs 0 0 Q_ (F0 m_ 42 ls []) := by
          intro f_
          induction f_ with
          | zero => intro j v2 A2 hm_; exact absurd hm_ (by omega)
          | succ f_ ih42 =>
            intro j v2 A2 hm_ hj hC2 ha2 ev eA H locs hP hD hS ls hl
            refine lv_iload_n hx hb dX12_nights_42 rfl (lv_at hl 2 rfl) ?_
            refine lv_iload_n hx hb dX12_nights_43 rfl (lv_at hl 1 rfl) ?_
            refine geN (tgt := 65) hx hb (by omega) (by omega) dX12_nights_44 (by decide) (fun c44 => ?_) (fun c44 => ?_)
            · refine lv_aload_n hx hb dX12_nights_65 rfl (lv_at hl 0 rfl) ?_
              refine va_get (ci := 11) (v := .ref (r 12)) (C := RX12) (T := TX12) (N := 24) hx hb hts hinX12 hown hK hP 0 rfl rfl 12 (by decide) hf22 (fun _ h9 => h9) rfl dX12_nights_66 ?_
              refine call_i (wr := [(h, .inr (11, mO r v2)), ((r 0), wInt (cy 0) 8 (A2 0)), ((r 1), wInt (cy 0) 8 (A2 1)), ((r 2), wInt (cy 0) 320 (A2 2)), ((r 5), wInt (cy 0) 60 (A2 5)), ((r 13), wInt (cy 0) 37 (A2 13)), ((r 14), wInt (cy 0) 37 (A2 14)), ((r 15), wInt (cy 0) 37 (A2 15)), ((r 16), wInt (cy 0) 74 (A2 16)), ((r 17), wInt (cy 1) 2 (A2 17)), ((r 18), wInt (cy 0) 888 (A2 18)), ((r 20), wInt (cy 0) 16 (A2 20)), ((r 22), wInt (cy 0) 16 (A2 22)), ((r 23), wInt (cy 0) 24 (A2 23))]) (ws' := (fun _ : Unit => mW cy h r v2 A2)) (va_runS (As := [.ref (r 12)]) (rest := []) CF (k_X12_matesIn l D cy _ (r 12) (A2 12) n (by first | assumption | omega | decide) hC2.1) (va_cwS 1 hts gX12_nights_X12_matesIn rfl rfl rfl (by decide +kernel) ⟨Nat.le_of_ble_eq_true rfl, Nat.le_of_ble_eq_true rfl⟩) (pre_S hKN hP hD [5] rfl (by decide)) rfl rfl hl.1 rfl (lv_room (Nat.le_of_ble_eq_true rfl)) dX12_nights_69 ⟨Nat.le_of_ble_eq_true rfl, Nat.le_of_ble_eq_true rfl⟩) hS hA hP hD [5] [0, 1, 2, 3, 4, 6, 7, 8, 9, 10, 11, 12, 13, 14] [0, 1, 2, 3, 4, 14, 5, 6, 7, 8, 9, 10, 11, 12, 13] rfl rfl (by decide) (by decide) (fun _ => rfl) (by decide) (fun r8 u7 H locs hw9 hP hD hS => ?_)
              replace hw9 := hw9.symm; subst hw9
              exact ret _ (v2, A2) _ _ _ _ dX12_nights_72 (by have hj9 : j = k := (by omega); subst hj9; simp [-not_and, -Int32.not_le, -Int32.not_lt, noOne, noDr, mNights, c4, c17, e_k, c34, c44, Nat.not_lt_of_le c44, ev, eA]) hP hD hS
            · refine lv_aload_n hx hb dX12_nights_47 rfl (lv_at hl 0 rfl) ?_
              refine call_v (wr := []) (ws' := (fun u10 : Int32 × (Nat → Int32) => mW cy h r (upd v2 19 u10.1) (va_up A2 18 u10.2))) (va_runV (As := []) (rest := []) CF (k_X12_note l D cy _ h r v2 A2 (acN a j) ha2 (acN_le ha24 j)) (cwV 0 hts gX12_nights_X12_note rfl rfl rfl (by decide +kernel) ⟨Nat.le_of_ble_eq_true rfl, Nat.le_of_ble_eq_true rfl⟩) (pre_V hKN hP hD [0, 1, 2, 3, 4, 5, 6, 7, 8, 9, 10, 11, 12, 13, 14] rfl (by decide) 0 11 rfl rfl) rfl rfl hl.1 rfl (lv_room (Nat.le_of_ble_eq_true rfl)) dX12_nights_48 ⟨Nat.le_of_ble_eq_true rfl, Nat.le_of_ble_eq_true rfl⟩) hS hA hP hD [0, 1, 2, 3, 4, 5, 6, 7, 8, 9, 10, 11, 12, 13, 14] [] [0, 1, 2, 3, 4, 5, 6, 7, 8, 9, 10, 11, 12, 13, 14] rfl rfl (by decide) (by decide) (fun _ => rfl) (by decide) (fun u10 H locs hw12 hP hD hS => ?_)
              replace hw12 := hw12.symm; subst hw12
              have hP : va_P D vwCl (mW cy h r (upd v2 19 (nI (nta (acN a j) + 1))) (va_up A2 18 (noteF (A2 18) (acN a j) (A2 12)))) H := hP
              have hD : va_D A_ (mW cy h r (upd v2 19 (nI (nta (acN a j) + 1))) (va_up A2 18 (noteF (A2 18) (acN a j) (A2 12)))) := hD
              refine lv_aload_n hx hb dX12_nights_51 rfl (lv_at hl 0 rfl) ?_
              refine va_get (ci := 11) (v := .ref (r 12)) (C := RX12) (T := TX12) (N := 24) hx hb hts hinX12 hown hK hP 0 rfl rfl 12 (by decide) hf22 (fun _ h9 => h9) rfl dX12_nights_52 ?_
              refine lv_iconst (v := nI 0) hx hb dX12_nights_55 (by decide) ?_
              refine call_v (wr := [(h, .inr (11, mO r (upd v2 19 (nI (nta (acN a j) + 1))))), ((r 0), wInt (cy 0) 8 (A2 0)), ((r 1), wInt (cy 0) 8 (A2 1)), ((r 2), wInt (cy 0) 320 (A2 2)), ((r 5), wInt (cy 0) 60 (A2 5)), ((r 13), wInt (cy 0) 37 (A2 13)), ((r 14), wInt (cy 0) 37 (A2 14)), ((r 15), wInt (cy 0) 37 (A2 15)), ((r 16), wInt (cy 0) 74 (A2 16)), ((r 17), wInt (cy 1) 2 (A2 17)), ((r 18), wInt (cy 0) 888 (noteF (A2 18) (acN a j) (A2 12))), ((r 20), wInt (cy 0) 16 (A2 20)), ((r 22), wInt (cy 0) 16 (A2 22)), ((r 23), wInt (cy 0) 24 (A2 23))]) (ws' := (fun u13 : (Nat → Int32) => mW cy h r (upd v2 19 (nI (nta (acN a j) + 1))) (va_up (va_up A2 18 (noteF (A2 18) (acN a j) (A2 12))) 12 u13))) (va_runS (As := [.ref (r 12), .int (nI 0)]) (rest := []) CF (k_X12_nightIn l D cy _ (r 12) (A2 12) (nI 0) n hC2) (va_cwS 2 hts gX12_nights_X12_nightIn rfl rfl rfl (by decide +kernel) ⟨Nat.le_of_ble_eq_true rfl, Nat.le_of_ble_eq_true rfl⟩) (pre_S hKN hP hD [5] rfl (by decide)) rfl rfl hl.1 rfl (lv_room (Nat.le_of_ble_eq_true rfl)) dX12_nights_56 ⟨Nat.le_of_ble_eq_true rfl, Nat.le_of_ble_eq_true rfl⟩) hS hA hP hD [5] [0, 1, 2, 3, 4, 6, 7, 8, 9, 10, 11, 12, 13, 14] [0, 1, 2, 3, 4, 14, 5, 6, 7, 8, 9, 10, 11, 12, 13] rfl rfl (by decide) (by decide) (fun _ => rfl) (by decide) (fun u13 H locs hw15 hP hD hS => ?_)
              replace hw15 := hw15.symm; subst hw15
              have hP : va_P D vwCl (mW cy h r (upd v2 19 (nI (nta (acN a j) + 1))) (va_up (va_up A2 18 (noteF (A2 18) (acN a j) (A2 12))) 12 (nightS (A2 12) n (nI 0)))) H := hP
              have hD : va_D A_ (mW cy h r (upd v2 19 (nI (nta (acN a j) + 1))) (va_up (va_up A2 18 (noteF (A2 18) (acN a j) (A2 12))) 12 (nightS (A2 12) n (nI 0)))) := hD
              refine lv_iinc (v := nI (j + 1)) (lv' := [(2, .int (nI (j + 1))), (0, .ref h), (1, .int (nI k))]) hx hb dX12_nights_59 hl (k := 2) rfl (nI_1 _) (by decide) rfl (fun ls hl => ?_)
              refine lv_goto (tgt := 42) hx hb dX12_nights_62 (by decide) ?_
              exact ih42 (j + 1) (upd v2 19 (nI (nta (acN a j) + 1))) (va_up (va_up A2 18 (noteF (A2 18) (acN a j) (A2 12))) 12 (nightS (A2 12) n (nI 0))) (by omega) (by omega) (hC2.night _) rfl (by rw [ev]; rfl) (by rw [eA]; rfl) _ _ hP hD hS ls (lv_sub hl [1, 2, 0] rfl)
        exact lp42 (k - 0 + 1) 0 v A (by omega) (by omega) hC ha rfl rfl _ _ hP hD hS ls (lv_sub hl [1, 2, 0] rfl)
      · refine lv_ldc hx hb hown hc80 dX12_nights_37 ?_
        exact ret _ (v, A) _ _ _ _ dX12_nights_39 (by simp [-not_and, -Int32.not_le, -Int32.not_lt, noOne, noDr, mNights, c4, c17, e_k, c34]) hP hD hS
    · refine lv_ldc hx hb hown hc66 dX12_nights_20 ?_
      exact ret _ (v, A) _ _ _ _ dX12_nights_22 (by simp [-not_and, -Int32.not_le, -Int32.not_lt, noOne, noDr, mNights, c4, c17]) hP hD hS
  · refine lv_ldc hx hb hown hc172 dX12_nights_7 ?_
    exact ret _ (v, A) _ _ _ _ dX12_nights_9 (by simp [-not_and, -Int32.not_le, -Int32.not_lt, noOne, noDr, mNights, c4]) hP hD hS
set_option maxHeartbeats 4000000 in
set_option maxRecDepth 100000 in
theorem k_X12_put (l : Launch) (D : va_G) (cy : Nat → ClassId) (sz : Nat) (h : Nat) (r : Nat → Nat) (v : Nat → Int32) (A : Nat → Nat → Int32) (n : Nat) (a : Nat) (dr : Nat) (x : Int32) (d0 : Int32) (hC : Cat (A 12) n) (ha : v 19 = nI a) (ha24 : a ≤ 24) (hd : A 12 1 = nI dr) (hd6 : dr ≤ 6) : Met l yX12_put wsX12_put (rmD 2) (pPre D (TY cy) (mW cy h r v A) sz [.ref h, .int x, .int d0]) (pI D (TY cy) (mW cy h r v A) sz (fun u : (Nat → Int32) × (Nat → Nat → Int32) => mW cy h r u.1 u.2) (fun (r_ : Int32) (u : (Nat → Int32) × (Nat → Nat → Int32)) => r_ = ((mPut v A n a x d0).1) ∧ u = ((mPut v A n a x d0).2.1, (mPut v A n a x d0).2.2))) 0 0 (va_A (mW cy h r v A) sz) := by
  refine ent_i (cc := cX12_put) (maxL := 4) (by decide +kernel) rfl (Nat.le_of_ble_eq_true rfl) ?_
  intro p_ e_ s_ m_ args_ below_ meth_ c_ A_ Q_ ls B0 ret
  obtain ⟨CF, hA, hKN, hP, hD, hl⟩ := B0
  have hK := hKN.1
  obtain ⟨hx, hb, hml, hown, hts⟩ := id CF
  have hS : va_S A_ s_.heap s_.heap [] := va_S.rf
  have hl : lv_has ls 4 [(0, .ref h), (1, .int x), (2, .int d0)] := hl
  have hc66 := hts (.constant RX12 66 (-1000001)) (by decide +kernel)
  have hf22 := hts (.fieldLink RX12 22 "DrawerCardsModel" "now" "[I") (by decide +kernel)
  have hinX12 := show ∀ w ∈ u_ws RX12 TX12 24, w ∈ wsX12_put from by decide +kernel
  have hc172 := hts (.constant RX12 172 (-1000002)) (by decide +kernel)
  have hn := hC.2.1
  refine lv_aload_n hx hb dX12_put_0 rfl (lv_at hl 0 rfl) ?_
  refine lv_iload_n hx hb dX12_put_1 rfl (lv_at hl 1 rfl) ?_
  refine call_i (wr := []) (ws' := (fun _ : Unit => mW cy h r v A)) (va_runV (As := [.int x]) (rest := []) CF (k_X12_isOne l D cy _ h r v A x ) (cwV 1 hts gX12_put_X12_isOne rfl rfl rfl (by decide +kernel) ⟨Nat.le_of_ble_eq_true rfl, Nat.le_of_ble_eq_true rfl⟩) (pre_V hKN hP hD [0, 1, 2, 3, 4, 5, 6, 7, 8, 9, 10, 11, 12, 13, 14] rfl (by decide) 0 11 rfl rfl) rfl rfl hl.1 rfl (lv_room (Nat.le_of_ble_eq_true rfl)) dX12_put_2 ⟨Nat.le_of_ble_eq_true rfl, Nat.le_of_ble_eq_true rfl⟩) hS hA hP hD [0, 1, 2, 3, 4, 5, 6, 7, 8, 9, 10, 11, 12, 13, 14] [] [0, 1, 2, 3, 4, 5, 6, 7, 8, 9, 10, 11, 12, 13, 14] rfl rfl (by decide) (by decide) (fun _ => rfl) (by decide) (fun r2 u1 H locs hw3 hP hD hS => ?_)
  replace hw3 := hw3.symm; subst hw3
  refine ifeqB (tgt := 16) hx hb dX12_put_5 (by decide) (fun c5 => ?_) (fun c5 => ?_)
  · refine lv_ldc hx hb hown hc66 dX12_put_16 ?_
    exact ret _ (v, A) _ _ _ _ dX12_put_18 (by simp [-not_and, -Int32.not_le, -Int32.not_lt, noOne, noDr, mPut, c5]) hP hD hS
  · obtain ⟨k, h_k, rfl⟩ := rng' (m := n) (by omega) (by rw [← hC.1]; exact c5)
    have e_k : (nI k).toNatClampNeg = k := nI_clamp (by omega)
    refine lv_aload_n hx hb dX12_put_8 rfl (lv_at hl 0 rfl) ?_
    refine lv_iload_n hx hb dX12_put_9 rfl (lv_at hl 2 rfl) ?_
    refine call_i (wr := []) (ws' := (fun _ : Unit => mW cy h r v A)) (va_runV (As := [.int d0]) (rest := []) CF (k_X12_isDrawer l D cy _ h r v A d0 ) (cwV 1 hts gX12_put_X12_isDrawer rfl rfl rfl (by decide +kernel) ⟨Nat.le_of_ble_eq_true rfl, Nat.le_of_ble_eq_true rfl⟩) (pre_V hKN hP hD [0, 1, 2, 3, 4, 5, 6, 7, 8, 9, 10, 11, 12, 13, 14] rfl (by decide) 0 11 rfl rfl) rfl rfl hl.1 rfl (lv_room (Nat.le_of_ble_eq_true rfl)) dX12_put_10 ⟨Nat.le_of_ble_eq_true rfl, Nat.le_of_ble_eq_true rfl⟩) hS hA hP hD [0, 1, 2, 3, 4, 5, 6, 7, 8, 9, 10, 11, 12, 13, 14] [] [0, 1, 2, 3, 4, 5, 6, 7, 8, 9, 10, 11, 12, 13, 14] rfl rfl (by decide) (by decide) (fun _ => rfl) (by decide) (fun r5 u4 H locs hw6 hP hD hS => ?_)
    replace hw6 := hw6.symm; subst hw6
    refine ifneB (tgt := 19) hx hb dX12_put_13 (by decide) (fun c13 => ?_) (fun c13 => ?_)
    · obtain ⟨dd, h_dd, rfl⟩ := rng' (m := dr) (by omega) (by rw [← hd]; exact c13)
      have e_dd : (nI dd).toNatClampNeg = dd := nI_clamp (by omega)
      refine lv_aload_n hx hb dX12_put_19 rfl (lv_at hl 0 rfl) ?_
      refine va_get (ci := 11) (v := .ref (r 12)) (C := RX12) (T := TX12) (N := 24) hx hb hts hinX12 hown hK hP 0 rfl rfl 12 (by decide) hf22 (fun _ h9 => h9) rfl dX12_put_20 ?_
      refine lv_bipush (v := nI 21) hx hb dX12_put_23 (by decide) ?_
      refine lv_iload_n hx hb dX12_put_25 rfl (lv_at hl 1 rfl) ?_
      refine adN (k := 21 + k) hx hb rfl dX12_put_26 ?_
      refine ldN (f := (A 12)) hx hb hK hP 5 rfl (j := 21 + k) (by omega) (by decide) dX12_put_27 ?_
      refine lv_istore_n (lv' := [(3, .int ((A 12) (21 + k))), (0, .ref h), (1, .int (nI k)), (2, .int (nI dd))]) hx hb dX12_put_28 rfl hl (by decide) rfl (fun ls hl => ?_)
      refine lv_iload_n hx hb dX12_put_29 rfl (lv_at hl 0 rfl) ?_
      refine lv_iload_n hx hb dX12_put_30 rfl (lv_at hl 3 rfl) ?_
      refine lv_icmp_eq (tgt := 54) hx hb dX12_put_31 (by decide) (fun c31 => ?_) (fun c31 => ?_)
      · refine lv_aload_n hx hb dX12_put_54 rfl (lv_at hl 1 rfl) ?_
        refine call_v (wr := []) (ws' := (fun u7 : Int32 × (Nat → Int32) => mW cy h r (upd v 19 u7.1) (va_up A 18 u7.2))) (va_runV (As := []) (rest := []) CF (k_X12_note l D cy _ h r v A a (by first | assumption | omega | decide) (by first | assumption | omega | decide)) (cwV 0 hts gX12_put_X12_note rfl rfl rfl (by decide +kernel) ⟨Nat.le_of_ble_eq_true rfl, Nat.le_of_ble_eq_true rfl⟩) (pre_V hKN hP hD [0, 1, 2, 3, 4, 5, 6, 7, 8, 9, 10, 11, 12, 13, 14] rfl (by decide) 0 11 rfl rfl) rfl rfl hl.1 rfl (lv_room (Nat.le_of_ble_eq_true rfl)) dX12_put_55 ⟨Nat.le_of_ble_eq_true rfl, Nat.le_of_ble_eq_true rfl⟩) hS hA hP hD [0, 1, 2, 3, 4, 5, 6, 7, 8, 9, 10, 11, 12, 13, 14] [] [0, 1, 2, 3, 4, 5, 6, 7, 8, 9, 10, 11, 12, 13, 14] rfl rfl (by decide) (by decide) (fun _ => rfl) (by decide) (fun u7 H locs hw9 hP hD hS => ?_)
        replace hw9 := hw9.symm; subst hw9
        have hP : va_P D vwCl (mW cy h r (upd v 19 (nI (nta a + 1))) (va_up A 18 (noteF (A 18) a (A 12)))) H := hP
        have hD : va_D A_ (mW cy h r (upd v 19 (nI (nta a + 1))) (va_up A 18 (noteF (A 18) a (A 12)))) := hD
        refine lv_aload_n hx hb dX12_put_58 rfl (lv_at hl 1 rfl) ?_
        refine va_get (ci := 11) (v := .ref (r 12)) (C := RX12) (T := TX12) (N := 24) hx hb hts hinX12 hown hK hP 0 rfl rfl 12 (by decide) hf22 (fun _ h9 => h9) rfl dX12_put_59 ?_
        refine lv_iload_n hx hb dX12_put_62 rfl (lv_at hl 2 rfl) ?_
        refine lv_iload_n hx hb dX12_put_63 rfl (lv_at hl 3 rfl) ?_
        refine call_v (wr := [(h, .inr (11, mO r (upd v 19 (nI (nta a + 1))))), ((r 0), wInt (cy 0) 8 (A 0)), ((r 1), wInt (cy 0) 8 (A 1)), ((r 2), wInt (cy 0) 320 (A 2)), ((r 5), wInt (cy 0) 60 (A 5)), ((r 13), wInt (cy 0) 37 (A 13)), ((r 14), wInt (cy 0) 37 (A 14)), ((r 15), wInt (cy 0) 37 (A 15)), ((r 16), wInt (cy 0) 74 (A 16)), ((r 17), wInt (cy 1) 2 (A 17)), ((r 18), wInt (cy 0) 888 (noteF (A 18) a (A 12))), ((r 20), wInt (cy 0) 16 (A 20)), ((r 22), wInt (cy 0) 16 (A 22)), ((r 23), wInt (cy 0) 24 (A 23))]) (ws' := (fun u10 : (Nat → Int32) => mW cy h r (upd v 19 (nI (nta a + 1))) (va_up (va_up A 18 (noteF (A 18) a (A 12))) 12 u10))) (va_runS (As := [.ref (r 12), .int (nI k), .int (nI dd)]) (rest := []) CF (k_X12_goesBehind l D cy _ (r 12) (A 12) k (nI dd) n (by first | assumption | omega | decide) hC.1 (by first | assumption | omega | decide)) (va_cwS 3 hts gX12_put_X12_goesBehind rfl rfl rfl (by decide +kernel) ⟨Nat.le_of_ble_eq_true rfl, Nat.le_of_ble_eq_true rfl⟩) (pre_S hKN hP hD [5] rfl (by decide)) rfl rfl hl.1 rfl (lv_room (Nat.le_of_ble_eq_true rfl)) dX12_put_64 ⟨Nat.le_of_ble_eq_true rfl, Nat.le_of_ble_eq_true rfl⟩) hS hA hP hD [5] [0, 1, 2, 3, 4, 6, 7, 8, 9, 10, 11, 12, 13, 14] [0, 1, 2, 3, 4, 14, 5, 6, 7, 8, 9, 10, 11, 12, 13] rfl rfl (by decide) (by decide) (fun _ => rfl) (by decide) (fun u10 H locs hw12 hP hD hS => ?_)
        replace hw12 := hw12.symm; subst hw12
        have hP : va_P D vwCl (mW cy h r (upd v 19 (nI (nta a + 1))) (va_up (va_up A 18 (noteF (A 18) a (A 12))) 12 (behindS (A 12) n k (nI dd)))) H := hP
        have hD : va_D A_ (mW cy h r (upd v 19 (nI (nta a + 1))) (va_up (va_up A 18 (noteF (A 18) a (A 12))) 12 (behindS (A 12) n k (nI dd)))) := hD
        refine lv_iload_n hx hb dX12_put_67 rfl (lv_at hl 0 rfl) ?_
        exact ret _ ((upd v 19 (nI (nta a + 1))), (va_up (va_up A 18 (noteF (A 18) a (A 12))) 12 (behindS (A 12) n k (nI dd)))) _ _ _ _ dX12_put_68 (by simp [-not_and, -Int32.not_le, -Int32.not_lt, noOne, noDr, mPut, c5, e_k, c13, e_dd, c31]) hP hD hS
      · refine lv_aload_n hx hb dX12_put_34 rfl (lv_at hl 1 rfl) ?_
        refine va_get (ci := 11) (v := .ref (r 12)) (C := RX12) (T := TX12) (N := 24) hx hb hts hinX12 hown hK hP 0 rfl rfl 12 (by decide) hf22 (fun _ h9 => h9) rfl dX12_put_35 ?_
        refine lv_iload_n hx hb dX12_put_38 rfl (lv_at hl 3 rfl) ?_
        refine call_i (wr := [(h, .inr (11, mO r v)), ((r 0), wInt (cy 0) 8 (A 0)), ((r 1), wInt (cy 0) 8 (A 1)), ((r 2), wInt (cy 0) 320 (A 2)), ((r 5), wInt (cy 0) 60 (A 5)), ((r 13), wInt (cy 0) 37 (A 13)), ((r 14), wInt (cy 0) 37 (A 14)), ((r 15), wInt (cy 0) 37 (A 15)), ((r 16), wInt (cy 0) 74 (A 16)), ((r 17), wInt (cy 1) 2 (A 17)), ((r 18), wInt (cy 0) 888 (A 18)), ((r 20), wInt (cy 0) 16 (A 20)), ((r 22), wInt (cy 0) 16 (A 22)), ((r 23), wInt (cy 0) 24 (A 23))]) (ws' := (fun _ : Unit => mW cy h r v A)) (va_runS (As := [.ref (r 12), .int (nI dd)]) (rest := []) CF (k_X12_inDrawer l D cy _ (r 12) (A 12) (nI dd) n (by first | assumption | omega | decide) hC.1) (va_cwS 2 hts gX12_put_X12_inDrawer rfl rfl rfl (by decide +kernel) ⟨Nat.le_of_ble_eq_true rfl, Nat.le_of_ble_eq_true rfl⟩) (pre_S hKN hP hD [5] rfl (by decide)) rfl rfl hl.1 rfl (lv_room (Nat.le_of_ble_eq_true rfl)) dX12_put_39 ⟨Nat.le_of_ble_eq_true rfl, Nat.le_of_ble_eq_true rfl⟩) hS hA hP hD [5] [0, 1, 2, 3, 4, 6, 7, 8, 9, 10, 11, 12, 13, 14] [0, 1, 2, 3, 4, 14, 5, 6, 7, 8, 9, 10, 11, 12, 13] rfl rfl (by decide) (by decide) (fun _ => rfl) (by decide) (fun r14 u13 H locs hw15 hP hD hS => ?_)
        replace hw15 := hw15.symm; subst hw15
        refine lv_aload_n hx hb dX12_put_42 rfl (lv_at hl 1 rfl) ?_
        refine va_get (ci := 11) (v := .ref (r 12)) (C := RX12) (T := TX12) (N := 24) hx hb hts hinX12 hown hK hP 0 rfl rfl 12 (by decide) hf22 (fun _ h9 => h9) rfl dX12_put_43 ?_
        refine lv_iconst (v := nI 2) hx hb dX12_put_46 (by decide) ?_
        refine ldN (f := (A 12)) hx hb hK hP 5 rfl (j := 2) (by omega) (by decide) dX12_put_47 ?_
        refine lv_icmp_lt (tgt := 54) hx hb dX12_put_48 (by decide) (fun c48 => ?_) (fun c48 => ?_)
        · refine lv_aload_n hx hb dX12_put_54 rfl (lv_at hl 1 rfl) ?_
          refine call_v (wr := []) (ws' := (fun u16 : Int32 × (Nat → Int32) => mW cy h r (upd v 19 u16.1) (va_up A 18 u16.2))) (va_runV (As := []) (rest := []) CF (k_X12_note l D cy _ h r v A a (by first | assumption | omega | decide) (by first | assumption | omega | decide)) (cwV 0 hts gX12_put_X12_note rfl rfl rfl (by decide +kernel) ⟨Nat.le_of_ble_eq_true rfl, Nat.le_of_ble_eq_true rfl⟩) (pre_V hKN hP hD [0, 1, 2, 3, 4, 5, 6, 7, 8, 9, 10, 11, 12, 13, 14] rfl (by decide) 0 11 rfl rfl) rfl rfl hl.1 rfl (lv_room (Nat.le_of_ble_eq_true rfl)) dX12_put_55 ⟨Nat.le_of_ble_eq_true rfl, Nat.le_of_ble_eq_true rfl⟩) hS hA hP hD [0, 1, 2, 3, 4, 5, 6, 7, 8, 9, 10, 11, 12, 13, 14] [] [0, 1, 2, 3, 4, 5, 6, 7, 8, 9, 10, 11, 12, 13, 14] rfl rfl (by decide) (by decide) (fun _ => rfl) (by decide) (fun u16 H locs hw18 hP hD hS => ?_)
          replace hw18 := hw18.symm; subst hw18
          have hP : va_P D vwCl (mW cy h r (upd v 19 (nI (nta a + 1))) (va_up A 18 (noteF (A 18) a (A 12)))) H := hP
          have hD : va_D A_ (mW cy h r (upd v 19 (nI (nta a + 1))) (va_up A 18 (noteF (A 18) a (A 12)))) := hD
          refine lv_aload_n hx hb dX12_put_58 rfl (lv_at hl 1 rfl) ?_
          refine va_get (ci := 11) (v := .ref (r 12)) (C := RX12) (T := TX12) (N := 24) hx hb hts hinX12 hown hK hP 0 rfl rfl 12 (by decide) hf22 (fun _ h9 => h9) rfl dX12_put_59 ?_
          refine lv_iload_n hx hb dX12_put_62 rfl (lv_at hl 2 rfl) ?_
          refine lv_iload_n hx hb dX12_put_63 rfl (lv_at hl 3 rfl) ?_
          refine call_v (wr := [(h, .inr (11, mO r (upd v 19 (nI (nta a + 1))))), ((r 0), wInt (cy 0) 8 (A 0)), ((r 1), wInt (cy 0) 8 (A 1)), ((r 2), wInt (cy 0) 320 (A 2)), ((r 5), wInt (cy 0) 60 (A 5)), ((r 13), wInt (cy 0) 37 (A 13)), ((r 14), wInt (cy 0) 37 (A 14)), ((r 15), wInt (cy 0) 37 (A 15)), ((r 16), wInt (cy 0) 74 (A 16)), ((r 17), wInt (cy 1) 2 (A 17)), ((r 18), wInt (cy 0) 888 (noteF (A 18) a (A 12))), ((r 20), wInt (cy 0) 16 (A 20)), ((r 22), wInt (cy 0) 16 (A 22)), ((r 23), wInt (cy 0) 24 (A 23))]) (ws' := (fun u19 : (Nat → Int32) => mW cy h r (upd v 19 (nI (nta a + 1))) (va_up (va_up A 18 (noteF (A 18) a (A 12))) 12 u19))) (va_runS (As := [.ref (r 12), .int (nI k), .int (nI dd)]) (rest := []) CF (k_X12_goesBehind l D cy _ (r 12) (A 12) k (nI dd) n (by first | assumption | omega | decide) hC.1 (by first | assumption | omega | decide)) (va_cwS 3 hts gX12_put_X12_goesBehind rfl rfl rfl (by decide +kernel) ⟨Nat.le_of_ble_eq_true rfl, Nat.le_of_ble_eq_true rfl⟩) (pre_S hKN hP hD [5] rfl (by decide)) rfl rfl hl.1 rfl (lv_room (Nat.le_of_ble_eq_true rfl)) dX12_put_64 ⟨Nat.le_of_ble_eq_true rfl, Nat.le_of_ble_eq_true rfl⟩) hS hA hP hD [5] [0, 1, 2, 3, 4, 6, 7, 8, 9, 10, 11, 12, 13, 14] [0, 1, 2, 3, 4, 14, 5, 6, 7, 8, 9, 10, 11, 12, 13] rfl rfl (by decide) (by decide) (fun _ => rfl) (by decide) (fun u19 H locs hw21 hP hD hS => ?_)
          replace hw21 := hw21.symm; subst hw21
          have hP : va_P D vwCl (mW cy h r (upd v 19 (nI (nta a + 1))) (va_up (va_up A 18 (noteF (A 18) a (A 12))) 12 (behindS (A 12) n k (nI dd)))) H := hP
          have hD : va_D A_ (mW cy h r (upd v 19 (nI (nta a + 1))) (va_up (va_up A 18 (noteF (A 18) a (A 12))) 12 (behindS (A 12) n k (nI dd)))) := hD
          refine lv_iload_n hx hb dX12_put_67 rfl (lv_at hl 0 rfl) ?_
          exact ret _ ((upd v 19 (nI (nta a + 1))), (va_up (va_up A 18 (noteF (A 18) a (A 12))) 12 (behindS (A 12) n k (nI dd)))) _ _ _ _ dX12_put_68 (by simp [-not_and, -Int32.not_le, -Int32.not_lt, noOne, noDr, mPut, c5, e_k, c13, e_dd, c31, c48]) hP hD hS
        · refine lv_ldc hx hb hown hc172 dX12_put_51 ?_
          exact ret _ (v, A) _ _ _ _ dX12_put_53 (by simp [-not_and, -Int32.not_le, -Int32.not_lt, noOne, noDr, mPut, c5, e_k, c13, e_dd, c31, c48]) hP hD hS
    · refine lv_ldc hx hb hown hc66 dX12_put_16 ?_
      exact ret _ (v, A) _ _ _ _ dX12_put_18 (by simp [-not_and, -Int32.not_le, -Int32.not_lt, noOne, noDr, mPut, c5, e_k, c13]) hP hD hS
set_option maxHeartbeats 4000000 in
set_option maxRecDepth 100000 in
theorem k_X12_turn (l : Launch) (D : va_G) (cy : Nat → ClassId) (sz : Nat) (h : Nat) (r : Nat → Nat) (v : Nat → Int32) (A : Nat → Nat → Int32) (n : Nat) (a : Nat) (dr : Nat) (d0 : Int32) (hC : Cat (A 12) n) (ha : v 19 = nI a) (ha24 : a ≤ 24) (hd : A 12 1 = nI dr) (hd6 : dr ≤ 6) : Met l yX12_turn wsX12_turn (rmD 2) (pPre D (TY cy) (mW cy h r v A) sz [.ref h, .int d0]) (pI D (TY cy) (mW cy h r v A) sz (fun u : (Nat → Int32) × (Nat → Nat → Int32) => mW cy h r u.1 u.2) (fun (r_ : Int32) (u : (Nat → Int32) × (Nat → Nat → Int32)) => r_ = ((mTurn v A n a d0).1) ∧ u = ((mTurn v A n a d0).2.1, (mTurn v A n a d0).2.2))) 0 0 (va_A (mW cy h r v A) sz) := by
  refine ent_i (cc := cX12_turn) (maxL := 4) (by decide +kernel) rfl (Nat.le_of_ble_eq_true rfl) ?_
  intro p_ e_ s_ m_ args_ below_ meth_ c_ A_ Q_ ls B0 ret
  obtain ⟨CF, hA, hKN, hP, hD, hl⟩ := B0
  have hK := hKN.1
  obtain ⟨hx, hb, hml, hown, hts⟩ := id CF
  have hS : va_S A_ s_.heap s_.heap [] := va_S.rf
  have hl : lv_has ls 4 [(0, .ref h), (1, .int d0)] := hl
  have hf22 := hts (.fieldLink RX12 22 "DrawerCardsModel" "now" "[I") (by decide +kernel)
  have hinX12 := show ∀ w ∈ u_ws RX12 TX12 24, w ∈ wsX12_turn from by decide +kernel
  have hc66 := hts (.constant RX12 66 (-1000001)) (by decide +kernel)
  have hn := hC.2.1
  refine lv_aload_n hx hb dX12_turn_0 rfl (lv_at hl 0 rfl) ?_
  refine lv_iload_n hx hb dX12_turn_1 rfl (lv_at hl 1 rfl) ?_
  refine call_i (wr := []) (ws' := (fun _ : Unit => mW cy h r v A)) (va_runV (As := [.int d0]) (rest := []) CF (k_X12_isDrawer l D cy _ h r v A d0 ) (cwV 1 hts gX12_turn_X12_isDrawer rfl rfl rfl (by decide +kernel) ⟨Nat.le_of_ble_eq_true rfl, Nat.le_of_ble_eq_true rfl⟩) (pre_V hKN hP hD [0, 1, 2, 3, 4, 5, 6, 7, 8, 9, 10, 11, 12, 13, 14] rfl (by decide) 0 11 rfl rfl) rfl rfl hl.1 rfl (lv_room (Nat.le_of_ble_eq_true rfl)) dX12_turn_2 ⟨Nat.le_of_ble_eq_true rfl, Nat.le_of_ble_eq_true rfl⟩) hS hA hP hD [0, 1, 2, 3, 4, 5, 6, 7, 8, 9, 10, 11, 12, 13, 14] [] [0, 1, 2, 3, 4, 5, 6, 7, 8, 9, 10, 11, 12, 13, 14] rfl rfl (by decide) (by decide) (fun _ => rfl) (by decide) (fun r2 u1 H locs hw3 hP hD hS => ?_)
  replace hw3 := hw3.symm; subst hw3
  refine ifneB (tgt := 11) hx hb dX12_turn_5 (by decide) (fun c5 => ?_) (fun c5 => ?_)
  · refine lv_aload_n hx hb dX12_turn_11 rfl (lv_at hl 0 rfl) ?_
    refine call_v (wr := []) (ws' := (fun u4 : Int32 × (Nat → Int32) => mW cy h r (upd v 19 u4.1) (va_up A 18 u4.2))) (va_runV (As := []) (rest := []) CF (k_X12_note l D cy _ h r v A a (by first | assumption | omega | decide) (by first | assumption | omega | decide)) (cwV 0 hts gX12_turn_X12_note rfl rfl rfl (by decide +kernel) ⟨Nat.le_of_ble_eq_true rfl, Nat.le_of_ble_eq_true rfl⟩) (pre_V hKN hP hD [0, 1, 2, 3, 4, 5, 6, 7, 8, 9, 10, 11, 12, 13, 14] rfl (by decide) 0 11 rfl rfl) rfl rfl hl.1 rfl (lv_room (Nat.le_of_ble_eq_true rfl)) dX12_turn_12 ⟨Nat.le_of_ble_eq_true rfl, Nat.le_of_ble_eq_true rfl⟩) hS hA hP hD [0, 1, 2, 3, 4, 5, 6, 7, 8, 9, 10, 11, 12, 13, 14] [] [0, 1, 2, 3, 4, 5, 6, 7, 8, 9, 10, 11, 12, 13, 14] rfl rfl (by decide) (by decide) (fun _ => rfl) (by decide) (fun u4 H locs hw6 hP hD hS => ?_)
    replace hw6 := hw6.symm; subst hw6
    have hP : va_P D vwCl (mW cy h r (upd v 19 (nI (nta a + 1))) (va_up A 18 (noteF (A 18) a (A 12)))) H := hP
    have hD : va_D A_ (mW cy h r (upd v 19 (nI (nta a + 1))) (va_up A 18 (noteF (A 18) a (A 12)))) := hD
    refine lv_aload_n hx hb dX12_turn_15 rfl (lv_at hl 0 rfl) ?_
    refine va_get (ci := 11) (v := .ref (r 12)) (C := RX12) (T := TX12) (N := 24) hx hb hts hinX12 hown hK hP 0 rfl rfl 12 (by decide) hf22 (fun _ h9 => h9) rfl dX12_turn_16 ?_
    refine lv_iload_n hx hb dX12_turn_19 rfl (lv_at hl 1 rfl) ?_
    refine call_i (wr := [(h, .inr (11, mO r (upd v 19 (nI (nta a + 1))))), ((r 0), wInt (cy 0) 8 (A 0)), ((r 1), wInt (cy 0) 8 (A 1)), ((r 2), wInt (cy 0) 320 (A 2)), ((r 5), wInt (cy 0) 60 (A 5)), ((r 13), wInt (cy 0) 37 (A 13)), ((r 14), wInt (cy 0) 37 (A 14)), ((r 15), wInt (cy 0) 37 (A 15)), ((r 16), wInt (cy 0) 74 (A 16)), ((r 17), wInt (cy 1) 2 (A 17)), ((r 18), wInt (cy 0) 888 (noteF (A 18) a (A 12))), ((r 20), wInt (cy 0) 16 (A 20)), ((r 22), wInt (cy 0) 16 (A 22)), ((r 23), wInt (cy 0) 24 (A 23))]) (ws' := (fun _ : Unit => mW cy h r (upd v 19 (nI (nta a + 1))) (va_up A 18 (noteF (A 18) a (A 12))))) (va_runS (As := [.ref (r 12), .int d0]) (rest := []) CF (k_X12_inDrawer l D cy _ (r 12) (A 12) d0 n (by first | assumption | omega | decide) hC.1) (va_cwS 2 hts gX12_turn_X12_inDrawer rfl rfl rfl (by decide +kernel) ⟨Nat.le_of_ble_eq_true rfl, Nat.le_of_ble_eq_true rfl⟩) (pre_S hKN hP hD [5] rfl (by decide)) rfl rfl hl.1 rfl (lv_room (Nat.le_of_ble_eq_true rfl)) dX12_turn_20 ⟨Nat.le_of_ble_eq_true rfl, Nat.le_of_ble_eq_true rfl⟩) hS hA hP hD [5] [0, 1, 2, 3, 4, 6, 7, 8, 9, 10, 11, 12, 13, 14] [0, 1, 2, 3, 4, 14, 5, 6, 7, 8, 9, 10, 11, 12, 13] rfl rfl (by decide) (by decide) (fun _ => rfl) (by decide) (fun r8 u7 H locs hw9 hP hD hS => ?_)
    replace hw9 := hw9.symm; subst hw9
    refine lv_istore_n (lv' := [(2, .int (fillN (A 12) d0 n)), (0, .ref h), (1, .int d0)]) hx hb dX12_turn_23 rfl hl (by decide) rfl (fun ls hl => ?_)
    refine lv_iconst (v := nI 0) hx hb dX12_turn_24 (by decide) ?_
    refine lv_istore_n (lv' := [(3, .int (nI 0)), (2, .int (fillN (A 12) d0 n)), (0, .ref h), (1, .int d0)]) hx hb dX12_turn_25 rfl hl (by decide) rfl (fun ls hl => ?_)
    have lp26 : ∀ f_ : Nat, ∀ (i : Nat) (f2 : Nat → Int32), (n - i) < f_ → (i ≤ n) → (f2 3 = nI n) → (f2 = trnN (A 12) d0 (fillN (A 12) d0 n) i) → ∀ (H : Heap) (locs : List Loc), va_P D vwCl (mW cy h r (upd v 19 (nI (nta a + 1))) (va_up (va_up A 18 (noteF (A 18) a (A 12))) 12 f2)) H → va_D A_ (mW cy h r (upd v 19 (nI (nta a + 1))) (va_up (va_up A 18 (noteF (A 18) a (A 12))) 12 f2)) → va_S A_ s_.heap H locs → ∀ ls : Array Slot, lv_has ls 4 [(0, .ref h), (1, .int d0), (2, .int (fillN (A 12) d0 n)), (3, .int (nI i))] → W p_ l e_ (rmD 2) s_ m_ args_ below_ meth_ c_ H locs 0 0 Q_ (F0 m_ 26 ls []) := by
      intro f_
      induction f_ with
      | zero => intro i f2 hm_; exact absurd hm_ (by omega)
      | succ f_ ih26 =>
        intro i f2 hm_ hi hf3 e2 H locs hP hD hS ls hl
        refine lv_iload_n hx hb dX12_turn_26 rfl (lv_at hl 3 rfl) ?_
        refine lv_aload_n hx hb dX12_turn_27 rfl (lv_at hl 0 rfl) ?_
        refine va_get (ci := 11) (v := .ref (r 12)) (C := RX12) (T := TX12) (N := 24) hx hb hts hinX12 hown hK hP 0 rfl rfl 12 (by decide) hf22 (fun _ h9 => h9) rfl dX12_turn_28 ?_
        refine lv_iconst (v := nI 3) hx hb dX12_turn_31 (by decide) ?_
        refine ldN (f := f2) hx hb hK hP 5 rfl (j := 3) (by omega) (by decide) dX12_turn_32 ?_
        refine top_i hf3 ?_
        refine geN (tgt := 89) hx hb (by omega) (by omega) dX12_turn_33 (by decide) (fun c33 => ?_) (fun c33 => ?_)
        · refine lv_iload_n hx hb dX12_turn_89 rfl (lv_at hl 2 rfl) ?_
          exact ret _ ((upd v 19 (nI (nta a + 1))), (va_up (va_up A 18 (noteF (A 18) a (A 12))) 12 f2)) _ _ _ _ dX12_turn_90 (by have hi9 : i = n := (by omega); subst hi9; simp [-not_and, -Int32.not_le, -Int32.not_lt, noOne, noDr, mTurn, c5, c33, Nat.not_lt_of_le c33, e2]) hP hD hS
        · refine lv_aload_n hx hb dX12_turn_36 rfl (lv_at hl 0 rfl) ?_
          refine va_get (ci := 11) (v := .ref (r 12)) (C := RX12) (T := TX12) (N := 24) hx hb hts hinX12 hown hK hP 0 rfl rfl 12 (by decide) hf22 (fun _ h9 => h9) rfl dX12_turn_37 ?_
          refine lv_bipush (v := nI 29) hx hb dX12_turn_40 (by decide) ?_
          refine lv_iload_n hx hb dX12_turn_42 rfl (lv_at hl 3 rfl) ?_
          refine adN (k := 29 + i) hx hb rfl dX12_turn_43 ?_
          refine lv_aload_n hx hb dX12_turn_44 rfl (lv_at hl 0 rfl) ?_
          refine va_get (ci := 11) (v := .ref (r 12)) (C := RX12) (T := TX12) (N := 24) hx hb hts hinX12 hown hK hP 0 rfl rfl 12 (by decide) hf22 (fun _ h9 => h9) rfl dX12_turn_45 ?_
          refine lv_bipush (v := nI 21) hx hb dX12_turn_48 (by decide) ?_
          refine lv_iload_n hx hb dX12_turn_50 rfl (lv_at hl 3 rfl) ?_
          refine adN (k := 21 + i) hx hb rfl dX12_turn_51 ?_
          refine ldN (f := f2) hx hb hK hP 5 rfl (j := 21 + i) (by omega) (by decide) dX12_turn_52 ?_
          refine lv_iload_n hx hb dX12_turn_53 rfl (lv_at hl 1 rfl) ?_
          refine lv_icmp_ne (tgt := 73) hx hb dX12_turn_54 (by decide) (fun c54 => ?_) (fun c54 => ?_)
          · refine lv_aload_n hx hb dX12_turn_73 rfl (lv_at hl 0 rfl) ?_
            refine va_get (ci := 11) (v := .ref (r 12)) (C := RX12) (T := TX12) (N := 24) hx hb hts hinX12 hown hK hP 0 rfl rfl 12 (by decide) hf22 (fun _ h9 => h9) rfl dX12_turn_74 ?_
            refine lv_bipush (v := nI 29) hx hb dX12_turn_77 (by decide) ?_
            refine lv_iload_n hx hb dX12_turn_79 rfl (lv_at hl 3 rfl) ?_
            refine adN (k := 29 + i) hx hb rfl dX12_turn_80 ?_
            refine ldN (f := f2) hx hb hK hP 5 rfl (j := 29 + i) (by omega) (by decide) dX12_turn_81 ?_
            refine stN (f := f2) (ws' := mW cy h r (upd v 19 (nI (nta a + 1))) (va_up (va_up A 18 (noteF (A 18) a (A 12))) 12 (upd f2 (29 + i) (f2 (29 + i))))) hx hb hK hP hD hS 5 rfl (j := 29 + i) (by omega) (by decide) dX12_turn_82 rfl (fun H locs hP hD hS => ?_)
            refine lv_iinc (v := nI (i + 1)) (lv' := [(3, .int (nI (i + 1))), (0, .ref h), (1, .int d0), (2, .int (fillN (A 12) d0 n))]) hx hb dX12_turn_83 hl (k := 3) rfl (nI_1 _) (by decide) rfl (fun ls hl => ?_)
            refine lv_goto (tgt := 26) hx hb dX12_turn_86 (by decide) ?_
            exact ih26 (i + 1) (upd f2 (29 + i) (f2 (29 + i))) (by omega) (by omega) (by rw [pk_un (by omega)]; exact hf3) (by first | (rw [trnN, ← e2, if_neg c54]; done) | (rw [trnN, ← e2, if_pos c54]; done)) _ _ hP hD hS ls (lv_sub hl [1, 2, 3, 0] rfl)
          · refine lv_iload_n hx hb dX12_turn_57 rfl (lv_at hl 2 rfl) ?_
            refine lv_iconst (v := nI 1) hx hb dX12_turn_58 (by decide) ?_
            refine lv_isub hx hb dX12_turn_59 ?_
            refine lv_aload_n hx hb dX12_turn_60 rfl (lv_at hl 0 rfl) ?_
            refine va_get (ci := 11) (v := .ref (r 12)) (C := RX12) (T := TX12) (N := 24) hx hb hts hinX12 hown hK hP 0 rfl rfl 12 (by decide) hf22 (fun _ h9 => h9) rfl dX12_turn_61 ?_
            refine lv_bipush (v := nI 29) hx hb dX12_turn_64 (by decide) ?_
            refine lv_iload_n hx hb dX12_turn_66 rfl (lv_at hl 3 rfl) ?_
            refine adN (k := 29 + i) hx hb rfl dX12_turn_67 ?_
            refine ldN (f := f2) hx hb hK hP 5 rfl (j := 29 + i) (by omega) (by decide) dX12_turn_68 ?_
            refine lv_isub hx hb dX12_turn_69 ?_
            refine lv_goto (tgt := 82) hx hb dX12_turn_70 (by decide) ?_
            refine stN (f := f2) (ws' := mW cy h r (upd v 19 (nI (nta a + 1))) (va_up (va_up A 18 (noteF (A 18) a (A 12))) 12 (upd f2 (29 + i) ((fillN (A 12) d0 n - nI 1) - f2 (29 + i))))) hx hb hK hP hD hS 5 rfl (j := 29 + i) (by omega) (by decide) dX12_turn_82 rfl (fun H locs hP hD hS => ?_)
            refine lv_iinc (v := nI (i + 1)) (lv' := [(3, .int (nI (i + 1))), (0, .ref h), (1, .int d0), (2, .int (fillN (A 12) d0 n))]) hx hb dX12_turn_83 hl (k := 3) rfl (nI_1 _) (by decide) rfl (fun ls hl => ?_)
            refine lv_goto (tgt := 26) hx hb dX12_turn_86 (by decide) ?_
            exact ih26 (i + 1) (upd f2 (29 + i) ((fillN (A 12) d0 n - nI 1) - f2 (29 + i))) (by omega) (by omega) (by rw [pk_un (by omega)]; exact hf3) (by first | (rw [trnN, ← e2, if_neg c54]; done) | (rw [trnN, ← e2, if_pos c54]; done)) _ _ hP hD hS ls (lv_sub hl [1, 2, 3, 0] rfl)
    exact lp26 (n - 0 + 1) 0 (A 12) (by omega) (by omega) hC.1 rfl _ _ hP hD hS ls (lv_sub hl [2, 3, 1, 0] rfl)
  · refine lv_ldc hx hb hown hc66 dX12_turn_8 ?_
    exact ret _ (v, A) _ _ _ _ dX12_turn_10 (by simp [-not_and, -Int32.not_le, -Int32.not_lt, noOne, noDr, mTurn, c5]) hP hD hS
set_option maxHeartbeats 4000000 in
set_option maxRecDepth 100000 in
theorem k_X12_like (l : Launch) (D : va_G) (cy : Nat → ClassId) (sz : Nat) (h : Nat) (r : Nat → Nat) (v : Nat → Int32) (A : Nat → Nat → Int32) (n : Nat) (a : Nat) (x : Int32) (o0 : Int32) (hC : Cat (A 12) n) (ha : v 19 = nI a) (ha24 : a ≤ 24) : Met l yX12_like wsX12_like (rmD 2) (pPre D (TY cy) (mW cy h r v A) sz [.ref h, .int x, .int o0]) (pI D (TY cy) (mW cy h r v A) sz (fun u : (Nat → Int32) × (Nat → Nat → Int32) => mW cy h r u.1 u.2) (fun (r_ : Int32) (u : (Nat → Int32) × (Nat → Nat → Int32)) => r_ = ((mLike v A a x o0).1) ∧ u = ((mLike v A a x o0).2.1, (mLike v A a x o0).2.2))) 0 0 (va_A (mW cy h r v A) sz) := by
  refine ent_i (cc := cX12_like) (maxL := 4) (by decide +kernel) rfl (Nat.le_of_ble_eq_true rfl) ?_
  intro p_ e_ s_ m_ args_ below_ meth_ c_ A_ Q_ ls B0 ret
  obtain ⟨CF, hA, hKN, hP, hD, hl⟩ := B0
  have hK := hKN.1
  obtain ⟨hx, hb, hml, hown, hts⟩ := id CF
  have hS : va_S A_ s_.heap s_.heap [] := va_S.rf
  have hl : lv_has ls 4 [(0, .ref h), (1, .int x), (2, .int o0)] := hl
  have hc66 := hts (.constant RX12 66 (-1000001)) (by decide +kernel)
  have hf22 := hts (.fieldLink RX12 22 "DrawerCardsModel" "now" "[I") (by decide +kernel)
  have hinX12 := show ∀ w ∈ u_ws RX12 TX12 24, w ∈ wsX12_like from by decide +kernel
  have hn := hC.2.1
  refine lv_aload_n hx hb dX12_like_0 rfl (lv_at hl 0 rfl) ?_
  refine lv_iload_n hx hb dX12_like_1 rfl (lv_at hl 1 rfl) ?_
  refine call_i (wr := []) (ws' := (fun _ : Unit => mW cy h r v A)) (va_runV (As := [.int x]) (rest := []) CF (k_X12_isOne l D cy _ h r v A x ) (cwV 1 hts gX12_like_X12_isOne rfl rfl rfl (by decide +kernel) ⟨Nat.le_of_ble_eq_true rfl, Nat.le_of_ble_eq_true rfl⟩) (pre_V hKN hP hD [0, 1, 2, 3, 4, 5, 6, 7, 8, 9, 10, 11, 12, 13, 14] rfl (by decide) 0 11 rfl rfl) rfl rfl hl.1 rfl (lv_room (Nat.le_of_ble_eq_true rfl)) dX12_like_2 ⟨Nat.le_of_ble_eq_true rfl, Nat.le_of_ble_eq_true rfl⟩) hS hA hP hD [0, 1, 2, 3, 4, 5, 6, 7, 8, 9, 10, 11, 12, 13, 14] [] [0, 1, 2, 3, 4, 5, 6, 7, 8, 9, 10, 11, 12, 13, 14] rfl rfl (by decide) (by decide) (fun _ => rfl) (by decide) (fun r2 u1 H locs hw3 hP hD hS => ?_)
  replace hw3 := hw3.symm; subst hw3
  refine ifeqB (tgt := 23) hx hb dX12_like_5 (by decide) (fun c5 => ?_) (fun c5 => ?_)
  · refine lv_ldc hx hb hown hc66 dX12_like_23 ?_
    exact ret _ (v, A) _ _ _ _ dX12_like_25 (by simp [-not_and, -Int32.not_le, -Int32.not_lt, noOne, noDr, mLike, c5]) hP hD hS
  · obtain ⟨k, h_k, rfl⟩ := rng' (m := n) (by omega) (by rw [← hC.1]; exact c5)
    have e_k : (nI k).toNatClampNeg = k := nI_clamp (by omega)
    refine lv_iload_n hx hb dX12_like_8 rfl (lv_at hl 2 rfl) ?_
    refine lv_iconst (v := nI 0) hx hb dX12_like_9 (by decide) ?_
    refine lv_bipush (v := nI 7) hx hb dX12_like_10 (by decide) ?_
    refine call_i (wr := [(h, .inr (11, mO r v)), ((r 0), wInt (cy 0) 8 (A 0)), ((r 1), wInt (cy 0) 8 (A 1)), ((r 2), wInt (cy 0) 320 (A 2)), ((r 5), wInt (cy 0) 60 (A 5)), ((r 12), wInt (cy 0) 37 (A 12)), ((r 13), wInt (cy 0) 37 (A 13)), ((r 14), wInt (cy 0) 37 (A 14)), ((r 15), wInt (cy 0) 37 (A 15)), ((r 16), wInt (cy 0) 74 (A 16)), ((r 17), wInt (cy 1) 2 (A 17)), ((r 18), wInt (cy 0) 888 (A 18)), ((r 20), wInt (cy 0) 16 (A 20)), ((r 22), wInt (cy 0) 16 (A 22)), ((r 23), wInt (cy 0) 24 (A 23))]) (ws' := (fun _ : Unit => mW cy h r v A)) (va_runS (As := [.int o0, .int (nI 0), .int (nI 7)]) (rest := []) CF (k_X12_in l D cy _ o0 (nI 0) (nI 7) ) (va_cwS 3 hts gX12_like_X12_in rfl rfl rfl (by decide +kernel) ⟨Nat.le_of_ble_eq_true rfl, Nat.le_of_ble_eq_true rfl⟩) (pre_S hKN hP hD [] rfl (by decide)) rfl rfl hl.1 rfl (lv_room (Nat.le_of_ble_eq_true rfl)) dX12_like_12 ⟨Nat.le_of_ble_eq_true rfl, Nat.le_of_ble_eq_true rfl⟩) hS hA hP hD [] [0, 1, 2, 3, 4, 5, 6, 7, 8, 9, 10, 11, 12, 13, 14] [0, 1, 2, 3, 4, 5, 6, 7, 8, 9, 10, 11, 12, 13, 14] rfl rfl (by decide) (by decide) (fun _ => rfl) (by decide) (fun r5 u4 H locs hw6 hP hD hS => ?_)
    replace hw6 := hw6.symm; subst hw6
    refine ifeqB (tgt := 23) hx hb dX12_like_15 (by decide) (fun c15 => ?_) (fun c15 => ?_)
    · refine lv_ldc hx hb hown hc66 dX12_like_23 ?_
      exact ret _ (v, A) _ _ _ _ dX12_like_25 (by simp [-not_and, -Int32.not_le, -Int32.not_lt, noOne, noDr, mLike, c5, e_k, c15]) hP hD hS
    · refine lv_iload_n hx hb dX12_like_18 rfl (lv_at hl 2 rfl) ?_
      refine lv_iload_n hx hb dX12_like_19 rfl (lv_at hl 1 rfl) ?_
      refine lv_icmp_ne (tgt := 26) hx hb dX12_like_20 (by decide) (fun c20 => ?_) (fun c20 => ?_)
      · refine lv_aload_n hx hb dX12_like_26 rfl (lv_at hl 0 rfl) ?_
        refine call_v (wr := []) (ws' := (fun u7 : Int32 × (Nat → Int32) => mW cy h r (upd v 19 u7.1) (va_up A 18 u7.2))) (va_runV (As := []) (rest := []) CF (k_X12_note l D cy _ h r v A a (by first | assumption | omega | decide) (by first | assumption | omega | decide)) (cwV 0 hts gX12_like_X12_note rfl rfl rfl (by decide +kernel) ⟨Nat.le_of_ble_eq_true rfl, Nat.le_of_ble_eq_true rfl⟩) (pre_V hKN hP hD [0, 1, 2, 3, 4, 5, 6, 7, 8, 9, 10, 11, 12, 13, 14] rfl (by decide) 0 11 rfl rfl) rfl rfl hl.1 rfl (lv_room (Nat.le_of_ble_eq_true rfl)) dX12_like_27 ⟨Nat.le_of_ble_eq_true rfl, Nat.le_of_ble_eq_true rfl⟩) hS hA hP hD [0, 1, 2, 3, 4, 5, 6, 7, 8, 9, 10, 11, 12, 13, 14] [] [0, 1, 2, 3, 4, 5, 6, 7, 8, 9, 10, 11, 12, 13, 14] rfl rfl (by decide) (by decide) (fun _ => rfl) (by decide) (fun u7 H locs hw9 hP hD hS => ?_)
        replace hw9 := hw9.symm; subst hw9
        have hP : va_P D vwCl (mW cy h r (upd v 19 (nI (nta a + 1))) (va_up A 18 (noteF (A 18) a (A 12)))) H := hP
        have hD : va_D A_ (mW cy h r (upd v 19 (nI (nta a + 1))) (va_up A 18 (noteF (A 18) a (A 12)))) := hD
        refine lv_aload_n hx hb dX12_like_30 rfl (lv_at hl 0 rfl) ?_
        refine va_get (ci := 11) (v := .ref (r 12)) (C := RX12) (T := TX12) (N := 24) hx hb hts hinX12 hown hK hP 0 rfl rfl 12 (by decide) hf22 (fun _ h9 => h9) rfl dX12_like_31 ?_
        refine lv_bipush (v := nI 13) hx hb dX12_like_34 (by decide) ?_
        refine lv_iload_n hx hb dX12_like_36 rfl (lv_at hl 1 rfl) ?_
        refine adN (k := 13 + k) hx hb rfl dX12_like_37 ?_
        refine ldN (f := (A 12)) hx hb hK hP 5 rfl (j := 13 + k) (by omega) (by decide) dX12_like_38 ?_
        refine lv_istore_n (lv' := [(3, .int ((A 12) (13 + k))), (0, .ref h), (1, .int (nI k)), (2, .int o0)]) hx hb dX12_like_39 rfl hl (by decide) rfl (fun ls hl => ?_)
        refine lv_aload_n hx hb dX12_like_40 rfl (lv_at hl 1 rfl) ?_
        refine va_get (ci := 11) (v := .ref (r 12)) (C := RX12) (T := TX12) (N := 24) hx hb hts hinX12 hown hK hP 0 rfl rfl 12 (by decide) hf22 (fun _ h9 => h9) rfl dX12_like_41 ?_
        refine lv_bipush (v := nI 13) hx hb dX12_like_44 (by decide) ?_
        refine lv_iload_n hx hb dX12_like_46 rfl (lv_at hl 2 rfl) ?_
        refine adN (k := 13 + k) hx hb rfl dX12_like_47 ?_
        refine lv_iload_n hx hb dX12_like_48 rfl (lv_at hl 3 rfl) ?_
        refine stN (f := (A 12)) (ws' := mW cy h r (upd v 19 (nI (nta a + 1))) (va_up (va_up A 18 (noteF (A 18) a (A 12))) 12 (upd (A 12) (13 + k) o0))) hx hb hK hP hD hS 5 rfl (j := 13 + k) (by omega) (by decide) dX12_like_49 rfl (fun H locs hP hD hS => ?_)
        refine lv_iload_n hx hb dX12_like_50 rfl (lv_at hl 0 rfl) ?_
        exact ret _ ((upd v 19 (nI (nta a + 1))), (va_up (va_up A 18 (noteF (A 18) a (A 12))) 12 (upd (A 12) (13 + k) o0))) _ _ _ _ dX12_like_51 (by simp [-not_and, -Int32.not_le, -Int32.not_lt, noOne, noDr, mLike, c5, e_k, c15, c20]) hP hD hS
      · refine lv_ldc hx hb hown hc66 dX12_like_23 ?_
        exact ret _ (v, A) _ _ _ _ dX12_like_25 (by simp [-not_and, -Int32.not_le, -Int32.not_lt, noOne, noDr, mLike, c5, e_k, c15, c20]) hP hD hS
set_option maxHeartbeats 4000000 in
set_option maxRecDepth 100000 in
theorem k_X12_undo (l : Launch) (D : va_G) (cy : Nat → ClassId) (sz : Nat) (h : Nat) (r : Nat → Nat) (v : Nat → Int32) (A : Nat → Nat → Int32) (a : Nat) (ha : v 19 = nI a) (ha24 : a ≤ 24) : Met l yX12_undo wsX12_undo (rmD 1) (pPre D (TY cy) (mW cy h r v A) sz [.ref h]) (pI D (TY cy) (mW cy h r v A) sz (fun u : (Nat → Int32) × (Nat → Nat → Int32) => mW cy h r u.1 u.2) (fun (r_ : Int32) (u : (Nat → Int32) × (Nat → Nat → Int32)) => r_ = ((mUndo v A a).1) ∧ u = ((mUndo v A a).2.1, (mUndo v A a).2.2))) 0 0 (va_A (mW cy h r v A) sz) := by
  refine ent_i (cc := cX12_undo) (maxL := 1) (by decide +kernel) rfl (Nat.le_of_ble_eq_true rfl) ?_
  intro p_ e_ s_ m_ args_ below_ meth_ c_ A_ Q_ ls B0 ret
  obtain ⟨CF, hA, hKN, hP, hD, hl⟩ := B0
  have hK := hKN.1
  obtain ⟨hx, hb, hml, hown, hts⟩ := id CF
  have hS : va_S A_ s_.heap s_.heap [] := va_S.rf
  have hl : lv_has ls 1 [(0, .ref h)] := hl
  have hf134 := hts (.fieldLink RX12 134 "DrawerCardsModel" "acts" "I") (by decide +kernel)
  have hinX12 := show ∀ w ∈ u_ws RX12 TX12 24, w ∈ wsX12_undo from by decide +kernel
  have hf41 := hts (.fieldLink RX12 41 "DrawerCardsModel" "actOf" "[I") (by decide +kernel)
  have hf22 := hts (.fieldLink RX12 22 "DrawerCardsModel" "now" "[I") (by decide +kernel)
  have hc172 := hts (.constant RX12 172 (-1000002)) (by decide +kernel)
  refine lv_aload_n hx hb dX12_undo_0 rfl (lv_at hl 0 rfl) ?_
  refine va_get (ci := 11) (v := .int (v 19)) (C := RX12) (T := TX12) (N := 24) hx hb hts hinX12 hown hK hP 0 rfl rfl 19 (by decide) hf134 (fun _ h9 => h9) rfl dX12_undo_1 ?_
  refine top_i ha ?_
  refine ifneN (tgt := 10) hx hb (by omega) dX12_undo_4 (by decide) (fun c4 => ?_) (fun c4 => ?_)
  · refine lv_aload_n hx hb dX12_undo_10 rfl (lv_at hl 0 rfl) ?_
    refine lv_dup hx hb dX12_undo_11 rfl ?_
    refine va_get (ci := 11) (v := .int (v 19)) (C := RX12) (T := TX12) (N := 24) hx hb hts hinX12 hown hK hP 0 rfl rfl 19 (by decide) hf134 (fun _ h9 => h9) rfl dX12_undo_12 ?_
    refine top_i ha ?_
    refine lv_iconst (v := nI 1) hx hb dX12_undo_15 (by decide) ?_
    refine suN (k := a - 1) hx hb (by omega) dX12_undo_16 ?_
    refine va_put (ci := 11) (v := .int (nI (a - 1))) (ty := .int) (C := RX12) (T := TX12) (N := 24) hx hb hts hinX12 tyX12 tyX12_ok nmX12 hown hK hP hD hS 0 rfl rfl 19 (by decide) hf134 (fun _ h9 => h9) rfl (by decide +kernel) rfl rfl (Nat.le_of_ble_eq_true rfl) dX12_undo_17 (fun H locs hP hD hS => ?_)
    have hP : va_P D vwCl (mW cy h r (upd v 19 (nI (a - 1))) A) H := hP
    have hD : va_D A_ (mW cy h r (upd v 19 (nI (a - 1))) A) := hD
    refine lv_aload_n hx hb dX12_undo_20 rfl (lv_at hl 0 rfl) ?_
    refine va_get (ci := 11) (v := .ref (r 18)) (C := RX12) (T := TX12) (N := 24) hx hb hts hinX12 hown hK hP 0 rfl rfl 18 (by decide) hf41 (fun _ h9 => h9) rfl dX12_undo_21 ?_
    refine lv_bipush (v := nI 37) hx hb dX12_undo_24 (by decide) ?_
    refine lv_aload_n hx hb dX12_undo_26 rfl (lv_at hl 0 rfl) ?_
    refine va_get (ci := 11) (v := .int (nI (a - 1))) (C := RX12) (T := TX12) (N := 24) hx hb hts hinX12 hown hK hP 0 rfl rfl 19 (by decide) hf134 (fun _ h9 => h9) rfl dX12_undo_27 ?_
    refine muN (k := 37 * (a - 1)) hx hb rfl dX12_undo_30 ?_
    refine lv_aload_n hx hb dX12_undo_31 rfl (lv_at hl 0 rfl) ?_
    refine va_get (ci := 11) (v := .ref (r 12)) (C := RX12) (T := TX12) (N := 24) hx hb hts hinX12 hown hK hP 0 rfl rfl 12 (by decide) hf22 (fun _ h9 => h9) rfl dX12_undo_32 ?_
    refine lv_iconst (v := nI 0) hx hb dX12_undo_35 (by decide) ?_
    refine call_v (wr := [(h, .inr (11, mO r (upd v 19 (nI (a - 1))))), ((r 0), wInt (cy 0) 8 (A 0)), ((r 1), wInt (cy 0) 8 (A 1)), ((r 2), wInt (cy 0) 320 (A 2)), ((r 5), wInt (cy 0) 60 (A 5)), ((r 13), wInt (cy 0) 37 (A 13)), ((r 14), wInt (cy 0) 37 (A 14)), ((r 15), wInt (cy 0) 37 (A 15)), ((r 16), wInt (cy 0) 74 (A 16)), ((r 17), wInt (cy 1) 2 (A 17)), ((r 20), wInt (cy 0) 16 (A 20)), ((r 22), wInt (cy 0) 16 (A 22)), ((r 23), wInt (cy 0) 24 (A 23))]) (ws' := (fun _ : Unit => mW cy h r (upd v 19 (nI (a - 1))) (va_up A 12 (fun j => (A 18) ((37 * (a - 1)) + j))))) (va_runS (As := [.ref (r 18), .int (nI (37 * (a - 1))), .ref (r 12), .int (nI 0)]) (rest := []) CF (k_X12_layIn l D cy _ (r 18) (r 12) 888 (A 18) (A 12) (37 * (a - 1)) (by first | assumption | omega | decide) (by first | assumption | omega | decide)) (va_cwS 4 hts gX12_undo_X12_lay rfl rfl rfl (by decide +kernel) ⟨Nat.le_of_ble_eq_true rfl, Nat.le_of_ble_eq_true rfl⟩) (pre_S hKN hP hD [11, 5] rfl (by decide)) rfl rfl hl.1 rfl (lv_room (Nat.le_of_ble_eq_true rfl)) dX12_undo_36 ⟨Nat.le_of_ble_eq_true rfl, Nat.le_of_ble_eq_true rfl⟩) hS hA hP hD [11, 5] [0, 1, 2, 3, 4, 6, 7, 8, 9, 10, 12, 13, 14] [0, 1, 2, 3, 4, 14, 5, 6, 7, 8, 9, 13, 10, 11, 12] rfl rfl (by decide) (by decide) (fun _ => rfl) (by decide) (fun u1 H locs hw3 hP hD hS => ?_)
    refine lv_aload_n hx hb dX12_undo_39 rfl (lv_at hl 0 rfl) ?_
    refine va_get (ci := 11) (v := .int (nI (a - 1))) (C := RX12) (T := TX12) (N := 24) hx hb hts hinX12 hown hK hP 0 rfl rfl 19 (by decide) hf134 (fun _ h9 => h9) rfl dX12_undo_40 ?_
    exact ret _ ((upd v 19 (nI (a - 1))), (va_up A 12 (fun j => (A 18) ((37 * (a - 1)) + j)))) _ _ _ _ dX12_undo_43 (by simp [-not_and, -Int32.not_le, -Int32.not_lt, noOne, noDr, mUndo, c4]) hP hD hS
  · refine lv_ldc hx hb hown hc172 dX12_undo_7 ?_
    exact ret _ (v, A) _ _ _ _ dX12_undo_9 (by simp [-not_and, -Int32.not_le, -Int32.not_lt, noOne, noDr, mUndo, c4]) hP hD hS
set_option maxHeartbeats 4000000 in
set_option maxRecDepth 100000 in
theorem k_X12_card (l : Launch) (D : va_G) (cy : Nat → ClassId) (sz : Nat) (h : Nat) (r : Nat → Nat) (v : Nat → Int32) (A : Nat → Nat → Int32) (n : Nat) (x : Int32) (w0 : Int32) (hC : Cat (A 12) n) : Met l yX12_card wsX12_card (rmD 2) (pPre D (TY cy) (mW cy h r v A) sz [.ref h, .int x, .int w0]) (pI D (TY cy) (mW cy h r v A) sz (fun _ : Unit => mW cy h r v A) (fun (r_ : Int32) (_ : Unit) => r_ = (mCard A n x w0))) 0 0 (va_A (mW cy h r v A) sz) := by
  refine ent_i (cc := cX12_card) (maxL := 3) (by decide +kernel) rfl (Nat.le_of_ble_eq_true rfl) ?_
  intro p_ e_ s_ m_ args_ below_ meth_ c_ A_ Q_ ls B0 ret
  obtain ⟨CF, hA, hKN, hP, hD, hl⟩ := B0
  have hK := hKN.1
  obtain ⟨hx, hb, hml, hown, hts⟩ := id CF
  have hS : va_S A_ s_.heap s_.heap [] := va_S.rf
  have hl : lv_has ls 3 [(0, .ref h), (1, .int x), (2, .int w0)] := hl
  have hc66 := hts (.constant RX12 66 (-1000001)) (by decide +kernel)
  have hf22 := hts (.fieldLink RX12 22 "DrawerCardsModel" "now" "[I") (by decide +kernel)
  have hinX12 := show ∀ w ∈ u_ws RX12 TX12 24, w ∈ wsX12_card from by decide +kernel
  have hn := hC.2.1
  refine lv_aload_n hx hb dX12_card_0 rfl (lv_at hl 0 rfl) ?_
  refine lv_iload_n hx hb dX12_card_1 rfl (lv_at hl 1 rfl) ?_
  refine call_i (wr := []) (ws' := (fun _ : Unit => mW cy h r v A)) (va_runV (As := [.int x]) (rest := []) CF (k_X12_isOne l D cy _ h r v A x ) (cwV 1 hts gX12_card_X12_isOne rfl rfl rfl (by decide +kernel) ⟨Nat.le_of_ble_eq_true rfl, Nat.le_of_ble_eq_true rfl⟩) (pre_V hKN hP hD [0, 1, 2, 3, 4, 5, 6, 7, 8, 9, 10, 11, 12, 13, 14] rfl (by decide) 0 11 rfl rfl) rfl rfl hl.1 rfl (lv_room (Nat.le_of_ble_eq_true rfl)) dX12_card_2 ⟨Nat.le_of_ble_eq_true rfl, Nat.le_of_ble_eq_true rfl⟩) hS hA hP hD [0, 1, 2, 3, 4, 5, 6, 7, 8, 9, 10, 11, 12, 13, 14] [] [0, 1, 2, 3, 4, 5, 6, 7, 8, 9, 10, 11, 12, 13, 14] rfl rfl (by decide) (by decide) (fun _ => rfl) (by decide) (fun r2 u1 H locs hw3 hP hD hS => ?_)
  replace hw3 := hw3.symm; subst hw3
  refine ifneB (tgt := 11) hx hb dX12_card_5 (by decide) (fun c5 => ?_) (fun c5 => ?_)
  · obtain ⟨k, h_k, rfl⟩ := rng' (m := n) (by omega) (by rw [← hC.1]; exact c5)
    have e_k : (nI k).toNatClampNeg = k := nI_clamp (by omega)
    refine lv_iload_n hx hb dX12_card_11 rfl (lv_at hl 2 rfl) ?_
    rcases sw_cases w0 0 4 with c12 | ⟨c12k, c12l, c12⟩
    · have c12n := fun (j : Nat) (hj : (j : Int) ≤ 3) (hj2 : j < 100000) => sw_ne c12 j hj hj2
      refine lv_tableOut (tgt := 102) hx hb dX12_card_12 c12 (by decide) ?_
      refine lv_ldc hx hb hown hc66 dX12_card_102 ?_
      exact ret _ () _ _ _ _ dX12_card_104 (by simp (decide := true) [-not_and, -Int32.not_le, -Int32.not_lt, noOne, noDr, mCard, c5, e_k, c12n 0 (by decide) (by decide), c12n 1 (by decide) (by decide), c12n 2 (by decide) (by decide), c12n 3 (by decide) (by decide)]) hP hD hS
    · rcases (show c12k = 0 ∨ c12k = 1 ∨ c12k = 2 ∨ c12k = 3 by omega) with c12e | c12e | c12e | c12e
      · subst c12e
        refine lv_tableIn (off := 32) (tgt := 44) hx hb dX12_card_12 (by omega) (by omega) (sw_at c12 rfl) (by decide) ?_
        have c12q := sw_eq c12 (by decide)
        refine lv_aload_n hx hb dX12_card_44 rfl (lv_at hl 0 rfl) ?_
        refine va_get (ci := 11) (v := .ref (r 12)) (C := RX12) (T := TX12) (N := 24) hx hb hts hinX12 hown hK hP 0 rfl rfl 12 (by decide) hf22 (fun _ h9 => h9) rfl dX12_card_45 ?_
        refine lv_bipush (v := nI 21) hx hb dX12_card_48 (by decide) ?_
        refine lv_iload_n hx hb dX12_card_50 rfl (lv_at hl 1 rfl) ?_
        refine adN (k := 21 + k) hx hb rfl dX12_card_51 ?_
        refine ldN (f := (A 12)) hx hb hK hP 5 rfl (j := 21 + k) (by omega) (by decide) dX12_card_52 ?_
        exact ret _ () _ _ _ _ dX12_card_53 (by simp (decide := true) [-not_and, -Int32.not_le, -Int32.not_lt, noOne, noDr, mCard, c5, e_k, c12q]) hP hD hS
      · subst c12e
        refine lv_tableIn (off := 42) (tgt := 54) hx hb dX12_card_12 (by omega) (by omega) (sw_at c12 rfl) (by decide) ?_
        have c12q := sw_eq c12 (by decide)
        refine lv_aload_n hx hb dX12_card_54 rfl (lv_at hl 0 rfl) ?_
        refine va_get (ci := 11) (v := .ref (r 12)) (C := RX12) (T := TX12) (N := 24) hx hb hts hinX12 hown hK hP 0 rfl rfl 12 (by decide) hf22 (fun _ h9 => h9) rfl dX12_card_55 ?_
        refine lv_bipush (v := nI 29) hx hb dX12_card_58 (by decide) ?_
        refine lv_iload_n hx hb dX12_card_60 rfl (lv_at hl 1 rfl) ?_
        refine adN (k := 29 + k) hx hb rfl dX12_card_61 ?_
        refine ldN (f := (A 12)) hx hb hK hP 5 rfl (j := 29 + k) (by omega) (by decide) dX12_card_62 ?_
        exact ret _ () _ _ _ _ dX12_card_63 (by simp (decide := true) [-not_and, -Int32.not_le, -Int32.not_lt, noOne, noDr, mCard, c5, e_k, c12q]) hP hD hS
      · subst c12e
        refine lv_tableIn (off := 52) (tgt := 64) hx hb dX12_card_12 (by omega) (by omega) (sw_at c12 rfl) (by decide) ?_
        have c12q := sw_eq c12 (by decide)
        refine lv_aload_n hx hb dX12_card_64 rfl (lv_at hl 0 rfl) ?_
        refine va_get (ci := 11) (v := .ref (r 12)) (C := RX12) (T := TX12) (N := 24) hx hb hts hinX12 hown hK hP 0 rfl rfl 12 (by decide) hf22 (fun _ h9 => h9) rfl dX12_card_65 ?_
        refine lv_bipush (v := nI 13) hx hb dX12_card_68 (by decide) ?_
        refine lv_iload_n hx hb dX12_card_70 rfl (lv_at hl 1 rfl) ?_
        refine adN (k := 13 + k) hx hb rfl dX12_card_71 ?_
        refine ldN (f := (A 12)) hx hb hK hP 5 rfl (j := 13 + k) (by omega) (by decide) dX12_card_72 ?_
        exact ret _ () _ _ _ _ dX12_card_73 (by simp (decide := true) [-not_and, -Int32.not_le, -Int32.not_lt, noOne, noDr, mCard, c5, e_k, c12q]) hP hD hS
      · subst c12e
        refine lv_tableIn (off := 62) (tgt := 74) hx hb dX12_card_12 (by omega) (by omega) (sw_at c12 rfl) (by decide) ?_
        have c12q := sw_eq c12 (by decide)
        refine lv_aload_n hx hb dX12_card_74 rfl (lv_at hl 0 rfl) ?_
        refine va_get (ci := 11) (v := .ref (r 12)) (C := RX12) (T := TX12) (N := 24) hx hb hts hinX12 hown hK hP 0 rfl rfl 12 (by decide) hf22 (fun _ h9 => h9) rfl dX12_card_75 ?_
        refine lv_aload_n hx hb dX12_card_78 rfl (lv_at hl 0 rfl) ?_
        refine va_get (ci := 11) (v := .ref (r 12)) (C := RX12) (T := TX12) (N := 24) hx hb hts hinX12 hown hK hP 0 rfl rfl 12 (by decide) hf22 (fun _ h9 => h9) rfl dX12_card_79 ?_
        refine lv_bipush (v := nI 21) hx hb dX12_card_82 (by decide) ?_
        refine lv_iload_n hx hb dX12_card_84 rfl (lv_at hl 1 rfl) ?_
        refine adN (k := 21 + k) hx hb rfl dX12_card_85 ?_
        refine ldN (f := (A 12)) hx hb hK hP 5 rfl (j := 21 + k) (by omega) (by decide) dX12_card_86 ?_
        refine lv_aload_n hx hb dX12_card_87 rfl (lv_at hl 0 rfl) ?_
        refine va_get (ci := 11) (v := .ref (r 12)) (C := RX12) (T := TX12) (N := 24) hx hb hts hinX12 hown hK hP 0 rfl rfl 12 (by decide) hf22 (fun _ h9 => h9) rfl dX12_card_88 ?_
        refine lv_bipush (v := nI 29) hx hb dX12_card_91 (by decide) ?_
        refine lv_iload_n hx hb dX12_card_93 rfl (lv_at hl 1 rfl) ?_
        refine adN (k := 29 + k) hx hb rfl dX12_card_94 ?_
        refine ldN (f := (A 12)) hx hb hK hP 5 rfl (j := 29 + k) (by omega) (by decide) dX12_card_95 ?_
        refine lv_iconst (v := nI 1) hx hb dX12_card_96 (by decide) ?_
        refine lv_isub hx hb dX12_card_97 ?_
        refine call_i (wr := [(h, .inr (11, mO r v)), ((r 0), wInt (cy 0) 8 (A 0)), ((r 1), wInt (cy 0) 8 (A 1)), ((r 2), wInt (cy 0) 320 (A 2)), ((r 5), wInt (cy 0) 60 (A 5)), ((r 13), wInt (cy 0) 37 (A 13)), ((r 14), wInt (cy 0) 37 (A 14)), ((r 15), wInt (cy 0) 37 (A 15)), ((r 16), wInt (cy 0) 74 (A 16)), ((r 17), wInt (cy 1) 2 (A 17)), ((r 18), wInt (cy 0) 888 (A 18)), ((r 20), wInt (cy 0) 16 (A 20)), ((r 22), wInt (cy 0) 16 (A 22)), ((r 23), wInt (cy 0) 24 (A 23))]) (ws' := (fun _ : Unit => mW cy h r v A)) (va_runS (As := [.ref (r 12), .int ((A 12) (21 + k)), .int ((A 12) (29 + k) - nI 1)]) (rest := []) CF (k_X12_cardAt l D cy _ (r 12) (A 12) ((A 12) (21 + k)) ((A 12) (29 + k) - nI 1) n (by first | assumption | omega | decide) hC.1) (va_cwS 3 hts gX12_card_X12_cardAt rfl rfl rfl (by decide +kernel) ⟨Nat.le_of_ble_eq_true rfl, Nat.le_of_ble_eq_true rfl⟩) (pre_S hKN hP hD [5] rfl (by decide)) rfl rfl hl.1 rfl (lv_room (Nat.le_of_ble_eq_true rfl)) dX12_card_98 ⟨Nat.le_of_ble_eq_true rfl, Nat.le_of_ble_eq_true rfl⟩) hS hA hP hD [5] [0, 1, 2, 3, 4, 6, 7, 8, 9, 10, 11, 12, 13, 14] [0, 1, 2, 3, 4, 14, 5, 6, 7, 8, 9, 10, 11, 12, 13] rfl rfl (by decide) (by decide) (fun _ => rfl) (by decide) (fun r5 u4 H locs hw6 hP hD hS => ?_)
        replace hw6 := hw6.symm; subst hw6
        exact ret _ () _ _ _ _ dX12_card_101 (by simp (decide := true) [-not_and, -Int32.not_le, -Int32.not_lt, noOne, noDr, mCard, c5, e_k, c12q]) hP hD hS
  · refine lv_ldc hx hb hown hc66 dX12_card_8 ?_
    exact ret _ () _ _ _ _ dX12_card_10 (by simp (decide := true) [-not_and, -Int32.not_le, -Int32.not_lt, noOne, noDr, mCard, c5]) hP hD hS
set_option maxHeartbeats 4000000 in
set_option maxRecDepth 100000 in
theorem k_X12_drawer (l : Launch) (D : va_G) (cy : Nat → ClassId) (sz : Nat) (h : Nat) (r : Nat → Nat) (v : Nat → Int32) (A : Nat → Nat → Int32) (n : Nat) (d0 : Int32) (w0 : Int32) (hC : Cat (A 12) n) : Met l yX12_drawer wsX12_drawer (rmD 2) (pPre D (TY cy) (mW cy h r v A) sz [.ref h, .int d0, .int w0]) (pI D (TY cy) (mW cy h r v A) sz (fun _ : Unit => mW cy h r v A) (fun (r_ : Int32) (_ : Unit) => r_ = (mDrawer A n d0 w0))) 0 0 (va_A (mW cy h r v A) sz) := by
  refine ent_i (cc := cX12_drawer) (maxL := 3) (by decide +kernel) rfl (Nat.le_of_ble_eq_true rfl) ?_
  intro p_ e_ s_ m_ args_ below_ meth_ c_ A_ Q_ ls B0 ret
  obtain ⟨CF, hA, hKN, hP, hD, hl⟩ := B0
  have hK := hKN.1
  obtain ⟨hx, hb, hml, hown, hts⟩ := id CF
  have hS : va_S A_ s_.heap s_.heap [] := va_S.rf
  have hl : lv_has ls 3 [(0, .ref h), (1, .int d0), (2, .int w0)] := hl
  have hc66 := hts (.constant RX12 66 (-1000001)) (by decide +kernel)
  have hf22 := hts (.fieldLink RX12 22 "DrawerCardsModel" "now" "[I") (by decide +kernel)
  have hinX12 := show ∀ w ∈ u_ws RX12 TX12 24, w ∈ wsX12_drawer from by decide +kernel
  have hn := hC.2.1
  refine lv_aload_n hx hb dX12_drawer_0 rfl (lv_at hl 0 rfl) ?_
  refine lv_iload_n hx hb dX12_drawer_1 rfl (lv_at hl 1 rfl) ?_
  refine call_i (wr := []) (ws' := (fun _ : Unit => mW cy h r v A)) (va_runV (As := [.int d0]) (rest := []) CF (k_X12_isDrawer l D cy _ h r v A d0 ) (cwV 1 hts gX12_drawer_X12_isDrawer rfl rfl rfl (by decide +kernel) ⟨Nat.le_of_ble_eq_true rfl, Nat.le_of_ble_eq_true rfl⟩) (pre_V hKN hP hD [0, 1, 2, 3, 4, 5, 6, 7, 8, 9, 10, 11, 12, 13, 14] rfl (by decide) 0 11 rfl rfl) rfl rfl hl.1 rfl (lv_room (Nat.le_of_ble_eq_true rfl)) dX12_drawer_2 ⟨Nat.le_of_ble_eq_true rfl, Nat.le_of_ble_eq_true rfl⟩) hS hA hP hD [0, 1, 2, 3, 4, 5, 6, 7, 8, 9, 10, 11, 12, 13, 14] [] [0, 1, 2, 3, 4, 5, 6, 7, 8, 9, 10, 11, 12, 13, 14] rfl rfl (by decide) (by decide) (fun _ => rfl) (by decide) (fun r2 u1 H locs hw3 hP hD hS => ?_)
  replace hw3 := hw3.symm; subst hw3
  refine ifneB (tgt := 11) hx hb dX12_drawer_5 (by decide) (fun c5 => ?_) (fun c5 => ?_)
  · refine lv_iload_n hx hb dX12_drawer_11 rfl (lv_at hl 2 rfl) ?_
    refine lv_if_ne (tgt := 26) hx hb dX12_drawer_12 (by decide) (fun c12 => ?_) (fun c12 => ?_)
    · refine lv_iload_n hx hb dX12_drawer_26 rfl (lv_at hl 2 rfl) ?_
      refine lv_iconst (v := nI 1) hx hb dX12_drawer_27 (by decide) ?_
      refine lv_icmp_ne (tgt := 42) hx hb dX12_drawer_28 (by decide) (fun c28 => ?_) (fun c28 => ?_)
      · refine lv_iload_n hx hb dX12_drawer_42 rfl (lv_at hl 2 rfl) ?_
        refine lv_iconst (v := nI 2) hx hb dX12_drawer_43 (by decide) ?_
        refine lv_icmp_ne (tgt := 59) hx hb dX12_drawer_44 (by decide) (fun c44 => ?_) (fun c44 => ?_)
        · refine lv_ldc hx hb hown hc66 dX12_drawer_59 ?_
          exact ret _ () _ _ _ _ dX12_drawer_61 (by simp (decide := true) [-not_and, -Int32.not_le, -Int32.not_lt, noOne, noDr, mDrawer, c5, c12, c28, c44]) hP hD hS
        · refine lv_aload_n hx hb dX12_drawer_47 rfl (lv_at hl 0 rfl) ?_
          refine va_get (ci := 11) (v := .ref (r 12)) (C := RX12) (T := TX12) (N := 24) hx hb hts hinX12 hown hK hP 0 rfl rfl 12 (by decide) hf22 (fun _ h9 => h9) rfl dX12_drawer_48 ?_
          refine lv_iload_n hx hb dX12_drawer_51 rfl (lv_at hl 1 rfl) ?_
          refine lv_iconst (v := nI 0) hx hb dX12_drawer_52 (by decide) ?_
          refine call_i (wr := [(h, .inr (11, mO r v)), ((r 0), wInt (cy 0) 8 (A 0)), ((r 1), wInt (cy 0) 8 (A 1)), ((r 2), wInt (cy 0) 320 (A 2)), ((r 5), wInt (cy 0) 60 (A 5)), ((r 13), wInt (cy 0) 37 (A 13)), ((r 14), wInt (cy 0) 37 (A 14)), ((r 15), wInt (cy 0) 37 (A 15)), ((r 16), wInt (cy 0) 74 (A 16)), ((r 17), wInt (cy 1) 2 (A 17)), ((r 18), wInt (cy 0) 888 (A 18)), ((r 20), wInt (cy 0) 16 (A 20)), ((r 22), wInt (cy 0) 16 (A 22)), ((r 23), wInt (cy 0) 24 (A 23))]) (ws' := (fun _ : Unit => mW cy h r v A)) (va_runS (As := [.ref (r 12), .int d0, .int (nI 0)]) (rest := []) CF (k_X12_cardAt l D cy _ (r 12) (A 12) d0 (nI 0) n (by first | assumption | omega | decide) hC.1) (va_cwS 3 hts gX12_drawer_X12_cardAt rfl rfl rfl (by decide +kernel) ⟨Nat.le_of_ble_eq_true rfl, Nat.le_of_ble_eq_true rfl⟩) (pre_S hKN hP hD [5] rfl (by decide)) rfl rfl hl.1 rfl (lv_room (Nat.le_of_ble_eq_true rfl)) dX12_drawer_53 ⟨Nat.le_of_ble_eq_true rfl, Nat.le_of_ble_eq_true rfl⟩) hS hA hP hD [5] [0, 1, 2, 3, 4, 6, 7, 8, 9, 10, 11, 12, 13, 14] [0, 1, 2, 3, 4, 14, 5, 6, 7, 8, 9, 10, 11, 12, 13] rfl rfl (by decide) (by decide) (fun _ => rfl) (by decide) (fun r5 u4 H locs hw6 hP hD hS => ?_)
          replace hw6 := hw6.symm; subst hw6
          refine lv_goto (tgt := 61) hx hb dX12_drawer_56 (by decide) ?_
          exact ret _ () _ _ _ _ dX12_drawer_61 (by simp (decide := true) [-not_and, -Int32.not_le, -Int32.not_lt, noOne, noDr, mDrawer, c5, c12, c28, c44]) hP hD hS
      · refine lv_aload_n hx hb dX12_drawer_31 rfl (lv_at hl 0 rfl) ?_
        refine va_get (ci := 11) (v := .ref (r 12)) (C := RX12) (T := TX12) (N := 24) hx hb hts hinX12 hown hK hP 0 rfl rfl 12 (by decide) hf22 (fun _ h9 => h9) rfl dX12_drawer_32 ?_
        refine lv_iload_n hx hb dX12_drawer_35 rfl (lv_at hl 1 rfl) ?_
        refine call_i (wr := [(h, .inr (11, mO r v)), ((r 0), wInt (cy 0) 8 (A 0)), ((r 1), wInt (cy 0) 8 (A 1)), ((r 2), wInt (cy 0) 320 (A 2)), ((r 5), wInt (cy 0) 60 (A 5)), ((r 13), wInt (cy 0) 37 (A 13)), ((r 14), wInt (cy 0) 37 (A 14)), ((r 15), wInt (cy 0) 37 (A 15)), ((r 16), wInt (cy 0) 74 (A 16)), ((r 17), wInt (cy 1) 2 (A 17)), ((r 18), wInt (cy 0) 888 (A 18)), ((r 20), wInt (cy 0) 16 (A 20)), ((r 22), wInt (cy 0) 16 (A 22)), ((r 23), wInt (cy 0) 24 (A 23))]) (ws' := (fun _ : Unit => mW cy h r v A)) (va_runS (As := [.ref (r 12), .int d0]) (rest := []) CF (k_X12_cardsIn l D cy _ (r 12) (A 12) d0 n (by first | assumption | omega | decide) hC.1) (va_cwS 2 hts gX12_drawer_X12_cardsIn rfl rfl rfl (by decide +kernel) ⟨Nat.le_of_ble_eq_true rfl, Nat.le_of_ble_eq_true rfl⟩) (pre_S hKN hP hD [5] rfl (by decide)) rfl rfl hl.1 rfl (lv_room (Nat.le_of_ble_eq_true rfl)) dX12_drawer_36 ⟨Nat.le_of_ble_eq_true rfl, Nat.le_of_ble_eq_true rfl⟩) hS hA hP hD [5] [0, 1, 2, 3, 4, 6, 7, 8, 9, 10, 11, 12, 13, 14] [0, 1, 2, 3, 4, 14, 5, 6, 7, 8, 9, 10, 11, 12, 13] rfl rfl (by decide) (by decide) (fun _ => rfl) (by decide) (fun r8 u7 H locs hw9 hP hD hS => ?_)
        replace hw9 := hw9.symm; subst hw9
        refine lv_goto (tgt := 61) hx hb dX12_drawer_39 (by decide) ?_
        exact ret _ () _ _ _ _ dX12_drawer_61 (by simp (decide := true) [-not_and, -Int32.not_le, -Int32.not_lt, noOne, noDr, mDrawer, c5, c12, c28]) hP hD hS
    · refine lv_aload_n hx hb dX12_drawer_15 rfl (lv_at hl 0 rfl) ?_
      refine va_get (ci := 11) (v := .ref (r 12)) (C := RX12) (T := TX12) (N := 24) hx hb hts hinX12 hown hK hP 0 rfl rfl 12 (by decide) hf22 (fun _ h9 => h9) rfl dX12_drawer_16 ?_
      refine lv_iload_n hx hb dX12_drawer_19 rfl (lv_at hl 1 rfl) ?_
      refine call_i (wr := [(h, .inr (11, mO r v)), ((r 0), wInt (cy 0) 8 (A 0)), ((r 1), wInt (cy 0) 8 (A 1)), ((r 2), wInt (cy 0) 320 (A 2)), ((r 5), wInt (cy 0) 60 (A 5)), ((r 13), wInt (cy 0) 37 (A 13)), ((r 14), wInt (cy 0) 37 (A 14)), ((r 15), wInt (cy 0) 37 (A 15)), ((r 16), wInt (cy 0) 74 (A 16)), ((r 17), wInt (cy 1) 2 (A 17)), ((r 18), wInt (cy 0) 888 (A 18)), ((r 20), wInt (cy 0) 16 (A 20)), ((r 22), wInt (cy 0) 16 (A 22)), ((r 23), wInt (cy 0) 24 (A 23))]) (ws' := (fun _ : Unit => mW cy h r v A)) (va_runS (As := [.ref (r 12), .int d0]) (rest := []) CF (k_X12_inDrawer l D cy _ (r 12) (A 12) d0 n (by first | assumption | omega | decide) hC.1) (va_cwS 2 hts gX12_drawer_X12_inDrawer rfl rfl rfl (by decide +kernel) ⟨Nat.le_of_ble_eq_true rfl, Nat.le_of_ble_eq_true rfl⟩) (pre_S hKN hP hD [5] rfl (by decide)) rfl rfl hl.1 rfl (lv_room (Nat.le_of_ble_eq_true rfl)) dX12_drawer_20 ⟨Nat.le_of_ble_eq_true rfl, Nat.le_of_ble_eq_true rfl⟩) hS hA hP hD [5] [0, 1, 2, 3, 4, 6, 7, 8, 9, 10, 11, 12, 13, 14] [0, 1, 2, 3, 4, 14, 5, 6, 7, 8, 9, 10, 11, 12, 13] rfl rfl (by decide) (by decide) (fun _ => rfl) (by decide) (fun r11 u10 H locs hw12 hP hD hS => ?_)
      replace hw12 := hw12.symm; subst hw12
      refine lv_goto (tgt := 61) hx hb dX12_drawer_23 (by decide) ?_
      exact ret _ () _ _ _ _ dX12_drawer_61 (by simp (decide := true) [-not_and, -Int32.not_le, -Int32.not_lt, noOne, noDr, mDrawer, c5, c12]) hP hD hS
  · refine lv_ldc hx hb hown hc66 dX12_drawer_8 ?_
    exact ret _ () _ _ _ _ dX12_drawer_10 (by simp (decide := true) [-not_and, -Int32.not_le, -Int32.not_lt, noOne, noDr, mDrawer, c5]) hP hD hS
set_option maxHeartbeats 4000000 in
set_option maxRecDepth 100000 in
theorem k_X12_mates (l : Launch) (D : va_G) (cy : Nat → ClassId) (sz : Nat) (h : Nat) (r : Nat → Nat) (v : Nat → Int32) (A : Nat → Nat → Int32) (n : Nat) (hC : Cat (A 12) n) : Met l yX12_mates wsX12_mates (rmD 2) (pPre D (TY cy) (mW cy h r v A) sz [.ref h]) (pI D (TY cy) (mW cy h r v A) sz (fun _ : Unit => mW cy h r v A) (fun (r_ : Int32) (_ : Unit) => r_ = (mMates A n))) 0 0 (va_A (mW cy h r v A) sz) := by
  refine ent_i (cc := cX12_mates) (maxL := 1) (by decide +kernel) rfl (Nat.le_of_ble_eq_true rfl) ?_
  intro p_ e_ s_ m_ args_ below_ meth_ c_ A_ Q_ ls B0 ret
  obtain ⟨CF, hA, hKN, hP, hD, hl⟩ := B0
  have hK := hKN.1
  obtain ⟨hx, hb, hml, hown, hts⟩ := id CF
  have hS : va_S A_ s_.heap s_.heap [] := va_S.rf
  have hl : lv_has ls 1 [(0, .ref h)] := hl
  have hc172 := hts (.constant RX12 172 (-1000002)) (by decide +kernel)
  have hf22 := hts (.fieldLink RX12 22 "DrawerCardsModel" "now" "[I") (by decide +kernel)
  have hinX12 := show ∀ w ∈ u_ws RX12 TX12 24, w ∈ wsX12_mates from by decide +kernel
  have hn := hC.2.1
  refine lv_aload_n hx hb dX12_mates_0 rfl (lv_at hl 0 rfl) ?_
  refine call_i (wr := []) (ws' := (fun _ : Unit => mW cy h r v A)) (va_runV (As := []) (rest := []) CF (k_X12_isThere l D cy _ h r v A ) (cwV 0 hts gX12_mates_X12_isThere rfl rfl rfl (by decide +kernel) ⟨Nat.le_of_ble_eq_true rfl, Nat.le_of_ble_eq_true rfl⟩) (pre_V hKN hP hD [0, 1, 2, 3, 4, 5, 6, 7, 8, 9, 10, 11, 12, 13, 14] rfl (by decide) 0 11 rfl rfl) rfl rfl hl.1 rfl (lv_room (Nat.le_of_ble_eq_true rfl)) dX12_mates_1 ⟨Nat.le_of_ble_eq_true rfl, Nat.le_of_ble_eq_true rfl⟩) hS hA hP hD [0, 1, 2, 3, 4, 5, 6, 7, 8, 9, 10, 11, 12, 13, 14] [] [0, 1, 2, 3, 4, 5, 6, 7, 8, 9, 10, 11, 12, 13, 14] rfl rfl (by decide) (by decide) (fun _ => rfl) (by decide) (fun r2 u1 H locs hw3 hP hD hS => ?_)
  replace hw3 := hw3.symm; subst hw3
  refine ifeqB (tgt := 17) hx hb dX12_mates_4 (by decide) (fun c4 => ?_) (fun c4 => ?_)
  · refine lv_ldc hx hb hown hc172 dX12_mates_17 ?_
    exact ret _ () _ _ _ _ dX12_mates_19 (by simp [-not_and, -Int32.not_le, -Int32.not_lt, noOne, noDr, mMates, c4]) hP hD hS
  · refine lv_aload_n hx hb dX12_mates_7 rfl (lv_at hl 0 rfl) ?_
    refine va_get (ci := 11) (v := .ref (r 12)) (C := RX12) (T := TX12) (N := 24) hx hb hts hinX12 hown hK hP 0 rfl rfl 12 (by decide) hf22 (fun _ h9 => h9) rfl dX12_mates_8 ?_
    refine call_i (wr := [(h, .inr (11, mO r v)), ((r 0), wInt (cy 0) 8 (A 0)), ((r 1), wInt (cy 0) 8 (A 1)), ((r 2), wInt (cy 0) 320 (A 2)), ((r 5), wInt (cy 0) 60 (A 5)), ((r 13), wInt (cy 0) 37 (A 13)), ((r 14), wInt (cy 0) 37 (A 14)), ((r 15), wInt (cy 0) 37 (A 15)), ((r 16), wInt (cy 0) 74 (A 16)), ((r 17), wInt (cy 1) 2 (A 17)), ((r 18), wInt (cy 0) 888 (A 18)), ((r 20), wInt (cy 0) 16 (A 20)), ((r 22), wInt (cy 0) 16 (A 22)), ((r 23), wInt (cy 0) 24 (A 23))]) (ws' := (fun _ : Unit => mW cy h r v A)) (va_runS (As := [.ref (r 12)]) (rest := []) CF (k_X12_matesIn l D cy _ (r 12) (A 12) n (by first | assumption | omega | decide) hC.1) (va_cwS 1 hts gX12_mates_X12_matesIn rfl rfl rfl (by decide +kernel) ⟨Nat.le_of_ble_eq_true rfl, Nat.le_of_ble_eq_true rfl⟩) (pre_S hKN hP hD [5] rfl (by decide)) rfl rfl hl.1 rfl (lv_room (Nat.le_of_ble_eq_true rfl)) dX12_mates_11 ⟨Nat.le_of_ble_eq_true rfl, Nat.le_of_ble_eq_true rfl⟩) hS hA hP hD [5] [0, 1, 2, 3, 4, 6, 7, 8, 9, 10, 11, 12, 13, 14] [0, 1, 2, 3, 4, 14, 5, 6, 7, 8, 9, 10, 11, 12, 13] rfl rfl (by decide) (by decide) (fun _ => rfl) (by decide) (fun r5 u4 H locs hw6 hP hD hS => ?_)
    replace hw6 := hw6.symm; subst hw6
    refine lv_goto (tgt := 19) hx hb dX12_mates_14 (by decide) ?_
    exact ret _ () _ _ _ _ dX12_mates_19 (by simp [-not_and, -Int32.not_le, -Int32.not_lt, noOne, noDr, mMates, c4]) hP hD hS
set_option maxHeartbeats 4000000 in
set_option maxRecDepth 100000 in
theorem k_X12_image (l : Launch) (D : va_G) (cy : Nat → ClassId) (sz : Nat) (h : Nat) (r : Nat → Nat) (v : Nat → Int32) (A : Nat → Nat → Int32) (x : Int32)  : Met l yX12_image wsX12_image (rmD 1) (pPre D (TY cy) (mW cy h r v A) sz [.ref h, .int x]) (pI D (TY cy) (mW cy h r v A) sz (fun u : (Nat → Int32) × (Nat → Nat → Int32) => mW cy h r u.1 u.2) (fun (r_ : Int32) (u : (Nat → Int32) × (Nat → Nat → Int32)) => r_ = ((mImage v A x).1) ∧ u = ((mImage v A x).2.1, (mImage v A x).2.2))) 0 0 (va_A (mW cy h r v A) sz) := by
  refine ent_i (cc := cX12_image) (maxL := 2) (by decide +kernel) rfl (Nat.le_of_ble_eq_true rfl) ?_
  intro p_ e_ s_ m_ args_ below_ meth_ c_ A_ Q_ ls B0 ret
  obtain ⟨CF, hA, hKN, hP, hD, hl⟩ := B0
  have hK := hKN.1
  obtain ⟨hx, hb, hml, hown, hts⟩ := id CF
  have hS : va_S A_ s_.heap s_.heap [] := va_S.rf
  have hl : lv_has ls 2 [(0, .ref h), (1, .int x)] := hl
  have hf22 := hts (.fieldLink RX12 22 "DrawerCardsModel" "now" "[I") (by decide +kernel)
  have hinX12 := show ∀ w ∈ u_ws RX12 TX12 24, w ∈ wsX12_image from by decide +kernel
  have hf34 := hts (.fieldLink RX12 34 "DrawerCardsModel" "image" "[I") (by decide +kernel)
  have hf37 := hts (.fieldLink RX12 37 "DrawerCardsModel" "isKept" "[Z") (by decide +kernel)
  have hc172 := hts (.constant RX12 172 (-1000002)) (by decide +kernel)
  have hc66 := hts (.constant RX12 66 (-1000001)) (by decide +kernel)
  refine lv_iload_n hx hb dX12_image_0 rfl (lv_at hl 1 rfl) ?_
  refine lv_iconst (v := nI 0) hx hb dX12_image_1 (by decide) ?_
  refine lv_iconst (v := nI 1) hx hb dX12_image_2 (by decide) ?_
  refine call_i (wr := [(h, .inr (11, mO r v)), ((r 0), wInt (cy 0) 8 (A 0)), ((r 1), wInt (cy 0) 8 (A 1)), ((r 2), wInt (cy 0) 320 (A 2)), ((r 5), wInt (cy 0) 60 (A 5)), ((r 12), wInt (cy 0) 37 (A 12)), ((r 13), wInt (cy 0) 37 (A 13)), ((r 14), wInt (cy 0) 37 (A 14)), ((r 15), wInt (cy 0) 37 (A 15)), ((r 16), wInt (cy 0) 74 (A 16)), ((r 17), wInt (cy 1) 2 (A 17)), ((r 18), wInt (cy 0) 888 (A 18)), ((r 20), wInt (cy 0) 16 (A 20)), ((r 22), wInt (cy 0) 16 (A 22)), ((r 23), wInt (cy 0) 24 (A 23))]) (ws' := (fun _ : Unit => mW cy h r v A)) (va_runS (As := [.int x, .int (nI 0), .int (nI 1)]) (rest := []) CF (k_X12_in l D cy _ x (nI 0) (nI 1) ) (va_cwS 3 hts gX12_image_X12_in rfl rfl rfl (by decide +kernel) ⟨Nat.le_of_ble_eq_true rfl, Nat.le_of_ble_eq_true rfl⟩) (pre_S hKN hP hD [] rfl (by decide)) rfl rfl hl.1 rfl (lv_room (Nat.le_of_ble_eq_true rfl)) dX12_image_3 ⟨Nat.le_of_ble_eq_true rfl, Nat.le_of_ble_eq_true rfl⟩) hS hA hP hD [] [0, 1, 2, 3, 4, 5, 6, 7, 8, 9, 10, 11, 12, 13, 14] [0, 1, 2, 3, 4, 5, 6, 7, 8, 9, 10, 11, 12, 13, 14] rfl rfl (by decide) (by decide) (fun _ => rfl) (by decide) (fun r2 u1 H locs hw3 hP hD hS => ?_)
  replace hw3 := hw3.symm; subst hw3
  refine ifneB (tgt := 12) hx hb dX12_image_6 (by decide) (fun c6 => ?_) (fun c6 => ?_)
  · obtain ⟨k, h_k, rfl⟩ := rng (m := 1) (by decide) c6
    have e_k : (nI k).toNatClampNeg = k := nI_clamp (by omega)
    refine lv_aload_n hx hb dX12_image_12 rfl (lv_at hl 0 rfl) ?_
    refine call_i (wr := []) (ws' := (fun _ : Unit => mW cy h r v A)) (va_runV (As := []) (rest := []) CF (k_X12_isThere l D cy _ h r v A ) (cwV 0 hts gX12_image_X12_isThere rfl rfl rfl (by decide +kernel) ⟨Nat.le_of_ble_eq_true rfl, Nat.le_of_ble_eq_true rfl⟩) (pre_V hKN hP hD [0, 1, 2, 3, 4, 5, 6, 7, 8, 9, 10, 11, 12, 13, 14] rfl (by decide) 0 11 rfl rfl) rfl rfl hl.1 rfl (lv_room (Nat.le_of_ble_eq_true rfl)) dX12_image_13 ⟨Nat.le_of_ble_eq_true rfl, Nat.le_of_ble_eq_true rfl⟩) hS hA hP hD [0, 1, 2, 3, 4, 5, 6, 7, 8, 9, 10, 11, 12, 13, 14] [] [0, 1, 2, 3, 4, 5, 6, 7, 8, 9, 10, 11, 12, 13, 14] rfl rfl (by decide) (by decide) (fun _ => rfl) (by decide) (fun r5 u4 H locs hw6 hP hD hS => ?_)
    replace hw6 := hw6.symm; subst hw6
    refine ifneB (tgt := 22) hx hb dX12_image_16 (by decide) (fun c16 => ?_) (fun c16 => ?_)
    · refine lv_aload_n hx hb dX12_image_22 rfl (lv_at hl 0 rfl) ?_
      refine va_get (ci := 11) (v := .ref (r 12)) (C := RX12) (T := TX12) (N := 24) hx hb hts hinX12 hown hK hP 0 rfl rfl 12 (by decide) hf22 (fun _ h9 => h9) rfl dX12_image_23 ?_
      refine lv_iconst (v := nI 0) hx hb dX12_image_26 (by decide) ?_
      refine lv_aload_n hx hb dX12_image_27 rfl (lv_at hl 0 rfl) ?_
      refine va_get (ci := 11) (v := .ref (r 16)) (C := RX12) (T := TX12) (N := 24) hx hb hts hinX12 hown hK hP 0 rfl rfl 16 (by decide) hf34 (fun _ h9 => h9) rfl dX12_image_28 ?_
      refine lv_bipush (v := nI 37) hx hb dX12_image_31 (by decide) ?_
      refine lv_iload_n hx hb dX12_image_33 rfl (lv_at hl 1 rfl) ?_
      refine muN (k := 37 * k) hx hb rfl dX12_image_34 ?_
      refine call_v (wr := [(h, .inr (11, mO r v)), ((r 0), wInt (cy 0) 8 (A 0)), ((r 1), wInt (cy 0) 8 (A 1)), ((r 2), wInt (cy 0) 320 (A 2)), ((r 5), wInt (cy 0) 60 (A 5)), ((r 13), wInt (cy 0) 37 (A 13)), ((r 14), wInt (cy 0) 37 (A 14)), ((r 15), wInt (cy 0) 37 (A 15)), ((r 17), wInt (cy 1) 2 (A 17)), ((r 18), wInt (cy 0) 888 (A 18)), ((r 20), wInt (cy 0) 16 (A 20)), ((r 22), wInt (cy 0) 16 (A 22)), ((r 23), wInt (cy 0) 24 (A 23))]) (ws' := (fun _ : Unit => mW cy h r v (va_up A 16 (putF (A 16) (37 * k) (A 12))))) (va_runS (As := [.ref (r 12), .int (nI 0), .ref (r 16), .int (nI (37 * k))]) (rest := []) CF (k_X12_layOut l D cy _ (r 12) (r 16) 74 (A 12) (A 16) (37 * k) (by first | assumption | omega | decide) (by first | assumption | omega | decide)) (va_cwS 4 hts gX12_image_X12_lay rfl rfl rfl (by decide +kernel) ⟨Nat.le_of_ble_eq_true rfl, Nat.le_of_ble_eq_true rfl⟩) (pre_S hKN hP hD [5, 9] rfl (by decide)) rfl rfl hl.1 rfl (lv_room (Nat.le_of_ble_eq_true rfl)) dX12_image_35 ⟨Nat.le_of_ble_eq_true rfl, Nat.le_of_ble_eq_true rfl⟩) hS hA hP hD [5, 9] [0, 1, 2, 3, 4, 6, 7, 8, 10, 11, 12, 13, 14] [0, 1, 2, 3, 4, 13, 5, 6, 7, 14, 8, 9, 10, 11, 12] rfl rfl (by decide) (by decide) (fun _ => rfl) (by decide) (fun u7 H locs hw9 hP hD hS => ?_)
      refine lv_aload_n hx hb dX12_image_38 rfl (lv_at hl 0 rfl) ?_
      refine va_get (ci := 11) (v := .ref (r 17)) (C := RX12) (T := TX12) (N := 24) hx hb hts hinX12 hown hK hP 0 rfl rfl 17 (by decide) hf37 (fun _ h9 => h9) rfl dX12_image_39 ?_
      refine lv_iload_n hx hb dX12_image_42 rfl (lv_at hl 1 rfl) ?_
      refine lv_iconst (v := nI 1) hx hb dX12_image_43 (by decide) ?_
      refine stZ (f := (A 17)) (ws' := mW cy h r v (va_up (va_up A 16 (putF (A 16) (37 * k) (A 12))) 17 (upd (A 17) k (nI 1)))) hx hb hK hP hD hS 10 rfl (j := k) (by omega) (by decide) (by decide) dX12_image_44 rfl (fun H locs hP hD hS => ?_)
      refine lv_iconst (v := nI 1) hx hb dX12_image_45 (by decide) ?_
      exact ret _ (v, (va_up (va_up A 16 (putF (A 16) (37 * k) (A 12))) 17 (upd (A 17) k (nI 1)))) _ _ _ _ dX12_image_46 (by simp [-not_and, -Int32.not_le, -Int32.not_lt, noOne, noDr, mImage, c6, e_k, c16]) hP hD hS
    · refine lv_ldc hx hb hown hc172 dX12_image_19 ?_
      exact ret _ (v, A) _ _ _ _ dX12_image_21 (by simp [-not_and, -Int32.not_le, -Int32.not_lt, noOne, noDr, mImage, c6, e_k, c16]) hP hD hS
  · refine lv_ldc hx hb hown hc66 dX12_image_9 ?_
    exact ret _ (v, A) _ _ _ _ dX12_image_11 (by simp [-not_and, -Int32.not_le, -Int32.not_lt, noOne, noDr, mImage, c6]) hP hD hS
set_option maxHeartbeats 4000000 in
set_option maxRecDepth 100000 in
theorem k_X12_restore (l : Launch) (D : va_G) (cy : Nat → ClassId) (sz : Nat) (h : Nat) (r : Nat → Nat) (v : Nat → Int32) (A : Nat → Nat → Int32) (x : Int32)  : Met l yX12_restore wsX12_restore (rmD 1) (pPre D (TY cy) (mW cy h r v A) sz [.ref h, .int x]) (pI D (TY cy) (mW cy h r v A) sz (fun u : (Nat → Int32) × (Nat → Nat → Int32) => mW cy h r u.1 u.2) (fun (r_ : Int32) (u : (Nat → Int32) × (Nat → Nat → Int32)) => r_ = ((mRestore v A x).1) ∧ u = ((mRestore v A x).2.1, (mRestore v A x).2.2))) 0 0 (va_A (mW cy h r v A) sz) := by
  refine ent_i (cc := cX12_restore) (maxL := 2) (by decide +kernel) rfl (Nat.le_of_ble_eq_true rfl) ?_
  intro p_ e_ s_ m_ args_ below_ meth_ c_ A_ Q_ ls B0 ret
  obtain ⟨CF, hA, hKN, hP, hD, hl⟩ := B0
  have hK := hKN.1
  obtain ⟨hx, hb, hml, hown, hts⟩ := id CF
  have hS : va_S A_ s_.heap s_.heap [] := va_S.rf
  have hl : lv_has ls 2 [(0, .ref h), (1, .int x)] := hl
  have hf37 := hts (.fieldLink RX12 37 "DrawerCardsModel" "isKept" "[Z") (by decide +kernel)
  have hinX12 := show ∀ w ∈ u_ws RX12 TX12 24, w ∈ wsX12_restore from by decide +kernel
  have hf34 := hts (.fieldLink RX12 34 "DrawerCardsModel" "image" "[I") (by decide +kernel)
  have hf22 := hts (.fieldLink RX12 22 "DrawerCardsModel" "now" "[I") (by decide +kernel)
  have hf134 := hts (.fieldLink RX12 134 "DrawerCardsModel" "acts" "I") (by decide +kernel)
  have hc172 := hts (.constant RX12 172 (-1000002)) (by decide +kernel)
  have hc66 := hts (.constant RX12 66 (-1000001)) (by decide +kernel)
  refine lv_iload_n hx hb dX12_restore_0 rfl (lv_at hl 1 rfl) ?_
  refine lv_iconst (v := nI 0) hx hb dX12_restore_1 (by decide) ?_
  refine lv_iconst (v := nI 1) hx hb dX12_restore_2 (by decide) ?_
  refine call_i (wr := [(h, .inr (11, mO r v)), ((r 0), wInt (cy 0) 8 (A 0)), ((r 1), wInt (cy 0) 8 (A 1)), ((r 2), wInt (cy 0) 320 (A 2)), ((r 5), wInt (cy 0) 60 (A 5)), ((r 12), wInt (cy 0) 37 (A 12)), ((r 13), wInt (cy 0) 37 (A 13)), ((r 14), wInt (cy 0) 37 (A 14)), ((r 15), wInt (cy 0) 37 (A 15)), ((r 16), wInt (cy 0) 74 (A 16)), ((r 17), wInt (cy 1) 2 (A 17)), ((r 18), wInt (cy 0) 888 (A 18)), ((r 20), wInt (cy 0) 16 (A 20)), ((r 22), wInt (cy 0) 16 (A 22)), ((r 23), wInt (cy 0) 24 (A 23))]) (ws' := (fun _ : Unit => mW cy h r v A)) (va_runS (As := [.int x, .int (nI 0), .int (nI 1)]) (rest := []) CF (k_X12_in l D cy _ x (nI 0) (nI 1) ) (va_cwS 3 hts gX12_restore_X12_in rfl rfl rfl (by decide +kernel) ⟨Nat.le_of_ble_eq_true rfl, Nat.le_of_ble_eq_true rfl⟩) (pre_S hKN hP hD [] rfl (by decide)) rfl rfl hl.1 rfl (lv_room (Nat.le_of_ble_eq_true rfl)) dX12_restore_3 ⟨Nat.le_of_ble_eq_true rfl, Nat.le_of_ble_eq_true rfl⟩) hS hA hP hD [] [0, 1, 2, 3, 4, 5, 6, 7, 8, 9, 10, 11, 12, 13, 14] [0, 1, 2, 3, 4, 5, 6, 7, 8, 9, 10, 11, 12, 13, 14] rfl rfl (by decide) (by decide) (fun _ => rfl) (by decide) (fun r2 u1 H locs hw3 hP hD hS => ?_)
  replace hw3 := hw3.symm; subst hw3
  refine ifneB (tgt := 12) hx hb dX12_restore_6 (by decide) (fun c6 => ?_) (fun c6 => ?_)
  · obtain ⟨k, h_k, rfl⟩ := rng (m := 1) (by decide) c6
    have e_k : (nI k).toNatClampNeg = k := nI_clamp (by omega)
    refine lv_aload_n hx hb dX12_restore_12 rfl (lv_at hl 0 rfl) ?_
    refine va_get (ci := 11) (v := .ref (r 17)) (C := RX12) (T := TX12) (N := 24) hx hb hts hinX12 hown hK hP 0 rfl rfl 17 (by decide) hf37 (fun _ h9 => h9) rfl dX12_restore_13 ?_
    refine lv_iload_n hx hb dX12_restore_16 rfl (lv_at hl 1 rfl) ?_
    refine ldZ (f := (A 17)) hx hb hK hP 10 rfl (j := k) (by omega) (by decide) dX12_restore_17 ?_
    refine lv_if_ne (tgt := 24) hx hb dX12_restore_18 (by decide) (fun c18 => ?_) (fun c18 => ?_)
    · refine lv_aload_n hx hb dX12_restore_24 rfl (lv_at hl 0 rfl) ?_
      refine va_get (ci := 11) (v := .ref (r 16)) (C := RX12) (T := TX12) (N := 24) hx hb hts hinX12 hown hK hP 0 rfl rfl 16 (by decide) hf34 (fun _ h9 => h9) rfl dX12_restore_25 ?_
      refine lv_bipush (v := nI 37) hx hb dX12_restore_28 (by decide) ?_
      refine lv_iload_n hx hb dX12_restore_30 rfl (lv_at hl 1 rfl) ?_
      refine muN (k := 37 * k) hx hb rfl dX12_restore_31 ?_
      refine lv_aload_n hx hb dX12_restore_32 rfl (lv_at hl 0 rfl) ?_
      refine va_get (ci := 11) (v := .ref (r 12)) (C := RX12) (T := TX12) (N := 24) hx hb hts hinX12 hown hK hP 0 rfl rfl 12 (by decide) hf22 (fun _ h9 => h9) rfl dX12_restore_33 ?_
      refine lv_iconst (v := nI 0) hx hb dX12_restore_36 (by decide) ?_
      refine call_v (wr := [(h, .inr (11, mO r v)), ((r 0), wInt (cy 0) 8 (A 0)), ((r 1), wInt (cy 0) 8 (A 1)), ((r 2), wInt (cy 0) 320 (A 2)), ((r 5), wInt (cy 0) 60 (A 5)), ((r 13), wInt (cy 0) 37 (A 13)), ((r 14), wInt (cy 0) 37 (A 14)), ((r 15), wInt (cy 0) 37 (A 15)), ((r 17), wInt (cy 1) 2 (A 17)), ((r 18), wInt (cy 0) 888 (A 18)), ((r 20), wInt (cy 0) 16 (A 20)), ((r 22), wInt (cy 0) 16 (A 22)), ((r 23), wInt (cy 0) 24 (A 23))]) (ws' := (fun _ : Unit => mW cy h r v (va_up A 12 (fun j => (A 16) ((37 * k) + j))))) (va_runS (As := [.ref (r 16), .int (nI (37 * k)), .ref (r 12), .int (nI 0)]) (rest := []) CF (k_X12_layIn l D cy _ (r 16) (r 12) 74 (A 16) (A 12) (37 * k) (by first | assumption | omega | decide) (by first | assumption | omega | decide)) (va_cwS 4 hts gX12_restore_X12_lay rfl rfl rfl (by decide +kernel) ⟨Nat.le_of_ble_eq_true rfl, Nat.le_of_ble_eq_true rfl⟩) (pre_S hKN hP hD [9, 5] rfl (by decide)) rfl rfl hl.1 rfl (lv_room (Nat.le_of_ble_eq_true rfl)) dX12_restore_37 ⟨Nat.le_of_ble_eq_true rfl, Nat.le_of_ble_eq_true rfl⟩) hS hA hP hD [9, 5] [0, 1, 2, 3, 4, 6, 7, 8, 10, 11, 12, 13, 14] [0, 1, 2, 3, 4, 14, 5, 6, 7, 13, 8, 9, 10, 11, 12] rfl rfl (by decide) (by decide) (fun _ => rfl) (by decide) (fun u4 H locs hw6 hP hD hS => ?_)
      refine lv_aload_n hx hb dX12_restore_40 rfl (lv_at hl 0 rfl) ?_
      refine lv_iconst (v := nI 0) hx hb dX12_restore_41 (by decide) ?_
      refine va_put (ci := 11) (v := .int (nI 0)) (ty := .int) (C := RX12) (T := TX12) (N := 24) hx hb hts hinX12 tyX12 tyX12_ok nmX12 hown hK hP hD hS 0 rfl rfl 19 (by decide) hf134 (fun _ h9 => h9) rfl (by decide +kernel) rfl rfl (Nat.le_of_ble_eq_true rfl) dX12_restore_42 (fun H locs hP hD hS => ?_)
      have hP : va_P D vwCl (mW cy h r (upd v 19 (nI 0)) (va_up A 12 (fun j => (A 16) ((37 * k) + j)))) H := hP
      have hD : va_D A_ (mW cy h r (upd v 19 (nI 0)) (va_up A 12 (fun j => (A 16) ((37 * k) + j)))) := hD
      refine lv_iconst (v := nI 1) hx hb dX12_restore_45 (by decide) ?_
      exact ret _ ((upd v 19 (nI 0)), (va_up A 12 (fun j => (A 16) ((37 * k) + j)))) _ _ _ _ dX12_restore_46 (by simp [-not_and, -Int32.not_le, -Int32.not_lt, noOne, noDr, mRestore, c6, e_k, c18]) hP hD hS
    · refine lv_ldc hx hb hown hc172 dX12_restore_21 ?_
      exact ret _ (v, A) _ _ _ _ dX12_restore_23 (by simp [-not_and, -Int32.not_le, -Int32.not_lt, noOne, noDr, mRestore, c6, e_k, c18]) hP hD hS
  · refine lv_ldc hx hb hown hc66 dX12_restore_9 ?_
    exact ret _ (v, A) _ _ _ _ dX12_restore_11 (by simp [-not_and, -Int32.not_le, -Int32.not_lt, noOne, noDr, mRestore, c6]) hP hD hS
set_option maxHeartbeats 4000000 in
set_option maxRecDepth 100000 in
theorem k_X12_kind (l : Launch) (D : va_G) (cy : Nat → ClassId) (sz : Nat) (h : Nat) (r : Nat → Nat) (v : Nat → Int32) (A : Nat → Nat → Int32) (n : Nat) (x : Int32) (hC : Cat (A 12) n) : Met l yX12_kind wsX12_kind (rmD 2) (pPre D (TY cy) (mW cy h r v A) sz [.ref h, .int x]) (pI D (TY cy) (mW cy h r v A) sz (fun _ : Unit => mW cy h r v A) (fun (r_ : Int32) (_ : Unit) => r_ = (mKind A x))) 0 0 (va_A (mW cy h r v A) sz) := by
  refine ent_i (cc := cX12_kind) (maxL := 2) (by decide +kernel) rfl (Nat.le_of_ble_eq_true rfl) ?_
  intro p_ e_ s_ m_ args_ below_ meth_ c_ A_ Q_ ls B0 ret
  obtain ⟨CF, hA, hKN, hP, hD, hl⟩ := B0
  have hK := hKN.1
  obtain ⟨hx, hb, hml, hown, hts⟩ := id CF
  have hS : va_S A_ s_.heap s_.heap [] := va_S.rf
  have hl : lv_has ls 2 [(0, .ref h), (1, .int x)] := hl
  have hc66 := hts (.constant RX12 66 (-1000001)) (by decide +kernel)
  have hf22 := hts (.fieldLink RX12 22 "DrawerCardsModel" "now" "[I") (by decide +kernel)
  have hinX12 := show ∀ w ∈ u_ws RX12 TX12 24, w ∈ wsX12_kind from by decide +kernel
  have hn := hC.2.1
  refine lv_aload_n hx hb dX12_kind_0 rfl (lv_at hl 0 rfl) ?_
  refine lv_iload_n hx hb dX12_kind_1 rfl (lv_at hl 1 rfl) ?_
  refine call_i (wr := []) (ws' := (fun _ : Unit => mW cy h r v A)) (va_runV (As := [.int x]) (rest := []) CF (k_X12_isOne l D cy _ h r v A x ) (cwV 1 hts gX12_kind_X12_isOne rfl rfl rfl (by decide +kernel) ⟨Nat.le_of_ble_eq_true rfl, Nat.le_of_ble_eq_true rfl⟩) (pre_V hKN hP hD [0, 1, 2, 3, 4, 5, 6, 7, 8, 9, 10, 11, 12, 13, 14] rfl (by decide) 0 11 rfl rfl) rfl rfl hl.1 rfl (lv_room (Nat.le_of_ble_eq_true rfl)) dX12_kind_2 ⟨Nat.le_of_ble_eq_true rfl, Nat.le_of_ble_eq_true rfl⟩) hS hA hP hD [0, 1, 2, 3, 4, 5, 6, 7, 8, 9, 10, 11, 12, 13, 14] [] [0, 1, 2, 3, 4, 5, 6, 7, 8, 9, 10, 11, 12, 13, 14] rfl rfl (by decide) (by decide) (fun _ => rfl) (by decide) (fun r2 u1 H locs hw3 hP hD hS => ?_)
  replace hw3 := hw3.symm; subst hw3
  refine ifeqB (tgt := 19) hx hb dX12_kind_5 (by decide) (fun c5 => ?_) (fun c5 => ?_)
  · refine lv_ldc hx hb hown hc66 dX12_kind_19 ?_
    exact ret _ () _ _ _ _ dX12_kind_21 (by simp [-not_and, -Int32.not_le, -Int32.not_lt, noOne, noDr, mKind, c5]) hP hD hS
  · obtain ⟨k, h_k, rfl⟩ := rng' (m := n) (by omega) (by rw [← hC.1]; exact c5)
    have e_k : (nI k).toNatClampNeg = k := nI_clamp (by omega)
    refine lv_aload_n hx hb dX12_kind_8 rfl (lv_at hl 0 rfl) ?_
    refine va_get (ci := 11) (v := .ref (r 12)) (C := RX12) (T := TX12) (N := 24) hx hb hts hinX12 hown hK hP 0 rfl rfl 12 (by decide) hf22 (fun _ h9 => h9) rfl dX12_kind_9 ?_
    refine lv_iconst (v := nI 5) hx hb dX12_kind_12 (by decide) ?_
    refine lv_iload_n hx hb dX12_kind_13 rfl (lv_at hl 1 rfl) ?_
    refine adN (k := 5 + k) hx hb rfl dX12_kind_14 ?_
    refine ldN (f := (A 12)) hx hb hK hP 5 rfl (j := 5 + k) (by omega) (by decide) dX12_kind_15 ?_
    refine lv_goto (tgt := 21) hx hb dX12_kind_16 (by decide) ?_
    exact ret _ () _ _ _ _ dX12_kind_21 (by simp [-not_and, -Int32.not_le, -Int32.not_lt, noOne, noDr, mKind, c5, e_k]) hP hD hS
set_option maxHeartbeats 4000000 in
set_option maxRecDepth 100000 in
theorem k_X12_parentOf (l : Launch) (D : va_G) (cy : Nat → ClassId) (sz : Nat) (k0 : Int32)  : Met l yX12_parentOf wsX12_parentOf (rmD 0) (pPre D (TY cy) ([]) sz [.int k0]) (pI D (TY cy) ([]) sz (fun _ : Unit => []) (fun (r_ : Int32) (_ : Unit) => r_ = parF k0)) 0 0 (va_A ([]) sz) := by
  refine ent_i (cc := cX12_parentOf) (maxL := 1) (by decide +kernel) rfl (Nat.le_of_ble_eq_true rfl) ?_
  intro p_ e_ s_ m_ args_ below_ meth_ c_ A_ Q_ ls B0 ret
  obtain ⟨CF, hA, hKN, hP, hD, hl⟩ := B0
  have hK := hKN.1
  obtain ⟨hx, hb, hml, hown, hts⟩ := id CF
  have hS : va_S A_ s_.heap s_.heap [] := va_S.rf
  have hl : lv_has ls 1 [(0, .int k0)] := hl
  refine lv_iload_n hx hb dX12_parentOf_0 rfl (lv_at hl 0 rfl) ?_
  refine lv_iconst (v := nI 1) hx hb dX12_parentOf_1 (by decide) ?_
  refine lv_icmp_eq (tgt := 10) hx hb dX12_parentOf_2 (by decide) (fun c2 => ?_) (fun c2 => ?_)
  · refine lv_iconst (v := nI 0) hx hb dX12_parentOf_10 (by decide) ?_
    refine lv_goto (tgt := 24) hx hb dX12_parentOf_11 (by decide) ?_
    exact ret _ () _ _ _ _ dX12_parentOf_24 (by simp (decide := true) [parF, c2]) hP hD hS
  · refine lv_iload_n hx hb dX12_parentOf_5 rfl (lv_at hl 0 rfl) ?_
    refine lv_iconst (v := nI 4) hx hb dX12_parentOf_6 (by decide) ?_
    refine lv_icmp_ne (tgt := 14) hx hb dX12_parentOf_7 (by decide) (fun c7 => ?_) (fun c7 => ?_)
    · refine lv_iload_n hx hb dX12_parentOf_14 rfl (lv_at hl 0 rfl) ?_
      refine lv_iconst (v := nI 5) hx hb dX12_parentOf_15 (by decide) ?_
      refine lv_icmp_ne (tgt := 23) hx hb dX12_parentOf_16 (by decide) (fun c16 => ?_) (fun c16 => ?_)
      · refine lv_iconst (v := nI 1) hx hb dX12_parentOf_23 (by decide) ?_
        exact ret _ () _ _ _ _ dX12_parentOf_24 (by simp (decide := true) [parF, c2, c7, c16]) hP hD hS
      · refine lv_iconst (v := nI 4) hx hb dX12_parentOf_19 (by decide) ?_
        refine lv_goto (tgt := 24) hx hb dX12_parentOf_20 (by decide) ?_
        exact ret _ () _ _ _ _ dX12_parentOf_24 (by simp (decide := true) [parF, c2, c7, c16]) hP hD hS
    · refine lv_iconst (v := nI 0) hx hb dX12_parentOf_10 (by decide) ?_
      refine lv_goto (tgt := 24) hx hb dX12_parentOf_11 (by decide) ?_
      exact ret _ () _ _ _ _ dX12_parentOf_24 (by simp (decide := true) [parF, c2, c7]) hP hD hS
set_option maxHeartbeats 4000000 in
set_option maxRecDepth 100000 in
theorem k_X12_as (l : Launch) (D : va_G) (cy : Nat → ClassId) (sz : Nat) (h : Nat) (r : Nat → Nat) (v : Nat → Int32) (A : Nat → Nat → Int32) (n : Nat) (x : Int32) (k0 : Int32) (hC : Cat (A 12) n) : Met l yX12_as wsX12_as (rmD 2) (pPre D (TY cy) (mW cy h r v A) sz [.ref h, .int x, .int k0]) (pI D (TY cy) (mW cy h r v A) sz (fun v2 : Nat → Int32 => mW cy h r v2 A) (fun (r_ : Int32) (u : (Nat → Int32)) => r_ = ((mAs v A x k0).1) ∧ u = (mAs v A x k0).2)) 0 0 (va_A (mW cy h r v A) sz) := by
  refine ent_i (cc := cX12_as) (maxL := 5) (by decide +kernel) rfl (Nat.le_of_ble_eq_true rfl) ?_
  intro p_ e_ s_ m_ args_ below_ meth_ c_ A_ Q_ ls B0 ret
  obtain ⟨CF, hA, hKN, hP, hD, hl⟩ := B0
  have hK := hKN.1
  obtain ⟨hx, hb, hml, hown, hts⟩ := id CF
  have hS : va_S A_ s_.heap s_.heap [] := va_S.rf
  have hl : lv_has ls 5 [(0, .ref h), (1, .int x), (2, .int k0)] := hl
  have hc66 := hts (.constant RX12 66 (-1000001)) (by decide +kernel)
  have hf22 := hts (.fieldLink RX12 22 "DrawerCardsModel" "now" "[I") (by decide +kernel)
  have hinX12 := show ∀ w ∈ u_ws RX12 TX12 24, w ∈ wsX12_as from by decide +kernel
  have hn := hC.2.1
  refine lv_aload_n hx hb dX12_as_0 rfl (lv_at hl 0 rfl) ?_
  refine lv_iload_n hx hb dX12_as_1 rfl (lv_at hl 1 rfl) ?_
  refine call_i (wr := []) (ws' := (fun _ : Unit => mW cy h r v A)) (va_runV (As := [.int x]) (rest := []) CF (k_X12_isOne l D cy _ h r v A x ) (cwV 1 hts gX12_as_X12_isOne rfl rfl rfl (by decide +kernel) ⟨Nat.le_of_ble_eq_true rfl, Nat.le_of_ble_eq_true rfl⟩) (pre_V hKN hP hD [0, 1, 2, 3, 4, 5, 6, 7, 8, 9, 10, 11, 12, 13, 14] rfl (by decide) 0 11 rfl rfl) rfl rfl hl.1 rfl (lv_room (Nat.le_of_ble_eq_true rfl)) dX12_as_2 ⟨Nat.le_of_ble_eq_true rfl, Nat.le_of_ble_eq_true rfl⟩) hS hA hP hD [0, 1, 2, 3, 4, 5, 6, 7, 8, 9, 10, 11, 12, 13, 14] [] [0, 1, 2, 3, 4, 5, 6, 7, 8, 9, 10, 11, 12, 13, 14] rfl rfl (by decide) (by decide) (fun _ => rfl) (by decide) (fun r2 u1 H locs hw3 hP hD hS => ?_)
  replace hw3 := hw3.symm; subst hw3
  refine ifeqB (tgt := 17) hx hb dX12_as_5 (by decide) (fun c5 => ?_) (fun c5 => ?_)
  · refine lv_ldc hx hb hown hc66 dX12_as_17 ?_
    exact ret _ v _ _ _ _ dX12_as_19 (by simp (decide := true) [-not_and, -Int32.not_le, -Int32.not_lt, noOne, noDr, mAs, c5]) hP hD hS
  · obtain ⟨k, h_k, rfl⟩ := rng' (m := n) (by omega) (by rw [← hC.1]; exact c5)
    have e_k : (nI k).toNatClampNeg = k := nI_clamp (by omega)
    refine lv_iload_n hx hb dX12_as_8 rfl (lv_at hl 2 rfl) ?_
    refine lv_iconst (v := nI 0) hx hb dX12_as_9 (by decide) ?_
    refine lv_iconst (v := nI 5) hx hb dX12_as_10 (by decide) ?_
    refine call_i (wr := [(h, .inr (11, mO r v)), ((r 0), wInt (cy 0) 8 (A 0)), ((r 1), wInt (cy 0) 8 (A 1)), ((r 2), wInt (cy 0) 320 (A 2)), ((r 5), wInt (cy 0) 60 (A 5)), ((r 12), wInt (cy 0) 37 (A 12)), ((r 13), wInt (cy 0) 37 (A 13)), ((r 14), wInt (cy 0) 37 (A 14)), ((r 15), wInt (cy 0) 37 (A 15)), ((r 16), wInt (cy 0) 74 (A 16)), ((r 17), wInt (cy 1) 2 (A 17)), ((r 18), wInt (cy 0) 888 (A 18)), ((r 20), wInt (cy 0) 16 (A 20)), ((r 22), wInt (cy 0) 16 (A 22)), ((r 23), wInt (cy 0) 24 (A 23))]) (ws' := (fun _ : Unit => mW cy h r v A)) (va_runS (As := [.int k0, .int (nI 0), .int (nI 5)]) (rest := []) CF (k_X12_in l D cy _ k0 (nI 0) (nI 5) ) (va_cwS 3 hts gX12_as_X12_in rfl rfl rfl (by decide +kernel) ⟨Nat.le_of_ble_eq_true rfl, Nat.le_of_ble_eq_true rfl⟩) (pre_S hKN hP hD [] rfl (by decide)) rfl rfl hl.1 rfl (lv_room (Nat.le_of_ble_eq_true rfl)) dX12_as_11 ⟨Nat.le_of_ble_eq_true rfl, Nat.le_of_ble_eq_true rfl⟩) hS hA hP hD [] [0, 1, 2, 3, 4, 5, 6, 7, 8, 9, 10, 11, 12, 13, 14] [0, 1, 2, 3, 4, 5, 6, 7, 8, 9, 10, 11, 12, 13, 14] rfl rfl (by decide) (by decide) (fun _ => rfl) (by decide) (fun r5 u4 H locs hw6 hP hD hS => ?_)
    replace hw6 := hw6.symm; subst hw6
    refine ifneB (tgt := 20) hx hb dX12_as_14 (by decide) (fun c14 => ?_) (fun c14 => ?_)
    · refine lv_aload_n hx hb dX12_as_20 rfl (lv_at hl 0 rfl) ?_
      refine va_get (ci := 11) (v := .ref (r 12)) (C := RX12) (T := TX12) (N := 24) hx hb hts hinX12 hown hK hP 0 rfl rfl 12 (by decide) hf22 (fun _ h9 => h9) rfl dX12_as_21 ?_
      refine lv_iconst (v := nI 5) hx hb dX12_as_24 (by decide) ?_
      refine lv_iload_n hx hb dX12_as_25 rfl (lv_at hl 1 rfl) ?_
      refine adN (k := 5 + k) hx hb rfl dX12_as_26 ?_
      refine ldN (f := (A 12)) hx hb hK hP 5 rfl (j := 5 + k) (by omega) (by decide) dX12_as_27 ?_
      refine lv_istore_n (lv' := [(3, .int ((A 12) (5 + k))), (0, .ref h), (1, .int (nI k)), (2, .int k0)]) hx hb dX12_as_28 rfl hl (by decide) rfl (fun ls hl => ?_)
      refine lv_iload_n hx hb dX12_as_29 rfl (lv_at hl 3 rfl) ?_
      refine lv_if_eq (tgt := 46) hx hb dX12_as_30 (by decide) (fun c30 => ?_) (fun c30 => ?_)
      · refine lv_iconst (v := nI 1) hx hb dX12_as_46 (by decide) ?_
        refine lv_goto (tgt := 51) hx hb dX12_as_47 (by decide) ?_
        refine lv_istore (lv' := [(4, .int (nI 1)), (3, .int ((A 12) (5 + k))), (0, .ref h), (1, .int (nI k)), (2, .int k0)]) hx hb dX12_as_51 hl (by decide) rfl (fun ls hl => ?_)
        refine lv_iload hx hb dX12_as_53 (lv_at hl 0 rfl) ?_
        refine lv_if_eq (tgt := 66) hx hb dX12_as_55 (by decide) (fun c55 => absurd c55 (by decide)) (fun c55 => ?_)
        refine lv_aload_n hx hb dX12_as_58 rfl (lv_at hl 2 rfl) ?_
        refine lv_iload_n hx hb dX12_as_59 rfl (lv_at hl 3 rfl) ?_
        refine call_i (wr := []) (ws' := (fun _ : Unit => mW cy h r (upd v 3 (nI 0)) A)) (va_runV (As := [.int (nI k)]) (rest := []) CF (k_X12_done l D cy _ h r v A (nI k) ) (cwV 1 hts gX12_as_X12_done rfl rfl rfl (by decide +kernel) ⟨Nat.le_of_ble_eq_true rfl, Nat.le_of_ble_eq_true rfl⟩) (pre_V hKN hP hD [0, 1, 2, 3, 4, 5, 6, 7, 8, 9, 10, 11, 12, 13, 14] rfl (by decide) 0 11 rfl rfl) rfl rfl hl.1 rfl (lv_room (Nat.le_of_ble_eq_true rfl)) dX12_as_60 ⟨Nat.le_of_ble_eq_true rfl, Nat.le_of_ble_eq_true rfl⟩) hS hA hP hD [0, 1, 2, 3, 4, 5, 6, 7, 8, 9, 10, 11, 12, 13, 14] [] [0, 1, 2, 3, 4, 5, 6, 7, 8, 9, 10, 11, 12, 13, 14] rfl rfl (by decide) (by decide) (fun _ => rfl) (by decide) (fun r8 u7 H locs hw9 hP hD hS => ?_)
        replace hw9 := hw9.symm; subst hw9
        refine lv_goto (tgt := 71) hx hb dX12_as_63 (by decide) ?_
        exact ret _ (upd v 3 (nI 0)) _ _ _ _ dX12_as_71 (by simp (decide := true) [-not_and, -Int32.not_le, -Int32.not_lt, noOne, noDr, mAs, c5, e_k, c14, c30]) hP hD hS
      · refine lv_iload_n hx hb dX12_as_33 rfl (lv_at hl 0 rfl) ?_
        refine lv_iload_n hx hb dX12_as_34 rfl (lv_at hl 3 rfl) ?_
        refine lv_icmp_eq (tgt := 46) hx hb dX12_as_35 (by decide) (fun c35 => ?_) (fun c35 => ?_)
        · refine lv_iconst (v := nI 1) hx hb dX12_as_46 (by decide) ?_
          refine lv_goto (tgt := 51) hx hb dX12_as_47 (by decide) ?_
          refine lv_istore (lv' := [(4, .int (nI 1)), (3, .int ((A 12) (5 + k))), (0, .ref h), (1, .int (nI k)), (2, .int k0)]) hx hb dX12_as_51 hl (by decide) rfl (fun ls hl => ?_)
          refine lv_iload hx hb dX12_as_53 (lv_at hl 0 rfl) ?_
          refine lv_if_eq (tgt := 66) hx hb dX12_as_55 (by decide) (fun c55 => absurd c55 (by decide)) (fun c55 => ?_)
          refine lv_aload_n hx hb dX12_as_58 rfl (lv_at hl 2 rfl) ?_
          refine lv_iload_n hx hb dX12_as_59 rfl (lv_at hl 3 rfl) ?_
          refine call_i (wr := []) (ws' := (fun _ : Unit => mW cy h r (upd v 3 (nI 0)) A)) (va_runV (As := [.int (nI k)]) (rest := []) CF (k_X12_done l D cy _ h r v A (nI k) ) (cwV 1 hts gX12_as_X12_done rfl rfl rfl (by decide +kernel) ⟨Nat.le_of_ble_eq_true rfl, Nat.le_of_ble_eq_true rfl⟩) (pre_V hKN hP hD [0, 1, 2, 3, 4, 5, 6, 7, 8, 9, 10, 11, 12, 13, 14] rfl (by decide) 0 11 rfl rfl) rfl rfl hl.1 rfl (lv_room (Nat.le_of_ble_eq_true rfl)) dX12_as_60 ⟨Nat.le_of_ble_eq_true rfl, Nat.le_of_ble_eq_true rfl⟩) hS hA hP hD [0, 1, 2, 3, 4, 5, 6, 7, 8, 9, 10, 11, 12, 13, 14] [] [0, 1, 2, 3, 4, 5, 6, 7, 8, 9, 10, 11, 12, 13, 14] rfl rfl (by decide) (by decide) (fun _ => rfl) (by decide) (fun r11 u10 H locs hw12 hP hD hS => ?_)
          replace hw12 := hw12.symm; subst hw12
          refine lv_goto (tgt := 71) hx hb dX12_as_63 (by decide) ?_
          exact ret _ (upd v 3 (nI 0)) _ _ _ _ dX12_as_71 (by simp (decide := true) [-not_and, -Int32.not_le, -Int32.not_lt, noOne, noDr, mAs, c5, e_k, c14, c30, c35]) hP hD hS
        · refine lv_iload_n hx hb dX12_as_38 rfl (lv_at hl 0 rfl) ?_
          refine call_i (wr := [(h, .inr (11, mO r v)), ((r 0), wInt (cy 0) 8 (A 0)), ((r 1), wInt (cy 0) 8 (A 1)), ((r 2), wInt (cy 0) 320 (A 2)), ((r 5), wInt (cy 0) 60 (A 5)), ((r 12), wInt (cy 0) 37 (A 12)), ((r 13), wInt (cy 0) 37 (A 13)), ((r 14), wInt (cy 0) 37 (A 14)), ((r 15), wInt (cy 0) 37 (A 15)), ((r 16), wInt (cy 0) 74 (A 16)), ((r 17), wInt (cy 1) 2 (A 17)), ((r 18), wInt (cy 0) 888 (A 18)), ((r 20), wInt (cy 0) 16 (A 20)), ((r 22), wInt (cy 0) 16 (A 22)), ((r 23), wInt (cy 0) 24 (A 23))]) (ws' := (fun _ : Unit => mW cy h r v A)) (va_runS (As := [.int ((A 12) (5 + k))]) (rest := []) CF (k_X12_parentOf l D cy _ ((A 12) (5 + k)) ) (va_cwS 1 hts gX12_as_X12_parentOf rfl rfl rfl (by decide +kernel) ⟨Nat.le_of_ble_eq_true rfl, Nat.le_of_ble_eq_true rfl⟩) (pre_S hKN hP hD [] rfl (by decide)) rfl rfl hl.1 rfl (lv_room (Nat.le_of_ble_eq_true rfl)) dX12_as_39 ⟨Nat.le_of_ble_eq_true rfl, Nat.le_of_ble_eq_true rfl⟩) hS hA hP hD [] [0, 1, 2, 3, 4, 5, 6, 7, 8, 9, 10, 11, 12, 13, 14] [0, 1, 2, 3, 4, 5, 6, 7, 8, 9, 10, 11, 12, 13, 14] rfl rfl (by decide) (by decide) (fun _ => rfl) (by decide) (fun r14 u13 H locs hw15 hP hD hS => ?_)
          replace hw15 := hw15.symm; subst hw15
          refine lv_iload_n hx hb dX12_as_42 rfl (lv_at hl 3 rfl) ?_
          refine lv_icmp_ne (tgt := 50) hx hb dX12_as_43 (by decide) (fun c43 => ?_) (fun c43 => ?_)
          · refine lv_iconst (v := nI 0) hx hb dX12_as_50 (by decide) ?_
            refine lv_istore (lv' := [(4, .int (nI 0)), (3, .int ((A 12) (5 + k))), (0, .ref h), (1, .int (nI k)), (2, .int k0)]) hx hb dX12_as_51 hl (by decide) rfl (fun ls hl => ?_)
            refine lv_iload hx hb dX12_as_53 (lv_at hl 0 rfl) ?_
            refine lv_if_eq (tgt := 66) hx hb dX12_as_55 (by decide) (fun c55 => ?_) (fun c55 => absurd c55 (by decide))
            refine lv_aload_n hx hb dX12_as_66 rfl (lv_at hl 2 rfl) ?_
            refine lv_iconst (v := nI 3) hx hb dX12_as_67 (by decide) ?_
            refine call_i (wr := []) (ws' := (fun _ : Unit => mW cy h r (upd v 3 (nI 3)) A)) (va_runV (As := [.int (nI 3)]) (rest := []) CF (k_X12_finds l D cy _ h r v A (nI 3) ) (cwV 1 hts gX12_as_X12_finds rfl rfl rfl (by decide +kernel) ⟨Nat.le_of_ble_eq_true rfl, Nat.le_of_ble_eq_true rfl⟩) (pre_V hKN hP hD [0, 1, 2, 3, 4, 5, 6, 7, 8, 9, 10, 11, 12, 13, 14] rfl (by decide) 0 11 rfl rfl) rfl rfl hl.1 rfl (lv_room (Nat.le_of_ble_eq_true rfl)) dX12_as_68 ⟨Nat.le_of_ble_eq_true rfl, Nat.le_of_ble_eq_true rfl⟩) hS hA hP hD [0, 1, 2, 3, 4, 5, 6, 7, 8, 9, 10, 11, 12, 13, 14] [] [0, 1, 2, 3, 4, 5, 6, 7, 8, 9, 10, 11, 12, 13, 14] rfl rfl (by decide) (by decide) (fun _ => rfl) (by decide) (fun r17 u16 H locs hw18 hP hD hS => ?_)
            replace hw18 := hw18.symm; subst hw18
            exact ret _ (upd v 3 (nI 3)) _ _ _ _ dX12_as_71 (by simp (decide := true) [-not_and, -Int32.not_le, -Int32.not_lt, noOne, noDr, mAs, c5, e_k, c14, c30, c35, c43]) hP hD hS
          · refine lv_iconst (v := nI 1) hx hb dX12_as_46 (by decide) ?_
            refine lv_goto (tgt := 51) hx hb dX12_as_47 (by decide) ?_
            refine lv_istore (lv' := [(4, .int (nI 1)), (3, .int ((A 12) (5 + k))), (0, .ref h), (1, .int (nI k)), (2, .int k0)]) hx hb dX12_as_51 hl (by decide) rfl (fun ls hl => ?_)
            refine lv_iload hx hb dX12_as_53 (lv_at hl 0 rfl) ?_
            refine lv_if_eq (tgt := 66) hx hb dX12_as_55 (by decide) (fun c55 => absurd c55 (by decide)) (fun c55 => ?_)
            refine lv_aload_n hx hb dX12_as_58 rfl (lv_at hl 2 rfl) ?_
            refine lv_iload_n hx hb dX12_as_59 rfl (lv_at hl 3 rfl) ?_
            refine call_i (wr := []) (ws' := (fun _ : Unit => mW cy h r (upd v 3 (nI 0)) A)) (va_runV (As := [.int (nI k)]) (rest := []) CF (k_X12_done l D cy _ h r v A (nI k) ) (cwV 1 hts gX12_as_X12_done rfl rfl rfl (by decide +kernel) ⟨Nat.le_of_ble_eq_true rfl, Nat.le_of_ble_eq_true rfl⟩) (pre_V hKN hP hD [0, 1, 2, 3, 4, 5, 6, 7, 8, 9, 10, 11, 12, 13, 14] rfl (by decide) 0 11 rfl rfl) rfl rfl hl.1 rfl (lv_room (Nat.le_of_ble_eq_true rfl)) dX12_as_60 ⟨Nat.le_of_ble_eq_true rfl, Nat.le_of_ble_eq_true rfl⟩) hS hA hP hD [0, 1, 2, 3, 4, 5, 6, 7, 8, 9, 10, 11, 12, 13, 14] [] [0, 1, 2, 3, 4, 5, 6, 7, 8, 9, 10, 11, 12, 13, 14] rfl rfl (by decide) (by decide) (fun _ => rfl) (by decide) (fun r20 u19 H locs hw21 hP hD hS => ?_)
            replace hw21 := hw21.symm; subst hw21
            refine lv_goto (tgt := 71) hx hb dX12_as_63 (by decide) ?_
            exact ret _ (upd v 3 (nI 0)) _ _ _ _ dX12_as_71 (by simp (decide := true) [-not_and, -Int32.not_le, -Int32.not_lt, noOne, noDr, mAs, c5, e_k, c14, c30, c35, c43]) hP hD hS
    · refine lv_ldc hx hb hown hc66 dX12_as_17 ?_
      exact ret _ v _ _ _ _ dX12_as_19 (by simp (decide := true) [-not_and, -Int32.not_le, -Int32.not_lt, noOne, noDr, mAs, c5, e_k, c14]) hP hD hS
set_option maxHeartbeats 4000000 in
set_option maxRecDepth 100000 in
theorem k_X12_status (l : Launch) (D : va_G) (cy : Nat → ClassId) (sz : Nat) (h : Nat) (r : Nat → Nat) (v : Nat → Int32) (A : Nat → Nat → Int32)  : Met l yX12_status wsX12_status (rmD 0) (pPre D (TY cy) (mW cy h r v A) sz [.ref h]) (pI D (TY cy) (mW cy h r v A) sz (fun _ : Unit => mW cy h r v A) (fun (r_ : Int32) (_ : Unit) => r_ = (v 3))) 0 0 (va_A (mW cy h r v A) sz) := by
  refine ent_i (cc := cX12_status) (maxL := 1) (by decide +kernel) rfl (Nat.le_of_ble_eq_true rfl) ?_
  intro p_ e_ s_ m_ args_ below_ meth_ c_ A_ Q_ ls B0 ret
  obtain ⟨CF, hA, hKN, hP, hD, hl⟩ := B0
  have hK := hKN.1
  obtain ⟨hx, hb, hml, hown, hts⟩ := id CF
  have hS : va_S A_ s_.heap s_.heap [] := va_S.rf
  have hl : lv_has ls 1 [(0, .ref h)] := hl
  have hf57 := hts (.fieldLink RX12 57 "DrawerCardsModel" "status" "I") (by decide +kernel)
  have hinX12 := show ∀ w ∈ u_ws RX12 TX12 24, w ∈ wsX12_status from by decide +kernel
  refine lv_aload_n hx hb dX12_status_0 rfl (lv_at hl 0 rfl) ?_
  refine va_get (ci := 11) (v := .int (v 3)) (C := RX12) (T := TX12) (N := 24) hx hb hts hinX12 hown hK hP 0 rfl rfl 3 (by decide) hf57 (fun _ h9 => h9) rfl dX12_status_1 ?_
  exact ret _ () _ _ _ _ dX12_status_4 rfl hP hD hS
set_option maxHeartbeats 4000000 in
set_option maxRecDepth 100000 in
theorem k_X12_fault (l : Launch) (D : va_G) (cy : Nat → ClassId) (sz : Nat) (h : Nat) (r : Nat → Nat) (v : Nat → Int32) (A : Nat → Nat → Int32)  : Met l yX12_fault wsX12_fault (rmD 0) (pPre D (TY cy) (mW cy h r v A) sz [.ref h]) (pI D (TY cy) (mW cy h r v A) sz (fun _ : Unit => mW cy h r v A) (fun (r_ : Int32) (_ : Unit) => r_ = (v 11))) 0 0 (va_A (mW cy h r v A) sz) := by
  refine ent_i (cc := cX12_fault) (maxL := 1) (by decide +kernel) rfl (Nat.le_of_ble_eq_true rfl) ?_
  intro p_ e_ s_ m_ args_ below_ meth_ c_ A_ Q_ ls B0 ret
  obtain ⟨CF, hA, hKN, hP, hD, hl⟩ := B0
  have hK := hKN.1
  obtain ⟨hx, hb, hml, hown, hts⟩ := id CF
  have hS : va_S A_ s_.heap s_.heap [] := va_S.rf
  have hl : lv_has ls 1 [(0, .ref h)] := hl
  have hf126 := hts (.fieldLink RX12 126 "DrawerCardsModel" "faultNow" "I") (by decide +kernel)
  have hinX12 := show ∀ w ∈ u_ws RX12 TX12 24, w ∈ wsX12_fault from by decide +kernel
  refine lv_aload_n hx hb dX12_fault_0 rfl (lv_at hl 0 rfl) ?_
  refine va_get (ci := 11) (v := .int (v 11)) (C := RX12) (T := TX12) (N := 24) hx hb hts hinX12 hown hK hP 0 rfl rfl 11 (by decide) hf126 (fun _ h9 => h9) rfl dX12_fault_1 ?_
  exact ret _ () _ _ _ _ dX12_fault_4 rfl hP hD hS
